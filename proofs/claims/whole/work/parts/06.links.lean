def RL : String := "MockParcelsLaw"
def RJ9 : String := "java/lang/Math"
def RJ6 : String := "java/lang/Integer"
def RJ0 : String := "java/lang/String"
def RJ1 : String := "java/lang/StringLatin1"
def RJ3 : String := "jdk/internal/util/Preconditions"
theorem fl_RX11_12 : fx_L RX11 12 11 0 "LMockParcels$Whole;" true := fx_L.mk RX11 TX11 12 tyX11 rfl (by decide) (fx_s3 (List.mem_of_getElem? (i := 15) rfl) rfl) inX11 rfl rfl tyX11_ok nmX11
theorem fl_RX11_16 : fx_L RX11 16 11 1 "LMockParcels$Whole;" true := fx_L.mk RX11 TX11 12 tyX11 rfl (by decide) (fx_s3 (List.mem_of_getElem? (i := 16) rfl) rfl) inX11 rfl rfl tyX11_ok nmX11
theorem fl_RX11_22 : fx_L RX11 22 11 2 "LMockParcels$Past;" true := fx_L.mk RX11 TX11 12 tyX11 rfl (by decide) (fx_s3 (List.mem_of_getElem? (i := 17) rfl) rfl) inX11 rfl rfl tyX11_ok nmX11
theorem fl_RX11_29 : fx_L RX11 29 11 3 "LMockParcels$Quay;" true := fx_L.mk RX11 TX11 12 tyX11 rfl (by decide) (fx_s3 (List.mem_of_getElem? (i := 18) rfl) rfl) inX11 rfl rfl tyX11_ok nmX11
theorem fl_RX11_35 : fx_L RX11 35 10 1 "LMockParcels$Quay;" true := fx_L.mk RX10 TX10 6 tyX10 rfl (by decide) (fx_s2 (List.mem_of_getElem? (i := 74) rfl) rfl) inX10 rfl rfl tyX10_ok nmX10
theorem fl_RX11_41 : fx_L RX11 41 11 4 "LMockParcels$Auction;" true := fx_L.mk RX11 TX11 12 tyX11 rfl (by decide) (fx_s3 (List.mem_of_getElem? (i := 19) rfl) rfl) inX11 rfl rfl tyX11_ok nmX11
theorem fl_RX11_45 : fx_L RX11 45 11 5 "LMockParcels$Auction;" true := fx_L.mk RX11 TX11 12 tyX11 rfl (by decide) (fx_s3 (List.mem_of_getElem? (i := 20) rfl) rfl) inX11 rfl rfl tyX11_ok nmX11
theorem fl_RX11_51 : fx_L RX11 51 11 6 "LMockParcels$Reader;" true := fx_L.mk RX11 TX11 12 tyX11 rfl (by decide) (fx_s3 (List.mem_of_getElem? (i := 21) rfl) rfl) inX11 rfl rfl tyX11_ok nmX11
theorem fl_RX11_60 : fx_L RX11 60 11 7 "LMockParcels$Parser;" true := fx_L.mk RX11 TX11 12 tyX11 rfl (by decide) (fx_s3 (List.mem_of_getElem? (i := 22) rfl) rfl) inX11 rfl rfl tyX11_ok nmX11
theorem fl_RX11_67 : fx_L RX11 67 11 8 "LMockParcels$Sums;" true := fx_L.mk RX11 TX11 12 tyX11 rfl (by decide) (fx_s3 (List.mem_of_getElem? (i := 23) rfl) rfl) inX11 rfl rfl tyX11_ok nmX11
theorem fl_RX11_71 : fx_L RX11 71 11 9 "Z" false := fx_L.mk RX11 TX11 12 tyX11 rfl (by decide) (fx_s3 (List.mem_of_getElem? (i := 24) rfl) rfl) inX11 rfl rfl tyX11_ok nmX11
theorem fl_RX11_75 : fx_L RX11 75 11 10 "I" false := fx_L.mk RX11 TX11 12 tyX11 rfl (by decide) (fx_s3 (List.mem_of_getElem? (i := 25) rfl) rfl) inX11 rfl rfl tyX11_ok nmX11
theorem fl_RX11_79 : fx_L RX11 79 11 11 "I" false := fx_L.mk RX11 TX11 12 tyX11 rfl (by decide) (fx_s3 (List.mem_of_getElem? (i := 26) rfl) rfl) inX11 rfl rfl tyX11_ok nmX11
theorem fl_RX11_82 : fx_L RX11 82 6 6 "I" false := fx_L.mk RX6 TX6 13 tyX6 rfl (by decide) (fx_s1 (List.mem_of_getElem? (i := 110) rfl) rfl) inX6 rfl rfl tyX6_ok nmX6
theorem fl_RX11_92 : fx_L RX11 92 10 0 "LMockParcels$Cast;" true := fx_L.mk RX10 TX10 6 tyX10 rfl (by decide) (fx_s2 (List.mem_of_getElem? (i := 72) rfl) rfl) inX10 rfl rfl tyX10_ok nmX10
theorem fl_RX11_96 : fx_L RX11 96 1 0 "I" false := fx_L.mk RX1 TX1 7 tyX1 rfl (by decide) (fx_s1 (List.mem_of_getElem? (i := 43) rfl) rfl) inX1 rfl rfl tyX1_ok nmX1
theorem fl_RX11_105 : fx_L RX11 105 1 1 "I" false := fx_L.mk RX1 TX1 7 tyX1 rfl (by decide) (fx_s1 (List.mem_of_getElem? (i := 47) rfl) rfl) inX1 rfl rfl tyX1_ok nmX1
theorem fl_RX11_108 : fx_L RX11 108 6 3 "[I" true := fx_L.mk RX6 TX6 13 tyX6 rfl (by decide) (fx_s1 (List.mem_of_getElem? (i := 102) rfl) rfl) inX6 rfl rfl tyX6_ok nmX6
theorem fl_RX11_119 : fx_L RX11 119 6 8 "I" false := fx_L.mk RX6 TX6 13 tyX6 rfl (by decide) (fx_s1 (List.mem_of_getElem? (i := 116) rfl) rfl) inX6 rfl rfl tyX6_ok nmX6
theorem fl_RX11_122 : fx_L RX11 122 6 9 "I" false := fx_L.mk RX6 TX6 13 tyX6 rfl (by decide) (fx_s1 (List.mem_of_getElem? (i := 119) rfl) rfl) inX6 rfl rfl tyX6_ok nmX6
theorem fl_RX11_125 : fx_L RX11 125 1 5 "[I" true := fx_L.mk RX1 TX1 7 tyX1 rfl (by decide) (fx_s1 (List.mem_of_getElem? (i := 61) rfl) rfl) inX1 rfl rfl tyX1_ok nmX1
theorem fl_RX11_128 : fx_L RX11 128 1 4 "[I" true := fx_L.mk RX1 TX1 7 tyX1 rfl (by decide) (fx_s1 (List.mem_of_getElem? (i := 57) rfl) rfl) inX1 rfl rfl tyX1_ok nmX1
theorem fl_RX11_131 : fx_L RX11 131 6 2 "[I" true := fx_L.mk RX6 TX6 13 tyX6 rfl (by decide) (fx_s1 (List.mem_of_getElem? (i := 98) rfl) rfl) inX6 rfl rfl tyX6_ok nmX6
theorem fl_RX11_151 : fx_L RX11 151 0 7 "I" false := fx_L.mk RX0 TX0 9 tyX0 rfl (by decide) (fx_s2 (List.mem_of_getElem? (i := 136) rfl) rfl) inX0 rfl rfl tyX0_ok nmX0
theorem fl_RX11_158 : fx_L RX11 158 6 5 "[I" true := fx_L.mk RX6 TX6 13 tyX6 rfl (by decide) (fx_s1 (List.mem_of_getElem? (i := 108) rfl) rfl) inX6 rfl rfl tyX6_ok nmX6
theorem fl_RX11_165 : fx_L RX11 165 6 4 "[I" true := fx_L.mk RX6 TX6 13 tyX6 rfl (by decide) (fx_s1 (List.mem_of_getElem? (i := 105) rfl) rfl) inX6 rfl rfl tyX6_ok nmX6
theorem fl_RX11_172 : fx_L RX11 172 6 10 "I" false := fx_L.mk RX6 TX6 13 tyX6 rfl (by decide) (fx_s1 (List.mem_of_getElem? (i := 122) rfl) rfl) inX6 rfl rfl tyX6_ok nmX6
theorem fl_RX11_179 : fx_L RX11 179 7 1 "I" false := fx_L.mk RX7 TX7 9 tyX7 rfl (by decide) (fx_s2 (List.mem_of_getElem? (i := 166) rfl) rfl) inX7 rfl rfl tyX7_ok nmX7
theorem fl_RX11_193 : fx_L RX11 193 7 7 "I" false := fx_L.mk RX7 TX7 9 tyX7 rfl (by decide) (fx_s2 (List.mem_of_getElem? (i := 174) rfl) rfl) inX7 rfl rfl tyX7_ok nmX7
theorem fl_RX11_196 : fx_L RX11 196 7 8 "I" false := fx_L.mk RX7 TX7 9 tyX7 rfl (by decide) (fx_s2 (List.mem_of_getElem? (i := 176) rfl) rfl) inX7 rfl rfl tyX7_ok nmX7
theorem fl_RX11_202 : fx_L RX11 202 10 3 "LMockParcels$Law;" true := fx_L.mk RX10 TX10 6 tyX10 rfl (by decide) (fx_s2 (List.mem_of_getElem? (i := 80) rfl) rfl) inX10 rfl rfl tyX10_ok nmX10
theorem fl_RX11_206 : fx_L RX11 206 3 0 "LMockParcels$Law;" true := fx_L.mk RX3 TX3 5 tyX3 rfl (by decide) (fx_s2 (List.mem_of_getElem? (i := 207) rfl) rfl) inX3 rfl rfl tyX3_ok nmX3
theorem fl_RX11_213 : fx_L RX11 213 10 4 "LMockParcels$Plans;" true := fx_L.mk RX10 TX10 6 tyX10 rfl (by decide) (fx_s2 (List.mem_of_getElem? (i := 83) rfl) rfl) inX10 rfl rfl tyX10_ok nmX10
theorem fl_RX11_217 : fx_L RX11 217 3 1 "LMockParcels$Plans;" true := fx_L.mk RX3 TX3 5 tyX3 rfl (by decide) (fx_s2 (List.mem_of_getElem? (i := 209) rfl) rfl) inX3 rfl rfl tyX3_ok nmX3
theorem fl_RX11_230 : fx_L RX11 230 1 2 "[I" true := fx_L.mk RX1 TX1 7 tyX1 rfl (by decide) (fx_s1 (List.mem_of_getElem? (i := 51) rfl) rfl) inX1 rfl rfl tyX1_ok nmX1
theorem fl_RX11_233 : fx_L RX11 233 1 3 "[I" true := fx_L.mk RX1 TX1 7 tyX1 rfl (by decide) (fx_s1 (List.mem_of_getElem? (i := 54) rfl) rfl) inX1 rfl rfl tyX1_ok nmX1
theorem fl_RX11_236 : fx_L RX11 236 6 0 "[I" true := fx_L.mk RX6 TX6 13 tyX6 rfl (by decide) (fx_s1 (List.mem_of_getElem? (i := 92) rfl) rfl) inX6 rfl rfl tyX6_ok nmX6
theorem fl_RX11_239 : fx_L RX11 239 6 1 "[I" true := fx_L.mk RX6 TX6 13 tyX6 rfl (by decide) (fx_s1 (List.mem_of_getElem? (i := 96) rfl) rfl) inX6 rfl rfl tyX6_ok nmX6
theorem fl_RX11_252 : fx_L RX11 252 1 6 "[I" true := fx_L.mk RX1 TX1 7 tyX1 rfl (by decide) (fx_s1 (List.mem_of_getElem? (i := 64) rfl) rfl) inX1 rfl rfl tyX1_ok nmX1
theorem fl_RX11_255 : fx_L RX11 255 5 0 "[I" true := fx_L.mk RX5 TX5 9 tyX5 rfl (by decide) (fx_s1 (List.mem_of_getElem? (i := 199) rfl) rfl) inX5 rfl rfl tyX5_ok nmX5
theorem fl_RX11_258 : fx_L RX11 258 5 1 "[I" true := fx_L.mk RX5 TX5 9 tyX5 rfl (by decide) (fx_s1 (List.mem_of_getElem? (i := 202) rfl) rfl) inX5 rfl rfl tyX5_ok nmX5
theorem fl_RX11_261 : fx_L RX11 261 6 12 "I" false := fx_L.mk RX6 TX6 13 tyX6 rfl (by decide) (fx_s1 (List.mem_of_getElem? (i := 128) rfl) rfl) inX6 rfl rfl tyX6_ok nmX6
theorem fl_RX11_264 : fx_L RX11 264 10 2 "[I" true := fx_L.mk RX10 TX10 6 tyX10 rfl (by decide) (fx_s2 (List.mem_of_getElem? (i := 77) rfl) rfl) inX10 rfl rfl tyX10_ok nmX10
theorem fl_RX11_272 : fx_L RX11 272 0 6 "I" false := fx_L.mk RX0 TX0 9 tyX0 rfl (by decide) (fx_s2 (List.mem_of_getElem? (i := 134) rfl) rfl) inX0 rfl rfl tyX0_ok nmX0
theorem fl_RX11_275 : fx_L RX11 275 0 8 "I" false := fx_L.mk RX0 TX0 9 tyX0 rfl (by decide) (fx_s2 (List.mem_of_getElem? (i := 138) rfl) rfl) inX0 rfl rfl tyX0_ok nmX0
theorem fl_RX11_278 : fx_L RX11 278 6 7 "I" false := fx_L.mk RX6 TX6 13 tyX6 rfl (by decide) (fx_s1 (List.mem_of_getElem? (i := 113) rfl) rfl) inX6 rfl rfl tyX6_ok nmX6
theorem fl_RX11_281 : fx_L RX11 281 6 11 "I" false := fx_L.mk RX6 TX6 13 tyX6 rfl (by decide) (fx_s1 (List.mem_of_getElem? (i := 125) rfl) rfl) inX6 rfl rfl tyX6_ok nmX6
theorem fl_RX11_292 : fx_L RX11 292 10 5 "LMockParcels$Told;" true := fx_L.mk RX10 TX10 6 tyX10 rfl (by decide) (fx_s2 (List.mem_of_getElem? (i := 85) rfl) rfl) inX10 rfl rfl tyX10_ok nmX10
theorem fl_RX11_296 : fx_L RX11 296 9 0 "[I" true := fx_L.mk RX9 TX9 14 tyX9 rfl (by decide) (fx_s2 (List.mem_of_getElem? (i := 4) rfl) rfl) inX9 rfl rfl tyX9_ok nmX9
theorem fl_RX11_305 : fx_L RX11 305 8 1 "[I" true := fx_L.mk RX8 TX8 7 tyX8 rfl (by decide) (fx_s2 (List.mem_of_getElem? (i := 233) rfl) rfl) inX8 rfl rfl tyX8_ok nmX8
theorem fl_RX11_308 : fx_L RX11 308 8 0 "[I" true := fx_L.mk RX8 TX8 7 tyX8 rfl (by decide) (fx_s2 (List.mem_of_getElem? (i := 231) rfl) rfl) inX8 rfl rfl tyX8_ok nmX8
theorem fl_RX11_311 : fx_L RX11 311 9 9 "I" false := fx_L.mk RX9 TX9 14 tyX9 rfl (by decide) (fx_s2 (List.mem_of_getElem? (i := 29) rfl) rfl) inX9 rfl rfl tyX9_ok nmX9
theorem fl_RX11_314 : fx_L RX11 314 9 1 "[I" true := fx_L.mk RX9 TX9 14 tyX9 rfl (by decide) (fx_s2 (List.mem_of_getElem? (i := 7) rfl) rfl) inX9 rfl rfl tyX9_ok nmX9
theorem fl_RX11_321 : fx_L RX11 321 9 10 "I" false := fx_L.mk RX9 TX9 14 tyX9 rfl (by decide) (fx_s2 (List.mem_of_getElem? (i := 31) rfl) rfl) inX9 rfl rfl tyX9_ok nmX9
theorem fl_RX11_327 : fx_L RX11 327 9 2 "[I" true := fx_L.mk RX9 TX9 14 tyX9 rfl (by decide) (fx_s2 (List.mem_of_getElem? (i := 9) rfl) rfl) inX9 rfl rfl tyX9_ok nmX9
theorem fl_RX11_338 : fx_L RX11 338 8 2 "[I" true := fx_L.mk RX8 TX8 7 tyX8 rfl (by decide) (fx_s2 (List.mem_of_getElem? (i := 235) rfl) rfl) inX8 rfl rfl tyX8_ok nmX8
theorem fl_RX11_345 : fx_L RX11 345 9 11 "I" false := fx_L.mk RX9 TX9 14 tyX9 rfl (by decide) (fx_s2 (List.mem_of_getElem? (i := 34) rfl) rfl) inX9 rfl rfl tyX9_ok nmX9
theorem fl_RX11_348 : fx_L RX11 348 9 4 "[I" true := fx_L.mk RX9 TX9 14 tyX9 rfl (by decide) (fx_s2 (List.mem_of_getElem? (i := 14) rfl) rfl) inX9 rfl rfl tyX9_ok nmX9
theorem fl_RX11_351 : fx_L RX11 351 9 5 "[I" true := fx_L.mk RX9 TX9 14 tyX9 rfl (by decide) (fx_s2 (List.mem_of_getElem? (i := 17) rfl) rfl) inX9 rfl rfl tyX9_ok nmX9
theorem fl_RX11_357 : fx_L RX11 357 9 12 "I" false := fx_L.mk RX9 TX9 14 tyX9 rfl (by decide) (fx_s2 (List.mem_of_getElem? (i := 37) rfl) rfl) inX9 rfl rfl tyX9_ok nmX9
theorem fl_RX11_361 : fx_L RX11 361 9 6 "[I" true := fx_L.mk RX9 TX9 14 tyX9 rfl (by decide) (fx_s2 (List.mem_of_getElem? (i := 20) rfl) rfl) inX9 rfl rfl tyX9_ok nmX9
theorem fl_RX11_364 : fx_L RX11 364 9 7 "[I" true := fx_L.mk RX9 TX9 14 tyX9 rfl (by decide) (fx_s2 (List.mem_of_getElem? (i := 23) rfl) rfl) inX9 rfl rfl tyX9_ok nmX9
theorem fl_RX11_373 : fx_L RX11 373 9 13 "I" false := fx_L.mk RX9 TX9 14 tyX9 rfl (by decide) (fx_s2 (List.mem_of_getElem? (i := 40) rfl) rfl) inX9 rfl rfl tyX9_ok nmX9
theorem fl_RX11_376 : fx_L RX11 376 9 8 "[I" true := fx_L.mk RX9 TX9 14 tyX9 rfl (by decide) (fx_s2 (List.mem_of_getElem? (i := 26) rfl) rfl) inX9 rfl rfl tyX9_ok nmX9
theorem fl_RX11_416 : fx_L RX11 416 2 7 "I" false := fx_L.mk RX2 TX2 8 tyX2 rfl (by decide) (fx_s1 (List.mem_of_getElem? (i := 172) rfl) rfl) inX2 rfl rfl tyX2_ok nmX2
theorem fl_RX11_417 : fx_L RX11 417 5 6 "I" false := fx_L.mk RX5 TX5 9 tyX5 rfl (by decide) (fx_s1 (List.mem_of_getElem? (i := 212) rfl) rfl) inX5 rfl rfl tyX5_ok nmX5
theorem fl_RX11_420 : fx_L RX11 420 5 8 "I" false := fx_L.mk RX5 TX5 9 tyX5 rfl (by decide) (fx_s1 (List.mem_of_getElem? (i := 217) rfl) rfl) inX5 rfl rfl tyX5_ok nmX5
theorem fl_RX11_423 : fx_L RX11 423 5 7 "I" false := fx_L.mk RX5 TX5 9 tyX5 rfl (by decide) (fx_s1 (List.mem_of_getElem? (i := 214) rfl) rfl) inX5 rfl rfl tyX5_ok nmX5
theorem fl_RX11_426 : fx_L RX11 426 4 2 "I" false := fx_L.mk RX4 TX4 3 tyX4 rfl (by decide) (fx_s2 (List.mem_of_getElem? (i := 111) rfl) rfl) inX4 rfl rfl tyX4_ok nmX4
theorem fl_RX0_9 : fx_L RX0 9 0 6 "I" false := fx_L.mk RX0 TX0 9 tyX0 rfl (by decide) (fx_s2 (List.mem_of_getElem? (i := 133) rfl) rfl) inX0 rfl rfl tyX0_ok nmX0
theorem fl_RX0_15 : fx_L RX0 15 0 7 "I" false := fx_L.mk RX0 TX0 9 tyX0 rfl (by decide) (fx_s2 (List.mem_of_getElem? (i := 135) rfl) rfl) inX0 rfl rfl tyX0_ok nmX0
theorem fl_RX0_18 : fx_L RX0 18 0 8 "I" false := fx_L.mk RX0 TX0 9 tyX0 rfl (by decide) (fx_s2 (List.mem_of_getElem? (i := 137) rfl) rfl) inX0 rfl rfl tyX0_ok nmX0
theorem fl_RX0_21 : fx_L RX0 21 10 0 "LMockParcels$Cast;" true := fx_L.mk RX10 TX10 6 tyX10 rfl (by decide) (fx_s2 (List.mem_of_getElem? (i := 71) rfl) rfl) inX10 rfl rfl tyX10_ok nmX10
theorem fl_RX0_27 : fx_L RX0 27 0 0 "LMockParcels$Cast;" true := fx_L.mk RX0 TX0 9 tyX0 rfl (by decide) (fx_s2 (List.mem_of_getElem? (i := 127) rfl) rfl) inX0 rfl rfl tyX0_ok nmX0
theorem fl_RX0_28 : fx_L RX0 28 10 3 "LMockParcels$Law;" true := fx_L.mk RX10 TX10 6 tyX10 rfl (by decide) (fx_s2 (List.mem_of_getElem? (i := 78) rfl) rfl) inX10 rfl rfl tyX10_ok nmX10
theorem fl_RX0_32 : fx_L RX0 32 0 1 "LMockParcels$Law;" true := fx_L.mk RX0 TX0 9 tyX0 rfl (by decide) (fx_s2 (List.mem_of_getElem? (i := 128) rfl) rfl) inX0 rfl rfl tyX0_ok nmX0
theorem fl_RX0_33 : fx_L RX0 33 10 4 "LMockParcels$Plans;" true := fx_L.mk RX10 TX10 6 tyX10 rfl (by decide) (fx_s2 (List.mem_of_getElem? (i := 81) rfl) rfl) inX10 rfl rfl tyX10_ok nmX10
theorem fl_RX0_37 : fx_L RX0 37 0 2 "LMockParcels$Plans;" true := fx_L.mk RX0 TX0 9 tyX0 rfl (by decide) (fx_s2 (List.mem_of_getElem? (i := 129) rfl) rfl) inX0 rfl rfl tyX0_ok nmX0
theorem fl_RX0_38 : fx_L RX0 38 10 2 "[I" true := fx_L.mk RX10 TX10 6 tyX10 rfl (by decide) (fx_s2 (List.mem_of_getElem? (i := 76) rfl) rfl) inX10 rfl rfl tyX10_ok nmX10
theorem fl_RX0_42 : fx_L RX0 42 0 3 "[I" true := fx_L.mk RX0 TX0 9 tyX0 rfl (by decide) (fx_s2 (List.mem_of_getElem? (i := 130) rfl) rfl) inX0 rfl rfl tyX0_ok nmX0
theorem fl_RX0_43 : fx_L RX0 43 0 4 "LMockParcels$Quay;" true := fx_L.mk RX0 TX0 9 tyX0 rfl (by decide) (fx_s2 (List.mem_of_getElem? (i := 131) rfl) rfl) inX0 rfl rfl tyX0_ok nmX0
theorem fl_RX0_47 : fx_L RX0 47 0 5 "Z" true := fx_L.mk RX0 TX0 9 tyX0 rfl (by decide) (fx_s2 (List.mem_of_getElem? (i := 132) rfl) rfl) inX0 rfl rfl tyX0_ok nmX0
theorem fl_RX0_60 : fx_L RX0 60 2 4 "[I" true := fx_L.mk RX2 TX2 8 tyX2 rfl (by decide) (fx_s1 (List.mem_of_getElem? (i := 167) rfl) rfl) inX2 rfl rfl tyX2_ok nmX2
theorem fl_RX0_65 : fx_L RX0 65 1 2 "[I" true := fx_L.mk RX1 TX1 7 tyX1 rfl (by decide) (fx_s1 (List.mem_of_getElem? (i := 50) rfl) rfl) inX1 rfl rfl tyX1_ok nmX1
theorem fl_RX0_68 : fx_L RX0 68 1 3 "[I" true := fx_L.mk RX1 TX1 7 tyX1 rfl (by decide) (fx_s1 (List.mem_of_getElem? (i := 53) rfl) rfl) inX1 rfl rfl tyX1_ok nmX1
theorem fl_RX0_71 : fx_L RX0 71 1 4 "[I" true := fx_L.mk RX1 TX1 7 tyX1 rfl (by decide) (fx_s1 (List.mem_of_getElem? (i := 56) rfl) rfl) inX1 rfl rfl tyX1_ok nmX1
theorem fl_RX0_74 : fx_L RX0 74 1 5 "[I" true := fx_L.mk RX1 TX1 7 tyX1 rfl (by decide) (fx_s1 (List.mem_of_getElem? (i := 60) rfl) rfl) inX1 rfl rfl tyX1_ok nmX1
theorem fl_RX0_77 : fx_L RX0 77 1 6 "[I" true := fx_L.mk RX1 TX1 7 tyX1 rfl (by decide) (fx_s1 (List.mem_of_getElem? (i := 63) rfl) rfl) inX1 rfl rfl tyX1_ok nmX1
theorem fl_RX0_80 : fx_L RX0 80 6 3 "[I" true := fx_L.mk RX6 TX6 13 tyX6 rfl (by decide) (fx_s1 (List.mem_of_getElem? (i := 101) rfl) rfl) inX6 rfl rfl tyX6_ok nmX6
theorem fl_RX0_85 : fx_L RX0 85 6 8 "I" false := fx_L.mk RX6 TX6 13 tyX6 rfl (by decide) (fx_s1 (List.mem_of_getElem? (i := 115) rfl) rfl) inX6 rfl rfl tyX6_ok nmX6
theorem fl_RX0_88 : fx_L RX0 88 6 9 "I" false := fx_L.mk RX6 TX6 13 tyX6 rfl (by decide) (fx_s1 (List.mem_of_getElem? (i := 118) rfl) rfl) inX6 rfl rfl tyX6_ok nmX6
theorem fl_RX0_95 : fx_L RX0 95 6 10 "I" false := fx_L.mk RX6 TX6 13 tyX6 rfl (by decide) (fx_s1 (List.mem_of_getElem? (i := 121) rfl) rfl) inX6 rfl rfl tyX6_ok nmX6
theorem fl_RX0_98 : fx_L RX0 98 6 0 "[I" true := fx_L.mk RX6 TX6 13 tyX6 rfl (by decide) (fx_s1 (List.mem_of_getElem? (i := 91) rfl) rfl) inX6 rfl rfl tyX6_ok nmX6
theorem fl_RX0_101 : fx_L RX0 101 1 1 "I" false := fx_L.mk RX1 TX1 7 tyX1 rfl (by decide) (fx_s1 (List.mem_of_getElem? (i := 48) rfl) rfl) inX1 rfl rfl tyX1_ok nmX1
theorem fl_RX0_111 : fx_L RX0 111 5 0 "[I" true := fx_L.mk RX5 TX5 9 tyX5 rfl (by decide) (fx_s1 (List.mem_of_getElem? (i := 198) rfl) rfl) inX5 rfl rfl tyX5_ok nmX5
theorem fl_RX0_137 : fx_L RX0 137 6 7 "I" false := fx_L.mk RX6 TX6 13 tyX6 rfl (by decide) (fx_s1 (List.mem_of_getElem? (i := 112) rfl) rfl) inX6 rfl rfl tyX6_ok nmX6
theorem fl_RX0_147 : fx_L RX0 147 6 1 "[I" true := fx_L.mk RX6 TX6 13 tyX6 rfl (by decide) (fx_s1 (List.mem_of_getElem? (i := 95) rfl) rfl) inX6 rfl rfl tyX6_ok nmX6
theorem fl_RX0_150 : fx_L RX0 150 6 4 "[I" true := fx_L.mk RX6 TX6 13 tyX6 rfl (by decide) (fx_s1 (List.mem_of_getElem? (i := 104) rfl) rfl) inX6 rfl rfl tyX6_ok nmX6
theorem fl_RX0_153 : fx_L RX0 153 6 2 "[I" true := fx_L.mk RX6 TX6 13 tyX6 rfl (by decide) (fx_s1 (List.mem_of_getElem? (i := 99) rfl) rfl) inX6 rfl rfl tyX6_ok nmX6
theorem fl_RX0_156 : fx_L RX0 156 6 5 "[I" true := fx_L.mk RX6 TX6 13 tyX6 rfl (by decide) (fx_s1 (List.mem_of_getElem? (i := 107) rfl) rfl) inX6 rfl rfl tyX6_ok nmX6
theorem fl_RX0_168 : fx_L RX0 168 5 8 "I" false := fx_L.mk RX5 TX5 9 tyX5 rfl (by decide) (fx_s1 (List.mem_of_getElem? (i := 216) rfl) rfl) inX5 rfl rfl tyX5_ok nmX5
theorem fl_RX0_171 : fx_L RX0 171 5 2 "[I" true := fx_L.mk RX5 TX5 9 tyX5 rfl (by decide) (fx_s1 (List.mem_of_getElem? (i := 204) rfl) rfl) inX5 rfl rfl tyX5_ok nmX5
theorem fl_RX0_174 : fx_L RX0 174 5 3 "[I" true := fx_L.mk RX5 TX5 9 tyX5 rfl (by decide) (fx_s1 (List.mem_of_getElem? (i := 206) rfl) rfl) inX5 rfl rfl tyX5_ok nmX5
theorem fl_RX0_177 : fx_L RX0 177 5 4 "[I" true := fx_L.mk RX5 TX5 9 tyX5 rfl (by decide) (fx_s1 (List.mem_of_getElem? (i := 208) rfl) rfl) inX5 rfl rfl tyX5_ok nmX5
theorem fl_RX0_180 : fx_L RX0 180 5 5 "[I" true := fx_L.mk RX5 TX5 9 tyX5 rfl (by decide) (fx_s1 (List.mem_of_getElem? (i := 210) rfl) rfl) inX5 rfl rfl tyX5_ok nmX5
theorem fl_RX0_198 : fx_L RX0 198 6 11 "I" false := fx_L.mk RX6 TX6 13 tyX6 rfl (by decide) (fx_s1 (List.mem_of_getElem? (i := 124) rfl) rfl) inX6 rfl rfl tyX6_ok nmX6
theorem fl_RX0_204 : fx_L RX0 204 6 12 "I" false := fx_L.mk RX6 TX6 13 tyX6 rfl (by decide) (fx_s1 (List.mem_of_getElem? (i := 127) rfl) rfl) inX6 rfl rfl tyX6_ok nmX6
theorem fl_RX1_9 : fx_L RX1 9 1 0 "I" false := fx_L.mk RX1 TX1 7 tyX1 rfl (by decide) (fx_s1 (List.mem_of_getElem? (i := 41) rfl) rfl) inX1 rfl rfl tyX1_ok nmX1
theorem fl_RX1_15 : fx_L RX1 15 1 1 "I" false := fx_L.mk RX1 TX1 7 tyX1 rfl (by decide) (fx_s1 (List.mem_of_getElem? (i := 45) rfl) rfl) inX1 rfl rfl tyX1_ok nmX1
theorem fl_RX1_18 : fx_L RX1 18 1 2 "[I" true := fx_L.mk RX1 TX1 7 tyX1 rfl (by decide) (fx_s1 (List.mem_of_getElem? (i := 49) rfl) rfl) inX1 rfl rfl tyX1_ok nmX1
theorem fl_RX1_22 : fx_L RX1 22 1 3 "[I" true := fx_L.mk RX1 TX1 7 tyX1 rfl (by decide) (fx_s1 (List.mem_of_getElem? (i := 52) rfl) rfl) inX1 rfl rfl tyX1_ok nmX1
theorem fl_RX1_25 : fx_L RX1 25 1 4 "[I" true := fx_L.mk RX1 TX1 7 tyX1 rfl (by decide) (fx_s1 (List.mem_of_getElem? (i := 55) rfl) rfl) inX1 rfl rfl tyX1_ok nmX1
theorem fl_RX1_28 : fx_L RX1 28 1 5 "[I" true := fx_L.mk RX1 TX1 7 tyX1 rfl (by decide) (fx_s1 (List.mem_of_getElem? (i := 59) rfl) rfl) inX1 rfl rfl tyX1_ok nmX1
theorem fl_RX1_31 : fx_L RX1 31 1 6 "[I" true := fx_L.mk RX1 TX1 7 tyX1 rfl (by decide) (fx_s1 (List.mem_of_getElem? (i := 62) rfl) rfl) inX1 rfl rfl tyX1_ok nmX1
theorem fl_RX2_9 : fx_L RX2 9 2 0 "[I" true := fx_L.mk RX2 TX2 8 tyX2 rfl (by decide) (fx_s1 (List.mem_of_getElem? (i := 162) rfl) rfl) inX2 rfl rfl tyX2_ok nmX2
theorem fl_RX2_15 : fx_L RX2 15 2 1 "[I" true := fx_L.mk RX2 TX2 8 tyX2 rfl (by decide) (fx_s1 (List.mem_of_getElem? (i := 163) rfl) rfl) inX2 rfl rfl tyX2_ok nmX2
theorem fl_RX2_18 : fx_L RX2 18 2 2 "[I" true := fx_L.mk RX2 TX2 8 tyX2 rfl (by decide) (fx_s1 (List.mem_of_getElem? (i := 164) rfl) rfl) inX2 rfl rfl tyX2_ok nmX2
theorem fl_RX2_21 : fx_L RX2 21 2 3 "[I" true := fx_L.mk RX2 TX2 8 tyX2 rfl (by decide) (fx_s1 (List.mem_of_getElem? (i := 165) rfl) rfl) inX2 rfl rfl tyX2_ok nmX2
theorem fl_RX2_24 : fx_L RX2 24 2 4 "[I" true := fx_L.mk RX2 TX2 8 tyX2 rfl (by decide) (fx_s1 (List.mem_of_getElem? (i := 166) rfl) rfl) inX2 rfl rfl tyX2_ok nmX2
theorem fl_RX2_27 : fx_L RX2 27 2 5 "[I" true := fx_L.mk RX2 TX2 8 tyX2 rfl (by decide) (fx_s1 (List.mem_of_getElem? (i := 168) rfl) rfl) inX2 rfl rfl tyX2_ok nmX2
theorem fl_RX2_30 : fx_L RX2 30 2 6 "I" false := fx_L.mk RX2 TX2 8 tyX2 rfl (by decide) (fx_s1 (List.mem_of_getElem? (i := 169) rfl) rfl) inX2 rfl rfl tyX2_ok nmX2
theorem fl_RX2_34 : fx_L RX2 34 2 7 "I" false := fx_L.mk RX2 TX2 8 tyX2 rfl (by decide) (fx_s1 (List.mem_of_getElem? (i := 171) rfl) rfl) inX2 rfl rfl tyX2_ok nmX2
theorem fl_RX3_12 : fx_L RX3 12 3 0 "LMockParcels$Law;" true := fx_L.mk RX3 TX3 5 tyX3 rfl (by decide) (fx_s2 (List.mem_of_getElem? (i := 206) rfl) rfl) inX3 rfl rfl tyX3_ok nmX3
theorem fl_RX3_21 : fx_L RX3 21 3 1 "LMockParcels$Plans;" true := fx_L.mk RX3 TX3 5 tyX3 rfl (by decide) (fx_s2 (List.mem_of_getElem? (i := 208) rfl) rfl) inX3 rfl rfl tyX3_ok nmX3
theorem fl_RX3_25 : fx_L RX3 25 3 3 "I" false := fx_L.mk RX3 TX3 5 tyX3 rfl (by decide) (fx_s2 (List.mem_of_getElem? (i := 211) rfl) rfl) inX3 rfl rfl tyX3_ok nmX3
theorem fl_RX3_29 : fx_L RX3 29 3 4 "I" false := fx_L.mk RX3 TX3 5 tyX3 rfl (by decide) (fx_s2 (List.mem_of_getElem? (i := 212) rfl) rfl) inX3 rfl rfl tyX3_ok nmX3
theorem fl_RX3_32 : fx_L RX3 32 3 2 "LMockParcels$Reader;" true := fx_L.mk RX3 TX3 5 tyX3 rfl (by decide) (fx_s2 (List.mem_of_getElem? (i := 210) rfl) rfl) inX3 rfl rfl tyX3_ok nmX3
theorem fl_RX3_36 : fx_L RX3 36 1 0 "I" false := fx_L.mk RX1 TX1 7 tyX1 rfl (by decide) (fx_s1 (List.mem_of_getElem? (i := 42) rfl) rfl) inX1 rfl rfl tyX1_ok nmX1
theorem fl_RX3_39 : fx_L RX3 39 1 1 "I" false := fx_L.mk RX1 TX1 7 tyX1 rfl (by decide) (fx_s1 (List.mem_of_getElem? (i := 46) rfl) rfl) inX1 rfl rfl tyX1_ok nmX1
theorem fl_RX3_44 : fx_L RX3 44 7 6 "I" false := fx_L.mk RX7 TX7 9 tyX7 rfl (by decide) (fx_s2 (List.mem_of_getElem? (i := 172) rfl) rfl) inX7 rfl rfl tyX7_ok nmX7
theorem fl_RX3_106 : fx_L RX3 106 2 6 "I" false := fx_L.mk RX2 TX2 8 tyX2 rfl (by decide) (fx_s1 (List.mem_of_getElem? (i := 170) rfl) rfl) inX2 rfl rfl tyX2_ok nmX2
theorem fl_RX4_11 : fx_L RX4 11 4 0 "[LMockParcels$Quay;" true := fx_L.mk RX4 TX4 3 tyX4 rfl (by decide) (fx_s2 (List.mem_of_getElem? (i := 108) rfl) rfl) inX4 rfl rfl tyX4_ok nmX4
theorem fl_RX4_17 : fx_L RX4 17 4 1 "I" false := fx_L.mk RX4 TX4 3 tyX4 rfl (by decide) (fx_s2 (List.mem_of_getElem? (i := 109) rfl) rfl) inX4 rfl rfl tyX4_ok nmX4
theorem fl_RX4_21 : fx_L RX4 21 4 2 "I" false := fx_L.mk RX4 TX4 3 tyX4 rfl (by decide) (fx_s2 (List.mem_of_getElem? (i := 110) rfl) rfl) inX4 rfl rfl tyX4_ok nmX4
theorem fl_RX5_9 : fx_L RX5 9 5 0 "[I" true := fx_L.mk RX5 TX5 9 tyX5 rfl (by decide) (fx_s1 (List.mem_of_getElem? (i := 197) rfl) rfl) inX5 rfl rfl tyX5_ok nmX5
theorem fl_RX5_15 : fx_L RX5 15 5 1 "[I" true := fx_L.mk RX5 TX5 9 tyX5 rfl (by decide) (fx_s1 (List.mem_of_getElem? (i := 200) rfl) rfl) inX5 rfl rfl tyX5_ok nmX5
theorem fl_RX5_18 : fx_L RX5 18 5 2 "[I" true := fx_L.mk RX5 TX5 9 tyX5 rfl (by decide) (fx_s1 (List.mem_of_getElem? (i := 203) rfl) rfl) inX5 rfl rfl tyX5_ok nmX5
theorem fl_RX5_21 : fx_L RX5 21 5 3 "[I" true := fx_L.mk RX5 TX5 9 tyX5 rfl (by decide) (fx_s1 (List.mem_of_getElem? (i := 205) rfl) rfl) inX5 rfl rfl tyX5_ok nmX5
theorem fl_RX5_24 : fx_L RX5 24 5 4 "[I" true := fx_L.mk RX5 TX5 9 tyX5 rfl (by decide) (fx_s1 (List.mem_of_getElem? (i := 207) rfl) rfl) inX5 rfl rfl tyX5_ok nmX5
theorem fl_RX5_27 : fx_L RX5 27 5 5 "[I" true := fx_L.mk RX5 TX5 9 tyX5 rfl (by decide) (fx_s1 (List.mem_of_getElem? (i := 209) rfl) rfl) inX5 rfl rfl tyX5_ok nmX5
theorem fl_RX5_30 : fx_L RX5 30 5 6 "I" false := fx_L.mk RX5 TX5 9 tyX5 rfl (by decide) (fx_s1 (List.mem_of_getElem? (i := 211) rfl) rfl) inX5 rfl rfl tyX5_ok nmX5
theorem fl_RX5_34 : fx_L RX5 34 5 7 "I" false := fx_L.mk RX5 TX5 9 tyX5 rfl (by decide) (fx_s1 (List.mem_of_getElem? (i := 213) rfl) rfl) inX5 rfl rfl tyX5_ok nmX5
theorem fl_RX5_37 : fx_L RX5 37 5 8 "I" false := fx_L.mk RX5 TX5 9 tyX5 rfl (by decide) (fx_s1 (List.mem_of_getElem? (i := 215) rfl) rfl) inX5 rfl rfl tyX5_ok nmX5
theorem fl_RX6_9 : fx_L RX6 9 6 0 "[I" true := fx_L.mk RX6 TX6 13 tyX6 rfl (by decide) (fx_s1 (List.mem_of_getElem? (i := 90) rfl) rfl) inX6 rfl rfl tyX6_ok nmX6
theorem fl_RX6_15 : fx_L RX6 15 6 1 "[I" true := fx_L.mk RX6 TX6 13 tyX6 rfl (by decide) (fx_s1 (List.mem_of_getElem? (i := 94) rfl) rfl) inX6 rfl rfl tyX6_ok nmX6
theorem fl_RX6_18 : fx_L RX6 18 6 2 "[I" true := fx_L.mk RX6 TX6 13 tyX6 rfl (by decide) (fx_s1 (List.mem_of_getElem? (i := 97) rfl) rfl) inX6 rfl rfl tyX6_ok nmX6
theorem fl_RX6_21 : fx_L RX6 21 6 3 "[I" true := fx_L.mk RX6 TX6 13 tyX6 rfl (by decide) (fx_s1 (List.mem_of_getElem? (i := 100) rfl) rfl) inX6 rfl rfl tyX6_ok nmX6
theorem fl_RX6_24 : fx_L RX6 24 6 4 "[I" true := fx_L.mk RX6 TX6 13 tyX6 rfl (by decide) (fx_s1 (List.mem_of_getElem? (i := 103) rfl) rfl) inX6 rfl rfl tyX6_ok nmX6
theorem fl_RX6_27 : fx_L RX6 27 6 5 "[I" true := fx_L.mk RX6 TX6 13 tyX6 rfl (by decide) (fx_s1 (List.mem_of_getElem? (i := 106) rfl) rfl) inX6 rfl rfl tyX6_ok nmX6
theorem fl_RX6_30 : fx_L RX6 30 6 6 "I" false := fx_L.mk RX6 TX6 13 tyX6 rfl (by decide) (fx_s1 (List.mem_of_getElem? (i := 109) rfl) rfl) inX6 rfl rfl tyX6_ok nmX6
theorem fl_RX6_34 : fx_L RX6 34 6 7 "I" false := fx_L.mk RX6 TX6 13 tyX6 rfl (by decide) (fx_s1 (List.mem_of_getElem? (i := 111) rfl) rfl) inX6 rfl rfl tyX6_ok nmX6
theorem fl_RX6_37 : fx_L RX6 37 6 8 "I" false := fx_L.mk RX6 TX6 13 tyX6 rfl (by decide) (fx_s1 (List.mem_of_getElem? (i := 114) rfl) rfl) inX6 rfl rfl tyX6_ok nmX6
theorem fl_RX6_40 : fx_L RX6 40 6 9 "I" false := fx_L.mk RX6 TX6 13 tyX6 rfl (by decide) (fx_s1 (List.mem_of_getElem? (i := 117) rfl) rfl) inX6 rfl rfl tyX6_ok nmX6
theorem fl_RX6_43 : fx_L RX6 43 6 10 "I" false := fx_L.mk RX6 TX6 13 tyX6 rfl (by decide) (fx_s1 (List.mem_of_getElem? (i := 120) rfl) rfl) inX6 rfl rfl tyX6_ok nmX6
theorem fl_RX6_46 : fx_L RX6 46 6 11 "I" false := fx_L.mk RX6 TX6 13 tyX6 rfl (by decide) (fx_s1 (List.mem_of_getElem? (i := 123) rfl) rfl) inX6 rfl rfl tyX6_ok nmX6
theorem fl_RX6_49 : fx_L RX6 49 6 12 "I" false := fx_L.mk RX6 TX6 13 tyX6 rfl (by decide) (fx_s1 (List.mem_of_getElem? (i := 126) rfl) rfl) inX6 rfl rfl tyX6_ok nmX6
theorem fl_RX7_9 : fx_L RX7 9 7 0 "[I" true := fx_L.mk RX7 TX7 9 tyX7 rfl (by decide) (fx_s2 (List.mem_of_getElem? (i := 164) rfl) rfl) inX7 rfl rfl tyX7_ok nmX7
theorem fl_RX7_15 : fx_L RX7 15 7 1 "I" false := fx_L.mk RX7 TX7 9 tyX7 rfl (by decide) (fx_s2 (List.mem_of_getElem? (i := 165) rfl) rfl) inX7 rfl rfl tyX7_ok nmX7
theorem fl_RX7_19 : fx_L RX7 19 7 2 "[I" true := fx_L.mk RX7 TX7 9 tyX7 rfl (by decide) (fx_s2 (List.mem_of_getElem? (i := 167) rfl) rfl) inX7 rfl rfl tyX7_ok nmX7
theorem fl_RX7_22 : fx_L RX7 22 7 3 "[I" true := fx_L.mk RX7 TX7 9 tyX7 rfl (by decide) (fx_s2 (List.mem_of_getElem? (i := 168) rfl) rfl) inX7 rfl rfl tyX7_ok nmX7
theorem fl_RX7_25 : fx_L RX7 25 7 4 "I" false := fx_L.mk RX7 TX7 9 tyX7 rfl (by decide) (fx_s2 (List.mem_of_getElem? (i := 169) rfl) rfl) inX7 rfl rfl tyX7_ok nmX7
theorem fl_RX7_28 : fx_L RX7 28 7 5 "I" false := fx_L.mk RX7 TX7 9 tyX7 rfl (by decide) (fx_s2 (List.mem_of_getElem? (i := 170) rfl) rfl) inX7 rfl rfl tyX7_ok nmX7
theorem fl_RX7_31 : fx_L RX7 31 7 6 "I" false := fx_L.mk RX7 TX7 9 tyX7 rfl (by decide) (fx_s2 (List.mem_of_getElem? (i := 171) rfl) rfl) inX7 rfl rfl tyX7_ok nmX7
theorem fl_RX7_34 : fx_L RX7 34 7 7 "I" false := fx_L.mk RX7 TX7 9 tyX7 rfl (by decide) (fx_s2 (List.mem_of_getElem? (i := 173) rfl) rfl) inX7 rfl rfl tyX7_ok nmX7
theorem fl_RX7_37 : fx_L RX7 37 7 8 "I" false := fx_L.mk RX7 TX7 9 tyX7 rfl (by decide) (fx_s2 (List.mem_of_getElem? (i := 175) rfl) rfl) inX7 rfl rfl tyX7_ok nmX7
theorem fl_RX8_11 : fx_L RX8 11 8 0 "[I" true := fx_L.mk RX8 TX8 7 tyX8 rfl (by decide) (fx_s2 (List.mem_of_getElem? (i := 230) rfl) rfl) inX8 rfl rfl tyX8_ok nmX8
theorem fl_RX8_15 : fx_L RX8 15 8 1 "[I" true := fx_L.mk RX8 TX8 7 tyX8 rfl (by decide) (fx_s2 (List.mem_of_getElem? (i := 232) rfl) rfl) inX8 rfl rfl tyX8_ok nmX8
theorem fl_RX8_18 : fx_L RX8 18 8 2 "[I" true := fx_L.mk RX8 TX8 7 tyX8 rfl (by decide) (fx_s2 (List.mem_of_getElem? (i := 234) rfl) rfl) inX8 rfl rfl tyX8_ok nmX8
theorem fl_RX8_21 : fx_L RX8 21 8 3 "[I" true := fx_L.mk RX8 TX8 7 tyX8 rfl (by decide) (fx_s2 (List.mem_of_getElem? (i := 236) rfl) rfl) inX8 rfl rfl tyX8_ok nmX8
theorem fl_RX8_24 : fx_L RX8 24 8 4 "[I" true := fx_L.mk RX8 TX8 7 tyX8 rfl (by decide) (fx_s2 (List.mem_of_getElem? (i := 237) rfl) rfl) inX8 rfl rfl tyX8_ok nmX8
theorem fl_RX8_27 : fx_L RX8 27 8 5 "[I" true := fx_L.mk RX8 TX8 7 tyX8 rfl (by decide) (fx_s2 (List.mem_of_getElem? (i := 238) rfl) rfl) inX8 rfl rfl tyX8_ok nmX8
theorem fl_RX8_30 : fx_L RX8 30 8 6 "[I" true := fx_L.mk RX8 TX8 7 tyX8 rfl (by decide) (fx_s2 (List.mem_of_getElem? (i := 239) rfl) rfl) inX8 rfl rfl tyX8_ok nmX8
theorem fl_RX8_45 : fx_L RX8 45 9 9 "I" false := fx_L.mk RX9 TX9 14 tyX9 rfl (by decide) (fx_s2 (List.mem_of_getElem? (i := 28) rfl) rfl) inX9 rfl rfl tyX9_ok nmX9
theorem fl_RX8_54 : fx_L RX8 54 9 1 "[I" true := fx_L.mk RX9 TX9 14 tyX9 rfl (by decide) (fx_s2 (List.mem_of_getElem? (i := 6) rfl) rfl) inX9 rfl rfl tyX9_ok nmX9
theorem fl_RX8_69 : fx_L RX8 69 9 3 "[I" true := fx_L.mk RX9 TX9 14 tyX9 rfl (by decide) (fx_s2 (List.mem_of_getElem? (i := 11) rfl) rfl) inX9 rfl rfl tyX9_ok nmX9
theorem fl_RX8_91 : fx_L RX8 91 5 1 "[I" true := fx_L.mk RX5 TX5 9 tyX5 rfl (by decide) (fx_s1 (List.mem_of_getElem? (i := 201) rfl) rfl) inX5 rfl rfl tyX5_ok nmX5
theorem fl_RX8_96 : fx_L RX8 96 9 11 "I" false := fx_L.mk RX9 TX9 14 tyX9 rfl (by decide) (fx_s2 (List.mem_of_getElem? (i := 33) rfl) rfl) inX9 rfl rfl tyX9_ok nmX9
theorem fl_RX8_103 : fx_L RX8 103 9 4 "[I" true := fx_L.mk RX9 TX9 14 tyX9 rfl (by decide) (fx_s2 (List.mem_of_getElem? (i := 13) rfl) rfl) inX9 rfl rfl tyX9_ok nmX9
theorem fl_RX8_111 : fx_L RX8 111 9 5 "[I" true := fx_L.mk RX9 TX9 14 tyX9 rfl (by decide) (fx_s2 (List.mem_of_getElem? (i := 16) rfl) rfl) inX9 rfl rfl tyX9_ok nmX9
theorem fl_RX8_114 : fx_L RX8 114 9 12 "I" false := fx_L.mk RX9 TX9 14 tyX9 rfl (by decide) (fx_s2 (List.mem_of_getElem? (i := 36) rfl) rfl) inX9 rfl rfl tyX9_ok nmX9
theorem fl_RX8_117 : fx_L RX8 117 9 7 "[I" true := fx_L.mk RX9 TX9 14 tyX9 rfl (by decide) (fx_s2 (List.mem_of_getElem? (i := 22) rfl) rfl) inX9 rfl rfl tyX9_ok nmX9
theorem fl_RX8_120 : fx_L RX8 120 9 6 "[I" true := fx_L.mk RX9 TX9 14 tyX9 rfl (by decide) (fx_s2 (List.mem_of_getElem? (i := 19) rfl) rfl) inX9 rfl rfl tyX9_ok nmX9
theorem fl_RX8_127 : fx_L RX8 127 9 13 "I" false := fx_L.mk RX9 TX9 14 tyX9 rfl (by decide) (fx_s2 (List.mem_of_getElem? (i := 39) rfl) rfl) inX9 rfl rfl tyX9_ok nmX9
theorem fl_RX8_130 : fx_L RX8 130 9 8 "[I" true := fx_L.mk RX9 TX9 14 tyX9 rfl (by decide) (fx_s2 (List.mem_of_getElem? (i := 25) rfl) rfl) inX9 rfl rfl tyX9_ok nmX9
theorem fl_RX8_149 : fx_L RX8 149 1 0 "I" false := fx_L.mk RX1 TX1 7 tyX1 rfl (by decide) (fx_s1 (List.mem_of_getElem? (i := 44) rfl) rfl) inX1 rfl rfl tyX1_ok nmX1
theorem fl_RX8_154 : fx_L RX8 154 6 0 "[I" true := fx_L.mk RX6 TX6 13 tyX6 rfl (by decide) (fx_s1 (List.mem_of_getElem? (i := 93) rfl) rfl) inX6 rfl rfl tyX6_ok nmX6
theorem fl_RX8_166 : fx_L RX8 166 1 4 "[I" true := fx_L.mk RX1 TX1 7 tyX1 rfl (by decide) (fx_s1 (List.mem_of_getElem? (i := 58) rfl) rfl) inX1 rfl rfl tyX1_ok nmX1
theorem fl_RX9_9 : fx_L RX9 9 9 0 "[I" true := fx_L.mk RX9 TX9 14 tyX9 rfl (by decide) (fx_s2 (List.mem_of_getElem? (i := 3) rfl) rfl) inX9 rfl rfl tyX9_ok nmX9
theorem fl_RX9_15 : fx_L RX9 15 9 1 "[I" true := fx_L.mk RX9 TX9 14 tyX9 rfl (by decide) (fx_s2 (List.mem_of_getElem? (i := 5) rfl) rfl) inX9 rfl rfl tyX9_ok nmX9
theorem fl_RX9_18 : fx_L RX9 18 9 2 "[I" true := fx_L.mk RX9 TX9 14 tyX9 rfl (by decide) (fx_s2 (List.mem_of_getElem? (i := 8) rfl) rfl) inX9 rfl rfl tyX9_ok nmX9
theorem fl_RX9_21 : fx_L RX9 21 9 3 "[I" true := fx_L.mk RX9 TX9 14 tyX9 rfl (by decide) (fx_s2 (List.mem_of_getElem? (i := 10) rfl) rfl) inX9 rfl rfl tyX9_ok nmX9
theorem fl_RX9_24 : fx_L RX9 24 9 4 "[I" true := fx_L.mk RX9 TX9 14 tyX9 rfl (by decide) (fx_s2 (List.mem_of_getElem? (i := 12) rfl) rfl) inX9 rfl rfl tyX9_ok nmX9
theorem fl_RX9_27 : fx_L RX9 27 9 5 "[I" true := fx_L.mk RX9 TX9 14 tyX9 rfl (by decide) (fx_s2 (List.mem_of_getElem? (i := 15) rfl) rfl) inX9 rfl rfl tyX9_ok nmX9
theorem fl_RX9_30 : fx_L RX9 30 9 6 "[I" true := fx_L.mk RX9 TX9 14 tyX9 rfl (by decide) (fx_s2 (List.mem_of_getElem? (i := 18) rfl) rfl) inX9 rfl rfl tyX9_ok nmX9
theorem fl_RX9_33 : fx_L RX9 33 9 7 "[I" true := fx_L.mk RX9 TX9 14 tyX9 rfl (by decide) (fx_s2 (List.mem_of_getElem? (i := 21) rfl) rfl) inX9 rfl rfl tyX9_ok nmX9
theorem fl_RX9_36 : fx_L RX9 36 9 8 "[I" true := fx_L.mk RX9 TX9 14 tyX9 rfl (by decide) (fx_s2 (List.mem_of_getElem? (i := 24) rfl) rfl) inX9 rfl rfl tyX9_ok nmX9
theorem fl_RX9_39 : fx_L RX9 39 9 9 "I" false := fx_L.mk RX9 TX9 14 tyX9 rfl (by decide) (fx_s2 (List.mem_of_getElem? (i := 27) rfl) rfl) inX9 rfl rfl tyX9_ok nmX9
theorem fl_RX9_43 : fx_L RX9 43 9 10 "I" false := fx_L.mk RX9 TX9 14 tyX9 rfl (by decide) (fx_s2 (List.mem_of_getElem? (i := 30) rfl) rfl) inX9 rfl rfl tyX9_ok nmX9
theorem fl_RX9_46 : fx_L RX9 46 9 11 "I" false := fx_L.mk RX9 TX9 14 tyX9 rfl (by decide) (fx_s2 (List.mem_of_getElem? (i := 32) rfl) rfl) inX9 rfl rfl tyX9_ok nmX9
theorem fl_RX9_49 : fx_L RX9 49 9 12 "I" false := fx_L.mk RX9 TX9 14 tyX9 rfl (by decide) (fx_s2 (List.mem_of_getElem? (i := 35) rfl) rfl) inX9 rfl rfl tyX9_ok nmX9
theorem fl_RX9_52 : fx_L RX9 52 9 13 "I" false := fx_L.mk RX9 TX9 14 tyX9 rfl (by decide) (fx_s2 (List.mem_of_getElem? (i := 38) rfl) rfl) inX9 rfl rfl tyX9_ok nmX9
theorem fl_RX10_12 : fx_L RX10 12 10 0 "LMockParcels$Cast;" true := fx_L.mk RX10 TX10 6 tyX10 rfl (by decide) (fx_s2 (List.mem_of_getElem? (i := 70) rfl) rfl) inX10 rfl rfl tyX10_ok nmX10
theorem fl_RX10_21 : fx_L RX10 21 10 1 "LMockParcels$Quay;" true := fx_L.mk RX10 TX10 6 tyX10 rfl (by decide) (fx_s2 (List.mem_of_getElem? (i := 73) rfl) rfl) inX10 rfl rfl tyX10_ok nmX10
theorem fl_RX10_25 : fx_L RX10 25 10 2 "[I" true := fx_L.mk RX10 TX10 6 tyX10 rfl (by decide) (fx_s2 (List.mem_of_getElem? (i := 75) rfl) rfl) inX10 rfl rfl tyX10_ok nmX10
theorem fl_RX10_32 : fx_L RX10 32 10 3 "LMockParcels$Law;" true := fx_L.mk RX10 TX10 6 tyX10 rfl (by decide) (fx_s2 (List.mem_of_getElem? (i := 79) rfl) rfl) inX10 rfl rfl tyX10_ok nmX10
theorem fl_RX10_39 : fx_L RX10 39 10 4 "LMockParcels$Plans;" true := fx_L.mk RX10 TX10 6 tyX10 rfl (by decide) (fx_s2 (List.mem_of_getElem? (i := 82) rfl) rfl) inX10 rfl rfl tyX10_ok nmX10
theorem fl_RX10_46 : fx_L RX10 46 10 5 "LMockParcels$Told;" true := fx_L.mk RX10 TX10 6 tyX10 rfl (by decide) (fx_s2 (List.mem_of_getElem? (i := 84) rfl) rfl) inX10 rfl rfl tyX10_ok nmX10
theorem fl_RX12_7 : fx_L RX12 7 12 1 "[I" true := fx_L.mk RX12 TX12 72 tyX12 rfl (by decide) (fx_s6 (List.mem_of_getElem? (i := 89) rfl) rfl) inX12 rfl rfl tyX12_ok nmX12
theorem fl_RX12_13 : fx_L RX12 13 12 2 "[I" true := fx_L.mk RX12 TX12 72 tyX12 rfl (by decide) (fx_s6 (List.mem_of_getElem? (i := 90) rfl) rfl) inX12 rfl rfl tyX12_ok nmX12
theorem fl_RX12_16 : fx_L RX12 16 12 4 "[I" true := fx_L.mk RX12 TX12 72 tyX12 rfl (by decide) (fx_s6 (List.mem_of_getElem? (i := 92) rfl) rfl) inX12 rfl rfl tyX12_ok nmX12
theorem fl_RX12_19 : fx_L RX12 19 12 8 "[I" true := fx_L.mk RX12 TX12 72 tyX12 rfl (by decide) (fx_s6 (List.mem_of_getElem? (i := 96) rfl) rfl) inX12 rfl rfl tyX12_ok nmX12
theorem fl_RX12_22 : fx_L RX12 22 12 9 "[I" true := fx_L.mk RX12 TX12 72 tyX12 rfl (by decide) (fx_s6 (List.mem_of_getElem? (i := 97) rfl) rfl) inX12 rfl rfl tyX12_ok nmX12
theorem fl_RX12_25 : fx_L RX12 25 12 10 "[I" true := fx_L.mk RX12 TX12 72 tyX12 rfl (by decide) (fx_s6 (List.mem_of_getElem? (i := 98) rfl) rfl) inX12 rfl rfl tyX12_ok nmX12
theorem fl_RX12_28 : fx_L RX12 28 12 11 "[I" true := fx_L.mk RX12 TX12 72 tyX12 rfl (by decide) (fx_s6 (List.mem_of_getElem? (i := 99) rfl) rfl) inX12 rfl rfl tyX12_ok nmX12
theorem fl_RX12_31 : fx_L RX12 31 12 12 "[I" true := fx_L.mk RX12 TX12 72 tyX12 rfl (by decide) (fx_s6 (List.mem_of_getElem? (i := 100) rfl) rfl) inX12 rfl rfl tyX12_ok nmX12
theorem fl_RX12_34 : fx_L RX12 34 12 13 "[I" true := fx_L.mk RX12 TX12 72 tyX12 rfl (by decide) (fx_s6 (List.mem_of_getElem? (i := 101) rfl) rfl) inX12 rfl rfl tyX12_ok nmX12
theorem fl_RX12_37 : fx_L RX12 37 12 14 "[I" true := fx_L.mk RX12 TX12 72 tyX12 rfl (by decide) (fx_s6 (List.mem_of_getElem? (i := 102) rfl) rfl) inX12 rfl rfl tyX12_ok nmX12
theorem fl_RX12_40 : fx_L RX12 40 12 20 "[I" true := fx_L.mk RX12 TX12 72 tyX12 rfl (by decide) (fx_s6 (List.mem_of_getElem? (i := 108) rfl) rfl) inX12 rfl rfl tyX12_ok nmX12
theorem fl_RX12_43 : fx_L RX12 43 12 21 "[I" true := fx_L.mk RX12 TX12 72 tyX12 rfl (by decide) (fx_s6 (List.mem_of_getElem? (i := 109) rfl) rfl) inX12 rfl rfl tyX12_ok nmX12
theorem fl_RX12_46 : fx_L RX12 46 12 22 "[I" true := fx_L.mk RX12 TX12 72 tyX12 rfl (by decide) (fx_s6 (List.mem_of_getElem? (i := 110) rfl) rfl) inX12 rfl rfl tyX12_ok nmX12
theorem fl_RX12_49 : fx_L RX12 49 12 23 "[I" true := fx_L.mk RX12 TX12 72 tyX12 rfl (by decide) (fx_s6 (List.mem_of_getElem? (i := 111) rfl) rfl) inX12 rfl rfl tyX12_ok nmX12
theorem fl_RX12_52 : fx_L RX12 52 12 24 "[I" true := fx_L.mk RX12 TX12 72 tyX12 rfl (by decide) (fx_s6 (List.mem_of_getElem? (i := 112) rfl) rfl) inX12 rfl rfl tyX12_ok nmX12
theorem fl_RX12_55 : fx_L RX12 55 12 25 "[I" true := fx_L.mk RX12 TX12 72 tyX12 rfl (by decide) (fx_s6 (List.mem_of_getElem? (i := 113) rfl) rfl) inX12 rfl rfl tyX12_ok nmX12
theorem fl_RX12_58 : fx_L RX12 58 12 26 "[I" true := fx_L.mk RX12 TX12 72 tyX12 rfl (by decide) (fx_s6 (List.mem_of_getElem? (i := 114) rfl) rfl) inX12 rfl rfl tyX12_ok nmX12
theorem fl_RX12_61 : fx_L RX12 61 12 27 "[I" true := fx_L.mk RX12 TX12 72 tyX12 rfl (by decide) (fx_s6 (List.mem_of_getElem? (i := 115) rfl) rfl) inX12 rfl rfl tyX12_ok nmX12
theorem fl_RX12_64 : fx_L RX12 64 12 31 "[I" true := fx_L.mk RX12 TX12 72 tyX12 rfl (by decide) (fx_s6 (List.mem_of_getElem? (i := 119) rfl) rfl) inX12 rfl rfl tyX12_ok nmX12
theorem fl_RX12_67 : fx_L RX12 67 12 36 "I" false := fx_L.mk RX12 TX12 72 tyX12 rfl (by decide) (fx_s6 (List.mem_of_getElem? (i := 124) rfl) rfl) inX12 rfl rfl tyX12_ok nmX12
theorem fl_RX12_71 : fx_L RX12 71 12 38 "[I" true := fx_L.mk RX12 TX12 72 tyX12 rfl (by decide) (fx_s6 (List.mem_of_getElem? (i := 126) rfl) rfl) inX12 rfl rfl tyX12_ok nmX12
theorem fl_RX12_74 : fx_L RX12 74 12 40 "[I" true := fx_L.mk RX12 TX12 72 tyX12 rfl (by decide) (fx_s6 (List.mem_of_getElem? (i := 128) rfl) rfl) inX12 rfl rfl tyX12_ok nmX12
theorem fl_RX12_77 : fx_L RX12 77 12 42 "[I" true := fx_L.mk RX12 TX12 72 tyX12 rfl (by decide) (fx_s6 (List.mem_of_getElem? (i := 130) rfl) rfl) inX12 rfl rfl tyX12_ok nmX12
theorem fl_RX12_80 : fx_L RX12 80 12 43 "[I" true := fx_L.mk RX12 TX12 72 tyX12 rfl (by decide) (fx_s6 (List.mem_of_getElem? (i := 131) rfl) rfl) inX12 rfl rfl tyX12_ok nmX12
theorem fl_RX12_83 : fx_L RX12 83 12 44 "[I" true := fx_L.mk RX12 TX12 72 tyX12 rfl (by decide) (fx_s6 (List.mem_of_getElem? (i := 132) rfl) rfl) inX12 rfl rfl tyX12_ok nmX12
theorem fl_RX12_86 : fx_L RX12 86 12 48 "[I" true := fx_L.mk RX12 TX12 72 tyX12 rfl (by decide) (fx_s6 (List.mem_of_getElem? (i := 136) rfl) rfl) inX12 rfl rfl tyX12_ok nmX12
theorem fl_RX12_89 : fx_L RX12 89 12 49 "[I" true := fx_L.mk RX12 TX12 72 tyX12 rfl (by decide) (fx_s6 (List.mem_of_getElem? (i := 137) rfl) rfl) inX12 rfl rfl tyX12_ok nmX12
theorem fl_RX12_92 : fx_L RX12 92 12 50 "[I" true := fx_L.mk RX12 TX12 72 tyX12 rfl (by decide) (fx_s6 (List.mem_of_getElem? (i := 138) rfl) rfl) inX12 rfl rfl tyX12_ok nmX12
theorem fl_RX12_95 : fx_L RX12 95 12 52 "[I" true := fx_L.mk RX12 TX12 72 tyX12 rfl (by decide) (fx_s6 (List.mem_of_getElem? (i := 140) rfl) rfl) inX12 rfl rfl tyX12_ok nmX12
theorem fl_RX12_98 : fx_L RX12 98 12 54 "[I" true := fx_L.mk RX12 TX12 72 tyX12 rfl (by decide) (fx_s6 (List.mem_of_getElem? (i := 142) rfl) rfl) inX12 rfl rfl tyX12_ok nmX12
theorem fl_RX12_101 : fx_L RX12 101 12 55 "[I" true := fx_L.mk RX12 TX12 72 tyX12 rfl (by decide) (fx_s6 (List.mem_of_getElem? (i := 143) rfl) rfl) inX12 rfl rfl tyX12_ok nmX12
theorem fl_RX12_104 : fx_L RX12 104 12 56 "[I" true := fx_L.mk RX12 TX12 72 tyX12 rfl (by decide) (fx_s6 (List.mem_of_getElem? (i := 144) rfl) rfl) inX12 rfl rfl tyX12_ok nmX12
theorem fl_RX12_107 : fx_L RX12 107 12 57 "[I" true := fx_L.mk RX12 TX12 72 tyX12 rfl (by decide) (fx_s6 (List.mem_of_getElem? (i := 145) rfl) rfl) inX12 rfl rfl tyX12_ok nmX12
theorem fl_RX12_110 : fx_L RX12 110 12 58 "[I" true := fx_L.mk RX12 TX12 72 tyX12 rfl (by decide) (fx_s6 (List.mem_of_getElem? (i := 146) rfl) rfl) inX12 rfl rfl tyX12_ok nmX12
theorem fl_RX12_113 : fx_L RX12 113 12 60 "[I" true := fx_L.mk RX12 TX12 72 tyX12 rfl (by decide) (fx_s6 (List.mem_of_getElem? (i := 148) rfl) rfl) inX12 rfl rfl tyX12_ok nmX12
theorem fl_RX12_116 : fx_L RX12 116 12 61 "[I" true := fx_L.mk RX12 TX12 72 tyX12 rfl (by decide) (fx_s6 (List.mem_of_getElem? (i := 149) rfl) rfl) inX12 rfl rfl tyX12_ok nmX12
theorem fl_RX12_119 : fx_L RX12 119 12 63 "[I" true := fx_L.mk RX12 TX12 72 tyX12 rfl (by decide) (fx_s6 (List.mem_of_getElem? (i := 151) rfl) rfl) inX12 rfl rfl tyX12_ok nmX12
theorem fl_RX12_122 : fx_L RX12 122 12 64 "[I" true := fx_L.mk RX12 TX12 72 tyX12 rfl (by decide) (fx_s6 (List.mem_of_getElem? (i := 152) rfl) rfl) inX12 rfl rfl tyX12_ok nmX12
theorem fl_RX12_125 : fx_L RX12 125 12 66 "[I" true := fx_L.mk RX12 TX12 72 tyX12 rfl (by decide) (fx_s6 (List.mem_of_getElem? (i := 154) rfl) rfl) inX12 rfl rfl tyX12_ok nmX12
theorem fl_RX12_128 : fx_L RX12 128 12 67 "[I" true := fx_L.mk RX12 TX12 72 tyX12 rfl (by decide) (fx_s6 (List.mem_of_getElem? (i := 155) rfl) rfl) inX12 rfl rfl tyX12_ok nmX12
theorem fl_RX12_131 : fx_L RX12 131 12 71 "[I" true := fx_L.mk RX12 TX12 72 tyX12 rfl (by decide) (fx_s6 (List.mem_of_getElem? (i := 159) rfl) rfl) inX12 rfl rfl tyX12_ok nmX12
theorem fl_RX12_134 : fx_L RX12 134 12 0 "I" false := fx_L.mk RX12 TX12 72 tyX12 rfl (by decide) (fx_s6 (List.mem_of_getElem? (i := 88) rfl) rfl) inX12 rfl rfl tyX12_ok nmX12
theorem fl_RX12_138 : fx_L RX12 138 12 3 "I" false := fx_L.mk RX12 TX12 72 tyX12 rfl (by decide) (fx_s6 (List.mem_of_getElem? (i := 91) rfl) rfl) inX12 rfl rfl tyX12_ok nmX12
theorem fl_RX12_141 : fx_L RX12 141 12 5 "Z" false := fx_L.mk RX12 TX12 72 tyX12 rfl (by decide) (fx_s6 (List.mem_of_getElem? (i := 93) rfl) rfl) inX12 rfl rfl tyX12_ok nmX12
theorem fl_RX12_147 : fx_L RX12 147 12 6 "I" false := fx_L.mk RX12 TX12 72 tyX12 rfl (by decide) (fx_s6 (List.mem_of_getElem? (i := 94) rfl) rfl) inX12 rfl rfl tyX12_ok nmX12
theorem fl_RX12_150 : fx_L RX12 150 12 7 "I" false := fx_L.mk RX12 TX12 72 tyX12 rfl (by decide) (fx_s6 (List.mem_of_getElem? (i := 95) rfl) rfl) inX12 rfl rfl tyX12_ok nmX12
theorem fl_RX12_171 : fx_L RX12 171 12 15 "I" false := fx_L.mk RX12 TX12 72 tyX12 rfl (by decide) (fx_s6 (List.mem_of_getElem? (i := 103) rfl) rfl) inX12 rfl rfl tyX12_ok nmX12
theorem fl_RX12_178 : fx_L RX12 178 12 16 "I" false := fx_L.mk RX12 TX12 72 tyX12 rfl (by decide) (fx_s6 (List.mem_of_getElem? (i := 104) rfl) rfl) inX12 rfl rfl tyX12_ok nmX12
theorem fl_RX12_185 : fx_L RX12 185 12 17 "I" false := fx_L.mk RX12 TX12 72 tyX12 rfl (by decide) (fx_s6 (List.mem_of_getElem? (i := 105) rfl) rfl) inX12 rfl rfl tyX12_ok nmX12
theorem fl_RX12_188 : fx_L RX12 188 12 18 "I" false := fx_L.mk RX12 TX12 72 tyX12 rfl (by decide) (fx_s6 (List.mem_of_getElem? (i := 106) rfl) rfl) inX12 rfl rfl tyX12_ok nmX12
theorem fl_RX12_191 : fx_L RX12 191 12 19 "I" false := fx_L.mk RX12 TX12 72 tyX12 rfl (by decide) (fx_s6 (List.mem_of_getElem? (i := 107) rfl) rfl) inX12 rfl rfl tyX12_ok nmX12
theorem fl_RX12_206 : fx_L RX12 206 12 33 "I" false := fx_L.mk RX12 TX12 72 tyX12 rfl (by decide) (fx_s6 (List.mem_of_getElem? (i := 121) rfl) rfl) inX12 rfl rfl tyX12_ok nmX12
theorem fl_RX12_209 : fx_L RX12 209 12 34 "I" false := fx_L.mk RX12 TX12 72 tyX12 rfl (by decide) (fx_s6 (List.mem_of_getElem? (i := 122) rfl) rfl) inX12 rfl rfl tyX12_ok nmX12
theorem fl_RX12_212 : fx_L RX12 212 12 29 "I" false := fx_L.mk RX12 TX12 72 tyX12 rfl (by decide) (fx_s6 (List.mem_of_getElem? (i := 117) rfl) rfl) inX12 rfl rfl tyX12_ok nmX12
theorem fl_RX12_241 : fx_L RX12 241 12 32 "I" false := fx_L.mk RX12 TX12 72 tyX12 rfl (by decide) (fx_s6 (List.mem_of_getElem? (i := 120) rfl) rfl) inX12 rfl rfl tyX12_ok nmX12
theorem fl_RX12_244 : fx_L RX12 244 12 30 "I" false := fx_L.mk RX12 TX12 72 tyX12 rfl (by decide) (fx_s6 (List.mem_of_getElem? (i := 118) rfl) rfl) inX12 rfl rfl tyX12_ok nmX12
theorem fl_RX12_266 : fx_L RX12 266 12 28 "I" false := fx_L.mk RX12 TX12 72 tyX12 rfl (by decide) (fx_s6 (List.mem_of_getElem? (i := 116) rfl) rfl) inX12 rfl rfl tyX12_ok nmX12
theorem fl_RX12_306 : fx_L RX12 306 12 41 "I" false := fx_L.mk RX12 TX12 72 tyX12 rfl (by decide) (fx_s6 (List.mem_of_getElem? (i := 129) rfl) rfl) inX12 rfl rfl tyX12_ok nmX12
theorem fl_RX12_309 : fx_L RX12 309 12 37 "I" false := fx_L.mk RX12 TX12 72 tyX12 rfl (by decide) (fx_s6 (List.mem_of_getElem? (i := 125) rfl) rfl) inX12 rfl rfl tyX12_ok nmX12
theorem fl_RX12_312 : fx_L RX12 312 12 39 "I" false := fx_L.mk RX12 TX12 72 tyX12 rfl (by decide) (fx_s6 (List.mem_of_getElem? (i := 127) rfl) rfl) inX12 rfl rfl tyX12_ok nmX12
theorem fl_RX12_315 : fx_L RX12 315 12 35 "I" false := fx_L.mk RX12 TX12 72 tyX12 rfl (by decide) (fx_s6 (List.mem_of_getElem? (i := 123) rfl) rfl) inX12 rfl rfl tyX12_ok nmX12
theorem fl_RX12_350 : fx_L RX12 350 12 46 "I" false := fx_L.mk RX12 TX12 72 tyX12 rfl (by decide) (fx_s6 (List.mem_of_getElem? (i := 134) rfl) rfl) inX12 rfl rfl tyX12_ok nmX12
theorem fl_RX12_353 : fx_L RX12 353 12 45 "I" false := fx_L.mk RX12 TX12 72 tyX12 rfl (by decide) (fx_s6 (List.mem_of_getElem? (i := 133) rfl) rfl) inX12 rfl rfl tyX12_ok nmX12
theorem fl_RX12_369 : fx_L RX12 369 12 47 "I" false := fx_L.mk RX12 TX12 72 tyX12 rfl (by decide) (fx_s6 (List.mem_of_getElem? (i := 135) rfl) rfl) inX12 rfl rfl tyX12_ok nmX12
theorem fl_RX12_436 : fx_L RX12 436 12 51 "I" false := fx_L.mk RX12 TX12 72 tyX12 rfl (by decide) (fx_s6 (List.mem_of_getElem? (i := 139) rfl) rfl) inX12 rfl rfl tyX12_ok nmX12
theorem fl_RX12_439 : fx_L RX12 439 12 53 "I" false := fx_L.mk RX12 TX12 72 tyX12 rfl (by decide) (fx_s6 (List.mem_of_getElem? (i := 141) rfl) rfl) inX12 rfl rfl tyX12_ok nmX12
theorem fl_RX12_474 : fx_L RX12 474 12 59 "I" false := fx_L.mk RX12 TX12 72 tyX12 rfl (by decide) (fx_s6 (List.mem_of_getElem? (i := 147) rfl) rfl) inX12 rfl rfl tyX12_ok nmX12
theorem fl_RX12_483 : fx_L RX12 483 12 62 "I" false := fx_L.mk RX12 TX12 72 tyX12 rfl (by decide) (fx_s6 (List.mem_of_getElem? (i := 150) rfl) rfl) inX12 rfl rfl tyX12_ok nmX12
theorem fl_RX12_493 : fx_L RX12 493 12 65 "I" false := fx_L.mk RX12 TX12 72 tyX12 rfl (by decide) (fx_s6 (List.mem_of_getElem? (i := 153) rfl) rfl) inX12 rfl rfl tyX12_ok nmX12
theorem fl_RX12_518 : fx_L RX12 518 12 70 "I" false := fx_L.mk RX12 TX12 72 tyX12 rfl (by decide) (fx_s6 (List.mem_of_getElem? (i := 158) rfl) rfl) inX12 rfl rfl tyX12_ok nmX12
theorem fl_RX12_521 : fx_L RX12 521 12 68 "Z" false := fx_L.mk RX12 TX12 72 tyX12 rfl (by decide) (fx_s6 (List.mem_of_getElem? (i := 156) rfl) rfl) inX12 rfl rfl tyX12_ok nmX12
theorem fl_RX12_527 : fx_L RX12 527 12 69 "Z" false := fx_L.mk RX12 TX12 72 tyX12 rfl (by decide) (fx_s6 (List.mem_of_getElem? (i := 157) rfl) rfl) inX12 rfl rfl tyX12_ok nmX12
theorem mt_i : Cond.initialized "java/lang/Math" ∈ fx_all := (fx_s1 (List.mem_of_getElem? (i := 14) rfl) rfl)
theorem mt_max_s : Cond.static Lib.Math.max.name ∈ fx_all := (fx_s3 (List.mem_of_getElem? (i := 150) rfl) rfl)
theorem mt_max_c : Cond.code Lib.Math.max.name Lib.Math.max.code 2 (some .int) ∈ fx_all := (fx_s3 (List.mem_of_getElem? (i := 151) rfl) rfl)
theorem mt_min_s : Cond.static Lib.Math.min.name ∈ fx_all := (fx_s3 (List.mem_of_getElem? (i := 165) rfl) rfl)
theorem mt_min_c : Cond.code Lib.Math.min.name Lib.Math.min.code 2 (some .int) ∈ fx_all := (fx_s3 (List.mem_of_getElem? (i := 166) rfl) rfl)
theorem mt_abs_s : Cond.static Lib.Math.abs.name ∈ fx_all := (fx_s5 (List.mem_of_getElem? (i := 224) rfl) rfl)
theorem mt_abs_c : Cond.code Lib.Math.abs.name Lib.Math.abs.code 1 (some .int) ∈ fx_all := (fx_s5 (List.mem_of_getElem? (i := 225) rfl) rfl)
abbrev cX0_init : ByteArray := prog_2_method_1_code
def yX0_init : MethodName := ⟨RX0, "<init>", "(LMockParcels$Whole;LMockParcels$Quay;Z)V"⟩
theorem ym_X0_init : fx_Y yX0_init cX0_init 4 none 3 := ⟨(fx_s2 (List.mem_of_getElem? (i := 125) rfl) rfl), (fx_s1 (List.mem_of_getElem? (i := 9) rfl) rfl), by decide +kernel⟩
theorem yi_X0_init : Cond.instanceMethod yX0_init ∈ fx_all := (fx_s2 (List.mem_of_getElem? (i := 124) rfl) rfl)
abbrev cX0_setScene : ByteArray := prog_2_method_2_code
def yX0_setScene : MethodName := ⟨RX0, "setScene", "(IIII)V"⟩
theorem ym_X0_setScene : fx_Y yX0_setScene cX0_setScene 6 none 4 := ⟨(fx_s3 (List.mem_of_getElem? (i := 135) rfl) rfl), (fx_s1 (List.mem_of_getElem? (i := 9) rfl) rfl), by decide +kernel⟩
theorem yi_X0_setScene : Cond.instanceMethod yX0_setScene ∈ fx_all := (fx_s3 (List.mem_of_getElem? (i := 133) rfl) rfl)
theorem ys_X0_setScene : Cond.selects (yX0_setScene).cls yX0_setScene yX0_setScene ∈ fx_all := (fx_s3 (List.mem_of_getElem? (i := 134) rfl) rfl)
abbrev cX0_canSell : ByteArray := prog_2_method_3_code
def yX0_canSell : MethodName := ⟨RX0, "canSell", "(I)Z"⟩
theorem ym_X0_canSell : fx_Y yX0_canSell cX0_canSell 2 (some .boolean) 1 := ⟨(fx_s3 (List.mem_of_getElem? (i := 102) rfl) rfl), (fx_s1 (List.mem_of_getElem? (i := 9) rfl) rfl), by decide +kernel⟩
theorem yi_X0_canSell : Cond.instanceMethod yX0_canSell ∈ fx_all := (fx_s3 (List.mem_of_getElem? (i := 100) rfl) rfl)
theorem ys_X0_canSell : Cond.selects (yX0_canSell).cls yX0_canSell yX0_canSell ∈ fx_all := (fx_s3 (List.mem_of_getElem? (i := 101) rfl) rfl)
abbrev cX0_callBids : ByteArray := prog_2_method_4_code
def yX0_callBids : MethodName := ⟨RX0, "callBids", "(I)V"⟩
theorem ym_X0_callBids : fx_Y yX0_callBids cX0_callBids 5 none 1 := ⟨(fx_s3 (List.mem_of_getElem? (i := 123) rfl) rfl), (fx_s1 (List.mem_of_getElem? (i := 9) rfl) rfl), by decide +kernel⟩
theorem yi_X0_callBids : Cond.instanceMethod yX0_callBids ∈ fx_all := (fx_s3 (List.mem_of_getElem? (i := 121) rfl) rfl)
theorem ys_X0_callBids : Cond.selects (yX0_callBids).cls yX0_callBids yX0_callBids ∈ fx_all := (fx_s3 (List.mem_of_getElem? (i := 122) rfl) rfl)
abbrev cX0_isHeldBack : ByteArray := prog_2_method_5_code
def yX0_isHeldBack : MethodName := ⟨RX0, "isHeldBack", "(I)Z"⟩
theorem ym_X0_isHeldBack : fx_Y yX0_isHeldBack cX0_isHeldBack 2 (some .boolean) 1 := ⟨(fx_s3 (List.mem_of_getElem? (i := 127) rfl) rfl), (fx_s1 (List.mem_of_getElem? (i := 9) rfl) rfl), by decide +kernel⟩
theorem yi_X0_isHeldBack : Cond.instanceMethod yX0_isHeldBack ∈ fx_all := (fx_s3 (List.mem_of_getElem? (i := 126) rfl) rfl)
theorem ys_X0_isHeldBack : Cond.selects (yX0_isHeldBack).cls yX0_isHeldBack yX0_isHeldBack ∈ fx_all := fx_sel (q := (yX0_isHeldBack, 9)) (List.mem_of_getElem? (i := 1) rfl)
abbrev cX0_hasBid : ByteArray := prog_2_method_6_code
def yX0_hasBid : MethodName := ⟨RX0, "hasBid", "(III)Z"⟩
theorem ym_X0_hasBid : fx_Y yX0_hasBid cX0_hasBid 7 (some .boolean) 3 := ⟨(fx_s3 (List.mem_of_getElem? (i := 131) rfl) rfl), (fx_s1 (List.mem_of_getElem? (i := 9) rfl) rfl), by decide +kernel⟩
theorem yi_X0_hasBid : Cond.instanceMethod yX0_hasBid ∈ fx_all := (fx_s3 (List.mem_of_getElem? (i := 130) rfl) rfl)
theorem ys_X0_hasBid : Cond.selects (yX0_hasBid).cls yX0_hasBid yX0_hasBid ∈ fx_all := fx_sel (q := (yX0_hasBid, 9)) (List.mem_of_getElem? (i := 2) rfl)
abbrev cX0_sellOff : ByteArray := prog_2_method_7_code
def yX0_sellOff : MethodName := ⟨RX0, "sellOff", "(I)Z"⟩
theorem ym_X0_sellOff : fx_Y yX0_sellOff cX0_sellOff 3 (some .boolean) 1 := ⟨(fx_s3 (List.mem_of_getElem? (i := 118) rfl) rfl), (fx_s1 (List.mem_of_getElem? (i := 9) rfl) rfl), by decide +kernel⟩
theorem yi_X0_sellOff : Cond.instanceMethod yX0_sellOff ∈ fx_all := (fx_s3 (List.mem_of_getElem? (i := 116) rfl) rfl)
theorem ys_X0_sellOff : Cond.selects (yX0_sellOff).cls yX0_sellOff yX0_sellOff ∈ fx_all := (fx_s3 (List.mem_of_getElem? (i := 117) rfl) rfl)
abbrev cX0_open : ByteArray := prog_2_method_8_code
def yX0_open : MethodName := ⟨RX0, "open", "(II)V"⟩
theorem ym_X0_open : fx_Y yX0_open cX0_open 4 none 2 := ⟨(fx_s3 (List.mem_of_getElem? (i := 184) rfl) rfl), (fx_s1 (List.mem_of_getElem? (i := 9) rfl) rfl), by decide +kernel⟩
theorem yi_X0_open : Cond.instanceMethod yX0_open ∈ fx_all := (fx_s3 (List.mem_of_getElem? (i := 183) rfl) rfl)
theorem ys_X0_open : Cond.selects (yX0_open).cls yX0_open yX0_open ∈ fx_all := fx_sel (q := (yX0_open, 9)) (List.mem_of_getElem? (i := 9) rfl)
abbrev cX0_found : ByteArray := prog_2_method_9_code
def yX0_found : MethodName := ⟨RX0, "found", "(I)I"⟩
theorem ym_X0_found : fx_Y yX0_found cX0_found 2 (some .int) 1 := ⟨(fx_s3 (List.mem_of_getElem? (i := 188) rfl) rfl), (fx_s1 (List.mem_of_getElem? (i := 9) rfl) rfl), by decide +kernel⟩
theorem yi_X0_found : Cond.instanceMethod yX0_found ∈ fx_all := (fx_s3 (List.mem_of_getElem? (i := 187) rfl) rfl)
theorem ys_X0_found : Cond.selects (yX0_found).cls yX0_found yX0_found ∈ fx_all := fx_sel (q := (yX0_found, 9)) (List.mem_of_getElem? (i := 10) rfl)
abbrev cX0_passDay : ByteArray := prog_2_method_10_code
def yX0_passDay : MethodName := ⟨RX0, "passDay", "()I"⟩
theorem ym_X0_passDay : fx_Y yX0_passDay cX0_passDay 4 (some .int) 0 := ⟨(fx_s3 (List.mem_of_getElem? (i := 223) rfl) rfl), (fx_s1 (List.mem_of_getElem? (i := 9) rfl) rfl), by decide +kernel⟩
theorem yi_X0_passDay : Cond.instanceMethod yX0_passDay ∈ fx_all := (fx_s3 (List.mem_of_getElem? (i := 221) rfl) rfl)
theorem ys_X0_passDay : Cond.selects (yX0_passDay).cls yX0_passDay yX0_passDay ∈ fx_all := (fx_s3 (List.mem_of_getElem? (i := 222) rfl) rfl)
abbrev cX0_change : ByteArray := prog_2_method_11_code
def yX0_change : MethodName := ⟨RX0, "change", "(III)V"⟩
theorem ym_X0_change : fx_Y yX0_change cX0_change 4 none 3 := ⟨(fx_s3 (List.mem_of_getElem? (i := 227) rfl) rfl), (fx_s1 (List.mem_of_getElem? (i := 9) rfl) rfl), by decide +kernel⟩
theorem yi_X0_change : Cond.instanceMethod yX0_change ∈ fx_all := (fx_s3 (List.mem_of_getElem? (i := 226) rfl) rfl)
theorem ys_X0_change : Cond.selects (yX0_change).cls yX0_change yX0_change ∈ fx_all := fx_sel (q := (yX0_change, 9)) (List.mem_of_getElem? (i := 11) rfl)
abbrev cX0_raid : ByteArray := prog_2_method_12_code
def yX0_raid : MethodName := ⟨RX0, "raid", "()V"⟩
theorem ym_X0_raid : fx_Y yX0_raid cX0_raid 5 none 0 := ⟨(fx_s3 (List.mem_of_getElem? (i := 231) rfl) rfl), (fx_s1 (List.mem_of_getElem? (i := 9) rfl) rfl), by decide +kernel⟩
theorem yi_X0_raid : Cond.instanceMethod yX0_raid ∈ fx_all := (fx_s3 (List.mem_of_getElem? (i := 230) rfl) rfl)
theorem ys_X0_raid : Cond.selects (yX0_raid).cls yX0_raid yX0_raid ∈ fx_all := fx_sel (q := (yX0_raid, 9)) (List.mem_of_getElem? (i := 12) rfl)
abbrev cX0_seize : ByteArray := prog_2_method_13_code
def yX0_seize : MethodName := ⟨RX0, "seize", "(I)V"⟩
theorem ym_X0_seize : fx_Y yX0_seize cX0_seize 3 none 1 := ⟨(fx_s3 (List.mem_of_getElem? (i := 235) rfl) rfl), (fx_s1 (List.mem_of_getElem? (i := 9) rfl) rfl), by decide +kernel⟩
theorem yi_X0_seize : Cond.instanceMethod yX0_seize ∈ fx_all := (fx_s3 (List.mem_of_getElem? (i := 234) rfl) rfl)
theorem ys_X0_seize : Cond.selects (yX0_seize).cls yX0_seize yX0_seize ∈ fx_all := fx_sel (q := (yX0_seize, 9)) (List.mem_of_getElem? (i := 13) rfl)
abbrev cX0_payOut : ByteArray := prog_2_method_14_code
def yX0_payOut : MethodName := ⟨RX0, "payOut", "(II)V"⟩
theorem ym_X0_payOut : fx_Y yX0_payOut cX0_payOut 3 none 2 := ⟨(fx_s3 (List.mem_of_getElem? (i := 198) rfl) rfl), (fx_s1 (List.mem_of_getElem? (i := 9) rfl) rfl), by decide +kernel⟩
theorem yi_X0_payOut : Cond.instanceMethod yX0_payOut ∈ fx_all := (fx_s3 (List.mem_of_getElem? (i := 196) rfl) rfl)
theorem ys_X0_payOut : Cond.selects (yX0_payOut).cls yX0_payOut yX0_payOut ∈ fx_all := (fx_s3 (List.mem_of_getElem? (i := 197) rfl) rfl)
abbrev cX0_handOver : ByteArray := prog_2_method_15_code
def yX0_handOver : MethodName := ⟨RX0, "handOver", "(III)V"⟩
theorem ym_X0_handOver : fx_Y yX0_handOver cX0_handOver 4 none 3 := ⟨(fx_s3 (List.mem_of_getElem? (i := 206) rfl) rfl), (fx_s1 (List.mem_of_getElem? (i := 9) rfl) rfl), by decide +kernel⟩
theorem yi_X0_handOver : Cond.instanceMethod yX0_handOver ∈ fx_all := (fx_s3 (List.mem_of_getElem? (i := 204) rfl) rfl)
theorem ys_X0_handOver : Cond.selects (yX0_handOver).cls yX0_handOver yX0_handOver ∈ fx_all := (fx_s3 (List.mem_of_getElem? (i := 205) rfl) rfl)
abbrev cX0_clearBill : ByteArray := prog_2_method_16_code
def yX0_clearBill : MethodName := ⟨RX0, "clearBill", "(I)I"⟩
theorem ym_X0_clearBill : fx_Y yX0_clearBill cX0_clearBill 3 (some .int) 1 := ⟨(fx_s3 (List.mem_of_getElem? (i := 215) rfl) rfl), (fx_s1 (List.mem_of_getElem? (i := 9) rfl) rfl), by decide +kernel⟩
theorem yi_X0_clearBill : Cond.instanceMethod yX0_clearBill ∈ fx_all := (fx_s3 (List.mem_of_getElem? (i := 213) rfl) rfl)
theorem ys_X0_clearBill : Cond.selects (yX0_clearBill).cls yX0_clearBill yX0_clearBill ∈ fx_all := (fx_s3 (List.mem_of_getElem? (i := 214) rfl) rfl)
abbrev cX0_note : ByteArray := prog_2_method_17_code
def yX0_note : MethodName := ⟨RX0, "note", "(III)V"⟩
theorem ym_X0_note : fx_Y yX0_note cX0_note 5 none 3 := ⟨(fx_s3 (List.mem_of_getElem? (i := 180) rfl) rfl), (fx_s1 (List.mem_of_getElem? (i := 9) rfl) rfl), by decide +kernel⟩
theorem yi_X0_note : Cond.instanceMethod yX0_note ∈ fx_all := (fx_s3 (List.mem_of_getElem? (i := 179) rfl) rfl)
theorem ys_X0_note : Cond.selects (yX0_note).cls yX0_note yX0_note ∈ fx_all := fx_sel (q := (yX0_note, 9)) (List.mem_of_getElem? (i := 8) rfl)
abbrev cX1_init : ByteArray := prog_3_method_1_code
def yX1_init : MethodName := ⟨RX1, "<init>", "()V"⟩
theorem ym_X1_init : fx_Y yX1_init cX1_init 1 none 0 := ⟨(fx_s1 (List.mem_of_getElem? (i := 39) rfl) rfl), (fx_s1 (List.mem_of_getElem? (i := 3) rfl) rfl), by decide +kernel⟩
theorem yi_X1_init : Cond.instanceMethod yX1_init ∈ fx_all := (fx_s1 (List.mem_of_getElem? (i := 38) rfl) rfl)
abbrev cX1_hasParcel : ByteArray := prog_3_method_2_code
def yX1_hasParcel : MethodName := ⟨RX1, "hasParcel", "(I)Z"⟩
theorem ym_X1_hasParcel : fx_Y yX1_hasParcel cX1_hasParcel 2 (some .boolean) 1 := ⟨(fx_s3 (List.mem_of_getElem? (i := 94) rfl) rfl), (fx_s1 (List.mem_of_getElem? (i := 3) rfl) rfl), by decide +kernel⟩
theorem yi_X1_hasParcel : Cond.instanceMethod yX1_hasParcel ∈ fx_all := (fx_s3 (List.mem_of_getElem? (i := 92) rfl) rfl)
theorem ys_X1_hasParcel : Cond.selects (yX1_hasParcel).cls yX1_hasParcel yX1_hasParcel ∈ fx_all := (fx_s3 (List.mem_of_getElem? (i := 93) rfl) rfl)
abbrev cX1_hasBidder : ByteArray := prog_3_method_3_code
def yX1_hasBidder : MethodName := ⟨RX1, "hasBidder", "(I)Z"⟩
theorem ym_X1_hasBidder : fx_Y yX1_hasBidder cX1_hasBidder 2 (some .boolean) 1 := ⟨(fx_s3 (List.mem_of_getElem? (i := 90) rfl) rfl), (fx_s1 (List.mem_of_getElem? (i := 3) rfl) rfl), by decide +kernel⟩
theorem yi_X1_hasBidder : Cond.instanceMethod yX1_hasBidder ∈ fx_all := (fx_s3 (List.mem_of_getElem? (i := 88) rfl) rfl)
theorem ys_X1_hasBidder : Cond.selects (yX1_hasBidder).cls yX1_hasBidder yX1_hasBidder ∈ fx_all := (fx_s3 (List.mem_of_getElem? (i := 89) rfl) rfl)
abbrev cX1_addParcel : ByteArray := prog_3_method_4_code
def yX1_addParcel : MethodName := ⟨RX1, "addParcel", "(III)I"⟩
theorem ym_X1_addParcel : fx_Y yX1_addParcel cX1_addParcel 4 (some .int) 3 := ⟨(fx_s3 (List.mem_of_getElem? (i := 70) rfl) rfl), (fx_s1 (List.mem_of_getElem? (i := 3) rfl) rfl), by decide +kernel⟩
theorem yi_X1_addParcel : Cond.instanceMethod yX1_addParcel ∈ fx_all := (fx_s3 (List.mem_of_getElem? (i := 68) rfl) rfl)
theorem ys_X1_addParcel : Cond.selects (yX1_addParcel).cls yX1_addParcel yX1_addParcel ∈ fx_all := (fx_s3 (List.mem_of_getElem? (i := 69) rfl) rfl)
abbrev cX1_addBidder : ByteArray := prog_3_method_5_code
def yX1_addBidder : MethodName := ⟨RX1, "addBidder", "(II)I"⟩
theorem ym_X1_addBidder : fx_Y yX1_addBidder cX1_addBidder 3 (some .int) 2 := ⟨(fx_s3 (List.mem_of_getElem? (i := 78) rfl) rfl), (fx_s1 (List.mem_of_getElem? (i := 3) rfl) rfl), by decide +kernel⟩
theorem yi_X1_addBidder : Cond.instanceMethod yX1_addBidder ∈ fx_all := (fx_s3 (List.mem_of_getElem? (i := 76) rfl) rfl)
theorem ys_X1_addBidder : Cond.selects (yX1_addBidder).cls yX1_addBidder yX1_addBidder ∈ fx_all := (fx_s3 (List.mem_of_getElem? (i := 77) rfl) rfl)
abbrev cX1_copyFrom : ByteArray := prog_3_method_6_code
def yX1_copyFrom : MethodName := ⟨RX1, "copyFrom", "(LMockParcels$Cast;)V"⟩
theorem ym_X1_copyFrom : fx_Y yX1_copyFrom cX1_copyFrom 2 none 1 := ⟨(fx_s6 (List.mem_of_getElem? (i := 61) rfl) rfl), (fx_s1 (List.mem_of_getElem? (i := 3) rfl) rfl), by decide +kernel⟩
theorem yi_X1_copyFrom : Cond.instanceMethod yX1_copyFrom ∈ fx_all := (fx_s6 (List.mem_of_getElem? (i := 59) rfl) rfl)
theorem ys_X1_copyFrom : Cond.selects (yX1_copyFrom).cls yX1_copyFrom yX1_copyFrom ∈ fx_all := (fx_s6 (List.mem_of_getElem? (i := 60) rfl) rfl)
abbrev cX2_init : ByteArray := prog_4_method_1_code
def yX2_init : MethodName := ⟨RX2, "<init>", "()V"⟩
theorem ym_X2_init : fx_Y yX2_init cX2_init 1 none 0 := ⟨(fx_s1 (List.mem_of_getElem? (i := 160) rfl) rfl), (fx_s1 (List.mem_of_getElem? (i := 5) rfl) rfl), by decide +kernel⟩
theorem yi_X2_init : Cond.instanceMethod yX2_init ∈ fx_all := (fx_s1 (List.mem_of_getElem? (i := 159) rfl) rfl)
abbrev cX2_clear : ByteArray := prog_4_method_2_code
def yX2_clear : MethodName := ⟨RX2, "clear", "()V"⟩
theorem ym_X2_clear : fx_Y yX2_clear cX2_clear 1 none 0 := ⟨(fx_s4 (List.mem_of_getElem? (i := 159) rfl) rfl), (fx_s1 (List.mem_of_getElem? (i := 5) rfl) rfl), by decide +kernel⟩
theorem yi_X2_clear : Cond.instanceMethod yX2_clear ∈ fx_all := (fx_s4 (List.mem_of_getElem? (i := 157) rfl) rfl)
theorem ys_X2_clear : Cond.selects (yX2_clear).cls yX2_clear yX2_clear ∈ fx_all := (fx_s4 (List.mem_of_getElem? (i := 158) rfl) rfl)
abbrev cX2_add : ByteArray := prog_4_method_3_code
def yX2_add : MethodName := ⟨RX2, "add", "(I)Z"⟩
theorem ym_X2_add : fx_Y yX2_add cX2_add 2 (some .boolean) 1 := ⟨(fx_s4 (List.mem_of_getElem? (i := 192) rfl) rfl), (fx_s1 (List.mem_of_getElem? (i := 5) rfl) rfl), by decide +kernel⟩
theorem yi_X2_add : Cond.instanceMethod yX2_add ∈ fx_all := (fx_s4 (List.mem_of_getElem? (i := 190) rfl) rfl)
theorem ys_X2_add : Cond.selects (yX2_add).cls yX2_add yX2_add ∈ fx_all := (fx_s4 (List.mem_of_getElem? (i := 191) rfl) rfl)
abbrev cX2_addLine : ByteArray := prog_4_method_4_code
def yX2_addLine : MethodName := ⟨RX2, "addLine", "(II)V"⟩
theorem ym_X2_addLine : fx_Y yX2_addLine cX2_addLine 3 none 2 := ⟨(fx_s4 (List.mem_of_getElem? (i := 210) rfl) rfl), (fx_s1 (List.mem_of_getElem? (i := 5) rfl) rfl), by decide +kernel⟩
theorem yi_X2_addLine : Cond.instanceMethod yX2_addLine ∈ fx_all := (fx_s4 (List.mem_of_getElem? (i := 208) rfl) rfl)
theorem ys_X2_addLine : Cond.selects (yX2_addLine).cls yX2_addLine yX2_addLine ∈ fx_all := (fx_s4 (List.mem_of_getElem? (i := 209) rfl) rfl)
abbrev cX2_copyFrom : ByteArray := prog_4_method_5_code
def yX2_copyFrom : MethodName := ⟨RX2, "copyFrom", "(LMockParcels$Law;)V"⟩
theorem ym_X2_copyFrom : fx_Y yX2_copyFrom cX2_copyFrom 3 none 1 := ⟨(fx_s5 (List.mem_of_getElem? (i := 15) rfl) rfl), (fx_s1 (List.mem_of_getElem? (i := 5) rfl) rfl), by decide +kernel⟩
theorem yi_X2_copyFrom : Cond.instanceMethod yX2_copyFrom ∈ fx_all := (fx_s5 (List.mem_of_getElem? (i := 13) rfl) rfl)
theorem ys_X2_copyFrom : Cond.selects (yX2_copyFrom).cls yX2_copyFrom yX2_copyFrom ∈ fx_all := (fx_s5 (List.mem_of_getElem? (i := 14) rfl) rfl)
abbrev cX2_tell : ByteArray := prog_4_method_6_code
def yX2_tell : MethodName := ⟨RX2, "tell", "(I)I"⟩
theorem ym_X2_tell : fx_Y yX2_tell cX2_tell 4 (some .int) 1 := ⟨(fx_s3 (List.mem_of_getElem? (i := 144) rfl) rfl), (fx_s1 (List.mem_of_getElem? (i := 5) rfl) rfl), by decide +kernel⟩
theorem yi_X2_tell : Cond.instanceMethod yX2_tell ∈ fx_all := (fx_s3 (List.mem_of_getElem? (i := 142) rfl) rfl)
theorem ys_X2_tell : Cond.selects (yX2_tell).cls yX2_tell yX2_tell ∈ fx_all := (fx_s3 (List.mem_of_getElem? (i := 143) rfl) rfl)
abbrev cX2_untold : ByteArray := prog_4_method_7_code
def yX2_untold : MethodName := ⟨RX2, "untold", "(I)I"⟩
theorem ym_X2_untold : fx_Y yX2_untold cX2_untold 2 (some .int) 1 := ⟨(fx_s3 (List.mem_of_getElem? (i := 170) rfl) rfl), (fx_s1 (List.mem_of_getElem? (i := 5) rfl) rfl), by decide +kernel⟩
theorem yi_X2_untold : Cond.instanceMethod yX2_untold ∈ fx_all := (fx_s3 (List.mem_of_getElem? (i := 169) rfl) rfl)
theorem ys_X2_untold : Cond.selects (yX2_untold).cls yX2_untold yX2_untold ∈ fx_all := fx_sel (q := (yX2_untold, 8)) (List.mem_of_getElem? (i := 7) rfl)
abbrev cX2_held : ByteArray := prog_4_method_8_code
def yX2_held : MethodName := ⟨RX2, "held", "(II)I"⟩
theorem ym_X2_held : fx_Y yX2_held cX2_held 3 (some .int) 2 := ⟨(fx_s3 (List.mem_of_getElem? (i := 163) rfl) rfl), (fx_s1 (List.mem_of_getElem? (i := 5) rfl) rfl), by decide +kernel⟩
theorem yi_X2_held : Cond.instanceMethod yX2_held ∈ fx_all := (fx_s3 (List.mem_of_getElem? (i := 162) rfl) rfl)
theorem ys_X2_held : Cond.selects (yX2_held).cls yX2_held yX2_held ∈ fx_all := fx_sel (q := (yX2_held, 8)) (List.mem_of_getElem? (i := 6) rfl)
abbrev cX2_reckon : ByteArray := prog_4_method_9_code
def yX2_reckon : MethodName := ⟨RX2, "reckon", "(II)I"⟩
theorem ym_X2_reckon : fx_Y yX2_reckon cX2_reckon 6 (some .int) 2 := ⟨(fx_s3 (List.mem_of_getElem? (i := 148) rfl) rfl), (fx_s1 (List.mem_of_getElem? (i := 5) rfl) rfl), by decide +kernel⟩
theorem yi_X2_reckon : Cond.instanceMethod yX2_reckon ∈ fx_all := (fx_s3 (List.mem_of_getElem? (i := 147) rfl) rfl)
theorem ys_X2_reckon : Cond.selects (yX2_reckon).cls yX2_reckon yX2_reckon ∈ fx_all := fx_sel (q := (yX2_reckon, 8)) (List.mem_of_getElem? (i := 3) rfl)
abbrev cX2_operand : ByteArray := prog_4_method_10_code
def yX2_operand : MethodName := ⟨RX2, "operand", "(I)I"⟩
theorem ym_X2_operand : fx_Y yX2_operand cX2_operand 3 (some .int) 1 := ⟨(fx_s3 (List.mem_of_getElem? (i := 155) rfl) rfl), (fx_s1 (List.mem_of_getElem? (i := 5) rfl) rfl), by decide +kernel⟩
theorem yi_X2_operand : Cond.instanceMethod yX2_operand ∈ fx_all := (fx_s3 (List.mem_of_getElem? (i := 154) rfl) rfl)
theorem ys_X2_operand : Cond.selects (yX2_operand).cls yX2_operand yX2_operand ∈ fx_all := fx_sel (q := (yX2_operand, 8)) (List.mem_of_getElem? (i := 4) rfl)
abbrev cX2_join : ByteArray := prog_4_method_11_code
def yX2_join : MethodName := ⟨RX2, "join", "(III)I"⟩
theorem ym_X2_join : fx_Y yX2_join cX2_join 4 (some .int) 3 := ⟨(fx_s3 (List.mem_of_getElem? (i := 159) rfl) rfl), (fx_s1 (List.mem_of_getElem? (i := 5) rfl) rfl), by decide +kernel⟩
theorem yi_X2_join : Cond.instanceMethod yX2_join ∈ fx_all := (fx_s3 (List.mem_of_getElem? (i := 158) rfl) rfl)
theorem ys_X2_join : Cond.selects (yX2_join).cls yX2_join yX2_join ∈ fx_all := fx_sel (q := (yX2_join, 8)) (List.mem_of_getElem? (i := 5) rfl)
abbrev cX3_init : ByteArray := prog_5_method_1_code
def yX3_init : MethodName := ⟨RX3, "<init>", "(LMockParcels$Reader;)V"⟩
theorem ym_X3_init : fx_Y yX3_init cX3_init 2 none 1 := ⟨(fx_s2 (List.mem_of_getElem? (i := 200) rfl) rfl), (fx_s1 (List.mem_of_getElem? (i := 11) rfl) rfl), by decide +kernel⟩
theorem yi_X3_init : Cond.instanceMethod yX3_init ∈ fx_all := (fx_s2 (List.mem_of_getElem? (i := 199) rfl) rfl)
abbrev cX3_parse : ByteArray := prog_5_method_2_code
def yX3_parse : MethodName := ⟨RX3, "parse", "(ILMockParcels$Cast;)I"⟩
theorem ym_X3_parse : fx_Y yX3_parse cX3_parse 6 (some .int) 2 := ⟨(fx_s4 (List.mem_of_getElem? (i := 155) rfl) rfl), (fx_s1 (List.mem_of_getElem? (i := 11) rfl) rfl), by decide +kernel⟩
theorem yi_X3_parse : Cond.instanceMethod yX3_parse ∈ fx_all := (fx_s4 (List.mem_of_getElem? (i := 153) rfl) rfl)
theorem ys_X3_parse : Cond.selects (yX3_parse).cls yX3_parse yX3_parse ∈ fx_all := (fx_s4 (List.mem_of_getElem? (i := 154) rfl) rfl)
abbrev cX3_beginsLine : ByteArray := prog_5_method_3_code
def yX3_beginsLine : MethodName := ⟨RX3, "beginsLine", "(II)Z"⟩
theorem ym_X3_beginsLine : fx_Y yX3_beginsLine cX3_beginsLine 4 (some .boolean) 2 := ⟨(fx_s4 (List.mem_of_getElem? (i := 167) rfl) rfl), (fx_s1 (List.mem_of_getElem? (i := 11) rfl) rfl), by decide +kernel⟩
theorem yi_X3_beginsLine : Cond.instanceMethod yX3_beginsLine ∈ fx_all := (fx_s4 (List.mem_of_getElem? (i := 166) rfl) rfl)
theorem ys_X3_beginsLine : Cond.selects (yX3_beginsLine).cls yX3_beginsLine yX3_beginsLine ∈ fx_all := fx_sel (q := (yX3_beginsLine, 5)) (List.mem_of_getElem? (i := 19) rfl)
abbrev cX3_takeNumber : ByteArray := prog_5_method_4_code
def yX3_takeNumber : MethodName := ⟨RX3, "takeNumber", "(II)I"⟩
theorem ym_X3_takeNumber : fx_Y yX3_takeNumber cX3_takeNumber 4 (some .int) 2 := ⟨(fx_s4 (List.mem_of_getElem? (i := 218) rfl) rfl), (fx_s1 (List.mem_of_getElem? (i := 11) rfl) rfl), by decide +kernel⟩
theorem yi_X3_takeNumber : Cond.instanceMethod yX3_takeNumber ∈ fx_all := (fx_s4 (List.mem_of_getElem? (i := 217) rfl) rfl)
theorem ys_X3_takeNumber : Cond.selects (yX3_takeNumber).cls yX3_takeNumber yX3_takeNumber ∈ fx_all := fx_sel (q := (yX3_takeNumber, 5)) (List.mem_of_getElem? (i := 26) rfl)
abbrev cX3_parseFollows : ByteArray := prog_5_method_5_code
def yX3_parseFollows : MethodName := ⟨RX3, "parseFollows", "()Z"⟩
theorem ym_X3_parseFollows : fx_Y yX3_parseFollows cX3_parseFollows 3 (some .boolean) 0 := ⟨(fx_s4 (List.mem_of_getElem? (i := 214) rfl) rfl), (fx_s1 (List.mem_of_getElem? (i := 11) rfl) rfl), by decide +kernel⟩
theorem yi_X3_parseFollows : Cond.instanceMethod yX3_parseFollows ∈ fx_all := (fx_s4 (List.mem_of_getElem? (i := 213) rfl) rfl)
theorem ys_X3_parseFollows : Cond.selects (yX3_parseFollows).cls yX3_parseFollows yX3_parseFollows ∈ fx_all := fx_sel (q := (yX3_parseFollows, 5)) (List.mem_of_getElem? (i := 25) rfl)
abbrev cX3_parseWants : ByteArray := prog_5_method_6_code
def yX3_parseWants : MethodName := ⟨RX3, "parseWants", "()Z"⟩
theorem ym_X3_parseWants : fx_Y yX3_parseWants cX3_parseWants 4 (some .boolean) 0 := ⟨(fx_s5 (List.mem_of_getElem? (i := 3) rfl) rfl), (fx_s1 (List.mem_of_getElem? (i := 11) rfl) rfl), by decide +kernel⟩
theorem yi_X3_parseWants : Cond.instanceMethod yX3_parseWants ∈ fx_all := (fx_s5 (List.mem_of_getElem? (i := 2) rfl) rfl)
theorem ys_X3_parseWants : Cond.selects (yX3_parseWants).cls yX3_parseWants yX3_parseWants ∈ fx_all := fx_sel (q := (yX3_parseWants, 5)) (List.mem_of_getElem? (i := 28) rfl)
abbrev cX3_parseDay : ByteArray := prog_5_method_7_code
def yX3_parseDay : MethodName := ⟨RX3, "parseDay", "()Z"⟩
theorem ym_X3_parseDay : fx_Y yX3_parseDay cX3_parseDay 5 (some .boolean) 0 := ⟨(fx_s4 (List.mem_of_getElem? (i := 232) rfl) rfl), (fx_s1 (List.mem_of_getElem? (i := 11) rfl) rfl), by decide +kernel⟩
theorem yi_X3_parseDay : Cond.instanceMethod yX3_parseDay ∈ fx_all := (fx_s4 (List.mem_of_getElem? (i := 231) rfl) rfl)
theorem ys_X3_parseDay : Cond.selects (yX3_parseDay).cls yX3_parseDay yX3_parseDay ∈ fx_all := fx_sel (q := (yX3_parseDay, 5)) (List.mem_of_getElem? (i := 27) rfl)
abbrev cX3_mostOf : ByteArray := prog_5_method_8_code
def yX3_mostOf : MethodName := ⟨RX3, "mostOf", "(I)I"⟩
theorem ym_X3_mostOf : fx_Y yX3_mostOf cX3_mostOf 1 (some .int) 1 := ⟨(fx_s4 (List.mem_of_getElem? (i := 235) rfl) rfl), (fx_s1 (List.mem_of_getElem? (i := 11) rfl) rfl), by decide +kernel⟩
theorem yt_X3_mostOf : Cond.static yX3_mostOf ∈ fx_all := (fx_s4 (List.mem_of_getElem? (i := 234) rfl) rfl)
abbrev cX3_parseLaw : ByteArray := prog_5_method_9_code
def yX3_parseLaw : MethodName := ⟨RX3, "parseLaw", "()Z"⟩
theorem ym_X3_parseLaw : fx_Y yX3_parseLaw cX3_parseLaw 3 (some .boolean) 0 := ⟨(fx_s4 (List.mem_of_getElem? (i := 176) rfl) rfl), (fx_s1 (List.mem_of_getElem? (i := 11) rfl) rfl), by decide +kernel⟩
theorem yi_X3_parseLaw : Cond.instanceMethod yX3_parseLaw ∈ fx_all := (fx_s4 (List.mem_of_getElem? (i := 175) rfl) rfl)
theorem ys_X3_parseLaw : Cond.selects (yX3_parseLaw).cls yX3_parseLaw yX3_parseLaw ∈ fx_all := fx_sel (q := (yX3_parseLaw, 5)) (List.mem_of_getElem? (i := 20) rfl)
abbrev cX3_parseEither : ByteArray := prog_5_method_10_code
def yX3_parseEither : MethodName := ⟨RX3, "parseEither", "(I)Z"⟩
theorem ym_X3_parseEither : fx_Y yX3_parseEither cX3_parseEither 4 (some .boolean) 1 := ⟨(fx_s4 (List.mem_of_getElem? (i := 196) rfl) rfl), (fx_s1 (List.mem_of_getElem? (i := 11) rfl) rfl), by decide +kernel⟩
theorem yi_X3_parseEither : Cond.instanceMethod yX3_parseEither ∈ fx_all := (fx_s4 (List.mem_of_getElem? (i := 195) rfl) rfl)
theorem ys_X3_parseEither : Cond.selects (yX3_parseEither).cls yX3_parseEither yX3_parseEither ∈ fx_all := fx_sel (q := (yX3_parseEither, 5)) (List.mem_of_getElem? (i := 23) rfl)
abbrev cX3_parseCase : ByteArray := prog_5_method_11_code
def yX3_parseCase : MethodName := ⟨RX3, "parseCase", "(I)Z"⟩
theorem ym_X3_parseCase : fx_Y yX3_parseCase cX3_parseCase 4 (some .boolean) 1 := ⟨(fx_s4 (List.mem_of_getElem? (i := 200) rfl) rfl), (fx_s1 (List.mem_of_getElem? (i := 11) rfl) rfl), by decide +kernel⟩
theorem yi_X3_parseCase : Cond.instanceMethod yX3_parseCase ∈ fx_all := (fx_s4 (List.mem_of_getElem? (i := 199) rfl) rfl)
theorem ys_X3_parseCase : Cond.selects (yX3_parseCase).cls yX3_parseCase yX3_parseCase ∈ fx_all := fx_sel (q := (yX3_parseCase, 5)) (List.mem_of_getElem? (i := 24) rfl)
abbrev cX3_parseSum : ByteArray := prog_5_method_12_code
def yX3_parseSum : MethodName := ⟨RX3, "parseSum", "()Z"⟩
theorem ym_X3_parseSum : fx_Y yX3_parseSum cX3_parseSum 5 (some .boolean) 0 := ⟨(fx_s4 (List.mem_of_getElem? (i := 184) rfl) rfl), (fx_s1 (List.mem_of_getElem? (i := 11) rfl) rfl), by decide +kernel⟩
theorem yi_X3_parseSum : Cond.instanceMethod yX3_parseSum ∈ fx_all := (fx_s4 (List.mem_of_getElem? (i := 183) rfl) rfl)
theorem ys_X3_parseSum : Cond.selects (yX3_parseSum).cls yX3_parseSum yX3_parseSum ∈ fx_all := fx_sel (q := (yX3_parseSum, 5)) (List.mem_of_getElem? (i := 21) rfl)
abbrev cX3_parseUnit : ByteArray := prog_5_method_13_code
def yX3_parseUnit : MethodName := ⟨RX3, "parseUnit", "(Z)Z"⟩
theorem ym_X3_parseUnit : fx_Y yX3_parseUnit cX3_parseUnit 3 (some .boolean) 1 := ⟨(fx_s4 (List.mem_of_getElem? (i := 188) rfl) rfl), (fx_s1 (List.mem_of_getElem? (i := 11) rfl) rfl), by decide +kernel⟩
theorem yi_X3_parseUnit : Cond.instanceMethod yX3_parseUnit ∈ fx_all := (fx_s4 (List.mem_of_getElem? (i := 187) rfl) rfl)
theorem ys_X3_parseUnit : Cond.selects (yX3_parseUnit).cls yX3_parseUnit yX3_parseUnit ∈ fx_all := fx_sel (q := (yX3_parseUnit, 5)) (List.mem_of_getElem? (i := 22) rfl)
abbrev cX4_init : ByteArray := prog_6_method_1_code
def yX4_init : MethodName := ⟨RX4, "<init>", "()V"⟩
theorem ym_X4_init : fx_Y yX4_init cX4_init 2 none 0 := ⟨(fx_s2 (List.mem_of_getElem? (i := 103) rfl) rfl), (fx_s1 (List.mem_of_getElem? (i := 8) rfl) rfl), by decide +kernel⟩
theorem yi_X4_init : Cond.instanceMethod yX4_init ∈ fx_all := (fx_s2 (List.mem_of_getElem? (i := 102) rfl) rfl)
abbrev cX4_keep : ByteArray := prog_6_method_2_code
def yX4_keep : MethodName := ⟨RX4, "keep", "(LMockParcels$Quay;)V"⟩
theorem ym_X4_keep : fx_Y yX4_keep cX4_keep 3 none 1 := ⟨(fx_s3 (List.mem_of_getElem? (i := 107) rfl) rfl), (fx_s1 (List.mem_of_getElem? (i := 8) rfl) rfl), by decide +kernel⟩
theorem yi_X4_keep : Cond.instanceMethod yX4_keep ∈ fx_all := (fx_s3 (List.mem_of_getElem? (i := 105) rfl) rfl)
theorem ys_X4_keep : Cond.selects (yX4_keep).cls yX4_keep yX4_keep ∈ fx_all := (fx_s3 (List.mem_of_getElem? (i := 106) rfl) rfl)
abbrev cX4_goBack : ByteArray := prog_6_method_3_code
def yX4_goBack : MethodName := ⟨RX4, "goBack", "(LMockParcels$Quay;)Z"⟩
theorem ym_X4_goBack : fx_Y yX4_goBack cX4_goBack 3 (some .boolean) 1 := ⟨(fx_s6 (List.mem_of_getElem? (i := 49) rfl) rfl), (fx_s1 (List.mem_of_getElem? (i := 8) rfl) rfl), by decide +kernel⟩
theorem yi_X4_goBack : Cond.instanceMethod yX4_goBack ∈ fx_all := (fx_s6 (List.mem_of_getElem? (i := 47) rfl) rfl)
theorem ys_X4_goBack : Cond.selects (yX4_goBack).cls yX4_goBack yX4_goBack ∈ fx_all := (fx_s6 (List.mem_of_getElem? (i := 48) rfl) rfl)
abbrev cX4_forget : ByteArray := prog_6_method_4_code
def yX4_forget : MethodName := ⟨RX4, "forget", "()V"⟩
theorem ym_X4_forget : fx_Y yX4_forget cX4_forget 1 none 0 := ⟨(fx_s3 (List.mem_of_getElem? (i := 59) rfl) rfl), (fx_s1 (List.mem_of_getElem? (i := 8) rfl) rfl), by decide +kernel⟩
theorem yi_X4_forget : Cond.instanceMethod yX4_forget ∈ fx_all := (fx_s3 (List.mem_of_getElem? (i := 57) rfl) rfl)
theorem ys_X4_forget : Cond.selects (yX4_forget).cls yX4_forget yX4_forget ∈ fx_all := (fx_s3 (List.mem_of_getElem? (i := 58) rfl) rfl)
abbrev cX5_init : ByteArray := prog_7_method_1_code
def yX5_init : MethodName := ⟨RX5, "<init>", "()V"⟩
theorem ym_X5_init : fx_Y yX5_init cX5_init 1 none 0 := ⟨(fx_s1 (List.mem_of_getElem? (i := 194) rfl) rfl), (fx_s1 (List.mem_of_getElem? (i := 6) rfl) rfl), by decide +kernel⟩
theorem yi_X5_init : Cond.instanceMethod yX5_init ∈ fx_all := (fx_s1 (List.mem_of_getElem? (i := 193) rfl) rfl)
abbrev cX5_clear : ByteArray := prog_7_method_2_code
def yX5_clear : MethodName := ⟨RX5, "clear", "()V"⟩
theorem ym_X5_clear : fx_Y yX5_clear cX5_clear 1 none 0 := ⟨(fx_s4 (List.mem_of_getElem? (i := 163) rfl) rfl), (fx_s1 (List.mem_of_getElem? (i := 6) rfl) rfl), by decide +kernel⟩
theorem yi_X5_clear : Cond.instanceMethod yX5_clear ∈ fx_all := (fx_s4 (List.mem_of_getElem? (i := 161) rfl) rfl)
theorem ys_X5_clear : Cond.selects (yX5_clear).cls yX5_clear yX5_clear ∈ fx_all := (fx_s4 (List.mem_of_getElem? (i := 162) rfl) rfl)
abbrev cX5_addFollows : ByteArray := prog_7_method_3_code
def yX5_addFollows : MethodName := ⟨RX5, "addFollows", "(II)V"⟩
theorem ym_X5_addFollows : fx_Y yX5_addFollows cX5_addFollows 3 none 2 := ⟨(fx_s4 (List.mem_of_getElem? (i := 227) rfl) rfl), (fx_s1 (List.mem_of_getElem? (i := 6) rfl) rfl), by decide +kernel⟩
theorem yi_X5_addFollows : Cond.instanceMethod yX5_addFollows ∈ fx_all := (fx_s4 (List.mem_of_getElem? (i := 225) rfl) rfl)
theorem ys_X5_addFollows : Cond.selects (yX5_addFollows).cls yX5_addFollows yX5_addFollows ∈ fx_all := (fx_s4 (List.mem_of_getElem? (i := 226) rfl) rfl)
abbrev cX5_addWants : ByteArray := prog_7_method_4_code
def yX5_addWants : MethodName := ⟨RX5, "addWants", "(III)V"⟩
theorem ym_X5_addWants : fx_Y yX5_addWants cX5_addWants 4 none 3 := ⟨(fx_s5 (List.mem_of_getElem? (i := 7) rfl) rfl), (fx_s1 (List.mem_of_getElem? (i := 6) rfl) rfl), by decide +kernel⟩
theorem yi_X5_addWants : Cond.instanceMethod yX5_addWants ∈ fx_all := (fx_s5 (List.mem_of_getElem? (i := 5) rfl) rfl)
theorem ys_X5_addWants : Cond.selects (yX5_addWants).cls yX5_addWants yX5_addWants ∈ fx_all := (fx_s5 (List.mem_of_getElem? (i := 6) rfl) rfl)
abbrev cX5_addDay : ByteArray := prog_7_method_5_code
def yX5_addDay : MethodName := ⟨RX5, "addDay", "(IIII)V"⟩
theorem ym_X5_addDay : fx_Y yX5_addDay cX5_addDay 5 none 4 := ⟨(fx_s4 (List.mem_of_getElem? (i := 239) rfl) rfl), (fx_s1 (List.mem_of_getElem? (i := 6) rfl) rfl), by decide +kernel⟩
theorem yi_X5_addDay : Cond.instanceMethod yX5_addDay ∈ fx_all := (fx_s4 (List.mem_of_getElem? (i := 237) rfl) rfl)
theorem ys_X5_addDay : Cond.selects (yX5_addDay).cls yX5_addDay yX5_addDay ∈ fx_all := (fx_s4 (List.mem_of_getElem? (i := 238) rfl) rfl)
abbrev cX5_copyFollows : ByteArray := prog_7_method_6_code
def yX5_copyFollows : MethodName := ⟨RX5, "copyFollows", "(LMockParcels$Plans;)V"⟩
theorem ym_X5_copyFollows : fx_Y yX5_copyFollows cX5_copyFollows 2 none 1 := ⟨(fx_s5 (List.mem_of_getElem? (i := 20) rfl) rfl), (fx_s1 (List.mem_of_getElem? (i := 6) rfl) rfl), by decide +kernel⟩
theorem yi_X5_copyFollows : Cond.instanceMethod yX5_copyFollows ∈ fx_all := (fx_s5 (List.mem_of_getElem? (i := 18) rfl) rfl)
theorem ys_X5_copyFollows : Cond.selects (yX5_copyFollows).cls yX5_copyFollows yX5_copyFollows ∈ fx_all := (fx_s5 (List.mem_of_getElem? (i := 19) rfl) rfl)
abbrev cX5_copyWants : ByteArray := prog_7_method_7_code
def yX5_copyWants : MethodName := ⟨RX5, "copyWants", "(LMockParcels$Plans;)V"⟩
theorem ym_X5_copyWants : fx_Y yX5_copyWants cX5_copyWants 2 none 1 := ⟨(fx_s5 (List.mem_of_getElem? (i := 29) rfl) rfl), (fx_s1 (List.mem_of_getElem? (i := 6) rfl) rfl), by decide +kernel⟩
theorem yi_X5_copyWants : Cond.instanceMethod yX5_copyWants ∈ fx_all := (fx_s5 (List.mem_of_getElem? (i := 27) rfl) rfl)
theorem ys_X5_copyWants : Cond.selects (yX5_copyWants).cls yX5_copyWants yX5_copyWants ∈ fx_all := (fx_s5 (List.mem_of_getElem? (i := 28) rfl) rfl)
abbrev cX5_copyWeek : ByteArray := prog_7_method_8_code
def yX5_copyWeek : MethodName := ⟨RX5, "copyWeek", "(LMockParcels$Plans;)V"⟩
theorem ym_X5_copyWeek : fx_Y yX5_copyWeek cX5_copyWeek 2 none 1 := ⟨(fx_s5 (List.mem_of_getElem? (i := 25) rfl) rfl), (fx_s1 (List.mem_of_getElem? (i := 6) rfl) rfl), by decide +kernel⟩
theorem yi_X5_copyWeek : Cond.instanceMethod yX5_copyWeek ∈ fx_all := (fx_s5 (List.mem_of_getElem? (i := 23) rfl) rfl)
theorem ys_X5_copyWeek : Cond.selects (yX5_copyWeek).cls yX5_copyWeek yX5_copyWeek ∈ fx_all := (fx_s5 (List.mem_of_getElem? (i := 24) rfl) rfl)
abbrev cX6_init : ByteArray := prog_8_method_1_code
def yX6_init : MethodName := ⟨RX6, "<init>", "()V"⟩
theorem ym_X6_init : fx_Y yX6_init cX6_init 1 none 0 := ⟨(fx_s1 (List.mem_of_getElem? (i := 85) rfl) rfl), (fx_s1 (List.mem_of_getElem? (i := 4) rfl) rfl), by decide +kernel⟩
theorem yi_X6_init : Cond.instanceMethod yX6_init ∈ fx_all := (fx_s1 (List.mem_of_getElem? (i := 84) rfl) rfl)
abbrev cX6_draw : ByteArray := prog_8_method_2_code
def yX6_draw : MethodName := ⟨RX6, "draw", "(I)I"⟩
theorem ym_X6_draw : fx_Y yX6_draw cX6_draw 2 (some .int) 1 := ⟨(fx_s3 (List.mem_of_getElem? (i := 174) rfl) rfl), (fx_s1 (List.mem_of_getElem? (i := 4) rfl) rfl), by decide +kernel⟩
theorem yi_X6_draw : Cond.instanceMethod yX6_draw ∈ fx_all := (fx_s3 (List.mem_of_getElem? (i := 172) rfl) rfl)
theorem ys_X6_draw : Cond.selects (yX6_draw).cls yX6_draw yX6_draw ∈ fx_all := (fx_s3 (List.mem_of_getElem? (i := 173) rfl) rfl)
abbrev cX6_things : ByteArray := prog_8_method_3_code
def yX6_things : MethodName := ⟨RX6, "things", "(I)I"⟩
theorem ym_X6_things : fx_Y yX6_things cX6_things 4 (some .int) 1 := ⟨(fx_s3 (List.mem_of_getElem? (i := 140) rfl) rfl), (fx_s1 (List.mem_of_getElem? (i := 4) rfl) rfl), by decide +kernel⟩
theorem yi_X6_things : Cond.instanceMethod yX6_things ∈ fx_all := (fx_s3 (List.mem_of_getElem? (i := 138) rfl) rfl)
theorem ys_X6_things : Cond.selects (yX6_things).cls yX6_things yX6_things ∈ fx_all := (fx_s3 (List.mem_of_getElem? (i := 139) rfl) rfl)
abbrev cX6_unsold : ByteArray := prog_8_method_4_code
def yX6_unsold : MethodName := ⟨RX6, "unsold", "(I)I"⟩
theorem ym_X6_unsold : fx_Y yX6_unsold cX6_unsold 4 (some .int) 1 := ⟨(fx_s5 (List.mem_of_getElem? (i := 66) rfl) rfl), (fx_s1 (List.mem_of_getElem? (i := 4) rfl) rfl), by decide +kernel⟩
theorem yi_X6_unsold : Cond.instanceMethod yX6_unsold ∈ fx_all := (fx_s5 (List.mem_of_getElem? (i := 64) rfl) rfl)
theorem ys_X6_unsold : Cond.selects (yX6_unsold).cls yX6_unsold yX6_unsold ∈ fx_all := (fx_s5 (List.mem_of_getElem? (i := 65) rfl) rfl)
abbrev cX6_copyFrom : ByteArray := prog_8_method_5_code
def yX6_copyFrom : MethodName := ⟨RX6, "copyFrom", "(LMockParcels$Quay;)V"⟩
theorem ym_X6_copyFrom : fx_Y yX6_copyFrom cX6_copyFrom 2 none 1 := ⟨(fx_s3 (List.mem_of_getElem? (i := 111) rfl) rfl), (fx_s1 (List.mem_of_getElem? (i := 4) rfl) rfl), by decide +kernel⟩
theorem yi_X6_copyFrom : Cond.instanceMethod yX6_copyFrom ∈ fx_all := (fx_s3 (List.mem_of_getElem? (i := 109) rfl) rfl)
theorem ys_X6_copyFrom : Cond.selects (yX6_copyFrom).cls yX6_copyFrom yX6_copyFrom ∈ fx_all := (fx_s3 (List.mem_of_getElem? (i := 110) rfl) rfl)
abbrev cX7_init : ByteArray := prog_9_method_1_code
def yX7_init : MethodName := ⟨RX7, "<init>", "()V"⟩
theorem ym_X7_init : fx_Y yX7_init cX7_init 1 none 0 := ⟨(fx_s2 (List.mem_of_getElem? (i := 162) rfl) rfl), (fx_s1 (List.mem_of_getElem? (i := 10) rfl) rfl), by decide +kernel⟩
theorem yi_X7_init : Cond.instanceMethod yX7_init ∈ fx_all := (fx_s2 (List.mem_of_getElem? (i := 161) rfl) rfl)
abbrev cX7_append : ByteArray := prog_9_method_2_code
def yX7_append : MethodName := ⟨RX7, "append", "(I)V"⟩
theorem ym_X7_append : fx_Y yX7_append cX7_append 3 none 1 := ⟨(fx_s4 (List.mem_of_getElem? (i := 5) rfl) rfl), (fx_s1 (List.mem_of_getElem? (i := 10) rfl) rfl), by decide +kernel⟩
theorem yi_X7_append : Cond.instanceMethod yX7_append ∈ fx_all := (fx_s4 (List.mem_of_getElem? (i := 3) rfl) rfl)
theorem ys_X7_append : Cond.selects (yX7_append).cls yX7_append yX7_append ∈ fx_all := (fx_s4 (List.mem_of_getElem? (i := 4) rfl) rfl)
abbrev cX7_begin : ByteArray := prog_9_method_3_code
def yX7_begin : MethodName := ⟨RX7, "begin", "()V"⟩
theorem ym_X7_begin : fx_Y yX7_begin cX7_begin 4 none 0 := ⟨(fx_s4 (List.mem_of_getElem? (i := 17) rfl) rfl), (fx_s1 (List.mem_of_getElem? (i := 10) rfl) rfl), by decide +kernel⟩
theorem yi_X7_begin : Cond.instanceMethod yX7_begin ∈ fx_all := (fx_s4 (List.mem_of_getElem? (i := 15) rfl) rfl)
theorem ys_X7_begin : Cond.selects (yX7_begin).cls yX7_begin yX7_begin ∈ fx_all := (fx_s4 (List.mem_of_getElem? (i := 16) rfl) rfl)
abbrev cX7_step : ByteArray := prog_9_method_4_code
def yX7_step : MethodName := ⟨RX7, "step", "()V"⟩
theorem ym_X7_step : fx_Y yX7_step cX7_step 1 none 0 := ⟨(fx_s4 (List.mem_of_getElem? (i := 180) rfl) rfl), (fx_s1 (List.mem_of_getElem? (i := 10) rfl) rfl), by decide +kernel⟩
theorem yi_X7_step : Cond.instanceMethod yX7_step ∈ fx_all := (fx_s4 (List.mem_of_getElem? (i := 178) rfl) rfl)
theorem ys_X7_step : Cond.selects (yX7_step).cls yX7_step yX7_step ∈ fx_all := (fx_s4 (List.mem_of_getElem? (i := 179) rfl) rfl)
abbrev cX7_refuse : ByteArray := prog_9_method_5_code
def yX7_refuse : MethodName := ⟨RX7, "refuse", "(I)Z"⟩
theorem ym_X7_refuse : fx_Y yX7_refuse cX7_refuse 2 (some .boolean) 1 := ⟨(fx_s4 (List.mem_of_getElem? (i := 172) rfl) rfl), (fx_s1 (List.mem_of_getElem? (i := 10) rfl) rfl), by decide +kernel⟩
theorem yi_X7_refuse : Cond.instanceMethod yX7_refuse ∈ fx_all := (fx_s4 (List.mem_of_getElem? (i := 170) rfl) rfl)
theorem ys_X7_refuse : Cond.selects (yX7_refuse).cls yX7_refuse yX7_refuse ∈ fx_all := (fx_s4 (List.mem_of_getElem? (i := 171) rfl) rfl)
abbrev cX7_take : ByteArray := prog_9_method_6_code
def yX7_take : MethodName := ⟨RX7, "take", "(I)Z"⟩
theorem ym_X7_take : fx_Y yX7_take cX7_take 2 (some .boolean) 1 := ⟨(fx_s4 (List.mem_of_getElem? (i := 204) rfl) rfl), (fx_s1 (List.mem_of_getElem? (i := 10) rfl) rfl), by decide +kernel⟩
theorem yi_X7_take : Cond.instanceMethod yX7_take ∈ fx_all := (fx_s4 (List.mem_of_getElem? (i := 202) rfl) rfl)
theorem ys_X7_take : Cond.selects (yX7_take).cls yX7_take yX7_take ∈ fx_all := (fx_s4 (List.mem_of_getElem? (i := 203) rfl) rfl)
abbrev cX7_isNumber : ByteArray := prog_9_method_7_code
def yX7_isNumber : MethodName := ⟨RX7, "isNumber", "(II)Z"⟩
theorem ym_X7_isNumber : fx_Y yX7_isNumber cX7_isNumber 3 (some .boolean) 2 := ⟨(fx_s4 (List.mem_of_getElem? (i := 222) rfl) rfl), (fx_s1 (List.mem_of_getElem? (i := 10) rfl) rfl), by decide +kernel⟩
theorem yi_X7_isNumber : Cond.instanceMethod yX7_isNumber ∈ fx_all := (fx_s4 (List.mem_of_getElem? (i := 220) rfl) rfl)
theorem ys_X7_isNumber : Cond.selects (yX7_isNumber).cls yX7_isNumber yX7_isNumber ∈ fx_all := (fx_s4 (List.mem_of_getElem? (i := 221) rfl) rfl)
abbrev cX7_addToken : ByteArray := prog_9_method_8_code
def yX7_addToken : MethodName := ⟨RX7, "addToken", "(II)V"⟩
theorem ym_X7_addToken : fx_Y yX7_addToken cX7_addToken 3 none 2 := ⟨(fx_s4 (List.mem_of_getElem? (i := 151) rfl) rfl), (fx_s1 (List.mem_of_getElem? (i := 10) rfl) rfl), by decide +kernel⟩
theorem yi_X7_addToken : Cond.instanceMethod yX7_addToken ∈ fx_all := (fx_s4 (List.mem_of_getElem? (i := 150) rfl) rfl)
theorem ys_X7_addToken : Cond.selects (yX7_addToken).cls yX7_addToken yX7_addToken ∈ fx_all := fx_sel (q := (yX7_addToken, 9)) (List.mem_of_getElem? (i := 18) rfl)
abbrev cX7_behindToken : ByteArray := prog_9_method_9_code
def yX7_behindToken : MethodName := ⟨RX7, "behindToken", "(I)I"⟩
theorem ym_X7_behindToken : fx_Y yX7_behindToken cX7_behindToken 5 (some .int) 1 := ⟨(fx_s4 (List.mem_of_getElem? (i := 24) rfl) rfl), (fx_s1 (List.mem_of_getElem? (i := 10) rfl) rfl), by decide +kernel⟩
theorem yi_X7_behindToken : Cond.instanceMethod yX7_behindToken ∈ fx_all := (fx_s4 (List.mem_of_getElem? (i := 23) rfl) rfl)
theorem ys_X7_behindToken : Cond.selects (yX7_behindToken).cls yX7_behindToken yX7_behindToken ∈ fx_all := fx_sel (q := (yX7_behindToken, 9)) (List.mem_of_getElem? (i := 14) rfl)
abbrev cX7_tokenOf : ByteArray := prog_9_method_10_code
def yX7_tokenOf : MethodName := ⟨RX7, "tokenOf", "(II)I"⟩
theorem ym_X7_tokenOf : fx_Y yX7_tokenOf cX7_tokenOf 3 (some .int) 2 := ⟨(fx_s4 (List.mem_of_getElem? (i := 34) rfl) rfl), (fx_s1 (List.mem_of_getElem? (i := 10) rfl) rfl), by decide +kernel⟩
theorem yi_X7_tokenOf : Cond.instanceMethod yX7_tokenOf ∈ fx_all := (fx_s4 (List.mem_of_getElem? (i := 33) rfl) rfl)
theorem ys_X7_tokenOf : Cond.selects (yX7_tokenOf).cls yX7_tokenOf yX7_tokenOf ∈ fx_all := fx_sel (q := (yX7_tokenOf, 9)) (List.mem_of_getElem? (i := 15) rfl)
abbrev cX7_keyword : ByteArray := prog_9_method_11_code
def yX7_keyword : MethodName := ⟨RX7, "keyword", "(II)I"⟩
theorem ym_X7_keyword : fx_Y yX7_keyword cX7_keyword 8 (some .int) 2 := ⟨(fx_s4 (List.mem_of_getElem? (i := 38) rfl) rfl), (fx_s1 (List.mem_of_getElem? (i := 10) rfl) rfl), by decide +kernel⟩
theorem yi_X7_keyword : Cond.instanceMethod yX7_keyword ∈ fx_all := (fx_s4 (List.mem_of_getElem? (i := 37) rfl) rfl)
theorem ys_X7_keyword : Cond.selects (yX7_keyword).cls yX7_keyword yX7_keyword ∈ fx_all := fx_sel (q := (yX7_keyword, 9)) (List.mem_of_getElem? (i := 16) rfl)
abbrev cX7_number : ByteArray := prog_9_method_12_code
def yX7_number : MethodName := ⟨RX7, "number", "(II)I"⟩
theorem ym_X7_number : fx_Y yX7_number cX7_number 5 (some .int) 2 := ⟨(fx_s4 (List.mem_of_getElem? (i := 91) rfl) rfl), (fx_s1 (List.mem_of_getElem? (i := 10) rfl) rfl), by decide +kernel⟩
theorem yi_X7_number : Cond.instanceMethod yX7_number ∈ fx_all := (fx_s4 (List.mem_of_getElem? (i := 90) rfl) rfl)
theorem ys_X7_number : Cond.selects (yX7_number).cls yX7_number yX7_number ∈ fx_all := fx_sel (q := (yX7_number, 9)) (List.mem_of_getElem? (i := 17) rfl)
abbrev cX7_isBlank : ByteArray := prog_9_method_13_code
def yX7_isBlank : MethodName := ⟨RX7, "isBlank", "(I)Z"⟩
theorem ym_X7_isBlank : fx_Y yX7_isBlank cX7_isBlank 1 (some .boolean) 1 := ⟨(fx_s4 (List.mem_of_getElem? (i := 20) rfl) rfl), (fx_s1 (List.mem_of_getElem? (i := 10) rfl) rfl), by decide +kernel⟩
theorem yt_X7_isBlank : Cond.static yX7_isBlank ∈ fx_all := (fx_s4 (List.mem_of_getElem? (i := 19) rfl) rfl)
abbrev cX7_isLetter : ByteArray := prog_9_method_14_code
def yX7_isLetter : MethodName := ⟨RX7, "isLetter", "(I)Z"⟩
theorem ym_X7_isLetter : fx_Y yX7_isLetter cX7_isLetter 1 (some .boolean) 1 := ⟨(fx_s4 (List.mem_of_getElem? (i := 27) rfl) rfl), (fx_s1 (List.mem_of_getElem? (i := 10) rfl) rfl), by decide +kernel⟩
theorem yt_X7_isLetter : Cond.static yX7_isLetter ∈ fx_all := (fx_s4 (List.mem_of_getElem? (i := 26) rfl) rfl)
abbrev cX7_isDigit : ByteArray := prog_9_method_15_code
def yX7_isDigit : MethodName := ⟨RX7, "isDigit", "(I)Z"⟩
theorem ym_X7_isDigit : fx_Y yX7_isDigit cX7_isDigit 1 (some .boolean) 1 := ⟨(fx_s4 (List.mem_of_getElem? (i := 30) rfl) rfl), (fx_s1 (List.mem_of_getElem? (i := 10) rfl) rfl), by decide +kernel⟩
theorem yt_X7_isDigit : Cond.static yX7_isDigit ∈ fx_all := (fx_s4 (List.mem_of_getElem? (i := 29) rfl) rfl)
abbrev cX8_init : ByteArray := prog_10_method_1_code
def yX8_init : MethodName := ⟨RX8, "<init>", "()V"⟩
theorem ym_X8_init : fx_Y yX8_init cX8_init 1 none 0 := ⟨(fx_s2 (List.mem_of_getElem? (i := 228) rfl) rfl), (fx_s1 (List.mem_of_getElem? (i := 12) rfl) rfl), by decide +kernel⟩
theorem yi_X8_init : Cond.instanceMethod yX8_init ∈ fx_all := (fx_s2 (List.mem_of_getElem? (i := 227) rfl) rfl)
abbrev cX8_change : ByteArray := prog_10_method_2_code
def yX8_change : MethodName := ⟨RX8, "change", "([III)V"⟩
theorem ym_X8_change : fx_Y yX8_change cX8_change 5 none 3 := ⟨(fx_s5 (List.mem_of_getElem? (i := 84) rfl) rfl), (fx_s1 (List.mem_of_getElem? (i := 12) rfl) rfl), by decide +kernel⟩
theorem yi_X8_change : Cond.instanceMethod yX8_change ∈ fx_all := (fx_s5 (List.mem_of_getElem? (i := 82) rfl) rfl)
theorem ys_X8_change : Cond.selects (yX8_change).cls yX8_change yX8_change ∈ fx_all := (fx_s5 (List.mem_of_getElem? (i := 83) rfl) rfl)
abbrev cX8_addSize : ByteArray := prog_10_method_3_code
def yX8_addSize : MethodName := ⟨RX8, "addSize", "(II)V"⟩
theorem ym_X8_addSize : fx_Y yX8_addSize cX8_addSize 5 none 2 := ⟨(fx_s5 (List.mem_of_getElem? (i := 88) rfl) rfl), (fx_s1 (List.mem_of_getElem? (i := 12) rfl) rfl), by decide +kernel⟩
theorem yi_X8_addSize : Cond.instanceMethod yX8_addSize ∈ fx_all := (fx_s5 (List.mem_of_getElem? (i := 87) rfl) rfl)
theorem ys_X8_addSize : Cond.selects (yX8_addSize).cls yX8_addSize yX8_addSize ∈ fx_all := fx_sel (q := (yX8_addSize, 7)) (List.mem_of_getElem? (i := 31) rfl)
abbrev cX8_fewestStrings : ByteArray := prog_10_method_4_code
def yX8_fewestStrings : MethodName := ⟨RX8, "fewestStrings", "(LMockParcels$Told;I)I"⟩
theorem ym_X8_fewestStrings : fx_Y yX8_fewestStrings cX8_fewestStrings 7 (some .int) 2 := ⟨(fx_s5 (List.mem_of_getElem? (i := 102) rfl) rfl), (fx_s1 (List.mem_of_getElem? (i := 12) rfl) rfl), by decide +kernel⟩
theorem yi_X8_fewestStrings : Cond.instanceMethod yX8_fewestStrings ∈ fx_all := (fx_s5 (List.mem_of_getElem? (i := 100) rfl) rfl)
theorem ys_X8_fewestStrings : Cond.selects (yX8_fewestStrings).cls yX8_fewestStrings yX8_fewestStrings ∈ fx_all := (fx_s5 (List.mem_of_getElem? (i := 101) rfl) rfl)
abbrev cX8_cutOne : ByteArray := prog_10_method_5_code
def yX8_cutOne : MethodName := ⟨RX8, "cutOne", "(III)I"⟩
theorem ym_X8_cutOne : fx_Y yX8_cutOne cX8_cutOne 5 (some .int) 3 := ⟨(fx_s5 (List.mem_of_getElem? (i := 107) rfl) rfl), (fx_s1 (List.mem_of_getElem? (i := 12) rfl) rfl), by decide +kernel⟩
theorem yi_X8_cutOne : Cond.instanceMethod yX8_cutOne ∈ fx_all := (fx_s5 (List.mem_of_getElem? (i := 106) rfl) rfl)
theorem ys_X8_cutOne : Cond.selects (yX8_cutOne).cls yX8_cutOne yX8_cutOne ∈ fx_all := fx_sel (q := (yX8_cutOne, 7)) (List.mem_of_getElem? (i := 32) rfl)
abbrev cX8_trade : ByteArray := prog_10_method_6_code
def yX8_trade : MethodName := ⟨RX8, "trade", "(LMockParcels$Told;)I"⟩
theorem ym_X8_trade : fx_Y yX8_trade cX8_trade 7 (some .int) 1 := ⟨(fx_s5 (List.mem_of_getElem? (i := 139) rfl) rfl), (fx_s1 (List.mem_of_getElem? (i := 12) rfl) rfl), by decide +kernel⟩
theorem yi_X8_trade : Cond.instanceMethod yX8_trade ∈ fx_all := (fx_s5 (List.mem_of_getElem? (i := 137) rfl) rfl)
theorem ys_X8_trade : Cond.selects (yX8_trade).cls yX8_trade yX8_trade ∈ fx_all := (fx_s5 (List.mem_of_getElem? (i := 138) rfl) rfl)
abbrev cX8_pointAll : ByteArray := prog_10_method_7_code
def yX8_pointAll : MethodName := ⟨RX8, "pointAll", "(LMockParcels$Told;I)V"⟩
theorem ym_X8_pointAll : fx_Y yX8_pointAll cX8_pointAll 6 none 2 := ⟨(fx_s5 (List.mem_of_getElem? (i := 143) rfl) rfl), (fx_s1 (List.mem_of_getElem? (i := 12) rfl) rfl), by decide +kernel⟩
theorem yi_X8_pointAll : Cond.instanceMethod yX8_pointAll ∈ fx_all := (fx_s5 (List.mem_of_getElem? (i := 142) rfl) rfl)
theorem ys_X8_pointAll : Cond.selects (yX8_pointAll).cls yX8_pointAll yX8_pointAll ∈ fx_all := fx_sel (q := (yX8_pointAll, 7)) (List.mem_of_getElem? (i := 34) rfl)
abbrev cX8_goesRound : ByteArray := prog_10_method_8_code
def yX8_goesRound : MethodName := ⟨RX8, "goesRound", "(I)Z"⟩
theorem ym_X8_goesRound : fx_Y yX8_goesRound cX8_goesRound 4 (some .boolean) 1 := ⟨(fx_s5 (List.mem_of_getElem? (i := 147) rfl) rfl), (fx_s1 (List.mem_of_getElem? (i := 12) rfl) rfl), by decide +kernel⟩
theorem yi_X8_goesRound : Cond.instanceMethod yX8_goesRound ∈ fx_all := (fx_s5 (List.mem_of_getElem? (i := 146) rfl) rfl)
theorem ys_X8_goesRound : Cond.selects (yX8_goesRound).cls yX8_goesRound yX8_goesRound ∈ fx_all := fx_sel (q := (yX8_goesRound, 7)) (List.mem_of_getElem? (i := 35) rfl)
abbrev cX8_shareOut : ByteArray := prog_10_method_9_code
def yX8_shareOut : MethodName := ⟨RX8, "shareOut", "(LMockParcels$Plans;I)I"⟩
theorem ym_X8_shareOut : fx_Y yX8_shareOut cX8_shareOut 6 (some .int) 2 := ⟨(fx_s5 (List.mem_of_getElem? (i := 156) rfl) rfl), (fx_s1 (List.mem_of_getElem? (i := 12) rfl) rfl), by decide +kernel⟩
theorem yi_X8_shareOut : Cond.instanceMethod yX8_shareOut ∈ fx_all := (fx_s5 (List.mem_of_getElem? (i := 154) rfl) rfl)
theorem ys_X8_shareOut : Cond.selects (yX8_shareOut).cls yX8_shareOut yX8_shareOut ∈ fx_all := (fx_s5 (List.mem_of_getElem? (i := 155) rfl) rfl)
abbrev cX8_bestFor : ByteArray := prog_10_method_10_code
def yX8_bestFor : MethodName := ⟨RX8, "bestFor", "(LMockParcels$Plans;II)I"⟩
theorem ym_X8_bestFor : fx_Y yX8_bestFor cX8_bestFor 6 (some .int) 3 := ⟨(fx_s5 (List.mem_of_getElem? (i := 160) rfl) rfl), (fx_s1 (List.mem_of_getElem? (i := 12) rfl) rfl), by decide +kernel⟩
theorem yi_X8_bestFor : Cond.instanceMethod yX8_bestFor ∈ fx_all := (fx_s5 (List.mem_of_getElem? (i := 159) rfl) rfl)
theorem ys_X8_bestFor : Cond.selects (yX8_bestFor).cls yX8_bestFor yX8_bestFor ∈ fx_all := fx_sel (q := (yX8_bestFor, 7)) (List.mem_of_getElem? (i := 36) rfl)
abbrev cX8_leastKind : ByteArray := prog_10_method_11_code
def yX8_leastKind : MethodName := ⟨RX8, "leastKind", "(LMockParcels$Plans;II)I"⟩
theorem ym_X8_leastKind : fx_Y yX8_leastKind cX8_leastKind 5 (some .int) 3 := ⟨(fx_s5 (List.mem_of_getElem? (i := 172) rfl) rfl), (fx_s1 (List.mem_of_getElem? (i := 12) rfl) rfl), by decide +kernel⟩
theorem yi_X8_leastKind : Cond.instanceMethod yX8_leastKind ∈ fx_all := (fx_s5 (List.mem_of_getElem? (i := 171) rfl) rfl)
theorem ys_X8_leastKind : Cond.selects (yX8_leastKind).cls yX8_leastKind yX8_leastKind ∈ fx_all := fx_sel (q := (yX8_leastKind, 7)) (List.mem_of_getElem? (i := 39) rfl)
abbrev cX8_wanted : ByteArray := prog_10_method_12_code
def yX8_wanted : MethodName := ⟨RX8, "wanted", "(LMockParcels$Plans;III)I"⟩
theorem ym_X8_wanted : fx_Y yX8_wanted cX8_wanted 5 (some .int) 4 := ⟨(fx_s5 (List.mem_of_getElem? (i := 168) rfl) rfl), (fx_s1 (List.mem_of_getElem? (i := 12) rfl) rfl), by decide +kernel⟩
theorem yi_X8_wanted : Cond.instanceMethod yX8_wanted ∈ fx_all := (fx_s5 (List.mem_of_getElem? (i := 167) rfl) rfl)
theorem ys_X8_wanted : Cond.selects (yX8_wanted).cls yX8_wanted yX8_wanted ∈ fx_all := fx_sel (q := (yX8_wanted, 7)) (List.mem_of_getElem? (i := 38) rfl)
abbrev cX8_bitOf : ByteArray := prog_10_method_13_code
def yX8_bitOf : MethodName := ⟨RX8, "bitOf", "(I)I"⟩
theorem ym_X8_bitOf : fx_Y yX8_bitOf cX8_bitOf 2 (some .int) 1 := ⟨(fx_s5 (List.mem_of_getElem? (i := 164) rfl) rfl), (fx_s1 (List.mem_of_getElem? (i := 12) rfl) rfl), by decide +kernel⟩
theorem yi_X8_bitOf : Cond.instanceMethod yX8_bitOf ∈ fx_all := (fx_s5 (List.mem_of_getElem? (i := 163) rfl) rfl)
theorem ys_X8_bitOf : Cond.selects (yX8_bitOf).cls yX8_bitOf yX8_bitOf ∈ fx_all := fx_sel (q := (yX8_bitOf, 7)) (List.mem_of_getElem? (i := 37) rfl)
abbrev cX8_bestPut : ByteArray := prog_10_method_14_code
def yX8_bestPut : MethodName := ⟨RX8, "bestPut", "(LMockParcels$Told;)I"⟩
theorem ym_X8_bestPut : fx_Y yX8_bestPut cX8_bestPut 7 (some .int) 1 := ⟨(fx_s5 (List.mem_of_getElem? (i := 184) rfl) rfl), (fx_s1 (List.mem_of_getElem? (i := 12) rfl) rfl), by decide +kernel⟩
theorem yi_X8_bestPut : Cond.instanceMethod yX8_bestPut ∈ fx_all := (fx_s5 (List.mem_of_getElem? (i := 182) rfl) rfl)
theorem ys_X8_bestPut : Cond.selects (yX8_bestPut).cls yX8_bestPut yX8_bestPut ∈ fx_all := (fx_s5 (List.mem_of_getElem? (i := 183) rfl) rfl)
abbrev cX8_isInTime : ByteArray := prog_10_method_15_code
def yX8_isInTime : MethodName := ⟨RX8, "isInTime", "(LMockParcels$Told;II)Z"⟩
theorem ym_X8_isInTime : fx_Y yX8_isInTime cX8_isInTime 7 (some .boolean) 3 := ⟨(fx_s5 (List.mem_of_getElem? (i := 188) rfl) rfl), (fx_s1 (List.mem_of_getElem? (i := 12) rfl) rfl), by decide +kernel⟩
theorem yi_X8_isInTime : Cond.instanceMethod yX8_isInTime ∈ fx_all := (fx_s5 (List.mem_of_getElem? (i := 187) rfl) rfl)
theorem ys_X8_isInTime : Cond.selects (yX8_isInTime).cls yX8_isInTime yX8_isInTime ∈ fx_all := fx_sel (q := (yX8_isInTime, 7)) (List.mem_of_getElem? (i := 40) rfl)
abbrev cX8_matching : ByteArray := prog_10_method_16_code
def yX8_matching : MethodName := ⟨RX8, "matching", "(LMockParcels$Told;I)I"⟩
theorem ym_X8_matching : fx_Y yX8_matching cX8_matching 5 (some .int) 2 := ⟨(fx_s5 (List.mem_of_getElem? (i := 202) rfl) rfl), (fx_s1 (List.mem_of_getElem? (i := 12) rfl) rfl), by decide +kernel⟩
theorem yi_X8_matching : Cond.instanceMethod yX8_matching ∈ fx_all := (fx_s5 (List.mem_of_getElem? (i := 200) rfl) rfl)
theorem ys_X8_matching : Cond.selects (yX8_matching).cls yX8_matching yX8_matching ∈ fx_all := (fx_s5 (List.mem_of_getElem? (i := 201) rfl) rfl)
abbrev cX8_fewestClues : ByteArray := prog_10_method_17_code
def yX8_fewestClues : MethodName := ⟨RX8, "fewestClues", "(LMockParcels$Told;I)I"⟩
theorem ym_X8_fewestClues : fx_Y yX8_fewestClues cX8_fewestClues 7 (some .int) 2 := ⟨(fx_s5 (List.mem_of_getElem? (i := 206) rfl) rfl), (fx_s1 (List.mem_of_getElem? (i := 12) rfl) rfl), by decide +kernel⟩
theorem yi_X8_fewestClues : Cond.instanceMethod yX8_fewestClues ∈ fx_all := (fx_s5 (List.mem_of_getElem? (i := 204) rfl) rfl)
theorem ys_X8_fewestClues : Cond.selects (yX8_fewestClues).cls yX8_fewestClues yX8_fewestClues ∈ fx_all := (fx_s5 (List.mem_of_getElem? (i := 205) rfl) rfl)
abbrev cX8_tellsAll : ByteArray := prog_10_method_18_code
def yX8_tellsAll : MethodName := ⟨RX8, "tellsAll", "(II)Z"⟩
theorem ym_X8_tellsAll : fx_Y yX8_tellsAll cX8_tellsAll 5 (some .boolean) 2 := ⟨(fx_s5 (List.mem_of_getElem? (i := 210) rfl) rfl), (fx_s1 (List.mem_of_getElem? (i := 12) rfl) rfl), by decide +kernel⟩
theorem yi_X8_tellsAll : Cond.instanceMethod yX8_tellsAll ∈ fx_all := (fx_s5 (List.mem_of_getElem? (i := 209) rfl) rfl)
theorem ys_X8_tellsAll : Cond.selects (yX8_tellsAll).cls yX8_tellsAll yX8_tellsAll ∈ fx_all := fx_sel (q := (yX8_tellsAll, 7)) (List.mem_of_getElem? (i := 41) rfl)
abbrev cX8_raidsApart : ByteArray := prog_10_method_19_code
def yX8_raidsApart : MethodName := ⟨RX8, "raidsApart", "(LMockParcels$Told;)I"⟩
theorem ym_X8_raidsApart : fx_Y yX8_raidsApart cX8_raidsApart 4 (some .int) 1 := ⟨(fx_s5 (List.mem_of_getElem? (i := 222) rfl) rfl), (fx_s1 (List.mem_of_getElem? (i := 12) rfl) rfl), by decide +kernel⟩
theorem yi_X8_raidsApart : Cond.instanceMethod yX8_raidsApart ∈ fx_all := (fx_s5 (List.mem_of_getElem? (i := 220) rfl) rfl)
theorem ys_X8_raidsApart : Cond.selects (yX8_raidsApart).cls yX8_raidsApart yX8_raidsApart ∈ fx_all := (fx_s5 (List.mem_of_getElem? (i := 221) rfl) rfl)
abbrev cX8_divisor : ByteArray := prog_10_method_20_code
def yX8_divisor : MethodName := ⟨RX8, "divisor", "(II)I"⟩
theorem ym_X8_divisor : fx_Y yX8_divisor cX8_divisor 7 (some .int) 2 := ⟨(fx_s5 (List.mem_of_getElem? (i := 229) rfl) rfl), (fx_s1 (List.mem_of_getElem? (i := 12) rfl) rfl), by decide +kernel⟩
theorem yi_X8_divisor : Cond.instanceMethod yX8_divisor ∈ fx_all := (fx_s5 (List.mem_of_getElem? (i := 228) rfl) rfl)
theorem ys_X8_divisor : Cond.selects (yX8_divisor).cls yX8_divisor yX8_divisor ∈ fx_all := fx_sel (q := (yX8_divisor, 7)) (List.mem_of_getElem? (i := 42) rfl)
abbrev cX8_suspicion : ByteArray := prog_10_method_21_code
def yX8_suspicion : MethodName := ⟨RX8, "suspicion", "(III)I"⟩
theorem ym_X8_suspicion : fx_Y yX8_suspicion cX8_suspicion 6 (some .int) 3 := ⟨(fx_s6 (List.mem_of_getElem? (i := 0) rfl) rfl), (fx_s1 (List.mem_of_getElem? (i := 12) rfl) rfl), by decide +kernel⟩
theorem yi_X8_suspicion : Cond.instanceMethod yX8_suspicion ∈ fx_all := (fx_s5 (List.mem_of_getElem? (i := 238) rfl) rfl)
theorem ys_X8_suspicion : Cond.selects (yX8_suspicion).cls yX8_suspicion yX8_suspicion ∈ fx_all := (fx_s5 (List.mem_of_getElem? (i := 239) rfl) rfl)
abbrev cX8_weighed : ByteArray := prog_10_method_22_code
def yX8_weighed : MethodName := ⟨RX8, "weighed", "(III)I"⟩
theorem ym_X8_weighed : fx_Y yX8_weighed cX8_weighed 8 (some .int) 3 := ⟨(fx_s6 (List.mem_of_getElem? (i := 4) rfl) rfl), (fx_s1 (List.mem_of_getElem? (i := 12) rfl) rfl), by decide +kernel⟩
theorem yi_X8_weighed : Cond.instanceMethod yX8_weighed ∈ fx_all := (fx_s6 (List.mem_of_getElem? (i := 3) rfl) rfl)
theorem ys_X8_weighed : Cond.selects (yX8_weighed).cls yX8_weighed yX8_weighed ∈ fx_all := fx_sel (q := (yX8_weighed, 7)) (List.mem_of_getElem? (i := 43) rfl)
abbrev cX8_nearestSide : ByteArray := prog_10_method_23_code
def yX8_nearestSide : MethodName := ⟨RX8, "nearestSide", "([II)I"⟩
theorem ym_X8_nearestSide : fx_Y yX8_nearestSide cX8_nearestSide 6 (some .int) 2 := ⟨(fx_s6 (List.mem_of_getElem? (i := 14) rfl) rfl), (fx_s1 (List.mem_of_getElem? (i := 12) rfl) rfl), by decide +kernel⟩
theorem yi_X8_nearestSide : Cond.instanceMethod yX8_nearestSide ∈ fx_all := (fx_s6 (List.mem_of_getElem? (i := 12) rfl) rfl)
theorem ys_X8_nearestSide : Cond.selects (yX8_nearestSide).cls yX8_nearestSide yX8_nearestSide ∈ fx_all := (fx_s6 (List.mem_of_getElem? (i := 13) rfl) rfl)
abbrev cX8_gap : ByteArray := prog_10_method_24_code
def yX8_gap : MethodName := ⟨RX8, "gap", "([III)I"⟩
theorem ym_X8_gap : fx_Y yX8_gap cX8_gap 6 (some .int) 3 := ⟨(fx_s6 (List.mem_of_getElem? (i := 18) rfl) rfl), (fx_s1 (List.mem_of_getElem? (i := 12) rfl) rfl), by decide +kernel⟩
theorem yi_X8_gap : Cond.instanceMethod yX8_gap ∈ fx_all := (fx_s6 (List.mem_of_getElem? (i := 16) rfl) rfl)
theorem ys_X8_gap : Cond.selects (yX8_gap).cls yX8_gap yX8_gap ∈ fx_all := (fx_s6 (List.mem_of_getElem? (i := 17) rfl) rfl)
abbrev cX8_winningParcel : ByteArray := prog_10_method_25_code
def yX8_winningParcel : MethodName := ⟨RX8, "winningParcel", "(LMockParcels$Cast;LMockParcels$Quay;)I"⟩
theorem ym_X8_winningParcel : fx_Y yX8_winningParcel cX8_winningParcel 4 (some .int) 2 := ⟨(fx_s6 (List.mem_of_getElem? (i := 27) rfl) rfl), (fx_s1 (List.mem_of_getElem? (i := 12) rfl) rfl), by decide +kernel⟩
theorem yi_X8_winningParcel : Cond.instanceMethod yX8_winningParcel ∈ fx_all := (fx_s6 (List.mem_of_getElem? (i := 25) rfl) rfl)
theorem ys_X8_winningParcel : Cond.selects (yX8_winningParcel).cls yX8_winningParcel yX8_winningParcel ∈ fx_all := (fx_s6 (List.mem_of_getElem? (i := 26) rfl) rfl)
abbrev cX8_winningKnots : ByteArray := prog_10_method_26_code
def yX8_winningKnots : MethodName := ⟨RX8, "winningKnots", "(LMockParcels$Cast;LMockParcels$Quay;I)I"⟩
theorem ym_X8_winningKnots : fx_Y yX8_winningKnots cX8_winningKnots 7 (some .int) 3 := ⟨(fx_s6 (List.mem_of_getElem? (i := 31) rfl) rfl), (fx_s1 (List.mem_of_getElem? (i := 12) rfl) rfl), by decide +kernel⟩
theorem yi_X8_winningKnots : Cond.instanceMethod yX8_winningKnots ∈ fx_all := (fx_s6 (List.mem_of_getElem? (i := 29) rfl) rfl)
theorem ys_X8_winningKnots : Cond.selects (yX8_winningKnots).cls yX8_winningKnots yX8_winningKnots ∈ fx_all := (fx_s6 (List.mem_of_getElem? (i := 30) rfl) rfl)
abbrev cX8_worthOfAll : ByteArray := prog_10_method_27_code
def yX8_worthOfAll : MethodName := ⟨RX8, "worthOfAll", "(LMockParcels$Cast;LMockParcels$Quay;)I"⟩
theorem ym_X8_worthOfAll : fx_Y yX8_worthOfAll cX8_worthOfAll 5 (some .int) 2 := ⟨(fx_s6 (List.mem_of_getElem? (i := 36) rfl) rfl), (fx_s1 (List.mem_of_getElem? (i := 12) rfl) rfl), by decide +kernel⟩
theorem yi_X8_worthOfAll : Cond.instanceMethod yX8_worthOfAll ∈ fx_all := (fx_s6 (List.mem_of_getElem? (i := 35) rfl) rfl)
theorem ys_X8_worthOfAll : Cond.selects (yX8_worthOfAll).cls yX8_worthOfAll yX8_worthOfAll ∈ fx_all := fx_sel (q := (yX8_worthOfAll, 7)) (List.mem_of_getElem? (i := 44) rfl)
abbrev cX8_worth : ByteArray := prog_10_method_28_code
def yX8_worth : MethodName := ⟨RX8, "worth", "(I)I"⟩
theorem ym_X8_worth : fx_Y yX8_worth cX8_worth 2 (some .int) 1 := ⟨(fx_s6 (List.mem_of_getElem? (i := 40) rfl) rfl), (fx_s1 (List.mem_of_getElem? (i := 12) rfl) rfl), by decide +kernel⟩
theorem yi_X8_worth : Cond.instanceMethod yX8_worth ∈ fx_all := (fx_s6 (List.mem_of_getElem? (i := 39) rfl) rfl)
theorem ys_X8_worth : Cond.selects (yX8_worth).cls yX8_worth yX8_worth ∈ fx_all := fx_sel (q := (yX8_worth, 7)) (List.mem_of_getElem? (i := 45) rfl)
abbrev cX9_init : ByteArray := prog_11_method_1_code
def yX9_init : MethodName := ⟨RX9, "<init>", "()V"⟩
theorem ym_X9_init : fx_Y yX9_init cX9_init 2 none 0 := ⟨(fx_s2 (List.mem_of_getElem? (i := 1) rfl) rfl), (fx_s1 (List.mem_of_getElem? (i := 7) rfl) rfl), by decide +kernel⟩
theorem yi_X9_init : Cond.instanceMethod yX9_init ∈ fx_all := (fx_s2 (List.mem_of_getElem? (i := 0) rfl) rfl)
abbrev cX9_hasCoin : ByteArray := prog_11_method_2_code
def yX9_hasCoin : MethodName := ⟨RX9, "hasCoin", "(I)Z"⟩
theorem ym_X9_hasCoin : fx_Y yX9_hasCoin cX9_hasCoin 3 (some .boolean) 1 := ⟨(fx_s5 (List.mem_of_getElem? (i := 115) rfl) rfl), (fx_s1 (List.mem_of_getElem? (i := 7) rfl) rfl), by decide +kernel⟩
theorem yi_X9_hasCoin : Cond.instanceMethod yX9_hasCoin ∈ fx_all := (fx_s5 (List.mem_of_getElem? (i := 113) rfl) rfl)
theorem ys_X9_hasCoin : Cond.selects (yX9_hasCoin).cls yX9_hasCoin yX9_hasCoin ∈ fx_all := (fx_s5 (List.mem_of_getElem? (i := 114) rfl) rfl)
abbrev cX9_takeRank : ByteArray := prog_11_method_3_code
def yX9_takeRank : MethodName := ⟨RX9, "takeRank", "(II)Z"⟩
theorem ym_X9_takeRank : fx_Y yX9_takeRank cX9_takeRank 5 (some .boolean) 2 := ⟨(fx_s5 (List.mem_of_getElem? (i := 127) rfl) rfl), (fx_s1 (List.mem_of_getElem? (i := 7) rfl) rfl), by decide +kernel⟩
theorem yi_X9_takeRank : Cond.instanceMethod yX9_takeRank ∈ fx_all := (fx_s5 (List.mem_of_getElem? (i := 125) rfl) rfl)
theorem ys_X9_takeRank : Cond.selects (yX9_takeRank).cls yX9_takeRank yX9_takeRank ∈ fx_all := (fx_s5 (List.mem_of_getElem? (i := 126) rfl) rfl)
abbrev cX9_isRank : ByteArray := prog_11_method_4_code
def yX9_isRank : MethodName := ⟨RX9, "isRank", "(I)Z"⟩
theorem ym_X9_isRank : fx_Y yX9_isRank cX9_isRank 5 (some .boolean) 1 := ⟨(fx_s5 (List.mem_of_getElem? (i := 131) rfl) rfl), (fx_s1 (List.mem_of_getElem? (i := 7) rfl) rfl), by decide +kernel⟩
theorem yi_X9_isRank : Cond.instanceMethod yX9_isRank ∈ fx_all := (fx_s5 (List.mem_of_getElem? (i := 130) rfl) rfl)
theorem ys_X9_isRank : Cond.selects (yX9_isRank).cls yX9_isRank yX9_isRank ∈ fx_all := fx_sel (q := (yX9_isRank, 14)) (List.mem_of_getElem? (i := 33) rfl)
abbrev cX9_copyFrom : ByteArray := prog_11_method_5_code
def yX9_copyFrom : MethodName := ⟨RX9, "copyFrom", "(LMockParcels$Told;)V"⟩
theorem ym_X9_copyFrom : fx_Y yX9_copyFrom cX9_copyFrom 2 none 1 := ⟨(fx_s6 (List.mem_of_getElem? (i := 72) rfl) rfl), (fx_s1 (List.mem_of_getElem? (i := 7) rfl) rfl), by decide +kernel⟩
theorem yi_X9_copyFrom : Cond.instanceMethod yX9_copyFrom ∈ fx_all := (fx_s6 (List.mem_of_getElem? (i := 70) rfl) rfl)
theorem ys_X9_copyFrom : Cond.selects (yX9_copyFrom).cls yX9_copyFrom yX9_copyFrom ∈ fx_all := (fx_s6 (List.mem_of_getElem? (i := 71) rfl) rfl)
abbrev cX10_init : ByteArray := prog_12_method_1_code
def yX10_init : MethodName := ⟨RX10, "<init>", "()V"⟩
theorem ym_X10_init : fx_Y yX10_init cX10_init 1 none 0 := ⟨(fx_s1 (List.mem_of_getElem? (i := 33) rfl) rfl), (fx_s1 (List.mem_of_getElem? (i := 2) rfl) rfl), by decide +kernel⟩
theorem yi_X10_init : Cond.instanceMethod yX10_init ∈ fx_all := (fx_s1 (List.mem_of_getElem? (i := 32) rfl) rfl)
abbrev cX10_copyFrom : ByteArray := prog_12_method_2_code
def yX10_copyFrom : MethodName := ⟨RX10, "copyFrom", "(LMockParcels$Whole;)V"⟩
theorem ym_X10_copyFrom : fx_Y yX10_copyFrom cX10_copyFrom 2 none 1 := ⟨(fx_s6 (List.mem_of_getElem? (i := 57) rfl) rfl), (fx_s1 (List.mem_of_getElem? (i := 2) rfl) rfl), by decide +kernel⟩
theorem yi_X10_copyFrom : Cond.instanceMethod yX10_copyFrom ∈ fx_all := (fx_s6 (List.mem_of_getElem? (i := 55) rfl) rfl)
theorem ys_X10_copyFrom : Cond.selects (yX10_copyFrom).cls yX10_copyFrom yX10_copyFrom ∈ fx_all := (fx_s6 (List.mem_of_getElem? (i := 56) rfl) rfl)
abbrev cX11_init : ByteArray := prog_1_method_1_code
def yX11_init : MethodName := ⟨RX11, "<init>", "()V"⟩
theorem ym_X11_init : fx_Y yX11_init cX11_init 1 none 0 := ⟨(fx_s1 (List.mem_of_getElem? (i := 25) rfl) rfl), (fx_s1 (List.mem_of_getElem? (i := 1) rfl) rfl), by decide +kernel⟩
theorem yi_X11_init : Cond.instanceMethod yX11_init ∈ fx_all := (fx_s1 (List.mem_of_getElem? (i := 24) rfl) rfl)
abbrev cX11_state : ByteArray := prog_1_method_2_code
def yX11_state : MethodName := ⟨RX11, "state", "(I)I"⟩
theorem ym_X11_state : fx_Y yX11_state cX11_state 3 (some .int) 1 := ⟨(fx_s3 (List.mem_of_getElem? (i := 55) rfl) rfl), (fx_s1 (List.mem_of_getElem? (i := 1) rfl) rfl), by decide +kernel⟩
theorem yi_X11_state : Cond.instanceMethod yX11_state ∈ fx_all := (fx_s3 (List.mem_of_getElem? (i := 53) rfl) rfl)
theorem ys_X11_state : Cond.selects (yX11_state).cls yX11_state yX11_state ∈ fx_all := (fx_s3 (List.mem_of_getElem? (i := 54) rfl) rfl)
abbrev cX11_parcel : ByteArray := prog_1_method_3_code
def yX11_parcel : MethodName := ⟨RX11, "parcel", "(III)I"⟩
theorem ym_X11_parcel : fx_Y yX11_parcel cX11_parcel 4 (some .int) 3 := ⟨(fx_s3 (List.mem_of_getElem? (i := 63) rfl) rfl), (fx_s1 (List.mem_of_getElem? (i := 1) rfl) rfl), by decide +kernel⟩
theorem yi_X11_parcel : Cond.instanceMethod yX11_parcel ∈ fx_all := (fx_s3 (List.mem_of_getElem? (i := 61) rfl) rfl)
theorem ys_X11_parcel : Cond.selects (yX11_parcel).cls yX11_parcel yX11_parcel ∈ fx_all := (fx_s3 (List.mem_of_getElem? (i := 62) rfl) rfl)
abbrev cX11_bidder : ByteArray := prog_1_method_4_code
def yX11_bidder : MethodName := ⟨RX11, "bidder", "(IIZ)I"⟩
theorem ym_X11_bidder : fx_Y yX11_bidder cX11_bidder 4 (some .int) 3 := ⟨(fx_s3 (List.mem_of_getElem? (i := 74) rfl) rfl), (fx_s1 (List.mem_of_getElem? (i := 1) rfl) rfl), by decide +kernel⟩
theorem yi_X11_bidder : Cond.instanceMethod yX11_bidder ∈ fx_all := (fx_s3 (List.mem_of_getElem? (i := 72) rfl) rfl)
theorem ys_X11_bidder : Cond.selects (yX11_bidder).cls yX11_bidder yX11_bidder ∈ fx_all := (fx_s3 (List.mem_of_getElem? (i := 73) rfl) rfl)
abbrev cX11_set : ByteArray := prog_1_method_5_code
def yX11_set : MethodName := ⟨RX11, "set", "(III)Z"⟩
theorem ym_X11_set : fx_Y yX11_set cX11_set 4 (some .boolean) 3 := ⟨(fx_s3 (List.mem_of_getElem? (i := 82) rfl) rfl), (fx_s1 (List.mem_of_getElem? (i := 1) rfl) rfl), by decide +kernel⟩
theorem yi_X11_set : Cond.instanceMethod yX11_set ∈ fx_all := (fx_s3 (List.mem_of_getElem? (i := 80) rfl) rfl)
theorem ys_X11_set : Cond.selects (yX11_set).cls yX11_set yX11_set ∈ fx_all := (fx_s3 (List.mem_of_getElem? (i := 81) rfl) rfl)
abbrev cX11_canChange : ByteArray := prog_1_method_6_code
def yX11_canChange : MethodName := ⟨RX11, "canChange", "(III)Z"⟩
theorem ym_X11_canChange : fx_Y yX11_canChange cX11_canChange 4 (some .boolean) 3 := ⟨(fx_s3 (List.mem_of_getElem? (i := 86) rfl) rfl), (fx_s1 (List.mem_of_getElem? (i := 1) rfl) rfl), by decide +kernel⟩
theorem yi_X11_canChange : Cond.instanceMethod yX11_canChange ∈ fx_all := (fx_s3 (List.mem_of_getElem? (i := 85) rfl) rfl)
theorem ys_X11_canChange : Cond.selects (yX11_canChange).cls yX11_canChange yX11_canChange ∈ fx_all := fx_sel (q := (yX11_canChange, 12)) (List.mem_of_getElem? (i := 0) rfl)
abbrev cX11_sell : ByteArray := prog_1_method_7_code
def yX11_sell : MethodName := ⟨RX11, "sell", "(I)I"⟩
theorem ym_X11_sell : fx_Y yX11_sell cX11_sell 2 (some .int) 1 := ⟨(fx_s3 (List.mem_of_getElem? (i := 98) rfl) rfl), (fx_s1 (List.mem_of_getElem? (i := 1) rfl) rfl), by decide +kernel⟩
theorem yi_X11_sell : Cond.instanceMethod yX11_sell ∈ fx_all := (fx_s3 (List.mem_of_getElem? (i := 96) rfl) rfl)
theorem ys_X11_sell : Cond.selects (yX11_sell).cls yX11_sell yX11_sell ∈ fx_all := (fx_s3 (List.mem_of_getElem? (i := 97) rfl) rfl)
abbrev cX11_pay : ByteArray := prog_1_method_8_code
def yX11_pay : MethodName := ⟨RX11, "pay", "(II)Z"⟩
theorem ym_X11_pay : fx_Y yX11_pay cX11_pay 3 (some .boolean) 2 := ⟨(fx_s3 (List.mem_of_getElem? (i := 194) rfl) rfl), (fx_s1 (List.mem_of_getElem? (i := 1) rfl) rfl), by decide +kernel⟩
theorem yi_X11_pay : Cond.instanceMethod yX11_pay ∈ fx_all := (fx_s3 (List.mem_of_getElem? (i := 192) rfl) rfl)
theorem ys_X11_pay : Cond.selects (yX11_pay).cls yX11_pay yX11_pay ∈ fx_all := (fx_s3 (List.mem_of_getElem? (i := 193) rfl) rfl)
abbrev cX11_give : ByteArray := prog_1_method_9_code
def yX11_give : MethodName := ⟨RX11, "give", "(III)Z"⟩
theorem ym_X11_give : fx_Y yX11_give cX11_give 4 (some .boolean) 3 := ⟨(fx_s3 (List.mem_of_getElem? (i := 202) rfl) rfl), (fx_s1 (List.mem_of_getElem? (i := 1) rfl) rfl), by decide +kernel⟩
theorem yi_X11_give : Cond.instanceMethod yX11_give ∈ fx_all := (fx_s3 (List.mem_of_getElem? (i := 200) rfl) rfl)
theorem ys_X11_give : Cond.selects (yX11_give).cls yX11_give yX11_give ∈ fx_all := (fx_s3 (List.mem_of_getElem? (i := 201) rfl) rfl)
abbrev cX11_settle : ByteArray := prog_1_method_10_code
def yX11_settle : MethodName := ⟨RX11, "settle", "(I)I"⟩
theorem ym_X11_settle : fx_Y yX11_settle cX11_settle 2 (some .int) 1 := ⟨(fx_s3 (List.mem_of_getElem? (i := 211) rfl) rfl), (fx_s1 (List.mem_of_getElem? (i := 1) rfl) rfl), by decide +kernel⟩
theorem yi_X11_settle : Cond.instanceMethod yX11_settle ∈ fx_all := (fx_s3 (List.mem_of_getElem? (i := 209) rfl) rfl)
theorem ys_X11_settle : Cond.selects (yX11_settle).cls yX11_settle yX11_settle ∈ fx_all := (fx_s3 (List.mem_of_getElem? (i := 210) rfl) rfl)
abbrev cX11_days : ByteArray := prog_1_method_11_code
def yX11_days : MethodName := ⟨RX11, "days", "(I)I"⟩
theorem ym_X11_days : fx_Y yX11_days cX11_days 4 (some .int) 1 := ⟨(fx_s3 (List.mem_of_getElem? (i := 219) rfl) rfl), (fx_s1 (List.mem_of_getElem? (i := 1) rfl) rfl), by decide +kernel⟩
theorem yi_X11_days : Cond.instanceMethod yX11_days ∈ fx_all := (fx_s3 (List.mem_of_getElem? (i := 217) rfl) rfl)
theorem ys_X11_days : Cond.selects (yX11_days).cls yX11_days yX11_days ∈ fx_all := (fx_s3 (List.mem_of_getElem? (i := 218) rfl) rfl)
abbrev cX11_feed : ByteArray := prog_1_method_12_code
def yX11_feed : MethodName := ⟨RX11, "feed", "(IIIII)I"⟩
theorem ym_X11_feed : fx_Y yX11_feed cX11_feed 6 (some .int) 5 := ⟨(fx_s4 (List.mem_of_getElem? (i := 1) rfl) rfl), (fx_s1 (List.mem_of_getElem? (i := 1) rfl) rfl), by decide +kernel⟩
theorem yi_X11_feed : Cond.instanceMethod yX11_feed ∈ fx_all := (fx_s3 (List.mem_of_getElem? (i := 239) rfl) rfl)
theorem ys_X11_feed : Cond.selects (yX11_feed).cls yX11_feed yX11_feed ∈ fx_all := (fx_s4 (List.mem_of_getElem? (i := 0) rfl) rfl)
abbrev cX11_end : ByteArray := prog_1_method_13_code
def yX11_end : MethodName := ⟨RX11, "end", "(I)Z"⟩
theorem ym_X11_end : fx_Y yX11_end cX11_end 2 (some .boolean) 1 := ⟨(fx_s4 (List.mem_of_getElem? (i := 9) rfl) rfl), (fx_s1 (List.mem_of_getElem? (i := 1) rfl) rfl), by decide +kernel⟩
theorem yi_X11_end : Cond.instanceMethod yX11_end ∈ fx_all := (fx_s4 (List.mem_of_getElem? (i := 7) rfl) rfl)
theorem ys_X11_end : Cond.selects (yX11_end).cls yX11_end yX11_end ∈ fx_all := (fx_s4 (List.mem_of_getElem? (i := 8) rfl) rfl)
abbrev cX11_text : ByteArray := prog_1_method_14_code
def yX11_text : MethodName := ⟨RX11, "text", "(I)I"⟩
theorem ym_X11_text : fx_Y yX11_text cX11_text 3 (some .int) 1 := ⟨(fx_s4 (List.mem_of_getElem? (i := 13) rfl) rfl), (fx_s1 (List.mem_of_getElem? (i := 1) rfl) rfl), by decide +kernel⟩
theorem yi_X11_text : Cond.instanceMethod yX11_text ∈ fx_all := (fx_s4 (List.mem_of_getElem? (i := 11) rfl) rfl)
theorem ys_X11_text : Cond.selects (yX11_text).cls yX11_text yX11_text ∈ fx_all := (fx_s4 (List.mem_of_getElem? (i := 12) rfl) rfl)
abbrev cX11_takeText : ByteArray := prog_1_method_15_code
def yX11_takeText : MethodName := ⟨RX11, "takeText", "(I)V"⟩
theorem ym_X11_takeText : fx_Y yX11_takeText cX11_takeText 2 none 1 := ⟨(fx_s5 (List.mem_of_getElem? (i := 11) rfl) rfl), (fx_s1 (List.mem_of_getElem? (i := 1) rfl) rfl), by decide +kernel⟩
theorem yi_X11_takeText : Cond.instanceMethod yX11_takeText ∈ fx_all := (fx_s5 (List.mem_of_getElem? (i := 10) rfl) rfl)
theorem ys_X11_takeText : Cond.selects (yX11_takeText).cls yX11_takeText yX11_takeText ∈ fx_all := fx_sel (q := (yX11_takeText, 12)) (List.mem_of_getElem? (i := 29) rfl)
abbrev cX11_fault : ByteArray := prog_1_method_16_code
def yX11_fault : MethodName := ⟨RX11, "fault", "(I)I"⟩
theorem ym_X11_fault : fx_Y yX11_fault cX11_fault 2 (some .int) 1 := ⟨(fx_s5 (List.mem_of_getElem? (i := 34) rfl) rfl), (fx_s1 (List.mem_of_getElem? (i := 1) rfl) rfl), by decide +kernel⟩
theorem yi_X11_fault : Cond.instanceMethod yX11_fault ∈ fx_all := (fx_s5 (List.mem_of_getElem? (i := 32) rfl) rfl)
theorem ys_X11_fault : Cond.selects (yX11_fault).cls yX11_fault yX11_fault ∈ fx_all := (fx_s5 (List.mem_of_getElem? (i := 33) rfl) rfl)
abbrev cX11_of : ByteArray := prog_1_method_17_code
def yX11_of : MethodName := ⟨RX11, "of", "(II)I"⟩
theorem ym_X11_of : fx_Y yX11_of cX11_of 3 (some .int) 2 := ⟨(fx_s5 (List.mem_of_getElem? (i := 38) rfl) rfl), (fx_s1 (List.mem_of_getElem? (i := 1) rfl) rfl), by decide +kernel⟩
theorem yi_X11_of : Cond.instanceMethod yX11_of ∈ fx_all := (fx_s5 (List.mem_of_getElem? (i := 36) rfl) rfl)
theorem ys_X11_of : Cond.selects (yX11_of).cls yX11_of yX11_of ∈ fx_all := (fx_s5 (List.mem_of_getElem? (i := 37) rfl) rfl)
abbrev cX11_lawOf : ByteArray := prog_1_method_18_code
def yX11_lawOf : MethodName := ⟨RX11, "lawOf", "(II)I"⟩
theorem ym_X11_lawOf : fx_Y yX11_lawOf cX11_lawOf 3 (some .int) 2 := ⟨(fx_s5 (List.mem_of_getElem? (i := 42) rfl) rfl), (fx_s1 (List.mem_of_getElem? (i := 1) rfl) rfl), by decide +kernel⟩
theorem yi_X11_lawOf : Cond.instanceMethod yX11_lawOf ∈ fx_all := (fx_s5 (List.mem_of_getElem? (i := 41) rfl) rfl)
theorem ys_X11_lawOf : Cond.selects (yX11_lawOf).cls yX11_lawOf yX11_lawOf ∈ fx_all := fx_sel (q := (yX11_lawOf, 12)) (List.mem_of_getElem? (i := 30) rfl)
abbrev cX11_who : ByteArray := prog_1_method_19_code
def yX11_who : MethodName := ⟨RX11, "who", "(II)I"⟩
theorem ym_X11_who : fx_Y yX11_who cX11_who 3 (some .int) 2 := ⟨(fx_s5 (List.mem_of_getElem? (i := 48) rfl) rfl), (fx_s1 (List.mem_of_getElem? (i := 1) rfl) rfl), by decide +kernel⟩
theorem yi_X11_who : Cond.instanceMethod yX11_who ∈ fx_all := (fx_s5 (List.mem_of_getElem? (i := 46) rfl) rfl)
theorem ys_X11_who : Cond.selects (yX11_who).cls yX11_who yX11_who ∈ fx_all := (fx_s5 (List.mem_of_getElem? (i := 47) rfl) rfl)
abbrev cX11_book : ByteArray := prog_1_method_20_code
def yX11_book : MethodName := ⟨RX11, "book", "(II)I"⟩
theorem ym_X11_book : fx_Y yX11_book cX11_book 3 (some .int) 2 := ⟨(fx_s5 (List.mem_of_getElem? (i := 52) rfl) rfl), (fx_s1 (List.mem_of_getElem? (i := 1) rfl) rfl), by decide +kernel⟩
theorem yi_X11_book : Cond.instanceMethod yX11_book ∈ fx_all := (fx_s5 (List.mem_of_getElem? (i := 50) rfl) rfl)
theorem ys_X11_book : Cond.selects (yX11_book).cls yX11_book yX11_book ∈ fx_all := (fx_s5 (List.mem_of_getElem? (i := 51) rfl) rfl)
abbrev cX11_would : ByteArray := prog_1_method_21_code
def yX11_would : MethodName := ⟨RX11, "would", "(II)I"⟩
theorem ym_X11_would : fx_Y yX11_would cX11_would 3 (some .int) 2 := ⟨(fx_s5 (List.mem_of_getElem? (i := 56) rfl) rfl), (fx_s1 (List.mem_of_getElem? (i := 1) rfl) rfl), by decide +kernel⟩
theorem yi_X11_would : Cond.instanceMethod yX11_would ∈ fx_all := (fx_s5 (List.mem_of_getElem? (i := 54) rfl) rfl)
theorem ys_X11_would : Cond.selects (yX11_would).cls yX11_would yX11_would ∈ fx_all := (fx_s5 (List.mem_of_getElem? (i := 55) rfl) rfl)
abbrev cX11_goes : ByteArray := prog_1_method_22_code
def yX11_goes : MethodName := ⟨RX11, "goes", "(II)I"⟩
theorem ym_X11_goes : fx_Y yX11_goes cX11_goes 4 (some .int) 2 := ⟨(fx_s5 (List.mem_of_getElem? (i := 62) rfl) rfl), (fx_s1 (List.mem_of_getElem? (i := 1) rfl) rfl), by decide +kernel⟩
theorem yi_X11_goes : Cond.instanceMethod yX11_goes ∈ fx_all := (fx_s5 (List.mem_of_getElem? (i := 60) rfl) rfl)
theorem ys_X11_goes : Cond.selects (yX11_goes).cls yX11_goes yX11_goes ∈ fx_all := (fx_s5 (List.mem_of_getElem? (i := 61) rfl) rfl)
abbrev cX11_weighs : ByteArray := prog_1_method_23_code
def yX11_weighs : MethodName := ⟨RX11, "weighs", "(II)Z"⟩
theorem ym_X11_weighs : fx_Y yX11_weighs cX11_weighs 3 (some .boolean) 2 := ⟨(fx_s5 (List.mem_of_getElem? (i := 76) rfl) rfl), (fx_s1 (List.mem_of_getElem? (i := 1) rfl) rfl), by decide +kernel⟩
theorem yi_X11_weighs : Cond.instanceMethod yX11_weighs ∈ fx_all := (fx_s5 (List.mem_of_getElem? (i := 74) rfl) rfl)
theorem ys_X11_weighs : Cond.selects (yX11_weighs).cls yX11_weighs yX11_weighs ∈ fx_all := (fx_s5 (List.mem_of_getElem? (i := 75) rfl) rfl)
abbrev cX11_inside : ByteArray := prog_1_method_24_code
def yX11_inside : MethodName := ⟨RX11, "inside", "(II)I"⟩
theorem ym_X11_inside : fx_Y yX11_inside cX11_inside 4 (some .int) 2 := ⟨(fx_s5 (List.mem_of_getElem? (i := 80) rfl) rfl), (fx_s1 (List.mem_of_getElem? (i := 1) rfl) rfl), by decide +kernel⟩
theorem yi_X11_inside : Cond.instanceMethod yX11_inside ∈ fx_all := (fx_s5 (List.mem_of_getElem? (i := 78) rfl) rfl)
theorem ys_X11_inside : Cond.selects (yX11_inside).cls yX11_inside yX11_inside ∈ fx_all := (fx_s5 (List.mem_of_getElem? (i := 79) rfl) rfl)
abbrev cX11_length : ByteArray := prog_1_method_25_code
def yX11_length : MethodName := ⟨RX11, "length", "(I)I"⟩
theorem ym_X11_length : fx_Y yX11_length cX11_length 2 (some .int) 1 := ⟨(fx_s5 (List.mem_of_getElem? (i := 94) rfl) rfl), (fx_s1 (List.mem_of_getElem? (i := 1) rfl) rfl), by decide +kernel⟩
theorem yi_X11_length : Cond.instanceMethod yX11_length ∈ fx_all := (fx_s5 (List.mem_of_getElem? (i := 92) rfl) rfl)
theorem ys_X11_length : Cond.selects (yX11_length).cls yX11_length yX11_length ∈ fx_all := (fx_s5 (List.mem_of_getElem? (i := 93) rfl) rfl)
abbrev cX11_strings : ByteArray := prog_1_method_26_code
def yX11_strings : MethodName := ⟨RX11, "strings", "(II)I"⟩
theorem ym_X11_strings : fx_Y yX11_strings cX11_strings 5 (some .int) 2 := ⟨(fx_s5 (List.mem_of_getElem? (i := 98) rfl) rfl), (fx_s1 (List.mem_of_getElem? (i := 1) rfl) rfl), by decide +kernel⟩
theorem yi_X11_strings : Cond.instanceMethod yX11_strings ∈ fx_all := (fx_s5 (List.mem_of_getElem? (i := 96) rfl) rfl)
theorem ys_X11_strings : Cond.selects (yX11_strings).cls yX11_strings yX11_strings ∈ fx_all := (fx_s5 (List.mem_of_getElem? (i := 97) rfl) rfl)
abbrev cX11_coin : ByteArray := prog_1_method_27_code
def yX11_coin : MethodName := ⟨RX11, "coin", "(I)I"⟩
theorem ym_X11_coin : fx_Y yX11_coin cX11_coin 2 (some .int) 1 := ⟨(fx_s5 (List.mem_of_getElem? (i := 111) rfl) rfl), (fx_s1 (List.mem_of_getElem? (i := 1) rfl) rfl), by decide +kernel⟩
theorem yi_X11_coin : Cond.instanceMethod yX11_coin ∈ fx_all := (fx_s5 (List.mem_of_getElem? (i := 109) rfl) rfl)
theorem ys_X11_coin : Cond.selects (yX11_coin).cls yX11_coin yX11_coin ∈ fx_all := (fx_s5 (List.mem_of_getElem? (i := 110) rfl) rfl)
abbrev cX11_pays : ByteArray := prog_1_method_28_code
def yX11_pays : MethodName := ⟨RX11, "pays", "(II)I"⟩
theorem ym_X11_pays : fx_Y yX11_pays cX11_pays 3 (some .int) 2 := ⟨(fx_s5 (List.mem_of_getElem? (i := 119) rfl) rfl), (fx_s1 (List.mem_of_getElem? (i := 1) rfl) rfl), by decide +kernel⟩
theorem yi_X11_pays : Cond.instanceMethod yX11_pays ∈ fx_all := (fx_s5 (List.mem_of_getElem? (i := 117) rfl) rfl)
theorem ys_X11_pays : Cond.selects (yX11_pays).cls yX11_pays yX11_pays ∈ fx_all := (fx_s5 (List.mem_of_getElem? (i := 118) rfl) rfl)
abbrev cX11_rank : ByteArray := prog_1_method_29_code
def yX11_rank : MethodName := ⟨RX11, "rank", "(II)Z"⟩
theorem ym_X11_rank : fx_Y yX11_rank cX11_rank 3 (some .boolean) 2 := ⟨(fx_s5 (List.mem_of_getElem? (i := 123) rfl) rfl), (fx_s1 (List.mem_of_getElem? (i := 1) rfl) rfl), by decide +kernel⟩
theorem yi_X11_rank : Cond.instanceMethod yX11_rank ∈ fx_all := (fx_s5 (List.mem_of_getElem? (i := 121) rfl) rfl)
theorem ys_X11_rank : Cond.selects (yX11_rank).cls yX11_rank yX11_rank ∈ fx_all := (fx_s5 (List.mem_of_getElem? (i := 122) rfl) rfl)
abbrev cX11_swaps : ByteArray := prog_1_method_30_code
def yX11_swaps : MethodName := ⟨RX11, "swaps", "(I)I"⟩
theorem ym_X11_swaps : fx_Y yX11_swaps cX11_swaps 3 (some .int) 1 := ⟨(fx_s5 (List.mem_of_getElem? (i := 135) rfl) rfl), (fx_s1 (List.mem_of_getElem? (i := 1) rfl) rfl), by decide +kernel⟩
theorem yi_X11_swaps : Cond.instanceMethod yX11_swaps ∈ fx_all := (fx_s5 (List.mem_of_getElem? (i := 133) rfl) rfl)
theorem ys_X11_swaps : Cond.selects (yX11_swaps).cls yX11_swaps yX11_swaps ∈ fx_all := (fx_s5 (List.mem_of_getElem? (i := 134) rfl) rfl)
abbrev cX11_wishes : ByteArray := prog_1_method_31_code
def yX11_wishes : MethodName := ⟨RX11, "wishes", "(I)I"⟩
theorem ym_X11_wishes : fx_Y yX11_wishes cX11_wishes 3 (some .int) 1 := ⟨(fx_s5 (List.mem_of_getElem? (i := 152) rfl) rfl), (fx_s1 (List.mem_of_getElem? (i := 1) rfl) rfl), by decide +kernel⟩
theorem yi_X11_wishes : Cond.instanceMethod yX11_wishes ∈ fx_all := (fx_s5 (List.mem_of_getElem? (i := 150) rfl) rfl)
theorem ys_X11_wishes : Cond.selects (yX11_wishes).cls yX11_wishes yX11_wishes ∈ fx_all := (fx_s5 (List.mem_of_getElem? (i := 151) rfl) rfl)
abbrev cX11_put : ByteArray := prog_1_method_32_code
def yX11_put : MethodName := ⟨RX11, "put", "(II)I"⟩
theorem ym_X11_put : fx_Y yX11_put cX11_put 3 (some .int) 2 := ⟨(fx_s5 (List.mem_of_getElem? (i := 176) rfl) rfl), (fx_s1 (List.mem_of_getElem? (i := 1) rfl) rfl), by decide +kernel⟩
theorem yi_X11_put : Cond.instanceMethod yX11_put ∈ fx_all := (fx_s5 (List.mem_of_getElem? (i := 174) rfl) rfl)
theorem ys_X11_put : Cond.selects (yX11_put).cls yX11_put yX11_put ∈ fx_all := (fx_s5 (List.mem_of_getElem? (i := 175) rfl) rfl)
abbrev cX11_puts : ByteArray := prog_1_method_33_code
def yX11_puts : MethodName := ⟨RX11, "puts", "(I)I"⟩
theorem ym_X11_puts : fx_Y yX11_puts cX11_puts 3 (some .int) 1 := ⟨(fx_s5 (List.mem_of_getElem? (i := 180) rfl) rfl), (fx_s1 (List.mem_of_getElem? (i := 1) rfl) rfl), by decide +kernel⟩
theorem yi_X11_puts : Cond.instanceMethod yX11_puts ∈ fx_all := (fx_s5 (List.mem_of_getElem? (i := 178) rfl) rfl)
theorem ys_X11_puts : Cond.selects (yX11_puts).cls yX11_puts yX11_puts ∈ fx_all := (fx_s5 (List.mem_of_getElem? (i := 179) rfl) rfl)
abbrev cX11_clue : ByteArray := prog_1_method_34_code
def yX11_clue : MethodName := ⟨RX11, "clue", "(IZ)I"⟩
theorem ym_X11_clue : fx_Y yX11_clue cX11_clue 3 (some .int) 2 := ⟨(fx_s5 (List.mem_of_getElem? (i := 193) rfl) rfl), (fx_s1 (List.mem_of_getElem? (i := 1) rfl) rfl), by decide +kernel⟩
theorem yi_X11_clue : Cond.instanceMethod yX11_clue ∈ fx_all := (fx_s5 (List.mem_of_getElem? (i := 191) rfl) rfl)
theorem ys_X11_clue : Cond.selects (yX11_clue).cls yX11_clue yX11_clue ∈ fx_all := (fx_s5 (List.mem_of_getElem? (i := 192) rfl) rfl)
abbrev cX11_which : ByteArray := prog_1_method_35_code
def yX11_which : MethodName := ⟨RX11, "which", "(I)I"⟩
theorem ym_X11_which : fx_Y yX11_which cX11_which 2 (some .int) 1 := ⟨(fx_s5 (List.mem_of_getElem? (i := 198) rfl) rfl), (fx_s1 (List.mem_of_getElem? (i := 1) rfl) rfl), by decide +kernel⟩
theorem yi_X11_which : Cond.instanceMethod yX11_which ∈ fx_all := (fx_s5 (List.mem_of_getElem? (i := 196) rfl) rfl)
theorem ys_X11_which : Cond.selects (yX11_which).cls yX11_which yX11_which ∈ fx_all := (fx_s5 (List.mem_of_getElem? (i := 197) rfl) rfl)
abbrev cX11_police : ByteArray := prog_1_method_36_code
def yX11_police : MethodName := ⟨RX11, "police", "(I)I"⟩
theorem ym_X11_police : fx_Y yX11_police cX11_police 2 (some .int) 1 := ⟨(fx_s5 (List.mem_of_getElem? (i := 214) rfl) rfl), (fx_s1 (List.mem_of_getElem? (i := 1) rfl) rfl), by decide +kernel⟩
theorem yi_X11_police : Cond.instanceMethod yX11_police ∈ fx_all := (fx_s5 (List.mem_of_getElem? (i := 212) rfl) rfl)
theorem ys_X11_police : Cond.selects (yX11_police).cls yX11_police yX11_police ∈ fx_all := (fx_s5 (List.mem_of_getElem? (i := 213) rfl) rfl)
abbrev cX11_every : ByteArray := prog_1_method_37_code
def yX11_every : MethodName := ⟨RX11, "every", "(I)I"⟩
theorem ym_X11_every : fx_Y yX11_every cX11_every 3 (some .int) 1 := ⟨(fx_s5 (List.mem_of_getElem? (i := 218) rfl) rfl), (fx_s1 (List.mem_of_getElem? (i := 1) rfl) rfl), by decide +kernel⟩
theorem yi_X11_every : Cond.instanceMethod yX11_every ∈ fx_all := (fx_s5 (List.mem_of_getElem? (i := 216) rfl) rfl)
theorem ys_X11_every : Cond.selects (yX11_every).cls yX11_every yX11_every ∈ fx_all := (fx_s5 (List.mem_of_getElem? (i := 217) rfl) rfl)
abbrev cX11_shill : ByteArray := prog_1_method_38_code
def yX11_shill : MethodName := ⟨RX11, "shill", "(III)I"⟩
theorem ym_X11_shill : fx_Y yX11_shill cX11_shill 4 (some .int) 3 := ⟨(fx_s5 (List.mem_of_getElem? (i := 236) rfl) rfl), (fx_s1 (List.mem_of_getElem? (i := 1) rfl) rfl), by decide +kernel⟩
theorem yi_X11_shill : Cond.instanceMethod yX11_shill ∈ fx_all := (fx_s5 (List.mem_of_getElem? (i := 234) rfl) rfl)
theorem ys_X11_shill : Cond.selects (yX11_shill).cls yX11_shill yX11_shill ∈ fx_all := (fx_s5 (List.mem_of_getElem? (i := 235) rfl) rfl)
abbrev cX11_halves : ByteArray := prog_1_method_39_code
def yX11_halves : MethodName := ⟨RX11, "halves", "(I)I"⟩
theorem ym_X11_halves : fx_Y yX11_halves cX11_halves 3 (some .int) 1 := ⟨(fx_s6 (List.mem_of_getElem? (i := 10) rfl) rfl), (fx_s1 (List.mem_of_getElem? (i := 1) rfl) rfl), by decide +kernel⟩
theorem yi_X11_halves : Cond.instanceMethod yX11_halves ∈ fx_all := (fx_s6 (List.mem_of_getElem? (i := 8) rfl) rfl)
theorem ys_X11_halves : Cond.selects (yX11_halves).cls yX11_halves yX11_halves ∈ fx_all := (fx_s6 (List.mem_of_getElem? (i := 9) rfl) rfl)
abbrev cX11_game : ByteArray := prog_1_method_40_code
def yX11_game : MethodName := ⟨RX11, "game", "(I)I"⟩
theorem ym_X11_game : fx_Y yX11_game cX11_game 3 (some .int) 1 := ⟨(fx_s6 (List.mem_of_getElem? (i := 23) rfl) rfl), (fx_s1 (List.mem_of_getElem? (i := 1) rfl) rfl), by decide +kernel⟩
theorem yi_X11_game : Cond.instanceMethod yX11_game ∈ fx_all := (fx_s6 (List.mem_of_getElem? (i := 21) rfl) rfl)
theorem ys_X11_game : Cond.selects (yX11_game).cls yX11_game yX11_game ∈ fx_all := (fx_s6 (List.mem_of_getElem? (i := 22) rfl) rfl)
abbrev cX11_undo : ByteArray := prog_1_method_41_code
def yX11_undo : MethodName := ⟨RX11, "undo", "()Z"⟩
theorem ym_X11_undo : fx_Y yX11_undo cX11_undo 1 (some .boolean) 0 := ⟨(fx_s6 (List.mem_of_getElem? (i := 45) rfl) rfl), (fx_s1 (List.mem_of_getElem? (i := 1) rfl) rfl), by decide +kernel⟩
theorem yi_X11_undo : Cond.instanceMethod yX11_undo ∈ fx_all := (fx_s6 (List.mem_of_getElem? (i := 43) rfl) rfl)
theorem ys_X11_undo : Cond.selects (yX11_undo).cls yX11_undo yX11_undo ∈ fx_all := (fx_s6 (List.mem_of_getElem? (i := 44) rfl) rfl)
abbrev cX11_image : ByteArray := prog_1_method_42_code
def yX11_image : MethodName := ⟨RX11, "image", "(Z)Z"⟩
theorem ym_X11_image : fx_Y yX11_image cX11_image 2 (some .boolean) 1 := ⟨(fx_s6 (List.mem_of_getElem? (i := 53) rfl) rfl), (fx_s1 (List.mem_of_getElem? (i := 1) rfl) rfl), by decide +kernel⟩
theorem yi_X11_image : Cond.instanceMethod yX11_image ∈ fx_all := (fx_s6 (List.mem_of_getElem? (i := 51) rfl) rfl)
theorem ys_X11_image : Cond.selects (yX11_image).cls yX11_image yX11_image ∈ fx_all := (fx_s6 (List.mem_of_getElem? (i := 52) rfl) rfl)
abbrev cX11_look : ByteArray := prog_1_method_43_code
def yX11_look : MethodName := ⟨RX11, "look", "(I)I"⟩
theorem ym_X11_look : fx_Y yX11_look cX11_look 2 (some .int) 1 := ⟨(fx_s6 (List.mem_of_getElem? (i := 77) rfl) rfl), (fx_s1 (List.mem_of_getElem? (i := 1) rfl) rfl), by decide +kernel⟩
theorem yi_X11_look : Cond.instanceMethod yX11_look ∈ fx_all := (fx_s6 (List.mem_of_getElem? (i := 75) rfl) rfl)
theorem ys_X11_look : Cond.selects (yX11_look).cls yX11_look yX11_look ∈ fx_all := (fx_s6 (List.mem_of_getElem? (i := 76) rfl) rfl)
abbrev cX11_lookAtTexts : ByteArray := prog_1_method_44_code
def yX11_lookAtTexts : MethodName := ⟨RX11, "lookAtTexts", "(I)I"⟩
theorem ym_X11_lookAtTexts : fx_Y yX11_lookAtTexts cX11_lookAtTexts 2 (some .int) 1 := ⟨(fx_s6 (List.mem_of_getElem? (i := 81) rfl) rfl), (fx_s1 (List.mem_of_getElem? (i := 1) rfl) rfl), by decide +kernel⟩
theorem yi_X11_lookAtTexts : Cond.instanceMethod yX11_lookAtTexts ∈ fx_all := (fx_s6 (List.mem_of_getElem? (i := 80) rfl) rfl)
theorem ys_X11_lookAtTexts : Cond.selects (yX11_lookAtTexts).cls yX11_lookAtTexts yX11_lookAtTexts ∈ fx_all := fx_sel (q := (yX11_lookAtTexts, 12)) (List.mem_of_getElem? (i := 46) rfl)
abbrev cX11_isWithin : ByteArray := prog_1_method_45_code
def yX11_isWithin : MethodName := ⟨RX11, "isWithin", "(III)Z"⟩
theorem ym_X11_isWithin : fx_Y yX11_isWithin cX11_isWithin 3 (some .boolean) 3 := ⟨(fx_s3 (List.mem_of_getElem? (i := 66) rfl) rfl), (fx_s1 (List.mem_of_getElem? (i := 1) rfl) rfl), by decide +kernel⟩
theorem yt_X11_isWithin : Cond.static yX11_isWithin ∈ fx_all := (fx_s3 (List.mem_of_getElem? (i := 65) rfl) rfl)
abbrev cX11_copyRow : ByteArray := prog_1_method_46_code
def yX11_copyRow : MethodName := ⟨RX11, "copyRow", "([I[I)V"⟩
theorem ym_X11_copyRow : fx_Y yX11_copyRow cX11_copyRow 3 none 2 := ⟨(fx_s3 (List.mem_of_getElem? (i := 114) rfl) rfl), (fx_s1 (List.mem_of_getElem? (i := 1) rfl) rfl), by decide +kernel⟩
theorem yt_X11_copyRow : Cond.static yX11_copyRow ∈ fx_all := (fx_s3 (List.mem_of_getElem? (i := 113) rfl) rfl)
abbrev cX11_fillRow : ByteArray := prog_1_method_47_code
def yX11_fillRow : MethodName := ⟨RX11, "fillRow", "([II)V"⟩
theorem ym_X11_fillRow : fx_Y yX11_fillRow cX11_fillRow 3 none 2 := ⟨(fx_s1 (List.mem_of_getElem? (i := 89) rfl) rfl), (fx_s1 (List.mem_of_getElem? (i := 1) rfl) rfl), by decide +kernel⟩
theorem yt_X11_fillRow : Cond.static yX11_fillRow ∈ fx_all := (fx_s1 (List.mem_of_getElem? (i := 88) rfl) rfl)
abbrev cX12_init : ByteArray := prog_14_method_1_code
def yX12_init : MethodName := ⟨RX12, "<init>", "()V"⟩
theorem ym_X12_init : fx_Y yX12_init cX12_init 1 none 0 := ⟨(fx_s6 (List.mem_of_getElem? (i := 86) rfl) rfl), (fx_s1 (List.mem_of_getElem? (i := 13) rfl) rfl), by decide +kernel⟩
theorem yi_X12_init : Cond.instanceMethod yX12_init ∈ fx_all := (fx_s6 (List.mem_of_getElem? (i := 85) rfl) rfl)
abbrev cX12_isIn : ByteArray := prog_14_method_3_code
def yX12_isIn : MethodName := ⟨RX12, "isIn", "(III)Z"⟩
theorem ym_X12_isIn : fx_Y yX12_isIn cX12_isIn 4 (some .boolean) 3 := ⟨(fx_s7 (List.mem_of_getElem? (i := 80) rfl) rfl), (fx_s1 (List.mem_of_getElem? (i := 13) rfl) rfl), by decide +kernel⟩
theorem yi_X12_isIn : Cond.instanceMethod yX12_isIn ∈ fx_all := (fx_s7 (List.mem_of_getElem? (i := 79) rfl) rfl)
theorem ys_X12_isIn : Cond.selects (yX12_isIn).cls yX12_isIn yX12_isIn ∈ fx_all := fx_sel (q := (yX12_isIn, 72)) (List.mem_of_getElem? (i := 47) rfl)
abbrev cX12_held : ByteArray := prog_14_method_4_code
def yX12_held : MethodName := ⟨RX12, "held", "(III)I"⟩
theorem ym_X12_held : fx_Y yX12_held cX12_held 4 (some .int) 3 := ⟨(fx_s8 (List.mem_of_getElem? (i := 72) rfl) rfl), (fx_s1 (List.mem_of_getElem? (i := 13) rfl) rfl), by decide +kernel⟩
theorem yi_X12_held : Cond.instanceMethod yX12_held ∈ fx_all := (fx_s8 (List.mem_of_getElem? (i := 71) rfl) rfl)
theorem ys_X12_held : Cond.selects (yX12_held).cls yX12_held yX12_held ∈ fx_all := fx_sel (q := (yX12_held, 72)) (List.mem_of_getElem? (i := 98) rfl)
abbrev cX12_greater : ByteArray := prog_14_method_5_code
def yX12_greater : MethodName := ⟨RX12, "greater", "(II)I"⟩
theorem ym_X12_greater : fx_Y yX12_greater cX12_greater 3 (some .int) 2 := ⟨(fx_s8 (List.mem_of_getElem? (i := 138) rfl) rfl), (fx_s1 (List.mem_of_getElem? (i := 13) rfl) rfl), by decide +kernel⟩
theorem yi_X12_greater : Cond.instanceMethod yX12_greater ∈ fx_all := (fx_s8 (List.mem_of_getElem? (i := 137) rfl) rfl)
theorem ys_X12_greater : Cond.selects (yX12_greater).cls yX12_greater yX12_greater ∈ fx_all := fx_sel (q := (yX12_greater, 72)) (List.mem_of_getElem? (i := 110) rfl)
abbrev cX12_lesser : ByteArray := prog_14_method_6_code
def yX12_lesser : MethodName := ⟨RX12, "lesser", "(II)I"⟩
theorem ym_X12_lesser : fx_Y yX12_lesser cX12_lesser 3 (some .int) 2 := ⟨(fx_s8 (List.mem_of_getElem? (i := 110) rfl) rfl), (fx_s1 (List.mem_of_getElem? (i := 13) rfl) rfl), by decide +kernel⟩
theorem yi_X12_lesser : Cond.instanceMethod yX12_lesser ∈ fx_all := (fx_s8 (List.mem_of_getElem? (i := 109) rfl) rfl)
theorem ys_X12_lesser : Cond.selects (yX12_lesser).cls yX12_lesser yX12_lesser ∈ fx_all := fx_sel (q := (yX12_lesser, 72)) (List.mem_of_getElem? (i := 106) rfl)
abbrev cX12_added : ByteArray := prog_14_method_7_code
def yX12_added : MethodName := ⟨RX12, "added", "(II)I"⟩
theorem ym_X12_added : fx_Y yX12_added cX12_added 3 (some .int) 2 := ⟨(fx_s8 (List.mem_of_getElem? (i := 195) rfl) rfl), (fx_s1 (List.mem_of_getElem? (i := 13) rfl) rfl), by decide +kernel⟩
theorem yi_X12_added : Cond.instanceMethod yX12_added ∈ fx_all := (fx_s8 (List.mem_of_getElem? (i := 194) rfl) rfl)
theorem ys_X12_added : Cond.selects (yX12_added).cls yX12_added yX12_added ∈ fx_all := fx_sel (q := (yX12_added, 72)) (List.mem_of_getElem? (i := 117) rfl)
abbrev cX12_onesOf : ByteArray := prog_14_method_8_code
def yX12_onesOf : MethodName := ⟨RX12, "onesOf", "(I)I"⟩
theorem ym_X12_onesOf : fx_Y yX12_onesOf cX12_onesOf 4 (some .int) 1 := ⟨(fx_s8 (List.mem_of_getElem? (i := 174) rfl) rfl), (fx_s1 (List.mem_of_getElem? (i := 13) rfl) rfl), by decide +kernel⟩
theorem yi_X12_onesOf : Cond.instanceMethod yX12_onesOf ∈ fx_all := (fx_s8 (List.mem_of_getElem? (i := 173) rfl) rfl)
theorem ys_X12_onesOf : Cond.selects (yX12_onesOf).cls yX12_onesOf yX12_onesOf ∈ fx_all := fx_sel (q := (yX12_onesOf, 72)) (List.mem_of_getElem? (i := 114) rfl)
abbrev cX12_has : ByteArray := prog_14_method_9_code
def yX12_has : MethodName := ⟨RX12, "has", "(II)Z"⟩
theorem ym_X12_has : fx_Y yX12_has cX12_has 3 (some .boolean) 2 := ⟨(fx_s8 (List.mem_of_getElem? (i := 224) rfl) rfl), (fx_s1 (List.mem_of_getElem? (i := 13) rfl) rfl), by decide +kernel⟩
theorem yi_X12_has : Cond.instanceMethod yX12_has ∈ fx_all := (fx_s8 (List.mem_of_getElem? (i := 223) rfl) rfl)
theorem ys_X12_has : Cond.selects (yX12_has).cls yX12_has yX12_has ∈ fx_all := fx_sel (q := (yX12_has, 72)) (List.mem_of_getElem? (i := 120) rfl)
abbrev cX12_keepsAhead : ByteArray := prog_14_method_10_code
def yX12_keepsAhead : MethodName := ⟨RX12, "keepsAhead", "()V"⟩
theorem ym_X12_keepsAhead : fx_Y yX12_keepsAhead cX12_keepsAhead 2 none 0 := ⟨(fx_s8 (List.mem_of_getElem? (i := 24) rfl) rfl), (fx_s1 (List.mem_of_getElem? (i := 13) rfl) rfl), by decide +kernel⟩
theorem yi_X12_keepsAhead : Cond.instanceMethod yX12_keepsAhead ∈ fx_all := (fx_s8 (List.mem_of_getElem? (i := 23) rfl) rfl)
theorem ys_X12_keepsAhead : Cond.selects (yX12_keepsAhead).cls yX12_keepsAhead yX12_keepsAhead ∈ fx_all := fx_sel (q := (yX12_keepsAhead, 72)) (List.mem_of_getElem? (i := 86) rfl)
abbrev cX12_undo : ByteArray := prog_14_method_11_code
def yX12_undo : MethodName := ⟨RX12, "undo", "()Z"⟩
theorem ym_X12_undo : fx_Y yX12_undo cX12_undo 2 (some .boolean) 0 := ⟨(fx_s7 (List.mem_of_getElem? (i := 68) rfl) rfl), (fx_s1 (List.mem_of_getElem? (i := 13) rfl) rfl), by decide +kernel⟩
theorem yi_X12_undo : Cond.instanceMethod yX12_undo ∈ fx_all := (fx_s7 (List.mem_of_getElem? (i := 66) rfl) rfl)
theorem ys_X12_undo : Cond.selects (yX12_undo).cls yX12_undo yX12_undo ∈ fx_all := (fx_s7 (List.mem_of_getElem? (i := 67) rfl) rfl)
abbrev cX12_thinks : ByteArray := prog_14_method_12_code
def yX12_thinks : MethodName := ⟨RX12, "thinks", "()V"⟩
theorem ym_X12_thinks : fx_Y yX12_thinks cX12_thinks 2 none 0 := ⟨(fx_s8 (List.mem_of_getElem? (i := 158) rfl) rfl), (fx_s1 (List.mem_of_getElem? (i := 13) rfl) rfl), by decide +kernel⟩
theorem yi_X12_thinks : Cond.instanceMethod yX12_thinks ∈ fx_all := (fx_s8 (List.mem_of_getElem? (i := 157) rfl) rfl)
theorem ys_X12_thinks : Cond.selects (yX12_thinks).cls yX12_thinks yX12_thinks ∈ fx_all := fx_sel (q := (yX12_thinks, 72)) (List.mem_of_getElem? (i := 111) rfl)
abbrev cX12_endsThought : ByteArray := prog_14_method_13_code
def yX12_endsThought : MethodName := ⟨RX12, "endsThought", "()V"⟩
theorem ym_X12_endsThought : fx_Y yX12_endsThought cX12_endsThought 2 none 0 := ⟨(fx_s8 (List.mem_of_getElem? (i := 162) rfl) rfl), (fx_s1 (List.mem_of_getElem? (i := 13) rfl) rfl), by decide +kernel⟩
theorem yi_X12_endsThought : Cond.instanceMethod yX12_endsThought ∈ fx_all := (fx_s8 (List.mem_of_getElem? (i := 161) rfl) rfl)
theorem ys_X12_endsThought : Cond.selects (yX12_endsThought).cls yX12_endsThought yX12_endsThought ∈ fx_all := fx_sel (q := (yX12_endsThought, 72)) (List.mem_of_getElem? (i := 112) rfl)
abbrev cX12_state : ByteArray := prog_14_method_14_code
def yX12_state : MethodName := ⟨RX12, "state", "(I)I"⟩
theorem ym_X12_state : fx_Y yX12_state cX12_state 3 (some .int) 1 := ⟨(fx_s7 (List.mem_of_getElem? (i := 72) rfl) rfl), (fx_s1 (List.mem_of_getElem? (i := 13) rfl) rfl), by decide +kernel⟩
theorem yi_X12_state : Cond.instanceMethod yX12_state ∈ fx_all := (fx_s7 (List.mem_of_getElem? (i := 70) rfl) rfl)
theorem ys_X12_state : Cond.selects (yX12_state).cls yX12_state yX12_state ∈ fx_all := (fx_s7 (List.mem_of_getElem? (i := 71) rfl) rfl)
abbrev cX12_draw : ByteArray := prog_14_method_15_code
def yX12_draw : MethodName := ⟨RX12, "draw", "(I)I"⟩
theorem ym_X12_draw : fx_Y yX12_draw cX12_draw 2 (some .int) 1 := ⟨(fx_s8 (List.mem_of_getElem? (i := 76) rfl) rfl), (fx_s1 (List.mem_of_getElem? (i := 13) rfl) rfl), by decide +kernel⟩
theorem yi_X12_draw : Cond.instanceMethod yX12_draw ∈ fx_all := (fx_s8 (List.mem_of_getElem? (i := 75) rfl) rfl)
theorem ys_X12_draw : Cond.selects (yX12_draw).cls yX12_draw yX12_draw ∈ fx_all := fx_sel (q := (yX12_draw, 72)) (List.mem_of_getElem? (i := 99) rfl)
abbrev cX12_isParcel : ByteArray := prog_14_method_16_code
def yX12_isParcel : MethodName := ⟨RX12, "isParcel", "(I)Z"⟩
theorem ym_X12_isParcel : fx_Y yX12_isParcel cX12_isParcel 2 (some .boolean) 1 := ⟨(fx_s7 (List.mem_of_getElem? (i := 100) rfl) rfl), (fx_s1 (List.mem_of_getElem? (i := 13) rfl) rfl), by decide +kernel⟩
theorem yi_X12_isParcel : Cond.instanceMethod yX12_isParcel ∈ fx_all := (fx_s7 (List.mem_of_getElem? (i := 99) rfl) rfl)
theorem ys_X12_isParcel : Cond.selects (yX12_isParcel).cls yX12_isParcel yX12_isParcel ∈ fx_all := fx_sel (q := (yX12_isParcel, 72)) (List.mem_of_getElem? (i := 50) rfl)
abbrev cX12_isBidder : ByteArray := prog_14_method_17_code
def yX12_isBidder : MethodName := ⟨RX12, "isBidder", "(I)Z"⟩
theorem ym_X12_isBidder : fx_Y yX12_isBidder cX12_isBidder 2 (some .boolean) 1 := ⟨(fx_s7 (List.mem_of_getElem? (i := 96) rfl) rfl), (fx_s1 (List.mem_of_getElem? (i := 13) rfl) rfl), by decide +kernel⟩
theorem yi_X12_isBidder : Cond.instanceMethod yX12_isBidder ∈ fx_all := (fx_s7 (List.mem_of_getElem? (i := 95) rfl) rfl)
theorem ys_X12_isBidder : Cond.selects (yX12_isBidder).cls yX12_isBidder yX12_isBidder ∈ fx_all := fx_sel (q := (yX12_isBidder, 72)) (List.mem_of_getElem? (i := 49) rfl)
abbrev cX12_hasOf : ByteArray := prog_14_method_18_code
def yX12_hasOf : MethodName := ⟨RX12, "hasOf", "(II)I"⟩
theorem ym_X12_hasOf : fx_Y yX12_hasOf cX12_hasOf 3 (some .int) 2 := ⟨(fx_s8 (List.mem_of_getElem? (i := 52) rfl) rfl), (fx_s1 (List.mem_of_getElem? (i := 13) rfl) rfl), by decide +kernel⟩
theorem yi_X12_hasOf : Cond.instanceMethod yX12_hasOf ∈ fx_all := (fx_s8 (List.mem_of_getElem? (i := 51) rfl) rfl)
theorem ys_X12_hasOf : Cond.selects (yX12_hasOf).cls yX12_hasOf yX12_hasOf ∈ fx_all := fx_sel (q := (yX12_hasOf, 72)) (List.mem_of_getElem? (i := 93) rfl)
abbrev cX12_hasMore : ByteArray := prog_14_method_19_code
def yX12_hasMore : MethodName := ⟨RX12, "hasMore", "(III)V"⟩
theorem ym_X12_hasMore : fx_Y yX12_hasMore cX12_hasMore 4 none 3 := ⟨(fx_s8 (List.mem_of_getElem? (i := 98) rfl) rfl), (fx_s1 (List.mem_of_getElem? (i := 13) rfl) rfl), by decide +kernel⟩
theorem yi_X12_hasMore : Cond.instanceMethod yX12_hasMore ∈ fx_all := (fx_s8 (List.mem_of_getElem? (i := 97) rfl) rfl)
theorem ys_X12_hasMore : Cond.selects (yX12_hasMore).cls yX12_hasMore yX12_hasMore ∈ fx_all := fx_sel (q := (yX12_hasMore, 72)) (List.mem_of_getElem? (i := 104) rfl)
abbrev cX12_thingsOf : ByteArray := prog_14_method_20_code
def yX12_thingsOf : MethodName := ⟨RX12, "thingsOf", "(I)I"⟩
theorem ym_X12_thingsOf : fx_Y yX12_thingsOf cX12_thingsOf 4 (some .int) 1 := ⟨(fx_s8 (List.mem_of_getElem? (i := 48) rfl) rfl), (fx_s1 (List.mem_of_getElem? (i := 13) rfl) rfl), by decide +kernel⟩
theorem yi_X12_thingsOf : Cond.instanceMethod yX12_thingsOf ∈ fx_all := (fx_s8 (List.mem_of_getElem? (i := 47) rfl) rfl)
theorem ys_X12_thingsOf : Cond.selects (yX12_thingsOf).cls yX12_thingsOf yX12_thingsOf ∈ fx_all := fx_sel (q := (yX12_thingsOf, 72)) (List.mem_of_getElem? (i := 92) rfl)
abbrev cX12_unsoldSet : ByteArray := prog_14_method_21_code
def yX12_unsoldSet : MethodName := ⟨RX12, "unsoldSet", "()I"⟩
theorem ym_X12_unsoldSet : fx_Y yX12_unsoldSet cX12_unsoldSet 3 (some .int) 0 := ⟨(fx_s8 (List.mem_of_getElem? (i := 170) rfl) rfl), (fx_s1 (List.mem_of_getElem? (i := 13) rfl) rfl), by decide +kernel⟩
theorem yi_X12_unsoldSet : Cond.instanceMethod yX12_unsoldSet ∈ fx_all := (fx_s8 (List.mem_of_getElem? (i := 169) rfl) rfl)
theorem ys_X12_unsoldSet : Cond.selects (yX12_unsoldSet).cls yX12_unsoldSet yX12_unsoldSet ∈ fx_all := fx_sel (q := (yX12_unsoldSet, 72)) (List.mem_of_getElem? (i := 113) rfl)
abbrev cX12_parcel : ByteArray := prog_14_method_22_code
def yX12_parcel : MethodName := ⟨RX12, "parcel", "(III)I"⟩
theorem ym_X12_parcel : fx_Y yX12_parcel cX12_parcel 4 (some .int) 3 := ⟨(fx_s7 (List.mem_of_getElem? (i := 76) rfl) rfl), (fx_s1 (List.mem_of_getElem? (i := 13) rfl) rfl), by decide +kernel⟩
theorem yi_X12_parcel : Cond.instanceMethod yX12_parcel ∈ fx_all := (fx_s7 (List.mem_of_getElem? (i := 74) rfl) rfl)
theorem ys_X12_parcel : Cond.selects (yX12_parcel).cls yX12_parcel yX12_parcel ∈ fx_all := (fx_s7 (List.mem_of_getElem? (i := 75) rfl) rfl)
abbrev cX12_bidder : ByteArray := prog_14_method_23_code
def yX12_bidder : MethodName := ⟨RX12, "bidder", "(IIZ)I"⟩
theorem ym_X12_bidder : fx_Y yX12_bidder cX12_bidder 5 (some .int) 3 := ⟨(fx_s7 (List.mem_of_getElem? (i := 84) rfl) rfl), (fx_s1 (List.mem_of_getElem? (i := 13) rfl) rfl), by decide +kernel⟩
theorem yi_X12_bidder : Cond.instanceMethod yX12_bidder ∈ fx_all := (fx_s7 (List.mem_of_getElem? (i := 82) rfl) rfl)
theorem ys_X12_bidder : Cond.selects (yX12_bidder).cls yX12_bidder yX12_bidder ∈ fx_all := (fx_s7 (List.mem_of_getElem? (i := 83) rfl) rfl)
abbrev cX12_canSet : ByteArray := prog_14_method_24_code
def yX12_canSet : MethodName := ⟨RX12, "canSet", "(III)Z"⟩
theorem ym_X12_canSet : fx_Y yX12_canSet cX12_canSet 4 (some .boolean) 3 := ⟨(fx_s7 (List.mem_of_getElem? (i := 92) rfl) rfl), (fx_s1 (List.mem_of_getElem? (i := 13) rfl) rfl), by decide +kernel⟩
theorem yi_X12_canSet : Cond.instanceMethod yX12_canSet ∈ fx_all := (fx_s7 (List.mem_of_getElem? (i := 91) rfl) rfl)
theorem ys_X12_canSet : Cond.selects (yX12_canSet).cls yX12_canSet yX12_canSet ∈ fx_all := fx_sel (q := (yX12_canSet, 72)) (List.mem_of_getElem? (i := 48) rfl)
abbrev cX12_set : ByteArray := prog_14_method_25_code
def yX12_set : MethodName := ⟨RX12, "set", "(III)Z"⟩
theorem ym_X12_set : fx_Y yX12_set cX12_set 4 (some .boolean) 3 := ⟨(fx_s7 (List.mem_of_getElem? (i := 88) rfl) rfl), (fx_s1 (List.mem_of_getElem? (i := 13) rfl) rfl), by decide +kernel⟩
theorem yi_X12_set : Cond.instanceMethod yX12_set ∈ fx_all := (fx_s7 (List.mem_of_getElem? (i := 86) rfl) rfl)
theorem ys_X12_set : Cond.selects (yX12_set).cls yX12_set yX12_set ∈ fx_all := (fx_s7 (List.mem_of_getElem? (i := 87) rfl) rfl)
abbrev cX12_types : ByteArray := prog_14_method_26_code
def yX12_types : MethodName := ⟨RX12, "types", "(I)V"⟩
theorem ym_X12_types : fx_Y yX12_types cX12_types 3 none 1 := ⟨(fx_s7 (List.mem_of_getElem? (i := 108) rfl) rfl), (fx_s1 (List.mem_of_getElem? (i := 13) rfl) rfl), by decide +kernel⟩
theorem yi_X12_types : Cond.instanceMethod yX12_types ∈ fx_all := (fx_s7 (List.mem_of_getElem? (i := 107) rfl) rfl)
theorem ys_X12_types : Cond.selects (yX12_types).cls yX12_types yX12_types ∈ fx_all := fx_sel (q := (yX12_types, 72)) (List.mem_of_getElem? (i := 51) rfl)
abbrev cX12_feed : ByteArray := prog_14_method_27_code
def yX12_feed : MethodName := ⟨RX12, "feed", "(IIIII)I"⟩
theorem ym_X12_feed : fx_Y yX12_feed cX12_feed 6 (some .int) 5 := ⟨(fx_s7 (List.mem_of_getElem? (i := 104) rfl) rfl), (fx_s1 (List.mem_of_getElem? (i := 13) rfl) rfl), by decide +kernel⟩
theorem yi_X12_feed : Cond.instanceMethod yX12_feed ∈ fx_all := (fx_s7 (List.mem_of_getElem? (i := 102) rfl) rfl)
theorem ys_X12_feed : Cond.selects (yX12_feed).cls yX12_feed yX12_feed ∈ fx_all := (fx_s7 (List.mem_of_getElem? (i := 103) rfl) rfl)
abbrev cX12_end : ByteArray := prog_14_method_28_code
def yX12_end : MethodName := ⟨RX12, "end", "(I)Z"⟩
theorem ym_X12_end : fx_Y yX12_end cX12_end 2 (some .boolean) 1 := ⟨(fx_s7 (List.mem_of_getElem? (i := 112) rfl) rfl), (fx_s1 (List.mem_of_getElem? (i := 13) rfl) rfl), by decide +kernel⟩
theorem yi_X12_end : Cond.instanceMethod yX12_end ∈ fx_all := (fx_s7 (List.mem_of_getElem? (i := 110) rfl) rfl)
theorem ys_X12_end : Cond.selects (yX12_end).cls yX12_end yX12_end ∈ fx_all := (fx_s7 (List.mem_of_getElem? (i := 111) rfl) rfl)
abbrev cX12_raw : ByteArray := prog_14_method_29_code
def yX12_raw : MethodName := ⟨RX12, "raw", "(I)I"⟩
theorem ym_X12_raw : fx_Y yX12_raw cX12_raw 2 (some .int) 1 := ⟨(fx_s7 (List.mem_of_getElem? (i := 128) rfl) rfl), (fx_s1 (List.mem_of_getElem? (i := 13) rfl) rfl), by decide +kernel⟩
theorem yi_X12_raw : Cond.instanceMethod yX12_raw ∈ fx_all := (fx_s7 (List.mem_of_getElem? (i := 127) rfl) rfl)
theorem ys_X12_raw : Cond.selects (yX12_raw).cls yX12_raw yX12_raw ∈ fx_all := fx_sel (q := (yX12_raw, 72)) (List.mem_of_getElem? (i := 54) rfl)
abbrev cX12_isLetter : ByteArray := prog_14_method_30_code
def yX12_isLetter : MethodName := ⟨RX12, "isLetter", "(I)Z"⟩
theorem ym_X12_isLetter : fx_Y yX12_isLetter cX12_isLetter 2 (some .boolean) 1 := ⟨(fx_s7 (List.mem_of_getElem? (i := 132) rfl) rfl), (fx_s1 (List.mem_of_getElem? (i := 13) rfl) rfl), by decide +kernel⟩
theorem yi_X12_isLetter : Cond.instanceMethod yX12_isLetter ∈ fx_all := (fx_s7 (List.mem_of_getElem? (i := 131) rfl) rfl)
theorem ys_X12_isLetter : Cond.selects (yX12_isLetter).cls yX12_isLetter yX12_isLetter ∈ fx_all := fx_sel (q := (yX12_isLetter, 72)) (List.mem_of_getElem? (i := 55) rfl)
abbrev cX12_isDigit : ByteArray := prog_14_method_31_code
def yX12_isDigit : MethodName := ⟨RX12, "isDigit", "(I)Z"⟩
theorem ym_X12_isDigit : fx_Y yX12_isDigit cX12_isDigit 2 (some .boolean) 1 := ⟨(fx_s7 (List.mem_of_getElem? (i := 140) rfl) rfl), (fx_s1 (List.mem_of_getElem? (i := 13) rfl) rfl), by decide +kernel⟩
theorem yi_X12_isDigit : Cond.instanceMethod yX12_isDigit ∈ fx_all := (fx_s7 (List.mem_of_getElem? (i := 139) rfl) rfl)
theorem ys_X12_isDigit : Cond.selects (yX12_isDigit).cls yX12_isDigit yX12_isDigit ∈ fx_all := fx_sel (q := (yX12_isDigit, 72)) (List.mem_of_getElem? (i := 57) rfl)
abbrev cX12_isMarkSign : ByteArray := prog_14_method_32_code
def yX12_isMarkSign : MethodName := ⟨RX12, "isMarkSign", "(I)Z"⟩
theorem ym_X12_isMarkSign : fx_Y yX12_isMarkSign cX12_isMarkSign 2 (some .boolean) 1 := ⟨(fx_s7 (List.mem_of_getElem? (i := 144) rfl) rfl), (fx_s1 (List.mem_of_getElem? (i := 13) rfl) rfl), by decide +kernel⟩
theorem yi_X12_isMarkSign : Cond.instanceMethod yX12_isMarkSign ∈ fx_all := (fx_s7 (List.mem_of_getElem? (i := 143) rfl) rfl)
theorem ys_X12_isMarkSign : Cond.selects (yX12_isMarkSign).cls yX12_isMarkSign yX12_isMarkSign ∈ fx_all := fx_sel (q := (yX12_isMarkSign, 72)) (List.mem_of_getElem? (i := 58) rfl)
abbrev cX12_wordAt : ByteArray := prog_14_method_33_code
def yX12_wordAt : MethodName := ⟨RX12, "wordAt", "(II)I"⟩
theorem ym_X12_wordAt : fx_Y yX12_wordAt cX12_wordAt 6 (some .int) 2 := ⟨(fx_s7 (List.mem_of_getElem? (i := 136) rfl) rfl), (fx_s1 (List.mem_of_getElem? (i := 13) rfl) rfl), by decide +kernel⟩
theorem yi_X12_wordAt : Cond.instanceMethod yX12_wordAt ∈ fx_all := (fx_s7 (List.mem_of_getElem? (i := 135) rfl) rfl)
theorem ys_X12_wordAt : Cond.selects (yX12_wordAt).cls yX12_wordAt yX12_wordAt ∈ fx_all := fx_sel (q := (yX12_wordAt, 72)) (List.mem_of_getElem? (i := 56) rfl)
abbrev cX12_reads : ByteArray := prog_14_method_34_code
def yX12_reads : MethodName := ⟨RX12, "reads", "()V"⟩
theorem ym_X12_reads : fx_Y yX12_reads cX12_reads 2 none 0 := ⟨(fx_s7 (List.mem_of_getElem? (i := 124) rfl) rfl), (fx_s1 (List.mem_of_getElem? (i := 13) rfl) rfl), by decide +kernel⟩
theorem yi_X12_reads : Cond.instanceMethod yX12_reads ∈ fx_all := (fx_s7 (List.mem_of_getElem? (i := 123) rfl) rfl)
theorem ys_X12_reads : Cond.selects (yX12_reads).cls yX12_reads yX12_reads ∈ fx_all := fx_sel (q := (yX12_reads, 72)) (List.mem_of_getElem? (i := 53) rfl)
abbrev cX12_errs : ByteArray := prog_14_method_35_code
def yX12_errs : MethodName := ⟨RX12, "errs", "(I)I"⟩
theorem ym_X12_errs : fx_Y yX12_errs cX12_errs 2 (some .int) 1 := ⟨(fx_s7 (List.mem_of_getElem? (i := 156) rfl) rfl), (fx_s1 (List.mem_of_getElem? (i := 13) rfl) rfl), by decide +kernel⟩
theorem yi_X12_errs : Cond.instanceMethod yX12_errs ∈ fx_all := (fx_s7 (List.mem_of_getElem? (i := 155) rfl) rfl)
theorem ys_X12_errs : Cond.selects (yX12_errs).cls yX12_errs yX12_errs ∈ fx_all := fx_sel (q := (yX12_errs, 72)) (List.mem_of_getElem? (i := 61) rfl)
abbrev cX12_isWord : ByteArray := prog_14_method_36_code
def yX12_isWord : MethodName := ⟨RX12, "isWord", "(I)Z"⟩
theorem ym_X12_isWord : fx_Y yX12_isWord cX12_isWord 2 (some .boolean) 1 := ⟨(fx_s7 (List.mem_of_getElem? (i := 152) rfl) rfl), (fx_s1 (List.mem_of_getElem? (i := 13) rfl) rfl), by decide +kernel⟩
theorem yi_X12_isWord : Cond.instanceMethod yX12_isWord ∈ fx_all := (fx_s7 (List.mem_of_getElem? (i := 151) rfl) rfl)
theorem ys_X12_isWord : Cond.selects (yX12_isWord).cls yX12_isWord yX12_isWord ∈ fx_all := fx_sel (q := (yX12_isWord, 72)) (List.mem_of_getElem? (i := 60) rfl)
abbrev cX12_isSign : ByteArray := prog_14_method_37_code
def yX12_isSign : MethodName := ⟨RX12, "isSign", "(I)Z"⟩
theorem ym_X12_isSign : fx_Y yX12_isSign cX12_isSign 2 (some .boolean) 1 := ⟨(fx_s7 (List.mem_of_getElem? (i := 176) rfl) rfl), (fx_s1 (List.mem_of_getElem? (i := 13) rfl) rfl), by decide +kernel⟩
theorem yi_X12_isSign : Cond.instanceMethod yX12_isSign ∈ fx_all := (fx_s7 (List.mem_of_getElem? (i := 175) rfl) rfl)
theorem ys_X12_isSign : Cond.selects (yX12_isSign).cls yX12_isSign yX12_isSign ∈ fx_all := fx_sel (q := (yX12_isSign, 72)) (List.mem_of_getElem? (i := 66) rfl)
abbrev cX12_emits : ByteArray := prog_14_method_38_code
def yX12_emits : MethodName := ⟨RX12, "emits", "(II)V"⟩
theorem ym_X12_emits : fx_Y yX12_emits cX12_emits 3 none 2 := ⟨(fx_s7 (List.mem_of_getElem? (i := 228) rfl) rfl), (fx_s1 (List.mem_of_getElem? (i := 13) rfl) rfl), by decide +kernel⟩
theorem yi_X12_emits : Cond.instanceMethod yX12_emits ∈ fx_all := (fx_s7 (List.mem_of_getElem? (i := 227) rfl) rfl)
theorem ys_X12_emits : Cond.selects (yX12_emits).cls yX12_emits yX12_emits ∈ fx_all := fx_sel (q := (yX12_emits, 72)) (List.mem_of_getElem? (i := 79) rfl)
abbrev cX12_canAsk : ByteArray := prog_14_method_39_code
def yX12_canAsk : MethodName := ⟨RX12, "canAsk", "(I)Z"⟩
theorem ym_X12_canAsk : fx_Y yX12_canAsk cX12_canAsk 2 (some .boolean) 1 := ⟨(fx_s7 (List.mem_of_getElem? (i := 224) rfl) rfl), (fx_s1 (List.mem_of_getElem? (i := 13) rfl) rfl), by decide +kernel⟩
theorem yi_X12_canAsk : Cond.instanceMethod yX12_canAsk ∈ fx_all := (fx_s7 (List.mem_of_getElem? (i := 223) rfl) rfl)
theorem ys_X12_canAsk : Cond.selects (yX12_canAsk).cls yX12_canAsk yX12_canAsk ∈ fx_all := fx_sel (q := (yX12_canAsk, 72)) (List.mem_of_getElem? (i := 78) rfl)
abbrev cX12_readUnit : ByteArray := prog_14_method_40_code
def yX12_readUnit : MethodName := ⟨RX12, "readUnit", "()I"⟩
theorem ym_X12_readUnit : fx_Y yX12_readUnit cX12_readUnit 2 (some .int) 0 := ⟨(fx_s7 (List.mem_of_getElem? (i := 220) rfl) rfl), (fx_s1 (List.mem_of_getElem? (i := 13) rfl) rfl), by decide +kernel⟩
theorem yi_X12_readUnit : Cond.instanceMethod yX12_readUnit ∈ fx_all := (fx_s7 (List.mem_of_getElem? (i := 219) rfl) rfl)
theorem ys_X12_readUnit : Cond.selects (yX12_readUnit).cls yX12_readUnit yX12_readUnit ∈ fx_all := fx_sel (q := (yX12_readUnit, 72)) (List.mem_of_getElem? (i := 77) rfl)
abbrev cX12_readProduct : ByteArray := prog_14_method_41_code
def yX12_readProduct : MethodName := ⟨RX12, "readProduct", "()I"⟩
theorem ym_X12_readProduct : fx_Y yX12_readProduct cX12_readProduct 2 (some .int) 0 := ⟨(fx_s7 (List.mem_of_getElem? (i := 216) rfl) rfl), (fx_s1 (List.mem_of_getElem? (i := 13) rfl) rfl), by decide +kernel⟩
theorem yi_X12_readProduct : Cond.instanceMethod yX12_readProduct ∈ fx_all := (fx_s7 (List.mem_of_getElem? (i := 215) rfl) rfl)
theorem ys_X12_readProduct : Cond.selects (yX12_readProduct).cls yX12_readProduct yX12_readProduct ∈ fx_all := fx_sel (q := (yX12_readProduct, 72)) (List.mem_of_getElem? (i := 76) rfl)
abbrev cX12_readSum : ByteArray := prog_14_method_42_code
def yX12_readSum : MethodName := ⟨RX12, "readSum", "()I"⟩
theorem ym_X12_readSum : fx_Y yX12_readSum cX12_readSum 2 (some .int) 0 := ⟨(fx_s7 (List.mem_of_getElem? (i := 212) rfl) rfl), (fx_s1 (List.mem_of_getElem? (i := 13) rfl) rfl), by decide +kernel⟩
theorem yi_X12_readSum : Cond.instanceMethod yX12_readSum ∈ fx_all := (fx_s7 (List.mem_of_getElem? (i := 211) rfl) rfl)
theorem ys_X12_readSum : Cond.selects (yX12_readSum).cls yX12_readSum yX12_readSum ∈ fx_all := fx_sel (q := (yX12_readSum, 72)) (List.mem_of_getElem? (i := 75) rfl)
abbrev cX12_readCompared : ByteArray := prog_14_method_43_code
def yX12_readCompared : MethodName := ⟨RX12, "readCompared", "()I"⟩
theorem ym_X12_readCompared : fx_Y yX12_readCompared cX12_readCompared 2 (some .int) 0 := ⟨(fx_s8 (List.mem_of_getElem? (i := 0) rfl) rfl), (fx_s1 (List.mem_of_getElem? (i := 13) rfl) rfl), by decide +kernel⟩
theorem yi_X12_readCompared : Cond.instanceMethod yX12_readCompared ∈ fx_all := (fx_s7 (List.mem_of_getElem? (i := 239) rfl) rfl)
theorem ys_X12_readCompared : Cond.selects (yX12_readCompared).cls yX12_readCompared yX12_readCompared ∈ fx_all := fx_sel (q := (yX12_readCompared, 72)) (List.mem_of_getElem? (i := 82) rfl)
abbrev cX12_waits : ByteArray := prog_14_method_44_code
def yX12_waits : MethodName := ⟨RX12, "waits", "(I)V"⟩
theorem ym_X12_waits : fx_Y yX12_waits cX12_waits 2 none 1 := ⟨(fx_s7 (List.mem_of_getElem? (i := 236) rfl) rfl), (fx_s1 (List.mem_of_getElem? (i := 13) rfl) rfl), by decide +kernel⟩
theorem yi_X12_waits : Cond.instanceMethod yX12_waits ∈ fx_all := (fx_s7 (List.mem_of_getElem? (i := 235) rfl) rfl)
theorem ys_X12_waits : Cond.selects (yX12_waits).cls yX12_waits yX12_waits ∈ fx_all := fx_sel (q := (yX12_waits, 72)) (List.mem_of_getElem? (i := 81) rfl)
abbrev cX12_settles : ByteArray := prog_14_method_45_code
def yX12_settles : MethodName := ⟨RX12, "settles", "(I)V"⟩
theorem ym_X12_settles : fx_Y yX12_settles cX12_settles 2 none 1 := ⟨(fx_s8 (List.mem_of_getElem? (i := 4) rfl) rfl), (fx_s1 (List.mem_of_getElem? (i := 13) rfl) rfl), by decide +kernel⟩
theorem yi_X12_settles : Cond.instanceMethod yX12_settles ∈ fx_all := (fx_s8 (List.mem_of_getElem? (i := 3) rfl) rfl)
theorem ys_X12_settles : Cond.selects (yX12_settles).cls yX12_settles yX12_settles ∈ fx_all := fx_sel (q := (yX12_settles, 72)) (List.mem_of_getElem? (i := 83) rfl)
abbrev cX12_readAny : ByteArray := prog_14_method_46_code
def yX12_readAny : MethodName := ⟨RX12, "readAny", "()I"⟩
theorem ym_X12_readAny : fx_Y yX12_readAny cX12_readAny 4 (some .int) 0 := ⟨(fx_s7 (List.mem_of_getElem? (i := 232) rfl) rfl), (fx_s1 (List.mem_of_getElem? (i := 13) rfl) rfl), by decide +kernel⟩
theorem yi_X12_readAny : Cond.instanceMethod yX12_readAny ∈ fx_all := (fx_s7 (List.mem_of_getElem? (i := 231) rfl) rfl)
theorem ys_X12_readAny : Cond.selects (yX12_readAny).cls yX12_readAny yX12_readAny ∈ fx_all := fx_sel (q := (yX12_readAny, 72)) (List.mem_of_getElem? (i := 80) rfl)
abbrev cX12_isLineWord : ByteArray := prog_14_method_47_code
def yX12_isLineWord : MethodName := ⟨RX12, "isLineWord", "()Z"⟩
theorem ym_X12_isLineWord : fx_Y yX12_isLineWord cX12_isLineWord 1 (some .boolean) 0 := ⟨(fx_s7 (List.mem_of_getElem? (i := 208) rfl) rfl), (fx_s1 (List.mem_of_getElem? (i := 13) rfl) rfl), by decide +kernel⟩
theorem yi_X12_isLineWord : Cond.instanceMethod yX12_isLineWord ∈ fx_all := (fx_s7 (List.mem_of_getElem? (i := 207) rfl) rfl)
theorem ys_X12_isLineWord : Cond.selects (yX12_isLineWord).cls yX12_isLineWord yX12_isLineWord ∈ fx_all := fx_sel (q := (yX12_isLineWord, 72)) (List.mem_of_getElem? (i := 74) rfl)
abbrev cX12_readLaw : ByteArray := prog_14_method_48_code
def yX12_readLaw : MethodName := ⟨RX12, "readLaw", "()I"⟩
theorem ym_X12_readLaw : fx_Y yX12_readLaw cX12_readLaw 3 (some .int) 0 := ⟨(fx_s7 (List.mem_of_getElem? (i := 204) rfl) rfl), (fx_s1 (List.mem_of_getElem? (i := 13) rfl) rfl), by decide +kernel⟩
theorem yi_X12_readLaw : Cond.instanceMethod yX12_readLaw ∈ fx_all := (fx_s7 (List.mem_of_getElem? (i := 203) rfl) rfl)
theorem ys_X12_readLaw : Cond.selects (yX12_readLaw).cls yX12_readLaw yX12_readLaw ∈ fx_all := fx_sel (q := (yX12_readLaw, 72)) (List.mem_of_getElem? (i := 73) rfl)
abbrev cX12_takesLaw : ByteArray := prog_14_method_49_code
def yX12_takesLaw : MethodName := ⟨RX12, "takesLaw", "(I)V"⟩
theorem ym_X12_takesLaw : fx_Y yX12_takesLaw cX12_takesLaw 3 none 1 := ⟨(fx_s8 (List.mem_of_getElem? (i := 8) rfl) rfl), (fx_s1 (List.mem_of_getElem? (i := 13) rfl) rfl), by decide +kernel⟩
theorem yi_X12_takesLaw : Cond.instanceMethod yX12_takesLaw ∈ fx_all := (fx_s8 (List.mem_of_getElem? (i := 7) rfl) rfl)
theorem ys_X12_takesLaw : Cond.selects (yX12_takesLaw).cls yX12_takesLaw yX12_takesLaw ∈ fx_all := fx_sel (q := (yX12_takesLaw, 72)) (List.mem_of_getElem? (i := 84) rfl)
abbrev cX12_readNumber : ByteArray := prog_14_method_50_code
def yX12_readNumber : MethodName := ⟨RX12, "readNumber", "(II)I"⟩
theorem ym_X12_readNumber : fx_Y yX12_readNumber cX12_readNumber 4 (some .int) 2 := ⟨(fx_s7 (List.mem_of_getElem? (i := 168) rfl) rfl), (fx_s1 (List.mem_of_getElem? (i := 13) rfl) rfl), by decide +kernel⟩
theorem yi_X12_readNumber : Cond.instanceMethod yX12_readNumber ∈ fx_all := (fx_s7 (List.mem_of_getElem? (i := 167) rfl) rfl)
theorem ys_X12_readNumber : Cond.selects (yX12_readNumber).cls yX12_readNumber yX12_readNumber ∈ fx_all := fx_sel (q := (yX12_readNumber, 72)) (List.mem_of_getElem? (i := 64) rfl)
abbrev cX12_readMark : ByteArray := prog_14_method_51_code
def yX12_readMark : MethodName := ⟨RX12, "readMark", "(I)I"⟩
theorem ym_X12_readMark : fx_Y yX12_readMark cX12_readMark 2 (some .int) 1 := ⟨(fx_s7 (List.mem_of_getElem? (i := 172) rfl) rfl), (fx_s1 (List.mem_of_getElem? (i := 13) rfl) rfl), by decide +kernel⟩
theorem yi_X12_readMark : Cond.instanceMethod yX12_readMark ∈ fx_all := (fx_s7 (List.mem_of_getElem? (i := 171) rfl) rfl)
theorem ys_X12_readMark : Cond.selects (yX12_readMark).cls yX12_readMark yX12_readMark ∈ fx_all := fx_sel (q := (yX12_readMark, 72)) (List.mem_of_getElem? (i := 65) rfl)
abbrev cX12_readTold : ByteArray := prog_14_method_52_code
def yX12_readTold : MethodName := ⟨RX12, "readTold", "(III)I"⟩
theorem ym_X12_readTold : fx_Y yX12_readTold cX12_readTold 4 (some .int) 3 := ⟨(fx_s7 (List.mem_of_getElem? (i := 164) rfl) rfl), (fx_s1 (List.mem_of_getElem? (i := 13) rfl) rfl), by decide +kernel⟩
theorem yi_X12_readTold : Cond.instanceMethod yX12_readTold ∈ fx_all := (fx_s7 (List.mem_of_getElem? (i := 163) rfl) rfl)
theorem ys_X12_readTold : Cond.selects (yX12_readTold).cls yX12_readTold yX12_readTold ∈ fx_all := fx_sel (q := (yX12_readTold, 72)) (List.mem_of_getElem? (i := 63) rfl)
abbrev cX12_readFollow : ByteArray := prog_14_method_53_code
def yX12_readFollow : MethodName := ⟨RX12, "readFollow", "()I"⟩
theorem ym_X12_readFollow : fx_Y yX12_readFollow cX12_readFollow 3 (some .int) 0 := ⟨(fx_s7 (List.mem_of_getElem? (i := 160) rfl) rfl), (fx_s1 (List.mem_of_getElem? (i := 13) rfl) rfl), by decide +kernel⟩
theorem yi_X12_readFollow : Cond.instanceMethod yX12_readFollow ∈ fx_all := (fx_s7 (List.mem_of_getElem? (i := 159) rfl) rfl)
theorem ys_X12_readFollow : Cond.selects (yX12_readFollow).cls yX12_readFollow yX12_readFollow ∈ fx_all := fx_sel (q := (yX12_readFollow, 72)) (List.mem_of_getElem? (i := 62) rfl)
abbrev cX12_readFollows : ByteArray := prog_14_method_54_code
def yX12_readFollows : MethodName := ⟨RX12, "readFollows", "()I"⟩
theorem ym_X12_readFollows : fx_Y yX12_readFollows cX12_readFollows 2 (some .int) 0 := ⟨(fx_s7 (List.mem_of_getElem? (i := 148) rfl) rfl), (fx_s1 (List.mem_of_getElem? (i := 13) rfl) rfl), by decide +kernel⟩
theorem yi_X12_readFollows : Cond.instanceMethod yX12_readFollows ∈ fx_all := (fx_s7 (List.mem_of_getElem? (i := 147) rfl) rfl)
theorem ys_X12_readFollows : Cond.selects (yX12_readFollows).cls yX12_readFollows yX12_readFollows ∈ fx_all := fx_sel (q := (yX12_readFollows, 72)) (List.mem_of_getElem? (i := 59) rfl)
abbrev cX12_kindOfDeed : ByteArray := prog_14_method_55_code
def yX12_kindOfDeed : MethodName := ⟨RX12, "kindOfDeed", "()I"⟩
theorem ym_X12_kindOfDeed : fx_Y yX12_kindOfDeed cX12_kindOfDeed 1 (some .int) 0 := ⟨(fx_s7 (List.mem_of_getElem? (i := 188) rfl) rfl), (fx_s1 (List.mem_of_getElem? (i := 13) rfl) rfl), by decide +kernel⟩
theorem yi_X12_kindOfDeed : Cond.instanceMethod yX12_kindOfDeed ∈ fx_all := (fx_s7 (List.mem_of_getElem? (i := 187) rfl) rfl)
theorem ys_X12_kindOfDeed : Cond.selects (yX12_kindOfDeed).cls yX12_kindOfDeed yX12_kindOfDeed ∈ fx_all := fx_sel (q := (yX12_kindOfDeed, 72)) (List.mem_of_getElem? (i := 69) rfl)
abbrev cX12_mostFor : ByteArray := prog_14_method_56_code
def yX12_mostFor : MethodName := ⟨RX12, "mostFor", "(I)I"⟩
theorem ym_X12_mostFor : fx_Y yX12_mostFor cX12_mostFor 2 (some .int) 1 := ⟨(fx_s7 (List.mem_of_getElem? (i := 192) rfl) rfl), (fx_s1 (List.mem_of_getElem? (i := 13) rfl) rfl), by decide +kernel⟩
theorem yi_X12_mostFor : Cond.instanceMethod yX12_mostFor ∈ fx_all := (fx_s7 (List.mem_of_getElem? (i := 191) rfl) rfl)
theorem ys_X12_mostFor : Cond.selects (yX12_mostFor).cls yX12_mostFor yX12_mostFor ∈ fx_all := fx_sel (q := (yX12_mostFor, 72)) (List.mem_of_getElem? (i := 70) rfl)
abbrev cX12_readDeed : ByteArray := prog_14_method_57_code
def yX12_readDeed : MethodName := ⟨RX12, "readDeed", "(I)I"⟩
theorem ym_X12_readDeed : fx_Y yX12_readDeed cX12_readDeed 3 (some .int) 1 := ⟨(fx_s7 (List.mem_of_getElem? (i := 184) rfl) rfl), (fx_s1 (List.mem_of_getElem? (i := 13) rfl) rfl), by decide +kernel⟩
theorem yi_X12_readDeed : Cond.instanceMethod yX12_readDeed ∈ fx_all := (fx_s7 (List.mem_of_getElem? (i := 183) rfl) rfl)
theorem ys_X12_readDeed : Cond.selects (yX12_readDeed).cls yX12_readDeed yX12_readDeed ∈ fx_all := fx_sel (q := (yX12_readDeed, 72)) (List.mem_of_getElem? (i := 68) rfl)
abbrev cX12_readWeek : ByteArray := prog_14_method_58_code
def yX12_readWeek : MethodName := ⟨RX12, "readWeek", "()I"⟩
theorem ym_X12_readWeek : fx_Y yX12_readWeek cX12_readWeek 2 (some .int) 0 := ⟨(fx_s7 (List.mem_of_getElem? (i := 180) rfl) rfl), (fx_s1 (List.mem_of_getElem? (i := 13) rfl) rfl), by decide +kernel⟩
theorem yi_X12_readWeek : Cond.instanceMethod yX12_readWeek ∈ fx_all := (fx_s7 (List.mem_of_getElem? (i := 179) rfl) rfl)
theorem ys_X12_readWeek : Cond.selects (yX12_readWeek).cls yX12_readWeek yX12_readWeek ∈ fx_all := fx_sel (q := (yX12_readWeek, 72)) (List.mem_of_getElem? (i := 67) rfl)
abbrev cX12_readWant : ByteArray := prog_14_method_59_code
def yX12_readWant : MethodName := ⟨RX12, "readWant", "()I"⟩
theorem ym_X12_readWant : fx_Y yX12_readWant cX12_readWant 4 (some .int) 0 := ⟨(fx_s7 (List.mem_of_getElem? (i := 200) rfl) rfl), (fx_s1 (List.mem_of_getElem? (i := 13) rfl) rfl), by decide +kernel⟩
theorem yi_X12_readWant : Cond.instanceMethod yX12_readWant ∈ fx_all := (fx_s7 (List.mem_of_getElem? (i := 199) rfl) rfl)
theorem ys_X12_readWant : Cond.selects (yX12_readWant).cls yX12_readWant yX12_readWant ∈ fx_all := fx_sel (q := (yX12_readWant, 72)) (List.mem_of_getElem? (i := 72) rfl)
abbrev cX12_readWants : ByteArray := prog_14_method_60_code
def yX12_readWants : MethodName := ⟨RX12, "readWants", "()I"⟩
theorem ym_X12_readWants : fx_Y yX12_readWants cX12_readWants 2 (some .int) 0 := ⟨(fx_s7 (List.mem_of_getElem? (i := 196) rfl) rfl), (fx_s1 (List.mem_of_getElem? (i := 13) rfl) rfl), by decide +kernel⟩
theorem yi_X12_readWants : Cond.instanceMethod yX12_readWants ∈ fx_all := (fx_s7 (List.mem_of_getElem? (i := 195) rfl) rfl)
theorem ys_X12_readWants : Cond.selects (yX12_readWants).cls yX12_readWants yX12_readWants ∈ fx_all := fx_sel (q := (yX12_readWants, 72)) (List.mem_of_getElem? (i := 71) rfl)
abbrev cX12_readsText : ByteArray := prog_14_method_61_code
def yX12_readsText : MethodName := ⟨RX12, "readsText", "(I)I"⟩
theorem ym_X12_readsText : fx_Y yX12_readsText cX12_readsText 2 (some .int) 1 := ⟨(fx_s7 (List.mem_of_getElem? (i := 120) rfl) rfl), (fx_s1 (List.mem_of_getElem? (i := 13) rfl) rfl), by decide +kernel⟩
theorem yi_X12_readsText : Cond.instanceMethod yX12_readsText ∈ fx_all := (fx_s7 (List.mem_of_getElem? (i := 119) rfl) rfl)
theorem ys_X12_readsText : Cond.selects (yX12_readsText).cls yX12_readsText yX12_readsText ∈ fx_all := fx_sel (q := (yX12_readsText, 72)) (List.mem_of_getElem? (i := 52) rfl)
abbrev cX12_takesOther : ByteArray := prog_14_method_62_code
def yX12_takesOther : MethodName := ⟨RX12, "takesOther", "(II)V"⟩
theorem ym_X12_takesOther : fx_Y yX12_takesOther cX12_takesOther 4 none 2 := ⟨(fx_s8 (List.mem_of_getElem? (i := 12) rfl) rfl), (fx_s1 (List.mem_of_getElem? (i := 13) rfl) rfl), by decide +kernel⟩
theorem yi_X12_takesOther : Cond.instanceMethod yX12_takesOther ∈ fx_all := (fx_s8 (List.mem_of_getElem? (i := 11) rfl) rfl)
theorem ys_X12_takesOther : Cond.selects (yX12_takesOther).cls yX12_takesOther yX12_takesOther ∈ fx_all := fx_sel (q := (yX12_takesOther, 72)) (List.mem_of_getElem? (i := 85) rfl)
abbrev cX12_text : ByteArray := prog_14_method_63_code
def yX12_text : MethodName := ⟨RX12, "text", "(I)I"⟩
theorem ym_X12_text : fx_Y yX12_text cX12_text 3 (some .int) 1 := ⟨(fx_s7 (List.mem_of_getElem? (i := 116) rfl) rfl), (fx_s1 (List.mem_of_getElem? (i := 13) rfl) rfl), by decide +kernel⟩
theorem yi_X12_text : Cond.instanceMethod yX12_text ∈ fx_all := (fx_s7 (List.mem_of_getElem? (i := 114) rfl) rfl)
theorem ys_X12_text : Cond.selects (yX12_text).cls yX12_text yX12_text ∈ fx_all := (fx_s7 (List.mem_of_getElem? (i := 115) rfl) rfl)
abbrev cX12_fault : ByteArray := prog_14_method_64_code
def yX12_fault : MethodName := ⟨RX12, "fault", "(I)I"⟩
theorem ym_X12_fault : fx_Y yX12_fault cX12_fault 2 (some .int) 1 := ⟨(fx_s8 (List.mem_of_getElem? (i := 16) rfl) rfl), (fx_s1 (List.mem_of_getElem? (i := 13) rfl) rfl), by decide +kernel⟩
theorem yi_X12_fault : Cond.instanceMethod yX12_fault ∈ fx_all := (fx_s8 (List.mem_of_getElem? (i := 14) rfl) rfl)
theorem ys_X12_fault : Cond.selects (yX12_fault).cls yX12_fault yX12_fault ∈ fx_all := (fx_s8 (List.mem_of_getElem? (i := 15) rfl) rfl)
abbrev cX12_twoOf : ByteArray := prog_14_method_65_code
def yX12_twoOf : MethodName := ⟨RX12, "twoOf", "(III)I"⟩
theorem ym_X12_twoOf : fx_Y yX12_twoOf cX12_twoOf 4 (some .int) 3 := ⟨(fx_s8 (List.mem_of_getElem? (i := 68) rfl) rfl), (fx_s1 (List.mem_of_getElem? (i := 13) rfl) rfl), by decide +kernel⟩
theorem yi_X12_twoOf : Cond.instanceMethod yX12_twoOf ∈ fx_all := (fx_s8 (List.mem_of_getElem? (i := 67) rfl) rfl)
theorem ys_X12_twoOf : Cond.selects (yX12_twoOf).cls yX12_twoOf yX12_twoOf ∈ fx_all := fx_sel (q := (yX12_twoOf, 72)) (List.mem_of_getElem? (i := 97) rfl)
abbrev cX12_runs : ByteArray := prog_14_method_66_code
def yX12_runs : MethodName := ⟨RX12, "runs", "(III)I"⟩
theorem ym_X12_runs : fx_Y yX12_runs cX12_runs 6 (some .int) 3 := ⟨(fx_s8 (List.mem_of_getElem? (i := 64) rfl) rfl), (fx_s1 (List.mem_of_getElem? (i := 13) rfl) rfl), by decide +kernel⟩
theorem yi_X12_runs : Cond.instanceMethod yX12_runs ∈ fx_all := (fx_s8 (List.mem_of_getElem? (i := 63) rfl) rfl)
theorem ys_X12_runs : Cond.selects (yX12_runs).cls yX12_runs yX12_runs ∈ fx_all := fx_sel (q := (yX12_runs, 72)) (List.mem_of_getElem? (i := 96) rfl)
abbrev cX12_lineOf : ByteArray := prog_14_method_67_code
def yX12_lineOf : MethodName := ⟨RX12, "lineOf", "(I)I"⟩
theorem ym_X12_lineOf : fx_Y yX12_lineOf cX12_lineOf 3 (some .int) 1 := ⟨(fx_s8 (List.mem_of_getElem? (i := 60) rfl) rfl), (fx_s1 (List.mem_of_getElem? (i := 13) rfl) rfl), by decide +kernel⟩
theorem yi_X12_lineOf : Cond.instanceMethod yX12_lineOf ∈ fx_all := (fx_s8 (List.mem_of_getElem? (i := 59) rfl) rfl)
theorem ys_X12_lineOf : Cond.selects (yX12_lineOf).cls yX12_lineOf yX12_lineOf ∈ fx_all := fx_sel (q := (yX12_lineOf, 72)) (List.mem_of_getElem? (i := 95) rfl)
abbrev cX12_asks : ByteArray := prog_14_method_68_code
def yX12_asks : MethodName := ⟨RX12, "asks", "(IIII)V"⟩
theorem ym_X12_asks : fx_Y yX12_asks cX12_asks 5 none 4 := ⟨(fx_s8 (List.mem_of_getElem? (i := 44) rfl) rfl), (fx_s1 (List.mem_of_getElem? (i := 13) rfl) rfl), by decide +kernel⟩
theorem yi_X12_asks : Cond.instanceMethod yX12_asks ∈ fx_all := (fx_s8 (List.mem_of_getElem? (i := 43) rfl) rfl)
theorem ys_X12_asks : Cond.selects (yX12_asks).cls yX12_asks yX12_asks ∈ fx_all := fx_sel (q := (yX12_asks, 72)) (List.mem_of_getElem? (i := 91) rfl)
abbrev cX12_lawTells : ByteArray := prog_14_method_69_code
def yX12_lawTells : MethodName := ⟨RX12, "lawTells", "(IIII)I"⟩
theorem ym_X12_lawTells : fx_Y yX12_lawTells cX12_lawTells 6 (some .int) 4 := ⟨(fx_s8 (List.mem_of_getElem? (i := 56) rfl) rfl), (fx_s1 (List.mem_of_getElem? (i := 13) rfl) rfl), by decide +kernel⟩
theorem yi_X12_lawTells : Cond.instanceMethod yX12_lawTells ∈ fx_all := (fx_s8 (List.mem_of_getElem? (i := 55) rfl) rfl)
theorem ys_X12_lawTells : Cond.selects (yX12_lawTells).cls yX12_lawTells yX12_lawTells ∈ fx_all := fx_sel (q := (yX12_lawTells, 72)) (List.mem_of_getElem? (i := 94) rfl)
abbrev cX12_bidsOf : ByteArray := prog_14_method_70_code
def yX12_bidsOf : MethodName := ⟨RX12, "bidsOf", "(IIII)I"⟩
theorem ym_X12_bidsOf : fx_Y yX12_bidsOf cX12_bidsOf 5 (some .int) 4 := ⟨(fx_s8 (List.mem_of_getElem? (i := 40) rfl) rfl), (fx_s1 (List.mem_of_getElem? (i := 13) rfl) rfl), by decide +kernel⟩
theorem yi_X12_bidsOf : Cond.instanceMethod yX12_bidsOf ∈ fx_all := (fx_s8 (List.mem_of_getElem? (i := 39) rfl) rfl)
theorem ys_X12_bidsOf : Cond.selects (yX12_bidsOf).cls yX12_bidsOf yX12_bidsOf ∈ fx_all := fx_sel (q := (yX12_bidsOf, 72)) (List.mem_of_getElem? (i := 90) rfl)
abbrev cX12_stepOf : ByteArray := prog_14_method_71_code
def yX12_stepOf : MethodName := ⟨RX12, "stepOf", "(IIII)I"⟩
theorem ym_X12_stepOf : fx_Y yX12_stepOf cX12_stepOf 5 (some .int) 4 := ⟨(fx_s8 (List.mem_of_getElem? (i := 82) rfl) rfl), (fx_s1 (List.mem_of_getElem? (i := 13) rfl) rfl), by decide +kernel⟩
theorem yi_X12_stepOf : Cond.instanceMethod yX12_stepOf ∈ fx_all := (fx_s8 (List.mem_of_getElem? (i := 81) rfl) rfl)
theorem ys_X12_stepOf : Cond.selects (yX12_stepOf).cls yX12_stepOf yX12_stepOf ∈ fx_all := fx_sel (q := (yX12_stepOf, 72)) (List.mem_of_getElem? (i := 100) rfl)
abbrev cX12_fullOf : ByteArray := prog_14_method_72_code
def yX12_fullOf : MethodName := ⟨RX12, "fullOf", "(IIII)I"⟩
theorem ym_X12_fullOf : fx_Y yX12_fullOf cX12_fullOf 5 (some .int) 4 := ⟨(fx_s8 (List.mem_of_getElem? (i := 94) rfl) rfl), (fx_s1 (List.mem_of_getElem? (i := 13) rfl) rfl), by decide +kernel⟩
theorem yi_X12_fullOf : Cond.instanceMethod yX12_fullOf ∈ fx_all := (fx_s8 (List.mem_of_getElem? (i := 93) rfl) rfl)
theorem ys_X12_fullOf : Cond.selects (yX12_fullOf).cls yX12_fullOf yX12_fullOf ∈ fx_all := fx_sel (q := (yX12_fullOf, 72)) (List.mem_of_getElem? (i := 103) rfl)
abbrev cX12_notes : ByteArray := prog_14_method_73_code
def yX12_notes : MethodName := ⟨RX12, "notes", "(III)V"⟩
theorem ym_X12_notes : fx_Y yX12_notes cX12_notes 5 none 3 := ⟨(fx_s8 (List.mem_of_getElem? (i := 86) rfl) rfl), (fx_s1 (List.mem_of_getElem? (i := 13) rfl) rfl), by decide +kernel⟩
theorem yi_X12_notes : Cond.instanceMethod yX12_notes ∈ fx_all := (fx_s8 (List.mem_of_getElem? (i := 85) rfl) rfl)
theorem ys_X12_notes : Cond.selects (yX12_notes).cls yX12_notes yX12_notes ∈ fx_all := fx_sel (q := (yX12_notes, 72)) (List.mem_of_getElem? (i := 101) rfl)
abbrev cX12_doesBid : ByteArray := prog_14_method_74_code
def yX12_doesBid : MethodName := ⟨RX12, "doesBid", "(III)Z"⟩
theorem ym_X12_doesBid : fx_Y yX12_doesBid cX12_doesBid 6 (some .boolean) 3 := ⟨(fx_s8 (List.mem_of_getElem? (i := 36) rfl) rfl), (fx_s1 (List.mem_of_getElem? (i := 13) rfl) rfl), by decide +kernel⟩
theorem yi_X12_doesBid : Cond.instanceMethod yX12_doesBid ∈ fx_all := (fx_s8 (List.mem_of_getElem? (i := 35) rfl) rfl)
theorem ys_X12_doesBid : Cond.selects (yX12_doesBid).cls yX12_doesBid yX12_doesBid ∈ fx_all := fx_sel (q := (yX12_doesBid, 72)) (List.mem_of_getElem? (i := 89) rfl)
abbrev cX12_isBidFor : ByteArray := prog_14_method_75_code
def yX12_isBidFor : MethodName := ⟨RX12, "isBidFor", "(I)V"⟩
theorem ym_X12_isBidFor : fx_Y yX12_isBidFor cX12_isBidFor 4 none 1 := ⟨(fx_s8 (List.mem_of_getElem? (i := 32) rfl) rfl), (fx_s1 (List.mem_of_getElem? (i := 13) rfl) rfl), by decide +kernel⟩
theorem yi_X12_isBidFor : Cond.instanceMethod yX12_isBidFor ∈ fx_all := (fx_s8 (List.mem_of_getElem? (i := 31) rfl) rfl)
theorem ys_X12_isBidFor : Cond.selects (yX12_isBidFor).cls yX12_isBidFor yX12_isBidFor ∈ fx_all := fx_sel (q := (yX12_isBidFor, 72)) (List.mem_of_getElem? (i := 88) rfl)
abbrev cX12_openedBy : ByteArray := prog_14_method_76_code
def yX12_openedBy : MethodName := ⟨RX12, "openedBy", "(I)I"⟩
theorem ym_X12_openedBy : fx_Y yX12_openedBy cX12_openedBy 3 (some .int) 1 := ⟨(fx_s8 (List.mem_of_getElem? (i := 90) rfl) rfl), (fx_s1 (List.mem_of_getElem? (i := 13) rfl) rfl), by decide +kernel⟩
theorem yi_X12_openedBy : Cond.instanceMethod yX12_openedBy ∈ fx_all := (fx_s8 (List.mem_of_getElem? (i := 89) rfl) rfl)
theorem ys_X12_openedBy : Cond.selects (yX12_openedBy).cls yX12_openedBy yX12_openedBy ∈ fx_all := fx_sel (q := (yX12_openedBy, 72)) (List.mem_of_getElem? (i := 102) rfl)
abbrev cX12_sells : ByteArray := prog_14_method_77_code
def yX12_sells : MethodName := ⟨RX12, "sells", "(I)I"⟩
theorem ym_X12_sells : fx_Y yX12_sells cX12_sells 4 (some .int) 1 := ⟨(fx_s8 (List.mem_of_getElem? (i := 28) rfl) rfl), (fx_s1 (List.mem_of_getElem? (i := 13) rfl) rfl), by decide +kernel⟩
theorem yi_X12_sells : Cond.instanceMethod yX12_sells ∈ fx_all := (fx_s8 (List.mem_of_getElem? (i := 27) rfl) rfl)
theorem ys_X12_sells : Cond.selects (yX12_sells).cls yX12_sells yX12_sells ∈ fx_all := fx_sel (q := (yX12_sells, 72)) (List.mem_of_getElem? (i := 87) rfl)
abbrev cX12_sell : ByteArray := prog_14_method_78_code
def yX12_sell : MethodName := ⟨RX12, "sell", "(I)I"⟩
theorem ym_X12_sell : fx_Y yX12_sell cX12_sell 2 (some .int) 1 := ⟨(fx_s8 (List.mem_of_getElem? (i := 20) rfl) rfl), (fx_s1 (List.mem_of_getElem? (i := 13) rfl) rfl), by decide +kernel⟩
theorem yi_X12_sell : Cond.instanceMethod yX12_sell ∈ fx_all := (fx_s8 (List.mem_of_getElem? (i := 18) rfl) rfl)
theorem ys_X12_sell : Cond.selects (yX12_sell).cls yX12_sell yX12_sell ∈ fx_all := (fx_s8 (List.mem_of_getElem? (i := 19) rfl) rfl)
abbrev cX12_paysMore : ByteArray := prog_14_method_79_code
def yX12_paysMore : MethodName := ⟨RX12, "paysMore", "(II)V"⟩
theorem ym_X12_paysMore : fx_Y yX12_paysMore cX12_paysMore 3 none 2 := ⟨(fx_s8 (List.mem_of_getElem? (i := 106) rfl) rfl), (fx_s1 (List.mem_of_getElem? (i := 13) rfl) rfl), by decide +kernel⟩
theorem yi_X12_paysMore : Cond.instanceMethod yX12_paysMore ∈ fx_all := (fx_s8 (List.mem_of_getElem? (i := 105) rfl) rfl)
theorem ys_X12_paysMore : Cond.selects (yX12_paysMore).cls yX12_paysMore yX12_paysMore ∈ fx_all := fx_sel (q := (yX12_paysMore, 72)) (List.mem_of_getElem? (i := 105) rfl)
abbrev cX12_pay : ByteArray := prog_14_method_80_code
def yX12_pay : MethodName := ⟨RX12, "pay", "(II)Z"⟩
theorem ym_X12_pay : fx_Y yX12_pay cX12_pay 3 (some .boolean) 2 := ⟨(fx_s8 (List.mem_of_getElem? (i := 102) rfl) rfl), (fx_s1 (List.mem_of_getElem? (i := 13) rfl) rfl), by decide +kernel⟩
theorem yi_X12_pay : Cond.instanceMethod yX12_pay ∈ fx_all := (fx_s8 (List.mem_of_getElem? (i := 100) rfl) rfl)
theorem ys_X12_pay : Cond.selects (yX12_pay).cls yX12_pay yX12_pay ∈ fx_all := (fx_s8 (List.mem_of_getElem? (i := 101) rfl) rfl)
abbrev cX12_give : ByteArray := prog_14_method_81_code
def yX12_give : MethodName := ⟨RX12, "give", "(III)Z"⟩
theorem ym_X12_give : fx_Y yX12_give cX12_give 4 (some .boolean) 3 := ⟨(fx_s8 (List.mem_of_getElem? (i := 114) rfl) rfl), (fx_s1 (List.mem_of_getElem? (i := 13) rfl) rfl), by decide +kernel⟩
theorem yi_X12_give : Cond.instanceMethod yX12_give ∈ fx_all := (fx_s8 (List.mem_of_getElem? (i := 112) rfl) rfl)
theorem ys_X12_give : Cond.selects (yX12_give).cls yX12_give yX12_give ∈ fx_all := (fx_s8 (List.mem_of_getElem? (i := 113) rfl) rfl)
abbrev cX12_settle : ByteArray := prog_14_method_82_code
def yX12_settle : MethodName := ⟨RX12, "settle", "(I)I"⟩
theorem ym_X12_settle : fx_Y yX12_settle cX12_settle 3 (some .int) 1 := ⟨(fx_s8 (List.mem_of_getElem? (i := 118) rfl) rfl), (fx_s1 (List.mem_of_getElem? (i := 13) rfl) rfl), by decide +kernel⟩
theorem yi_X12_settle : Cond.instanceMethod yX12_settle ∈ fx_all := (fx_s8 (List.mem_of_getElem? (i := 116) rfl) rfl)
theorem ys_X12_settle : Cond.selects (yX12_settle).cls yX12_settle yX12_settle ∈ fx_all := (fx_s8 (List.mem_of_getElem? (i := 117) rfl) rfl)
abbrev cX12_policeTake : ByteArray := prog_14_method_83_code
def yX12_policeTake : MethodName := ⟨RX12, "policeTake", "()V"⟩
theorem ym_X12_policeTake : fx_Y yX12_policeTake cX12_policeTake 3 none 0 := ⟨(fx_s8 (List.mem_of_getElem? (i := 134) rfl) rfl), (fx_s1 (List.mem_of_getElem? (i := 13) rfl) rfl), by decide +kernel⟩
theorem yi_X12_policeTake : Cond.instanceMethod yX12_policeTake ∈ fx_all := (fx_s8 (List.mem_of_getElem? (i := 133) rfl) rfl)
theorem ys_X12_policeTake : Cond.selects (yX12_policeTake).cls yX12_policeTake yX12_policeTake ∈ fx_all := fx_sel (q := (yX12_policeTake, 72)) (List.mem_of_getElem? (i := 109) rfl)
abbrev cX12_does : ByteArray := prog_14_method_84_code
def yX12_does : MethodName := ⟨RX12, "does", "(I)Z"⟩
theorem ym_X12_does : fx_Y yX12_does cX12_does 4 (some .boolean) 1 := ⟨(fx_s8 (List.mem_of_getElem? (i := 130) rfl) rfl), (fx_s1 (List.mem_of_getElem? (i := 13) rfl) rfl), by decide +kernel⟩
theorem yi_X12_does : Cond.instanceMethod yX12_does ∈ fx_all := (fx_s8 (List.mem_of_getElem? (i := 129) rfl) rfl)
theorem ys_X12_does : Cond.selects (yX12_does).cls yX12_does yX12_does ∈ fx_all := fx_sel (q := (yX12_does, 72)) (List.mem_of_getElem? (i := 108) rfl)
abbrev cX12_goesBy : ByteArray := prog_14_method_85_code
def yX12_goesBy : MethodName := ⟨RX12, "goesBy", "()I"⟩
theorem ym_X12_goesBy : fx_Y yX12_goesBy cX12_goesBy 3 (some .int) 0 := ⟨(fx_s8 (List.mem_of_getElem? (i := 126) rfl) rfl), (fx_s1 (List.mem_of_getElem? (i := 13) rfl) rfl), by decide +kernel⟩
theorem yi_X12_goesBy : Cond.instanceMethod yX12_goesBy ∈ fx_all := (fx_s8 (List.mem_of_getElem? (i := 125) rfl) rfl)
theorem ys_X12_goesBy : Cond.selects (yX12_goesBy).cls yX12_goesBy yX12_goesBy ∈ fx_all := fx_sel (q := (yX12_goesBy, 72)) (List.mem_of_getElem? (i := 107) rfl)
abbrev cX12_days : ByteArray := prog_14_method_86_code
def yX12_days : MethodName := ⟨RX12, "days", "(I)I"⟩
theorem ym_X12_days : fx_Y yX12_days cX12_days 4 (some .int) 1 := ⟨(fx_s8 (List.mem_of_getElem? (i := 122) rfl) rfl), (fx_s1 (List.mem_of_getElem? (i := 13) rfl) rfl), by decide +kernel⟩
theorem yi_X12_days : Cond.instanceMethod yX12_days ∈ fx_all := (fx_s8 (List.mem_of_getElem? (i := 120) rfl) rfl)
theorem ys_X12_days : Cond.selects (yX12_days).cls yX12_days yX12_days ∈ fx_all := (fx_s8 (List.mem_of_getElem? (i := 121) rfl) rfl)
abbrev cX12_of : ByteArray := prog_14_method_87_code
def yX12_of : MethodName := ⟨RX12, "of", "(II)I"⟩
theorem ym_X12_of : fx_Y yX12_of cX12_of 3 (some .int) 2 := ⟨(fx_s8 (List.mem_of_getElem? (i := 142) rfl) rfl), (fx_s1 (List.mem_of_getElem? (i := 13) rfl) rfl), by decide +kernel⟩
theorem yi_X12_of : Cond.instanceMethod yX12_of ∈ fx_all := (fx_s8 (List.mem_of_getElem? (i := 140) rfl) rfl)
theorem ys_X12_of : Cond.selects (yX12_of).cls yX12_of yX12_of ∈ fx_all := (fx_s8 (List.mem_of_getElem? (i := 141) rfl) rfl)
abbrev cX12_who : ByteArray := prog_14_method_88_code
def yX12_who : MethodName := ⟨RX12, "who", "(II)I"⟩
theorem ym_X12_who : fx_Y yX12_who cX12_who 3 (some .int) 2 := ⟨(fx_s8 (List.mem_of_getElem? (i := 146) rfl) rfl), (fx_s1 (List.mem_of_getElem? (i := 13) rfl) rfl), by decide +kernel⟩
theorem yi_X12_who : Cond.instanceMethod yX12_who ∈ fx_all := (fx_s8 (List.mem_of_getElem? (i := 144) rfl) rfl)
theorem ys_X12_who : Cond.selects (yX12_who).cls yX12_who yX12_who ∈ fx_all := (fx_s8 (List.mem_of_getElem? (i := 145) rfl) rfl)
abbrev cX12_book : ByteArray := prog_14_method_89_code
def yX12_book : MethodName := ⟨RX12, "book", "(II)I"⟩
theorem ym_X12_book : fx_Y yX12_book cX12_book 3 (some .int) 2 := ⟨(fx_s8 (List.mem_of_getElem? (i := 150) rfl) rfl), (fx_s1 (List.mem_of_getElem? (i := 13) rfl) rfl), by decide +kernel⟩
theorem yi_X12_book : Cond.instanceMethod yX12_book ∈ fx_all := (fx_s8 (List.mem_of_getElem? (i := 148) rfl) rfl)
theorem ys_X12_book : Cond.selects (yX12_book).cls yX12_book yX12_book ∈ fx_all := (fx_s8 (List.mem_of_getElem? (i := 149) rfl) rfl)
abbrev cX12_would : ByteArray := prog_14_method_90_code
def yX12_would : MethodName := ⟨RX12, "would", "(II)I"⟩
theorem ym_X12_would : fx_Y yX12_would cX12_would 3 (some .int) 2 := ⟨(fx_s8 (List.mem_of_getElem? (i := 154) rfl) rfl), (fx_s1 (List.mem_of_getElem? (i := 13) rfl) rfl), by decide +kernel⟩
theorem yi_X12_would : Cond.instanceMethod yX12_would ∈ fx_all := (fx_s8 (List.mem_of_getElem? (i := 152) rfl) rfl)
theorem ys_X12_would : Cond.selects (yX12_would).cls yX12_would yX12_would ∈ fx_all := (fx_s8 (List.mem_of_getElem? (i := 153) rfl) rfl)
abbrev cX12_goes : ByteArray := prog_14_method_91_code
def yX12_goes : MethodName := ⟨RX12, "goes", "(II)I"⟩
theorem ym_X12_goes : fx_Y yX12_goes cX12_goes 4 (some .int) 2 := ⟨(fx_s8 (List.mem_of_getElem? (i := 166) rfl) rfl), (fx_s1 (List.mem_of_getElem? (i := 13) rfl) rfl), by decide +kernel⟩
theorem yi_X12_goes : Cond.instanceMethod yX12_goes ∈ fx_all := (fx_s8 (List.mem_of_getElem? (i := 164) rfl) rfl)
theorem ys_X12_goes : Cond.selects (yX12_goes).cls yX12_goes yX12_goes ∈ fx_all := (fx_s8 (List.mem_of_getElem? (i := 165) rfl) rfl)
abbrev cX12_isAtNothing : ByteArray := prog_14_method_92_code
def yX12_isAtNothing : MethodName := ⟨RX12, "isAtNothing", "()V"⟩
theorem ym_X12_isAtNothing : fx_Y yX12_isAtNothing cX12_isAtNothing 2 none 0 := ⟨(fx_s8 (List.mem_of_getElem? (i := 186) rfl) rfl), (fx_s1 (List.mem_of_getElem? (i := 13) rfl) rfl), by decide +kernel⟩
theorem yi_X12_isAtNothing : Cond.instanceMethod yX12_isAtNothing ∈ fx_all := (fx_s8 (List.mem_of_getElem? (i := 185) rfl) rfl)
theorem ys_X12_isAtNothing : Cond.selects (yX12_isAtNothing).cls yX12_isAtNothing yX12_isAtNothing ∈ fx_all := fx_sel (q := (yX12_isAtNothing, 72)) (List.mem_of_getElem? (i := 115) rfl)
abbrev cX12_goesBySteps : ByteArray := prog_14_method_93_code
def yX12_goesBySteps : MethodName := ⟨RX12, "goesBySteps", "(II)V"⟩
theorem ym_X12_goesBySteps : fx_Y yX12_goesBySteps cX12_goesBySteps 4 none 2 := ⟨(fx_s8 (List.mem_of_getElem? (i := 191) rfl) rfl), (fx_s1 (List.mem_of_getElem? (i := 13) rfl) rfl), by decide +kernel⟩
theorem yi_X12_goesBySteps : Cond.instanceMethod yX12_goesBySteps ∈ fx_all := (fx_s8 (List.mem_of_getElem? (i := 190) rfl) rfl)
theorem ys_X12_goesBySteps : Cond.selects (yX12_goesBySteps).cls yX12_goesBySteps yX12_goesBySteps ∈ fx_all := fx_sel (q := (yX12_goesBySteps, 72)) (List.mem_of_getElem? (i := 116) rfl)
abbrev cX12_cameTo : ByteArray := prog_14_method_94_code
def yX12_cameTo : MethodName := ⟨RX12, "cameTo", "(II)I"⟩
theorem ym_X12_cameTo : fx_Y yX12_cameTo cX12_cameTo 3 (some .int) 2 := ⟨(fx_s8 (List.mem_of_getElem? (i := 200) rfl) rfl), (fx_s1 (List.mem_of_getElem? (i := 13) rfl) rfl), by decide +kernel⟩
theorem yi_X12_cameTo : Cond.instanceMethod yX12_cameTo ∈ fx_all := (fx_s8 (List.mem_of_getElem? (i := 199) rfl) rfl)
theorem ys_X12_cameTo : Cond.selects (yX12_cameTo).cls yX12_cameTo yX12_cameTo ∈ fx_all := fx_sel (q := (yX12_cameTo, 72)) (List.mem_of_getElem? (i := 118) rfl)
abbrev cX12_weighs : ByteArray := prog_14_method_95_code
def yX12_weighs : MethodName := ⟨RX12, "weighs", "(II)Z"⟩
theorem ym_X12_weighs : fx_Y yX12_weighs cX12_weighs 3 (some .boolean) 2 := ⟨(fx_s8 (List.mem_of_getElem? (i := 178) rfl) rfl), (fx_s1 (List.mem_of_getElem? (i := 13) rfl) rfl), by decide +kernel⟩
theorem yi_X12_weighs : Cond.instanceMethod yX12_weighs ∈ fx_all := (fx_s8 (List.mem_of_getElem? (i := 176) rfl) rfl)
theorem ys_X12_weighs : Cond.selects (yX12_weighs).cls yX12_weighs yX12_weighs ∈ fx_all := (fx_s8 (List.mem_of_getElem? (i := 177) rfl) rfl)
abbrev cX12_inside : ByteArray := prog_14_method_96_code
def yX12_inside : MethodName := ⟨RX12, "inside", "(II)I"⟩
theorem ym_X12_inside : fx_Y yX12_inside cX12_inside 4 (some .int) 2 := ⟨(fx_s8 (List.mem_of_getElem? (i := 182) rfl) rfl), (fx_s1 (List.mem_of_getElem? (i := 13) rfl) rfl), by decide +kernel⟩
theorem yi_X12_inside : Cond.instanceMethod yX12_inside ∈ fx_all := (fx_s8 (List.mem_of_getElem? (i := 180) rfl) rfl)
theorem ys_X12_inside : Cond.selects (yX12_inside).cls yX12_inside yX12_inside ∈ fx_all := (fx_s8 (List.mem_of_getElem? (i := 181) rfl) rfl)
abbrev cX12_coin : ByteArray := prog_14_method_97_code
def yX12_coin : MethodName := ⟨RX12, "coin", "(I)I"⟩
theorem ym_X12_coin : fx_Y yX12_coin cX12_coin 3 (some .int) 1 := ⟨(fx_s8 (List.mem_of_getElem? (i := 204) rfl) rfl), (fx_s1 (List.mem_of_getElem? (i := 13) rfl) rfl), by decide +kernel⟩
theorem yi_X12_coin : Cond.instanceMethod yX12_coin ∈ fx_all := (fx_s8 (List.mem_of_getElem? (i := 202) rfl) rfl)
theorem ys_X12_coin : Cond.selects (yX12_coin).cls yX12_coin yX12_coin ∈ fx_all := (fx_s8 (List.mem_of_getElem? (i := 203) rfl) rfl)
abbrev cX12_pays : ByteArray := prog_14_method_98_code
def yX12_pays : MethodName := ⟨RX12, "pays", "(II)I"⟩
theorem ym_X12_pays : fx_Y yX12_pays cX12_pays 4 (some .int) 2 := ⟨(fx_s8 (List.mem_of_getElem? (i := 208) rfl) rfl), (fx_s1 (List.mem_of_getElem? (i := 13) rfl) rfl), by decide +kernel⟩
theorem yi_X12_pays : Cond.instanceMethod yX12_pays ∈ fx_all := (fx_s8 (List.mem_of_getElem? (i := 206) rfl) rfl)
theorem ys_X12_pays : Cond.selects (yX12_pays).cls yX12_pays yX12_pays ∈ fx_all := (fx_s8 (List.mem_of_getElem? (i := 207) rfl) rfl)
abbrev cX12_length : ByteArray := prog_14_method_99_code
def yX12_length : MethodName := ⟨RX12, "length", "(I)I"⟩
theorem ym_X12_length : fx_Y yX12_length cX12_length 2 (some .int) 1 := ⟨(fx_s8 (List.mem_of_getElem? (i := 212) rfl) rfl), (fx_s1 (List.mem_of_getElem? (i := 13) rfl) rfl), by decide +kernel⟩
theorem yi_X12_length : Cond.instanceMethod yX12_length ∈ fx_all := (fx_s8 (List.mem_of_getElem? (i := 210) rfl) rfl)
theorem ys_X12_length : Cond.selects (yX12_length).cls yX12_length yX12_length ∈ fx_all := (fx_s8 (List.mem_of_getElem? (i := 211) rfl) rfl)
abbrev cX12_withLength : ByteArray := prog_14_method_100_code
def yX12_withLength : MethodName := ⟨RX12, "withLength", "(III)I"⟩
theorem ym_X12_withLength : fx_Y yX12_withLength cX12_withLength 6 (some .int) 3 := ⟨(fx_s8 (List.mem_of_getElem? (i := 228) rfl) rfl), (fx_s1 (List.mem_of_getElem? (i := 13) rfl) rfl), by decide +kernel⟩
theorem yi_X12_withLength : Cond.instanceMethod yX12_withLength ∈ fx_all := (fx_s8 (List.mem_of_getElem? (i := 227) rfl) rfl)
theorem ys_X12_withLength : Cond.selects (yX12_withLength).cls yX12_withLength yX12_withLength ∈ fx_all := fx_sel (q := (yX12_withLength, 72)) (List.mem_of_getElem? (i := 121) rfl)
abbrev cX12_stringsOf : ByteArray := prog_14_method_101_code
def yX12_stringsOf : MethodName := ⟨RX12, "stringsOf", "(I)I"⟩
theorem ym_X12_stringsOf : fx_Y yX12_stringsOf cX12_stringsOf 4 (some .int) 1 := ⟨(fx_s8 (List.mem_of_getElem? (i := 220) rfl) rfl), (fx_s1 (List.mem_of_getElem? (i := 13) rfl) rfl), by decide +kernel⟩
theorem yi_X12_stringsOf : Cond.instanceMethod yX12_stringsOf ∈ fx_all := (fx_s8 (List.mem_of_getElem? (i := 219) rfl) rfl)
theorem ys_X12_stringsOf : Cond.selects (yX12_stringsOf).cls yX12_stringsOf yX12_stringsOf ∈ fx_all := fx_sel (q := (yX12_stringsOf, 72)) (List.mem_of_getElem? (i := 119) rfl)
abbrev cX12_strings : ByteArray := prog_14_method_102_code
def yX12_strings : MethodName := ⟨RX12, "strings", "(II)I"⟩
theorem ym_X12_strings : fx_Y yX12_strings cX12_strings 5 (some .int) 2 := ⟨(fx_s8 (List.mem_of_getElem? (i := 216) rfl) rfl), (fx_s1 (List.mem_of_getElem? (i := 13) rfl) rfl), by decide +kernel⟩
theorem yi_X12_strings : Cond.instanceMethod yX12_strings ∈ fx_all := (fx_s8 (List.mem_of_getElem? (i := 214) rfl) rfl)
theorem ys_X12_strings : Cond.selects (yX12_strings).cls yX12_strings yX12_strings ∈ fx_all := (fx_s8 (List.mem_of_getElem? (i := 215) rfl) rfl)
abbrev cX12_digitOf : ByteArray := prog_14_method_103_code
def yX12_digitOf : MethodName := ⟨RX12, "digitOf", "(II)I"⟩
theorem ym_X12_digitOf : fx_Y yX12_digitOf cX12_digitOf 5 (some .int) 2 := ⟨(fx_s8 (List.mem_of_getElem? (i := 237) rfl) rfl), (fx_s1 (List.mem_of_getElem? (i := 13) rfl) rfl), by decide +kernel⟩
theorem yi_X12_digitOf : Cond.instanceMethod yX12_digitOf ∈ fx_all := (fx_s8 (List.mem_of_getElem? (i := 236) rfl) rfl)
theorem ys_X12_digitOf : Cond.selects (yX12_digitOf).cls yX12_digitOf yX12_digitOf ∈ fx_all := fx_sel (q := (yX12_digitOf, 72)) (List.mem_of_getElem? (i := 122) rfl)
abbrev cX12_rank : ByteArray := prog_14_method_104_code
def yX12_rank : MethodName := ⟨RX12, "rank", "(II)Z"⟩
theorem ym_X12_rank : fx_Y yX12_rank cX12_rank 5 (some .boolean) 2 := ⟨(fx_s8 (List.mem_of_getElem? (i := 232) rfl) rfl), (fx_s1 (List.mem_of_getElem? (i := 13) rfl) rfl), by decide +kernel⟩
theorem yi_X12_rank : Cond.instanceMethod yX12_rank ∈ fx_all := (fx_s8 (List.mem_of_getElem? (i := 230) rfl) rfl)
theorem ys_X12_rank : Cond.selects (yX12_rank).cls yX12_rank yX12_rank ∈ fx_all := (fx_s8 (List.mem_of_getElem? (i := 231) rfl) rfl)
abbrev cX12_dearestOf : ByteArray := prog_14_method_105_code
def yX12_dearestOf : MethodName := ⟨RX12, "dearestOf", "(II)I"⟩
theorem ym_X12_dearestOf : fx_Y yX12_dearestOf cX12_dearestOf 4 (some .int) 2 := ⟨(fx_s9 (List.mem_of_getElem? (i := 13) rfl) rfl), (fx_s1 (List.mem_of_getElem? (i := 13) rfl) rfl), by decide +kernel⟩
theorem yi_X12_dearestOf : Cond.instanceMethod yX12_dearestOf ∈ fx_all := (fx_s9 (List.mem_of_getElem? (i := 12) rfl) rfl)
theorem ys_X12_dearestOf : Cond.selects (yX12_dearestOf).cls yX12_dearestOf yX12_dearestOf ∈ fx_all := fx_sel (q := (yX12_dearestOf, 72)) (List.mem_of_getElem? (i := 125) rfl)
abbrev cX12_goesRound : ByteArray := prog_14_method_106_code
def yX12_goesRound : MethodName := ⟨RX12, "goesRound", "(II)Z"⟩
theorem ym_X12_goesRound : fx_Y yX12_goesRound cX12_goesRound 5 (some .boolean) 2 := ⟨(fx_s9 (List.mem_of_getElem? (i := 9) rfl) rfl), (fx_s1 (List.mem_of_getElem? (i := 13) rfl) rfl), by decide +kernel⟩
theorem yi_X12_goesRound : Cond.instanceMethod yX12_goesRound ∈ fx_all := (fx_s9 (List.mem_of_getElem? (i := 8) rfl) rfl)
theorem ys_X12_goesRound : Cond.selects (yX12_goesRound).cls yX12_goesRound yX12_goesRound ∈ fx_all := fx_sel (q := (yX12_goesRound, 72)) (List.mem_of_getElem? (i := 124) rfl)
abbrev cX12_findsSwaps : ByteArray := prog_14_method_107_code
def yX12_findsSwaps : MethodName := ⟨RX12, "findsSwaps", "()I"⟩
theorem ym_X12_findsSwaps : fx_Y yX12_findsSwaps cX12_findsSwaps 5 (some .int) 0 := ⟨(fx_s9 (List.mem_of_getElem? (i := 5) rfl) rfl), (fx_s1 (List.mem_of_getElem? (i := 13) rfl) rfl), by decide +kernel⟩
theorem yi_X12_findsSwaps : Cond.instanceMethod yX12_findsSwaps ∈ fx_all := (fx_s9 (List.mem_of_getElem? (i := 4) rfl) rfl)
theorem ys_X12_findsSwaps : Cond.selects (yX12_findsSwaps).cls yX12_findsSwaps yX12_findsSwaps ∈ fx_all := fx_sel (q := (yX12_findsSwaps, 72)) (List.mem_of_getElem? (i := 123) rfl)
abbrev cX12_swaps : ByteArray := prog_14_method_108_code
def yX12_swaps : MethodName := ⟨RX12, "swaps", "(I)I"⟩
theorem ym_X12_swaps : fx_Y yX12_swaps cX12_swaps 3 (some .int) 1 := ⟨(fx_s9 (List.mem_of_getElem? (i := 1) rfl) rfl), (fx_s1 (List.mem_of_getElem? (i := 13) rfl) rfl), by decide +kernel⟩
theorem yi_X12_swaps : Cond.instanceMethod yX12_swaps ∈ fx_all := (fx_s8 (List.mem_of_getElem? (i := 239) rfl) rfl)
theorem ys_X12_swaps : Cond.selects (yX12_swaps).cls yX12_swaps yX12_swaps ∈ fx_all := (fx_s9 (List.mem_of_getElem? (i := 0) rfl) rfl)
abbrev cX12_wishedBy : ByteArray := prog_14_method_109_code
def yX12_wishedBy : MethodName := ⟨RX12, "wishedBy", "(III)I"⟩
theorem ym_X12_wishedBy : fx_Y yX12_wishedBy cX12_wishedBy 4 (some .int) 3 := ⟨(fx_s9 (List.mem_of_getElem? (i := 29) rfl) rfl), (fx_s1 (List.mem_of_getElem? (i := 13) rfl) rfl), by decide +kernel⟩
theorem yi_X12_wishedBy : Cond.instanceMethod yX12_wishedBy ∈ fx_all := (fx_s9 (List.mem_of_getElem? (i := 28) rfl) rfl)
theorem ys_X12_wishedBy : Cond.selects (yX12_wishedBy).cls yX12_wishedBy yX12_wishedBy ∈ fx_all := fx_sel (q := (yX12_wishedBy, 72)) (List.mem_of_getElem? (i := 128) rfl)
abbrev cX12_canHave : ByteArray := prog_14_method_110_code
def yX12_canHave : MethodName := ⟨RX12, "canHave", "(II)Z"⟩
theorem ym_X12_canHave : fx_Y yX12_canHave cX12_canHave 3 (some .boolean) 2 := ⟨(fx_s9 (List.mem_of_getElem? (i := 25) rfl) rfl), (fx_s1 (List.mem_of_getElem? (i := 13) rfl) rfl), by decide +kernel⟩
theorem yi_X12_canHave : Cond.instanceMethod yX12_canHave ∈ fx_all := (fx_s9 (List.mem_of_getElem? (i := 24) rfl) rfl)
theorem ys_X12_canHave : Cond.selects (yX12_canHave).cls yX12_canHave yX12_canHave ∈ fx_all := fx_sel (q := (yX12_canHave, 72)) (List.mem_of_getElem? (i := 127) rfl)
abbrev cX12_findsWishes : ByteArray := prog_14_method_111_code
def yX12_findsWishes : MethodName := ⟨RX12, "findsWishes", "()V"⟩
theorem ym_X12_findsWishes : fx_Y yX12_findsWishes cX12_findsWishes 5 none 0 := ⟨(fx_s9 (List.mem_of_getElem? (i := 21) rfl) rfl), (fx_s1 (List.mem_of_getElem? (i := 13) rfl) rfl), by decide +kernel⟩
theorem yi_X12_findsWishes : Cond.instanceMethod yX12_findsWishes ∈ fx_all := (fx_s9 (List.mem_of_getElem? (i := 20) rfl) rfl)
theorem ys_X12_findsWishes : Cond.selects (yX12_findsWishes).cls yX12_findsWishes yX12_findsWishes ∈ fx_all := fx_sel (q := (yX12_findsWishes, 72)) (List.mem_of_getElem? (i := 126) rfl)
abbrev cX12_wishes : ByteArray := prog_14_method_112_code
def yX12_wishes : MethodName := ⟨RX12, "wishes", "(I)I"⟩
theorem ym_X12_wishes : fx_Y yX12_wishes cX12_wishes 5 (some .int) 1 := ⟨(fx_s9 (List.mem_of_getElem? (i := 17) rfl) rfl), (fx_s1 (List.mem_of_getElem? (i := 13) rfl) rfl), by decide +kernel⟩
theorem yi_X12_wishes : Cond.instanceMethod yX12_wishes ∈ fx_all := (fx_s9 (List.mem_of_getElem? (i := 15) rfl) rfl)
theorem ys_X12_wishes : Cond.selects (yX12_wishes).cls yX12_wishes yX12_wishes ∈ fx_all := (fx_s9 (List.mem_of_getElem? (i := 16) rfl) rfl)
abbrev cX12_put : ByteArray := prog_14_method_113_code
def yX12_put : MethodName := ⟨RX12, "put", "(II)I"⟩
theorem ym_X12_put : fx_Y yX12_put cX12_put 3 (some .int) 2 := ⟨(fx_s9 (List.mem_of_getElem? (i := 33) rfl) rfl), (fx_s1 (List.mem_of_getElem? (i := 13) rfl) rfl), by decide +kernel⟩
theorem yi_X12_put : Cond.instanceMethod yX12_put ∈ fx_all := (fx_s9 (List.mem_of_getElem? (i := 31) rfl) rfl)
theorem ys_X12_put : Cond.selects (yX12_put).cls yX12_put yX12_put ∈ fx_all := (fx_s9 (List.mem_of_getElem? (i := 32) rfl) rfl)
abbrev cX12_canPut : ByteArray := prog_14_method_114_code
def yX12_canPut : MethodName := ⟨RX12, "canPut", "(I)Z"⟩
theorem ym_X12_canPut : fx_Y yX12_canPut cX12_canPut 5 (some .boolean) 1 := ⟨(fx_s9 (List.mem_of_getElem? (i := 45) rfl) rfl), (fx_s1 (List.mem_of_getElem? (i := 13) rfl) rfl), by decide +kernel⟩
theorem yi_X12_canPut : Cond.instanceMethod yX12_canPut ∈ fx_all := (fx_s9 (List.mem_of_getElem? (i := 44) rfl) rfl)
theorem ys_X12_canPut : Cond.selects (yX12_canPut).cls yX12_canPut yX12_canPut ∈ fx_all := fx_sel (q := (yX12_canPut, 72)) (List.mem_of_getElem? (i := 130) rfl)
abbrev cX12_pricesOf : ByteArray := prog_14_method_115_code
def yX12_pricesOf : MethodName := ⟨RX12, "pricesOf", "(I)I"⟩
theorem ym_X12_pricesOf : fx_Y yX12_pricesOf cX12_pricesOf 4 (some .int) 1 := ⟨(fx_s9 (List.mem_of_getElem? (i := 41) rfl) rfl), (fx_s1 (List.mem_of_getElem? (i := 13) rfl) rfl), by decide +kernel⟩
theorem yi_X12_pricesOf : Cond.instanceMethod yX12_pricesOf ∈ fx_all := (fx_s9 (List.mem_of_getElem? (i := 40) rfl) rfl)
theorem ys_X12_pricesOf : Cond.selects (yX12_pricesOf).cls yX12_pricesOf yX12_pricesOf ∈ fx_all := fx_sel (q := (yX12_pricesOf, 72)) (List.mem_of_getElem? (i := 129) rfl)
abbrev cX12_puts : ByteArray := prog_14_method_116_code
def yX12_puts : MethodName := ⟨RX12, "puts", "(I)I"⟩
theorem ym_X12_puts : fx_Y yX12_puts cX12_puts 5 (some .int) 1 := ⟨(fx_s9 (List.mem_of_getElem? (i := 37) rfl) rfl), (fx_s1 (List.mem_of_getElem? (i := 13) rfl) rfl), by decide +kernel⟩
theorem yi_X12_puts : Cond.instanceMethod yX12_puts ∈ fx_all := (fx_s9 (List.mem_of_getElem? (i := 35) rfl) rfl)
theorem ys_X12_puts : Cond.selects (yX12_puts).cls yX12_puts yX12_puts ∈ fx_all := (fx_s9 (List.mem_of_getElem? (i := 36) rfl) rfl)
abbrev cX12_clue : ByteArray := prog_14_method_117_code
def yX12_clue : MethodName := ⟨RX12, "clue", "(IZ)I"⟩
theorem ym_X12_clue : fx_Y yX12_clue cX12_clue 3 (some .int) 2 := ⟨(fx_s9 (List.mem_of_getElem? (i := 49) rfl) rfl), (fx_s1 (List.mem_of_getElem? (i := 13) rfl) rfl), by decide +kernel⟩
theorem yi_X12_clue : Cond.instanceMethod yX12_clue ∈ fx_all := (fx_s9 (List.mem_of_getElem? (i := 47) rfl) rfl)
theorem ys_X12_clue : Cond.selects (yX12_clue).cls yX12_clue yX12_clue ∈ fx_all := (fx_s9 (List.mem_of_getElem? (i := 48) rfl) rfl)
abbrev cX12_couplesBy : ByteArray := prog_14_method_118_code
def yX12_couplesBy : MethodName := ⟨RX12, "couplesBy", "(I)I"⟩
theorem ym_X12_couplesBy : fx_Y yX12_couplesBy cX12_couplesBy 7 (some .int) 1 := ⟨(fx_s9 (List.mem_of_getElem? (i := 62) rfl) rfl), (fx_s1 (List.mem_of_getElem? (i := 13) rfl) rfl), by decide +kernel⟩
theorem yi_X12_couplesBy : Cond.instanceMethod yX12_couplesBy ∈ fx_all := (fx_s9 (List.mem_of_getElem? (i := 61) rfl) rfl)
theorem ys_X12_couplesBy : Cond.selects (yX12_couplesBy).cls yX12_couplesBy yX12_couplesBy ∈ fx_all := fx_sel (q := (yX12_couplesBy, 72)) (List.mem_of_getElem? (i := 132) rfl)
abbrev cX12_fewestParts : ByteArray := prog_14_method_119_code
def yX12_fewestParts : MethodName := ⟨RX12, "fewestParts", "()I"⟩
theorem ym_X12_fewestParts : fx_Y yX12_fewestParts cX12_fewestParts 4 (some .int) 0 := ⟨(fx_s9 (List.mem_of_getElem? (i := 58) rfl) rfl), (fx_s1 (List.mem_of_getElem? (i := 13) rfl) rfl), by decide +kernel⟩
theorem yi_X12_fewestParts : Cond.instanceMethod yX12_fewestParts ∈ fx_all := (fx_s9 (List.mem_of_getElem? (i := 57) rfl) rfl)
theorem ys_X12_fewestParts : Cond.selects (yX12_fewestParts).cls yX12_fewestParts yX12_fewestParts ∈ fx_all := fx_sel (q := (yX12_fewestParts, 72)) (List.mem_of_getElem? (i := 131) rfl)
abbrev cX12_which : ByteArray := prog_14_method_120_code
def yX12_which : MethodName := ⟨RX12, "which", "(I)I"⟩
theorem ym_X12_which : fx_Y yX12_which cX12_which 4 (some .int) 1 := ⟨(fx_s9 (List.mem_of_getElem? (i := 54) rfl) rfl), (fx_s1 (List.mem_of_getElem? (i := 13) rfl) rfl), by decide +kernel⟩
theorem yi_X12_which : Cond.instanceMethod yX12_which ∈ fx_all := (fx_s9 (List.mem_of_getElem? (i := 52) rfl) rfl)
theorem ys_X12_which : Cond.selects (yX12_which).cls yX12_which yX12_which ∈ fx_all := (fx_s9 (List.mem_of_getElem? (i := 53) rfl) rfl)
abbrev cX12_police : ByteArray := prog_14_method_121_code
def yX12_police : MethodName := ⟨RX12, "police", "(I)I"⟩
theorem ym_X12_police : fx_Y yX12_police cX12_police 2 (some .int) 1 := ⟨(fx_s9 (List.mem_of_getElem? (i := 66) rfl) rfl), (fx_s1 (List.mem_of_getElem? (i := 13) rfl) rfl), by decide +kernel⟩
theorem yi_X12_police : Cond.instanceMethod yX12_police ∈ fx_all := (fx_s9 (List.mem_of_getElem? (i := 64) rfl) rfl)
theorem ys_X12_police : Cond.selects (yX12_police).cls yX12_police yX12_police ∈ fx_all := (fx_s9 (List.mem_of_getElem? (i := 65) rfl) rfl)
abbrev cX12_common : ByteArray := prog_14_method_122_code
def yX12_common : MethodName := ⟨RX12, "common", "(II)I"⟩
theorem ym_X12_common : fx_Y yX12_common cX12_common 6 (some .int) 2 := ⟨(fx_s9 (List.mem_of_getElem? (i := 78) rfl) rfl), (fx_s1 (List.mem_of_getElem? (i := 13) rfl) rfl), by decide +kernel⟩
theorem yi_X12_common : Cond.instanceMethod yX12_common ∈ fx_all := (fx_s9 (List.mem_of_getElem? (i := 77) rfl) rfl)
theorem ys_X12_common : Cond.selects (yX12_common).cls yX12_common yX12_common ∈ fx_all := fx_sel (q := (yX12_common, 72)) (List.mem_of_getElem? (i := 134) rfl)
abbrev cX12_everyDay : ByteArray := prog_14_method_123_code
def yX12_everyDay : MethodName := ⟨RX12, "everyDay", "()I"⟩
theorem ym_X12_everyDay : fx_Y yX12_everyDay cX12_everyDay 3 (some .int) 0 := ⟨(fx_s9 (List.mem_of_getElem? (i := 74) rfl) rfl), (fx_s1 (List.mem_of_getElem? (i := 13) rfl) rfl), by decide +kernel⟩
theorem yi_X12_everyDay : Cond.instanceMethod yX12_everyDay ∈ fx_all := (fx_s9 (List.mem_of_getElem? (i := 73) rfl) rfl)
theorem ys_X12_everyDay : Cond.selects (yX12_everyDay).cls yX12_everyDay yX12_everyDay ∈ fx_all := fx_sel (q := (yX12_everyDay, 72)) (List.mem_of_getElem? (i := 133) rfl)
abbrev cX12_every : ByteArray := prog_14_method_124_code
def yX12_every : MethodName := ⟨RX12, "every", "(I)I"⟩
theorem ym_X12_every : fx_Y yX12_every cX12_every 4 (some .int) 1 := ⟨(fx_s9 (List.mem_of_getElem? (i := 70) rfl) rfl), (fx_s1 (List.mem_of_getElem? (i := 13) rfl) rfl), by decide +kernel⟩
theorem yi_X12_every : Cond.instanceMethod yX12_every ∈ fx_all := (fx_s9 (List.mem_of_getElem? (i := 68) rfl) rfl)
theorem ys_X12_every : Cond.selects (yX12_every).cls yX12_every yX12_every ∈ fx_all := (fx_s9 (List.mem_of_getElem? (i := 69) rfl) rfl)
abbrev cX12_partOf : ByteArray := prog_14_method_125_code
def yX12_partOf : MethodName := ⟨RX12, "partOf", "(II)I"⟩
theorem ym_X12_partOf : fx_Y yX12_partOf cX12_partOf 6 (some .int) 2 := ⟨(fx_s9 (List.mem_of_getElem? (i := 91) rfl) rfl), (fx_s1 (List.mem_of_getElem? (i := 13) rfl) rfl), by decide +kernel⟩
theorem yi_X12_partOf : Cond.instanceMethod yX12_partOf ∈ fx_all := (fx_s9 (List.mem_of_getElem? (i := 90) rfl) rfl)
theorem ys_X12_partOf : Cond.selects (yX12_partOf).cls yX12_partOf yX12_partOf ∈ fx_all := fx_sel (q := (yX12_partOf, 72)) (List.mem_of_getElem? (i := 136) rfl)
abbrev cX12_guessed : ByteArray := prog_14_method_126_code
def yX12_guessed : MethodName := ⟨RX12, "guessed", "(III)I"⟩
theorem ym_X12_guessed : fx_Y yX12_guessed cX12_guessed 4 (some .int) 3 := ⟨(fx_s9 (List.mem_of_getElem? (i := 86) rfl) rfl), (fx_s1 (List.mem_of_getElem? (i := 13) rfl) rfl), by decide +kernel⟩
theorem yi_X12_guessed : Cond.instanceMethod yX12_guessed ∈ fx_all := (fx_s9 (List.mem_of_getElem? (i := 85) rfl) rfl)
theorem ys_X12_guessed : Cond.selects (yX12_guessed).cls yX12_guessed yX12_guessed ∈ fx_all := fx_sel (q := (yX12_guessed, 72)) (List.mem_of_getElem? (i := 135) rfl)
abbrev cX12_shill : ByteArray := prog_14_method_127_code
def yX12_shill : MethodName := ⟨RX12, "shill", "(III)I"⟩
theorem ym_X12_shill : fx_Y yX12_shill cX12_shill 6 (some .int) 3 := ⟨(fx_s9 (List.mem_of_getElem? (i := 82) rfl) rfl), (fx_s1 (List.mem_of_getElem? (i := 13) rfl) rfl), by decide +kernel⟩
theorem yi_X12_shill : Cond.instanceMethod yX12_shill ∈ fx_all := (fx_s9 (List.mem_of_getElem? (i := 80) rfl) rfl)
theorem ys_X12_shill : Cond.selects (yX12_shill).cls yX12_shill yX12_shill ∈ fx_all := (fx_s9 (List.mem_of_getElem? (i := 81) rfl) rfl)
abbrev cX12_apartBy : ByteArray := prog_14_method_128_code
def yX12_apartBy : MethodName := ⟨RX12, "apartBy", "(I)I"⟩
theorem ym_X12_apartBy : fx_Y yX12_apartBy cX12_apartBy 4 (some .int) 1 := ⟨(fx_s9 (List.mem_of_getElem? (i := 99) rfl) rfl), (fx_s1 (List.mem_of_getElem? (i := 13) rfl) rfl), by decide +kernel⟩
theorem yi_X12_apartBy : Cond.instanceMethod yX12_apartBy ∈ fx_all := (fx_s9 (List.mem_of_getElem? (i := 98) rfl) rfl)
theorem ys_X12_apartBy : Cond.selects (yX12_apartBy).cls yX12_apartBy yX12_apartBy ∈ fx_all := fx_sel (q := (yX12_apartBy, 72)) (List.mem_of_getElem? (i := 137) rfl)
abbrev cX12_halves : ByteArray := prog_14_method_129_code
def yX12_halves : MethodName := ⟨RX12, "halves", "(I)I"⟩
theorem ym_X12_halves : fx_Y yX12_halves cX12_halves 4 (some .int) 1 := ⟨(fx_s9 (List.mem_of_getElem? (i := 95) rfl) rfl), (fx_s1 (List.mem_of_getElem? (i := 13) rfl) rfl), by decide +kernel⟩
theorem yi_X12_halves : Cond.instanceMethod yX12_halves ∈ fx_all := (fx_s9 (List.mem_of_getElem? (i := 93) rfl) rfl)
theorem ys_X12_halves : Cond.selects (yX12_halves).cls yX12_halves yX12_halves ∈ fx_all := (fx_s9 (List.mem_of_getElem? (i := 94) rfl) rfl)
abbrev cX12_findsNimbers : ByteArray := prog_14_method_130_code
def yX12_findsNimbers : MethodName := ⟨RX12, "findsNimbers", "()V"⟩
theorem ym_X12_findsNimbers : fx_Y yX12_findsNimbers cX12_findsNimbers 4 none 0 := ⟨(fx_s9 (List.mem_of_getElem? (i := 107) rfl) rfl), (fx_s1 (List.mem_of_getElem? (i := 13) rfl) rfl), by decide +kernel⟩
theorem yi_X12_findsNimbers : Cond.instanceMethod yX12_findsNimbers ∈ fx_all := (fx_s9 (List.mem_of_getElem? (i := 106) rfl) rfl)
theorem ys_X12_findsNimbers : Cond.selects (yX12_findsNimbers).cls yX12_findsNimbers yX12_findsNimbers ∈ fx_all := fx_sel (q := (yX12_findsNimbers, 72)) (List.mem_of_getElem? (i := 138) rfl)
abbrev cX12_heapOf : ByteArray := prog_14_method_131_code
def yX12_heapOf : MethodName := ⟨RX12, "heapOf", "(I)I"⟩
theorem ym_X12_heapOf : fx_Y yX12_heapOf cX12_heapOf 2 (some .int) 1 := ⟨(fx_s9 (List.mem_of_getElem? (i := 111) rfl) rfl), (fx_s1 (List.mem_of_getElem? (i := 13) rfl) rfl), by decide +kernel⟩
theorem yi_X12_heapOf : Cond.instanceMethod yX12_heapOf ∈ fx_all := (fx_s9 (List.mem_of_getElem? (i := 110) rfl) rfl)
theorem ys_X12_heapOf : Cond.selects (yX12_heapOf).cls yX12_heapOf yX12_heapOf ∈ fx_all := fx_sel (q := (yX12_heapOf, 72)) (List.mem_of_getElem? (i := 139) rfl)
abbrev cX12_game : ByteArray := prog_14_method_132_code
def yX12_game : MethodName := ⟨RX12, "game", "(I)I"⟩
theorem ym_X12_game : fx_Y yX12_game cX12_game 7 (some .int) 1 := ⟨(fx_s9 (List.mem_of_getElem? (i := 103) rfl) rfl), (fx_s1 (List.mem_of_getElem? (i := 13) rfl) rfl), by decide +kernel⟩
theorem yi_X12_game : Cond.instanceMethod yX12_game ∈ fx_all := (fx_s9 (List.mem_of_getElem? (i := 101) rfl) rfl)
theorem ys_X12_game : Cond.selects (yX12_game).cls yX12_game yX12_game ∈ fx_all := (fx_s9 (List.mem_of_getElem? (i := 102) rfl) rfl)
abbrev cX12_keeps : ByteArray := prog_14_method_133_code
def yX12_keeps : MethodName := ⟨RX12, "keeps", "(I)I"⟩
theorem ym_X12_keeps : fx_Y yX12_keeps cX12_keeps 2 (some .int) 1 := ⟨(fx_s9 (List.mem_of_getElem? (i := 119) rfl) rfl), (fx_s1 (List.mem_of_getElem? (i := 13) rfl) rfl), by decide +kernel⟩
theorem yi_X12_keeps : Cond.instanceMethod yX12_keeps ∈ fx_all := (fx_s9 (List.mem_of_getElem? (i := 118) rfl) rfl)
theorem ys_X12_keeps : Cond.selects (yX12_keeps).cls yX12_keeps yX12_keeps ∈ fx_all := fx_sel (q := (yX12_keeps, 72)) (List.mem_of_getElem? (i := 140) rfl)
abbrev cX12_keepsLaw : ByteArray := prog_14_method_134_code
def yX12_keepsLaw : MethodName := ⟨RX12, "keepsLaw", "()V"⟩
theorem ym_X12_keepsLaw : fx_Y yX12_keepsLaw cX12_keepsLaw 2 none 0 := ⟨(fx_s9 (List.mem_of_getElem? (i := 131) rfl) rfl), (fx_s1 (List.mem_of_getElem? (i := 13) rfl) rfl), by decide +kernel⟩
theorem yi_X12_keepsLaw : Cond.instanceMethod yX12_keepsLaw ∈ fx_all := (fx_s9 (List.mem_of_getElem? (i := 130) rfl) rfl)
theorem ys_X12_keepsLaw : Cond.selects (yX12_keepsLaw).cls yX12_keepsLaw yX12_keepsLaw ∈ fx_all := fx_sel (q := (yX12_keepsLaw, 72)) (List.mem_of_getElem? (i := 143) rfl)
abbrev cX12_keepsMany : ByteArray := prog_14_method_135_code
def yX12_keepsMany : MethodName := ⟨RX12, "keepsMany", "()V"⟩
theorem ym_X12_keepsMany : fx_Y yX12_keepsMany cX12_keepsMany 1 none 0 := ⟨(fx_s9 (List.mem_of_getElem? (i := 123) rfl) rfl), (fx_s1 (List.mem_of_getElem? (i := 13) rfl) rfl), by decide +kernel⟩
theorem yi_X12_keepsMany : Cond.instanceMethod yX12_keepsMany ∈ fx_all := (fx_s9 (List.mem_of_getElem? (i := 122) rfl) rfl)
theorem ys_X12_keepsMany : Cond.selects (yX12_keepsMany).cls yX12_keepsMany yX12_keepsMany ∈ fx_all := fx_sel (q := (yX12_keepsMany, 72)) (List.mem_of_getElem? (i := 141) rfl)
abbrev cX12_keepsTold : ByteArray := prog_14_method_136_code
def yX12_keepsTold : MethodName := ⟨RX12, "keepsTold", "()V"⟩
theorem ym_X12_keepsTold : fx_Y yX12_keepsTold cX12_keepsTold 2 none 0 := ⟨(fx_s9 (List.mem_of_getElem? (i := 127) rfl) rfl), (fx_s1 (List.mem_of_getElem? (i := 13) rfl) rfl), by decide +kernel⟩
theorem yi_X12_keepsTold : Cond.instanceMethod yX12_keepsTold ∈ fx_all := (fx_s9 (List.mem_of_getElem? (i := 126) rfl) rfl)
theorem ys_X12_keepsTold : Cond.selects (yX12_keepsTold).cls yX12_keepsTold yX12_keepsTold ∈ fx_all := fx_sel (q := (yX12_keepsTold, 72)) (List.mem_of_getElem? (i := 142) rfl)
abbrev cX12_image : ByteArray := prog_14_method_137_code
def yX12_image : MethodName := ⟨RX12, "image", "(Z)Z"⟩
theorem ym_X12_image : fx_Y yX12_image cX12_image 3 (some .boolean) 1 := ⟨(fx_s9 (List.mem_of_getElem? (i := 115) rfl) rfl), (fx_s1 (List.mem_of_getElem? (i := 13) rfl) rfl), by decide +kernel⟩
theorem yi_X12_image : Cond.instanceMethod yX12_image ∈ fx_all := (fx_s9 (List.mem_of_getElem? (i := 113) rfl) rfl)
theorem ys_X12_image : Cond.selects (yX12_image).cls yX12_image yX12_image ∈ fx_all := (fx_s9 (List.mem_of_getElem? (i := 114) rfl) rfl)
abbrev cX12_look : ByteArray := prog_14_method_138_code
def yX12_look : MethodName := ⟨RX12, "look", "(I)I"⟩
theorem ym_X12_look : fx_Y yX12_look cX12_look 2 (some .int) 1 := ⟨(fx_s9 (List.mem_of_getElem? (i := 135) rfl) rfl), (fx_s1 (List.mem_of_getElem? (i := 13) rfl) rfl), by decide +kernel⟩
theorem yi_X12_look : Cond.instanceMethod yX12_look ∈ fx_all := (fx_s9 (List.mem_of_getElem? (i := 133) rfl) rfl)
theorem ys_X12_look : Cond.selects (yX12_look).cls yX12_look yX12_look ∈ fx_all := (fx_s9 (List.mem_of_getElem? (i := 134) rfl) rfl)
abbrev cJ6_bitCount_0f7a4 : ByteArray := prog_16_method_49_code
def yJ6_bitCount_0f7a4 : MethodName := ⟨RJ6, "bitCount", "(I)I"⟩
theorem ym_J6_bitCount_0f7a4 : fx_Y yJ6_bitCount_0f7a4 cJ6_bitCount_0f7a4 1 (some .int) 1 := ⟨(fx_s5 (List.mem_of_getElem? (i := 69) rfl) rfl), (fx_s1 (List.mem_of_getElem? (i := 20) rfl) rfl), by decide +kernel⟩
theorem yt_J6_bitCount_0f7a4 : Cond.static yJ6_bitCount_0f7a4 ∈ fx_all := (fx_s5 (List.mem_of_getElem? (i := 68) rfl) rfl)
abbrev cJ9_floorMod_7cf53 : ByteArray := prog_17_method_50_code
def yJ9_floorMod_7cf53 : MethodName := ⟨RJ9, "floorMod", "(II)I"⟩
theorem ym_J9_floorMod_7cf53 : fx_Y yJ9_floorMod_7cf53 cJ9_floorMod_7cf53 3 (some .int) 2 := ⟨(fx_s5 (List.mem_of_getElem? (i := 232) rfl) rfl), (fx_s1 (List.mem_of_getElem? (i := 14) rfl) rfl), by decide +kernel⟩
theorem yt_J9_floorMod_7cf53 : Cond.static yJ9_floorMod_7cf53 ∈ fx_all := (fx_s5 (List.mem_of_getElem? (i := 231) rfl) rfl)
abbrev cJ0_length_8abf5 : ByteArray := prog_18_method_54_code
def yJ0_length_8abf5 : MethodName := ⟨RJ0, "length", "()I"⟩
theorem ym_J0_length_8abf5 : fx_Y yJ0_length_8abf5 cJ0_length_8abf5 1 (some .int) 0 := ⟨(fx_s4 (List.mem_of_getElem? (i := 43) rfl) rfl), (fx_s1 (List.mem_of_getElem? (i := 15) rfl) rfl), by decide +kernel⟩
theorem yi_J0_length_8abf5 : Cond.instanceMethod yJ0_length_8abf5 ∈ fx_all := (fx_s4 (List.mem_of_getElem? (i := 41) rfl) rfl)
theorem ys_J0_length_8abf5 : Cond.selects (yJ0_length_8abf5).cls yJ0_length_8abf5 yJ0_length_8abf5 ∈ fx_all := (fx_s4 (List.mem_of_getElem? (i := 42) rfl) rfl)
abbrev cJ0_charAt_5068e : ByteArray := prog_18_method_56_code
def yJ0_charAt_5068e : MethodName := ⟨RJ0, "charAt", "(I)C"⟩
theorem ym_J0_charAt_5068e : fx_Y yJ0_charAt_5068e cJ0_charAt_5068e 2 (some .char) 1 := ⟨(fx_s4 (List.mem_of_getElem? (i := 53) rfl) rfl), (fx_s1 (List.mem_of_getElem? (i := 15) rfl) rfl), by decide +kernel⟩
theorem yi_J0_charAt_5068e : Cond.instanceMethod yJ0_charAt_5068e ∈ fx_all := (fx_s4 (List.mem_of_getElem? (i := 51) rfl) rfl)
theorem ys_J0_charAt_5068e : Cond.selects (yJ0_charAt_5068e).cls yJ0_charAt_5068e yJ0_charAt_5068e ∈ fx_all := (fx_s4 (List.mem_of_getElem? (i := 52) rfl) rfl)
abbrev cJ0_indexOf_0f7a4 : ByteArray := prog_18_method_79_code
def yJ0_indexOf_0f7a4 : MethodName := ⟨RJ0, "indexOf", "(I)I"⟩
theorem ym_J0_indexOf_0f7a4 : fx_Y yJ0_indexOf_0f7a4 cJ0_indexOf_0f7a4 2 (some .int) 1 := ⟨(fx_s4 (List.mem_of_getElem? (i := 96) rfl) rfl), (fx_s1 (List.mem_of_getElem? (i := 15) rfl) rfl), by decide +kernel⟩
theorem yi_J0_indexOf_0f7a4 : Cond.instanceMethod yJ0_indexOf_0f7a4 ∈ fx_all := (fx_s4 (List.mem_of_getElem? (i := 94) rfl) rfl)
theorem ys_J0_indexOf_0f7a4 : Cond.selects (yJ0_indexOf_0f7a4).cls yJ0_indexOf_0f7a4 yJ0_indexOf_0f7a4 ∈ fx_all := (fx_s4 (List.mem_of_getElem? (i := 95) rfl) rfl)
abbrev cJ0_indexOf_7cf53 : ByteArray := prog_18_method_80_code
def yJ0_indexOf_7cf53 : MethodName := ⟨RJ0, "indexOf", "(II)I"⟩
theorem ym_J0_indexOf_7cf53 : fx_Y yJ0_indexOf_7cf53 cJ0_indexOf_7cf53 3 (some .int) 2 := ⟨(fx_s4 (List.mem_of_getElem? (i := 100) rfl) rfl), (fx_s1 (List.mem_of_getElem? (i := 15) rfl) rfl), by decide +kernel⟩
theorem yi_J0_indexOf_7cf53 : Cond.instanceMethod yJ0_indexOf_7cf53 ∈ fx_all := (fx_s4 (List.mem_of_getElem? (i := 98) rfl) rfl)
theorem ys_J0_indexOf_7cf53 : Cond.selects (yJ0_indexOf_7cf53).cls yJ0_indexOf_7cf53 yJ0_indexOf_7cf53 ∈ fx_all := (fx_s4 (List.mem_of_getElem? (i := 99) rfl) rfl)
abbrev cJ0_coder_7d493 : ByteArray := prog_18_method_152_code
def yJ0_coder_7d493 : MethodName := ⟨RJ0, "coder", "()B"⟩
theorem ym_J0_coder_7d493 : fx_Y yJ0_coder_7d493 cJ0_coder_7d493 1 (some .byte) 0 := ⟨(fx_s4 (List.mem_of_getElem? (i := 47) rfl) rfl), (fx_s1 (List.mem_of_getElem? (i := 15) rfl) rfl), by decide +kernel⟩
theorem yi_J0_coder_7d493 : Cond.instanceMethod yJ0_coder_7d493 ∈ fx_all := (fx_s4 (List.mem_of_getElem? (i := 45) rfl) rfl)
theorem ys_J0_coder_7d493 : Cond.selects (yJ0_coder_7d493).cls yJ0_coder_7d493 yJ0_coder_7d493 ∈ fx_all := (fx_s4 (List.mem_of_getElem? (i := 46) rfl) rfl)
abbrev cJ0_isLatin1_aae02 : ByteArray := prog_18_method_154_code
def yJ0_isLatin1_aae02 : MethodName := ⟨RJ0, "isLatin1", "()Z"⟩
theorem ym_J0_isLatin1_aae02 : fx_Y yJ0_isLatin1_aae02 cJ0_isLatin1_aae02 1 (some .boolean) 0 := ⟨(fx_s4 (List.mem_of_getElem? (i := 57) rfl) rfl), (fx_s1 (List.mem_of_getElem? (i := 15) rfl) rfl), by decide +kernel⟩
theorem yi_J0_isLatin1_aae02 : Cond.instanceMethod yJ0_isLatin1_aae02 ∈ fx_all := (fx_s4 (List.mem_of_getElem? (i := 55) rfl) rfl)
theorem ys_J0_isLatin1_aae02 : Cond.selects (yJ0_isLatin1_aae02).cls yJ0_isLatin1_aae02 yJ0_isLatin1_aae02 ∈ fx_all := (fx_s4 (List.mem_of_getElem? (i := 56) rfl) rfl)
abbrev cJ0_checkIndex_df160 : ByteArray := prog_18_method_155_code
def yJ0_checkIndex_df160 : MethodName := ⟨RJ0, "checkIndex", "(II)V"⟩
theorem ym_J0_checkIndex_df160 : fx_Y yJ0_checkIndex_df160 cJ0_checkIndex_df160 2 none 2 := ⟨(fx_s4 (List.mem_of_getElem? (i := 63) rfl) rfl), (fx_s1 (List.mem_of_getElem? (i := 15) rfl) rfl), by decide +kernel⟩
theorem yt_J0_checkIndex_df160 : Cond.static yJ0_checkIndex_df160 ∈ fx_all := (fx_s4 (List.mem_of_getElem? (i := 62) rfl) rfl)
abbrev cJ1_charAt_3b067 : ByteArray := prog_19_method_2_code
def yJ1_charAt_3b067 : MethodName := ⟨RJ1, "charAt", "([BI)C"⟩
theorem ym_J1_charAt_3b067 : fx_Y yJ1_charAt_3b067 cJ1_charAt_3b067 2 (some .char) 2 := ⟨(fx_s4 (List.mem_of_getElem? (i := 60) rfl) rfl), (fx_s1 (List.mem_of_getElem? (i := 16) rfl) rfl), by decide +kernel⟩
theorem yt_J1_charAt_3b067 : Cond.static yJ1_charAt_3b067 ∈ fx_all := (fx_s4 (List.mem_of_getElem? (i := 59) rfl) rfl)
abbrev cJ1_canEncode_9a6ad : ByteArray := prog_19_method_4_code
def yJ1_canEncode_9a6ad : MethodName := ⟨RJ1, "canEncode", "(I)Z"⟩
theorem ym_J1_canEncode_9a6ad : fx_Y yJ1_canEncode_9a6ad cJ1_canEncode_9a6ad 1 (some .boolean) 1 := ⟨(fx_s4 (List.mem_of_getElem? (i := 107) rfl) rfl), (fx_s1 (List.mem_of_getElem? (i := 16) rfl) rfl), by decide +kernel⟩
theorem yt_J1_canEncode_9a6ad : Cond.static yJ1_canEncode_9a6ad ∈ fx_all := (fx_s4 (List.mem_of_getElem? (i := 106) rfl) rfl)
abbrev cJ1_indexOf_4cfef : ByteArray := prog_19_method_22_code
def yJ1_indexOf_4cfef : MethodName := ⟨RJ1, "indexOf", "([BIII)I"⟩
theorem ym_J1_indexOf_4cfef : fx_Y yJ1_indexOf_4cfef cJ1_indexOf_4cfef 4 (some .int) 4 := ⟨(fx_s4 (List.mem_of_getElem? (i := 104) rfl) rfl), (fx_s1 (List.mem_of_getElem? (i := 16) rfl) rfl), by decide +kernel⟩
theorem yt_J1_indexOf_4cfef : Cond.static yJ1_indexOf_4cfef ∈ fx_all := (fx_s4 (List.mem_of_getElem? (i := 103) rfl) rfl)
abbrev cJ1_indexOfChar_4cfef : ByteArray := prog_19_method_23_code
def yJ1_indexOfChar_4cfef : MethodName := ⟨RJ1, "indexOfChar", "([BIII)I"⟩
theorem ym_J1_indexOfChar_4cfef : fx_Y yJ1_indexOfChar_4cfef cJ1_indexOfChar_4cfef 6 (some .int) 4 := ⟨(fx_s4 (List.mem_of_getElem? (i := 112) rfl) rfl), (fx_s1 (List.mem_of_getElem? (i := 16) rfl) rfl), by decide +kernel⟩
theorem yt_J1_indexOfChar_4cfef : Cond.static yJ1_indexOfChar_4cfef ∈ fx_all := (fx_s4 (List.mem_of_getElem? (i := 111) rfl) rfl)
abbrev cJ3_checkIndex_8e157 : ByteArray := prog_21_method_11_code
def yJ3_checkIndex_8e157 : MethodName := ⟨RJ3, "checkIndex", "(IILjava/util/function/BiFunction;)I"⟩
theorem ym_J3_checkIndex_8e157 : fx_Y yJ3_checkIndex_8e157 cJ3_checkIndex_8e157 3 (some .int) 3 := ⟨(fx_s4 (List.mem_of_getElem? (i := 68) rfl) rfl), (fx_s1 (List.mem_of_getElem? (i := 17) rfl) rfl), by decide +kernel⟩
theorem yt_J3_checkIndex_8e157 : Cond.static yJ3_checkIndex_8e157 ∈ fx_all := (fx_s4 (List.mem_of_getElem? (i := 67) rfl) rfl)
theorem nq_RX11_11 : (RX11, 11, yX10_init, "MockParcels") ∈ fx_nst := List.mem_of_getElem? (i := 0) rfl
theorem nq_RX10_11 : (RX10, 11, yX1_init, "MockParcels") ∈ fx_nst := List.mem_of_getElem? (i := 1) rfl
theorem nq_RX6_52 : (RX6, 52, yX11_fillRow, "MockParcels") ∈ fx_nst := List.mem_of_getElem? (i := 2) rfl
theorem nq_RX10_31 : (RX10, 31, yX2_init, "MockParcels") ∈ fx_nst := List.mem_of_getElem? (i := 3) rfl
theorem nq_RX5_40 : (RX5, 40, yX11_fillRow, "MockParcels") ∈ fx_nst := List.mem_of_getElem? (i := 4) rfl
theorem nq_RX11_50 : (RX11, 50, yX7_init, "MockParcels") ∈ fx_nst := List.mem_of_getElem? (i := 5) rfl
theorem nq_RX3_11 : (RX3, 11, yX2_init, "MockParcels") ∈ fx_nst := List.mem_of_getElem? (i := 6) rfl
theorem nq_RX11_66 : (RX11, 66, yX8_init, "MockParcels") ∈ fx_nst := List.mem_of_getElem? (i := 7) rfl
theorem nq_RX6_58 : (RX6, 58, yX11_copyRow, "MockParcels") ∈ fx_nst := List.mem_of_getElem? (i := 8) rfl
theorem nq_RX0_201 : (RX0, 201, yX11_isWithin, "MockParcels") ∈ fx_nst := List.mem_of_getElem? (i := 9) rfl
theorem nq_RX3_66 : (RX3, 66, yX11_isWithin, "MockParcels") ∈ fx_nst := List.mem_of_getElem? (i := 10) rfl
theorem nq_RX7_62 : (RX7, 62, yX11_isWithin, "MockParcels") ∈ fx_nst := List.mem_of_getElem? (i := 11) rfl
theorem nq_RX5_44 : (RX5, 44, yX11_isWithin, "MockParcels") ∈ fx_nst := List.mem_of_getElem? (i := 12) rfl
theorem nq_RX2_37 : (RX2, 37, yX11_copyRow, "MockParcels") ∈ fx_nst := List.mem_of_getElem? (i := 13) rfl
theorem nq_RX5_48 : (RX5, 48, yX11_copyRow, "MockParcels") ∈ fx_nst := List.mem_of_getElem? (i := 14) rfl
theorem nq_RX8_72 : (RX8, 72, yX11_isWithin, "MockParcels") ∈ fx_nst := List.mem_of_getElem? (i := 15) rfl
theorem nq_RX1_34 : (RX1, 34, yX11_copyRow, "MockParcels") ∈ fx_nst := List.mem_of_getElem? (i := 16) rfl
theorem nq_RX10_57 : (RX10, 57, yX11_copyRow, "MockParcels") ∈ fx_nst := List.mem_of_getElem? (i := 17) rfl
theorem nq_RX9_59 : (RX9, 59, yX11_copyRow, "MockParcels") ∈ fx_nst := List.mem_of_getElem? (i := 18) rfl
