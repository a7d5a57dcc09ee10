theorem lfX4_9 : gm_Fld RX4 9 4 0 (.array .int) true := ⟨RX4, TX4, 5, tyX4, rfl, by decide, gm_t1 (List.mem_of_getElem? (i := 41) (by decide +kernel)) rfl, rfl, gm_inX4, tyX4_ok, nmX4, rfl, rfl⟩
theorem lfX10_366 : gm_Fld RX10 366 4 0 (.array .int) true := ⟨RX4, TX4, 5, tyX4, rfl, by decide, gm_t1 (List.mem_of_getElem? (i := 42) (by decide +kernel)) rfl, rfl, gm_inX4, tyX4_ok, nmX4, rfl, rfl⟩
theorem lfX4_15 : gm_Fld RX4 15 4 1 (.array .int) true := ⟨RX4, TX4, 5, tyX4, rfl, by decide, gm_t1 (List.mem_of_getElem? (i := 43) (by decide +kernel)) rfl, rfl, gm_inX4, tyX4_ok, nmX4, rfl, rfl⟩
theorem lfX10_357 : gm_Fld RX10 357 4 1 (.array .int) true := ⟨RX4, TX4, 5, tyX4, rfl, by decide, gm_t1 (List.mem_of_getElem? (i := 44) (by decide +kernel)) rfl, rfl, gm_inX4, tyX4_ok, nmX4, rfl, rfl⟩
theorem lfX4_22 : gm_Fld RX4 22 4 2 (.int) false := ⟨RX4, TX4, 5, tyX4, rfl, by decide, gm_t1 (List.mem_of_getElem? (i := 45) (by decide +kernel)) rfl, rfl, gm_inX4, tyX4_ok, nmX4, rfl, rfl⟩
theorem lfX0_121 : gm_Fld RX0 121 4 2 (.int) false := ⟨RX4, TX4, 5, tyX4, rfl, by decide, gm_t1 (List.mem_of_getElem? (i := 46) (by decide +kernel)) rfl, rfl, gm_inX4, tyX4_ok, nmX4, rfl, rfl⟩
theorem lfX10_356 : gm_Fld RX10 356 4 2 (.int) false := ⟨RX4, TX4, 5, tyX4, rfl, by decide, gm_t1 (List.mem_of_getElem? (i := 47) (by decide +kernel)) rfl, rfl, gm_inX4, tyX4_ok, nmX4, rfl, rfl⟩
theorem lfX4_25 : gm_Fld RX4 25 4 3 (.int) false := ⟨RX4, TX4, 5, tyX4, rfl, by decide, gm_t1 (List.mem_of_getElem? (i := 48) (by decide +kernel)) rfl, rfl, gm_inX4, tyX4_ok, nmX4, rfl, rfl⟩
theorem lfX10_363 : gm_Fld RX10 363 4 3 (.int) false := ⟨RX4, TX4, 5, tyX4, rfl, by decide, gm_t1 (List.mem_of_getElem? (i := 49) (by decide +kernel)) rfl, rfl, gm_inX4, tyX4_ok, nmX4, rfl, rfl⟩
theorem lfX4_18 : gm_Fld RX4 18 4 4 (.int) false := ⟨RX4, TX4, 5, tyX4, rfl, by decide, gm_t1 (List.mem_of_getElem? (i := 50) (by decide +kernel)) rfl, rfl, gm_inX4, tyX4_ok, nmX4, rfl, rfl⟩
theorem lfX10_320 : gm_Fld RX10 320 4 4 (.int) false := ⟨RX4, TX4, 5, tyX4, rfl, by decide, gm_t1 (List.mem_of_getElem? (i := 51) (by decide +kernel)) rfl, rfl, gm_inX4, tyX4_ok, nmX4, rfl, rfl⟩
theorem lfX1_9 : gm_Fld RX1 9 1 0 (.array .int) true := ⟨RX1, TX1, 7, tyX1, rfl, by decide, gm_t1 (List.mem_of_getElem? (i := 70) (by decide +kernel)) rfl, rfl, gm_inX1, tyX1_ok, nmX1, rfl, rfl⟩
theorem lfX1_15 : gm_Fld RX1 15 1 1 (.array .boolean) true := ⟨RX1, TX1, 7, tyX1, rfl, by decide, gm_t1 (List.mem_of_getElem? (i := 71) (by decide +kernel)) rfl, rfl, gm_inX1, tyX1_ok, nmX1, rfl, rfl⟩
theorem lfX1_19 : gm_Fld RX1 19 1 2 (.array .boolean) true := ⟨RX1, TX1, 7, tyX1, rfl, by decide, gm_t1 (List.mem_of_getElem? (i := 72) (by decide +kernel)) rfl, rfl, gm_inX1, tyX1_ok, nmX1, rfl, rfl⟩
theorem lfX1_22 : gm_Fld RX1 22 1 3 (.array .int) true := ⟨RX1, TX1, 7, tyX1, rfl, by decide, gm_t1 (List.mem_of_getElem? (i := 73) (by decide +kernel)) rfl, rfl, gm_inX1, tyX1_ok, nmX1, rfl, rfl⟩
theorem lfX1_29 : gm_Fld RX1 29 1 4 (.int) false := ⟨RX1, TX1, 7, tyX1, rfl, by decide, gm_t1 (List.mem_of_getElem? (i := 74) (by decide +kernel)) rfl, rfl, gm_inX1, tyX1_ok, nmX1, rfl, rfl⟩
theorem lfX0_131 : gm_Fld RX0 131 1 4 (.int) false := ⟨RX1, TX1, 7, tyX1, rfl, by decide, gm_t1 (List.mem_of_getElem? (i := 75) (by decide +kernel)) rfl, rfl, gm_inX1, tyX1_ok, nmX1, rfl, rfl⟩
theorem lfX1_32 : gm_Fld RX1 32 1 5 (.int) false := ⟨RX1, TX1, 7, tyX1, rfl, by decide, gm_t1 (List.mem_of_getElem? (i := 76) (by decide +kernel)) rfl, rfl, gm_inX1, tyX1_ok, nmX1, rfl, rfl⟩
theorem lfX0_124 : gm_Fld RX0 124 1 5 (.int) false := ⟨RX1, TX1, 7, tyX1, rfl, by decide, gm_t1 (List.mem_of_getElem? (i := 77) (by decide +kernel)) rfl, rfl, gm_inX1, tyX1_ok, nmX1, rfl, rfl⟩
theorem lfX10_346 : gm_Fld RX10 346 1 5 (.int) false := ⟨RX1, TX1, 7, tyX1, rfl, by decide, gm_t1 (List.mem_of_getElem? (i := 78) (by decide +kernel)) rfl, rfl, gm_inX1, tyX1_ok, nmX1, rfl, rfl⟩
theorem lfX1_25 : gm_Fld RX1 25 1 6 (.int) false := ⟨RX1, TX1, 7, tyX1, rfl, by decide, gm_t1 (List.mem_of_getElem? (i := 79) (by decide +kernel)) rfl, rfl, gm_inX1, tyX1_ok, nmX1, rfl, rfl⟩
theorem lfX0_114 : gm_Fld RX0 114 1 6 (.int) false := ⟨RX1, TX1, 7, tyX1, rfl, by decide, gm_t1 (List.mem_of_getElem? (i := 80) (by decide +kernel)) rfl, rfl, gm_inX1, tyX1_ok, nmX1, rfl, rfl⟩
theorem lfX8_9 : gm_Fld RX8 9 8 0 (.int) false := ⟨RX8, TX8, 2, tyX8, rfl, by decide, gm_t1 (List.mem_of_getElem? (i := 103) (by decide +kernel)) rfl, rfl, gm_inX8, tyX8_ok, nmX8, rfl, rfl⟩
theorem lfX8_15 : gm_Fld RX8 15 8 1 (.int) false := ⟨RX8, TX8, 2, tyX8, rfl, by decide, gm_t1 (List.mem_of_getElem? (i := 104) (by decide +kernel)) rfl, rfl, gm_inX8, tyX8_ok, nmX8, rfl, rfl⟩
theorem lfX0_49 : gm_Fld RX0 49 0 0 (.int) true := ⟨RX0, TX0, 18, tyX0, rfl, by decide, gm_t1 (List.mem_of_getElem? (i := 110) (by decide +kernel)) rfl, rfl, gm_inX0, tyX0_ok, nmX0, rfl, rfl⟩
theorem lfX10_301 : gm_Fld RX10 301 0 0 (.int) true := ⟨RX0, TX0, 18, tyX0, rfl, by decide, gm_t1 (List.mem_of_getElem? (i := 111) (by decide +kernel)) rfl, rfl, gm_inX0, tyX0_ok, nmX0, rfl, rfl⟩
theorem lfX0_9 : gm_Fld RX0 9 0 1 (.array .int) true := ⟨RX0, TX0, 18, tyX0, rfl, by decide, gm_t1 (List.mem_of_getElem? (i := 112) (by decide +kernel)) rfl, rfl, gm_inX0, tyX0_ok, nmX0, rfl, rfl⟩
theorem lfX10_230 : gm_Fld RX10 230 0 1 (.array .int) true := ⟨RX0, TX0, 18, tyX0, rfl, by decide, gm_t1 (List.mem_of_getElem? (i := 113) (by decide +kernel)) rfl, rfl, gm_inX0, tyX0_ok, nmX0, rfl, rfl⟩
theorem lfX0_18 : gm_Fld RX0 18 0 2 (.object "SessionSimulator$Outbox") true := ⟨RX0, TX0, 18, tyX0, rfl, by decide, gm_t1 (List.mem_of_getElem? (i := 114) (by decide +kernel)) rfl, rfl, gm_inX0, tyX0_ok, nmX0, rfl, rfl⟩
theorem lfX10_221 : gm_Fld RX10 221 0 2 (.object "SessionSimulator$Outbox") true := ⟨RX0, TX0, 18, tyX0, rfl, by decide, gm_t1 (List.mem_of_getElem? (i := 115) (by decide +kernel)) rfl, rfl, gm_inX0, tyX0_ok, nmX0, rfl, rfl⟩
theorem lfX0_25 : gm_Fld RX0 25 0 3 (.object "SessionSimulator$Inbox") true := ⟨RX0, TX0, 18, tyX0, rfl, by decide, gm_t1 (List.mem_of_getElem? (i := 116) (by decide +kernel)) rfl, rfl, gm_inX0, tyX0_ok, nmX0, rfl, rfl⟩
theorem lfX10_212 : gm_Fld RX10 212 0 3 (.object "SessionSimulator$Inbox") true := ⟨RX0, TX0, 18, tyX0, rfl, by decide, gm_t1 (List.mem_of_getElem? (i := 117) (by decide +kernel)) rfl, rfl, gm_inX0, tyX0_ok, nmX0, rfl, rfl⟩
theorem lfX0_32 : gm_Fld RX0 32 0 4 (.object "SessionSimulator$Window") true := ⟨RX0, TX0, 18, tyX0, rfl, by decide, gm_t1 (List.mem_of_getElem? (i := 118) (by decide +kernel)) rfl, rfl, gm_inX0, tyX0_ok, nmX0, rfl, rfl⟩
theorem lfX10_196 : gm_Fld RX10 196 0 4 (.object "SessionSimulator$Window") true := ⟨RX0, TX0, 18, tyX0, rfl, by decide, gm_t1 (List.mem_of_getElem? (i := 119) (by decide +kernel)) rfl, rfl, gm_inX0, tyX0_ok, nmX0, rfl, rfl⟩
theorem lfX0_36 : gm_Fld RX0 36 0 5 (.object "SessionSimulator$Window") true := ⟨RX0, TX0, 18, tyX0, rfl, by decide, gm_t1 (List.mem_of_getElem? (i := 120) (by decide +kernel)) rfl, rfl, gm_inX0, tyX0_ok, nmX0, rfl, rfl⟩
theorem lfX10_209 : gm_Fld RX10 209 0 5 (.object "SessionSimulator$Window") true := ⟨RX0, TX0, 18, tyX0, rfl, by decide, gm_t1 (List.mem_of_getElem? (i := 121) (by decide +kernel)) rfl, rfl, gm_inX0, tyX0_ok, nmX0, rfl, rfl⟩
theorem lfX0_68 : gm_Fld RX0 68 0 6 (.boolean) false := ⟨RX0, TX0, 18, tyX0, rfl, by decide, gm_t1 (List.mem_of_getElem? (i := 122) (by decide +kernel)) rfl, rfl, gm_inX0, tyX0_ok, nmX0, rfl, rfl⟩
theorem lfX10_206 : gm_Fld RX10 206 0 6 (.boolean) false := ⟨RX0, TX0, 18, tyX0, rfl, by decide, gm_t1 (List.mem_of_getElem? (i := 123) (by decide +kernel)) rfl, rfl, gm_inX0, tyX0_ok, nmX0, rfl, rfl⟩
theorem lfX0_72 : gm_Fld RX0 72 0 7 (.int) false := ⟨RX0, TX0, 18, tyX0, rfl, by decide, gm_t1 (List.mem_of_getElem? (i := 124) (by decide +kernel)) rfl, rfl, gm_inX0, tyX0_ok, nmX0, rfl, rfl⟩
theorem lfX0_39 : gm_Fld RX0 39 0 8 (.int) false := ⟨RX0, TX0, 18, tyX0, rfl, by decide, gm_t1 (List.mem_of_getElem? (i := 125) (by decide +kernel)) rfl, rfl, gm_inX0, tyX0_ok, nmX0, rfl, rfl⟩
theorem lfX10_52 : gm_Fld RX10 52 0 8 (.int) false := ⟨RX0, TX0, 18, tyX0, rfl, by decide, gm_t1 (List.mem_of_getElem? (i := 126) (by decide +kernel)) rfl, rfl, gm_inX0, tyX0_ok, nmX0, rfl, rfl⟩
theorem lfX0_75 : gm_Fld RX0 75 0 9 (.int) false := ⟨RX0, TX0, 18, tyX0, rfl, by decide, gm_t1 (List.mem_of_getElem? (i := 127) (by decide +kernel)) rfl, rfl, gm_inX0, tyX0_ok, nmX0, rfl, rfl⟩
theorem lfX10_241 : gm_Fld RX10 241 0 9 (.int) false := ⟨RX0, TX0, 18, tyX0, rfl, by decide, gm_t1 (List.mem_of_getElem? (i := 128) (by decide +kernel)) rfl, rfl, gm_inX0, tyX0_ok, nmX0, rfl, rfl⟩
theorem lfX0_78 : gm_Fld RX0 78 0 10 (.int) false := ⟨RX0, TX0, 18, tyX0, rfl, by decide, gm_t1 (List.mem_of_getElem? (i := 129) (by decide +kernel)) rfl, rfl, gm_inX0, tyX0_ok, nmX0, rfl, rfl⟩
theorem lfX10_242 : gm_Fld RX10 242 0 10 (.int) false := ⟨RX0, TX0, 18, tyX0, rfl, by decide, gm_t1 (List.mem_of_getElem? (i := 130) (by decide +kernel)) rfl, rfl, gm_inX0, tyX0_ok, nmX0, rfl, rfl⟩
theorem lfX0_81 : gm_Fld RX0 81 0 11 (.int) false := ⟨RX0, TX0, 18, tyX0, rfl, by decide, gm_t1 (List.mem_of_getElem? (i := 131) (by decide +kernel)) rfl, rfl, gm_inX0, tyX0_ok, nmX0, rfl, rfl⟩
theorem lfX10_343 : gm_Fld RX10 343 0 11 (.int) false := ⟨RX0, TX0, 18, tyX0, rfl, by decide, gm_t1 (List.mem_of_getElem? (i := 132) (by decide +kernel)) rfl, rfl, gm_inX0, tyX0_ok, nmX0, rfl, rfl⟩
theorem lfX0_84 : gm_Fld RX0 84 0 12 (.int) false := ⟨RX0, TX0, 18, tyX0, rfl, by decide, gm_t1 (List.mem_of_getElem? (i := 133) (by decide +kernel)) rfl, rfl, gm_inX0, tyX0_ok, nmX0, rfl, rfl⟩
theorem lfX10_340 : gm_Fld RX10 340 0 12 (.int) false := ⟨RX0, TX0, 18, tyX0, rfl, by decide, gm_t1 (List.mem_of_getElem? (i := 134) (by decide +kernel)) rfl, rfl, gm_inX0, tyX0_ok, nmX0, rfl, rfl⟩
theorem lfX0_87 : gm_Fld RX0 87 0 13 (.int) false := ⟨RX0, TX0, 18, tyX0, rfl, by decide, gm_t1 (List.mem_of_getElem? (i := 135) (by decide +kernel)) rfl, rfl, gm_inX0, tyX0_ok, nmX0, rfl, rfl⟩
theorem lfX10_392 : gm_Fld RX10 392 0 13 (.int) false := ⟨RX0, TX0, 18, tyX0, rfl, by decide, gm_t1 (List.mem_of_getElem? (i := 136) (by decide +kernel)) rfl, rfl, gm_inX0, tyX0_ok, nmX0, rfl, rfl⟩
theorem lfX0_43 : gm_Fld RX0 43 0 14 (.int) false := ⟨RX0, TX0, 18, tyX0, rfl, by decide, gm_t1 (List.mem_of_getElem? (i := 137) (by decide +kernel)) rfl, rfl, gm_inX0, tyX0_ok, nmX0, rfl, rfl⟩
theorem lfX10_79 : gm_Fld RX10 79 0 14 (.int) false := ⟨RX0, TX0, 18, tyX0, rfl, by decide, gm_t1 (List.mem_of_getElem? (i := 138) (by decide +kernel)) rfl, rfl, gm_inX0, tyX0_ok, nmX0, rfl, rfl⟩
theorem lfX0_90 : gm_Fld RX0 90 0 15 (.int) false := ⟨RX0, TX0, 18, tyX0, rfl, by decide, gm_t1 (List.mem_of_getElem? (i := 139) (by decide +kernel)) rfl, rfl, gm_inX0, tyX0_ok, nmX0, rfl, rfl⟩
theorem lfX10_304 : gm_Fld RX10 304 0 15 (.int) false := ⟨RX0, TX0, 18, tyX0, rfl, by decide, gm_t1 (List.mem_of_getElem? (i := 140) (by decide +kernel)) rfl, rfl, gm_inX0, tyX0_ok, nmX0, rfl, rfl⟩
theorem lfX0_46 : gm_Fld RX0 46 0 16 (.int) false := ⟨RX0, TX0, 18, tyX0, rfl, by decide, gm_t1 (List.mem_of_getElem? (i := 141) (by decide +kernel)) rfl, rfl, gm_inX0, tyX0_ok, nmX0, rfl, rfl⟩
theorem lfX10_307 : gm_Fld RX10 307 0 16 (.int) false := ⟨RX0, TX0, 18, tyX0, rfl, by decide, gm_t1 (List.mem_of_getElem? (i := 142) (by decide +kernel)) rfl, rfl, gm_inX0, tyX0_ok, nmX0, rfl, rfl⟩
theorem lfX0_93 : gm_Fld RX0 93 0 17 (.int) false := ⟨RX0, TX0, 18, tyX0, rfl, by decide, gm_t1 (List.mem_of_getElem? (i := 143) (by decide +kernel)) rfl, rfl, gm_inX0, tyX0_ok, nmX0, rfl, rfl⟩
theorem lfX10_330 : gm_Fld RX10 330 0 17 (.int) false := ⟨RX0, TX0, 18, tyX0, rfl, by decide, gm_t1 (List.mem_of_getElem? (i := 144) (by decide +kernel)) rfl, rfl, gm_inX0, tyX0_ok, nmX0, rfl, rfl⟩
theorem lfX5_9 : gm_Fld RX5 9 5 0 (.int) false := ⟨RX5, TX5, 9, tyX5, rfl, by decide, gm_t1 (List.mem_of_getElem? (i := 195) (by decide +kernel)) rfl, rfl, gm_inX5, tyX5_ok, nmX5, rfl, rfl⟩
theorem lfX10_120 : gm_Fld RX10 120 5 0 (.int) false := ⟨RX5, TX5, 9, tyX5, rfl, by decide, gm_t1 (List.mem_of_getElem? (i := 196) (by decide +kernel)) rfl, rfl, gm_inX5, tyX5_ok, nmX5, rfl, rfl⟩
theorem lfX5_15 : gm_Fld RX5 15 5 1 (.int) false := ⟨RX5, TX5, 9, tyX5, rfl, by decide, gm_t1 (List.mem_of_getElem? (i := 197) (by decide +kernel)) rfl, rfl, gm_inX5, tyX5_ok, nmX5, rfl, rfl⟩
theorem lfX10_137 : gm_Fld RX10 137 5 1 (.int) false := ⟨RX5, TX5, 9, tyX5, rfl, by decide, gm_t1 (List.mem_of_getElem? (i := 198) (by decide +kernel)) rfl, rfl, gm_inX5, tyX5_ok, nmX5, rfl, rfl⟩
theorem lfX5_18 : gm_Fld RX5 18 5 2 (.int) false := ⟨RX5, TX5, 9, tyX5, rfl, by decide, gm_t1 (List.mem_of_getElem? (i := 199) (by decide +kernel)) rfl, rfl, gm_inX5, tyX5_ok, nmX5, rfl, rfl⟩
theorem lfX10_146 : gm_Fld RX10 146 5 2 (.int) false := ⟨RX5, TX5, 9, tyX5, rfl, by decide, gm_t1 (List.mem_of_getElem? (i := 200) (by decide +kernel)) rfl, rfl, gm_inX5, tyX5_ok, nmX5, rfl, rfl⟩
theorem lfX5_21 : gm_Fld RX5 21 5 3 (.int) false := ⟨RX5, TX5, 9, tyX5, rfl, by decide, gm_t1 (List.mem_of_getElem? (i := 201) (by decide +kernel)) rfl, rfl, gm_inX5, tyX5_ok, nmX5, rfl, rfl⟩
theorem lfX10_289 : gm_Fld RX10 289 5 3 (.int) false := ⟨RX5, TX5, 9, tyX5, rfl, by decide, gm_t1 (List.mem_of_getElem? (i := 202) (by decide +kernel)) rfl, rfl, gm_inX5, tyX5_ok, nmX5, rfl, rfl⟩
theorem lfX5_24 : gm_Fld RX5 24 5 4 (.int) false := ⟨RX5, TX5, 9, tyX5, rfl, by decide, gm_t1 (List.mem_of_getElem? (i := 203) (by decide +kernel)) rfl, rfl, gm_inX5, tyX5_ok, nmX5, rfl, rfl⟩
theorem lfX10_292 : gm_Fld RX10 292 5 4 (.int) false := ⟨RX5, TX5, 9, tyX5, rfl, by decide, gm_t1 (List.mem_of_getElem? (i := 204) (by decide +kernel)) rfl, rfl, gm_inX5, tyX5_ok, nmX5, rfl, rfl⟩
theorem lfX5_27 : gm_Fld RX5 27 5 5 (.int) false := ⟨RX5, TX5, 9, tyX5, rfl, by decide, gm_t1 (List.mem_of_getElem? (i := 205) (by decide +kernel)) rfl, rfl, gm_inX5, tyX5_ok, nmX5, rfl, rfl⟩
theorem lfX10_295 : gm_Fld RX10 295 5 5 (.int) false := ⟨RX5, TX5, 9, tyX5, rfl, by decide, gm_t1 (List.mem_of_getElem? (i := 206) (by decide +kernel)) rfl, rfl, gm_inX5, tyX5_ok, nmX5, rfl, rfl⟩
theorem lfX5_30 : gm_Fld RX5 30 5 6 (.int) false := ⟨RX5, TX5, 9, tyX5, rfl, by decide, gm_t1 (List.mem_of_getElem? (i := 207) (by decide +kernel)) rfl, rfl, gm_inX5, tyX5_ok, nmX5, rfl, rfl⟩
theorem lfX10_170 : gm_Fld RX10 170 5 6 (.int) false := ⟨RX5, TX5, 9, tyX5, rfl, by decide, gm_t1 (List.mem_of_getElem? (i := 208) (by decide +kernel)) rfl, rfl, gm_inX5, tyX5_ok, nmX5, rfl, rfl⟩
theorem lfX5_33 : gm_Fld RX5 33 5 7 (.int) false := ⟨RX5, TX5, 9, tyX5, rfl, by decide, gm_t1 (List.mem_of_getElem? (i := 209) (by decide +kernel)) rfl, rfl, gm_inX5, tyX5_ok, nmX5, rfl, rfl⟩
theorem lfX10_298 : gm_Fld RX10 298 5 7 (.int) false := ⟨RX5, TX5, 9, tyX5, rfl, by decide, gm_t1 (List.mem_of_getElem? (i := 210) (by decide +kernel)) rfl, rfl, gm_inX5, tyX5_ok, nmX5, rfl, rfl⟩
theorem lfX5_36 : gm_Fld RX5 36 5 8 (.int) false := ⟨RX5, TX5, 9, tyX5, rfl, by decide, gm_t1 (List.mem_of_getElem? (i := 211) (by decide +kernel)) rfl, rfl, gm_inX5, tyX5_ok, nmX5, rfl, rfl⟩
theorem lfX10_353 : gm_Fld RX10 353 5 8 (.int) false := ⟨RX5, TX5, 9, tyX5, rfl, by decide, gm_t1 (List.mem_of_getElem? (i := 212) (by decide +kernel)) rfl, rfl, gm_inX5, tyX5_ok, nmX5, rfl, rfl⟩
theorem lfX3_11 : gm_Fld RX3 11 3 0 (.array (.object "SessionSimulator$Packet")) true := ⟨RX3, TX3, 2, tyX3, rfl, by decide, gm_t1 (List.mem_of_getElem? (i := 232) (by decide +kernel)) rfl, rfl, gm_inX3, tyX3_ok, nmX3, rfl, rfl⟩
theorem lfX3_18 : gm_Fld RX3 18 3 1 (.int) false := ⟨RX3, TX3, 2, tyX3, rfl, by decide, gm_t1 (List.mem_of_getElem? (i := 233) (by decide +kernel)) rfl, rfl, gm_inX3, tyX3_ok, nmX3, rfl, rfl⟩
theorem lfX10_83 : gm_Fld RX10 83 3 1 (.int) false := ⟨RX3, TX3, 2, tyX3, rfl, by decide, gm_t1 (List.mem_of_getElem? (i := 234) (by decide +kernel)) rfl, rfl, gm_inX3, tyX3_ok, nmX3, rfl, rfl⟩
theorem lfX7_9 : gm_Fld RX7 9 7 0 (.array .int) true := ⟨RX7, TX7, 3, tyX7, rfl, by decide, gm_t2 (List.mem_of_getElem? (i := 6) (by decide +kernel)) rfl, rfl, gm_inX7, tyX7_ok, nmX7, rfl, rfl⟩
theorem lfX7_15 : gm_Fld RX7 15 7 1 (.array .boolean) true := ⟨RX7, TX7, 3, tyX7, rfl, by decide, gm_t2 (List.mem_of_getElem? (i := 7) (by decide +kernel)) rfl, rfl, gm_inX7, tyX7_ok, nmX7, rfl, rfl⟩
theorem lfX7_19 : gm_Fld RX7 19 7 2 (.int) false := ⟨RX7, TX7, 3, tyX7, rfl, by decide, gm_t2 (List.mem_of_getElem? (i := 8) (by decide +kernel)) rfl, rfl, gm_inX7, tyX7_ok, nmX7, rfl, rfl⟩
theorem lfX10_190 : gm_Fld RX10 190 7 2 (.int) false := ⟨RX7, TX7, 3, tyX7, rfl, by decide, gm_t2 (List.mem_of_getElem? (i := 9) (by decide +kernel)) rfl, rfl, gm_inX7, tyX7_ok, nmX7, rfl, rfl⟩
theorem lfX2_9 : gm_Fld RX2 9 2 0 (.array .int) true := ⟨RX2, TX2, 5, tyX2, rfl, by decide, gm_t2 (List.mem_of_getElem? (i := 23) (by decide +kernel)) rfl, rfl, gm_inX2, tyX2_ok, nmX2, rfl, rfl⟩
theorem lfX2_15 : gm_Fld RX2 15 2 1 (.array .int) true := ⟨RX2, TX2, 5, tyX2, rfl, by decide, gm_t2 (List.mem_of_getElem? (i := 24) (by decide +kernel)) rfl, rfl, gm_inX2, tyX2_ok, nmX2, rfl, rfl⟩
theorem lfX2_18 : gm_Fld RX2 18 2 2 (.array .int) true := ⟨RX2, TX2, 5, tyX2, rfl, by decide, gm_t2 (List.mem_of_getElem? (i := 25) (by decide +kernel)) rfl, rfl, gm_inX2, tyX2_ok, nmX2, rfl, rfl⟩
theorem lfX2_25 : gm_Fld RX2 25 2 3 (.int) false := ⟨RX2, TX2, 5, tyX2, rfl, by decide, gm_t2 (List.mem_of_getElem? (i := 26) (by decide +kernel)) rfl, rfl, gm_inX2, tyX2_ok, nmX2, rfl, rfl⟩
theorem lfX2_21 : gm_Fld RX2 21 2 4 (.int) false := ⟨RX2, TX2, 5, tyX2, rfl, by decide, gm_t2 (List.mem_of_getElem? (i := 27) (by decide +kernel)) rfl, rfl, gm_inX2, tyX2_ok, nmX2, rfl, rfl⟩
theorem lfX9_12 : gm_Fld RX9 12 9 0 (.object "SessionSimulator$Endpoint") true := ⟨RX9, TX9, 14, tyX9, rfl, by decide, gm_t2 (List.mem_of_getElem? (i := 39) (by decide +kernel)) rfl, rfl, gm_inX9, tyX9_ok, nmX9, rfl, rfl⟩
theorem lfX10_48 : gm_Fld RX10 48 9 0 (.object "SessionSimulator$Endpoint") true := ⟨RX9, TX9, 14, tyX9, rfl, by decide, gm_t2 (List.mem_of_getElem? (i := 40) (by decide +kernel)) rfl, rfl, gm_inX9, tyX9_ok, nmX9, rfl, rfl⟩
theorem lfX9_18 : gm_Fld RX9 18 9 1 (.object "SessionSimulator$Endpoint") true := ⟨RX9, TX9, 14, tyX9, rfl, by decide, gm_t2 (List.mem_of_getElem? (i := 41) (by decide +kernel)) rfl, rfl, gm_inX9, tyX9_ok, nmX9, rfl, rfl⟩
theorem lfX10_93 : gm_Fld RX10 93 9 1 (.object "SessionSimulator$Endpoint") true := ⟨RX9, TX9, 14, tyX9, rfl, by decide, gm_t2 (List.mem_of_getElem? (i := 42) (by decide +kernel)) rfl, rfl, gm_inX9, tyX9_ok, nmX9, rfl, rfl⟩
theorem lfX9_24 : gm_Fld RX9 24 9 2 (.object "SessionSimulator$Network") true := ⟨RX9, TX9, 14, tyX9, rfl, by decide, gm_t2 (List.mem_of_getElem? (i := 43) (by decide +kernel)) rfl, rfl, gm_inX9, tyX9_ok, nmX9, rfl, rfl⟩
theorem lfX10_58 : gm_Fld RX10 58 9 2 (.object "SessionSimulator$Network") true := ⟨RX9, TX9, 14, tyX9, rfl, by decide, gm_t2 (List.mem_of_getElem? (i := 44) (by decide +kernel)) rfl, rfl, gm_inX9, tyX9_ok, nmX9, rfl, rfl⟩
theorem lfX9_31 : gm_Fld RX9 31 9 3 (.object "SessionSimulator$Tickets") true := ⟨RX9, TX9, 14, tyX9, rfl, by decide, gm_t2 (List.mem_of_getElem? (i := 45) (by decide +kernel)) rfl, rfl, gm_inX9, tyX9_ok, nmX9, rfl, rfl⟩
theorem lfX10_186 : gm_Fld RX10 186 9 3 (.object "SessionSimulator$Tickets") true := ⟨RX9, TX9, 14, tyX9, rfl, by decide, gm_t2 (List.mem_of_getElem? (i := 46) (by decide +kernel)) rfl, rfl, gm_inX9, tyX9_ok, nmX9, rfl, rfl⟩
theorem lfX9_38 : gm_Fld RX9 38 9 4 (.object "SessionSimulator$Log") true := ⟨RX9, TX9, 14, tyX9, rfl, by decide, gm_t2 (List.mem_of_getElem? (i := 47) (by decide +kernel)) rfl, rfl, gm_inX9, tyX9_ok, nmX9, rfl, rfl⟩
theorem lfX10_133 : gm_Fld RX10 133 9 4 (.object "SessionSimulator$Log") true := ⟨RX9, TX9, 14, tyX9, rfl, by decide, gm_t2 (List.mem_of_getElem? (i := 48) (by decide +kernel)) rfl, rfl, gm_inX9, tyX9_ok, nmX9, rfl, rfl⟩
theorem lfX9_42 : gm_Fld RX9 42 9 5 (.int) false := ⟨RX9, TX9, 14, tyX9, rfl, by decide, gm_t2 (List.mem_of_getElem? (i := 49) (by decide +kernel)) rfl, rfl, gm_inX9, tyX9_ok, nmX9, rfl, rfl⟩
theorem lfX10_38 : gm_Fld RX10 38 9 5 (.int) false := ⟨RX9, TX9, 14, tyX9, rfl, by decide, gm_t2 (List.mem_of_getElem? (i := 50) (by decide +kernel)) rfl, rfl, gm_inX9, tyX9_ok, nmX9, rfl, rfl⟩
theorem lfX9_46 : gm_Fld RX9 46 9 6 (.int) false := ⟨RX9, TX9, 14, tyX9, rfl, by decide, gm_t2 (List.mem_of_getElem? (i := 51) (by decide +kernel)) rfl, rfl, gm_inX9, tyX9_ok, nmX9, rfl, rfl⟩
theorem lfX10_42 : gm_Fld RX10 42 9 6 (.int) false := ⟨RX9, TX9, 14, tyX9, rfl, by decide, gm_t2 (List.mem_of_getElem? (i := 52) (by decide +kernel)) rfl, rfl, gm_inX9, tyX9_ok, nmX9, rfl, rfl⟩
theorem lfX9_49 : gm_Fld RX9 49 9 7 (.int) false := ⟨RX9, TX9, 14, tyX9, rfl, by decide, gm_t2 (List.mem_of_getElem? (i := 53) (by decide +kernel)) rfl, rfl, gm_inX9, tyX9_ok, nmX9, rfl, rfl⟩
theorem lfX10_45 : gm_Fld RX10 45 9 7 (.int) false := ⟨RX9, TX9, 14, tyX9, rfl, by decide, gm_t2 (List.mem_of_getElem? (i := 54) (by decide +kernel)) rfl, rfl, gm_inX9, tyX9_ok, nmX9, rfl, rfl⟩
theorem lfX9_65 : gm_Fld RX9 65 9 8 (.int) false := ⟨RX9, TX9, 14, tyX9, rfl, by decide, gm_t2 (List.mem_of_getElem? (i := 55) (by decide +kernel)) rfl, rfl, gm_inX9, tyX9_ok, nmX9, rfl, rfl⟩
theorem lfX10_173 : gm_Fld RX10 173 9 8 (.int) false := ⟨RX9, TX9, 14, tyX9, rfl, by decide, gm_t2 (List.mem_of_getElem? (i := 56) (by decide +kernel)) rfl, rfl, gm_inX9, tyX9_ok, nmX9, rfl, rfl⟩
theorem lfX9_68 : gm_Fld RX9 68 9 9 (.int) false := ⟨RX9, TX9, 14, tyX9, rfl, by decide, gm_t2 (List.mem_of_getElem? (i := 57) (by decide +kernel)) rfl, rfl, gm_inX9, tyX9_ok, nmX9, rfl, rfl⟩
theorem lfX10_76 : gm_Fld RX10 76 9 9 (.int) false := ⟨RX9, TX9, 14, tyX9, rfl, by decide, gm_t2 (List.mem_of_getElem? (i := 58) (by decide +kernel)) rfl, rfl, gm_inX9, tyX9_ok, nmX9, rfl, rfl⟩
theorem lfX9_71 : gm_Fld RX9 71 9 10 (.int) false := ⟨RX9, TX9, 14, tyX9, rfl, by decide, gm_t2 (List.mem_of_getElem? (i := 59) (by decide +kernel)) rfl, rfl, gm_inX9, tyX9_ok, nmX9, rfl, rfl⟩
theorem lfX10_234 : gm_Fld RX10 234 9 10 (.int) false := ⟨RX9, TX9, 14, tyX9, rfl, by decide, gm_t2 (List.mem_of_getElem? (i := 60) (by decide +kernel)) rfl, rfl, gm_inX9, tyX9_ok, nmX9, rfl, rfl⟩
theorem lfX9_74 : gm_Fld RX9 74 9 11 (.int) false := ⟨RX9, TX9, 14, tyX9, rfl, by decide, gm_t2 (List.mem_of_getElem? (i := 61) (by decide +kernel)) rfl, rfl, gm_inX9, tyX9_ok, nmX9, rfl, rfl⟩
theorem lfX10_130 : gm_Fld RX10 130 9 11 (.int) false := ⟨RX9, TX9, 14, tyX9, rfl, by decide, gm_t2 (List.mem_of_getElem? (i := 62) (by decide +kernel)) rfl, rfl, gm_inX9, tyX9_ok, nmX9, rfl, rfl⟩
theorem lfX9_77 : gm_Fld RX9 77 9 12 (.int) false := ⟨RX9, TX9, 14, tyX9, rfl, by decide, gm_t2 (List.mem_of_getElem? (i := 63) (by decide +kernel)) rfl, rfl, gm_inX9, tyX9_ok, nmX9, rfl, rfl⟩
theorem lfX10_86 : gm_Fld RX10 86 9 12 (.int) false := ⟨RX9, TX9, 14, tyX9, rfl, by decide, gm_t2 (List.mem_of_getElem? (i := 64) (by decide +kernel)) rfl, rfl, gm_inX9, tyX9_ok, nmX9, rfl, rfl⟩
theorem lfX9_80 : gm_Fld RX9 80 9 13 (.int) false := ⟨RX9, TX9, 14, tyX9, rfl, by decide, gm_t2 (List.mem_of_getElem? (i := 65) (by decide +kernel)) rfl, rfl, gm_inX9, tyX9_ok, nmX9, rfl, rfl⟩
theorem lfX10_167 : gm_Fld RX10 167 9 13 (.int) false := ⟨RX9, TX9, 14, tyX9, rfl, by decide, gm_t2 (List.mem_of_getElem? (i := 66) (by decide +kernel)) rfl, rfl, gm_inX9, tyX9_ok, nmX9, rfl, rfl⟩
theorem lfX6_9 : gm_Fld RX6 9 6 0 (.array .int) true := ⟨RX6, TX6, 7, tyX6, rfl, by decide, gm_t2 (List.mem_of_getElem? (i := 102) (by decide +kernel)) rfl, rfl, gm_inX6, tyX6_ok, nmX6, rfl, rfl⟩
theorem lfX6_15 : gm_Fld RX6 15 6 1 (.array .int) true := ⟨RX6, TX6, 7, tyX6, rfl, by decide, gm_t2 (List.mem_of_getElem? (i := 103) (by decide +kernel)) rfl, rfl, gm_inX6, tyX6_ok, nmX6, rfl, rfl⟩
theorem lfX10_259 : gm_Fld RX10 259 6 1 (.array .int) true := ⟨RX6, TX6, 7, tyX6, rfl, by decide, gm_t2 (List.mem_of_getElem? (i := 104) (by decide +kernel)) rfl, rfl, gm_inX6, tyX6_ok, nmX6, rfl, rfl⟩
theorem lfX6_18 : gm_Fld RX6 18 6 2 (.array .int) true := ⟨RX6, TX6, 7, tyX6, rfl, by decide, gm_t2 (List.mem_of_getElem? (i := 105) (by decide +kernel)) rfl, rfl, gm_inX6, tyX6_ok, nmX6, rfl, rfl⟩
theorem lfX10_271 : gm_Fld RX10 271 6 2 (.array .int) true := ⟨RX6, TX6, 7, tyX6, rfl, by decide, gm_t2 (List.mem_of_getElem? (i := 106) (by decide +kernel)) rfl, rfl, gm_inX6, tyX6_ok, nmX6, rfl, rfl⟩
theorem lfX6_21 : gm_Fld RX6 21 6 3 (.array .int) true := ⟨RX6, TX6, 7, tyX6, rfl, by decide, gm_t2 (List.mem_of_getElem? (i := 107) (by decide +kernel)) rfl, rfl, gm_inX6, tyX6_ok, nmX6, rfl, rfl⟩
theorem lfX10_256 : gm_Fld RX10 256 6 3 (.array .int) true := ⟨RX6, TX6, 7, tyX6, rfl, by decide, gm_t2 (List.mem_of_getElem? (i := 108) (by decide +kernel)) rfl, rfl, gm_inX6, tyX6_ok, nmX6, rfl, rfl⟩
theorem lfX6_24 : gm_Fld RX6 24 6 4 (.int) false := ⟨RX6, TX6, 7, tyX6, rfl, by decide, gm_t2 (List.mem_of_getElem? (i := 109) (by decide +kernel)) rfl, rfl, gm_inX6, tyX6_ok, nmX6, rfl, rfl⟩
theorem lfX10_237 : gm_Fld RX10 237 6 4 (.int) false := ⟨RX6, TX6, 7, tyX6, rfl, by decide, gm_t2 (List.mem_of_getElem? (i := 110) (by decide +kernel)) rfl, rfl, gm_inX6, tyX6_ok, nmX6, rfl, rfl⟩
theorem lfX6_31 : gm_Fld RX6 31 6 5 (.int) false := ⟨RX6, TX6, 7, tyX6, rfl, by decide, gm_t2 (List.mem_of_getElem? (i := 111) (by decide +kernel)) rfl, rfl, gm_inX6, tyX6_ok, nmX6, rfl, rfl⟩
theorem lfX10_253 : gm_Fld RX10 253 6 5 (.int) false := ⟨RX6, TX6, 7, tyX6, rfl, by decide, gm_t2 (List.mem_of_getElem? (i := 112) (by decide +kernel)) rfl, rfl, gm_inX6, tyX6_ok, nmX6, rfl, rfl⟩
theorem lfX6_28 : gm_Fld RX6 28 6 6 (.int) false := ⟨RX6, TX6, 7, tyX6, rfl, by decide, gm_t2 (List.mem_of_getElem? (i := 113) (by decide +kernel)) rfl, rfl, gm_inX6, tyX6_ok, nmX6, rfl, rfl⟩
theorem lfX10_250 : gm_Fld RX10 250 6 6 (.int) false := ⟨RX6, TX6, 7, tyX6, rfl, by decide, gm_t2 (List.mem_of_getElem? (i := 114) (by decide +kernel)) rfl, rfl, gm_inX6, tyX6_ok, nmX6, rfl, rfl⟩
theorem lfX10_10 : gm_Fld RX10 10 10 0 (.object "SessionSimulator$World") true := ⟨RX10, TX10, 5, tyX10, rfl, by decide, gm_t2 (List.mem_of_getElem? (i := 132) (by decide +kernel)) rfl, rfl, gm_inX10, tyX10_ok, nmX10, rfl, rfl⟩
theorem lfX10_16 : gm_Fld RX10 16 10 1 (.object "SessionSimulator$World") true := ⟨RX10, TX10, 5, tyX10, rfl, by decide, gm_t2 (List.mem_of_getElem? (i := 133) (by decide +kernel)) rfl, rfl, gm_inX10, tyX10_ok, nmX10, rfl, rfl⟩
theorem lfX10_22 : gm_Fld RX10 22 10 2 (.object "SessionSimulator$Script") true := ⟨RX10, TX10, 5, tyX10, rfl, by decide, gm_t2 (List.mem_of_getElem? (i := 134) (by decide +kernel)) rfl, rfl, gm_inX10, tyX10_ok, nmX10, rfl, rfl⟩
theorem lfX10_29 : gm_Fld RX10 29 10 3 (.object "SessionSimulator$Packet") true := ⟨RX10, TX10, 5, tyX10, rfl, by decide, gm_t2 (List.mem_of_getElem? (i := 135) (by decide +kernel)) rfl, rfl, gm_inX10, tyX10_ok, nmX10, rfl, rfl⟩
theorem lfX10_33 : gm_Fld RX10 33 10 4 (.boolean) false := ⟨RX10, TX10, 5, tyX10, rfl, by decide, gm_t2 (List.mem_of_getElem? (i := 136) (by decide +kernel)) rfl, rfl, gm_inX10, tyX10_ok, nmX10, rfl, rfl⟩
theorem lcX10_37 : Cond.constant RX10 37 (-1000000002) ∈ gm_TB := gm_t2 (List.mem_of_getElem? (i := 152) (by decide +kernel)) rfl
theorem lcX10_57 : Cond.constant RX10 57 (-1000000004) ∈ gm_TB := gm_t2 (List.mem_of_getElem? (i := 157) (by decide +kernel)) rfl
theorem lcX10_68 : Cond.constant RX10 68 (-1000000003) ∈ gm_TB := gm_t2 (List.mem_of_getElem? (i := 162) (by decide +kernel)) rfl
theorem lcX10_82 : Cond.constant RX10 82 (-1000000001) ∈ gm_TB := gm_t2 (List.mem_of_getElem? (i := 215) (by decide +kernel)) rfl
theorem lcX4_34 : Cond.constant RX4 34 (-1000000003) ∈ gm_TB := gm_t3 (List.mem_of_getElem? (i := 8) (by decide +kernel)) rfl
theorem lcX5_39 : Cond.constant RX5 39 (-1000000002) ∈ gm_TB := gm_t3 (List.mem_of_getElem? (i := 222) (by decide +kernel)) rfl
theorem lcX0_134 : Cond.constant RX0 134 (-1000000002) ∈ gm_TB := gm_t3 (List.mem_of_getElem? (i := 235) (by decide +kernel)) rfl
theorem lcX1_48 : Cond.constant RX1 48 (-1000000001) ∈ gm_TB := gm_t4 (List.mem_of_getElem? (i := 12) (by decide +kernel)) rfl
theorem lcX4_41 : Cond.constant RX4 41 (-1000000001) ∈ gm_TB := gm_t4 (List.mem_of_getElem? (i := 21) (by decide +kernel)) rfl
theorem lcX4_46 : Cond.constant RX4 46 (-1000000002) ∈ gm_TB := gm_t4 (List.mem_of_getElem? (i := 23) (by decide +kernel)) rfl
theorem lcX2_34 : Cond.constant RX2 34 (-1000000001) ∈ gm_TB := gm_t4 (List.mem_of_getElem? (i := 40) (by decide +kernel)) rfl
theorem lcX2_41 : Cond.constant RX2 41 (-1000000002) ∈ gm_TB := gm_t4 (List.mem_of_getElem? (i := 44) (by decide +kernel)) rfl
theorem lfX11_7 : gm_Fld RX11 7 11 0 (.int) false := ⟨RX11, TX11, 58, tyX11, rfl, by decide, gm_t4 (List.mem_of_getElem? (i := 146) (by decide +kernel)) rfl, rfl, gm_inX11, tyX11_ok, nmX11, rfl, rfl⟩
theorem lfX11_13 : gm_Fld RX11 13 11 1 (.int) false := ⟨RX11, TX11, 58, tyX11, rfl, by decide, gm_t4 (List.mem_of_getElem? (i := 147) (by decide +kernel)) rfl, rfl, gm_inX11, tyX11_ok, nmX11, rfl, rfl⟩
theorem lfX11_16 : gm_Fld RX11 16 11 2 (.int) false := ⟨RX11, TX11, 58, tyX11, rfl, by decide, gm_t4 (List.mem_of_getElem? (i := 148) (by decide +kernel)) rfl, rfl, gm_inX11, tyX11_ok, nmX11, rfl, rfl⟩
theorem lfX11_182 : gm_Fld RX11 182 11 3 (.int) false := ⟨RX11, TX11, 58, tyX11, rfl, by decide, gm_t4 (List.mem_of_getElem? (i := 149) (by decide +kernel)) rfl, rfl, gm_inX11, tyX11_ok, nmX11, rfl, rfl⟩
theorem lfX11_179 : gm_Fld RX11 179 11 4 (.int) false := ⟨RX11, TX11, 58, tyX11, rfl, by decide, gm_t4 (List.mem_of_getElem? (i := 150) (by decide +kernel)) rfl, rfl, gm_inX11, tyX11_ok, nmX11, rfl, rfl⟩
theorem lfX11_156 : gm_Fld RX11 156 11 5 (.int) false := ⟨RX11, TX11, 58, tyX11, rfl, by decide, gm_t4 (List.mem_of_getElem? (i := 151) (by decide +kernel)) rfl, rfl, gm_inX11, tyX11_ok, nmX11, rfl, rfl⟩
theorem lfX11_277 : gm_Fld RX11 277 11 6 (.int) false := ⟨RX11, TX11, 58, tyX11, rfl, by decide, gm_t4 (List.mem_of_getElem? (i := 152) (by decide +kernel)) rfl, rfl, gm_inX11, tyX11_ok, nmX11, rfl, rfl⟩
theorem lfX11_205 : gm_Fld RX11 205 11 7 (.int) false := ⟨RX11, TX11, 58, tyX11, rfl, by decide, gm_t4 (List.mem_of_getElem? (i := 153) (by decide +kernel)) rfl, rfl, gm_inX11, tyX11_ok, nmX11, rfl, rfl⟩
theorem lfX11_289 : gm_Fld RX11 289 11 8 (.int) false := ⟨RX11, TX11, 58, tyX11, rfl, by decide, gm_t4 (List.mem_of_getElem? (i := 154) (by decide +kernel)) rfl, rfl, gm_inX11, tyX11_ok, nmX11, rfl, rfl⟩
theorem lfX11_19 : gm_Fld RX11 19 11 9 (.array .int) true := ⟨RX11, TX11, 58, tyX11, rfl, by decide, gm_t4 (List.mem_of_getElem? (i := 155) (by decide +kernel)) rfl, rfl, gm_inX11, tyX11_ok, nmX11, rfl, rfl⟩
theorem lfX11_23 : gm_Fld RX11 23 11 10 (.array .int) true := ⟨RX11, TX11, 58, tyX11, rfl, by decide, gm_t4 (List.mem_of_getElem? (i := 156) (by decide +kernel)) rfl, rfl, gm_inX11, tyX11_ok, nmX11, rfl, rfl⟩
theorem lfX11_26 : gm_Fld RX11 26 11 11 (.array .int) true := ⟨RX11, TX11, 58, tyX11, rfl, by decide, gm_t4 (List.mem_of_getElem? (i := 157) (by decide +kernel)) rfl, rfl, gm_inX11, tyX11_ok, nmX11, rfl, rfl⟩
theorem lfX11_29 : gm_Fld RX11 29 11 12 (.array .int) true := ⟨RX11, TX11, 58, tyX11, rfl, by decide, gm_t4 (List.mem_of_getElem? (i := 158) (by decide +kernel)) rfl, rfl, gm_inX11, tyX11_ok, nmX11, rfl, rfl⟩
theorem lfX11_32 : gm_Fld RX11 32 11 13 (.array .int) true := ⟨RX11, TX11, 58, tyX11, rfl, by decide, gm_t4 (List.mem_of_getElem? (i := 159) (by decide +kernel)) rfl, rfl, gm_inX11, tyX11_ok, nmX11, rfl, rfl⟩
theorem lfX11_35 : gm_Fld RX11 35 11 14 (.array .int) true := ⟨RX11, TX11, 58, tyX11, rfl, by decide, gm_t4 (List.mem_of_getElem? (i := 160) (by decide +kernel)) rfl, rfl, gm_inX11, tyX11_ok, nmX11, rfl, rfl⟩
theorem lfX11_38 : gm_Fld RX11 38 11 15 (.array .int) true := ⟨RX11, TX11, 58, tyX11, rfl, by decide, gm_t4 (List.mem_of_getElem? (i := 161) (by decide +kernel)) rfl, rfl, gm_inX11, tyX11_ok, nmX11, rfl, rfl⟩
theorem lfX11_41 : gm_Fld RX11 41 11 16 (.array .int) true := ⟨RX11, TX11, 58, tyX11, rfl, by decide, gm_t4 (List.mem_of_getElem? (i := 162) (by decide +kernel)) rfl, rfl, gm_inX11, tyX11_ok, nmX11, rfl, rfl⟩
theorem lfX11_44 : gm_Fld RX11 44 11 17 (.array .int) true := ⟨RX11, TX11, 58, tyX11, rfl, by decide, gm_t4 (List.mem_of_getElem? (i := 163) (by decide +kernel)) rfl, rfl, gm_inX11, tyX11_ok, nmX11, rfl, rfl⟩
theorem lfX11_47 : gm_Fld RX11 47 11 18 (.array .int) true := ⟨RX11, TX11, 58, tyX11, rfl, by decide, gm_t4 (List.mem_of_getElem? (i := 164) (by decide +kernel)) rfl, rfl, gm_inX11, tyX11_ok, nmX11, rfl, rfl⟩
theorem lfX11_50 : gm_Fld RX11 50 11 19 (.array .int) true := ⟨RX11, TX11, 58, tyX11, rfl, by decide, gm_t4 (List.mem_of_getElem? (i := 165) (by decide +kernel)) rfl, rfl, gm_inX11, tyX11_ok, nmX11, rfl, rfl⟩
theorem lfX11_53 : gm_Fld RX11 53 11 20 (.array .int) true := ⟨RX11, TX11, 58, tyX11, rfl, by decide, gm_t4 (List.mem_of_getElem? (i := 166) (by decide +kernel)) rfl, rfl, gm_inX11, tyX11_ok, nmX11, rfl, rfl⟩
theorem lfX11_56 : gm_Fld RX11 56 11 21 (.array .int) true := ⟨RX11, TX11, 58, tyX11, rfl, by decide, gm_t4 (List.mem_of_getElem? (i := 167) (by decide +kernel)) rfl, rfl, gm_inX11, tyX11_ok, nmX11, rfl, rfl⟩
theorem lfX11_59 : gm_Fld RX11 59 11 22 (.array .int) true := ⟨RX11, TX11, 58, tyX11, rfl, by decide, gm_t4 (List.mem_of_getElem? (i := 168) (by decide +kernel)) rfl, rfl, gm_inX11, tyX11_ok, nmX11, rfl, rfl⟩
theorem lfX11_62 : gm_Fld RX11 62 11 23 (.array .int) true := ⟨RX11, TX11, 58, tyX11, rfl, by decide, gm_t4 (List.mem_of_getElem? (i := 169) (by decide +kernel)) rfl, rfl, gm_inX11, tyX11_ok, nmX11, rfl, rfl⟩
theorem lfX11_65 : gm_Fld RX11 65 11 24 (.array .int) true := ⟨RX11, TX11, 58, tyX11, rfl, by decide, gm_t4 (List.mem_of_getElem? (i := 170) (by decide +kernel)) rfl, rfl, gm_inX11, tyX11_ok, nmX11, rfl, rfl⟩
theorem lfX11_68 : gm_Fld RX11 68 11 25 (.array .int) true := ⟨RX11, TX11, 58, tyX11, rfl, by decide, gm_t4 (List.mem_of_getElem? (i := 171) (by decide +kernel)) rfl, rfl, gm_inX11, tyX11_ok, nmX11, rfl, rfl⟩
theorem lfX11_71 : gm_Fld RX11 71 11 26 (.array .int) true := ⟨RX11, TX11, 58, tyX11, rfl, by decide, gm_t4 (List.mem_of_getElem? (i := 172) (by decide +kernel)) rfl, rfl, gm_inX11, tyX11_ok, nmX11, rfl, rfl⟩
theorem lfX11_74 : gm_Fld RX11 74 11 27 (.array .int) true := ⟨RX11, TX11, 58, tyX11, rfl, by decide, gm_t4 (List.mem_of_getElem? (i := 173) (by decide +kernel)) rfl, rfl, gm_inX11, tyX11_ok, nmX11, rfl, rfl⟩
theorem lfX11_77 : gm_Fld RX11 77 11 28 (.array .int) true := ⟨RX11, TX11, 58, tyX11, rfl, by decide, gm_t4 (List.mem_of_getElem? (i := 174) (by decide +kernel)) rfl, rfl, gm_inX11, tyX11_ok, nmX11, rfl, rfl⟩
theorem lfX11_80 : gm_Fld RX11 80 11 29 (.array .int) true := ⟨RX11, TX11, 58, tyX11, rfl, by decide, gm_t4 (List.mem_of_getElem? (i := 175) (by decide +kernel)) rfl, rfl, gm_inX11, tyX11_ok, nmX11, rfl, rfl⟩
theorem lfX11_83 : gm_Fld RX11 83 11 30 (.array .int) true := ⟨RX11, TX11, 58, tyX11, rfl, by decide, gm_t4 (List.mem_of_getElem? (i := 176) (by decide +kernel)) rfl, rfl, gm_inX11, tyX11_ok, nmX11, rfl, rfl⟩
theorem lfX11_86 : gm_Fld RX11 86 11 31 (.array .int) true := ⟨RX11, TX11, 58, tyX11, rfl, by decide, gm_t4 (List.mem_of_getElem? (i := 177) (by decide +kernel)) rfl, rfl, gm_inX11, tyX11_ok, nmX11, rfl, rfl⟩
theorem lfX11_89 : gm_Fld RX11 89 11 32 (.array .int) true := ⟨RX11, TX11, 58, tyX11, rfl, by decide, gm_t4 (List.mem_of_getElem? (i := 178) (by decide +kernel)) rfl, rfl, gm_inX11, tyX11_ok, nmX11, rfl, rfl⟩
theorem lfX11_92 : gm_Fld RX11 92 11 33 (.array .int) true := ⟨RX11, TX11, 58, tyX11, rfl, by decide, gm_t4 (List.mem_of_getElem? (i := 179) (by decide +kernel)) rfl, rfl, gm_inX11, tyX11_ok, nmX11, rfl, rfl⟩
theorem lfX11_95 : gm_Fld RX11 95 11 34 (.array .int) true := ⟨RX11, TX11, 58, tyX11, rfl, by decide, gm_t4 (List.mem_of_getElem? (i := 180) (by decide +kernel)) rfl, rfl, gm_inX11, tyX11_ok, nmX11, rfl, rfl⟩
theorem lfX11_98 : gm_Fld RX11 98 11 35 (.int) false := ⟨RX11, TX11, 58, tyX11, rfl, by decide, gm_t4 (List.mem_of_getElem? (i := 181) (by decide +kernel)) rfl, rfl, gm_inX11, tyX11_ok, nmX11, rfl, rfl⟩
theorem lfX11_101 : gm_Fld RX11 101 11 36 (.int) false := ⟨RX11, TX11, 58, tyX11, rfl, by decide, gm_t4 (List.mem_of_getElem? (i := 182) (by decide +kernel)) rfl, rfl, gm_inX11, tyX11_ok, nmX11, rfl, rfl⟩
theorem lfX11_193 : gm_Fld RX11 193 11 37 (.int) false := ⟨RX11, TX11, 58, tyX11, rfl, by decide, gm_t4 (List.mem_of_getElem? (i := 183) (by decide +kernel)) rfl, rfl, gm_inX11, tyX11_ok, nmX11, rfl, rfl⟩
theorem lfX11_223 : gm_Fld RX11 223 11 38 (.int) false := ⟨RX11, TX11, 58, tyX11, rfl, by decide, gm_t4 (List.mem_of_getElem? (i := 184) (by decide +kernel)) rfl, rfl, gm_inX11, tyX11_ok, nmX11, rfl, rfl⟩
theorem lfX11_104 : gm_Fld RX11 104 11 39 (.array .int) true := ⟨RX11, TX11, 58, tyX11, rfl, by decide, gm_t4 (List.mem_of_getElem? (i := 185) (by decide +kernel)) rfl, rfl, gm_inX11, tyX11_ok, nmX11, rfl, rfl⟩
theorem lfX11_107 : gm_Fld RX11 107 11 40 (.array .int) true := ⟨RX11, TX11, 58, tyX11, rfl, by decide, gm_t4 (List.mem_of_getElem? (i := 186) (by decide +kernel)) rfl, rfl, gm_inX11, tyX11_ok, nmX11, rfl, rfl⟩
theorem lfX11_110 : gm_Fld RX11 110 11 41 (.array .int) true := ⟨RX11, TX11, 58, tyX11, rfl, by decide, gm_t4 (List.mem_of_getElem? (i := 187) (by decide +kernel)) rfl, rfl, gm_inX11, tyX11_ok, nmX11, rfl, rfl⟩
theorem lfX11_150 : gm_Fld RX11 150 11 42 (.int) false := ⟨RX11, TX11, 58, tyX11, rfl, by decide, gm_t4 (List.mem_of_getElem? (i := 188) (by decide +kernel)) rfl, rfl, gm_inX11, tyX11_ok, nmX11, rfl, rfl⟩
theorem lfX11_113 : gm_Fld RX11 113 11 43 (.array .int) true := ⟨RX11, TX11, 58, tyX11, rfl, by decide, gm_t4 (List.mem_of_getElem? (i := 189) (by decide +kernel)) rfl, rfl, gm_inX11, tyX11_ok, nmX11, rfl, rfl⟩
theorem lfX11_116 : gm_Fld RX11 116 11 44 (.array .int) true := ⟨RX11, TX11, 58, tyX11, rfl, by decide, gm_t4 (List.mem_of_getElem? (i := 190) (by decide +kernel)) rfl, rfl, gm_inX11, tyX11_ok, nmX11, rfl, rfl⟩
theorem lfX11_153 : gm_Fld RX11 153 11 45 (.int) false := ⟨RX11, TX11, 58, tyX11, rfl, by decide, gm_t4 (List.mem_of_getElem? (i := 191) (by decide +kernel)) rfl, rfl, gm_inX11, tyX11_ok, nmX11, rfl, rfl⟩
theorem lfX11_119 : gm_Fld RX11 119 11 46 (.array .int) true := ⟨RX11, TX11, 58, tyX11, rfl, by decide, gm_t4 (List.mem_of_getElem? (i := 192) (by decide +kernel)) rfl, rfl, gm_inX11, tyX11_ok, nmX11, rfl, rfl⟩
theorem lfX11_122 : gm_Fld RX11 122 11 47 (.array .int) true := ⟨RX11, TX11, 58, tyX11, rfl, by decide, gm_t4 (List.mem_of_getElem? (i := 193) (by decide +kernel)) rfl, rfl, gm_inX11, tyX11_ok, nmX11, rfl, rfl⟩
theorem lfX11_125 : gm_Fld RX11 125 11 48 (.array .int) true := ⟨RX11, TX11, 58, tyX11, rfl, by decide, gm_t4 (List.mem_of_getElem? (i := 194) (by decide +kernel)) rfl, rfl, gm_inX11, tyX11_ok, nmX11, rfl, rfl⟩
theorem lfX11_128 : gm_Fld RX11 128 11 49 (.array .int) true := ⟨RX11, TX11, 58, tyX11, rfl, by decide, gm_t4 (List.mem_of_getElem? (i := 195) (by decide +kernel)) rfl, rfl, gm_inX11, tyX11_ok, nmX11, rfl, rfl⟩
theorem lfX11_131 : gm_Fld RX11 131 11 50 (.array .int) true := ⟨RX11, TX11, 58, tyX11, rfl, by decide, gm_t4 (List.mem_of_getElem? (i := 196) (by decide +kernel)) rfl, rfl, gm_inX11, tyX11_ok, nmX11, rfl, rfl⟩
theorem lfX11_298 : gm_Fld RX11 298 11 51 (.int) false := ⟨RX11, TX11, 58, tyX11, rfl, by decide, gm_t4 (List.mem_of_getElem? (i := 197) (by decide +kernel)) rfl, rfl, gm_inX11, tyX11_ok, nmX11, rfl, rfl⟩
theorem lfX11_301 : gm_Fld RX11 301 11 52 (.int) false := ⟨RX11, TX11, 58, tyX11, rfl, by decide, gm_t4 (List.mem_of_getElem? (i := 198) (by decide +kernel)) rfl, rfl, gm_inX11, tyX11_ok, nmX11, rfl, rfl⟩
theorem lfX11_307 : gm_Fld RX11 307 11 53 (.int) false := ⟨RX11, TX11, 58, tyX11, rfl, by decide, gm_t4 (List.mem_of_getElem? (i := 199) (by decide +kernel)) rfl, rfl, gm_inX11, tyX11_ok, nmX11, rfl, rfl⟩
theorem lfX11_134 : gm_Fld RX11 134 11 54 (.array .int) true := ⟨RX11, TX11, 58, tyX11, rfl, by decide, gm_t4 (List.mem_of_getElem? (i := 200) (by decide +kernel)) rfl, rfl, gm_inX11, tyX11_ok, nmX11, rfl, rfl⟩
theorem lfX11_357 : gm_Fld RX11 357 11 55 (.boolean) false := ⟨RX11, TX11, 58, tyX11, rfl, by decide, gm_t4 (List.mem_of_getElem? (i := 201) (by decide +kernel)) rfl, rfl, gm_inX11, tyX11_ok, nmX11, rfl, rfl⟩
theorem lfX11_340 : gm_Fld RX11 340 11 56 (.boolean) false := ⟨RX11, TX11, 58, tyX11, rfl, by decide, gm_t4 (List.mem_of_getElem? (i := 202) (by decide +kernel)) rfl, rfl, gm_inX11, tyX11_ok, nmX11, rfl, rfl⟩
theorem lfX11_344 : gm_Fld RX11 344 11 57 (.int) false := ⟨RX11, TX11, 58, tyX11, rfl, by decide, gm_t4 (List.mem_of_getElem? (i := 203) (by decide +kernel)) rfl, rfl, gm_inX11, tyX11_ok, nmX11, rfl, rfl⟩
theorem lcX11_141 : Cond.constant RX11 141 (-1000000002) ∈ gm_TB := gm_t5 (List.mem_of_getElem? (i := 88) (by decide +kernel)) rfl
theorem lcX11_196 : Cond.constant RX11 196 (-1000000004) ∈ gm_TB := gm_t5 (List.mem_of_getElem? (i := 93) (by decide +kernel)) rfl
theorem lcX11_197 : Cond.constant RX11 197 (-1000000003) ∈ gm_TB := gm_t5 (List.mem_of_getElem? (i := 98) (by decide +kernel)) rfl
theorem lcX11_204 : Cond.constant RX11 204 (-1000000001) ∈ gm_TB := gm_t5 (List.mem_of_getElem? (i := 131) (by decide +kernel)) rfl
abbrev YX0_init : gm_Y := (yX0_init, cX0_init, 2, none)
abbrev YX0_copyFrom : gm_Y := (yX0_copyFrom, cX0_copyFrom, 2, none)
theorem mvX0_copyFrom : gm_Mv YX0_copyFrom 1 := ⟨gm_t4 (List.mem_of_getElem? (i := 106) (by decide +kernel)) rfl, gm_t4 (List.mem_of_getElem? (i := 107) (by decide +kernel)) rfl, gm_t1 (List.mem_of_getElem? (i := 3) (by decide +kernel)) rfl, gm_t4 (List.mem_of_getElem? (i := 108) (by decide +kernel)) rfl, by decide +kernel, by decide +kernel, by decide, by decide +kernel, by decide⟩
abbrev YX0_beginStream : gm_Y := (yX0_beginStream, cX0_beginStream, 1, none)
theorem mvX0_beginStream : gm_Mv YX0_beginStream 0 := ⟨gm_t2 (List.mem_of_getElem? (i := 164) (by decide +kernel)) rfl, gm_t2 (List.mem_of_getElem? (i := 165) (by decide +kernel)) rfl, gm_t1 (List.mem_of_getElem? (i := 3) (by decide +kernel)) rfl, gm_t2 (List.mem_of_getElem? (i := 166) (by decide +kernel)) rfl, by decide +kernel, by decide +kernel, by decide, by decide +kernel, by decide⟩
abbrev YX0_beginKeys : gm_Y := (yX0_beginKeys, cX0_beginKeys, 1, none)
theorem mvX0_beginKeys : gm_Mv YX0_beginKeys 0 := ⟨gm_t3 (List.mem_of_getElem? (i := 171) (by decide +kernel)) rfl, gm_t3 (List.mem_of_getElem? (i := 172) (by decide +kernel)) rfl, gm_t1 (List.mem_of_getElem? (i := 3) (by decide +kernel)) rfl, gm_t3 (List.mem_of_getElem? (i := 173) (by decide +kernel)) rfl, by decide +kernel, by decide +kernel, by decide, by decide +kernel, by decide⟩
abbrev YX0_countResult : gm_Y := (yX0_countResult, cX0_countResult, 2, none)
theorem mvX0_countResult : gm_Mv YX0_countResult 1 := ⟨gm_t3 (List.mem_of_getElem? (i := 100) (by decide +kernel)) rfl, gm_t3 (List.mem_of_getElem? (i := 101) (by decide +kernel)) rfl, gm_t1 (List.mem_of_getElem? (i := 3) (by decide +kernel)) rfl, gm_t3 (List.mem_of_getElem? (i := 102) (by decide +kernel)) rfl, by decide +kernel, by decide +kernel, by decide, by decide +kernel, by decide⟩
abbrev YX0_takesKind : gm_Y := (yX0_takesKind, cX0_takesKind, 2, (some .boolean))
theorem mvX0_takesKind : gm_Mv YX0_takesKind 1 := ⟨gm_t3 (List.mem_of_getElem? (i := 52) (by decide +kernel)) rfl, gm_t3 (List.mem_of_getElem? (i := 53) (by decide +kernel)) rfl, gm_t1 (List.mem_of_getElem? (i := 3) (by decide +kernel)) rfl, gm_t3 (List.mem_of_getElem? (i := 54) (by decide +kernel)) rfl, by decide +kernel, by decide +kernel, by decide, by decide +kernel, by decide⟩
abbrev YX0_takesEpoch : gm_Y := (yX0_takesEpoch, cX0_takesEpoch, 3, (some .boolean))
theorem mvX0_takesEpoch : gm_Mv YX0_takesEpoch 1 := ⟨gm_t3 (List.mem_of_getElem? (i := 76) (by decide +kernel)) rfl, gm_t3 (List.mem_of_getElem? (i := 77) (by decide +kernel)) rfl, gm_t1 (List.mem_of_getElem? (i := 3) (by decide +kernel)) rfl, gm_t3 (List.mem_of_getElem? (i := 78) (by decide +kernel)) rfl, by decide +kernel, by decide +kernel, by decide, by decide +kernel, by decide⟩
abbrev YX0_windowOf : gm_Y := (yX0_windowOf, cX0_windowOf, 2, (some (.object RX8)))
theorem mvX0_windowOf : gm_Mv YX0_windowOf 1 := ⟨gm_t3 (List.mem_of_getElem? (i := 80) (by decide +kernel)) rfl, gm_t3 (List.mem_of_getElem? (i := 81) (by decide +kernel)) rfl, gm_t1 (List.mem_of_getElem? (i := 3) (by decide +kernel)) rfl, gm_t3 (List.mem_of_getElem? (i := 82) (by decide +kernel)) rfl, by decide +kernel, by decide +kernel, by decide, by decide +kernel, by decide⟩
abbrev YX0_enterInWindow : gm_Y := (yX0_enterInWindow, cX0_enterInWindow, 3, none)
theorem mvX0_enterInWindow : gm_Mv YX0_enterInWindow 2 := ⟨gm_t3 (List.mem_of_getElem? (i := 108) (by decide +kernel)) rfl, gm_t3 (List.mem_of_getElem? (i := 109) (by decide +kernel)) rfl, gm_t1 (List.mem_of_getElem? (i := 3) (by decide +kernel)) rfl, gm_t3 (List.mem_of_getElem? (i := 110) (by decide +kernel)) rfl, by decide +kernel, by decide +kernel, by decide, by decide +kernel, by decide⟩
abbrev YX0_hasEnded : gm_Y := (yX0_hasEnded, cX0_hasEnded, 1, (some .boolean))
theorem mvX0_hasEnded : gm_Mv YX0_hasEnded 0 := ⟨gm_t3 (List.mem_of_getElem? (i := 148) (by decide +kernel)) rfl, gm_t3 (List.mem_of_getElem? (i := 149) (by decide +kernel)) rfl, gm_t1 (List.mem_of_getElem? (i := 3) (by decide +kernel)) rfl, gm_t3 (List.mem_of_getElem? (i := 150) (by decide +kernel)) rfl, by decide +kernel, by decide +kernel, by decide, by decide +kernel, by decide⟩
abbrev YX0_part : gm_Y := (yX0_part, cX0_part, 2, (some .int))
theorem mvX0_part : gm_Mv YX0_part 1 := ⟨gm_t3 (List.mem_of_getElem? (i := 228) (by decide +kernel)) rfl, gm_t3 (List.mem_of_getElem? (i := 229) (by decide +kernel)) rfl, gm_t1 (List.mem_of_getElem? (i := 3) (by decide +kernel)) rfl, gm_t3 (List.mem_of_getElem? (i := 230) (by decide +kernel)) rfl, by decide +kernel, by decide +kernel, by decide, by decide +kernel, by decide⟩
abbrev YX1_init : gm_Y := (yX1_init, cX1_init, 1, none)
abbrev YX1_begin : gm_Y := (yX1_begin, cX1_begin, 1, none)
theorem mvX1_begin : gm_Mv YX1_begin 0 := ⟨gm_t2 (List.mem_of_getElem? (i := 172) (by decide +kernel)) rfl, gm_t2 (List.mem_of_getElem? (i := 173) (by decide +kernel)) rfl, gm_t1 (List.mem_of_getElem? (i := 5) (by decide +kernel)) rfl, gm_t2 (List.mem_of_getElem? (i := 174) (by decide +kernel)) rfl, by decide +kernel, by decide +kernel, by decide, by decide +kernel, by decide⟩
abbrev YX1_copyFrom : gm_Y := (yX1_copyFrom, cX1_copyFrom, 3, none)
theorem mvX1_copyFrom : gm_Mv YX1_copyFrom 1 := ⟨gm_t4 (List.mem_of_getElem? (i := 118) (by decide +kernel)) rfl, gm_t4 (List.mem_of_getElem? (i := 119) (by decide +kernel)) rfl, gm_t1 (List.mem_of_getElem? (i := 5) (by decide +kernel)) rfl, gm_t4 (List.mem_of_getElem? (i := 120) (by decide +kernel)) rfl, by decide +kernel, by decide +kernel, by decide, by decide +kernel, by decide⟩
abbrev YX1_discardWaiting : gm_Y := (yX1_discardWaiting, cX1_discardWaiting, 2, none)
theorem mvX1_discardWaiting : gm_Mv YX1_discardWaiting 0 := ⟨gm_t2 (List.mem_of_getElem? (i := 176) (by decide +kernel)) rfl, gm_t2 (List.mem_of_getElem? (i := 177) (by decide +kernel)) rfl, gm_t1 (List.mem_of_getElem? (i := 5) (by decide +kernel)) rfl, gm_t2 (List.mem_of_getElem? (i := 178) (by decide +kernel)) rfl, by decide +kernel, by decide +kernel, by decide, by decide +kernel, by decide⟩
abbrev YX1_waitingCount : gm_Y := (yX1_waitingCount, cX1_waitingCount, 3, (some .int))
theorem mvX1_waitingCount : gm_Mv YX1_waitingCount 0 := ⟨gm_t3 (List.mem_of_getElem? (i := 232) (by decide +kernel)) rfl, gm_t3 (List.mem_of_getElem? (i := 233) (by decide +kernel)) rfl, gm_t1 (List.mem_of_getElem? (i := 5) (by decide +kernel)) rfl, gm_t3 (List.mem_of_getElem? (i := 234) (by decide +kernel)) rfl, by decide +kernel, by decide +kernel, by decide, by decide +kernel, by decide⟩
abbrev YX1_isAfterClose : gm_Y := (yX1_isAfterClose, cX1_isAfterClose, 2, (some .boolean))
theorem mvX1_isAfterClose : gm_Mv YX1_isAfterClose 1 := ⟨gm_t3 (List.mem_of_getElem? (i := 96) (by decide +kernel)) rfl, gm_t3 (List.mem_of_getElem? (i := 97) (by decide +kernel)) rfl, gm_t1 (List.mem_of_getElem? (i := 5) (by decide +kernel)) rfl, gm_t3 (List.mem_of_getElem? (i := 98) (by decide +kernel)) rfl, by decide +kernel, by decide +kernel, by decide, by decide +kernel, by decide⟩
abbrev YX1_take : gm_Y := (yX1_take, cX1_take, 6, none)
theorem mvX1_take : gm_Mv YX1_take 3 := ⟨gm_t3 (List.mem_of_getElem? (i := 140) (by decide +kernel)) rfl, gm_t3 (List.mem_of_getElem? (i := 141) (by decide +kernel)) rfl, gm_t1 (List.mem_of_getElem? (i := 5) (by decide +kernel)) rfl, gm_t3 (List.mem_of_getElem? (i := 142) (by decide +kernel)) rfl, by decide +kernel, by decide +kernel, by decide, by decide +kernel, by decide⟩
abbrev YX1_takeExpected : gm_Y := (yX1_takeExpected, cX1_takeExpected, 2, none)
theorem mvX1_takeExpected : gm_Mv YX1_takeExpected 1 := ⟨gm_t3 (List.mem_of_getElem? (i := 144) (by decide +kernel)) rfl, gm_t3 (List.mem_of_getElem? (i := 145) (by decide +kernel)) rfl, gm_t1 (List.mem_of_getElem? (i := 5) (by decide +kernel)) rfl, gm_t3 (List.mem_of_getElem? (i := 146) (by decide +kernel)) rfl, by decide +kernel, by decide +kernel, by decide, by decide +kernel, by decide⟩
abbrev YX1_valueAt : gm_Y := (yX1_valueAt, cX1_valueAt, 2, (some .int))
theorem mvX1_valueAt : gm_Mv YX1_valueAt 1 := ⟨gm_t4 (List.mem_of_getElem? (i := 9) (by decide +kernel)) rfl, gm_t4 (List.mem_of_getElem? (i := 10) (by decide +kernel)) rfl, gm_t1 (List.mem_of_getElem? (i := 5) (by decide +kernel)) rfl, gm_t4 (List.mem_of_getElem? (i := 11) (by decide +kernel)) rfl, by decide +kernel, by decide +kernel, by decide, by decide +kernel, by decide⟩
abbrev YX2_init : gm_Y := (yX2_init, cX2_init, 1, none)
abbrev YX2_add : gm_Y := (yX2_add, cX2_add, 4, none)
theorem mvX2_add : gm_Mv YX2_add 3 := ⟨gm_t2 (List.mem_of_getElem? (i := 188) (by decide +kernel)) rfl, gm_t2 (List.mem_of_getElem? (i := 189) (by decide +kernel)) rfl, gm_t1 (List.mem_of_getElem? (i := 10) (by decide +kernel)) rfl, gm_t2 (List.mem_of_getElem? (i := 190) (by decide +kernel)) rfl, by decide +kernel, by decide +kernel, by decide, by decide +kernel, by decide⟩
abbrev YX2_copyFrom : gm_Y := (yX2_copyFrom, cX2_copyFrom, 2, none)
theorem mvX2_copyFrom : gm_Mv YX2_copyFrom 1 := ⟨gm_t4 (List.mem_of_getElem? (i := 132) (by decide +kernel)) rfl, gm_t4 (List.mem_of_getElem? (i := 133) (by decide +kernel)) rfl, gm_t1 (List.mem_of_getElem? (i := 10) (by decide +kernel)) rfl, gm_t4 (List.mem_of_getElem? (i := 134) (by decide +kernel)) rfl, by decide +kernel, by decide +kernel, by decide, by decide +kernel, by decide⟩
abbrev YX2_part : gm_Y := (yX2_part, cX2_part, 4, (some .int))
theorem mvX2_part : gm_Mv YX2_part 2 := ⟨gm_t4 (List.mem_of_getElem? (i := 37) (by decide +kernel)) rfl, gm_t4 (List.mem_of_getElem? (i := 38) (by decide +kernel)) rfl, gm_t1 (List.mem_of_getElem? (i := 10) (by decide +kernel)) rfl, gm_t4 (List.mem_of_getElem? (i := 39) (by decide +kernel)) rfl, by decide +kernel, by decide +kernel, by decide, by decide +kernel, by decide⟩
abbrev YX3_init : gm_Y := (yX3_init, cX3_init, 2, none)
abbrev YX3_isFull : gm_Y := (yX3_isFull, cX3_isFull, 1, (some .boolean))
theorem mvX3_isFull : gm_Mv YX3_isFull 0 := ⟨gm_t2 (List.mem_of_getElem? (i := 159) (by decide +kernel)) rfl, gm_t2 (List.mem_of_getElem? (i := 160) (by decide +kernel)) rfl, gm_t1 (List.mem_of_getElem? (i := 7) (by decide +kernel)) rfl, gm_t2 (List.mem_of_getElem? (i := 161) (by decide +kernel)) rfl, by decide +kernel, by decide +kernel, by decide, by decide +kernel, by decide⟩
abbrev YX3_at : gm_Y := (yX3_at, cX3_at, 2, (some (.object RX5)))
theorem mvX3_at : gm_Mv YX3_at 1 := ⟨gm_t3 (List.mem_of_getElem? (i := 36) (by decide +kernel)) rfl, gm_t3 (List.mem_of_getElem? (i := 37) (by decide +kernel)) rfl, gm_t1 (List.mem_of_getElem? (i := 7) (by decide +kernel)) rfl, gm_t3 (List.mem_of_getElem? (i := 38) (by decide +kernel)) rfl, by decide +kernel, by decide +kernel, by decide, by decide +kernel, by decide⟩
abbrev YX3_extend : gm_Y := (yX3_extend, cX3_extend, 1, (some (.object RX5)))
theorem mvX3_extend : gm_Mv YX3_extend 0 := ⟨gm_t2 (List.mem_of_getElem? (i := 200) (by decide +kernel)) rfl, gm_t2 (List.mem_of_getElem? (i := 201) (by decide +kernel)) rfl, gm_t1 (List.mem_of_getElem? (i := 7) (by decide +kernel)) rfl, gm_t2 (List.mem_of_getElem? (i := 202) (by decide +kernel)) rfl, by decide +kernel, by decide +kernel, by decide, by decide +kernel, by decide⟩
abbrev YX3_remove : gm_Y := (yX3_remove, cX3_remove, 4, none)
theorem mvX3_remove : gm_Mv YX3_remove 1 := ⟨gm_t3 (List.mem_of_getElem? (i := 44) (by decide +kernel)) rfl, gm_t3 (List.mem_of_getElem? (i := 45) (by decide +kernel)) rfl, gm_t1 (List.mem_of_getElem? (i := 7) (by decide +kernel)) rfl, gm_t3 (List.mem_of_getElem? (i := 46) (by decide +kernel)) rfl, by decide +kernel, by decide +kernel, by decide, by decide +kernel, by decide⟩
abbrev YX3_copyFrom : gm_Y := (yX3_copyFrom, cX3_copyFrom, 3, none)
theorem mvX3_copyFrom : gm_Mv YX3_copyFrom 1 := ⟨gm_t4 (List.mem_of_getElem? (i := 123) (by decide +kernel)) rfl, gm_t4 (List.mem_of_getElem? (i := 124) (by decide +kernel)) rfl, gm_t1 (List.mem_of_getElem? (i := 7) (by decide +kernel)) rfl, gm_t4 (List.mem_of_getElem? (i := 125) (by decide +kernel)) rfl, by decide +kernel, by decide +kernel, by decide, by decide +kernel, by decide⟩
abbrev YX4_init : gm_Y := (yX4_init, cX4_init, 1, none)
abbrev YX4_begin : gm_Y := (yX4_begin, cX4_begin, 1, none)
theorem mvX4_begin : gm_Mv YX4_begin 0 := ⟨gm_t2 (List.mem_of_getElem? (i := 168) (by decide +kernel)) rfl, gm_t2 (List.mem_of_getElem? (i := 169) (by decide +kernel)) rfl, gm_t1 (List.mem_of_getElem? (i := 4) (by decide +kernel)) rfl, gm_t2 (List.mem_of_getElem? (i := 170) (by decide +kernel)) rfl, by decide +kernel, by decide +kernel, by decide, by decide +kernel, by decide⟩
abbrev YX4_copyFrom : gm_Y := (yX4_copyFrom, cX4_copyFrom, 2, none)
theorem mvX4_copyFrom : gm_Mv YX4_copyFrom 1 := ⟨gm_t4 (List.mem_of_getElem? (i := 113) (by decide +kernel)) rfl, gm_t4 (List.mem_of_getElem? (i := 114) (by decide +kernel)) rfl, gm_t1 (List.mem_of_getElem? (i := 4) (by decide +kernel)) rfl, gm_t4 (List.mem_of_getElem? (i := 115) (by decide +kernel)) rfl, by decide +kernel, by decide +kernel, by decide, by decide +kernel, by decide⟩
abbrev YX4_isFull : gm_Y := (yX4_isFull, cX4_isFull, 1, (some .boolean))
theorem mvX4_isFull : gm_Mv YX4_isFull 0 := ⟨gm_t3 (List.mem_of_getElem? (i := 1) (by decide +kernel)) rfl, gm_t3 (List.mem_of_getElem? (i := 2) (by decide +kernel)) rfl, gm_t1 (List.mem_of_getElem? (i := 4) (by decide +kernel)) rfl, gm_t3 (List.mem_of_getElem? (i := 3) (by decide +kernel)) rfl, by decide +kernel, by decide +kernel, by decide, by decide +kernel, by decide⟩
abbrev YX4_isClose : gm_Y := (yX4_isClose, cX4_isClose, 2, (some .boolean))
theorem mvX4_isClose : gm_Mv YX4_isClose 1 := ⟨gm_t3 (List.mem_of_getElem? (i := 14) (by decide +kernel)) rfl, gm_t3 (List.mem_of_getElem? (i := 15) (by decide +kernel)) rfl, gm_t1 (List.mem_of_getElem? (i := 4) (by decide +kernel)) rfl, gm_t3 (List.mem_of_getElem? (i := 16) (by decide +kernel)) rfl, by decide +kernel, by decide +kernel, by decide, by decide +kernel, by decide⟩
abbrev YX4_isCloseAcknowledged : gm_Y := (yX4_isCloseAcknowledged, cX4_isCloseAcknowledged, 1, (some .boolean))
theorem mvX4_isCloseAcknowledged : gm_Mv YX4_isCloseAcknowledged 0 := ⟨gm_t3 (List.mem_of_getElem? (i := 152) (by decide +kernel)) rfl, gm_t3 (List.mem_of_getElem? (i := 153) (by decide +kernel)) rfl, gm_t1 (List.mem_of_getElem? (i := 4) (by decide +kernel)) rfl, gm_t3 (List.mem_of_getElem? (i := 154) (by decide +kernel)) rfl, by decide +kernel, by decide +kernel, by decide, by decide +kernel, by decide⟩
abbrev YX4_add : gm_Y := (yX4_add, cX4_add, 4, (some .int))
theorem mvX4_add : gm_Mv YX4_add 2 := ⟨gm_t3 (List.mem_of_getElem? (i := 5) (by decide +kernel)) rfl, gm_t3 (List.mem_of_getElem? (i := 6) (by decide +kernel)) rfl, gm_t1 (List.mem_of_getElem? (i := 4) (by decide +kernel)) rfl, gm_t3 (List.mem_of_getElem? (i := 7) (by decide +kernel)) rfl, by decide +kernel, by decide +kernel, by decide, by decide +kernel, by decide⟩
abbrev YX4_acknowledge : gm_Y := (yX4_acknowledge, cX4_acknowledge, 4, none)
theorem mvX4_acknowledge : gm_Mv YX4_acknowledge 1 := ⟨gm_t3 (List.mem_of_getElem? (i := 133) (by decide +kernel)) rfl, gm_t3 (List.mem_of_getElem? (i := 134) (by decide +kernel)) rfl, gm_t1 (List.mem_of_getElem? (i := 4) (by decide +kernel)) rfl, gm_t3 (List.mem_of_getElem? (i := 135) (by decide +kernel)) rfl, by decide +kernel, by decide +kernel, by decide, by decide +kernel, by decide⟩
abbrev YX4_forgetSent : gm_Y := (yX4_forgetSent, cX4_forgetSent, 2, none)
theorem mvX4_forgetSent : gm_Mv YX4_forgetSent 0 := ⟨gm_t3 (List.mem_of_getElem? (i := 175) (by decide +kernel)) rfl, gm_t3 (List.mem_of_getElem? (i := 176) (by decide +kernel)) rfl, gm_t1 (List.mem_of_getElem? (i := 4) (by decide +kernel)) rfl, gm_t3 (List.mem_of_getElem? (i := 177) (by decide +kernel)) rfl, by decide +kernel, by decide +kernel, by decide, by decide +kernel, by decide⟩
abbrev YX4_forgetSentUntil : gm_Y := (yX4_forgetSentUntil, cX4_forgetSentUntil, 3, none)
theorem mvX4_forgetSentUntil : gm_Mv YX4_forgetSentUntil 1 := ⟨gm_t3 (List.mem_of_getElem? (i := 211) (by decide +kernel)) rfl, gm_t3 (List.mem_of_getElem? (i := 212) (by decide +kernel)) rfl, gm_t1 (List.mem_of_getElem? (i := 4) (by decide +kernel)) rfl, gm_t3 (List.mem_of_getElem? (i := 213) (by decide +kernel)) rfl, by decide +kernel, by decide +kernel, by decide, by decide +kernel, by decide⟩
abbrev YX4_part : gm_Y := (yX4_part, cX4_part, 3, (some .int))
theorem mvX4_part : gm_Mv YX4_part 2 := ⟨gm_t4 (List.mem_of_getElem? (i := 18) (by decide +kernel)) rfl, gm_t4 (List.mem_of_getElem? (i := 19) (by decide +kernel)) rfl, gm_t1 (List.mem_of_getElem? (i := 4) (by decide +kernel)) rfl, gm_t4 (List.mem_of_getElem? (i := 20) (by decide +kernel)) rfl, by decide +kernel, by decide +kernel, by decide, by decide +kernel, by decide⟩
abbrev YX5_init : gm_Y := (yX5_init, cX5_init, 1, none)
abbrev YX5_fill : gm_Y := (yX5_fill, cX5_fill, 6, none)
theorem mvX5_fill : gm_Mv YX5_fill 5 := ⟨gm_t2 (List.mem_of_getElem? (i := 204) (by decide +kernel)) rfl, gm_t2 (List.mem_of_getElem? (i := 205) (by decide +kernel)) rfl, gm_t1 (List.mem_of_getElem? (i := 8) (by decide +kernel)) rfl, gm_t2 (List.mem_of_getElem? (i := 206) (by decide +kernel)) rfl, by decide +kernel, by decide +kernel, by decide, by decide +kernel, by decide⟩
abbrev YX5_copyFrom : gm_Y := (yX5_copyFrom, cX5_copyFrom, 2, none)
theorem mvX5_copyFrom : gm_Mv YX5_copyFrom 1 := ⟨gm_t3 (List.mem_of_getElem? (i := 40) (by decide +kernel)) rfl, gm_t3 (List.mem_of_getElem? (i := 41) (by decide +kernel)) rfl, gm_t1 (List.mem_of_getElem? (i := 8) (by decide +kernel)) rfl, gm_t3 (List.mem_of_getElem? (i := 42) (by decide +kernel)) rfl, by decide +kernel, by decide +kernel, by decide, by decide +kernel, by decide⟩
abbrev YX5_isProtected : gm_Y := (yX5_isProtected, cX5_isProtected, 1, (some .boolean))
theorem mvX5_isProtected : gm_Mv YX5_isProtected 0 := ⟨gm_t3 (List.mem_of_getElem? (i := 68) (by decide +kernel)) rfl, gm_t3 (List.mem_of_getElem? (i := 69) (by decide +kernel)) rfl, gm_t1 (List.mem_of_getElem? (i := 8) (by decide +kernel)) rfl, gm_t3 (List.mem_of_getElem? (i := 70) (by decide +kernel)) rfl, by decide +kernel, by decide +kernel, by decide, by decide +kernel, by decide⟩
abbrev YX5_bringsMessage : gm_Y := (yX5_bringsMessage, cX5_bringsMessage, 1, (some .boolean))
theorem mvX5_bringsMessage : gm_Mv YX5_bringsMessage 0 := ⟨gm_t3 (List.mem_of_getElem? (i := 92) (by decide +kernel)) rfl, gm_t3 (List.mem_of_getElem? (i := 93) (by decide +kernel)) rfl, gm_t1 (List.mem_of_getElem? (i := 8) (by decide +kernel)) rfl, gm_t3 (List.mem_of_getElem? (i := 94) (by decide +kernel)) rfl, by decide +kernel, by decide +kernel, by decide, by decide +kernel, by decide⟩
abbrev YX5_part : gm_Y := (yX5_part, cX5_part, 2, (some .int))
theorem mvX5_part : gm_Mv YX5_part 1 := ⟨gm_t3 (List.mem_of_getElem? (i := 219) (by decide +kernel)) rfl, gm_t3 (List.mem_of_getElem? (i := 220) (by decide +kernel)) rfl, gm_t1 (List.mem_of_getElem? (i := 8) (by decide +kernel)) rfl, gm_t3 (List.mem_of_getElem? (i := 221) (by decide +kernel)) rfl, by decide +kernel, by decide +kernel, by decide, by decide +kernel, by decide⟩
abbrev YX6_init : gm_Y := (yX6_init, cX6_init, 1, none)
abbrev YX6_extend : gm_Y := (yX6_extend, cX6_extend, 4, none)
theorem mvX6_extend : gm_Mv YX6_extend 2 := ⟨gm_t4 (List.mem_of_getElem? (i := 54) (by decide +kernel)) rfl, gm_t4 (List.mem_of_getElem? (i := 55) (by decide +kernel)) rfl, gm_t1 (List.mem_of_getElem? (i := 11) (by decide +kernel)) rfl, gm_t4 (List.mem_of_getElem? (i := 56) (by decide +kernel)) rfl, by decide +kernel, by decide +kernel, by decide, by decide +kernel, by decide⟩
abbrev YX6_parse : gm_Y := (yX6_parse, cX6_parse, 2, (some .boolean))
theorem mvX6_parse : gm_Mv YX6_parse 0 := ⟨gm_t4 (List.mem_of_getElem? (i := 62) (by decide +kernel)) rfl, gm_t4 (List.mem_of_getElem? (i := 63) (by decide +kernel)) rfl, gm_t1 (List.mem_of_getElem? (i := 11) (by decide +kernel)) rfl, gm_t4 (List.mem_of_getElem? (i := 64) (by decide +kernel)) rfl, by decide +kernel, by decide +kernel, by decide, by decide +kernel, by decide⟩
abbrev YX6_readAction : gm_Y := (yX6_readAction, cX6_readAction, 4, (some .boolean))
theorem mvX6_readAction : gm_Mv YX6_readAction 0 := ⟨gm_t4 (List.mem_of_getElem? (i := 66) (by decide +kernel)) rfl, gm_t4 (List.mem_of_getElem? (i := 67) (by decide +kernel)) rfl, gm_t1 (List.mem_of_getElem? (i := 11) (by decide +kernel)) rfl, gm_t4 (List.mem_of_getElem? (i := 68) (by decide +kernel)) rfl, by decide +kernel, by decide +kernel, by decide, by decide +kernel, by decide⟩
abbrev YX6_readNumber : gm_Y := (yX6_readNumber, cX6_readNumber, 2, (some .int))
theorem mvX6_readNumber : gm_Mv YX6_readNumber 0 := ⟨gm_t4 (List.mem_of_getElem? (i := 82) (by decide +kernel)) rfl, gm_t4 (List.mem_of_getElem? (i := 83) (by decide +kernel)) rfl, gm_t1 (List.mem_of_getElem? (i := 11) (by decide +kernel)) rfl, gm_t4 (List.mem_of_getElem? (i := 84) (by decide +kernel)) rfl, by decide +kernel, by decide +kernel, by decide, by decide +kernel, by decide⟩
abbrev YX6_readDigit : gm_Y := (yX6_readDigit, cX6_readDigit, 2, (some .int))
theorem mvX6_readDigit : gm_Mv YX6_readDigit 0 := ⟨gm_t4 (List.mem_of_getElem? (i := 74) (by decide +kernel)) rfl, gm_t4 (List.mem_of_getElem? (i := 75) (by decide +kernel)) rfl, gm_t1 (List.mem_of_getElem? (i := 11) (by decide +kernel)) rfl, gm_t4 (List.mem_of_getElem? (i := 76) (by decide +kernel)) rfl, by decide +kernel, by decide +kernel, by decide, by decide +kernel, by decide⟩
abbrev YX6_isDigit : gm_Y := (yX6_isDigit, cX6_isDigit, 1, (some .boolean))
theorem mvX6_isDigit : gm_Mv YX6_isDigit 0 := ⟨gm_t4 (List.mem_of_getElem? (i := 78) (by decide +kernel)) rfl, gm_t4 (List.mem_of_getElem? (i := 79) (by decide +kernel)) rfl, gm_t1 (List.mem_of_getElem? (i := 11) (by decide +kernel)) rfl, gm_t4 (List.mem_of_getElem? (i := 80) (by decide +kernel)) rfl, by decide +kernel, by decide +kernel, by decide, by decide +kernel, by decide⟩
abbrev YX6_here : gm_Y := (yX6_here, cX6_here, 1, (some .int))
theorem mvX6_here : gm_Mv YX6_here 0 := ⟨gm_t4 (List.mem_of_getElem? (i := 70) (by decide +kernel)) rfl, gm_t4 (List.mem_of_getElem? (i := 71) (by decide +kernel)) rfl, gm_t1 (List.mem_of_getElem? (i := 11) (by decide +kernel)) rfl, gm_t4 (List.mem_of_getElem? (i := 72) (by decide +kernel)) rfl, by decide +kernel, by decide +kernel, by decide, by decide +kernel, by decide⟩
abbrev YX6_addAction : gm_Y := (yX6_addAction, cX6_addAction, 4, none)
theorem mvX6_addAction : gm_Mv YX6_addAction 3 := ⟨gm_t4 (List.mem_of_getElem? (i := 86) (by decide +kernel)) rfl, gm_t4 (List.mem_of_getElem? (i := 87) (by decide +kernel)) rfl, gm_t1 (List.mem_of_getElem? (i := 11) (by decide +kernel)) rfl, gm_t4 (List.mem_of_getElem? (i := 88) (by decide +kernel)) rfl, by decide +kernel, by decide +kernel, by decide, by decide +kernel, by decide⟩
abbrev YX7_init : gm_Y := (yX7_init, cX7_init, 1, none)
abbrev YX7_copyFrom : gm_Y := (yX7_copyFrom, cX7_copyFrom, 3, none)
theorem mvX7_copyFrom : gm_Mv YX7_copyFrom 1 := ⟨gm_t4 (List.mem_of_getElem? (i := 128) (by decide +kernel)) rfl, gm_t4 (List.mem_of_getElem? (i := 129) (by decide +kernel)) rfl, gm_t1 (List.mem_of_getElem? (i := 9) (by decide +kernel)) rfl, gm_t4 (List.mem_of_getElem? (i := 130) (by decide +kernel)) rfl, by decide +kernel, by decide +kernel, by decide, by decide +kernel, by decide⟩
abbrev YX7_isIssued : gm_Y := (yX7_isIssued, cX7_isIssued, 2, (some .boolean))
theorem mvX7_isIssued : gm_Mv YX7_isIssued 1 := ⟨gm_t3 (List.mem_of_getElem? (i := 64) (by decide +kernel)) rfl, gm_t3 (List.mem_of_getElem? (i := 65) (by decide +kernel)) rfl, gm_t1 (List.mem_of_getElem? (i := 9) (by decide +kernel)) rfl, gm_t3 (List.mem_of_getElem? (i := 66) (by decide +kernel)) rfl, by decide +kernel, by decide +kernel, by decide, by decide +kernel, by decide⟩
abbrev YX7_isValid : gm_Y := (yX7_isValid, cX7_isValid, 4, (some .boolean))
theorem mvX7_isValid : gm_Mv YX7_isValid 3 := ⟨gm_t3 (List.mem_of_getElem? (i := 60) (by decide +kernel)) rfl, gm_t3 (List.mem_of_getElem? (i := 61) (by decide +kernel)) rfl, gm_t1 (List.mem_of_getElem? (i := 9) (by decide +kernel)) rfl, gm_t3 (List.mem_of_getElem? (i := 62) (by decide +kernel)) rfl, by decide +kernel, by decide +kernel, by decide, by decide +kernel, by decide⟩
abbrev YX7_issue : gm_Y := (yX7_issue, cX7_issue, 3, (some .int))
theorem mvX7_issue : gm_Mv YX7_issue 1 := ⟨gm_t3 (List.mem_of_getElem? (i := 129) (by decide +kernel)) rfl, gm_t3 (List.mem_of_getElem? (i := 130) (by decide +kernel)) rfl, gm_t1 (List.mem_of_getElem? (i := 9) (by decide +kernel)) rfl, gm_t3 (List.mem_of_getElem? (i := 131) (by decide +kernel)) rfl, by decide +kernel, by decide +kernel, by decide, by decide +kernel, by decide⟩
abbrev YX7_use : gm_Y := (yX7_use, cX7_use, 2, none)
theorem mvX7_use : gm_Mv YX7_use 1 := ⟨gm_t3 (List.mem_of_getElem? (i := 164) (by decide +kernel)) rfl, gm_t3 (List.mem_of_getElem? (i := 165) (by decide +kernel)) rfl, gm_t1 (List.mem_of_getElem? (i := 9) (by decide +kernel)) rfl, gm_t3 (List.mem_of_getElem? (i := 166) (by decide +kernel)) rfl, by decide +kernel, by decide +kernel, by decide, by decide +kernel, by decide⟩
abbrev YX8_init : gm_Y := (yX8_init, cX8_init, 1, none)
abbrev YX8_clear : gm_Y := (yX8_clear, cX8_clear, 1, none)
theorem mvX8_clear : gm_Mv YX8_clear 0 := ⟨gm_t3 (List.mem_of_getElem? (i := 116) (by decide +kernel)) rfl, gm_t3 (List.mem_of_getElem? (i := 117) (by decide +kernel)) rfl, gm_t1 (List.mem_of_getElem? (i := 6) (by decide +kernel)) rfl, gm_t3 (List.mem_of_getElem? (i := 118) (by decide +kernel)) rfl, by decide +kernel, by decide +kernel, by decide, by decide +kernel, by decide⟩
abbrev YX8_copyFrom : gm_Y := (yX8_copyFrom, cX8_copyFrom, 2, none)
theorem mvX8_copyFrom : gm_Mv YX8_copyFrom 1 := ⟨gm_t3 (List.mem_of_getElem? (i := 112) (by decide +kernel)) rfl, gm_t3 (List.mem_of_getElem? (i := 113) (by decide +kernel)) rfl, gm_t1 (List.mem_of_getElem? (i := 6) (by decide +kernel)) rfl, gm_t3 (List.mem_of_getElem? (i := 114) (by decide +kernel)) rfl, by decide +kernel, by decide +kernel, by decide, by decide +kernel, by decide⟩
abbrev YX8_isBehind : gm_Y := (yX8_isBehind, cX8_isBehind, 2, (some .boolean))
theorem mvX8_isBehind : gm_Mv YX8_isBehind 1 := ⟨gm_t3 (List.mem_of_getElem? (i := 84) (by decide +kernel)) rfl, gm_t3 (List.mem_of_getElem? (i := 85) (by decide +kernel)) rfl, gm_t1 (List.mem_of_getElem? (i := 6) (by decide +kernel)) rfl, gm_t3 (List.mem_of_getElem? (i := 86) (by decide +kernel)) rfl, by decide +kernel, by decide +kernel, by decide, by decide +kernel, by decide⟩
abbrev YX8_holds : gm_Y := (yX8_holds, cX8_holds, 3, (some .boolean))
theorem mvX8_holds : gm_Mv YX8_holds 1 := ⟨gm_t3 (List.mem_of_getElem? (i := 88) (by decide +kernel)) rfl, gm_t3 (List.mem_of_getElem? (i := 89) (by decide +kernel)) rfl, gm_t1 (List.mem_of_getElem? (i := 6) (by decide +kernel)) rfl, gm_t3 (List.mem_of_getElem? (i := 90) (by decide +kernel)) rfl, by decide +kernel, by decide +kernel, by decide, by decide +kernel, by decide⟩
abbrev YX8_enter : gm_Y := (yX8_enter, cX8_enter, 3, none)
theorem mvX8_enter : gm_Mv YX8_enter 1 := ⟨gm_t3 (List.mem_of_getElem? (i := 121) (by decide +kernel)) rfl, gm_t3 (List.mem_of_getElem? (i := 122) (by decide +kernel)) rfl, gm_t1 (List.mem_of_getElem? (i := 6) (by decide +kernel)) rfl, gm_t3 (List.mem_of_getElem? (i := 123) (by decide +kernel)) rfl, by decide +kernel, by decide +kernel, by decide, by decide +kernel, by decide⟩
abbrev YX8_asNumber : gm_Y := (yX8_asNumber, cX8_asNumber, 1, (some .int))
theorem mvX8_asNumber : gm_Mv YX8_asNumber 0 := ⟨gm_t4 (List.mem_of_getElem? (i := 1) (by decide +kernel)) rfl, gm_t4 (List.mem_of_getElem? (i := 2) (by decide +kernel)) rfl, gm_t1 (List.mem_of_getElem? (i := 6) (by decide +kernel)) rfl, gm_t4 (List.mem_of_getElem? (i := 3) (by decide +kernel)) rfl, by decide +kernel, by decide +kernel, by decide, by decide +kernel, by decide⟩
abbrev YX9_init : gm_Y := (yX9_init, cX9_init, 1, none)
abbrev YX9_copyFrom : gm_Y := (yX9_copyFrom, cX9_copyFrom, 2, none)
theorem mvX9_copyFrom : gm_Mv YX9_copyFrom 1 := ⟨gm_t4 (List.mem_of_getElem? (i := 102) (by decide +kernel)) rfl, gm_t4 (List.mem_of_getElem? (i := 103) (by decide +kernel)) rfl, gm_t1 (List.mem_of_getElem? (i := 2) (by decide +kernel)) rfl, gm_t4 (List.mem_of_getElem? (i := 104) (by decide +kernel)) rfl, by decide +kernel, by decide +kernel, by decide, by decide +kernel, by decide⟩
abbrev YX10_init : gm_Y := (yX10_init, cX10_init, 1, none)
abbrev YX10_configure : gm_Y := (yX10_configure, cX10_configure, 5, (some .int))
theorem mvX10_configure : gm_Mv YX10_configure 3 := ⟨gm_t2 (List.mem_of_getElem? (i := 149) (by decide +kernel)) rfl, gm_t2 (List.mem_of_getElem? (i := 150) (by decide +kernel)) rfl, gm_t1 (List.mem_of_getElem? (i := 1) (by decide +kernel)) rfl, gm_t2 (List.mem_of_getElem? (i := 151) (by decide +kernel)) rfl, by decide +kernel, by decide +kernel, by decide, by decide +kernel, by decide⟩
abbrev YX10_connect : gm_Y := (yX10_connect, cX10_connect, 3, (some .int))
theorem mvX10_connect : gm_Mv YX10_connect 1 := ⟨gm_t2 (List.mem_of_getElem? (i := 154) (by decide +kernel)) rfl, gm_t2 (List.mem_of_getElem? (i := 155) (by decide +kernel)) rfl, gm_t1 (List.mem_of_getElem? (i := 1) (by decide +kernel)) rfl, gm_t2 (List.mem_of_getElem? (i := 156) (by decide +kernel)) rfl, by decide +kernel, by decide +kernel, by decide, by decide +kernel, by decide⟩
abbrev YX10_resume : gm_Y := (yX10_resume, cX10_resume, 4, (some .int))
theorem mvX10_resume : gm_Mv YX10_resume 1 := ⟨gm_t2 (List.mem_of_getElem? (i := 212) (by decide +kernel)) rfl, gm_t2 (List.mem_of_getElem? (i := 213) (by decide +kernel)) rfl, gm_t1 (List.mem_of_getElem? (i := 1) (by decide +kernel)) rfl, gm_t2 (List.mem_of_getElem? (i := 214) (by decide +kernel)) rfl, by decide +kernel, by decide +kernel, by decide, by decide +kernel, by decide⟩
abbrev YX10_disconnect : gm_Y := (yX10_disconnect, cX10_disconnect, 2, (some .int))
theorem mvX10_disconnect : gm_Mv YX10_disconnect 0 := ⟨gm_t2 (List.mem_of_getElem? (i := 217) (by decide +kernel)) rfl, gm_t2 (List.mem_of_getElem? (i := 218) (by decide +kernel)) rfl, gm_t1 (List.mem_of_getElem? (i := 1) (by decide +kernel)) rfl, gm_t2 (List.mem_of_getElem? (i := 219) (by decide +kernel)) rfl, by decide +kernel, by decide +kernel, by decide, by decide +kernel, by decide⟩
abbrev YX10_send : gm_Y := (yX10_send, cX10_send, 3, (some .int))
theorem mvX10_send : gm_Mv YX10_send 2 := ⟨gm_t2 (List.mem_of_getElem? (i := 226) (by decide +kernel)) rfl, gm_t2 (List.mem_of_getElem? (i := 227) (by decide +kernel)) rfl, gm_t1 (List.mem_of_getElem? (i := 1) (by decide +kernel)) rfl, gm_t2 (List.mem_of_getElem? (i := 228) (by decide +kernel)) rfl, by decide +kernel, by decide +kernel, by decide, by decide +kernel, by decide⟩
abbrev YX10_close : gm_Y := (yX10_close, cX10_close, 2, (some .int))
theorem mvX10_close : gm_Mv YX10_close 1 := ⟨gm_t3 (List.mem_of_getElem? (i := 28) (by decide +kernel)) rfl, gm_t3 (List.mem_of_getElem? (i := 29) (by decide +kernel)) rfl, gm_t1 (List.mem_of_getElem? (i := 1) (by decide +kernel)) rfl, gm_t3 (List.mem_of_getElem? (i := 30) (by decide +kernel)) rfl, by decide +kernel, by decide +kernel, by decide, by decide +kernel, by decide⟩
abbrev YX10_deliver : gm_Y := (yX10_deliver, cX10_deliver, 5, (some .int))
theorem mvX10_deliver : gm_Mv YX10_deliver 1 := ⟨gm_t3 (List.mem_of_getElem? (i := 32) (by decide +kernel)) rfl, gm_t3 (List.mem_of_getElem? (i := 33) (by decide +kernel)) rfl, gm_t1 (List.mem_of_getElem? (i := 1) (by decide +kernel)) rfl, gm_t3 (List.mem_of_getElem? (i := 34) (by decide +kernel)) rfl, by decide +kernel, by decide +kernel, by decide, by decide +kernel, by decide⟩
abbrev YX10_foresee : gm_Y := (yX10_foresee, cX10_foresee, 3, (some .int))
theorem mvX10_foresee : gm_Mv YX10_foresee 1 := ⟨gm_t3 (List.mem_of_getElem? (i := 183) (by decide +kernel)) rfl, gm_t3 (List.mem_of_getElem? (i := 184) (by decide +kernel)) rfl, gm_t1 (List.mem_of_getElem? (i := 1) (by decide +kernel)) rfl, gm_t3 (List.mem_of_getElem? (i := 185) (by decide +kernel)) rfl, by decide +kernel, by decide +kernel, by decide, by decide +kernel, by decide⟩
abbrev YX10_drop : gm_Y := (yX10_drop, cX10_drop, 3, (some .int))
theorem mvX10_drop : gm_Mv YX10_drop 1 := ⟨gm_t3 (List.mem_of_getElem? (i := 187) (by decide +kernel)) rfl, gm_t3 (List.mem_of_getElem? (i := 188) (by decide +kernel)) rfl, gm_t1 (List.mem_of_getElem? (i := 1) (by decide +kernel)) rfl, gm_t3 (List.mem_of_getElem? (i := 189) (by decide +kernel)) rfl, by decide +kernel, by decide +kernel, by decide, by decide +kernel, by decide⟩
abbrev YX10_repeat : gm_Y := (yX10_repeat, cX10_repeat, 4, (some .int))
theorem mvX10_repeat : gm_Mv YX10_repeat 1 := ⟨gm_t3 (List.mem_of_getElem? (i := 191) (by decide +kernel)) rfl, gm_t3 (List.mem_of_getElem? (i := 192) (by decide +kernel)) rfl, gm_t1 (List.mem_of_getElem? (i := 1) (by decide +kernel)) rfl, gm_t3 (List.mem_of_getElem? (i := 193) (by decide +kernel)) rfl, by decide +kernel, by decide +kernel, by decide, by decide +kernel, by decide⟩
abbrev YX10_alter : gm_Y := (yX10_alter, cX10_alter, 4, (some .int))
theorem mvX10_alter : gm_Mv YX10_alter 2 := ⟨gm_t3 (List.mem_of_getElem? (i := 195) (by decide +kernel)) rfl, gm_t3 (List.mem_of_getElem? (i := 196) (by decide +kernel)) rfl, gm_t1 (List.mem_of_getElem? (i := 1) (by decide +kernel)) rfl, gm_t3 (List.mem_of_getElem? (i := 197) (by decide +kernel)) rfl, by decide +kernel, by decide +kernel, by decide, by decide +kernel, by decide⟩
abbrev YX10_tick : gm_Y := (yX10_tick, cX10_tick, 3, (some .int))
theorem mvX10_tick : gm_Mv YX10_tick 1 := ⟨gm_t3 (List.mem_of_getElem? (i := 199) (by decide +kernel)) rfl, gm_t3 (List.mem_of_getElem? (i := 200) (by decide +kernel)) rfl, gm_t1 (List.mem_of_getElem? (i := 1) (by decide +kernel)) rfl, gm_t3 (List.mem_of_getElem? (i := 201) (by decide +kernel)) rfl, by decide +kernel, by decide +kernel, by decide, by decide +kernel, by decide⟩
abbrev YX10_packet : gm_Y := (yX10_packet, cX10_packet, 4, (some .int))
theorem mvX10_packet : gm_Mv YX10_packet 2 := ⟨gm_t3 (List.mem_of_getElem? (i := 215) (by decide +kernel)) rfl, gm_t3 (List.mem_of_getElem? (i := 216) (by decide +kernel)) rfl, gm_t1 (List.mem_of_getElem? (i := 1) (by decide +kernel)) rfl, gm_t3 (List.mem_of_getElem? (i := 217) (by decide +kernel)) rfl, by decide +kernel, by decide +kernel, by decide, by decide +kernel, by decide⟩
abbrev YX10_endpoint : gm_Y := (yX10_endpoint, cX10_endpoint, 3, (some .int))
theorem mvX10_endpoint : gm_Mv YX10_endpoint 2 := ⟨gm_t3 (List.mem_of_getElem? (i := 224) (by decide +kernel)) rfl, gm_t3 (List.mem_of_getElem? (i := 225) (by decide +kernel)) rfl, gm_t1 (List.mem_of_getElem? (i := 1) (by decide +kernel)) rfl, gm_t3 (List.mem_of_getElem? (i := 226) (by decide +kernel)) rfl, by decide +kernel, by decide +kernel, by decide, by decide +kernel, by decide⟩
abbrev YX10_window : gm_Y := (yX10_window, cX10_window, 4, (some .int))
theorem mvX10_window : gm_Mv YX10_window 2 := ⟨gm_t3 (List.mem_of_getElem? (i := 237) (by decide +kernel)) rfl, gm_t3 (List.mem_of_getElem? (i := 238) (by decide +kernel)) rfl, gm_t1 (List.mem_of_getElem? (i := 1) (by decide +kernel)) rfl, gm_t3 (List.mem_of_getElem? (i := 239) (by decide +kernel)) rfl, by decide +kernel, by decide +kernel, by decide, by decide +kernel, by decide⟩
abbrev YX10_taken : gm_Y := (yX10_taken, cX10_taken, 3, (some .int))
theorem mvX10_taken : gm_Mv YX10_taken 2 := ⟨gm_t4 (List.mem_of_getElem? (i := 5) (by decide +kernel)) rfl, gm_t4 (List.mem_of_getElem? (i := 6) (by decide +kernel)) rfl, gm_t1 (List.mem_of_getElem? (i := 1) (by decide +kernel)) rfl, gm_t4 (List.mem_of_getElem? (i := 7) (by decide +kernel)) rfl, by decide +kernel, by decide +kernel, by decide, by decide +kernel, by decide⟩
abbrev YX10_kept : gm_Y := (yX10_kept, cX10_kept, 4, (some .int))
theorem mvX10_kept : gm_Mv YX10_kept 3 := ⟨gm_t4 (List.mem_of_getElem? (i := 14) (by decide +kernel)) rfl, gm_t4 (List.mem_of_getElem? (i := 15) (by decide +kernel)) rfl, gm_t1 (List.mem_of_getElem? (i := 1) (by decide +kernel)) rfl, gm_t4 (List.mem_of_getElem? (i := 16) (by decide +kernel)) rfl, by decide +kernel, by decide +kernel, by decide, by decide +kernel, by decide⟩
abbrev YX10_results : gm_Y := (yX10_results, cX10_results, 3, (some .int))
theorem mvX10_results : gm_Mv YX10_results 2 := ⟨gm_t4 (List.mem_of_getElem? (i := 25) (by decide +kernel)) rfl, gm_t4 (List.mem_of_getElem? (i := 26) (by decide +kernel)) rfl, gm_t1 (List.mem_of_getElem? (i := 1) (by decide +kernel)) rfl, gm_t4 (List.mem_of_getElem? (i := 27) (by decide +kernel)) rfl, by decide +kernel, by decide +kernel, by decide, by decide +kernel, by decide⟩
abbrev YX10_count : gm_Y := (yX10_count, cX10_count, 2, (some .int))
theorem mvX10_count : gm_Mv YX10_count 1 := ⟨gm_t4 (List.mem_of_getElem? (i := 29) (by decide +kernel)) rfl, gm_t4 (List.mem_of_getElem? (i := 30) (by decide +kernel)) rfl, gm_t1 (List.mem_of_getElem? (i := 1) (by decide +kernel)) rfl, gm_t4 (List.mem_of_getElem? (i := 31) (by decide +kernel)) rfl, by decide +kernel, by decide +kernel, by decide, by decide +kernel, by decide⟩
abbrev YX10_event : gm_Y := (yX10_event, cX10_event, 3, (some .int))
theorem mvX10_event : gm_Mv YX10_event 2 := ⟨gm_t4 (List.mem_of_getElem? (i := 33) (by decide +kernel)) rfl, gm_t4 (List.mem_of_getElem? (i := 34) (by decide +kernel)) rfl, gm_t1 (List.mem_of_getElem? (i := 1) (by decide +kernel)) rfl, gm_t4 (List.mem_of_getElem? (i := 35) (by decide +kernel)) rfl, by decide +kernel, by decide +kernel, by decide, by decide +kernel, by decide⟩
abbrev YX10_agree : gm_Y := (yX10_agree, cX10_agree, 4, (some .int))
theorem mvX10_agree : gm_Mv YX10_agree 0 := ⟨gm_t4 (List.mem_of_getElem? (i := 46) (by decide +kernel)) rfl, gm_t4 (List.mem_of_getElem? (i := 47) (by decide +kernel)) rfl, gm_t1 (List.mem_of_getElem? (i := 1) (by decide +kernel)) rfl, gm_t4 (List.mem_of_getElem? (i := 48) (by decide +kernel)) rfl, by decide +kernel, by decide +kernel, by decide, by decide +kernel, by decide⟩
abbrev YX10_append : gm_Y := (yX10_append, cX10_append, 3, (some .int))
theorem mvX10_append : gm_Mv YX10_append 2 := ⟨gm_t4 (List.mem_of_getElem? (i := 50) (by decide +kernel)) rfl, gm_t4 (List.mem_of_getElem? (i := 51) (by decide +kernel)) rfl, gm_t1 (List.mem_of_getElem? (i := 1) (by decide +kernel)) rfl, gm_t4 (List.mem_of_getElem? (i := 52) (by decide +kernel)) rfl, by decide +kernel, by decide +kernel, by decide, by decide +kernel, by decide⟩
abbrev YX10_runScript : gm_Y := (yX10_runScript, cX10_runScript, 5, (some .int))
theorem mvX10_runScript : gm_Mv YX10_runScript 0 := ⟨gm_t4 (List.mem_of_getElem? (i := 58) (by decide +kernel)) rfl, gm_t4 (List.mem_of_getElem? (i := 59) (by decide +kernel)) rfl, gm_t1 (List.mem_of_getElem? (i := 1) (by decide +kernel)) rfl, gm_t4 (List.mem_of_getElem? (i := 60) (by decide +kernel)) rfl, by decide +kernel, by decide +kernel, by decide, by decide +kernel, by decide⟩
abbrev YX10_save : gm_Y := (yX10_save, cX10_save, 1, (some .int))
theorem mvX10_save : gm_Mv YX10_save 0 := ⟨gm_t4 (List.mem_of_getElem? (i := 98) (by decide +kernel)) rfl, gm_t4 (List.mem_of_getElem? (i := 99) (by decide +kernel)) rfl, gm_t1 (List.mem_of_getElem? (i := 1) (by decide +kernel)) rfl, gm_t4 (List.mem_of_getElem? (i := 100) (by decide +kernel)) rfl, by decide +kernel, by decide +kernel, by decide, by decide +kernel, by decide⟩
abbrev YX10_restore : gm_Y := (yX10_restore, cX10_restore, 1, (some .int))
theorem mvX10_restore : gm_Mv YX10_restore 0 := ⟨gm_t4 (List.mem_of_getElem? (i := 137) (by decide +kernel)) rfl, gm_t4 (List.mem_of_getElem? (i := 138) (by decide +kernel)) rfl, gm_t1 (List.mem_of_getElem? (i := 1) (by decide +kernel)) rfl, gm_t4 (List.mem_of_getElem? (i := 139) (by decide +kernel)) rfl, by decide +kernel, by decide +kernel, by decide, by decide +kernel, by decide⟩
abbrev YX10_isEndpoint : gm_Y := (yX10_isEndpoint, cX10_isEndpoint, 1, (some .boolean))
theorem msX10_isEndpoint : gm_Ms YX10_isEndpoint 1 := ⟨gm_t2 (List.mem_of_getElem? (i := 230) (by decide +kernel)) rfl, gm_t1 (List.mem_of_getElem? (i := 1) (by decide +kernel)) rfl, gm_t2 (List.mem_of_getElem? (i := 231) (by decide +kernel)) rfl, by decide +kernel, by decide +kernel, by decide, by decide +kernel, by decide⟩
abbrev YX10_isError : gm_Y := (yX10_isError, cX10_isError, 1, (some .boolean))
theorem msX10_isError : gm_Ms YX10_isError 1 := ⟨gm_t4 (List.mem_of_getElem? (i := 95) (by decide +kernel)) rfl, gm_t1 (List.mem_of_getElem? (i := 1) (by decide +kernel)) rfl, gm_t4 (List.mem_of_getElem? (i := 96) (by decide +kernel)) rfl, by decide +kernel, by decide +kernel, by decide, by decide +kernel, by decide⟩
abbrev YX10_mix : gm_Y := (yX10_mix, cX10_mix, 3, (some .int))
theorem msX10_mix : gm_Ms YX10_mix 2 := ⟨gm_t3 (List.mem_of_getElem? (i := 25) (by decide +kernel)) rfl, gm_t1 (List.mem_of_getElem? (i := 1) (by decide +kernel)) rfl, gm_t3 (List.mem_of_getElem? (i := 26) (by decide +kernel)) rfl, by decide +kernel, by decide +kernel, by decide, by decide +kernel, by decide⟩
abbrev YX10_baseOf : gm_Y := (yX10_baseOf, cX10_baseOf, 3, (some .int))
theorem msX10_baseOf : gm_Ms YX10_baseOf 3 := ⟨gm_t3 (List.mem_of_getElem? (i := 168) (by decide +kernel)) rfl, gm_t1 (List.mem_of_getElem? (i := 1) (by decide +kernel)) rfl, gm_t3 (List.mem_of_getElem? (i := 169) (by decide +kernel)) rfl, by decide +kernel, by decide +kernel, by decide, by decide +kernel, by decide⟩
abbrev YX10_tagOf : gm_Y := (yX10_tagOf, cX10_tagOf, 4, (some .int))
theorem msX10_tagOf : gm_Ms YX10_tagOf 2 := ⟨gm_t3 (List.mem_of_getElem? (i := 22) (by decide +kernel)) rfl, gm_t1 (List.mem_of_getElem? (i := 1) (by decide +kernel)) rfl, gm_t3 (List.mem_of_getElem? (i := 23) (by decide +kernel)) rfl, by decide +kernel, by decide +kernel, by decide, by decide +kernel, by decide⟩
abbrev YX10_endpointOf : gm_Y := (yX10_endpointOf, cX10_endpointOf, 2, (some (.object RX0)))
theorem mvX10_endpointOf : gm_Mv YX10_endpointOf 1 := ⟨gm_t2 (List.mem_of_getElem? (i := 234) (by decide +kernel)) rfl, gm_tp (List.mem_of_getElem? (i := 6) (by decide +kernel)) rfl, gm_t1 (List.mem_of_getElem? (i := 1) (by decide +kernel)) rfl, gm_t2 (List.mem_of_getElem? (i := 235) (by decide +kernel)) rfl, by decide +kernel, by decide +kernel, by decide, by decide +kernel, by decide⟩
abbrev YX10_changeState : gm_Y := (yX10_changeState, cX10_changeState, 3, none)
theorem mvX10_changeState : gm_Mv YX10_changeState 2 := ⟨gm_t2 (List.mem_of_getElem? (i := 185) (by decide +kernel)) rfl, gm_tp (List.mem_of_getElem? (i := 1) (by decide +kernel)) rfl, gm_t1 (List.mem_of_getElem? (i := 1) (by decide +kernel)) rfl, gm_t2 (List.mem_of_getElem? (i := 186) (by decide +kernel)) rfl, by decide +kernel, by decide +kernel, by decide, by decide +kernel, by decide⟩
abbrev YX10_beginSession : gm_Y := (yX10_beginSession, cX10_beginSession, 4, none)
theorem mvX10_beginSession : gm_Mv YX10_beginSession 2 := ⟨gm_t2 (List.mem_of_getElem? (i := 181) (by decide +kernel)) rfl, gm_tp (List.mem_of_getElem? (i := 0) (by decide +kernel)) rfl, gm_t1 (List.mem_of_getElem? (i := 1) (by decide +kernel)) rfl, gm_t2 (List.mem_of_getElem? (i := 182) (by decide +kernel)) rfl, by decide +kernel, by decide +kernel, by decide, by decide +kernel, by decide⟩
abbrev YX10_breakOff : gm_Y := (yX10_breakOff, cX10_breakOff, 2, none)
theorem mvX10_breakOff : gm_Mv YX10_breakOff 1 := ⟨gm_t2 (List.mem_of_getElem? (i := 222) (by decide +kernel)) rfl, gm_tp (List.mem_of_getElem? (i := 5) (by decide +kernel)) rfl, gm_t1 (List.mem_of_getElem? (i := 1) (by decide +kernel)) rfl, gm_t2 (List.mem_of_getElem? (i := 223) (by decide +kernel)) rfl, by decide +kernel, by decide +kernel, by decide, by decide +kernel, by decide⟩
abbrev YX10_addMessage : gm_Y := (yX10_addMessage, cX10_addMessage, 6, (some .int))
theorem mvX10_addMessage : gm_Mv YX10_addMessage 3 := ⟨gm_t2 (List.mem_of_getElem? (i := 238) (by decide +kernel)) rfl, gm_tp (List.mem_of_getElem? (i := 7) (by decide +kernel)) rfl, gm_t1 (List.mem_of_getElem? (i := 1) (by decide +kernel)) rfl, gm_t2 (List.mem_of_getElem? (i := 239) (by decide +kernel)) rfl, by decide +kernel, by decide +kernel, by decide, by decide +kernel, by decide⟩
abbrev YX10_sendHello : gm_Y := (yX10_sendHello, cX10_sendHello, 2, none)
theorem mvX10_sendHello : gm_Mv YX10_sendHello 0 := ⟨gm_t2 (List.mem_of_getElem? (i := 193) (by decide +kernel)) rfl, gm_tp (List.mem_of_getElem? (i := 2) (by decide +kernel)) rfl, gm_t1 (List.mem_of_getElem? (i := 1) (by decide +kernel)) rfl, gm_t2 (List.mem_of_getElem? (i := 194) (by decide +kernel)) rfl, by decide +kernel, by decide +kernel, by decide, by decide +kernel, by decide⟩
abbrev YX10_sendPlain : gm_Y := (yX10_sendPlain, cX10_sendPlain, 7, (some .boolean))
theorem mvX10_sendPlain : gm_Mv YX10_sendPlain 5 := ⟨gm_t2 (List.mem_of_getElem? (i := 197) (by decide +kernel)) rfl, gm_tp (List.mem_of_getElem? (i := 3) (by decide +kernel)) rfl, gm_t1 (List.mem_of_getElem? (i := 1) (by decide +kernel)) rfl, gm_t2 (List.mem_of_getElem? (i := 198) (by decide +kernel)) rfl, by decide +kernel, by decide +kernel, by decide, by decide +kernel, by decide⟩
abbrev YX10_sendProtected : gm_Y := (yX10_sendProtected, cX10_sendProtected, 6, (some .boolean))
theorem mvX10_sendProtected : gm_Mv YX10_sendProtected 4 := ⟨gm_t3 (List.mem_of_getElem? (i := 19) (by decide +kernel)) rfl, gm_tp (List.mem_of_getElem? (i := 9) (by decide +kernel)) rfl, gm_t1 (List.mem_of_getElem? (i := 1) (by decide +kernel)) rfl, gm_t3 (List.mem_of_getElem? (i := 20) (by decide +kernel)) rfl, by decide +kernel, by decide +kernel, by decide, by decide +kernel, by decide⟩
abbrev YX10_noteSent : gm_Y := (yX10_noteSent, cX10_noteSent, 2, none)
theorem mvX10_noteSent : gm_Mv YX10_noteSent 1 := ⟨gm_t2 (List.mem_of_getElem? (i := 209) (by decide +kernel)) rfl, gm_tp (List.mem_of_getElem? (i := 4) (by decide +kernel)) rfl, gm_t1 (List.mem_of_getElem? (i := 1) (by decide +kernel)) rfl, gm_t2 (List.mem_of_getElem? (i := 210) (by decide +kernel)) rfl, by decide +kernel, by decide +kernel, by decide, by decide +kernel, by decide⟩
abbrev YX10_sendDue : gm_Y := (yX10_sendDue, cX10_sendDue, 5, none)
theorem mvX10_sendDue : gm_Mv YX10_sendDue 1 := ⟨gm_t3 (List.mem_of_getElem? (i := 11) (by decide +kernel)) rfl, gm_tp (List.mem_of_getElem? (i := 8) (by decide +kernel)) rfl, gm_t1 (List.mem_of_getElem? (i := 1) (by decide +kernel)) rfl, gm_t3 (List.mem_of_getElem? (i := 12) (by decide +kernel)) rfl, by decide +kernel, by decide +kernel, by decide, by decide +kernel, by decide⟩
abbrev YX10_repeatHello : gm_Y := (yX10_repeatHello, cX10_repeatHello, 2, none)
theorem mvX10_repeatHello : gm_Mv YX10_repeatHello 0 := ⟨gm_t3 (List.mem_of_getElem? (i := 204) (by decide +kernel)) rfl, gm_tp (List.mem_of_getElem? (i := 18) (by decide +kernel)) rfl, gm_t1 (List.mem_of_getElem? (i := 1) (by decide +kernel)) rfl, gm_t3 (List.mem_of_getElem? (i := 205) (by decide +kernel)) rfl, by decide +kernel, by decide +kernel, by decide, by decide +kernel, by decide⟩
abbrev YX10_resendLateMessages : gm_Y := (yX10_resendLateMessages, cX10_resendLateMessages, 2, none)
theorem mvX10_resendLateMessages : gm_Mv YX10_resendLateMessages 1 := ⟨gm_t3 (List.mem_of_getElem? (i := 208) (by decide +kernel)) rfl, gm_tp (List.mem_of_getElem? (i := 19) (by decide +kernel)) rfl, gm_t1 (List.mem_of_getElem? (i := 1) (by decide +kernel)) rfl, gm_t3 (List.mem_of_getElem? (i := 209) (by decide +kernel)) rfl, by decide +kernel, by decide +kernel, by decide, by decide +kernel, by decide⟩
abbrev YX10_resultOf : gm_Y := (yX10_resultOf, cX10_resultOf, 3, (some .int))
theorem mvX10_resultOf : gm_Mv YX10_resultOf 2 := ⟨gm_t3 (List.mem_of_getElem? (i := 49) (by decide +kernel)) rfl, gm_tp (List.mem_of_getElem? (i := 10) (by decide +kernel)) rfl, gm_t1 (List.mem_of_getElem? (i := 1) (by decide +kernel)) rfl, gm_t3 (List.mem_of_getElem? (i := 50) (by decide +kernel)) rfl, by decide +kernel, by decide +kernel, by decide, by decide +kernel, by decide⟩
abbrev YX10_isRefused : gm_Y := (yX10_isRefused, cX10_isRefused, 2, (some .boolean))
theorem mvX10_isRefused : gm_Mv YX10_isRefused 1 := ⟨gm_t3 (List.mem_of_getElem? (i := 57) (by decide +kernel)) rfl, gm_tp (List.mem_of_getElem? (i := 11) (by decide +kernel)) rfl, gm_t1 (List.mem_of_getElem? (i := 1) (by decide +kernel)) rfl, gm_t3 (List.mem_of_getElem? (i := 58) (by decide +kernel)) rfl, by decide +kernel, by decide +kernel, by decide, by decide +kernel, by decide⟩
abbrev YX10_protectedResultOf : gm_Y := (yX10_protectedResultOf, cX10_protectedResultOf, 4, (some .int))
theorem mvX10_protectedResultOf : gm_Mv YX10_protectedResultOf 2 := ⟨gm_t3 (List.mem_of_getElem? (i := 73) (by decide +kernel)) rfl, gm_tp (List.mem_of_getElem? (i := 12) (by decide +kernel)) rfl, gm_t1 (List.mem_of_getElem? (i := 1) (by decide +kernel)) rfl, gm_t3 (List.mem_of_getElem? (i := 74) (by decide +kernel)) rfl, by decide +kernel, by decide +kernel, by decide, by decide +kernel, by decide⟩
abbrev YX10_acceptPlain : gm_Y := (yX10_acceptPlain, cX10_acceptPlain, 3, none)
theorem mvX10_acceptPlain : gm_Mv YX10_acceptPlain 2 := ⟨gm_t3 (List.mem_of_getElem? (i := 157) (by decide +kernel)) rfl, gm_tp (List.mem_of_getElem? (i := 15) (by decide +kernel)) rfl, gm_t1 (List.mem_of_getElem? (i := 1) (by decide +kernel)) rfl, gm_t3 (List.mem_of_getElem? (i := 158) (by decide +kernel)) rfl, by decide +kernel, by decide +kernel, by decide, by decide +kernel, by decide⟩
abbrev YX10_acceptHello : gm_Y := (yX10_acceptHello, cX10_acceptHello, 4, none)
theorem mvX10_acceptHello : gm_Mv YX10_acceptHello 2 := ⟨gm_t3 (List.mem_of_getElem? (i := 161) (by decide +kernel)) rfl, gm_tp (List.mem_of_getElem? (i := 16) (by decide +kernel)) rfl, gm_t1 (List.mem_of_getElem? (i := 1) (by decide +kernel)) rfl, gm_t3 (List.mem_of_getElem? (i := 162) (by decide +kernel)) rfl, by decide +kernel, by decide +kernel, by decide, by decide +kernel, by decide⟩
abbrev YX10_acceptReply : gm_Y := (yX10_acceptReply, cX10_acceptReply, 3, none)
theorem mvX10_acceptReply : gm_Mv YX10_acceptReply 2 := ⟨gm_t3 (List.mem_of_getElem? (i := 180) (by decide +kernel)) rfl, gm_tp (List.mem_of_getElem? (i := 17) (by decide +kernel)) rfl, gm_t1 (List.mem_of_getElem? (i := 1) (by decide +kernel)) rfl, gm_t3 (List.mem_of_getElem? (i := 181) (by decide +kernel)) rfl, by decide +kernel, by decide +kernel, by decide, by decide +kernel, by decide⟩
abbrev YX10_acceptProtected : gm_Y := (yX10_acceptProtected, cX10_acceptProtected, 3, none)
theorem mvX10_acceptProtected : gm_Mv YX10_acceptProtected 2 := ⟨gm_t3 (List.mem_of_getElem? (i := 105) (by decide +kernel)) rfl, gm_tp (List.mem_of_getElem? (i := 13) (by decide +kernel)) rfl, gm_t1 (List.mem_of_getElem? (i := 1) (by decide +kernel)) rfl, gm_t3 (List.mem_of_getElem? (i := 106) (by decide +kernel)) rfl, by decide +kernel, by decide +kernel, by decide, by decide +kernel, by decide⟩
abbrev YX10_issueTicket : gm_Y := (yX10_issueTicket, cX10_issueTicket, 3, none)
theorem mvX10_issueTicket : gm_Mv YX10_issueTicket 1 := ⟨gm_t3 (List.mem_of_getElem? (i := 126) (by decide +kernel)) rfl, gm_tp (List.mem_of_getElem? (i := 14) (by decide +kernel)) rfl, gm_t1 (List.mem_of_getElem? (i := 1) (by decide +kernel)) rfl, gm_t3 (List.mem_of_getElem? (i := 127) (by decide +kernel)) rfl, by decide +kernel, by decide +kernel, by decide, by decide +kernel, by decide⟩
abbrev YX11_init : gm_Y := (yX11_init, cX11_init, 1, none)
abbrev YX11_isBetween : gm_Y := (yX11_isBetween, cX11_isBetween, 3, (some .boolean))
theorem msX11_isBetween : gm_Ms YX11_isBetween 3 := ⟨gm_t5 (List.mem_of_getElem? (i := 86) (by decide +kernel)) rfl, gm_t1 (List.mem_of_getElem? (i := 12) (by decide +kernel)) rfl, gm_t5 (List.mem_of_getElem? (i := 87) (by decide +kernel)) rfl, by decide +kernel, by decide +kernel, by decide, by decide +kernel, by decide⟩
abbrev YX11_mix : gm_Y := (yX11_mix, cX11_mix, 3, (some .int))
theorem msX11_mix : gm_Ms YX11_mix 2 := ⟨gm_t5 (List.mem_of_getElem? (i := 163) (by decide +kernel)) rfl, gm_t1 (List.mem_of_getElem? (i := 12) (by decide +kernel)) rfl, gm_t5 (List.mem_of_getElem? (i := 164) (by decide +kernel)) rfl, by decide +kernel, by decide +kernel, by decide, by decide +kernel, by decide⟩
abbrev YX11_configure : gm_Y := (yX11_configure, cX11_configure, 5, (some .int))
theorem mvX11_configure : gm_Mv YX11_configure 3 := ⟨gm_t5 (List.mem_of_getElem? (i := 82) (by decide +kernel)) rfl, gm_t5 (List.mem_of_getElem? (i := 83) (by decide +kernel)) rfl, gm_t1 (List.mem_of_getElem? (i := 12) (by decide +kernel)) rfl, gm_t5 (List.mem_of_getElem? (i := 84) (by decide +kernel)) rfl, by decide +kernel, by decide +kernel, by decide, by decide +kernel, by decide⟩
abbrev YX11_isEndpoint : gm_Y := (yX11_isEndpoint, cX11_isEndpoint, 1, (some .boolean))
theorem msX11_isEndpoint : gm_Ms YX11_isEndpoint 1 := ⟨gm_t5 (List.mem_of_getElem? (i := 141) (by decide +kernel)) rfl, gm_t1 (List.mem_of_getElem? (i := 12) (by decide +kernel)) rfl, gm_t5 (List.mem_of_getElem? (i := 142) (by decide +kernel)) rfl, by decide +kernel, by decide +kernel, by decide, by decide +kernel, by decide⟩
abbrev YX11_becomes : gm_Y := (yX11_becomes, cX11_becomes, 3, none)
theorem mvX11_becomes : gm_Mv YX11_becomes 2 := ⟨gm_t5 (List.mem_of_getElem? (i := 113) (by decide +kernel)) rfl, gm_tp (List.mem_of_getElem? (i := 24) (by decide +kernel)) rfl, gm_t1 (List.mem_of_getElem? (i := 12) (by decide +kernel)) rfl, gm_t5 (List.mem_of_getElem? (i := 114) (by decide +kernel)) rfl, by decide +kernel, by decide +kernel, by decide, by decide +kernel, by decide⟩
abbrev YX11_clearsWaiting : gm_Y := (yX11_clearsWaiting, cX11_clearsWaiting, 3, none)
theorem mvX11_clearsWaiting : gm_Mv YX11_clearsWaiting 1 := ⟨gm_t5 (List.mem_of_getElem? (i := 105) (by decide +kernel)) rfl, gm_tp (List.mem_of_getElem? (i := 22) (by decide +kernel)) rfl, gm_t1 (List.mem_of_getElem? (i := 12) (by decide +kernel)) rfl, gm_t5 (List.mem_of_getElem? (i := 106) (by decide +kernel)) rfl, by decide +kernel, by decide +kernel, by decide, by decide +kernel, by decide⟩
abbrev YX11_beginsStream : gm_Y := (yX11_beginsStream, cX11_beginsStream, 2, none)
theorem mvX11_beginsStream : gm_Mv YX11_beginsStream 1 := ⟨gm_t5 (List.mem_of_getElem? (i := 101) (by decide +kernel)) rfl, gm_tp (List.mem_of_getElem? (i := 21) (by decide +kernel)) rfl, gm_t1 (List.mem_of_getElem? (i := 12) (by decide +kernel)) rfl, gm_t5 (List.mem_of_getElem? (i := 102) (by decide +kernel)) rfl, by decide +kernel, by decide +kernel, by decide, by decide +kernel, by decide⟩
abbrev YX11_beginsWindows : gm_Y := (yX11_beginsWindows, cX11_beginsWindows, 3, none)
theorem mvX11_beginsWindows : gm_Mv YX11_beginsWindows 1 := ⟨gm_t5 (List.mem_of_getElem? (i := 215) (by decide +kernel)) rfl, gm_tp (List.mem_of_getElem? (i := 42) (by decide +kernel)) rfl, gm_t1 (List.mem_of_getElem? (i := 12) (by decide +kernel)) rfl, gm_t5 (List.mem_of_getElem? (i := 216) (by decide +kernel)) rfl, by decide +kernel, by decide +kernel, by decide, by decide +kernel, by decide⟩
abbrev YX11_logs : gm_Y := (yX11_logs, cX11_logs, 5, none)
theorem mvX11_logs : gm_Mv YX11_logs 3 := ⟨gm_t5 (List.mem_of_getElem? (i := 117) (by decide +kernel)) rfl, gm_tp (List.mem_of_getElem? (i := 25) (by decide +kernel)) rfl, gm_t1 (List.mem_of_getElem? (i := 12) (by decide +kernel)) rfl, gm_t5 (List.mem_of_getElem? (i := 118) (by decide +kernel)) rfl, by decide +kernel, by decide +kernel, by decide, by decide +kernel, by decide⟩
abbrev YX11_at : gm_Y := (yX11_at, cX11_at, 3, (some .int))
theorem mvX11_at : gm_Mv YX11_at 2 := ⟨gm_t5 (List.mem_of_getElem? (i := 183) (by decide +kernel)) rfl, gm_tp (List.mem_of_getElem? (i := 34) (by decide +kernel)) rfl, gm_t1 (List.mem_of_getElem? (i := 12) (by decide +kernel)) rfl, gm_t5 (List.mem_of_getElem? (i := 184) (by decide +kernel)) rfl, by decide +kernel, by decide +kernel, by decide, by decide +kernel, by decide⟩
abbrev YX11_isPacket : gm_Y := (yX11_isPacket, cX11_isPacket, 2, (some .boolean))
theorem mvX11_isPacket : gm_Mv YX11_isPacket 1 := ⟨gm_t5 (List.mem_of_getElem? (i := 175) (by decide +kernel)) rfl, gm_tp (List.mem_of_getElem? (i := 32) (by decide +kernel)) rfl, gm_t1 (List.mem_of_getElem? (i := 12) (by decide +kernel)) rfl, gm_t5 (List.mem_of_getElem? (i := 176) (by decide +kernel)) rfl, by decide +kernel, by decide +kernel, by decide, by decide +kernel, by decide⟩
abbrev YX11_hasRoom : gm_Y := (yX11_hasRoom, cX11_hasRoom, 1, (some .boolean))
theorem mvX11_hasRoom : gm_Mv YX11_hasRoom 0 := ⟨gm_t5 (List.mem_of_getElem? (i := 96) (by decide +kernel)) rfl, gm_tp (List.mem_of_getElem? (i := 20) (by decide +kernel)) rfl, gm_t1 (List.mem_of_getElem? (i := 12) (by decide +kernel)) rfl, gm_t5 (List.mem_of_getElem? (i := 97) (by decide +kernel)) rfl, by decide +kernel, by decide +kernel, by decide, by decide +kernel, by decide⟩
abbrev YX11_appends : gm_Y := (yX11_appends, cX11_appends, 11, none)
theorem mvX11_appends : gm_Mv YX11_appends 9 := ⟨gm_t5 (List.mem_of_getElem? (i := 125) (by decide +kernel)) rfl, gm_tp (List.mem_of_getElem? (i := 27) (by decide +kernel)) rfl, gm_t1 (List.mem_of_getElem? (i := 12) (by decide +kernel)) rfl, gm_t5 (List.mem_of_getElem? (i := 126) (by decide +kernel)) rfl, by decide +kernel, by decide +kernel, by decide, by decide +kernel, by decide⟩
abbrev YX11_sendsPlain : gm_Y := (yX11_sendsPlain, cX11_sendsPlain, 6, (some .boolean))
theorem mvX11_sendsPlain : gm_Mv YX11_sendsPlain 5 := ⟨gm_t5 (List.mem_of_getElem? (i := 121) (by decide +kernel)) rfl, gm_tp (List.mem_of_getElem? (i := 26) (by decide +kernel)) rfl, gm_t1 (List.mem_of_getElem? (i := 12) (by decide +kernel)) rfl, gm_t5 (List.mem_of_getElem? (i := 122) (by decide +kernel)) rfl, by decide +kernel, by decide +kernel, by decide, by decide +kernel, by decide⟩
abbrev YX11_tagOf : gm_Y := (yX11_tagOf, cX11_tagOf, 9, (some .int))
theorem msX11_tagOf : gm_Ms YX11_tagOf 8 := ⟨gm_t5 (List.mem_of_getElem? (i := 160) (by decide +kernel)) rfl, gm_t1 (List.mem_of_getElem? (i := 12) (by decide +kernel)) rfl, gm_t5 (List.mem_of_getElem? (i := 161) (by decide +kernel)) rfl, by decide +kernel, by decide +kernel, by decide, by decide +kernel, by decide⟩
abbrev YX11_sendsProtected : gm_Y := (yX11_sendsProtected, cX11_sendsProtected, 5, (some .boolean))
theorem mvX11_sendsProtected : gm_Mv YX11_sendsProtected 4 := ⟨gm_t5 (List.mem_of_getElem? (i := 157) (by decide +kernel)) rfl, gm_tp (List.mem_of_getElem? (i := 31) (by decide +kernel)) rfl, gm_t1 (List.mem_of_getElem? (i := 12) (by decide +kernel)) rfl, gm_t5 (List.mem_of_getElem? (i := 158) (by decide +kernel)) rfl, by decide +kernel, by decide +kernel, by decide, by decide +kernel, by decide⟩
abbrev YX11_sendsDue : gm_Y := (yX11_sendsDue, cX11_sendsDue, 4, none)
theorem mvX11_sendsDue : gm_Mv YX11_sendsDue 1 := ⟨gm_t5 (List.mem_of_getElem? (i := 153) (by decide +kernel)) rfl, gm_tp (List.mem_of_getElem? (i := 30) (by decide +kernel)) rfl, gm_t1 (List.mem_of_getElem? (i := 12) (by decide +kernel)) rfl, gm_t5 (List.mem_of_getElem? (i := 154) (by decide +kernel)) rfl, by decide +kernel, by decide +kernel, by decide, by decide +kernel, by decide⟩
abbrev YX11_greets : gm_Y := (yX11_greets, cX11_greets, 3, none)
theorem mvX11_greets : gm_Mv YX11_greets 2 := ⟨gm_t5 (List.mem_of_getElem? (i := 109) (by decide +kernel)) rfl, gm_tp (List.mem_of_getElem? (i := 23) (by decide +kernel)) rfl, gm_t1 (List.mem_of_getElem? (i := 12) (by decide +kernel)) rfl, gm_t5 (List.mem_of_getElem? (i := 110) (by decide +kernel)) rfl, by decide +kernel, by decide +kernel, by decide, by decide +kernel, by decide⟩
abbrev YX11_connect : gm_Y := (yX11_connect, cX11_connect, 2, (some .int))
theorem mvX11_connect : gm_Mv YX11_connect 1 := ⟨gm_t5 (List.mem_of_getElem? (i := 90) (by decide +kernel)) rfl, gm_t5 (List.mem_of_getElem? (i := 91) (by decide +kernel)) rfl, gm_t1 (List.mem_of_getElem? (i := 12) (by decide +kernel)) rfl, gm_t5 (List.mem_of_getElem? (i := 92) (by decide +kernel)) rfl, by decide +kernel, by decide +kernel, by decide, by decide +kernel, by decide⟩
abbrev YX11_resume : gm_Y := (yX11_resume, cX11_resume, 3, (some .int))
theorem mvX11_resume : gm_Mv YX11_resume 1 := ⟨gm_t5 (List.mem_of_getElem? (i := 128) (by decide +kernel)) rfl, gm_t5 (List.mem_of_getElem? (i := 129) (by decide +kernel)) rfl, gm_t1 (List.mem_of_getElem? (i := 12) (by decide +kernel)) rfl, gm_t5 (List.mem_of_getElem? (i := 130) (by decide +kernel)) rfl, by decide +kernel, by decide +kernel, by decide, by decide +kernel, by decide⟩
abbrev YX11_disconnect : gm_Y := (yX11_disconnect, cX11_disconnect, 3, (some .int))
theorem mvX11_disconnect : gm_Mv YX11_disconnect 0 := ⟨gm_t5 (List.mem_of_getElem? (i := 133) (by decide +kernel)) rfl, gm_t5 (List.mem_of_getElem? (i := 134) (by decide +kernel)) rfl, gm_t1 (List.mem_of_getElem? (i := 12) (by decide +kernel)) rfl, gm_t5 (List.mem_of_getElem? (i := 135) (by decide +kernel)) rfl, by decide +kernel, by decide +kernel, by decide, by decide +kernel, by decide⟩
abbrev YX11_notSending : gm_Y := (yX11_notSending, cX11_notSending, 2, (some .int))
theorem mvX11_notSending : gm_Mv YX11_notSending 1 := ⟨gm_t5 (List.mem_of_getElem? (i := 145) (by decide +kernel)) rfl, gm_tp (List.mem_of_getElem? (i := 28) (by decide +kernel)) rfl, gm_t1 (List.mem_of_getElem? (i := 12) (by decide +kernel)) rfl, gm_t5 (List.mem_of_getElem? (i := 146) (by decide +kernel)) rfl, by decide +kernel, by decide +kernel, by decide, by decide +kernel, by decide⟩
abbrev YX11_comes : gm_Y := (yX11_comes, cX11_comes, 6, (some .int))
theorem mvX11_comes : gm_Mv YX11_comes 3 := ⟨gm_t5 (List.mem_of_getElem? (i := 149) (by decide +kernel)) rfl, gm_tp (List.mem_of_getElem? (i := 29) (by decide +kernel)) rfl, gm_t1 (List.mem_of_getElem? (i := 12) (by decide +kernel)) rfl, gm_t5 (List.mem_of_getElem? (i := 150) (by decide +kernel)) rfl, by decide +kernel, by decide +kernel, by decide, by decide +kernel, by decide⟩
abbrev YX11_send : gm_Y := (yX11_send, cX11_send, 4, (some .int))
theorem mvX11_send : gm_Mv YX11_send 2 := ⟨gm_t5 (List.mem_of_getElem? (i := 137) (by decide +kernel)) rfl, gm_t5 (List.mem_of_getElem? (i := 138) (by decide +kernel)) rfl, gm_t1 (List.mem_of_getElem? (i := 12) (by decide +kernel)) rfl, gm_t5 (List.mem_of_getElem? (i := 139) (by decide +kernel)) rfl, by decide +kernel, by decide +kernel, by decide, by decide +kernel, by decide⟩
abbrev YX11_close : gm_Y := (yX11_close, cX11_close, 3, (some .int))
theorem mvX11_close : gm_Mv YX11_close 1 := ⟨gm_t5 (List.mem_of_getElem? (i := 166) (by decide +kernel)) rfl, gm_t5 (List.mem_of_getElem? (i := 167) (by decide +kernel)) rfl, gm_t1 (List.mem_of_getElem? (i := 12) (by decide +kernel)) rfl, gm_t5 (List.mem_of_getElem? (i := 168) (by decide +kernel)) rfl, by decide +kernel, by decide +kernel, by decide, by decide +kernel, by decide⟩
abbrev YX11_takesKind : gm_Y := (yX11_takesKind, cX11_takesKind, 3, (some .boolean))
theorem mvX11_takesKind : gm_Mv YX11_takesKind 2 := ⟨gm_t5 (List.mem_of_getElem? (i := 187) (by decide +kernel)) rfl, gm_tp (List.mem_of_getElem? (i := 35) (by decide +kernel)) rfl, gm_t1 (List.mem_of_getElem? (i := 12) (by decide +kernel)) rfl, gm_t5 (List.mem_of_getElem? (i := 188) (by decide +kernel)) rfl, by decide +kernel, by decide +kernel, by decide, by decide +kernel, by decide⟩
abbrev YX11_isTicket : gm_Y := (yX11_isTicket, cX11_isTicket, 2, (some .boolean))
theorem mvX11_isTicket : gm_Mv YX11_isTicket 1 := ⟨gm_t5 (List.mem_of_getElem? (i := 191) (by decide +kernel)) rfl, gm_tp (List.mem_of_getElem? (i := 36) (by decide +kernel)) rfl, gm_t1 (List.mem_of_getElem? (i := 12) (by decide +kernel)) rfl, gm_t5 (List.mem_of_getElem? (i := 192) (by decide +kernel)) rfl, by decide +kernel, by decide +kernel, by decide, by decide +kernel, by decide⟩
abbrev YX11_hasOld : gm_Y := (yX11_hasOld, cX11_hasOld, 2, (some .boolean))
theorem mvX11_hasOld : gm_Mv YX11_hasOld 1 := ⟨gm_t5 (List.mem_of_getElem? (i := 203) (by decide +kernel)) rfl, gm_tp (List.mem_of_getElem? (i := 39) (by decide +kernel)) rfl, gm_t1 (List.mem_of_getElem? (i := 12) (by decide +kernel)) rfl, gm_t5 (List.mem_of_getElem? (i := 204) (by decide +kernel)) rfl, by decide +kernel, by decide +kernel, by decide, by decide +kernel, by decide⟩
abbrev YX11_isOwnEpoch : gm_Y := (yX11_isOwnEpoch, cX11_isOwnEpoch, 3, (some .boolean))
theorem mvX11_isOwnEpoch : gm_Mv YX11_isOwnEpoch 2 := ⟨gm_t5 (List.mem_of_getElem? (i := 199) (by decide +kernel)) rfl, gm_tp (List.mem_of_getElem? (i := 38) (by decide +kernel)) rfl, gm_t1 (List.mem_of_getElem? (i := 12) (by decide +kernel)) rfl, gm_t5 (List.mem_of_getElem? (i := 200) (by decide +kernel)) rfl, by decide +kernel, by decide +kernel, by decide, by decide +kernel, by decide⟩
abbrev YX11_resultOf : gm_Y := (yX11_resultOf, cX11_resultOf, 4, (some .int))
theorem mvX11_resultOf : gm_Mv YX11_resultOf 1 := ⟨gm_t5 (List.mem_of_getElem? (i := 179) (by decide +kernel)) rfl, gm_tp (List.mem_of_getElem? (i := 33) (by decide +kernel)) rfl, gm_t1 (List.mem_of_getElem? (i := 12) (by decide +kernel)) rfl, gm_t5 (List.mem_of_getElem? (i := 180) (by decide +kernel)) rfl, by decide +kernel, by decide +kernel, by decide, by decide +kernel, by decide⟩
abbrev YX11_protectedResult : gm_Y := (yX11_protectedResult, cX11_protectedResult, 8, (some .int))
theorem mvX11_protectedResult : gm_Mv YX11_protectedResult 3 := ⟨gm_t5 (List.mem_of_getElem? (i := 195) (by decide +kernel)) rfl, gm_tp (List.mem_of_getElem? (i := 37) (by decide +kernel)) rfl, gm_t1 (List.mem_of_getElem? (i := 12) (by decide +kernel)) rfl, gm_t5 (List.mem_of_getElem? (i := 196) (by decide +kernel)) rfl, by decide +kernel, by decide +kernel, by decide, by decide +kernel, by decide⟩
abbrev YX11_setWith : gm_Y := (yX11_setWith, cX11_setWith, 3, (some .int))
theorem msX11_setWith : gm_Ms YX11_setWith 3 := ⟨gm_t5 (List.mem_of_getElem? (i := 230) (by decide +kernel)) rfl, gm_t1 (List.mem_of_getElem? (i := 12) (by decide +kernel)) rfl, gm_t5 (List.mem_of_getElem? (i := 231) (by decide +kernel)) rfl, by decide +kernel, by decide +kernel, by decide, by decide +kernel, by decide⟩
abbrev YX11_enters : gm_Y := (yX11_enters, cX11_enters, 4, none)
theorem mvX11_enters : gm_Mv YX11_enters 3 := ⟨gm_t5 (List.mem_of_getElem? (i := 227) (by decide +kernel)) rfl, gm_tp (List.mem_of_getElem? (i := 45) (by decide +kernel)) rfl, gm_t1 (List.mem_of_getElem? (i := 12) (by decide +kernel)) rfl, gm_t5 (List.mem_of_getElem? (i := 228) (by decide +kernel)) rfl, by decide +kernel, by decide +kernel, by decide, by decide +kernel, by decide⟩
abbrev YX11_acknowledges : gm_Y := (yX11_acknowledges, cX11_acknowledges, 6, none)
theorem mvX11_acknowledges : gm_Mv YX11_acknowledges 2 := ⟨gm_t5 (List.mem_of_getElem? (i := 238) (by decide +kernel)) rfl, gm_tp (List.mem_of_getElem? (i := 47) (by decide +kernel)) rfl, gm_t1 (List.mem_of_getElem? (i := 12) (by decide +kernel)) rfl, gm_t5 (List.mem_of_getElem? (i := 239) (by decide +kernel)) rfl, by decide +kernel, by decide +kernel, by decide, by decide +kernel, by decide⟩
abbrev YX11_takesExpected : gm_Y := (yX11_takesExpected, cX11_takesExpected, 5, none)
theorem mvX11_takesExpected : gm_Mv YX11_takesExpected 4 := ⟨gm_t6 (List.mem_of_getElem? (i := 6) (by decide +kernel)) rfl, gm_tp (List.mem_of_getElem? (i := 49) (by decide +kernel)) rfl, gm_t1 (List.mem_of_getElem? (i := 12) (by decide +kernel)) rfl, gm_t6 (List.mem_of_getElem? (i := 7) (by decide +kernel)) rfl, by decide +kernel, by decide +kernel, by decide, by decide +kernel, by decide⟩
abbrev YX11_takes : gm_Y := (yX11_takes, cX11_takes, 6, none)
theorem mvX11_takes : gm_Mv YX11_takes 4 := ⟨gm_t6 (List.mem_of_getElem? (i := 2) (by decide +kernel)) rfl, gm_tp (List.mem_of_getElem? (i := 48) (by decide +kernel)) rfl, gm_t1 (List.mem_of_getElem? (i := 12) (by decide +kernel)) rfl, gm_t6 (List.mem_of_getElem? (i := 3) (by decide +kernel)) rfl, by decide +kernel, by decide +kernel, by decide, by decide +kernel, by decide⟩
abbrev YX11_answersHello : gm_Y := (yX11_answersHello, cX11_answersHello, 1, none)
theorem mvX11_answersHello : gm_Mv YX11_answersHello 0 := ⟨gm_t5 (List.mem_of_getElem? (i := 211) (by decide +kernel)) rfl, gm_tp (List.mem_of_getElem? (i := 41) (by decide +kernel)) rfl, gm_t1 (List.mem_of_getElem? (i := 12) (by decide +kernel)) rfl, gm_t5 (List.mem_of_getElem? (i := 212) (by decide +kernel)) rfl, by decide +kernel, by decide +kernel, by decide, by decide +kernel, by decide⟩
abbrev YX11_hasReply : gm_Y := (yX11_hasReply, cX11_hasReply, 1, none)
theorem mvX11_hasReply : gm_Mv YX11_hasReply 0 := ⟨gm_t5 (List.mem_of_getElem? (i := 219) (by decide +kernel)) rfl, gm_tp (List.mem_of_getElem? (i := 43) (by decide +kernel)) rfl, gm_t1 (List.mem_of_getElem? (i := 12) (by decide +kernel)) rfl, gm_t5 (List.mem_of_getElem? (i := 220) (by decide +kernel)) rfl, by decide +kernel, by decide +kernel, by decide, by decide +kernel, by decide⟩
abbrev YX11_issues : gm_Y := (yX11_issues, cX11_issues, 1, none)
theorem mvX11_issues : gm_Mv YX11_issues 0 := ⟨gm_t5 (List.mem_of_getElem? (i := 234) (by decide +kernel)) rfl, gm_tp (List.mem_of_getElem? (i := 46) (by decide +kernel)) rfl, gm_t1 (List.mem_of_getElem? (i := 12) (by decide +kernel)) rfl, gm_t5 (List.mem_of_getElem? (i := 235) (by decide +kernel)) rfl, by decide +kernel, by decide +kernel, by decide, by decide +kernel, by decide⟩
abbrev YX11_hasProtected : gm_Y := (yX11_hasProtected, cX11_hasProtected, 4, none)
theorem mvX11_hasProtected : gm_Mv YX11_hasProtected 1 := ⟨gm_t5 (List.mem_of_getElem? (i := 223) (by decide +kernel)) rfl, gm_tp (List.mem_of_getElem? (i := 44) (by decide +kernel)) rfl, gm_t1 (List.mem_of_getElem? (i := 12) (by decide +kernel)) rfl, gm_t5 (List.mem_of_getElem? (i := 224) (by decide +kernel)) rfl, by decide +kernel, by decide +kernel, by decide, by decide +kernel, by decide⟩
abbrev YX11_removes : gm_Y := (yX11_removes, cX11_removes, 3, none)
theorem mvX11_removes : gm_Mv YX11_removes 1 := ⟨gm_t5 (List.mem_of_getElem? (i := 207) (by decide +kernel)) rfl, gm_tp (List.mem_of_getElem? (i := 40) (by decide +kernel)) rfl, gm_t1 (List.mem_of_getElem? (i := 12) (by decide +kernel)) rfl, gm_t5 (List.mem_of_getElem? (i := 208) (by decide +kernel)) rfl, by decide +kernel, by decide +kernel, by decide, by decide +kernel, by decide⟩
abbrev YX11_deliver : gm_Y := (yX11_deliver, cX11_deliver, 4, (some .int))
theorem mvX11_deliver : gm_Mv YX11_deliver 1 := ⟨gm_t5 (List.mem_of_getElem? (i := 170) (by decide +kernel)) rfl, gm_t5 (List.mem_of_getElem? (i := 171) (by decide +kernel)) rfl, gm_t1 (List.mem_of_getElem? (i := 12) (by decide +kernel)) rfl, gm_t5 (List.mem_of_getElem? (i := 172) (by decide +kernel)) rfl, by decide +kernel, by decide +kernel, by decide, by decide +kernel, by decide⟩
abbrev YX11_foresee : gm_Y := (yX11_foresee, cX11_foresee, 2, (some .int))
theorem mvX11_foresee : gm_Mv YX11_foresee 1 := ⟨gm_t6 (List.mem_of_getElem? (i := 9) (by decide +kernel)) rfl, gm_t6 (List.mem_of_getElem? (i := 10) (by decide +kernel)) rfl, gm_t1 (List.mem_of_getElem? (i := 12) (by decide +kernel)) rfl, gm_t6 (List.mem_of_getElem? (i := 11) (by decide +kernel)) rfl, by decide +kernel, by decide +kernel, by decide, by decide +kernel, by decide⟩
abbrev YX11_drop : gm_Y := (yX11_drop, cX11_drop, 2, (some .int))
theorem mvX11_drop : gm_Mv YX11_drop 1 := ⟨gm_t6 (List.mem_of_getElem? (i := 13) (by decide +kernel)) rfl, gm_t6 (List.mem_of_getElem? (i := 14) (by decide +kernel)) rfl, gm_t1 (List.mem_of_getElem? (i := 12) (by decide +kernel)) rfl, gm_t6 (List.mem_of_getElem? (i := 15) (by decide +kernel)) rfl, by decide +kernel, by decide +kernel, by decide, by decide +kernel, by decide⟩
abbrev YX11_repeat : gm_Y := (yX11_repeat, cX11_repeat, 3, (some .int))
theorem mvX11_repeat : gm_Mv YX11_repeat 1 := ⟨gm_t6 (List.mem_of_getElem? (i := 17) (by decide +kernel)) rfl, gm_t6 (List.mem_of_getElem? (i := 18) (by decide +kernel)) rfl, gm_t1 (List.mem_of_getElem? (i := 12) (by decide +kernel)) rfl, gm_t6 (List.mem_of_getElem? (i := 19) (by decide +kernel)) rfl, by decide +kernel, by decide +kernel, by decide, by decide +kernel, by decide⟩
abbrev YX11_alter : gm_Y := (yX11_alter, cX11_alter, 3, (some .int))
theorem mvX11_alter : gm_Mv YX11_alter 2 := ⟨gm_t6 (List.mem_of_getElem? (i := 21) (by decide +kernel)) rfl, gm_t6 (List.mem_of_getElem? (i := 22) (by decide +kernel)) rfl, gm_t1 (List.mem_of_getElem? (i := 12) (by decide +kernel)) rfl, gm_t6 (List.mem_of_getElem? (i := 23) (by decide +kernel)) rfl, by decide +kernel, by decide +kernel, by decide, by decide +kernel, by decide⟩
abbrev YX11_ticks : gm_Y := (yX11_ticks, cX11_ticks, 4, none)
theorem mvX11_ticks : gm_Mv YX11_ticks 0 := ⟨gm_t6 (List.mem_of_getElem? (i := 30) (by decide +kernel)) rfl, gm_tp (List.mem_of_getElem? (i := 50) (by decide +kernel)) rfl, gm_t1 (List.mem_of_getElem? (i := 12) (by decide +kernel)) rfl, gm_t6 (List.mem_of_getElem? (i := 31) (by decide +kernel)) rfl, by decide +kernel, by decide +kernel, by decide, by decide +kernel, by decide⟩
abbrev YX11_tick : gm_Y := (yX11_tick, cX11_tick, 3, (some .int))
theorem mvX11_tick : gm_Mv YX11_tick 1 := ⟨gm_t6 (List.mem_of_getElem? (i := 25) (by decide +kernel)) rfl, gm_t6 (List.mem_of_getElem? (i := 26) (by decide +kernel)) rfl, gm_t1 (List.mem_of_getElem? (i := 12) (by decide +kernel)) rfl, gm_t6 (List.mem_of_getElem? (i := 27) (by decide +kernel)) rfl, by decide +kernel, by decide +kernel, by decide, by decide +kernel, by decide⟩
abbrev YX11_packet : gm_Y := (yX11_packet, cX11_packet, 3, (some .int))
theorem mvX11_packet : gm_Mv YX11_packet 2 := ⟨gm_t6 (List.mem_of_getElem? (i := 33) (by decide +kernel)) rfl, gm_t6 (List.mem_of_getElem? (i := 34) (by decide +kernel)) rfl, gm_t1 (List.mem_of_getElem? (i := 12) (by decide +kernel)) rfl, gm_t6 (List.mem_of_getElem? (i := 35) (by decide +kernel)) rfl, by decide +kernel, by decide +kernel, by decide, by decide +kernel, by decide⟩
abbrev YX11_waiting : gm_Y := (yX11_waiting, cX11_waiting, 2, (some .int))
theorem mvX11_waiting : gm_Mv YX11_waiting 1 := ⟨gm_t6 (List.mem_of_getElem? (i := 42) (by decide +kernel)) rfl, gm_tp (List.mem_of_getElem? (i := 51) (by decide +kernel)) rfl, gm_t1 (List.mem_of_getElem? (i := 12) (by decide +kernel)) rfl, gm_t6 (List.mem_of_getElem? (i := 43) (by decide +kernel)) rfl, by decide +kernel, by decide +kernel, by decide, by decide +kernel, by decide⟩
abbrev YX11_endpoint : gm_Y := (yX11_endpoint, cX11_endpoint, 3, (some .int))
theorem mvX11_endpoint : gm_Mv YX11_endpoint 2 := ⟨gm_t6 (List.mem_of_getElem? (i := 37) (by decide +kernel)) rfl, gm_t6 (List.mem_of_getElem? (i := 38) (by decide +kernel)) rfl, gm_t1 (List.mem_of_getElem? (i := 12) (by decide +kernel)) rfl, gm_t6 (List.mem_of_getElem? (i := 39) (by decide +kernel)) rfl, by decide +kernel, by decide +kernel, by decide, by decide +kernel, by decide⟩
abbrev YX11_window : gm_Y := (yX11_window, cX11_window, 4, (some .int))
theorem mvX11_window : gm_Mv YX11_window 2 := ⟨gm_t6 (List.mem_of_getElem? (i := 45) (by decide +kernel)) rfl, gm_t6 (List.mem_of_getElem? (i := 46) (by decide +kernel)) rfl, gm_t1 (List.mem_of_getElem? (i := 12) (by decide +kernel)) rfl, gm_t6 (List.mem_of_getElem? (i := 47) (by decide +kernel)) rfl, by decide +kernel, by decide +kernel, by decide, by decide +kernel, by decide⟩
abbrev YX11_taken : gm_Y := (yX11_taken, cX11_taken, 3, (some .int))
theorem mvX11_taken : gm_Mv YX11_taken 2 := ⟨gm_t6 (List.mem_of_getElem? (i := 49) (by decide +kernel)) rfl, gm_t6 (List.mem_of_getElem? (i := 50) (by decide +kernel)) rfl, gm_t1 (List.mem_of_getElem? (i := 12) (by decide +kernel)) rfl, gm_t6 (List.mem_of_getElem? (i := 51) (by decide +kernel)) rfl, by decide +kernel, by decide +kernel, by decide, by decide +kernel, by decide⟩
abbrev YX11_kept : gm_Y := (yX11_kept, cX11_kept, 5, (some .int))
theorem mvX11_kept : gm_Mv YX11_kept 3 := ⟨gm_t6 (List.mem_of_getElem? (i := 53) (by decide +kernel)) rfl, gm_t6 (List.mem_of_getElem? (i := 54) (by decide +kernel)) rfl, gm_t1 (List.mem_of_getElem? (i := 12) (by decide +kernel)) rfl, gm_t6 (List.mem_of_getElem? (i := 55) (by decide +kernel)) rfl, by decide +kernel, by decide +kernel, by decide, by decide +kernel, by decide⟩
abbrev YX11_results : gm_Y := (yX11_results, cX11_results, 3, (some .int))
theorem mvX11_results : gm_Mv YX11_results 2 := ⟨gm_t6 (List.mem_of_getElem? (i := 57) (by decide +kernel)) rfl, gm_t6 (List.mem_of_getElem? (i := 58) (by decide +kernel)) rfl, gm_t1 (List.mem_of_getElem? (i := 12) (by decide +kernel)) rfl, gm_t6 (List.mem_of_getElem? (i := 59) (by decide +kernel)) rfl, by decide +kernel, by decide +kernel, by decide, by decide +kernel, by decide⟩
abbrev YX11_count : gm_Y := (yX11_count, cX11_count, 2, (some .int))
theorem mvX11_count : gm_Mv YX11_count 1 := ⟨gm_t6 (List.mem_of_getElem? (i := 61) (by decide +kernel)) rfl, gm_t6 (List.mem_of_getElem? (i := 62) (by decide +kernel)) rfl, gm_t1 (List.mem_of_getElem? (i := 12) (by decide +kernel)) rfl, gm_t6 (List.mem_of_getElem? (i := 63) (by decide +kernel)) rfl, by decide +kernel, by decide +kernel, by decide, by decide +kernel, by decide⟩
abbrev YX11_event : gm_Y := (yX11_event, cX11_event, 3, (some .int))
theorem mvX11_event : gm_Mv YX11_event 2 := ⟨gm_t6 (List.mem_of_getElem? (i := 65) (by decide +kernel)) rfl, gm_t6 (List.mem_of_getElem? (i := 66) (by decide +kernel)) rfl, gm_t1 (List.mem_of_getElem? (i := 12) (by decide +kernel)) rfl, gm_t6 (List.mem_of_getElem? (i := 67) (by decide +kernel)) rfl, by decide +kernel, by decide +kernel, by decide, by decide +kernel, by decide⟩
abbrev YX11_agree : gm_Y := (yX11_agree, cX11_agree, 1, (some .int))
theorem mvX11_agree : gm_Mv YX11_agree 0 := ⟨gm_t6 (List.mem_of_getElem? (i := 69) (by decide +kernel)) rfl, gm_t6 (List.mem_of_getElem? (i := 70) (by decide +kernel)) rfl, gm_t1 (List.mem_of_getElem? (i := 12) (by decide +kernel)) rfl, gm_t6 (List.mem_of_getElem? (i := 71) (by decide +kernel)) rfl, by decide +kernel, by decide +kernel, by decide, by decide +kernel, by decide⟩
abbrev YX11_append : gm_Y := (yX11_append, cX11_append, 4, (some .int))
theorem mvX11_append : gm_Mv YX11_append 2 := ⟨gm_t6 (List.mem_of_getElem? (i := 73) (by decide +kernel)) rfl, gm_t6 (List.mem_of_getElem? (i := 74) (by decide +kernel)) rfl, gm_t1 (List.mem_of_getElem? (i := 12) (by decide +kernel)) rfl, gm_t6 (List.mem_of_getElem? (i := 75) (by decide +kernel)) rfl, by decide +kernel, by decide +kernel, by decide, by decide +kernel, by decide⟩
abbrev YX11_isDigit : gm_Y := (yX11_isDigit, cX11_isDigit, 1, (some .boolean))
theorem mvX11_isDigit : gm_Mv YX11_isDigit 0 := ⟨gm_t6 (List.mem_of_getElem? (i := 90) (by decide +kernel)) rfl, gm_tp (List.mem_of_getElem? (i := 54) (by decide +kernel)) rfl, gm_t1 (List.mem_of_getElem? (i := 12) (by decide +kernel)) rfl, gm_t6 (List.mem_of_getElem? (i := 91) (by decide +kernel)) rfl, by decide +kernel, by decide +kernel, by decide, by decide +kernel, by decide⟩
abbrev YX11_takesNumber : gm_Y := (yX11_takesNumber, cX11_takesNumber, 1, (some .boolean))
theorem mvX11_takesNumber : gm_Mv YX11_takesNumber 0 := ⟨gm_t6 (List.mem_of_getElem? (i := 94) (by decide +kernel)) rfl, gm_tp (List.mem_of_getElem? (i := 55) (by decide +kernel)) rfl, gm_t1 (List.mem_of_getElem? (i := 12) (by decide +kernel)) rfl, gm_t6 (List.mem_of_getElem? (i := 95) (by decide +kernel)) rfl, by decide +kernel, by decide +kernel, by decide, by decide +kernel, by decide⟩
abbrev YX11_takesAction : gm_Y := (yX11_takesAction, cX11_takesAction, 2, (some .boolean))
theorem mvX11_takesAction : gm_Mv YX11_takesAction 0 := ⟨gm_t6 (List.mem_of_getElem? (i := 86) (by decide +kernel)) rfl, gm_tp (List.mem_of_getElem? (i := 53) (by decide +kernel)) rfl, gm_t1 (List.mem_of_getElem? (i := 12) (by decide +kernel)) rfl, gm_t6 (List.mem_of_getElem? (i := 87) (by decide +kernel)) rfl, by decide +kernel, by decide +kernel, by decide, by decide +kernel, by decide⟩
abbrev YX11_takesScript : gm_Y := (yX11_takesScript, cX11_takesScript, 1, (some .boolean))
theorem mvX11_takesScript : gm_Mv YX11_takesScript 0 := ⟨gm_t6 (List.mem_of_getElem? (i := 82) (by decide +kernel)) rfl, gm_tp (List.mem_of_getElem? (i := 52) (by decide +kernel)) rfl, gm_t1 (List.mem_of_getElem? (i := 12) (by decide +kernel)) rfl, gm_t6 (List.mem_of_getElem? (i := 83) (by decide +kernel)) rfl, by decide +kernel, by decide +kernel, by decide, by decide +kernel, by decide⟩
abbrev YX11_isError : gm_Y := (yX11_isError, cX11_isError, 1, (some .boolean))
theorem msX11_isError : gm_Ms YX11_isError 1 := ⟨gm_t6 (List.mem_of_getElem? (i := 106) (by decide +kernel)) rfl, gm_t1 (List.mem_of_getElem? (i := 12) (by decide +kernel)) rfl, gm_t6 (List.mem_of_getElem? (i := 107) (by decide +kernel)) rfl, by decide +kernel, by decide +kernel, by decide, by decide +kernel, by decide⟩
abbrev YX11_does : gm_Y := (yX11_does, cX11_does, 2, (some .int))
theorem mvX11_does : gm_Mv YX11_does 1 := ⟨gm_t6 (List.mem_of_getElem? (i := 98) (by decide +kernel)) rfl, gm_tp (List.mem_of_getElem? (i := 56) (by decide +kernel)) rfl, gm_t1 (List.mem_of_getElem? (i := 12) (by decide +kernel)) rfl, gm_t6 (List.mem_of_getElem? (i := 99) (by decide +kernel)) rfl, by decide +kernel, by decide +kernel, by decide, by decide +kernel, by decide⟩
abbrev YX11_runScript : gm_Y := (yX11_runScript, cX11_runScript, 3, (some .int))
theorem mvX11_runScript : gm_Mv YX11_runScript 0 := ⟨gm_t6 (List.mem_of_getElem? (i := 77) (by decide +kernel)) rfl, gm_t6 (List.mem_of_getElem? (i := 78) (by decide +kernel)) rfl, gm_t1 (List.mem_of_getElem? (i := 12) (by decide +kernel)) rfl, gm_t6 (List.mem_of_getElem? (i := 79) (by decide +kernel)) rfl, by decide +kernel, by decide +kernel, by decide, by decide +kernel, by decide⟩
abbrev YX11_hands : gm_Y := (yX11_hands, cX11_hands, 3, none)
theorem mvX11_hands : gm_Mv YX11_hands 1 := ⟨gm_t6 (List.mem_of_getElem? (i := 122) (by decide +kernel)) rfl, gm_tp (List.mem_of_getElem? (i := 59) (by decide +kernel)) rfl, gm_t1 (List.mem_of_getElem? (i := 12) (by decide +kernel)) rfl, gm_t6 (List.mem_of_getElem? (i := 123) (by decide +kernel)) rfl, by decide +kernel, by decide +kernel, by decide, by decide +kernel, by decide⟩
abbrev YX11_hand : gm_Y := (yX11_hand, cX11_hand, 3, (some .int))
theorem mvX11_hand : gm_Mv YX11_hand 1 := ⟨gm_t6 (List.mem_of_getElem? (i := 126) (by decide +kernel)) rfl, gm_tp (List.mem_of_getElem? (i := 60) (by decide +kernel)) rfl, gm_t1 (List.mem_of_getElem? (i := 12) (by decide +kernel)) rfl, gm_t6 (List.mem_of_getElem? (i := 127) (by decide +kernel)) rfl, by decide +kernel, by decide +kernel, by decide, by decide +kernel, by decide⟩
abbrev YX11_handsEndpoints : gm_Y := (yX11_handsEndpoints, cX11_handsEndpoints, 1, none)
theorem mvX11_handsEndpoints : gm_Mv YX11_handsEndpoints 0 := ⟨gm_t6 (List.mem_of_getElem? (i := 118) (by decide +kernel)) rfl, gm_tp (List.mem_of_getElem? (i := 58) (by decide +kernel)) rfl, gm_t1 (List.mem_of_getElem? (i := 12) (by decide +kernel)) rfl, gm_t6 (List.mem_of_getElem? (i := 119) (by decide +kernel)) rfl, by decide +kernel, by decide +kernel, by decide, by decide +kernel, by decide⟩
abbrev YX11_handsAll : gm_Y := (yX11_handsAll, cX11_handsAll, 2, none)
theorem mvX11_handsAll : gm_Mv YX11_handsAll 1 := ⟨gm_t6 (List.mem_of_getElem? (i := 114) (by decide +kernel)) rfl, gm_tp (List.mem_of_getElem? (i := 57) (by decide +kernel)) rfl, gm_t1 (List.mem_of_getElem? (i := 12) (by decide +kernel)) rfl, gm_t6 (List.mem_of_getElem? (i := 115) (by decide +kernel)) rfl, by decide +kernel, by decide +kernel, by decide, by decide +kernel, by decide⟩
abbrev YX11_save : gm_Y := (yX11_save, cX11_save, 1, (some .int))
theorem mvX11_save : gm_Mv YX11_save 0 := ⟨gm_t6 (List.mem_of_getElem? (i := 109) (by decide +kernel)) rfl, gm_t6 (List.mem_of_getElem? (i := 110) (by decide +kernel)) rfl, gm_t1 (List.mem_of_getElem? (i := 12) (by decide +kernel)) rfl, gm_t6 (List.mem_of_getElem? (i := 111) (by decide +kernel)) rfl, by decide +kernel, by decide +kernel, by decide, by decide +kernel, by decide⟩
abbrev YX11_restore : gm_Y := (yX11_restore, cX11_restore, 1, (some .int))
theorem mvX11_restore : gm_Mv YX11_restore 0 := ⟨gm_t6 (List.mem_of_getElem? (i := 129) (by decide +kernel)) rfl, gm_t6 (List.mem_of_getElem? (i := 130) (by decide +kernel)) rfl, gm_t1 (List.mem_of_getElem? (i := 12) (by decide +kernel)) rfl, gm_t6 (List.mem_of_getElem? (i := 131) (by decide +kernel)) rfl, by decide +kernel, by decide +kernel, by decide, by decide +kernel, by decide⟩
abbrev YJ9_floorMod_7cf53 : gm_Y := (yJ9_floorMod_7cf53, cJ9_floorMod_7cf53, 3, (some .int))
theorem msJ9_floorMod_7cf53 : gm_Ms YJ9_floorMod_7cf53 2 := ⟨gm_t4 (List.mem_of_getElem? (i := 42) (by decide +kernel)) rfl, gm_t1 (List.mem_of_getElem? (i := 13) (by decide +kernel)) rfl, gm_t4 (List.mem_of_getElem? (i := 43) (by decide +kernel)) rfl, by decide +kernel, by decide +kernel, by decide, by decide +kernel, by decide⟩
abbrev YJ9_min_7cf53 : gm_Y := (yJ9_min_7cf53, cJ9_min_7cf53, 2, (some .int))
theorem msJ9_min_7cf53 : gm_Ms YJ9_min_7cf53 2 := ⟨gm_t3 (List.mem_of_getElem? (i := 137) (by decide +kernel)) rfl, gm_t1 (List.mem_of_getElem? (i := 13) (by decide +kernel)) rfl, gm_t3 (List.mem_of_getElem? (i := 138) (by decide +kernel)) rfl, by decide +kernel, by decide +kernel, by decide, by decide +kernel, by decide⟩
theorem llL_13 : Cond.methodLink RL 13 YX10_configure.1 ∈ gm_TB := gm_t2 (List.mem_of_getElem? (i := 148) (by decide +kernel)) rfl
theorem llL_18 : Cond.methodLink RL 18 YX10_connect.1 ∈ gm_TB := gm_t2 (List.mem_of_getElem? (i := 153) (by decide +kernel)) rfl
theorem llX10_62 : Cond.methodLink RX10 62 YX3_isFull.1 ∈ gm_TB := gm_t2 (List.mem_of_getElem? (i := 158) (by decide +kernel)) rfl
theorem llX10_69 : Cond.methodLink RX10 69 YX0_beginStream.1 ∈ gm_TB := gm_t2 (List.mem_of_getElem? (i := 163) (by decide +kernel)) rfl
theorem llX0_96 : Cond.methodLink RX0 96 YX4_begin.1 ∈ gm_TB := gm_t2 (List.mem_of_getElem? (i := 167) (by decide +kernel)) rfl
theorem llX0_99 : Cond.methodLink RX0 99 YX1_begin.1 ∈ gm_TB := gm_t2 (List.mem_of_getElem? (i := 171) (by decide +kernel)) rfl
theorem llX1_35 : Cond.methodLink RX1 35 YX1_discardWaiting.1 ∈ gm_TB := gm_t2 (List.mem_of_getElem? (i := 175) (by decide +kernel)) rfl
theorem llX10_72 : Cond.methodLink RX10 72 YX10_beginSession.1 ∈ gm_TB := gm_t2 (List.mem_of_getElem? (i := 179) (by decide +kernel)) rfl
theorem llX10_310 : Cond.methodLink RX10 310 YX10_changeState.1 ∈ gm_TB := gm_t2 (List.mem_of_getElem? (i := 183) (by decide +kernel)) rfl
theorem llX10_140 : Cond.methodLink RX10 140 YX2_add.1 ∈ gm_TB := gm_t2 (List.mem_of_getElem? (i := 187) (by decide +kernel)) rfl
theorem llX10_314 : Cond.methodLink RX10 314 YX10_sendHello.1 ∈ gm_TB := gm_t2 (List.mem_of_getElem? (i := 191) (by decide +kernel)) rfl
theorem llX10_149 : Cond.methodLink RX10 149 YX10_sendPlain.1 ∈ gm_TB := gm_t2 (List.mem_of_getElem? (i := 195) (by decide +kernel)) rfl
theorem llX10_163 : Cond.methodLink RX10 163 YX3_extend.1 ∈ gm_TB := gm_t2 (List.mem_of_getElem? (i := 199) (by decide +kernel)) rfl
theorem llX10_333 : Cond.methodLink RX10 333 YX5_fill.1 ∈ gm_TB := gm_t2 (List.mem_of_getElem? (i := 203) (by decide +kernel)) rfl
theorem llX10_337 : Cond.methodLink RX10 337 YX10_noteSent.1 ∈ gm_TB := gm_t2 (List.mem_of_getElem? (i := 207) (by decide +kernel)) rfl
theorem llL_23 : Cond.methodLink RL 23 YX10_resume.1 ∈ gm_TB := gm_t2 (List.mem_of_getElem? (i := 211) (by decide +kernel)) rfl
theorem llL_27 : Cond.methodLink RL 27 YX10_disconnect.1 ∈ gm_TB := gm_t2 (List.mem_of_getElem? (i := 216) (by decide +kernel)) rfl
theorem llX10_89 : Cond.methodLink RX10 89 YX10_breakOff.1 ∈ gm_TB := gm_t2 (List.mem_of_getElem? (i := 220) (by decide +kernel)) rfl
theorem llX10_317 : Cond.methodLink RX10 317 YX1_discardWaiting.1 ∈ gm_TB := gm_t2 (List.mem_of_getElem? (i := 224) (by decide +kernel)) rfl
theorem llL_32 : Cond.methodLink RL 32 YX10_send.1 ∈ gm_TB := gm_t2 (List.mem_of_getElem? (i := 225) (by decide +kernel)) rfl
theorem llX10_96 : Cond.methodLink RX10 96 YX10_isEndpoint.1 ∈ gm_TB := gm_t2 (List.mem_of_getElem? (i := 229) (by decide +kernel)) rfl
theorem llX10_100 : Cond.methodLink RX10 100 YX10_endpointOf.1 ∈ gm_TB := gm_t2 (List.mem_of_getElem? (i := 232) (by decide +kernel)) rfl
theorem llX10_104 : Cond.methodLink RX10 104 YX10_addMessage.1 ∈ gm_TB := gm_t2 (List.mem_of_getElem? (i := 236) (by decide +kernel)) rfl
theorem llX10_323 : Cond.methodLink RX10 323 YX4_isFull.1 ∈ gm_TB := gm_t3 (List.mem_of_getElem? (i := 0) (by decide +kernel)) rfl
theorem llX10_324 : Cond.methodLink RX10 324 YX4_add.1 ∈ gm_TB := gm_t3 (List.mem_of_getElem? (i := 4) (by decide +kernel)) rfl
theorem llX10_327 : Cond.methodLink RX10 327 YX10_sendDue.1 ∈ gm_TB := gm_t3 (List.mem_of_getElem? (i := 9) (by decide +kernel)) rfl
theorem llX10_360 : Cond.methodLink RX10 360 YX4_isClose.1 ∈ gm_TB := gm_t3 (List.mem_of_getElem? (i := 13) (by decide +kernel)) rfl
theorem llX10_369 : Cond.methodLink RX10 369 YX10_sendProtected.1 ∈ gm_TB := gm_t3 (List.mem_of_getElem? (i := 17) (by decide +kernel)) rfl
theorem llX10_349 : Cond.methodLink RX10 349 YX10_tagOf.1 ∈ gm_TB := gm_t3 (List.mem_of_getElem? (i := 21) (by decide +kernel)) rfl
theorem llX10_286 : Cond.methodLink RX10 286 YX10_mix.1 ∈ gm_TB := gm_t3 (List.mem_of_getElem? (i := 24) (by decide +kernel)) rfl
theorem llL_37 : Cond.methodLink RL 37 YX10_close.1 ∈ gm_TB := gm_t3 (List.mem_of_getElem? (i := 27) (by decide +kernel)) rfl
theorem llL_41 : Cond.methodLink RL 41 YX10_deliver.1 ∈ gm_TB := gm_t3 (List.mem_of_getElem? (i := 31) (by decide +kernel)) rfl
theorem llX10_108 : Cond.methodLink RX10 108 YX3_at.1 ∈ gm_TB := gm_t3 (List.mem_of_getElem? (i := 35) (by decide +kernel)) rfl
theorem llX10_112 : Cond.methodLink RX10 112 YX5_copyFrom.1 ∈ gm_TB := gm_t3 (List.mem_of_getElem? (i := 39) (by decide +kernel)) rfl
theorem llX10_116 : Cond.methodLink RX10 116 YX3_remove.1 ∈ gm_TB := gm_t3 (List.mem_of_getElem? (i := 43) (by decide +kernel)) rfl
theorem llX10_123 : Cond.methodLink RX10 123 YX10_resultOf.1 ∈ gm_TB := gm_t3 (List.mem_of_getElem? (i := 47) (by decide +kernel)) rfl
theorem llX10_376 : Cond.methodLink RX10 376 YX0_takesKind.1 ∈ gm_TB := gm_t3 (List.mem_of_getElem? (i := 51) (by decide +kernel)) rfl
theorem llX10_379 : Cond.methodLink RX10 379 YX10_isRefused.1 ∈ gm_TB := gm_t3 (List.mem_of_getElem? (i := 55) (by decide +kernel)) rfl
theorem llX10_385 : Cond.methodLink RX10 385 YX7_isValid.1 ∈ gm_TB := gm_t3 (List.mem_of_getElem? (i := 59) (by decide +kernel)) rfl
theorem llX7_23 : Cond.methodLink RX7 23 YX7_isIssued.1 ∈ gm_TB := gm_t3 (List.mem_of_getElem? (i := 63) (by decide +kernel)) rfl
theorem llX10_153 : Cond.methodLink RX10 153 YX5_isProtected.1 ∈ gm_TB := gm_t3 (List.mem_of_getElem? (i := 67) (by decide +kernel)) rfl
theorem llX10_382 : Cond.methodLink RX10 382 YX10_protectedResultOf.1 ∈ gm_TB := gm_t3 (List.mem_of_getElem? (i := 71) (by decide +kernel)) rfl
theorem llX10_389 : Cond.methodLink RX10 389 YX0_takesEpoch.1 ∈ gm_TB := gm_t3 (List.mem_of_getElem? (i := 75) (by decide +kernel)) rfl
theorem llX10_395 : Cond.methodLink RX10 395 YX0_windowOf.1 ∈ gm_TB := gm_t3 (List.mem_of_getElem? (i := 79) (by decide +kernel)) rfl
theorem llX10_399 : Cond.methodLink RX10 399 YX8_isBehind.1 ∈ gm_TB := gm_t3 (List.mem_of_getElem? (i := 83) (by decide +kernel)) rfl
theorem llX10_402 : Cond.methodLink RX10 402 YX8_holds.1 ∈ gm_TB := gm_t3 (List.mem_of_getElem? (i := 87) (by decide +kernel)) rfl
theorem llX10_405 : Cond.methodLink RX10 405 YX5_bringsMessage.1 ∈ gm_TB := gm_t3 (List.mem_of_getElem? (i := 91) (by decide +kernel)) rfl
theorem llX10_408 : Cond.methodLink RX10 408 YX1_isAfterClose.1 ∈ gm_TB := gm_t3 (List.mem_of_getElem? (i := 95) (by decide +kernel)) rfl
theorem llX10_127 : Cond.methodLink RX10 127 YX0_countResult.1 ∈ gm_TB := gm_t3 (List.mem_of_getElem? (i := 99) (by decide +kernel)) rfl
theorem llX10_156 : Cond.methodLink RX10 156 YX10_acceptProtected.1 ∈ gm_TB := gm_t3 (List.mem_of_getElem? (i := 103) (by decide +kernel)) rfl
theorem llX10_427 : Cond.methodLink RX10 427 YX0_enterInWindow.1 ∈ gm_TB := gm_t3 (List.mem_of_getElem? (i := 107) (by decide +kernel)) rfl
theorem llX0_65 : Cond.methodLink RX0 65 YX8_copyFrom.1 ∈ gm_TB := gm_t3 (List.mem_of_getElem? (i := 111) (by decide +kernel)) rfl
theorem llX0_100 : Cond.methodLink RX0 100 YX8_clear.1 ∈ gm_TB := gm_t3 (List.mem_of_getElem? (i := 115) (by decide +kernel)) rfl
theorem llX0_106 : Cond.methodLink RX0 106 YX0_windowOf.1 ∈ gm_TB := gm_t3 (List.mem_of_getElem? (i := 119) (by decide +kernel)) rfl
theorem llX0_110 : Cond.methodLink RX0 110 YX8_enter.1 ∈ gm_TB := gm_t3 (List.mem_of_getElem? (i := 120) (by decide +kernel)) rfl
theorem llX10_430 : Cond.methodLink RX10 430 YX10_issueTicket.1 ∈ gm_TB := gm_t3 (List.mem_of_getElem? (i := 124) (by decide +kernel)) rfl
theorem llX10_443 : Cond.methodLink RX10 443 YX7_issue.1 ∈ gm_TB := gm_t3 (List.mem_of_getElem? (i := 128) (by decide +kernel)) rfl
theorem llX10_433 : Cond.methodLink RX10 433 YX4_acknowledge.1 ∈ gm_TB := gm_t3 (List.mem_of_getElem? (i := 132) (by decide +kernel)) rfl
theorem llX4_35 : Cond.methodLink RX4 35 YJ9_min_7cf53.1 ∈ gm_TB := gm_t3 (List.mem_of_getElem? (i := 136) (by decide +kernel)) rfl
theorem llX10_436 : Cond.methodLink RX10 436 YX1_take.1 ∈ gm_TB := gm_t3 (List.mem_of_getElem? (i := 139) (by decide +kernel)) rfl
theorem llX1_44 : Cond.methodLink RX1 44 YX1_takeExpected.1 ∈ gm_TB := gm_t3 (List.mem_of_getElem? (i := 143) (by decide +kernel)) rfl
theorem llX10_440 : Cond.methodLink RX10 440 YX0_hasEnded.1 ∈ gm_TB := gm_t3 (List.mem_of_getElem? (i := 147) (by decide +kernel)) rfl
theorem llX0_117 : Cond.methodLink RX0 117 YX4_isCloseAcknowledged.1 ∈ gm_TB := gm_t3 (List.mem_of_getElem? (i := 151) (by decide +kernel)) rfl
theorem llX10_160 : Cond.methodLink RX10 160 YX10_acceptPlain.1 ∈ gm_TB := gm_t3 (List.mem_of_getElem? (i := 155) (by decide +kernel)) rfl
theorem llX10_411 : Cond.methodLink RX10 411 YX10_acceptHello.1 ∈ gm_TB := gm_t3 (List.mem_of_getElem? (i := 159) (by decide +kernel)) rfl
theorem llX10_417 : Cond.methodLink RX10 417 YX7_use.1 ∈ gm_TB := gm_t3 (List.mem_of_getElem? (i := 163) (by decide +kernel)) rfl
theorem llX10_420 : Cond.methodLink RX10 420 YX10_baseOf.1 ∈ gm_TB := gm_t3 (List.mem_of_getElem? (i := 167) (by decide +kernel)) rfl
theorem llX10_424 : Cond.methodLink RX10 424 YX0_beginKeys.1 ∈ gm_TB := gm_t3 (List.mem_of_getElem? (i := 170) (by decide +kernel)) rfl
theorem llX0_103 : Cond.methodLink RX0 103 YX4_forgetSent.1 ∈ gm_TB := gm_t3 (List.mem_of_getElem? (i := 174) (by decide +kernel)) rfl
theorem llX10_414 : Cond.methodLink RX10 414 YX10_acceptReply.1 ∈ gm_TB := gm_t3 (List.mem_of_getElem? (i := 178) (by decide +kernel)) rfl
theorem llL_45 : Cond.methodLink RL 45 YX10_foresee.1 ∈ gm_TB := gm_t3 (List.mem_of_getElem? (i := 182) (by decide +kernel)) rfl
theorem llL_49 : Cond.methodLink RL 49 YX10_drop.1 ∈ gm_TB := gm_t3 (List.mem_of_getElem? (i := 186) (by decide +kernel)) rfl
theorem llL_53 : Cond.methodLink RL 53 YX10_repeat.1 ∈ gm_TB := gm_t3 (List.mem_of_getElem? (i := 190) (by decide +kernel)) rfl
theorem llL_57 : Cond.methodLink RL 57 YX10_alter.1 ∈ gm_TB := gm_t3 (List.mem_of_getElem? (i := 194) (by decide +kernel)) rfl
theorem llL_61 : Cond.methodLink RL 61 YX10_tick.1 ∈ gm_TB := gm_t3 (List.mem_of_getElem? (i := 198) (by decide +kernel)) rfl
theorem llX10_176 : Cond.methodLink RX10 176 YX10_repeatHello.1 ∈ gm_TB := gm_t3 (List.mem_of_getElem? (i := 202) (by decide +kernel)) rfl
theorem llX10_179 : Cond.methodLink RX10 179 YX10_resendLateMessages.1 ∈ gm_TB := gm_t3 (List.mem_of_getElem? (i := 206) (by decide +kernel)) rfl
theorem llX10_373 : Cond.methodLink RX10 373 YX4_forgetSentUntil.1 ∈ gm_TB := gm_t3 (List.mem_of_getElem? (i := 210) (by decide +kernel)) rfl
theorem llL_65 : Cond.methodLink RL 65 YX10_packet.1 ∈ gm_TB := gm_t3 (List.mem_of_getElem? (i := 214) (by decide +kernel)) rfl
theorem llX10_182 : Cond.methodLink RX10 182 YX5_part.1 ∈ gm_TB := gm_t3 (List.mem_of_getElem? (i := 218) (by decide +kernel)) rfl
theorem llL_69 : Cond.methodLink RL 69 YX10_endpoint.1 ∈ gm_TB := gm_t3 (List.mem_of_getElem? (i := 223) (by decide +kernel)) rfl
theorem llX10_195 : Cond.methodLink RX10 195 YX0_part.1 ∈ gm_TB := gm_t3 (List.mem_of_getElem? (i := 227) (by decide +kernel)) rfl
theorem llX0_127 : Cond.methodLink RX0 127 YX1_waitingCount.1 ∈ gm_TB := gm_t3 (List.mem_of_getElem? (i := 231) (by decide +kernel)) rfl
theorem llL_73 : Cond.methodLink RL 73 YX10_window.1 ∈ gm_TB := gm_t3 (List.mem_of_getElem? (i := 236) (by decide +kernel)) rfl
theorem llX10_200 : Cond.methodLink RX10 200 YX8_asNumber.1 ∈ gm_TB := gm_t4 (List.mem_of_getElem? (i := 0) (by decide +kernel)) rfl
theorem llL_77 : Cond.methodLink RL 77 YX10_taken.1 ∈ gm_TB := gm_t4 (List.mem_of_getElem? (i := 4) (by decide +kernel)) rfl
theorem llX10_216 : Cond.methodLink RX10 216 YX1_valueAt.1 ∈ gm_TB := gm_t4 (List.mem_of_getElem? (i := 8) (by decide +kernel)) rfl
theorem llL_81 : Cond.methodLink RL 81 YX10_kept.1 ∈ gm_TB := gm_t4 (List.mem_of_getElem? (i := 13) (by decide +kernel)) rfl
theorem llX10_225 : Cond.methodLink RX10 225 YX4_part.1 ∈ gm_TB := gm_t4 (List.mem_of_getElem? (i := 17) (by decide +kernel)) rfl
theorem llX4_42 : Cond.methodLink RX4 42 YX4_isClose.1 ∈ gm_TB := gm_t4 (List.mem_of_getElem? (i := 22) (by decide +kernel)) rfl
theorem llL_85 : Cond.methodLink RL 85 YX10_results.1 ∈ gm_TB := gm_t4 (List.mem_of_getElem? (i := 24) (by decide +kernel)) rfl
theorem llL_89 : Cond.methodLink RL 89 YX10_count.1 ∈ gm_TB := gm_t4 (List.mem_of_getElem? (i := 28) (by decide +kernel)) rfl
theorem llL_93 : Cond.methodLink RL 93 YX10_event.1 ∈ gm_TB := gm_t4 (List.mem_of_getElem? (i := 32) (by decide +kernel)) rfl
theorem llX10_240 : Cond.methodLink RX10 240 YX2_part.1 ∈ gm_TB := gm_t4 (List.mem_of_getElem? (i := 36) (by decide +kernel)) rfl
theorem llX2_35 : Cond.methodLink RX2 35 YJ9_floorMod_7cf53.1 ∈ gm_TB := gm_t4 (List.mem_of_getElem? (i := 41) (by decide +kernel)) rfl
theorem llL_97 : Cond.methodLink RL 97 YX10_agree.1 ∈ gm_TB := gm_t4 (List.mem_of_getElem? (i := 45) (by decide +kernel)) rfl
theorem llL_101 : Cond.methodLink RL 101 YX10_append.1 ∈ gm_TB := gm_t4 (List.mem_of_getElem? (i := 49) (by decide +kernel)) rfl
theorem llX10_245 : Cond.methodLink RX10 245 YX6_extend.1 ∈ gm_TB := gm_t4 (List.mem_of_getElem? (i := 53) (by decide +kernel)) rfl
theorem llL_105 : Cond.methodLink RL 105 YX10_runScript.1 ∈ gm_TB := gm_t4 (List.mem_of_getElem? (i := 57) (by decide +kernel)) rfl
theorem llX10_247 : Cond.methodLink RX10 247 YX6_parse.1 ∈ gm_TB := gm_t4 (List.mem_of_getElem? (i := 61) (by decide +kernel)) rfl
theorem llX6_34 : Cond.methodLink RX6 34 YX6_readAction.1 ∈ gm_TB := gm_t4 (List.mem_of_getElem? (i := 65) (by decide +kernel)) rfl
theorem llX6_38 : Cond.methodLink RX6 38 YX6_here.1 ∈ gm_TB := gm_t4 (List.mem_of_getElem? (i := 69) (by decide +kernel)) rfl
theorem llX6_42 : Cond.methodLink RX6 42 YX6_readDigit.1 ∈ gm_TB := gm_t4 (List.mem_of_getElem? (i := 73) (by decide +kernel)) rfl
theorem llX6_45 : Cond.methodLink RX6 45 YX6_isDigit.1 ∈ gm_TB := gm_t4 (List.mem_of_getElem? (i := 77) (by decide +kernel)) rfl
theorem llX6_48 : Cond.methodLink RX6 48 YX6_readNumber.1 ∈ gm_TB := gm_t4 (List.mem_of_getElem? (i := 81) (by decide +kernel)) rfl
theorem llX6_51 : Cond.methodLink RX6 51 YX6_addAction.1 ∈ gm_TB := gm_t4 (List.mem_of_getElem? (i := 85) (by decide +kernel)) rfl
theorem llX10_262 : Cond.methodLink RX10 262 YX10_deliver.1 ∈ gm_TB := gm_t4 (List.mem_of_getElem? (i := 89) (by decide +kernel)) rfl
theorem llX10_265 : Cond.methodLink RX10 265 YX10_drop.1 ∈ gm_TB := gm_t4 (List.mem_of_getElem? (i := 90) (by decide +kernel)) rfl
theorem llX10_268 : Cond.methodLink RX10 268 YX10_repeat.1 ∈ gm_TB := gm_t4 (List.mem_of_getElem? (i := 91) (by decide +kernel)) rfl
theorem llX10_274 : Cond.methodLink RX10 274 YX10_send.1 ∈ gm_TB := gm_t4 (List.mem_of_getElem? (i := 92) (by decide +kernel)) rfl
theorem llX10_277 : Cond.methodLink RX10 277 YX10_tick.1 ∈ gm_TB := gm_t4 (List.mem_of_getElem? (i := 93) (by decide +kernel)) rfl
theorem llX10_280 : Cond.methodLink RX10 280 YX10_isError.1 ∈ gm_TB := gm_t4 (List.mem_of_getElem? (i := 94) (by decide +kernel)) rfl
theorem llL_109 : Cond.methodLink RL 109 YX10_save.1 ∈ gm_TB := gm_t4 (List.mem_of_getElem? (i := 97) (by decide +kernel)) rfl
theorem llX10_283 : Cond.methodLink RX10 283 YX9_copyFrom.1 ∈ gm_TB := gm_t4 (List.mem_of_getElem? (i := 101) (by decide +kernel)) rfl
theorem llX9_52 : Cond.methodLink RX9 52 YX0_copyFrom.1 ∈ gm_TB := gm_t4 (List.mem_of_getElem? (i := 105) (by decide +kernel)) rfl
theorem llX0_52 : Cond.methodLink RX0 52 arraycopyName ∈ gm_TB := gm_t4 (List.mem_of_getElem? (i := 109) (by decide +kernel)) rfl
theorem llX0_58 : Cond.methodLink RX0 58 YX4_copyFrom.1 ∈ gm_TB := gm_t4 (List.mem_of_getElem? (i := 112) (by decide +kernel)) rfl
theorem llX4_28 : Cond.methodLink RX4 28 arraycopyName ∈ gm_TB := gm_t4 (List.mem_of_getElem? (i := 116) (by decide +kernel)) rfl
theorem llX0_62 : Cond.methodLink RX0 62 YX1_copyFrom.1 ∈ gm_TB := gm_t4 (List.mem_of_getElem? (i := 117) (by decide +kernel)) rfl
theorem llX1_38 : Cond.methodLink RX1 38 arraycopyName ∈ gm_TB := gm_t4 (List.mem_of_getElem? (i := 121) (by decide +kernel)) rfl
theorem llX9_56 : Cond.methodLink RX9 56 YX3_copyFrom.1 ∈ gm_TB := gm_t4 (List.mem_of_getElem? (i := 122) (by decide +kernel)) rfl
theorem llX3_22 : Cond.methodLink RX3 22 YX5_copyFrom.1 ∈ gm_TB := gm_t4 (List.mem_of_getElem? (i := 126) (by decide +kernel)) rfl
theorem llX9_59 : Cond.methodLink RX9 59 YX7_copyFrom.1 ∈ gm_TB := gm_t4 (List.mem_of_getElem? (i := 127) (by decide +kernel)) rfl
theorem llX9_62 : Cond.methodLink RX9 62 YX2_copyFrom.1 ∈ gm_TB := gm_t4 (List.mem_of_getElem? (i := 131) (by decide +kernel)) rfl
theorem llX2_28 : Cond.methodLink RX2 28 arraycopyName ∈ gm_TB := gm_t4 (List.mem_of_getElem? (i := 135) (by decide +kernel)) rfl
theorem llL_113 : Cond.methodLink RL 113 YX10_restore.1 ∈ gm_TB := gm_t4 (List.mem_of_getElem? (i := 136) (by decide +kernel)) rfl
theorem llL_17 : Cond.methodLink RL 17 YX11_configure.1 ∈ gm_TB := gm_t5 (List.mem_of_getElem? (i := 81) (by decide +kernel)) rfl
theorem llX11_137 : Cond.methodLink RX11 137 YX11_isBetween.1 ∈ gm_TB := gm_t5 (List.mem_of_getElem? (i := 85) (by decide +kernel)) rfl
theorem llL_22 : Cond.methodLink RL 22 YX11_connect.1 ∈ gm_TB := gm_t5 (List.mem_of_getElem? (i := 89) (by decide +kernel)) rfl
theorem llX11_159 : Cond.methodLink RX11 159 YX11_hasRoom.1 ∈ gm_TB := gm_t5 (List.mem_of_getElem? (i := 94) (by decide +kernel)) rfl
theorem llX11_198 : Cond.methodLink RX11 198 YX11_beginsStream.1 ∈ gm_TB := gm_t5 (List.mem_of_getElem? (i := 99) (by decide +kernel)) rfl
theorem llX11_146 : Cond.methodLink RX11 146 YX11_clearsWaiting.1 ∈ gm_TB := gm_t5 (List.mem_of_getElem? (i := 103) (by decide +kernel)) rfl
theorem llX11_201 : Cond.methodLink RX11 201 YX11_greets.1 ∈ gm_TB := gm_t5 (List.mem_of_getElem? (i := 107) (by decide +kernel)) rfl
theorem llX11_185 : Cond.methodLink RX11 185 YX11_becomes.1 ∈ gm_TB := gm_t5 (List.mem_of_getElem? (i := 111) (by decide +kernel)) rfl
theorem llX11_142 : Cond.methodLink RX11 142 YX11_logs.1 ∈ gm_TB := gm_t5 (List.mem_of_getElem? (i := 115) (by decide +kernel)) rfl
theorem llX11_189 : Cond.methodLink RX11 189 YX11_sendsPlain.1 ∈ gm_TB := gm_t5 (List.mem_of_getElem? (i := 119) (by decide +kernel)) rfl
theorem llX11_163 : Cond.methodLink RX11 163 YX11_appends.1 ∈ gm_TB := gm_t5 (List.mem_of_getElem? (i := 123) (by decide +kernel)) rfl
theorem llL_26 : Cond.methodLink RL 26 YX11_resume.1 ∈ gm_TB := gm_t5 (List.mem_of_getElem? (i := 127) (by decide +kernel)) rfl
theorem llL_31 : Cond.methodLink RL 31 YX11_disconnect.1 ∈ gm_TB := gm_t5 (List.mem_of_getElem? (i := 132) (by decide +kernel)) rfl
theorem llL_36 : Cond.methodLink RL 36 YX11_send.1 ∈ gm_TB := gm_t5 (List.mem_of_getElem? (i := 136) (by decide +kernel)) rfl
theorem llX11_211 : Cond.methodLink RX11 211 YX11_isEndpoint.1 ∈ gm_TB := gm_t5 (List.mem_of_getElem? (i := 140) (by decide +kernel)) rfl
theorem llX11_215 : Cond.methodLink RX11 215 YX11_notSending.1 ∈ gm_TB := gm_t5 (List.mem_of_getElem? (i := 143) (by decide +kernel)) rfl
theorem llX11_219 : Cond.methodLink RX11 219 YX11_comes.1 ∈ gm_TB := gm_t5 (List.mem_of_getElem? (i := 147) (by decide +kernel)) rfl
theorem llX11_208 : Cond.methodLink RX11 208 YX11_sendsDue.1 ∈ gm_TB := gm_t5 (List.mem_of_getElem? (i := 151) (by decide +kernel)) rfl
theorem llX11_175 : Cond.methodLink RX11 175 YX11_sendsProtected.1 ∈ gm_TB := gm_t5 (List.mem_of_getElem? (i := 155) (by decide +kernel)) rfl
theorem llX11_171 : Cond.methodLink RX11 171 YX11_tagOf.1 ∈ gm_TB := gm_t5 (List.mem_of_getElem? (i := 159) (by decide +kernel)) rfl
theorem llX11_167 : Cond.methodLink RX11 167 YX11_mix.1 ∈ gm_TB := gm_t5 (List.mem_of_getElem? (i := 162) (by decide +kernel)) rfl
theorem llL_40 : Cond.methodLink RL 40 YX11_close.1 ∈ gm_TB := gm_t5 (List.mem_of_getElem? (i := 165) (by decide +kernel)) rfl
theorem llL_44 : Cond.methodLink RL 44 YX11_deliver.1 ∈ gm_TB := gm_t5 (List.mem_of_getElem? (i := 169) (by decide +kernel)) rfl
theorem llX11_268 : Cond.methodLink RX11 268 YX11_isPacket.1 ∈ gm_TB := gm_t5 (List.mem_of_getElem? (i := 173) (by decide +kernel)) rfl
theorem llX11_271 : Cond.methodLink RX11 271 YX11_resultOf.1 ∈ gm_TB := gm_t5 (List.mem_of_getElem? (i := 177) (by decide +kernel)) rfl
theorem llX11_229 : Cond.methodLink RX11 229 YX11_at.1 ∈ gm_TB := gm_t5 (List.mem_of_getElem? (i := 181) (by decide +kernel)) rfl
theorem llX11_232 : Cond.methodLink RX11 232 YX11_takesKind.1 ∈ gm_TB := gm_t5 (List.mem_of_getElem? (i := 185) (by decide +kernel)) rfl
theorem llX11_236 : Cond.methodLink RX11 236 YX11_isTicket.1 ∈ gm_TB := gm_t5 (List.mem_of_getElem? (i := 189) (by decide +kernel)) rfl
theorem llX11_239 : Cond.methodLink RX11 239 YX11_protectedResult.1 ∈ gm_TB := gm_t5 (List.mem_of_getElem? (i := 193) (by decide +kernel)) rfl
theorem llX11_243 : Cond.methodLink RX11 243 YX11_isOwnEpoch.1 ∈ gm_TB := gm_t5 (List.mem_of_getElem? (i := 197) (by decide +kernel)) rfl
theorem llX11_226 : Cond.methodLink RX11 226 YX11_hasOld.1 ∈ gm_TB := gm_t5 (List.mem_of_getElem? (i := 201) (by decide +kernel)) rfl
theorem llX11_274 : Cond.methodLink RX11 274 YX11_removes.1 ∈ gm_TB := gm_t5 (List.mem_of_getElem? (i := 205) (by decide +kernel)) rfl
theorem llX11_280 : Cond.methodLink RX11 280 YX11_answersHello.1 ∈ gm_TB := gm_t5 (List.mem_of_getElem? (i := 209) (by decide +kernel)) rfl
theorem llX11_253 : Cond.methodLink RX11 253 YX11_beginsWindows.1 ∈ gm_TB := gm_t5 (List.mem_of_getElem? (i := 213) (by decide +kernel)) rfl
theorem llX11_283 : Cond.methodLink RX11 283 YX11_hasReply.1 ∈ gm_TB := gm_t5 (List.mem_of_getElem? (i := 217) (by decide +kernel)) rfl
theorem llX11_286 : Cond.methodLink RX11 286 YX11_hasProtected.1 ∈ gm_TB := gm_t5 (List.mem_of_getElem? (i := 221) (by decide +kernel)) rfl
theorem llX11_256 : Cond.methodLink RX11 256 YX11_enters.1 ∈ gm_TB := gm_t5 (List.mem_of_getElem? (i := 225) (by decide +kernel)) rfl
theorem llX11_246 : Cond.methodLink RX11 246 YX11_setWith.1 ∈ gm_TB := gm_t5 (List.mem_of_getElem? (i := 229) (by decide +kernel)) rfl
theorem llX11_259 : Cond.methodLink RX11 259 YX11_issues.1 ∈ gm_TB := gm_t5 (List.mem_of_getElem? (i := 232) (by decide +kernel)) rfl
theorem llX11_262 : Cond.methodLink RX11 262 YX11_acknowledges.1 ∈ gm_TB := gm_t5 (List.mem_of_getElem? (i := 236) (by decide +kernel)) rfl
theorem llX11_265 : Cond.methodLink RX11 265 YX11_takes.1 ∈ gm_TB := gm_t6 (List.mem_of_getElem? (i := 0) (by decide +kernel)) rfl
theorem llX11_249 : Cond.methodLink RX11 249 YX11_takesExpected.1 ∈ gm_TB := gm_t6 (List.mem_of_getElem? (i := 4) (by decide +kernel)) rfl
theorem llL_48 : Cond.methodLink RL 48 YX11_foresee.1 ∈ gm_TB := gm_t6 (List.mem_of_getElem? (i := 8) (by decide +kernel)) rfl
theorem llL_52 : Cond.methodLink RL 52 YX11_drop.1 ∈ gm_TB := gm_t6 (List.mem_of_getElem? (i := 12) (by decide +kernel)) rfl
theorem llL_56 : Cond.methodLink RL 56 YX11_repeat.1 ∈ gm_TB := gm_t6 (List.mem_of_getElem? (i := 16) (by decide +kernel)) rfl
theorem llL_60 : Cond.methodLink RL 60 YX11_alter.1 ∈ gm_TB := gm_t6 (List.mem_of_getElem? (i := 20) (by decide +kernel)) rfl
theorem llL_64 : Cond.methodLink RL 64 YX11_tick.1 ∈ gm_TB := gm_t6 (List.mem_of_getElem? (i := 24) (by decide +kernel)) rfl
theorem llX11_292 : Cond.methodLink RX11 292 YX11_ticks.1 ∈ gm_TB := gm_t6 (List.mem_of_getElem? (i := 28) (by decide +kernel)) rfl
theorem llL_68 : Cond.methodLink RL 68 YX11_packet.1 ∈ gm_TB := gm_t6 (List.mem_of_getElem? (i := 32) (by decide +kernel)) rfl
theorem llL_72 : Cond.methodLink RL 72 YX11_endpoint.1 ∈ gm_TB := gm_t6 (List.mem_of_getElem? (i := 36) (by decide +kernel)) rfl
theorem llX11_295 : Cond.methodLink RX11 295 YX11_waiting.1 ∈ gm_TB := gm_t6 (List.mem_of_getElem? (i := 40) (by decide +kernel)) rfl
theorem llL_76 : Cond.methodLink RL 76 YX11_window.1 ∈ gm_TB := gm_t6 (List.mem_of_getElem? (i := 44) (by decide +kernel)) rfl
theorem llL_80 : Cond.methodLink RL 80 YX11_taken.1 ∈ gm_TB := gm_t6 (List.mem_of_getElem? (i := 48) (by decide +kernel)) rfl
theorem llL_84 : Cond.methodLink RL 84 YX11_kept.1 ∈ gm_TB := gm_t6 (List.mem_of_getElem? (i := 52) (by decide +kernel)) rfl
theorem llL_88 : Cond.methodLink RL 88 YX11_results.1 ∈ gm_TB := gm_t6 (List.mem_of_getElem? (i := 56) (by decide +kernel)) rfl
theorem llL_92 : Cond.methodLink RL 92 YX11_count.1 ∈ gm_TB := gm_t6 (List.mem_of_getElem? (i := 60) (by decide +kernel)) rfl
theorem llL_96 : Cond.methodLink RL 96 YX11_event.1 ∈ gm_TB := gm_t6 (List.mem_of_getElem? (i := 64) (by decide +kernel)) rfl
theorem llL_100 : Cond.methodLink RL 100 YX11_agree.1 ∈ gm_TB := gm_t6 (List.mem_of_getElem? (i := 68) (by decide +kernel)) rfl
theorem llL_104 : Cond.methodLink RL 104 YX11_append.1 ∈ gm_TB := gm_t6 (List.mem_of_getElem? (i := 72) (by decide +kernel)) rfl
theorem llL_108 : Cond.methodLink RL 108 YX11_runScript.1 ∈ gm_TB := gm_t6 (List.mem_of_getElem? (i := 76) (by decide +kernel)) rfl
theorem llX11_331 : Cond.methodLink RX11 331 YX11_takesScript.1 ∈ gm_TB := gm_t6 (List.mem_of_getElem? (i := 80) (by decide +kernel)) rfl
theorem llX11_313 : Cond.methodLink RX11 313 YX11_takesAction.1 ∈ gm_TB := gm_t6 (List.mem_of_getElem? (i := 84) (by decide +kernel)) rfl
theorem llX11_304 : Cond.methodLink RX11 304 YX11_isDigit.1 ∈ gm_TB := gm_t6 (List.mem_of_getElem? (i := 88) (by decide +kernel)) rfl
theorem llX11_310 : Cond.methodLink RX11 310 YX11_takesNumber.1 ∈ gm_TB := gm_t6 (List.mem_of_getElem? (i := 92) (by decide +kernel)) rfl
theorem llX11_334 : Cond.methodLink RX11 334 YX11_does.1 ∈ gm_TB := gm_t6 (List.mem_of_getElem? (i := 96) (by decide +kernel)) rfl
theorem llX11_316 : Cond.methodLink RX11 316 YX11_deliver.1 ∈ gm_TB := gm_t6 (List.mem_of_getElem? (i := 100) (by decide +kernel)) rfl
theorem llX11_319 : Cond.methodLink RX11 319 YX11_drop.1 ∈ gm_TB := gm_t6 (List.mem_of_getElem? (i := 101) (by decide +kernel)) rfl
theorem llX11_322 : Cond.methodLink RX11 322 YX11_repeat.1 ∈ gm_TB := gm_t6 (List.mem_of_getElem? (i := 102) (by decide +kernel)) rfl
theorem llX11_325 : Cond.methodLink RX11 325 YX11_send.1 ∈ gm_TB := gm_t6 (List.mem_of_getElem? (i := 103) (by decide +kernel)) rfl
theorem llX11_328 : Cond.methodLink RX11 328 YX11_tick.1 ∈ gm_TB := gm_t6 (List.mem_of_getElem? (i := 104) (by decide +kernel)) rfl
theorem llX11_337 : Cond.methodLink RX11 337 YX11_isError.1 ∈ gm_TB := gm_t6 (List.mem_of_getElem? (i := 105) (by decide +kernel)) rfl
theorem llL_112 : Cond.methodLink RL 112 YX11_save.1 ∈ gm_TB := gm_t6 (List.mem_of_getElem? (i := 108) (by decide +kernel)) rfl
theorem llX11_360 : Cond.methodLink RX11 360 YX11_handsAll.1 ∈ gm_TB := gm_t6 (List.mem_of_getElem? (i := 112) (by decide +kernel)) rfl
theorem llX11_351 : Cond.methodLink RX11 351 YX11_handsEndpoints.1 ∈ gm_TB := gm_t6 (List.mem_of_getElem? (i := 116) (by decide +kernel)) rfl
theorem llX11_347 : Cond.methodLink RX11 347 YX11_hands.1 ∈ gm_TB := gm_t6 (List.mem_of_getElem? (i := 120) (by decide +kernel)) rfl
theorem llX11_354 : Cond.methodLink RX11 354 YX11_hand.1 ∈ gm_TB := gm_t6 (List.mem_of_getElem? (i := 124) (by decide +kernel)) rfl
theorem llL_116 : Cond.methodLink RL 116 YX11_restore.1 ∈ gm_TB := gm_t6 (List.mem_of_getElem? (i := 128) (by decide +kernel)) rfl
theorem gm_aci : Cond.initialized "java/lang/System" ∈ gm_TB := gm_t1 (List.mem_of_getElem? (i := 14) (by decide +kernel)) rfl
theorem gm_acs : Cond.static arraycopyName ∈ gm_TB := gm_t4 (List.mem_of_getElem? (i := 110) (by decide +kernel)) rfl
theorem gm_acn : Cond.native arraycopyName ∈ gm_TB := gm_t4 (List.mem_of_getElem? (i := 111) (by decide +kernel)) rfl
