/-! names of the reference -/
abbrev b_Mo_raise : ByteArray := prog_8_method_3_code
abbrev y_Mo_raise : MethodName := ⟨"AreaRoutersModel", "raise", "(I)I"⟩
theorem sz_Mo_raise : cz_S (.code y_Mo_raise b_Mo_raise 2 (some .int)) y_Mo_raise b_Mo_raise 2 (some .int) 1 := ⟨rfl, lt_3 (i := 229) (by set_option maxRecDepth 100000 in exact rfl), lt_1 (i := 7) (by set_option maxRecDepth 100000 in exact rfl), by decide +kernel, by decide +kernel⟩
theorem tz_Mo_raise : cz_V y_Mo_raise := ⟨lt_3 (i := 228) (by set_option maxRecDepth 100000 in exact rfl), List.mem_of_getElem? (i := 64) (by decide +kernel)⟩
abbrev b_Mo_isOne : ByteArray := prog_8_method_4_code
abbrev y_Mo_isOne : MethodName := ⟨"AreaRoutersModel", "isOne", "(I)Z"⟩
theorem sz_Mo_isOne : cz_S (.code y_Mo_isOne b_Mo_isOne 1 (some .boolean)) y_Mo_isOne b_Mo_isOne 1 (some .boolean) 1 := ⟨rfl, lt_3 (i := 221) (by set_option maxRecDepth 100000 in exact rfl), lt_1 (i := 7) (by set_option maxRecDepth 100000 in exact rfl), by decide +kernel, by decide +kernel⟩
theorem tz_Mo_isOne : Cond.static y_Mo_isOne ∈ lw_tbl := lt_3 (i := 220) (by set_option maxRecDepth 100000 in exact rfl)
abbrev b_Mo_has : ByteArray := prog_8_method_5_code
abbrev y_Mo_has : MethodName := ⟨"AreaRoutersModel", "has", "(II)Z"⟩
theorem sz_Mo_has : cz_S (.code y_Mo_has b_Mo_has 3 (some .boolean)) y_Mo_has b_Mo_has 3 (some .boolean) 2 := ⟨rfl, lt_3 (i := 237) (by set_option maxRecDepth 100000 in exact rfl), lt_1 (i := 7) (by set_option maxRecDepth 100000 in exact rfl), by decide +kernel, by decide +kernel⟩
theorem tz_Mo_has : cz_V y_Mo_has := ⟨lt_3 (i := 236) (by set_option maxRecDepth 100000 in exact rfl), List.mem_of_getElem? (i := 66) (by decide +kernel)⟩
abbrev b_Mo_isOn : ByteArray := prog_8_method_6_code
abbrev y_Mo_isOn : MethodName := ⟨"AreaRoutersModel", "isOn", "(II)Z"⟩
theorem sz_Mo_isOn : cz_S (.code y_Mo_isOn b_Mo_isOn 3 (some .boolean)) y_Mo_isOn b_Mo_isOn 3 (some .boolean) 2 := ⟨rfl, lt_3 (i := 225) (by set_option maxRecDepth 100000 in exact rfl), lt_1 (i := 7) (by set_option maxRecDepth 100000 in exact rfl), by decide +kernel, by decide +kernel⟩
theorem tz_Mo_isOn : cz_V y_Mo_isOn := ⟨lt_3 (i := 224) (by set_option maxRecDepth 100000 in exact rfl), List.mem_of_getElem? (i := 63) (by decide +kernel)⟩
abbrev b_Mo_circuits : ByteArray := prog_8_method_7_code
abbrev y_Mo_circuits : MethodName := ⟨"AreaRoutersModel", "circuits", "(I)I"⟩
theorem sz_Mo_circuits : cz_S (.code y_Mo_circuits b_Mo_circuits 4 (some .int)) y_Mo_circuits b_Mo_circuits 4 (some .int) 1 := ⟨rfl, lt_4 (i := 63) (by set_option maxRecDepth 100000 in exact rfl), lt_1 (i := 7) (by set_option maxRecDepth 100000 in exact rfl), by decide +kernel, by decide +kernel⟩
theorem tz_Mo_circuits : cz_V y_Mo_circuits := ⟨lt_4 (i := 62) (by set_option maxRecDepth 100000 in exact rfl), List.mem_of_getElem? (i := 80) (by decide +kernel)⟩
abbrev b_Mo_attached : ByteArray := prog_8_method_8_code
abbrev y_Mo_attached : MethodName := ⟨"AreaRoutersModel", "attached", "(I)I"⟩
theorem sz_Mo_attached : cz_S (.code y_Mo_attached b_Mo_attached 4 (some .int)) y_Mo_attached b_Mo_attached 4 (some .int) 1 := ⟨rfl, lt_4 (i := 23) (by set_option maxRecDepth 100000 in exact rfl), lt_1 (i := 7) (by set_option maxRecDepth 100000 in exact rfl), by decide +kernel, by decide +kernel⟩
theorem tz_Mo_attached : cz_V y_Mo_attached := ⟨lt_4 (i := 22) (by set_option maxRecDepth 100000 in exact rfl), List.mem_of_getElem? (i := 70) (by decide +kernel)⟩
abbrev b_Mo_isShared : ByteArray := prog_8_method_9_code
abbrev y_Mo_isShared : MethodName := ⟨"AreaRoutersModel", "isShared", "(I)Z"⟩
theorem sz_Mo_isShared : cz_S (.code y_Mo_isShared b_Mo_isShared 2 (some .boolean)) y_Mo_isShared b_Mo_isShared 2 (some .boolean) 1 := ⟨rfl, lt_4 (i := 19) (by set_option maxRecDepth 100000 in exact rfl), lt_1 (i := 7) (by set_option maxRecDepth 100000 in exact rfl), by decide +kernel, by decide +kernel⟩
theorem tz_Mo_isShared : cz_V y_Mo_isShared := ⟨lt_4 (i := 18) (by set_option maxRecDepth 100000 in exact rfl), List.mem_of_getElem? (i := 69) (by decide +kernel)⟩
abbrev b_Mo_ear : ByteArray := prog_8_method_10_code
abbrev y_Mo_ear : MethodName := ⟨"AreaRoutersModel", "ear", "(IIII)I"⟩
theorem sz_Mo_ear : cz_S (.code y_Mo_ear b_Mo_ear 4 (some .int)) y_Mo_ear b_Mo_ear 4 (some .int) 4 := ⟨rfl, lt_4 (i := 0) (by set_option maxRecDepth 100000 in exact rfl), lt_1 (i := 7) (by set_option maxRecDepth 100000 in exact rfl), by decide +kernel, by decide +kernel⟩
theorem tz_Mo_ear : Cond.static y_Mo_ear ∈ lw_tbl := lt_3 (i := 239) (by set_option maxRecDepth 100000 in exact rfl)
abbrev b_Mo_near : ByteArray := prog_8_method_11_code
abbrev y_Mo_near : MethodName := ⟨"AreaRoutersModel", "near", "(IIII)Z"⟩
theorem sz_Mo_near : cz_S (.code y_Mo_near b_Mo_near 6 (some .boolean)) y_Mo_near b_Mo_near 6 (some .boolean) 4 := ⟨rfl, lt_4 (i := 31) (by set_option maxRecDepth 100000 in exact rfl), lt_1 (i := 7) (by set_option maxRecDepth 100000 in exact rfl), by decide +kernel, by decide +kernel⟩
theorem tz_Mo_near : cz_V y_Mo_near := ⟨lt_4 (i := 30) (by set_option maxRecDepth 100000 in exact rfl), List.mem_of_getElem? (i := 72) (by decide +kernel)⟩
abbrev b_Mo_anyNear : ByteArray := prog_8_method_12_code
abbrev y_Mo_anyNear : MethodName := ⟨"AreaRoutersModel", "anyNear", "(III)Z"⟩
theorem sz_Mo_anyNear : cz_S (.code y_Mo_anyNear b_Mo_anyNear 6 (some .boolean)) y_Mo_anyNear b_Mo_anyNear 6 (some .boolean) 3 := ⟨rfl, lt_4 (i := 27) (by set_option maxRecDepth 100000 in exact rfl), lt_1 (i := 7) (by set_option maxRecDepth 100000 in exact rfl), by decide +kernel, by decide +kernel⟩
theorem tz_Mo_anyNear : cz_V y_Mo_anyNear := ⟨lt_4 (i := 26) (by set_option maxRecDepth 100000 in exact rfl), List.mem_of_getElem? (i := 71) (by decide +kernel)⟩
abbrev b_Mo_speakerOf : ByteArray := prog_8_method_13_code
abbrev y_Mo_speakerOf : MethodName := ⟨"AreaRoutersModel", "speakerOf", "(III)I"⟩
theorem sz_Mo_speakerOf : cz_S (.code y_Mo_speakerOf b_Mo_speakerOf 8 (some .int)) y_Mo_speakerOf b_Mo_speakerOf 8 (some .int) 3 := ⟨rfl, lt_4 (i := 35) (by set_option maxRecDepth 100000 in exact rfl), lt_1 (i := 7) (by set_option maxRecDepth 100000 in exact rfl), by decide +kernel, by decide +kernel⟩
theorem tz_Mo_speakerOf : cz_V y_Mo_speakerOf := ⟨lt_4 (i := 34) (by set_option maxRecDepth 100000 in exact rfl), List.mem_of_getElem? (i := 73) (by decide +kernel)⟩
abbrev b_Mo_barred : ByteArray := prog_8_method_14_code
abbrev y_Mo_barred : MethodName := ⟨"AreaRoutersModel", "barred", "(II)I"⟩
theorem sz_Mo_barred : cz_S (.code y_Mo_barred b_Mo_barred 3 (some .int)) y_Mo_barred b_Mo_barred 3 (some .int) 2 := ⟨rfl, lt_3 (i := 218) (by set_option maxRecDepth 100000 in exact rfl), lt_1 (i := 7) (by set_option maxRecDepth 100000 in exact rfl), by decide +kernel, by decide +kernel⟩
theorem tz_Mo_barred : cz_V y_Mo_barred := ⟨lt_3 (i := 217) (by set_option maxRecDepth 100000 in exact rfl), List.mem_of_getElem? (i := 62) (by decide +kernel)⟩
abbrev b_Mo_barredAt : ByteArray := prog_8_method_15_code
abbrev y_Mo_barredAt : MethodName := ⟨"AreaRoutersModel", "barredAt", "(III)I"⟩
theorem sz_Mo_barredAt : cz_S (.code y_Mo_barredAt b_Mo_barredAt 5 (some .int)) y_Mo_barredAt b_Mo_barredAt 5 (some .int) 3 := ⟨rfl, lt_4 (i := 75) (by set_option maxRecDepth 100000 in exact rfl), lt_1 (i := 7) (by set_option maxRecDepth 100000 in exact rfl), by decide +kernel, by decide +kernel⟩
theorem tz_Mo_barredAt : cz_V y_Mo_barredAt := ⟨lt_4 (i := 74) (by set_option maxRecDepth 100000 in exact rfl), List.mem_of_getElem? (i := 82) (by decide +kernel)⟩
abbrev b_Mo_receives : ByteArray := prog_8_method_16_code
abbrev y_Mo_receives : MethodName := ⟨"AreaRoutersModel", "receives", "(IIII)Z"⟩
theorem sz_Mo_receives : cz_S (.code y_Mo_receives b_Mo_receives 5 (some .boolean)) y_Mo_receives b_Mo_receives 5 (some .boolean) 4 := ⟨rfl, lt_3 (i := 233) (by set_option maxRecDepth 100000 in exact rfl), lt_1 (i := 7) (by set_option maxRecDepth 100000 in exact rfl), by decide +kernel, by decide +kernel⟩
theorem tz_Mo_receives : cz_V y_Mo_receives := ⟨lt_3 (i := 232) (by set_option maxRecDepth 100000 in exact rfl), List.mem_of_getElem? (i := 65) (by decide +kernel)⟩
abbrev b_Mo_hello : ByteArray := prog_8_method_17_code
abbrev y_Mo_hello : MethodName := ⟨"AreaRoutersModel", "hello", "(III)I"⟩
theorem sz_Mo_hello : cz_S (.code y_Mo_hello b_Mo_hello 9 (some .int)) y_Mo_hello b_Mo_hello 9 (some .int) 3 := ⟨rfl, lt_3 (i := 214) (by set_option maxRecDepth 100000 in exact rfl), lt_1 (i := 7) (by set_option maxRecDepth 100000 in exact rfl), by decide +kernel, by decide +kernel⟩
theorem tz_Mo_hello : cz_V y_Mo_hello := ⟨lt_3 (i := 212) (by set_option maxRecDepth 100000 in exact rfl), lt_3 (i := 213) (by set_option maxRecDepth 100000 in exact rfl)⟩
abbrev b_Mo_at : ByteArray := prog_8_method_18_code
abbrev y_Mo_at : MethodName := ⟨"AreaRoutersModel", "at", "(III)I"⟩
theorem sz_Mo_at : cz_S (.code y_Mo_at b_Mo_at 3 (some .int)) y_Mo_at b_Mo_at 3 (some .int) 3 := ⟨rfl, lt_4 (i := 11) (by set_option maxRecDepth 100000 in exact rfl), lt_1 (i := 7) (by set_option maxRecDepth 100000 in exact rfl), by decide +kernel, by decide +kernel⟩
theorem tz_Mo_at : Cond.static y_Mo_at ∈ lw_tbl := lt_4 (i := 10) (by set_option maxRecDepth 100000 in exact rfl)
abbrev b_Mo_put : ByteArray := prog_8_method_19_code
abbrev y_Mo_put : MethodName := ⟨"AreaRoutersModel", "put", "(II)V"⟩
theorem sz_Mo_put : cz_S (.code y_Mo_put b_Mo_put 3 none) y_Mo_put b_Mo_put 3 none 2 := ⟨rfl, lt_4 (i := 39) (by set_option maxRecDepth 100000 in exact rfl), lt_1 (i := 7) (by set_option maxRecDepth 100000 in exact rfl), by decide +kernel, by decide +kernel⟩
theorem tz_Mo_put : cz_V y_Mo_put := ⟨lt_4 (i := 38) (by set_option maxRecDepth 100000 in exact rfl), List.mem_of_getElem? (i := 74) (by decide +kernel)⟩
abbrev b_Mo_ownLink : ByteArray := prog_8_method_21_code
abbrev y_Mo_ownLink : MethodName := ⟨"AreaRoutersModel", "ownLink", "(III)V"⟩
theorem sz_Mo_ownLink : cz_S (.code y_Mo_ownLink b_Mo_ownLink 5 none) y_Mo_ownLink b_Mo_ownLink 5 none 3 := ⟨rfl, lt_4 (i := 43) (by set_option maxRecDepth 100000 in exact rfl), lt_1 (i := 7) (by set_option maxRecDepth 100000 in exact rfl), by decide +kernel, by decide +kernel⟩
theorem tz_Mo_ownLink : cz_V y_Mo_ownLink := ⟨lt_4 (i := 42) (by set_option maxRecDepth 100000 in exact rfl), List.mem_of_getElem? (i := 75) (by decide +kernel)⟩
abbrev b_Mo_describes : ByteArray := prog_8_method_20_code
abbrev y_Mo_describes : MethodName := ⟨"AreaRoutersModel", "describes", "(III)Z"⟩
theorem sz_Mo_describes : cz_S (.code y_Mo_describes b_Mo_describes 6 (some .boolean)) y_Mo_describes b_Mo_describes 6 (some .boolean) 3 := ⟨rfl, lt_4 (i := 15) (by set_option maxRecDepth 100000 in exact rfl), lt_1 (i := 7) (by set_option maxRecDepth 100000 in exact rfl), by decide +kernel, by decide +kernel⟩
theorem tz_Mo_describes : cz_V y_Mo_describes := ⟨lt_4 (i := 14) (by set_option maxRecDepth 100000 in exact rfl), List.mem_of_getElem? (i := 68) (by decide +kernel)⟩
abbrev b_Mo_leavesArea : ByteArray := prog_8_method_22_code
abbrev y_Mo_leavesArea : MethodName := ⟨"AreaRoutersModel", "leavesArea", "(I)Z"⟩
theorem sz_Mo_leavesArea : cz_S (.code y_Mo_leavesArea b_Mo_leavesArea 5 (some .boolean)) y_Mo_leavesArea b_Mo_leavesArea 5 (some .boolean) 1 := ⟨rfl, lt_4 (i := 55) (by set_option maxRecDepth 100000 in exact rfl), lt_1 (i := 7) (by set_option maxRecDepth 100000 in exact rfl), by decide +kernel, by decide +kernel⟩
theorem tz_Mo_leavesArea : cz_V y_Mo_leavesArea := ⟨lt_4 (i := 54) (by set_option maxRecDepth 100000 in exact rfl), List.mem_of_getElem? (i := 78) (by decide +kernel)⟩
abbrev b_Mo_exits : ByteArray := prog_8_method_23_code
abbrev y_Mo_exits : MethodName := ⟨"AreaRoutersModel", "exits", "(III)Z"⟩
theorem sz_Mo_exits : cz_S (.code y_Mo_exits b_Mo_exits 4 (some .boolean)) y_Mo_exits b_Mo_exits 4 (some .boolean) 3 := ⟨rfl, lt_4 (i := 51) (by set_option maxRecDepth 100000 in exact rfl), lt_1 (i := 7) (by set_option maxRecDepth 100000 in exact rfl), by decide +kernel, by decide +kernel⟩
theorem tz_Mo_exits : cz_V y_Mo_exits := ⟨lt_4 (i := 50) (by set_option maxRecDepth 100000 in exact rfl), List.mem_of_getElem? (i := 77) (by decide +kernel)⟩
abbrev b_Mo_sameLinks : ByteArray := prog_8_method_24_code
abbrev y_Mo_sameLinks : MethodName := ⟨"AreaRoutersModel", "sameLinks", "(I)Z"⟩
theorem sz_Mo_sameLinks : cz_S (.code y_Mo_sameLinks b_Mo_sameLinks 4 (some .boolean)) y_Mo_sameLinks b_Mo_sameLinks 4 (some .boolean) 1 := ⟨rfl, lt_4 (i := 47) (by set_option maxRecDepth 100000 in exact rfl), lt_1 (i := 7) (by set_option maxRecDepth 100000 in exact rfl), by decide +kernel, by decide +kernel⟩
theorem tz_Mo_sameLinks : cz_V y_Mo_sameLinks := ⟨lt_4 (i := 46) (by set_option maxRecDepth 100000 in exact rfl), List.mem_of_getElem? (i := 76) (by decide +kernel)⟩
abbrev b_Mo_renew : ByteArray := prog_8_method_25_code
abbrev y_Mo_renew : MethodName := ⟨"AreaRoutersModel", "renew", "(III)V"⟩
theorem sz_Mo_renew : cz_S (.code y_Mo_renew b_Mo_renew 6 none) y_Mo_renew b_Mo_renew 6 none 3 := ⟨rfl, lt_4 (i := 59) (by set_option maxRecDepth 100000 in exact rfl), lt_1 (i := 7) (by set_option maxRecDepth 100000 in exact rfl), by decide +kernel, by decide +kernel⟩
theorem tz_Mo_renew : cz_V y_Mo_renew := ⟨lt_4 (i := 58) (by set_option maxRecDepth 100000 in exact rfl), List.mem_of_getElem? (i := 79) (by decide +kernel)⟩
abbrev b_Mo_die : ByteArray := prog_8_method_26_code
abbrev y_Mo_die : MethodName := ⟨"AreaRoutersModel", "die", "(II)V"⟩
theorem sz_Mo_die : cz_S (.code y_Mo_die b_Mo_die 3 none) y_Mo_die b_Mo_die 3 none 2 := ⟨rfl, lt_4 (i := 67) (by set_option maxRecDepth 100000 in exact rfl), lt_1 (i := 7) (by set_option maxRecDepth 100000 in exact rfl), by decide +kernel, by decide +kernel⟩
theorem tz_Mo_die : cz_V y_Mo_die := ⟨lt_4 (i := 66) (by set_option maxRecDepth 100000 in exact rfl), List.mem_of_getElem? (i := 81) (by decide +kernel)⟩
abbrev b_Mo_part : ByteArray := prog_8_method_27_code
abbrev y_Mo_part : MethodName := ⟨"AreaRoutersModel", "part", "(III)Z"⟩
theorem sz_Mo_part : cz_S (.code y_Mo_part b_Mo_part 6 (some .boolean)) y_Mo_part b_Mo_part 6 (some .boolean) 3 := ⟨rfl, lt_4 (i := 8) (by set_option maxRecDepth 100000 in exact rfl), lt_1 (i := 7) (by set_option maxRecDepth 100000 in exact rfl), by decide +kernel, by decide +kernel⟩
theorem tz_Mo_part : cz_V y_Mo_part := ⟨lt_4 (i := 7) (by set_option maxRecDepth 100000 in exact rfl), List.mem_of_getElem? (i := 67) (by decide +kernel)⟩
abbrev b_Mo_describe : ByteArray := prog_8_method_28_code
abbrev y_Mo_describe : MethodName := ⟨"AreaRoutersModel", "describe", "(I)I"⟩
theorem sz_Mo_describe : cz_S (.code y_Mo_describe b_Mo_describe 5 (some .int)) y_Mo_describe b_Mo_describe 5 (some .int) 1 := ⟨rfl, lt_4 (i := 4) (by set_option maxRecDepth 100000 in exact rfl), lt_1 (i := 7) (by set_option maxRecDepth 100000 in exact rfl), by decide +kernel, by decide +kernel⟩
theorem tz_Mo_describe : cz_V y_Mo_describe := ⟨lt_4 (i := 2) (by set_option maxRecDepth 100000 in exact rfl), lt_4 (i := 3) (by set_option maxRecDepth 100000 in exact rfl)⟩
abbrev b_Mo_newer : ByteArray := prog_8_method_29_code
abbrev y_Mo_newer : MethodName := ⟨"AreaRoutersModel", "newer", "(IZIZ)Z"⟩
theorem sz_Mo_newer : cz_S (.code y_Mo_newer b_Mo_newer 4 (some .boolean)) y_Mo_newer b_Mo_newer 4 (some .boolean) 4 := ⟨rfl, lt_4 (i := 82) (by set_option maxRecDepth 100000 in exact rfl), lt_1 (i := 7) (by set_option maxRecDepth 100000 in exact rfl), by decide +kernel, by decide +kernel⟩
theorem tz_Mo_newer : Cond.static y_Mo_newer ∈ lw_tbl := lt_4 (i := 81) (by set_option maxRecDepth 100000 in exact rfl)
abbrev b_Mo_copy : ByteArray := prog_8_method_30_code
abbrev y_Mo_copy : MethodName := ⟨"AreaRoutersModel", "copy", "(II)V"⟩
theorem sz_Mo_copy : cz_S (.code y_Mo_copy b_Mo_copy 4 none) y_Mo_copy b_Mo_copy 4 none 2 := ⟨rfl, lt_4 (i := 86) (by set_option maxRecDepth 100000 in exact rfl), lt_1 (i := 7) (by set_option maxRecDepth 100000 in exact rfl), by decide +kernel, by decide +kernel⟩
theorem tz_Mo_copy : cz_V y_Mo_copy := ⟨lt_4 (i := 85) (by set_option maxRecDepth 100000 in exact rfl), List.mem_of_getElem? (i := 84) (by decide +kernel)⟩
abbrev b_Mo_own : ByteArray := prog_8_method_32_code
abbrev y_Mo_own : MethodName := ⟨"AreaRoutersModel", "own", "(III)V"⟩
theorem sz_Mo_own : cz_S (.code y_Mo_own b_Mo_own 5 none) y_Mo_own b_Mo_own 5 none 3 := ⟨rfl, lt_4 (i := 90) (by set_option maxRecDepth 100000 in exact rfl), lt_1 (i := 7) (by set_option maxRecDepth 100000 in exact rfl), by decide +kernel, by decide +kernel⟩
theorem tz_Mo_own : cz_V y_Mo_own := ⟨lt_4 (i := 89) (by set_option maxRecDepth 100000 in exact rfl), List.mem_of_getElem? (i := 85) (by decide +kernel)⟩
abbrev b_Mo_take : ByteArray := prog_8_method_31_code
abbrev y_Mo_take : MethodName := ⟨"AreaRoutersModel", "take", "(IIIII)V"⟩
theorem sz_Mo_take : cz_S (.code y_Mo_take b_Mo_take 11 none) y_Mo_take b_Mo_take 11 none 5 := ⟨rfl, lt_4 (i := 79) (by set_option maxRecDepth 100000 in exact rfl), lt_1 (i := 7) (by set_option maxRecDepth 100000 in exact rfl), by decide +kernel, by decide +kernel⟩
theorem tz_Mo_take : cz_V y_Mo_take := ⟨lt_4 (i := 78) (by set_option maxRecDepth 100000 in exact rfl), List.mem_of_getElem? (i := 83) (by decide +kernel)⟩
abbrev b_Mo_spread : ByteArray := prog_8_method_33_code
abbrev y_Mo_spread : MethodName := ⟨"AreaRoutersModel", "spread", "(IIII)I"⟩
theorem sz_Mo_spread : cz_S (.code y_Mo_spread b_Mo_spread 11 (some .int)) y_Mo_spread b_Mo_spread 11 (some .int) 4 := ⟨rfl, lt_4 (i := 71) (by set_option maxRecDepth 100000 in exact rfl), lt_1 (i := 7) (by set_option maxRecDepth 100000 in exact rfl), by decide +kernel, by decide +kernel⟩
theorem tz_Mo_spread : cz_V y_Mo_spread := ⟨lt_4 (i := 69) (by set_option maxRecDepth 100000 in exact rfl), lt_4 (i := 70) (by set_option maxRecDepth 100000 in exact rfl)⟩
abbrev b_Mo_told : ByteArray := prog_8_method_34_code
abbrev y_Mo_told : MethodName := ⟨"AreaRoutersModel", "told", "(IIIII)V"⟩
theorem sz_Mo_told : cz_S (.code y_Mo_told b_Mo_told 11 none) y_Mo_told b_Mo_told 11 none 5 := ⟨rfl, lt_4 (i := 98) (by set_option maxRecDepth 100000 in exact rfl), lt_1 (i := 7) (by set_option maxRecDepth 100000 in exact rfl), by decide +kernel, by decide +kernel⟩
theorem tz_Mo_told : cz_V y_Mo_told := ⟨lt_4 (i := 97) (by set_option maxRecDepth 100000 in exact rfl), List.mem_of_getElem? (i := 86) (by decide +kernel)⟩
abbrev b_Mo_summary : ByteArray := prog_8_method_35_code
abbrev y_Mo_summary : MethodName := ⟨"AreaRoutersModel", "summary", "(IIII)I"⟩
theorem sz_Mo_summary : cz_S (.code y_Mo_summary b_Mo_summary 10 (some .int)) y_Mo_summary b_Mo_summary 10 (some .int) 4 := ⟨rfl, lt_4 (i := 94) (by set_option maxRecDepth 100000 in exact rfl), lt_1 (i := 7) (by set_option maxRecDepth 100000 in exact rfl), by decide +kernel, by decide +kernel⟩
theorem tz_Mo_summary : cz_V y_Mo_summary := ⟨lt_4 (i := 92) (by set_option maxRecDepth 100000 in exact rfl), lt_4 (i := 93) (by set_option maxRecDepth 100000 in exact rfl)⟩
abbrev b_Mo_request : ByteArray := prog_8_method_36_code
abbrev y_Mo_request : MethodName := ⟨"AreaRoutersModel", "request", "(IIII)I"⟩
theorem sz_Mo_request : cz_S (.code y_Mo_request b_Mo_request 10 (some .int)) y_Mo_request b_Mo_request 10 (some .int) 4 := ⟨rfl, lt_4 (i := 102) (by set_option maxRecDepth 100000 in exact rfl), lt_1 (i := 7) (by set_option maxRecDepth 100000 in exact rfl), by decide +kernel, by decide +kernel⟩
theorem tz_Mo_request : cz_V y_Mo_request := ⟨lt_4 (i := 100) (by set_option maxRecDepth 100000 in exact rfl), lt_4 (i := 101) (by set_option maxRecDepth 100000 in exact rfl)⟩
abbrev b_Mo_tick : ByteArray := prog_8_method_37_code
abbrev y_Mo_tick : MethodName := ⟨"AreaRoutersModel", "tick", "()V"⟩
theorem sz_Mo_tick : cz_S (.code y_Mo_tick b_Mo_tick 2 none) y_Mo_tick b_Mo_tick 2 none 0 := ⟨rfl, lt_4 (i := 106) (by set_option maxRecDepth 100000 in exact rfl), lt_1 (i := 7) (by set_option maxRecDepth 100000 in exact rfl), by decide +kernel, by decide +kernel⟩
theorem tz_Mo_tick : cz_V y_Mo_tick := ⟨lt_4 (i := 104) (by set_option maxRecDepth 100000 in exact rfl), lt_4 (i := 105) (by set_option maxRecDepth 100000 in exact rfl)⟩
abbrev b_Mo_place : ByteArray := prog_8_method_38_code
abbrev y_Mo_place : MethodName := ⟨"AreaRoutersModel", "place", "(III)Z"⟩
theorem sz_Mo_place : cz_S (.code y_Mo_place b_Mo_place 4 (some .boolean)) y_Mo_place b_Mo_place 4 (some .boolean) 3 := ⟨rfl, lt_4 (i := 110) (by set_option maxRecDepth 100000 in exact rfl), lt_1 (i := 7) (by set_option maxRecDepth 100000 in exact rfl), by decide +kernel, by decide +kernel⟩
theorem tz_Mo_place : cz_V y_Mo_place := ⟨lt_4 (i := 108) (by set_option maxRecDepth 100000 in exact rfl), lt_4 (i := 109) (by set_option maxRecDepth 100000 in exact rfl)⟩
abbrev b_Mo_attach : ByteArray := prog_8_method_39_code
abbrev y_Mo_attach : MethodName := ⟨"AreaRoutersModel", "attach", "(IIII)Z"⟩
theorem sz_Mo_attach : cz_S (.code y_Mo_attach b_Mo_attach 5 (some .boolean)) y_Mo_attach b_Mo_attach 5 (some .boolean) 4 := ⟨rfl, lt_4 (i := 114) (by set_option maxRecDepth 100000 in exact rfl), lt_1 (i := 7) (by set_option maxRecDepth 100000 in exact rfl), by decide +kernel, by decide +kernel⟩
theorem tz_Mo_attach : cz_V y_Mo_attach := ⟨lt_4 (i := 112) (by set_option maxRecDepth 100000 in exact rfl), lt_4 (i := 113) (by set_option maxRecDepth 100000 in exact rfl)⟩
abbrev b_Mo_linksTo : ByteArray := prog_8_method_40_code
abbrev y_Mo_linksTo : MethodName := ⟨"AreaRoutersModel", "linksTo", "(IIII)Z"⟩
theorem sz_Mo_linksTo : cz_S (.code y_Mo_linksTo b_Mo_linksTo 8 (some .boolean)) y_Mo_linksTo b_Mo_linksTo 8 (some .boolean) 4 := ⟨rfl, lt_4 (i := 138) (by set_option maxRecDepth 100000 in exact rfl), lt_1 (i := 7) (by set_option maxRecDepth 100000 in exact rfl), by decide +kernel, by decide +kernel⟩
theorem tz_Mo_linksTo : cz_V y_Mo_linksTo := ⟨lt_4 (i := 137) (by set_option maxRecDepth 100000 in exact rfl), List.mem_of_getElem? (i := 91) (by decide +kernel)⟩
abbrev b_Mo_lives : ByteArray := prog_8_method_41_code
abbrev y_Mo_lives : MethodName := ⟨"AreaRoutersModel", "lives", "(III)Z"⟩
theorem sz_Mo_lives : cz_S (.code y_Mo_lives b_Mo_lives 5 (some .boolean)) y_Mo_lives b_Mo_lives 5 (some .boolean) 3 := ⟨rfl, lt_4 (i := 134) (by set_option maxRecDepth 100000 in exact rfl), lt_1 (i := 7) (by set_option maxRecDepth 100000 in exact rfl), by decide +kernel, by decide +kernel⟩
theorem tz_Mo_lives : cz_V y_Mo_lives := ⟨lt_4 (i := 133) (by set_option maxRecDepth 100000 in exact rfl), List.mem_of_getElem? (i := 90) (by decide +kernel)⟩
abbrev b_Mo_costs : ByteArray := prog_8_method_42_code
abbrev y_Mo_costs : MethodName := ⟨"AreaRoutersModel", "costs", "(II)V"⟩
theorem sz_Mo_costs : cz_S (.code y_Mo_costs b_Mo_costs 9 none) y_Mo_costs b_Mo_costs 9 none 2 := ⟨rfl, lt_4 (i := 130) (by set_option maxRecDepth 100000 in exact rfl), lt_1 (i := 7) (by set_option maxRecDepth 100000 in exact rfl), by decide +kernel, by decide +kernel⟩
theorem tz_Mo_costs : cz_V y_Mo_costs := ⟨lt_4 (i := 129) (by set_option maxRecDepth 100000 in exact rfl), List.mem_of_getElem? (i := 89) (by decide +kernel)⟩
abbrev b_Mo_onward : ByteArray := prog_8_method_43_code
abbrev y_Mo_onward : MethodName := ⟨"AreaRoutersModel", "onward", "(II)I"⟩
theorem sz_Mo_onward : cz_S (.code y_Mo_onward b_Mo_onward 3 (some .int)) y_Mo_onward b_Mo_onward 3 (some .int) 2 := ⟨rfl, lt_4 (i := 145) (by set_option maxRecDepth 100000 in exact rfl), lt_1 (i := 7) (by set_option maxRecDepth 100000 in exact rfl), by decide +kernel, by decide +kernel⟩
theorem tz_Mo_onward : Cond.static y_Mo_onward ∈ lw_tbl := lt_4 (i := 144) (by set_option maxRecDepth 100000 in exact rfl)
abbrev b_Mo_firstHops : ByteArray := prog_8_method_44_code
abbrev y_Mo_firstHops : MethodName := ⟨"AreaRoutersModel", "firstHops", "(II)V"⟩
theorem sz_Mo_firstHops : cz_S (.code y_Mo_firstHops b_Mo_firstHops 10 none) y_Mo_firstHops b_Mo_firstHops 10 none 2 := ⟨rfl, lt_4 (i := 142) (by set_option maxRecDepth 100000 in exact rfl), lt_1 (i := 7) (by set_option maxRecDepth 100000 in exact rfl), by decide +kernel, by decide +kernel⟩
theorem tz_Mo_firstHops : cz_V y_Mo_firstHops := ⟨lt_4 (i := 141) (by set_option maxRecDepth 100000 in exact rfl), List.mem_of_getElem? (i := 92) (by decide +kernel)⟩
abbrev b_Mo_lowest : ByteArray := prog_8_method_45_code
abbrev y_Mo_lowest : MethodName := ⟨"AreaRoutersModel", "lowest", "(I)I"⟩
theorem sz_Mo_lowest : cz_S (.code y_Mo_lowest b_Mo_lowest 2 (some .int)) y_Mo_lowest b_Mo_lowest 2 (some .int) 1 := ⟨rfl, lt_4 (i := 152) (by set_option maxRecDepth 100000 in exact rfl), lt_1 (i := 7) (by set_option maxRecDepth 100000 in exact rfl), by decide +kernel, by decide +kernel⟩
theorem tz_Mo_lowest : Cond.static y_Mo_lowest ∈ lw_tbl := lt_4 (i := 151) (by set_option maxRecDepth 100000 in exact rfl)
abbrev b_Mo_way : ByteArray := prog_8_method_46_code
abbrev y_Mo_way : MethodName := ⟨"AreaRoutersModel", "way", "(II)I"⟩
theorem sz_Mo_way : cz_S (.code y_Mo_way b_Mo_way 3 (some .int)) y_Mo_way b_Mo_way 3 (some .int) 2 := ⟨rfl, lt_4 (i := 149) (by set_option maxRecDepth 100000 in exact rfl), lt_1 (i := 7) (by set_option maxRecDepth 100000 in exact rfl), by decide +kernel, by decide +kernel⟩
theorem tz_Mo_way : cz_V y_Mo_way := ⟨lt_4 (i := 148) (by set_option maxRecDepth 100000 in exact rfl), List.mem_of_getElem? (i := 93) (by decide +kernel)⟩
abbrev b_Mo_ways : ByteArray := prog_8_method_47_code
abbrev y_Mo_ways : MethodName := ⟨"AreaRoutersModel", "ways", "(II)V"⟩
theorem sz_Mo_ways : cz_S (.code y_Mo_ways b_Mo_ways 3 none) y_Mo_ways b_Mo_ways 3 none 2 := ⟨rfl, lt_4 (i := 126) (by set_option maxRecDepth 100000 in exact rfl), lt_1 (i := 7) (by set_option maxRecDepth 100000 in exact rfl), by decide +kernel, by decide +kernel⟩
theorem tz_Mo_ways : cz_V y_Mo_ways := ⟨lt_4 (i := 125) (by set_option maxRecDepth 100000 in exact rfl), List.mem_of_getElem? (i := 88) (by decide +kernel)⟩
abbrev b_Mo_nearest : ByteArray := prog_8_method_48_code
abbrev y_Mo_nearest : MethodName := ⟨"AreaRoutersModel", "nearest", "(III)I"⟩
theorem sz_Mo_nearest : cz_S (.code y_Mo_nearest b_Mo_nearest 8 (some .int)) y_Mo_nearest b_Mo_nearest 8 (some .int) 3 := ⟨rfl, lt_4 (i := 156) (by set_option maxRecDepth 100000 in exact rfl), lt_1 (i := 7) (by set_option maxRecDepth 100000 in exact rfl), by decide +kernel, by decide +kernel⟩
theorem tz_Mo_nearest : cz_V y_Mo_nearest := ⟨lt_4 (i := 155) (by set_option maxRecDepth 100000 in exact rfl), List.mem_of_getElem? (i := 94) (by decide +kernel)⟩
abbrev b_Mo_routeOf : ByteArray := prog_8_method_49_code
abbrev y_Mo_routeOf : MethodName := ⟨"AreaRoutersModel", "routeOf", "(II)I"⟩
theorem sz_Mo_routeOf : cz_S (.code y_Mo_routeOf b_Mo_routeOf 4 (some .int)) y_Mo_routeOf b_Mo_routeOf 4 (some .int) 2 := ⟨rfl, lt_4 (i := 122) (by set_option maxRecDepth 100000 in exact rfl), lt_1 (i := 7) (by set_option maxRecDepth 100000 in exact rfl), by decide +kernel, by decide +kernel⟩
theorem tz_Mo_routeOf : cz_V y_Mo_routeOf := ⟨lt_4 (i := 121) (by set_option maxRecDepth 100000 in exact rfl), List.mem_of_getElem? (i := 87) (by decide +kernel)⟩
abbrev b_Mo_route : ByteArray := prog_8_method_50_code
abbrev y_Mo_route : MethodName := ⟨"AreaRoutersModel", "route", "(II)I"⟩
theorem sz_Mo_route : cz_S (.code y_Mo_route b_Mo_route 3 (some .int)) y_Mo_route b_Mo_route 3 (some .int) 2 := ⟨rfl, lt_4 (i := 118) (by set_option maxRecDepth 100000 in exact rfl), lt_1 (i := 7) (by set_option maxRecDepth 100000 in exact rfl), by decide +kernel, by decide +kernel⟩
theorem tz_Mo_route : cz_V y_Mo_route := ⟨lt_4 (i := 116) (by set_option maxRecDepth 100000 in exact rfl), lt_4 (i := 117) (by set_option maxRecDepth 100000 in exact rfl)⟩
abbrev b_Mo_trace : ByteArray := prog_8_method_51_code
abbrev y_Mo_trace : MethodName := ⟨"AreaRoutersModel", "trace", "(II)I"⟩
theorem sz_Mo_trace : cz_S (.code y_Mo_trace b_Mo_trace 6 (some .int)) y_Mo_trace b_Mo_trace 6 (some .int) 2 := ⟨rfl, lt_4 (i := 160) (by set_option maxRecDepth 100000 in exact rfl), lt_1 (i := 7) (by set_option maxRecDepth 100000 in exact rfl), by decide +kernel, by decide +kernel⟩
theorem tz_Mo_trace : cz_V y_Mo_trace := ⟨lt_4 (i := 158) (by set_option maxRecDepth 100000 in exact rfl), lt_4 (i := 159) (by set_option maxRecDepth 100000 in exact rfl)⟩
abbrev b_Mo_neighbour : ByteArray := prog_8_method_52_code
abbrev y_Mo_neighbour : MethodName := ⟨"AreaRoutersModel", "neighbour", "(IIII)Z"⟩
theorem sz_Mo_neighbour : cz_S (.code y_Mo_neighbour b_Mo_neighbour 5 (some .boolean)) y_Mo_neighbour b_Mo_neighbour 5 (some .boolean) 4 := ⟨rfl, lt_4 (i := 164) (by set_option maxRecDepth 100000 in exact rfl), lt_1 (i := 7) (by set_option maxRecDepth 100000 in exact rfl), by decide +kernel, by decide +kernel⟩
theorem tz_Mo_neighbour : cz_V y_Mo_neighbour := ⟨lt_4 (i := 162) (by set_option maxRecDepth 100000 in exact rfl), lt_4 (i := 163) (by set_option maxRecDepth 100000 in exact rfl)⟩
abbrev b_Mo_speaker : ByteArray := prog_8_method_53_code
abbrev y_Mo_speaker : MethodName := ⟨"AreaRoutersModel", "speaker", "(III)I"⟩
theorem sz_Mo_speaker : cz_S (.code y_Mo_speaker b_Mo_speaker 4 (some .int)) y_Mo_speaker b_Mo_speaker 4 (some .int) 3 := ⟨rfl, lt_4 (i := 168) (by set_option maxRecDepth 100000 in exact rfl), lt_1 (i := 7) (by set_option maxRecDepth 100000 in exact rfl), by decide +kernel, by decide +kernel⟩
theorem tz_Mo_speaker : cz_V y_Mo_speaker := ⟨lt_4 (i := 166) (by set_option maxRecDepth 100000 in exact rfl), lt_4 (i := 167) (by set_option maxRecDepth 100000 in exact rfl)⟩
abbrev b_Mo_isName : ByteArray := prog_8_method_54_code
abbrev y_Mo_isName : MethodName := ⟨"AreaRoutersModel", "isName", "(I)Z"⟩
theorem sz_Mo_isName : cz_S (.code y_Mo_isName b_Mo_isName 1 (some .boolean)) y_Mo_isName b_Mo_isName 1 (some .boolean) 1 := ⟨rfl, lt_4 (i := 175) (by set_option maxRecDepth 100000 in exact rfl), lt_1 (i := 7) (by set_option maxRecDepth 100000 in exact rfl), by decide +kernel, by decide +kernel⟩
theorem tz_Mo_isName : Cond.static y_Mo_isName ∈ lw_tbl := lt_4 (i := 174) (by set_option maxRecDepth 100000 in exact rfl)
abbrev b_Mo_description : ByteArray := prog_8_method_55_code
abbrev y_Mo_description : MethodName := ⟨"AreaRoutersModel", "description", "(IIII)I"⟩
theorem sz_Mo_description : cz_S (.code y_Mo_description b_Mo_description 6 (some .int)) y_Mo_description b_Mo_description 6 (some .int) 4 := ⟨rfl, lt_4 (i := 172) (by set_option maxRecDepth 100000 in exact rfl), lt_1 (i := 7) (by set_option maxRecDepth 100000 in exact rfl), by decide +kernel, by decide +kernel⟩
theorem tz_Mo_description : cz_V y_Mo_description := ⟨lt_4 (i := 170) (by set_option maxRecDepth 100000 in exact rfl), lt_4 (i := 171) (by set_option maxRecDepth 100000 in exact rfl)⟩
abbrev b_Mo_marks : ByteArray := prog_8_method_56_code
abbrev y_Mo_marks : MethodName := ⟨"AreaRoutersModel", "marks", "(III)I"⟩
theorem sz_Mo_marks : cz_S (.code y_Mo_marks b_Mo_marks 4 (some .int)) y_Mo_marks b_Mo_marks 4 (some .int) 3 := ⟨rfl, lt_4 (i := 179) (by set_option maxRecDepth 100000 in exact rfl), lt_1 (i := 7) (by set_option maxRecDepth 100000 in exact rfl), by decide +kernel, by decide +kernel⟩
theorem tz_Mo_marks : cz_V y_Mo_marks := ⟨lt_4 (i := 177) (by set_option maxRecDepth 100000 in exact rfl), lt_4 (i := 178) (by set_option maxRecDepth 100000 in exact rfl)⟩
theorem lk_Mo_102 : Cond.methodLink R_Mo 102 ⟨"AreaRoutersModel", "raise", "(I)I"⟩ ∈ lw_tbl := lt_3 (i := 226) (by set_option maxRecDepth 100000 in exact rfl)
theorem lk_Mo_105 : Cond.methodLink R_Mo 105 ⟨"AreaRoutersModel", "receives", "(IIII)Z"⟩ ∈ lw_tbl := lt_3 (i := 230) (by set_option maxRecDepth 100000 in exact rfl)
theorem lk_Mo_111 : Cond.methodLink R_Mo 111 ⟨"AreaRoutersModel", "isShared", "(I)Z"⟩ ∈ lw_tbl := lt_4 (i := 16) (by set_option maxRecDepth 100000 in exact rfl)
theorem lk_Mo_114 : Cond.methodLink R_Mo 114 ⟨"AreaRoutersModel", "anyNear", "(III)Z"⟩ ∈ lw_tbl := lt_4 (i := 24) (by set_option maxRecDepth 100000 in exact rfl)
theorem lk_Mo_118 : Cond.methodLink R_Mo 118 ⟨"AreaRoutersModel", "speakerOf", "(III)I"⟩ ∈ lw_tbl := lt_4 (i := 32) (by set_option maxRecDepth 100000 in exact rfl)
theorem lk_Mo_122 : Cond.methodLink R_Mo 122 ⟨"AreaRoutersModel", "put", "(II)V"⟩ ∈ lw_tbl := lt_4 (i := 36) (by set_option maxRecDepth 100000 in exact rfl)
theorem lk_Mo_126 : Cond.methodLink R_Mo 126 ⟨"AreaRoutersModel", "ownLink", "(III)V"⟩ ∈ lw_tbl := lt_4 (i := 40) (by set_option maxRecDepth 100000 in exact rfl)
theorem lk_Mo_130 : Cond.methodLink R_Mo 130 ⟨"AreaRoutersModel", "leavesArea", "(I)Z"⟩ ∈ lw_tbl := lt_4 (i := 52) (by set_option maxRecDepth 100000 in exact rfl)
theorem lk_Mo_133 : Cond.methodLink R_Mo 133 ⟨"AreaRoutersModel", "at", "(III)I"⟩ ∈ lw_tbl := lt_4 (i := 9) (by set_option maxRecDepth 100000 in exact rfl)
theorem lk_Mo_136 : Cond.methodLink R_Mo 136 ⟨"AreaRoutersModel", "exits", "(III)Z"⟩ ∈ lw_tbl := lt_4 (i := 48) (by set_option maxRecDepth 100000 in exact rfl)
theorem lk_Mo_139 : Cond.methodLink R_Mo 139 ⟨"AreaRoutersModel", "circuits", "(I)I"⟩ ∈ lw_tbl := lt_4 (i := 60) (by set_option maxRecDepth 100000 in exact rfl)
theorem lk_Mo_142 : Cond.methodLink R_Mo 142 ⟨"AreaRoutersModel", "describes", "(III)Z"⟩ ∈ lw_tbl := lt_4 (i := 12) (by set_option maxRecDepth 100000 in exact rfl)
theorem lk_Mo_145 : Cond.methodLink R_Mo 145 ⟨"AreaRoutersModel", "sameLinks", "(I)Z"⟩ ∈ lw_tbl := lt_4 (i := 44) (by set_option maxRecDepth 100000 in exact rfl)
theorem lk_Mo_148 : Cond.methodLink R_Mo 148 ⟨"AreaRoutersModel", "renew", "(III)V"⟩ ∈ lw_tbl := lt_4 (i := 56) (by set_option maxRecDepth 100000 in exact rfl)
theorem lk_Mo_151 : Cond.methodLink R_Mo 151 ⟨"AreaRoutersModel", "die", "(II)V"⟩ ∈ lw_tbl := lt_4 (i := 64) (by set_option maxRecDepth 100000 in exact rfl)
theorem lk_Mo_154 : Cond.methodLink R_Mo 154 ⟨"AreaRoutersModel", "part", "(III)Z"⟩ ∈ lw_tbl := lt_4 (i := 5) (by set_option maxRecDepth 100000 in exact rfl)
theorem lk_Mo_157 : Cond.methodLink R_Mo 157 ⟨"AreaRoutersModel", "newer", "(IZIZ)Z"⟩ ∈ lw_tbl := lt_4 (i := 80) (by set_option maxRecDepth 100000 in exact rfl)
theorem lk_Mo_161 : Cond.methodLink R_Mo 161 ⟨"AreaRoutersModel", "copy", "(II)V"⟩ ∈ lw_tbl := lt_4 (i := 83) (by set_option maxRecDepth 100000 in exact rfl)
theorem lk_Mo_164 : Cond.methodLink R_Mo 164 ⟨"AreaRoutersModel", "own", "(III)V"⟩ ∈ lw_tbl := lt_4 (i := 87) (by set_option maxRecDepth 100000 in exact rfl)
theorem lk_Mo_167 : Cond.methodLink R_Mo 167 ⟨"AreaRoutersModel", "barredAt", "(III)I"⟩ ∈ lw_tbl := lt_4 (i := 72) (by set_option maxRecDepth 100000 in exact rfl)
theorem lk_Mo_170 : Cond.methodLink R_Mo 170 ⟨"AreaRoutersModel", "take", "(IIIII)V"⟩ ∈ lw_tbl := lt_4 (i := 76) (by set_option maxRecDepth 100000 in exact rfl)
theorem lk_Mo_174 : Cond.methodLink R_Mo 174 ⟨"AreaRoutersModel", "told", "(IIIII)V"⟩ ∈ lw_tbl := lt_4 (i := 95) (by set_option maxRecDepth 100000 in exact rfl)
theorem lk_Mo_177 : Cond.methodLink R_Mo 177 ⟨"AreaRoutersModel", "lives", "(III)Z"⟩ ∈ lw_tbl := lt_4 (i := 131) (by set_option maxRecDepth 100000 in exact rfl)
theorem lk_Mo_180 : Cond.methodLink R_Mo 180 ⟨"AreaRoutersModel", "linksTo", "(IIII)Z"⟩ ∈ lw_tbl := lt_4 (i := 135) (by set_option maxRecDepth 100000 in exact rfl)
theorem lk_Mo_183 : Cond.methodLink R_Mo 183 ⟨"AreaRoutersModel", "onward", "(II)I"⟩ ∈ lw_tbl := lt_4 (i := 143) (by set_option maxRecDepth 100000 in exact rfl)
theorem lk_Mo_186 : Cond.methodLink R_Mo 186 ⟨"AreaRoutersModel", "lowest", "(I)I"⟩ ∈ lw_tbl := lt_4 (i := 150) (by set_option maxRecDepth 100000 in exact rfl)
theorem lk_Mo_189 : Cond.methodLink R_Mo 189 ⟨"AreaRoutersModel", "costs", "(II)V"⟩ ∈ lw_tbl := lt_4 (i := 127) (by set_option maxRecDepth 100000 in exact rfl)
theorem lk_Mo_192 : Cond.methodLink R_Mo 192 ⟨"AreaRoutersModel", "firstHops", "(II)V"⟩ ∈ lw_tbl := lt_4 (i := 139) (by set_option maxRecDepth 100000 in exact rfl)
theorem lk_Mo_195 : Cond.methodLink R_Mo 195 ⟨"AreaRoutersModel", "way", "(II)I"⟩ ∈ lw_tbl := lt_4 (i := 146) (by set_option maxRecDepth 100000 in exact rfl)
theorem lk_Mo_198 : Cond.methodLink R_Mo 198 ⟨"AreaRoutersModel", "ways", "(II)V"⟩ ∈ lw_tbl := lt_4 (i := 123) (by set_option maxRecDepth 100000 in exact rfl)
theorem lk_Mo_201 : Cond.methodLink R_Mo 201 ⟨"AreaRoutersModel", "nearest", "(III)I"⟩ ∈ lw_tbl := lt_4 (i := 153) (by set_option maxRecDepth 100000 in exact rfl)
theorem lk_Mo_204 : Cond.methodLink R_Mo 204 ⟨"AreaRoutersModel", "routeOf", "(II)I"⟩ ∈ lw_tbl := lt_4 (i := 119) (by set_option maxRecDepth 100000 in exact rfl)
theorem lk_Mo_207 : Cond.methodLink R_Mo 207 ⟨"AreaRoutersModel", "isName", "(I)Z"⟩ ∈ lw_tbl := lt_4 (i := 173) (by set_option maxRecDepth 100000 in exact rfl)
theorem lk_Mo_75 : Cond.methodLink R_Mo 75 ⟨"AreaRoutersModel", "isOn", "(II)Z"⟩ ∈ lw_tbl := lt_3 (i := 222) (by set_option maxRecDepth 100000 in exact rfl)
theorem lk_Mo_79 : Cond.methodLink R_Mo 79 ⟨"AreaRoutersModel", "attached", "(I)I"⟩ ∈ lw_tbl := lt_4 (i := 20) (by set_option maxRecDepth 100000 in exact rfl)
theorem lk_Mo_83 : Cond.methodLink R_Mo 83 ⟨"AreaRoutersModel", "ear", "(IIII)I"⟩ ∈ lw_tbl := lt_3 (i := 238) (by set_option maxRecDepth 100000 in exact rfl)
theorem lk_Mo_87 : Cond.methodLink R_Mo 87 ⟨"AreaRoutersModel", "near", "(IIII)Z"⟩ ∈ lw_tbl := lt_4 (i := 28) (by set_option maxRecDepth 100000 in exact rfl)
theorem lk_Mo_91 : Cond.methodLink R_Mo 91 ⟨"AreaRoutersModel", "isOne", "(I)Z"⟩ ∈ lw_tbl := lt_3 (i := 219) (by set_option maxRecDepth 100000 in exact rfl)
theorem lk_Mo_95 : Cond.methodLink R_Mo 95 ⟨"AreaRoutersModel", "barred", "(II)I"⟩ ∈ lw_tbl := lt_3 (i := 215) (by set_option maxRecDepth 100000 in exact rfl)
theorem lk_Mo_99 : Cond.methodLink R_Mo 99 ⟨"AreaRoutersModel", "has", "(II)Z"⟩ ∈ lw_tbl := lt_3 (i := 234) (by set_option maxRecDepth 100000 in exact rfl)
