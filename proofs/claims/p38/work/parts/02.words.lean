theorem zb_m0 {w : Cond} (h : w ∈ k2_sels lw_privs) (g : goodWord w = true) : w ∈ zB := List.mem_filter.mpr ⟨List.mem_append_left _ h, g⟩
theorem zb_m1 {w : Cond} (h : w ∈ tables_1_1) (g : goodWord w = true) : w ∈ zB := List.mem_filter.mpr ⟨List.mem_append_right _ (List.mem_append_left _ h), g⟩
theorem zb_m2 {w : Cond} (h : w ∈ tables_1_2) (g : goodWord w = true) : w ∈ zB := List.mem_filter.mpr ⟨List.mem_append_right _ (List.mem_append_right _ (List.mem_append_left _ h)), g⟩
theorem zb_m3 {w : Cond} (h : w ∈ tables_1_3) (g : goodWord w = true) : w ∈ zB := List.mem_filter.mpr ⟨List.mem_append_right _ (List.mem_append_right _ (List.mem_append_right _ (List.mem_append_left _ h))), g⟩
theorem zb_m4 {w : Cond} (h : w ∈ tables_1_4) (g : goodWord w = true) : w ∈ zB := List.mem_filter.mpr ⟨List.mem_append_right _ (List.mem_append_right _ (List.mem_append_right _ (List.mem_append_right _ (List.mem_append_left _ h)))), g⟩
theorem zb_m5 {w : Cond} (h : w ∈ tables_1_5) (g : goodWord w = true) : w ∈ zB := List.mem_filter.mpr ⟨List.mem_append_right _ (List.mem_append_right _ (List.mem_append_right _ (List.mem_append_right _ (List.mem_append_right _ (List.mem_append_left _ h))))), g⟩
theorem zb_m6 {w : Cond} (h : w ∈ tables_1_6) (g : goodWord w = true) : w ∈ zB := List.mem_filter.mpr ⟨List.mem_append_right _ (List.mem_append_right _ (List.mem_append_right _ (List.mem_append_right _ (List.mem_append_right _ (List.mem_append_right _ (List.mem_append_left _ h)))))), g⟩
theorem zb_m7 {w : Cond} (h : w ∈ tables_1_7) (g : goodWord w = true) : w ∈ zB := List.mem_filter.mpr ⟨List.mem_append_right _ (List.mem_append_right _ (List.mem_append_right _ (List.mem_append_right _ (List.mem_append_right _ (List.mem_append_right _ (List.mem_append_right _ (h))))))), g⟩
theorem w_64 : (.code yX8_init cX8_init 1 none : Cond) ∈ zB := zb_m1 (List.mem_of_getElem? (i := 40) rfl) rfl
theorem w_72 : (.code yJx4a65c_init_da8c8 cJx4a65c_init_da8c8 1 none : Cond) ∈ zB := zb_m1 (List.mem_of_getElem? (i := 48) rfl) rfl
theorem w_75 : (.code yJxc12de_init_da8c8 cJxc12de_init_da8c8 1 none : Cond) ∈ zB := zb_m1 (List.mem_of_getElem? (i := 51) rfl) rfl
theorem w_78 : (.code yJxa1e45_init_da8c8 cJxa1e45_init_da8c8 1 none : Cond) ∈ zB := zb_m1 (List.mem_of_getElem? (i := 54) rfl) rfl
theorem w_98 : (.code yX2_init cX2_init 1 none : Cond) ∈ zB := zb_m1 (List.mem_of_getElem? (i := 74) rfl) rfl
theorem w_106 : (.code yX3_init cX3_init 1 none : Cond) ∈ zB := zb_m1 (List.mem_of_getElem? (i := 82) rfl) rfl
theorem w_157 : (.code yX5_init cX5_init 1 none : Cond) ∈ zB := zb_m1 (List.mem_of_getElem? (i := 133) rfl) rfl
theorem w_225 : (.code yX8_isSame cX8_isSame 3 (some FieldType.boolean) : Cond) ∈ zB := zb_m1 (List.mem_of_getElem? (i := 201) rfl) rfl
theorem w_229 : (.code yX8_treatyAt cX8_treatyAt 2 (some (FieldType.object "Layertreaty$Treaty")) : Cond) ∈ zB := zb_m1 (List.mem_of_getElem? (i := 205) rfl) rfl
theorem w_233 : (.code yJx4a65c_size_8abf5 cJx4a65c_size_8abf5 1 (some FieldType.int) : Cond) ∈ zB := zb_m1 (List.mem_of_getElem? (i := 209) rfl) rfl
theorem w_236 : (.code yX8_isOut cX8_isOut 3 (some FieldType.boolean) : Cond) ∈ zB := zb_m1 (List.mem_of_getElem? (i := 212) rfl) rfl
theorem w_312 : (.code yJx4a65c_get_915e3 cJx4a65c_get_915e3 2 (some (FieldType.object "java/lang/Object")) : Cond) ∈ zB := zb_m2 (List.mem_of_getElem? (i := 48) rfl) rfl
theorem w_315 : (.code yJ15_checkIndex_7cf53 cJ15_checkIndex_7cf53 2 (some FieldType.int) : Cond) ∈ zB := zb_m2 (List.mem_of_getElem? (i := 51) rfl) rfl
theorem w_318 : (.code yJ3_checkIndex_8e157 cJ3_checkIndex_8e157 3 (some FieldType.int) : Cond) ∈ zB := zb_m2 (List.mem_of_getElem? (i := 54) rfl) rfl
theorem w_322 : (.code yJx4a65c_elementData_915e3 cJx4a65c_elementData_915e3 2 (some (FieldType.object "java/lang/Object")) : Cond) ∈ zB := zb_m2 (List.mem_of_getElem? (i := 58) rfl) rfl
theorem w_326 : (.code yX8_checkHasEvents cX8_checkHasEvents 1 none : Cond) ∈ zB := zb_m2 (List.mem_of_getElem? (i := 62) rfl) rfl
theorem w_346 : (.code yX2_isLaidBest cX2_isLaidBest 2 (some FieldType.boolean) : Cond) ∈ zB := zb_m2 (List.mem_of_getElem? (i := 82) rfl) rfl
theorem w_350 : (.code yX2_run cX2_run 4 none : Cond) ∈ zB := zb_m2 (List.mem_of_getElem? (i := 86) rfl) rfl
theorem w_357 : (.code yX0_begin cX0_begin 1 none : Cond) ∈ zB := zb_m2 (List.mem_of_getElem? (i := 93) rfl) rfl
theorem w_360 : (.code yJ7_fill_d0a16 cJ7_fill_d0a16 5 none : Cond) ∈ zB := zb_m2 (List.mem_of_getElem? (i := 96) rfl) rfl
theorem w_363 : (.code yJ7_fill_53178 cJ7_fill_53178 4 none : Cond) ∈ zB := zb_m2 (List.mem_of_getElem? (i := 99) rfl) rfl
theorem w_368 : (.code yX1_begin cX1_begin 1 none : Cond) ∈ zB := zb_m2 (List.mem_of_getElem? (i := 104) rfl) rfl
theorem w_373 : (.code yX7_wholeLimit cX7_wholeLimit 1 (some FieldType.long) : Cond) ∈ zB := zb_m2 (List.mem_of_getElem? (i := 109) rfl) rfl
theorem w_377 : (.code yX7_isLimited cX7_isLimited 1 (some FieldType.boolean) : Cond) ∈ zB := zb_m2 (List.mem_of_getElem? (i := 113) rfl) rfl
theorem w_382 : (.code yX2_serveLoss cX2_serveLoss 6 none : Cond) ∈ zB := zb_m2 (List.mem_of_getElem? (i := 118) rfl) rfl
theorem w_386 : (.code yX7_isForEachLoss cX7_isForEachLoss 1 (some FieldType.boolean) : Cond) ∈ zB := zb_m2 (List.mem_of_getElem? (i := 122) rfl) rfl
theorem w_390 : (.code yX7_coversLoss cX7_coversLoss 3 (some FieldType.boolean) : Cond) ∈ zB := zb_m2 (List.mem_of_getElem? (i := 126) rfl) rfl
theorem w_394 : (.code yX7_wantedOf cX7_wantedOf 3 (some FieldType.long) : Cond) ∈ zB := zb_m2 (List.mem_of_getElem? (i := 130) rfl) rfl
theorem w_402 : (.code yX7_layerOf cX7_layerOf 3 (some FieldType.long) : Cond) ∈ zB := zb_m2 (List.mem_of_getElem? (i := 138) rfl) rfl
theorem w_413 : (.code yX1_takeFrom cX1_takeFrom 4 none : Cond) ∈ zB := zb_m2 (List.mem_of_getElem? (i := 149) rfl) rfl
theorem w_417 : (.code yX1_refill cX1_refill 6 none : Cond) ∈ zB := zb_m2 (List.mem_of_getElem? (i := 153) rfl) rfl
theorem w_423 : (.code yX7_priceOf cX7_priceOf 6 (some FieldType.long) : Cond) ∈ zB := zb_m2 (List.mem_of_getElem? (i := 159) rfl) rfl
theorem w_430 : (.code yX2_findOpen cX2_findOpen 3 none : Cond) ∈ zB := zb_m2 (List.mem_of_getElem? (i := 166) rfl) rfl
theorem w_434 : (.code yJx4a65c_clear_da8c8 cJx4a65c_clear_da8c8 4 none : Cond) ∈ zB := zb_m2 (List.mem_of_getElem? (i := 170) rfl) rfl
theorem w_438 : (.code yJx4a65c_add_9ea2d cJx4a65c_add_9ea2d 2 (some FieldType.boolean) : Cond) ∈ zB := zb_m2 (List.mem_of_getElem? (i := 174) rfl) rfl
theorem w_442 : (.code yJx4a65c_add_72be8 cJx4a65c_add_72be8 4 none : Cond) ∈ zB := zb_m2 (List.mem_of_getElem? (i := 178) rfl) rfl
theorem w_446 : (.code yJx4a65c_grow_d5877 cJx4a65c_grow_d5877 1 (some (FieldType.array (FieldType.object "java/lang/Object"))) : Cond) ∈ zB := zb_m2 (List.mem_of_getElem? (i := 182) rfl) rfl
theorem w_450 : (.code yJx4a65c_grow_92f84 cJx4a65c_grow_92f84 4 (some (FieldType.array (FieldType.object "java/lang/Object"))) : Cond) ∈ zB := zb_m2 (List.mem_of_getElem? (i := 186) rfl) rfl
theorem w_453 : (.code yJ8_newLength_cabcc cJ8_newLength_cabcc 4 (some FieldType.int) : Cond) ∈ zB := zb_m2 (List.mem_of_getElem? (i := 189) rfl) rfl
theorem w_461 : (.code yJ7_copyOf_1904c cJ7_copyOf_1904c 2 (some (FieldType.array (FieldType.object "java/lang/Object"))) : Cond) ∈ zB := zb_m2 (List.mem_of_getElem? (i := 197) rfl) rfl
theorem w_487 : (.code yJ7_copyOf_6403c cJ7_copyOf_6403c 4 (some (FieldType.array (FieldType.object "java/lang/Object"))) : Cond) ∈ zB := zb_m2 (List.mem_of_getElem? (i := 223) rfl) rfl
theorem w_500 : (.code yX2_serveZone cX2_serveZone 7 none : Cond) ∈ zB := zb_m2 (List.mem_of_getElem? (i := 236) rfl) rfl
theorem w_504 : (.code yX3_add cX3_add 2 none : Cond) ∈ zB := zb_m3 (List.mem_of_getElem? (i := 0) rfl) rfl
theorem w_508 : (.code yX3_lay cX3_lay 9 none : Cond) ∈ zB := zb_m3 (List.mem_of_getElem? (i := 4) rfl) rfl
theorem w_513 : (.code yX3_isBestOfAll cX3_isBestOfAll 11 (some FieldType.boolean) : Cond) ∈ zB := zb_m3 (List.mem_of_getElem? (i := 9) rfl) rfl
theorem w_517 : (.code yJ6_bitCount_0f7a4 cJ6_bitCount_0f7a4 1 (some FieldType.int) : Cond) ∈ zB := zb_m3 (List.mem_of_getElem? (i := 13) rfl) rfl
theorem w_524 : (.code yX3_worthOf cX3_worthOf 9 (some FieldType.long) : Cond) ∈ zB := zb_m3 (List.mem_of_getElem? (i := 20) rfl) rfl
theorem w_528 : (.code yX3_isCut cX3_isCut 3 (some FieldType.boolean) : Cond) ∈ zB := zb_m3 (List.mem_of_getElem? (i := 24) rfl) rfl
theorem w_532 : (.code yX3_laidCuts cX3_laidCuts 4 (some FieldType.int) : Cond) ∈ zB := zb_m3 (List.mem_of_getElem? (i := 28) rfl) rfl
theorem w_536 : (.code yX2_gather cX2_gather 7 none : Cond) ∈ zB := zb_m3 (List.mem_of_getElem? (i := 32) rfl) rfl
theorem w_540 : (.code yX2_serveGroup cX2_serveGroup 12 (some FieldType.long) : Cond) ∈ zB := zb_m3 (List.mem_of_getElem? (i := 36) rfl) rfl
theorem w_545 : (.code yX8_net cX8_net 5 (some FieldType.long) : Cond) ∈ zB := zb_m3 (List.mem_of_getElem? (i := 41) rfl) rfl
theorem w_549 : (.code yX8_settle cX8_settle 1 none : Cond) ∈ zB := zb_m3 (List.mem_of_getElem? (i := 45) rfl) rfl
theorem w_554 : (.code yX2_allLeft cX2_allLeft 4 (some FieldType.long) : Cond) ∈ zB := zb_m3 (List.mem_of_getElem? (i := 50) rfl) rfl
theorem w_559 : (.code yX2_allPartsOf cX2_allPartsOf 5 (some FieldType.long) : Cond) ∈ zB := zb_m3 (List.mem_of_getElem? (i := 55) rfl) rfl
theorem w_563 : (.code yX2_partOf cX2_partOf 6 (some FieldType.long) : Cond) ∈ zB := zb_m3 (List.mem_of_getElem? (i := 59) rfl) rfl
theorem w_568 : (.code yX8_losses cX8_losses 1 (some FieldType.int) : Cond) ∈ zB := zb_m3 (List.mem_of_getElem? (i := 64) rfl) rfl
theorem w_572 : (.code yX8_meanNet cX8_meanNet 7 (some FieldType.double) : Cond) ∈ zB := zb_m3 (List.mem_of_getElem? (i := 68) rfl) rfl
theorem w_576 : (.code yJx4a65c_isEmpty_aae02 cJx4a65c_isEmpty_aae02 1 (some FieldType.boolean) : Cond) ∈ zB := zb_m3 (List.mem_of_getElem? (i := 72) rfl) rfl
theorem w_596 : (.code yX8_playAll cX8_playAll 2 none : Cond) ∈ zB := zb_m3 (List.mem_of_getElem? (i := 92) rfl) rfl
theorem w_601 : (.code yX8_play cX8_play 5 none : Cond) ∈ zB := zb_m3 (List.mem_of_getElem? (i := 97) rfl) rfl
theorem w_607 : (.code yX6_damageOf cX6_damageOf 2 (some FieldType.int) : Cond) ∈ zB := zb_m3 (List.mem_of_getElem? (i := 103) rfl) rfl
theorem w_611 : (.code yX4_isInForce cX4_isInForce 2 (some FieldType.boolean) : Cond) ∈ zB := zb_m3 (List.mem_of_getElem? (i := 107) rfl) rfl
theorem w_616 : (.code yX0_happen cX0_happen 4 none : Cond) ∈ zB := zb_m3 (List.mem_of_getElem? (i := 112) rfl) rfl
theorem w_621 : (.code yX8_isSound cX8_isSound 1 (some FieldType.boolean) : Cond) ∈ zB := zb_m3 (List.mem_of_getElem? (i := 117) rfl) rfl
theorem w_625 : (.code yX8_settlePool cX8_settlePool 2 none : Cond) ∈ zB := zb_m3 (List.mem_of_getElem? (i := 121) rfl) rfl
theorem w_629 : (.code yX5_settleRings cX5_settleRings 2 none : Cond) ∈ zB := zb_m3 (List.mem_of_getElem? (i := 125) rfl) rfl
theorem w_634 : (.code yX5_goRounds cX5_goRounds 5 none : Cond) ∈ zB := zb_m3 (List.mem_of_getElem? (i := 130) rfl) rfl
theorem w_639 : (.code yX5_handedOn cX5_handedOn 4 (some FieldType.long) : Cond) ∈ zB := zb_m3 (List.mem_of_getElem? (i := 135) rfl) rfl
theorem w_646 : (.code yX2_areLossesWhole cX2_areLossesWhole 6 (some FieldType.boolean) : Cond) ∈ zB := zb_m3 (List.mem_of_getElem? (i := 142) rfl) rfl
theorem w_650 : (.code yX2_areLimitsKept cX2_areLimitsKept 3 (some FieldType.boolean) : Cond) ∈ zB := zb_m3 (List.mem_of_getElem? (i := 146) rfl) rfl
theorem w_655 : (.code yX5_fits cX5_fits 2 (some FieldType.boolean) : Cond) ∈ zB := zb_m3 (List.mem_of_getElem? (i := 151) rfl) rfl
theorem w_658 : (.code yL_some cL_some 3 (some FieldType.int) : Cond) ∈ zB := zb_m3 (List.mem_of_getElem? (i := 154) rfl) rfl
theorem w_661 : (.code yL_cell cL_cell 2 (some FieldType.int) : Cond) ∈ zB := zb_m3 (List.mem_of_getElem? (i := 157) rfl) rfl
theorem w_670 : (.code yX8_policy cX8_policy 6 (some FieldType.int) : Cond) ∈ zB := zb_m3 (List.mem_of_getElem? (i := 166) rfl) rfl
theorem w_674 : (.code yX8_isSpan cX8_isSpan 2 (some FieldType.boolean) : Cond) ∈ zB := zb_m3 (List.mem_of_getElem? (i := 170) rfl) rfl
theorem w_711 : (.code yX4_init cX4_init 5 none : Cond) ∈ zB := zb_m3 (List.mem_of_getElem? (i := 207) rfl) rfl
theorem w_734 : (.code yX0_init cX0_init 2 none : Cond) ∈ zB := zb_m3 (List.mem_of_getElem? (i := 230) rfl) rfl
theorem w_806 : (.code yX8_loss cX8_loss 7 (some FieldType.int) : Cond) ∈ zB := zb_m4 (List.mem_of_getElem? (i := 62) rfl) rfl
theorem w_815 : (.code yX2_addByDay cX2_addByDay 4 none : Cond) ∈ zB := zb_m4 (List.mem_of_getElem? (i := 71) rfl) rfl
theorem w_819 : (.code yJx4a65c_add_7a177 cJx4a65c_add_7a177 5 none : Cond) ∈ zB := zb_m4 (List.mem_of_getElem? (i := 75) rfl) rfl
theorem w_823 : (.code yJx4a65c_rangeCheckForAdd_d00df cJx4a65c_rangeCheckForAdd_d00df 2 none : Cond) ∈ zB := zb_m4 (List.mem_of_getElem? (i := 79) rfl) rfl
theorem w_1065 : (.code yX8_setAmount cX8_setAmount 5 (some FieldType.int) : Cond) ∈ zB := zb_m5 (List.mem_of_getElem? (i := 81) rfl) rfl
theorem w_1069 : (.code yX8_claimAt cX8_claimAt 2 (some (FieldType.object "Layertreaty$Claim")) : Cond) ∈ zB := zb_m5 (List.mem_of_getElem? (i := 85) rfl) rfl
theorem w_1078 : (.code yX8_treaty cX8_treaty 8 (some FieldType.int) : Cond) ∈ zB := zb_m5 (List.mem_of_getElem? (i := 94) rfl) rfl
theorem w_1081 : (.code yX8_isBasis cX8_isBasis 1 (some FieldType.boolean) : Cond) ∈ zB := zb_m5 (List.mem_of_getElem? (i := 97) rfl) rfl
theorem w_1084 : (.code yX8_fitsKind cX8_fitsKind 3 (some FieldType.boolean) : Cond) ∈ zB := zb_m5 (List.mem_of_getElem? (i := 100) rfl) rfl
theorem w_1089 : (.code yX7_init cX7_init 8 none : Cond) ∈ zB := zb_m5 (List.mem_of_getElem? (i := 105) rfl) rfl
theorem w_1159 : (.code yX1_init cX1_init 2 none : Cond) ∈ zB := zb_m5 (List.mem_of_getElem? (i := 175) rfl) rfl
theorem w_1196 : (.code yX8_setDays cX8_setDays 5 (some FieldType.int) : Cond) ∈ zB := zb_m5 (List.mem_of_getElem? (i := 212) rfl) rfl
theorem w_1204 : (.code yX8_reinstate cX8_reinstate 7 (some FieldType.int) : Cond) ∈ zB := zb_m5 (List.mem_of_getElem? (i := 220) rfl) rfl
theorem w_1214 : (.code yX8_setPremium cX8_setPremium 5 (some FieldType.int) : Cond) ∈ zB := zb_m5 (List.mem_of_getElem? (i := 230) rfl) rfl
theorem w_1222 : (.code yX8_share cX8_share 6 (some FieldType.int) : Cond) ∈ zB := zb_m5 (List.mem_of_getElem? (i := 238) rfl) rfl
theorem w_1225 : (.code yX8_checkReinsurer cX8_checkReinsurer 1 none : Cond) ∈ zB := zb_m6 (List.mem_of_getElem? (i := 1) rfl) rfl
theorem w_1231 : (.code yX7_allShares cX7_allShares 3 (some FieldType.int) : Cond) ∈ zB := zb_m6 (List.mem_of_getElem? (i := 7) rfl) rfl
theorem w_1239 : (.code yX8_commute cX8_commute 4 (some FieldType.long) : Cond) ∈ zB := zb_m6 (List.mem_of_getElem? (i := 15) rfl) rfl
theorem w_1243 : (.code yX8_coverAt cX8_coverAt 2 (some (FieldType.object "Layertreaty$Cover")) : Cond) ∈ zB := zb_m6 (List.mem_of_getElem? (i := 19) rfl) rfl
theorem w_1255 : (.code yX8_left cX8_left 3 (some FieldType.long) : Cond) ∈ zB := zb_m6 (List.mem_of_getElem? (i := 31) rfl) rfl
theorem w_1262 : (.code yX8_taken cX8_taken 2 (some FieldType.long) : Cond) ∈ zB := zb_m6 (List.mem_of_getElem? (i := 38) rfl) rfl
theorem w_1269 : (.code yX8_owed cX8_owed 2 (some FieldType.long) : Cond) ∈ zB := zb_m6 (List.mem_of_getElem? (i := 45) rfl) rfl
theorem w_1276 : (.code yX8_events cX8_events 4 (some FieldType.int) : Cond) ∈ zB := zb_m6 (List.mem_of_getElem? (i := 52) rfl) rfl
theorem w_1284 : (.code yX8_lost cX8_lost 2 (some FieldType.long) : Cond) ∈ zB := zb_m6 (List.mem_of_getElem? (i := 60) rfl) rfl
theorem w_1291 : (.code yX8_comes cX8_comes 2 (some FieldType.long) : Cond) ∈ zB := zb_m6 (List.mem_of_getElem? (i := 67) rfl) rfl
theorem w_1298 : (.code yX8_stays cX8_stays 2 (some FieldType.long) : Cond) ∈ zB := zb_m6 (List.mem_of_getElem? (i := 74) rfl) rfl
theorem w_1306 : (.code yX8_scenario cX8_scenario 3 (some FieldType.int) : Cond) ∈ zB := zb_m6 (List.mem_of_getElem? (i := 82) rfl) rfl
theorem w_1312 : (.code yX6_init cX6_init 3 none : Cond) ∈ zB := zb_m6 (List.mem_of_getElem? (i := 88) rfl) rfl
theorem w_1337 : (.code yX8_damage cX8_damage 6 (some FieldType.int) : Cond) ∈ zB := zb_m6 (List.mem_of_getElem? (i := 113) rfl) rfl
theorem w_1341 : (.code yX8_scenarioAt cX8_scenarioAt 2 (some (FieldType.object "Layertreaty$Scenario")) : Cond) ∈ zB := zb_m6 (List.mem_of_getElem? (i := 117) rfl) rfl
theorem w_1350 : (.code yX8_scenarioNet cX8_scenarioNet 3 (some FieldType.long) : Cond) ∈ zB := zb_m6 (List.mem_of_getElem? (i := 126) rfl) rfl
theorem w_1358 : (.code yX8_tail cX8_tail 8 (some FieldType.long) : Cond) ∈ zB := zb_m6 (List.mem_of_getElem? (i := 134) rfl) rfl
theorem w_1379 : (.code yX8_weightAbove cX8_weightAbove 5 (some FieldType.int) : Cond) ∈ zB := zb_m6 (List.mem_of_getElem? (i := 155) rfl) rfl
theorem w_1388 : (.code yX8_handOn cX8_handOn 6 (some FieldType.boolean) : Cond) ∈ zB := zb_m6 (List.mem_of_getElem? (i := 164) rfl) rfl
theorem w_1396 : (.code yX8_fail cX8_fail 4 (some FieldType.boolean) : Cond) ∈ zB := zb_m6 (List.mem_of_getElem? (i := 172) rfl) rfl
theorem w_1399 : (.code yL_kept cL_kept 28 (some FieldType.boolean) : Cond) ∈ zB := zb_m6 (List.mem_of_getElem? (i := 175) rfl) rfl
theorem w_1406 : (.code yX8_takenFrom cX8_takenFrom 5 (some FieldType.long) : Cond) ∈ zB := zb_m6 (List.mem_of_getElem? (i := 182) rfl) rfl
theorem w_1413 : (.code yX8_limit cX8_limit 3 (some FieldType.long) : Cond) ∈ zB := zb_m6 (List.mem_of_getElem? (i := 189) rfl) rfl
theorem w_1423 : (.code yX8_reinstated cX8_reinstated 2 (some FieldType.long) : Cond) ∈ zB := zb_m6 (List.mem_of_getElem? (i := 199) rfl) rfl
theorem w_1430 : (.code yX8_paid cX8_paid 4 (some FieldType.long) : Cond) ∈ zB := zb_m6 (List.mem_of_getElem? (i := 206) rfl) rfl
theorem w_1435 : (.code yX8_allLosses cX8_allLosses 4 (some FieldType.long) : Cond) ∈ zB := zb_m6 (List.mem_of_getElem? (i := 211) rfl) rfl
theorem w_1439 : (.code yJ0_charAt_5068e cJ0_charAt_5068e 2 (some FieldType.char) : Cond) ∈ zB := zb_m6 (List.mem_of_getElem? (i := 215) rfl) rfl
theorem w_1443 : (.code yJ0_isLatin1_aae02 cJ0_isLatin1_aae02 1 (some FieldType.boolean) : Cond) ∈ zB := zb_m6 (List.mem_of_getElem? (i := 219) rfl) rfl
theorem w_1446 : (.code yJ1_charAt_3b067 cJ1_charAt_3b067 2 (some FieldType.char) : Cond) ∈ zB := zb_m6 (List.mem_of_getElem? (i := 222) rfl) rfl
theorem w_1449 : (.code yJ0_checkIndex_df160 cJ0_checkIndex_df160 2 none : Cond) ∈ zB := zb_m6 (List.mem_of_getElem? (i := 225) rfl) rfl
theorem w_62 : (.methodLink RL 162 yX8_init : Cond) ∈ zB := zb_m1 (List.mem_of_getElem? (i := 38) rfl) rfl
theorem w_65 : (.methodLink RX8 1 ⟨"java/lang/Object", "<init>", "()V"⟩ : Cond) ∈ zB := zb_m1 (List.mem_of_getElem? (i := 41) rfl) rfl
theorem w_70 : (.methodLink RX8 9 yJx4a65c_init_da8c8 : Cond) ∈ zB := zb_m1 (List.mem_of_getElem? (i := 46) rfl) rfl
theorem w_73 : (.methodLink RJx4a65c 1 yJxc12de_init_da8c8 : Cond) ∈ zB := zb_m1 (List.mem_of_getElem? (i := 49) rfl) rfl
theorem w_76 : (.methodLink RJxc12de 1 yJxa1e45_init_da8c8 : Cond) ∈ zB := zb_m1 (List.mem_of_getElem? (i := 52) rfl) rfl
theorem w_79 : (.methodLink RJxa1e45 1 ⟨"java/lang/Object", "<init>", "()V"⟩ : Cond) ∈ zB := zb_m1 (List.mem_of_getElem? (i := 55) rfl) rfl
theorem w_99 : (.methodLink RX2 3 ⟨"java/lang/Object", "<init>", "()V"⟩ : Cond) ∈ zB := zb_m1 (List.mem_of_getElem? (i := 75) rfl) rfl
theorem w_101 : (.methodLink RX2 11 yJx4a65c_init_da8c8 : Cond) ∈ zB := zb_m1 (List.mem_of_getElem? (i := 77) rfl) rfl
theorem w_107 : (.methodLink RX3 3 ⟨"java/lang/Object", "<init>", "()V"⟩ : Cond) ∈ zB := zb_m1 (List.mem_of_getElem? (i := 83) rfl) rfl
theorem w_158 : (.methodLink RX5 3 ⟨"java/lang/Object", "<init>", "()V"⟩ : Cond) ∈ zB := zb_m1 (List.mem_of_getElem? (i := 134) rfl) rfl
theorem w_222 : (.methodLink RL 214 yX8_isSame : Cond) ∈ zB := zb_m1 (List.mem_of_getElem? (i := 198) rfl) rfl
theorem w_226 : (.methodLink RX8 156 yX8_treatyAt : Cond) ∈ zB := zb_m1 (List.mem_of_getElem? (i := 202) rfl) rfl
theorem w_230 : (.methodLink RX8 65 yJx4a65c_size_8abf5 : Cond) ∈ zB := zb_m1 (List.mem_of_getElem? (i := 206) rfl) rfl
theorem w_234 : (.methodLink RX8 50 yX8_isOut : Cond) ∈ zB := zb_m1 (List.mem_of_getElem? (i := 210) rfl) rfl
theorem w_309 : (.methodLink RX8 95 yJx4a65c_get_915e3 : Cond) ∈ zB := zb_m2 (List.mem_of_getElem? (i := 45) rfl) rfl
theorem w_313 : (.methodLink RJx4a65c 118 yJ15_checkIndex_7cf53 : Cond) ∈ zB := zb_m2 (List.mem_of_getElem? (i := 49) rfl) rfl
theorem w_316 : (.methodLink RJ15 105 yJ3_checkIndex_8e157 : Cond) ∈ zB := zb_m2 (List.mem_of_getElem? (i := 52) rfl) rfl
theorem w_319 : (.methodLink RJx4a65c 123 yJx4a65c_elementData_915e3 : Cond) ∈ zB := zb_m2 (List.mem_of_getElem? (i := 55) rfl) rfl
theorem w_324 : (.methodLink RX8 264 yX8_checkHasEvents : Cond) ∈ zB := zb_m2 (List.mem_of_getElem? (i := 60) rfl) rfl
theorem w_343 : (.methodLink RX8 276 yX2_isLaidBest : Cond) ∈ zB := zb_m2 (List.mem_of_getElem? (i := 79) rfl) rfl
theorem w_347 : (.methodLink RX2 61 yX2_run : Cond) ∈ zB := zb_m2 (List.mem_of_getElem? (i := 83) rfl) rfl
theorem w_351 : (.methodLink RX2 38 yJx4a65c_size_8abf5 : Cond) ∈ zB := zb_m2 (List.mem_of_getElem? (i := 87) rfl) rfl
theorem w_352 : (.methodLink RX2 42 yJx4a65c_get_915e3 : Cond) ∈ zB := zb_m2 (List.mem_of_getElem? (i := 88) rfl) rfl
theorem w_354 : (.methodLink RX2 65 yX0_begin : Cond) ∈ zB := zb_m2 (List.mem_of_getElem? (i := 90) rfl) rfl
theorem w_358 : (.methodLink RX0 37 yJ7_fill_d0a16 : Cond) ∈ zB := zb_m2 (List.mem_of_getElem? (i := 94) rfl) rfl
theorem w_361 : (.methodLink RX0 43 yJ7_fill_53178 : Cond) ∈ zB := zb_m2 (List.mem_of_getElem? (i := 97) rfl) rfl
theorem w_365 : (.methodLink RX2 70 yX1_begin : Cond) ∈ zB := zb_m2 (List.mem_of_getElem? (i := 101) rfl) rfl
theorem w_369 : (.methodLink RX1 32 yJ7_fill_53178 : Cond) ∈ zB := zb_m2 (List.mem_of_getElem? (i := 105) rfl) rfl
theorem w_370 : (.methodLink RX1 44 yX7_wholeLimit : Cond) ∈ zB := zb_m2 (List.mem_of_getElem? (i := 106) rfl) rfl
theorem w_374 : (.methodLink RX7 60 yX7_isLimited : Cond) ∈ zB := zb_m2 (List.mem_of_getElem? (i := 110) rfl) rfl
theorem w_379 : (.methodLink RX2 71 yX2_serveLoss : Cond) ∈ zB := zb_m2 (List.mem_of_getElem? (i := 115) rfl) rfl
theorem w_383 : (.methodLink RX2 99 yX7_isForEachLoss : Cond) ∈ zB := zb_m2 (List.mem_of_getElem? (i := 119) rfl) rfl
theorem w_387 : (.methodLink RX2 103 yX7_coversLoss : Cond) ∈ zB := zb_m2 (List.mem_of_getElem? (i := 123) rfl) rfl
theorem w_391 : (.methodLink RX2 107 yX7_wantedOf : Cond) ∈ zB := zb_m2 (List.mem_of_getElem? (i := 127) rfl) rfl
theorem w_396 : (.methodLink RX7 99 ⟨RJ9, "min", "(II)I"⟩ : Cond) ∈ zB := zb_m2 (List.mem_of_getElem? (i := 132) rfl) rfl
theorem w_399 : (.methodLink RX7 102 yX7_layerOf : Cond) ∈ zB := zb_m2 (List.mem_of_getElem? (i := 135) rfl) rfl
theorem w_403 : (.methodLink RX7 81 ⟨RJ9, "min", "(JJ)J"⟩ : Cond) ∈ zB := zb_m2 (List.mem_of_getElem? (i := 139) rfl) rfl
theorem w_406 : (.methodLink RX7 87 ⟨RJ9, "max", "(JJ)J"⟩ : Cond) ∈ zB := zb_m2 (List.mem_of_getElem? (i := 142) rfl) rfl
theorem w_409 : (.methodLink RX2 115 ⟨RJ9, "min", "(JJ)J"⟩ : Cond) ∈ zB := zb_m2 (List.mem_of_getElem? (i := 145) rfl) rfl
theorem w_410 : (.methodLink RX2 121 yX1_takeFrom : Cond) ∈ zB := zb_m2 (List.mem_of_getElem? (i := 146) rfl) rfl
theorem w_414 : (.methodLink RX2 125 yX1_refill : Cond) ∈ zB := zb_m2 (List.mem_of_getElem? (i := 150) rfl) rfl
theorem w_418 : (.methodLink RX1 61 yX7_isLimited : Cond) ∈ zB := zb_m2 (List.mem_of_getElem? (i := 154) rfl) rfl
theorem w_419 : (.methodLink RX1 71 ⟨RJ9, "min", "(JJ)J"⟩ : Cond) ∈ zB := zb_m2 (List.mem_of_getElem? (i := 155) rfl) rfl
theorem w_420 : (.methodLink RX1 77 yX7_priceOf : Cond) ∈ zB := zb_m2 (List.mem_of_getElem? (i := 156) rfl) rfl
theorem w_424 : (.methodLink RX7 106 ⟨RJ9, "max", "(II)I"⟩ : Cond) ∈ zB := zb_m2 (List.mem_of_getElem? (i := 160) rfl) rfl
theorem w_427 : (.methodLink RX2 83 yX2_findOpen : Cond) ∈ zB := zb_m2 (List.mem_of_getElem? (i := 163) rfl) rfl
theorem w_431 : (.methodLink RX2 161 yJx4a65c_clear_da8c8 : Cond) ∈ zB := zb_m2 (List.mem_of_getElem? (i := 167) rfl) rfl
theorem w_435 : (.methodLink RX2 167 yJx4a65c_add_9ea2d : Cond) ∈ zB := zb_m2 (List.mem_of_getElem? (i := 171) rfl) rfl
theorem w_439 : (.methodLink RJx4a65c 131 yJx4a65c_add_72be8 : Cond) ∈ zB := zb_m2 (List.mem_of_getElem? (i := 175) rfl) rfl
theorem w_443 : (.methodLink RJx4a65c 129 yJx4a65c_grow_d5877 : Cond) ∈ zB := zb_m2 (List.mem_of_getElem? (i := 179) rfl) rfl
theorem w_447 : (.methodLink RJx4a65c 69 yJx4a65c_grow_92f84 : Cond) ∈ zB := zb_m2 (List.mem_of_getElem? (i := 183) rfl) rfl
theorem w_451 : (.methodLink RJx4a65c 73 yJ8_newLength_cabcc : Cond) ∈ zB := zb_m2 (List.mem_of_getElem? (i := 187) rfl) rfl
theorem w_454 : (.methodLink RJ8 194 ⟨RJ9, "max", "(II)I"⟩ : Cond) ∈ zB := zb_m2 (List.mem_of_getElem? (i := 190) rfl) rfl
theorem w_459 : (.methodLink RJx4a65c 66 yJ7_copyOf_1904c : Cond) ∈ zB := zb_m2 (List.mem_of_getElem? (i := 195) rfl) rfl
theorem w_462 : (.methodLink RJ7 86 ⟨"java/lang/Object", "getClass", "()Ljava/lang/Class;"⟩ : Cond) ∈ zB := zb_m2 (List.mem_of_getElem? (i := 198) rfl) rfl
theorem w_485 : (.methodLink RJ7 300 yJ7_copyOf_6403c : Cond) ∈ zB := zb_m2 (List.mem_of_getElem? (i := 221) rfl) rfl
theorem w_491 : (.methodLink RJ7 304 ⟨RJ9, "min", "(II)I"⟩ : Cond) ∈ zB := zb_m2 (List.mem_of_getElem? (i := 227) rfl) rfl
theorem w_492 : (.methodLink RJ7 150 ⟨RJ10, "arraycopy", "(Ljava/lang/Object;ILjava/lang/Object;II)V"⟩ : Cond) ∈ zB := zb_m2 (List.mem_of_getElem? (i := 228) rfl) rfl
theorem w_495 : (.methodLink RJx4a65c 79 ⟨RJ9, "max", "(II)I"⟩ : Cond) ∈ zB := zb_m2 (List.mem_of_getElem? (i := 231) rfl) rfl
theorem w_497 : (.methodLink RX2 87 yX2_serveZone : Cond) ∈ zB := zb_m2 (List.mem_of_getElem? (i := 233) rfl) rfl
theorem w_501 : (.methodLink RX2 140 yX3_add : Cond) ∈ zB := zb_m2 (List.mem_of_getElem? (i := 237) rfl) rfl
theorem w_505 : (.methodLink RX2 142 yX3_lay : Cond) ∈ zB := zb_m3 (List.mem_of_getElem? (i := 1) rfl) rfl
theorem w_509 : (.methodLink RX3 45 yX7_layerOf : Cond) ∈ zB := zb_m3 (List.mem_of_getElem? (i := 5) rfl) rfl
theorem w_510 : (.methodLink RX2 146 yX3_isBestOfAll : Cond) ∈ zB := zb_m3 (List.mem_of_getElem? (i := 6) rfl) rfl
theorem w_515 : (.methodLink RX3 51 yJ6_bitCount_0f7a4 : Cond) ∈ zB := zb_m3 (List.mem_of_getElem? (i := 11) rfl) rfl
theorem w_521 : (.methodLink RX3 57 yX3_worthOf : Cond) ∈ zB := zb_m3 (List.mem_of_getElem? (i := 17) rfl) rfl
theorem w_525 : (.methodLink RX3 65 yX3_isCut : Cond) ∈ zB := zb_m3 (List.mem_of_getElem? (i := 21) rfl) rfl
theorem w_529 : (.methodLink RX3 61 yX3_laidCuts : Cond) ∈ zB := zb_m3 (List.mem_of_getElem? (i := 25) rfl) rfl
theorem w_533 : (.methodLink RX2 91 yX2_gather : Cond) ∈ zB := zb_m3 (List.mem_of_getElem? (i := 29) rfl) rfl
theorem w_537 : (.methodLink RX2 95 yX2_serveGroup : Cond) ∈ zB := zb_m3 (List.mem_of_getElem? (i := 33) rfl) rfl
theorem w_541 : (.methodLink RX2 170 yX7_layerOf : Cond) ∈ zB := zb_m3 (List.mem_of_getElem? (i := 37) rfl) rfl
theorem w_542 : (.methodLink RL 159 yX8_net : Cond) ∈ zB := zb_m3 (List.mem_of_getElem? (i := 38) rfl) rfl
theorem w_546 : (.methodLink RX8 232 yX8_settle : Cond) ∈ zB := zb_m3 (List.mem_of_getElem? (i := 42) rfl) rfl
theorem w_550 : (.methodLink RX8 376 yX2_run : Cond) ∈ zB := zb_m3 (List.mem_of_getElem? (i := 46) rfl) rfl
theorem w_551 : (.methodLink RX8 298 yX2_allLeft : Cond) ∈ zB := zb_m3 (List.mem_of_getElem? (i := 47) rfl) rfl
theorem w_556 : (.methodLink RX8 284 yX2_allPartsOf : Cond) ∈ zB := zb_m3 (List.mem_of_getElem? (i := 52) rfl) rfl
theorem w_560 : (.methodLink RX2 183 yX2_partOf : Cond) ∈ zB := zb_m3 (List.mem_of_getElem? (i := 56) rfl) rfl
theorem w_565 : (.methodLink RL 228 yX8_losses : Cond) ∈ zB := zb_m3 (List.mem_of_getElem? (i := 61) rfl) rfl
theorem w_569 : (.methodLink RL 220 yX8_meanNet : Cond) ∈ zB := zb_m3 (List.mem_of_getElem? (i := 65) rfl) rfl
theorem w_573 : (.methodLink RX8 328 yJx4a65c_isEmpty_aae02 : Cond) ∈ zB := zb_m3 (List.mem_of_getElem? (i := 69) rfl) rfl
theorem w_593 : (.methodLink RX8 333 yX8_playAll : Cond) ∈ zB := zb_m3 (List.mem_of_getElem? (i := 89) rfl) rfl
theorem w_598 : (.methodLink RX8 319 yX8_play : Cond) ∈ zB := zb_m3 (List.mem_of_getElem? (i := 94) rfl) rfl
theorem w_602 : (.methodLink RX8 386 yJx4a65c_clear_da8c8 : Cond) ∈ zB := zb_m3 (List.mem_of_getElem? (i := 98) rfl) rfl
theorem w_604 : (.methodLink RX8 393 yX6_damageOf : Cond) ∈ zB := zb_m3 (List.mem_of_getElem? (i := 100) rfl) rfl
theorem w_608 : (.methodLink RX6 26 yX4_isInForce : Cond) ∈ zB := zb_m3 (List.mem_of_getElem? (i := 104) rfl) rfl
theorem w_613 : (.methodLink RX8 110 yX0_happen : Cond) ∈ zB := zb_m3 (List.mem_of_getElem? (i := 109) rfl) rfl
theorem w_617 : (.methodLink RX8 79 yJx4a65c_add_9ea2d : Cond) ∈ zB := zb_m3 (List.mem_of_getElem? (i := 113) rfl) rfl
theorem w_618 : (.methodLink RL 224 yX8_isSound : Cond) ∈ zB := zb_m3 (List.mem_of_getElem? (i := 114) rfl) rfl
theorem w_622 : (.methodLink RX8 288 yX8_settlePool : Cond) ∈ zB := zb_m3 (List.mem_of_getElem? (i := 118) rfl) rfl
theorem w_626 : (.methodLink RX8 382 yX5_settleRings : Cond) ∈ zB := zb_m3 (List.mem_of_getElem? (i := 122) rfl) rfl
theorem w_630 : (.methodLink RX5 50 yJ7_fill_d0a16 : Cond) ∈ zB := zb_m3 (List.mem_of_getElem? (i := 126) rfl) rfl
theorem w_631 : (.methodLink RX5 56 yX5_goRounds : Cond) ∈ zB := zb_m3 (List.mem_of_getElem? (i := 127) rfl) rfl
theorem w_635 : (.methodLink RX5 60 ⟨RJ10, "arraycopy", "(Ljava/lang/Object;ILjava/lang/Object;II)V"⟩ : Cond) ∈ zB := zb_m3 (List.mem_of_getElem? (i := 131) rfl) rfl
theorem w_636 : (.methodLink RX5 68 yX5_handedOn : Cond) ∈ zB := zb_m3 (List.mem_of_getElem? (i := 132) rfl) rfl
theorem w_640 : (.methodLink RX5 41 ⟨RJ9, "min", "(JJ)J"⟩ : Cond) ∈ zB := zb_m3 (List.mem_of_getElem? (i := 136) rfl) rfl
theorem w_641 : (.methodLink RX5 47 ⟨RJ9, "max", "(JJ)J"⟩ : Cond) ∈ zB := zb_m3 (List.mem_of_getElem? (i := 137) rfl) rfl
theorem w_643 : (.methodLink RX8 355 yX2_areLossesWhole : Cond) ∈ zB := zb_m3 (List.mem_of_getElem? (i := 139) rfl) rfl
theorem w_647 : (.methodLink RX8 358 yX2_areLimitsKept : Cond) ∈ zB := zb_m3 (List.mem_of_getElem? (i := 143) rfl) rfl
theorem w_651 : (.methodLink RX2 196 yX7_wholeLimit : Cond) ∈ zB := zb_m3 (List.mem_of_getElem? (i := 147) rfl) rfl
theorem w_652 : (.methodLink RX8 361 yX5_fits : Cond) ∈ zB := zb_m3 (List.mem_of_getElem? (i := 148) rfl) rfl
theorem w_656 : (.methodLink RL 163 yL_some : Cond) ∈ zB := zb_m3 (List.mem_of_getElem? (i := 152) rfl) rfl
theorem w_659 : (.methodLink RL 7 yL_cell : Cond) ∈ zB := zb_m3 (List.mem_of_getElem? (i := 155) rfl) rfl
theorem w_662 : (.methodLink RL 167 yL_policy : Cond) ∈ zB := zb_m3 (List.mem_of_getElem? (i := 158) rfl) rfl
theorem w_667 : (.methodLink RL 13 yX8_policy : Cond) ∈ zB := zb_m3 (List.mem_of_getElem? (i := 163) rfl) rfl
theorem w_672 : (.methodLink RX8 54 yX8_isSpan : Cond) ∈ zB := zb_m3 (List.mem_of_getElem? (i := 168) rfl) rfl
theorem w_709 : (.methodLink RX8 76 yX4_init : Cond) ∈ zB := zb_m3 (List.mem_of_getElem? (i := 205) rfl) rfl
theorem w_712 : (.methodLink RX4 1 ⟨"java/lang/Object", "<init>", "()V"⟩ : Cond) ∈ zB := zb_m3 (List.mem_of_getElem? (i := 208) rfl) rfl
theorem w_732 : (.methodLink RX8 85 yX0_init : Cond) ∈ zB := zb_m3 (List.mem_of_getElem? (i := 228) rfl) rfl
theorem w_735 : (.methodLink RX0 3 ⟨"java/lang/Object", "<init>", "()V"⟩ : Cond) ∈ zB := zb_m3 (List.mem_of_getElem? (i := 231) rfl) rfl
theorem w_778 : (.methodLink RL 170 yL_loss : Cond) ∈ zB := zb_m4 (List.mem_of_getElem? (i := 34) rfl) rfl
theorem w_803 : (.methodLink RL 25 yX8_loss : Cond) ∈ zB := zb_m4 (List.mem_of_getElem? (i := 59) rfl) rfl
theorem w_809 : (.methodLink RX8 99 yX4_isInForce : Cond) ∈ zB := zb_m4 (List.mem_of_getElem? (i := 65) rfl) rfl
theorem w_812 : (.methodLink RX8 114 yX2_addByDay : Cond) ∈ zB := zb_m4 (List.mem_of_getElem? (i := 68) rfl) rfl
theorem w_816 : (.methodLink RX2 52 yJx4a65c_add_7a177 : Cond) ∈ zB := zb_m4 (List.mem_of_getElem? (i := 72) rfl) rfl
theorem w_820 : (.methodLink RJx4a65c 135 yJx4a65c_rangeCheckForAdd_d00df : Cond) ∈ zB := zb_m4 (List.mem_of_getElem? (i := 76) rfl) rfl
theorem w_964 : (.methodLink RJ0 212 ⟨RJ10, "arraycopy", "(Ljava/lang/Object;ILjava/lang/Object;II)V"⟩ : Cond) ∈ zB := zb_m4 (List.mem_of_getElem? (i := 220) rfl) rfl
theorem w_1003 : (.methodLink RJ0 1 ⟨"java/lang/Object", "<init>", "()V"⟩ : Cond) ∈ zB := zb_m5 (List.mem_of_getElem? (i := 19) rfl) rfl
theorem w_1056 : (.methodLink RJx4a65c 112 ⟨RJ10, "arraycopy", "(Ljava/lang/Object;ILjava/lang/Object;II)V"⟩ : Cond) ∈ zB := zb_m5 (List.mem_of_getElem? (i := 72) rfl) rfl
theorem w_1059 : (.methodLink RL 204 yL_setAmount : Cond) ∈ zB := zb_m5 (List.mem_of_getElem? (i := 75) rfl) rfl
theorem w_1062 : (.methodLink RL 34 yX8_setAmount : Cond) ∈ zB := zb_m5 (List.mem_of_getElem? (i := 78) rfl) rfl
theorem w_1066 : (.methodLink RX8 118 yX8_claimAt : Cond) ∈ zB := zb_m5 (List.mem_of_getElem? (i := 82) rfl) rfl
theorem w_1072 : (.methodLink RL 182 yL_treaty : Cond) ∈ zB := zb_m5 (List.mem_of_getElem? (i := 88) rfl) rfl
theorem w_1075 : (.methodLink RL 38 yX8_treaty : Cond) ∈ zB := zb_m5 (List.mem_of_getElem? (i := 91) rfl) rfl
theorem w_1079 : (.methodLink RX8 128 yX8_isBasis : Cond) ∈ zB := zb_m5 (List.mem_of_getElem? (i := 95) rfl) rfl
theorem w_1082 : (.methodLink RX8 132 yX8_fitsKind : Cond) ∈ zB := zb_m5 (List.mem_of_getElem? (i := 98) rfl) rfl
theorem w_1087 : (.methodLink RX8 142 yX7_init : Cond) ∈ zB := zb_m5 (List.mem_of_getElem? (i := 103) rfl) rfl
theorem w_1090 : (.methodLink RX7 3 ⟨"java/lang/Object", "<init>", "()V"⟩ : Cond) ∈ zB := zb_m5 (List.mem_of_getElem? (i := 106) rfl) rfl
theorem w_1157 : (.methodLink RX8 150 yX1_init : Cond) ∈ zB := zb_m5 (List.mem_of_getElem? (i := 173) rfl) rfl
theorem w_1160 : (.methodLink RX1 3 ⟨"java/lang/Object", "<init>", "()V"⟩ : Cond) ∈ zB := zb_m5 (List.mem_of_getElem? (i := 176) rfl) rfl
theorem w_1190 : (.methodLink RL 202 yL_setDays : Cond) ∈ zB := zb_m5 (List.mem_of_getElem? (i := 206) rfl) rfl
theorem w_1193 : (.methodLink RL 42 yX8_setDays : Cond) ∈ zB := zb_m5 (List.mem_of_getElem? (i := 209) rfl) rfl
theorem w_1198 : (.methodLink RL 196 yL_reinstate : Cond) ∈ zB := zb_m5 (List.mem_of_getElem? (i := 214) rfl) rfl
theorem w_1201 : (.methodLink RL 45 yX8_reinstate : Cond) ∈ zB := zb_m5 (List.mem_of_getElem? (i := 217) rfl) rfl
theorem w_1206 : (.methodLink RX8 167 yX7_isLimited : Cond) ∈ zB := zb_m5 (List.mem_of_getElem? (i := 222) rfl) rfl
theorem w_1208 : (.methodLink RL 199 yL_setPremium : Cond) ∈ zB := zb_m5 (List.mem_of_getElem? (i := 224) rfl) rfl
theorem w_1211 : (.methodLink RL 49 yX8_setPremium : Cond) ∈ zB := zb_m5 (List.mem_of_getElem? (i := 227) rfl) rfl
theorem w_1216 : (.methodLink RL 185 yL_share : Cond) ∈ zB := zb_m5 (List.mem_of_getElem? (i := 232) rfl) rfl
theorem w_1219 : (.methodLink RL 52 yX8_share : Cond) ∈ zB := zb_m5 (List.mem_of_getElem? (i := 235) rfl) rfl
theorem w_1223 : (.methodLink RX8 187 yX8_checkReinsurer : Cond) ∈ zB := zb_m5 (List.mem_of_getElem? (i := 239) rfl) rfl
theorem w_1228 : (.methodLink RX8 197 yX7_allShares : Cond) ∈ zB := zb_m6 (List.mem_of_getElem? (i := 4) rfl) rfl
theorem w_1233 : (.methodLink RL 194 yL_commute : Cond) ∈ zB := zb_m6 (List.mem_of_getElem? (i := 9) rfl) rfl
theorem w_1236 : (.methodLink RL 56 yX8_commute : Cond) ∈ zB := zb_m6 (List.mem_of_getElem? (i := 12) rfl) rfl
theorem w_1240 : (.methodLink RX8 217 yX8_coverAt : Cond) ∈ zB := zb_m6 (List.mem_of_getElem? (i := 16) rfl) rfl
theorem w_1249 : (.methodLink RL 130 yL_left : Cond) ∈ zB := zb_m6 (List.mem_of_getElem? (i := 25) rfl) rfl
theorem w_1252 : (.methodLink RL 66 yX8_left : Cond) ∈ zB := zb_m6 (List.mem_of_getElem? (i := 28) rfl) rfl
theorem w_1256 : (.methodLink RL 140 yL_taken : Cond) ∈ zB := zb_m6 (List.mem_of_getElem? (i := 32) rfl) rfl
theorem w_1259 : (.methodLink RL 70 yX8_taken : Cond) ∈ zB := zb_m6 (List.mem_of_getElem? (i := 35) rfl) rfl
theorem w_1263 : (.methodLink RL 142 yL_owed : Cond) ∈ zB := zb_m6 (List.mem_of_getElem? (i := 39) rfl) rfl
theorem w_1266 : (.methodLink RL 84 yX8_owed : Cond) ∈ zB := zb_m6 (List.mem_of_getElem? (i := 42) rfl) rfl
theorem w_1270 : (.methodLink RL 212 yL_events : Cond) ∈ zB := zb_m6 (List.mem_of_getElem? (i := 46) rfl) rfl
theorem w_1273 : (.methodLink RL 87 yX8_events : Cond) ∈ zB := zb_m6 (List.mem_of_getElem? (i := 49) rfl) rfl
theorem w_1278 : (.methodLink RL 150 yL_lost : Cond) ∈ zB := zb_m6 (List.mem_of_getElem? (i := 54) rfl) rfl
theorem w_1281 : (.methodLink RL 99 yX8_lost : Cond) ∈ zB := zb_m6 (List.mem_of_getElem? (i := 57) rfl) rfl
theorem w_1285 : (.methodLink RL 146 yL_comes : Cond) ∈ zB := zb_m6 (List.mem_of_getElem? (i := 61) rfl) rfl
theorem w_1288 : (.methodLink RL 102 yX8_comes : Cond) ∈ zB := zb_m6 (List.mem_of_getElem? (i := 64) rfl) rfl
theorem w_1292 : (.methodLink RL 148 yL_stays : Cond) ∈ zB := zb_m6 (List.mem_of_getElem? (i := 68) rfl) rfl
theorem w_1295 : (.methodLink RL 105 yX8_stays : Cond) ∈ zB := zb_m6 (List.mem_of_getElem? (i := 71) rfl) rfl
theorem w_1299 : (.methodLink RX8 294 yX5_handedOn : Cond) ∈ zB := zb_m6 (List.mem_of_getElem? (i := 75) rfl) rfl
theorem w_1300 : (.methodLink RL 206 yL_scenario : Cond) ∈ zB := zb_m6 (List.mem_of_getElem? (i := 76) rfl) rfl
theorem w_1303 : (.methodLink RL 108 yX8_scenario : Cond) ∈ zB := zb_m6 (List.mem_of_getElem? (i := 79) rfl) rfl
theorem w_1310 : (.methodLink RX8 308 yX6_init : Cond) ∈ zB := zb_m6 (List.mem_of_getElem? (i := 86) rfl) rfl
theorem w_1313 : (.methodLink RX6 3 ⟨"java/lang/Object", "<init>", "()V"⟩ : Cond) ∈ zB := zb_m6 (List.mem_of_getElem? (i := 89) rfl) rfl
theorem w_1331 : (.methodLink RL 210 yL_damage : Cond) ∈ zB := zb_m6 (List.mem_of_getElem? (i := 107) rfl) rfl
theorem w_1334 : (.methodLink RL 111 yX8_damage : Cond) ∈ zB := zb_m6 (List.mem_of_getElem? (i := 110) rfl) rfl
theorem w_1338 : (.methodLink RX8 311 yX8_scenarioAt : Cond) ∈ zB := zb_m6 (List.mem_of_getElem? (i := 114) rfl) rfl
theorem w_1344 : (.methodLink RL 208 yL_scenarioNet : Cond) ∈ zB := zb_m6 (List.mem_of_getElem? (i := 120) rfl) rfl
theorem w_1347 : (.methodLink RL 114 yX8_scenarioNet : Cond) ∈ zB := zb_m6 (List.mem_of_getElem? (i := 123) rfl) rfl
theorem w_1351 : (.methodLink RL 218 yL_tail : Cond) ∈ zB := zb_m6 (List.mem_of_getElem? (i := 127) rfl) rfl
theorem w_1355 : (.methodLink RL 117 yX8_tail : Cond) ∈ zB := zb_m6 (List.mem_of_getElem? (i := 131) rfl) rfl
theorem w_1376 : (.methodLink RX8 338 yX8_weightAbove : Cond) ∈ zB := zb_m6 (List.mem_of_getElem? (i := 152) rfl) rfl
theorem w_1382 : (.methodLink RL 188 yL_handOn : Cond) ∈ zB := zb_m6 (List.mem_of_getElem? (i := 158) rfl) rfl
theorem w_1385 : (.methodLink RL 122 yX8_handOn : Cond) ∈ zB := zb_m6 (List.mem_of_getElem? (i := 161) rfl) rfl
theorem w_1390 : (.methodLink RL 152 yL_fail : Cond) ∈ zB := zb_m6 (List.mem_of_getElem? (i := 166) rfl) rfl
theorem w_1393 : (.methodLink RL 126 yX8_fail : Cond) ∈ zB := zb_m6 (List.mem_of_getElem? (i := 169) rfl) rfl
theorem w_1397 : (.methodLink RL 190 yL_kept : Cond) ∈ zB := zb_m6 (List.mem_of_getElem? (i := 173) rfl) rfl
theorem w_1400 : (.methodLink RL 133 yL_takenFrom : Cond) ∈ zB := zb_m6 (List.mem_of_getElem? (i := 176) rfl) rfl
theorem w_1403 : (.methodLink RL 73 yX8_takenFrom : Cond) ∈ zB := zb_m6 (List.mem_of_getElem? (i := 179) rfl) rfl
theorem w_1407 : (.methodLink RL 136 yL_limit : Cond) ∈ zB := zb_m6 (List.mem_of_getElem? (i := 183) rfl) rfl
theorem w_1410 : (.methodLink RL 76 yX8_limit : Cond) ∈ zB := zb_m6 (List.mem_of_getElem? (i := 186) rfl) rfl
theorem w_1417 : (.methodLink RL 138 yL_reinstated : Cond) ∈ zB := zb_m6 (List.mem_of_getElem? (i := 193) rfl) rfl
theorem w_1420 : (.methodLink RL 81 yX8_reinstated : Cond) ∈ zB := zb_m6 (List.mem_of_getElem? (i := 196) rfl) rfl
theorem w_1424 : (.methodLink RL 144 yL_paid : Cond) ∈ zB := zb_m6 (List.mem_of_getElem? (i := 200) rfl) rfl
theorem w_1427 : (.methodLink RL 96 yX8_paid : Cond) ∈ zB := zb_m6 (List.mem_of_getElem? (i := 203) rfl) rfl
theorem w_1431 : (.methodLink RX8 280 yX2_partOf : Cond) ∈ zB := zb_m6 (List.mem_of_getElem? (i := 207) rfl) rfl
theorem w_1432 : (.methodLink RL 155 yX8_allLosses : Cond) ∈ zB := zb_m6 (List.mem_of_getElem? (i := 208) rfl) rfl
theorem w_1436 : (.methodLink RL 174 yJ0_charAt_5068e : Cond) ∈ zB := zb_m6 (List.mem_of_getElem? (i := 212) rfl) rfl
theorem w_1440 : (.methodLink RJ0 492 yJ0_isLatin1_aae02 : Cond) ∈ zB := zb_m6 (List.mem_of_getElem? (i := 216) rfl) rfl
theorem w_1444 : (.methodLink RJ0 495 yJ1_charAt_3b067 : Cond) ∈ zB := zb_m6 (List.mem_of_getElem? (i := 220) rfl) rfl
theorem w_1447 : (.methodLink RJ1 9 yJ0_checkIndex_df160 : Cond) ∈ zB := zb_m6 (List.mem_of_getElem? (i := 223) rfl) rfl
theorem w_1450 : (.methodLink RJ0 1059 yJ3_checkIndex_8e157 : Cond) ∈ zB := zb_m6 (List.mem_of_getElem? (i := 226) rfl) rfl
theorem w_80 : (.fieldLink RJx4a65c 39 "java/util/ArrayList" "DEFAULTCAPACITY_EMPTY_ELEMENTDATA" "[Ljava/lang/Object;" : Cond) ∈ zB := zb_m1 (List.mem_of_getElem? (i := 56) rfl) rfl
theorem w_82 : (.fieldLink RJx4a65c 9 "java/util/ArrayList" "elementData" "[Ljava/lang/Object;" : Cond) ∈ zB := zb_m1 (List.mem_of_getElem? (i := 58) rfl) rfl
theorem w_83 : (.fieldLink RJx4a65c 48 "java/util/ArrayList" "size" "I" : Cond) ∈ zB := zb_m1 (List.mem_of_getElem? (i := 59) rfl) rfl
theorem w_84 : (.fieldLink RJxc12de 7 "java/util/AbstractList" "modCount" "I" : Cond) ∈ zB := zb_m1 (List.mem_of_getElem? (i := 60) rfl) rfl
theorem w_85 : (.fieldLink RJx4a65c 63 "java/util/ArrayList" "modCount" "I" : Cond) ∈ zB := zb_m1 (List.mem_of_getElem? (i := 61) rfl) rfl
theorem w_108 : (.fieldLink RX3 9 "Layertreaty$Laying" "days" "[I" : Cond) ∈ zB := zb_m1 (List.mem_of_getElem? (i := 84) rfl) rfl
theorem w_109 : (.fieldLink RX2 154 "Layertreaty$Laying" "days" "[I" : Cond) ∈ zB := zb_m1 (List.mem_of_getElem? (i := 85) rfl) rfl
theorem w_110 : (.fieldLink RX3 15 "Layertreaty$Laying" "sums" "[J" : Cond) ∈ zB := zb_m1 (List.mem_of_getElem? (i := 86) rfl) rfl
theorem w_111 : (.fieldLink RX3 19 "Layertreaty$Laying" "ends" "[I" : Cond) ∈ zB := zb_m1 (List.mem_of_getElem? (i := 87) rfl) rfl
theorem w_112 : (.fieldLink RX2 150 "Layertreaty$Laying" "ends" "[I" : Cond) ∈ zB := zb_m1 (List.mem_of_getElem? (i := 88) rfl) rfl
theorem w_113 : (.fieldLink RX3 22 "Layertreaty$Laying" "brings" "[J" : Cond) ∈ zB := zb_m1 (List.mem_of_getElem? (i := 89) rfl) rfl
theorem w_114 : (.fieldLink RX3 25 "Layertreaty$Laying" "counts" "[I" : Cond) ∈ zB := zb_m1 (List.mem_of_getElem? (i := 90) rfl) rfl
theorem w_115 : (.fieldLink RX3 28 "Layertreaty$Laying" "size" "I" : Cond) ∈ zB := zb_m1 (List.mem_of_getElem? (i := 91) rfl) rfl
theorem w_116 : (.fieldLink RX2 129 "Layertreaty$Laying" "size" "I" : Cond) ∈ zB := zb_m1 (List.mem_of_getElem? (i := 92) rfl) rfl
theorem w_132 : (.fieldLink RX2 12 "Layertreaty$Flow" "claims" "Ljava/util/ArrayList;" : Cond) ∈ zB := zb_m1 (List.mem_of_getElem? (i := 108) rfl) rfl
theorem w_133 : (.fieldLink RX8 385 "Layertreaty$Flow" "claims" "Ljava/util/ArrayList;" : Cond) ∈ zB := zb_m1 (List.mem_of_getElem? (i := 109) rfl) rfl
theorem w_134 : (.fieldLink RX2 18 "Layertreaty$Flow" "covers" "Ljava/util/ArrayList;" : Cond) ∈ zB := zb_m1 (List.mem_of_getElem? (i := 110) rfl) rfl
theorem w_135 : (.fieldLink RX8 145 "Layertreaty$Flow" "covers" "Ljava/util/ArrayList;" : Cond) ∈ zB := zb_m1 (List.mem_of_getElem? (i := 111) rfl) rfl
theorem w_136 : (.fieldLink RX2 21 "Layertreaty$Flow" "open" "Ljava/util/ArrayList;" : Cond) ∈ zB := zb_m1 (List.mem_of_getElem? (i := 112) rfl) rfl
theorem w_137 : (.fieldLink RX2 24 "Layertreaty$Flow" "group" "Ljava/util/ArrayList;" : Cond) ∈ zB := zb_m1 (List.mem_of_getElem? (i := 113) rfl) rfl
theorem w_138 : (.fieldLink RX2 30 "Layertreaty$Flow" "laying" "LLayertreaty$Laying;" : Cond) ∈ zB := zb_m1 (List.mem_of_getElem? (i := 114) rfl) rfl
theorem w_139 : (.fieldLink RX2 34 "Layertreaty$Flow" "isBest" "Z" : Cond) ∈ zB := zb_m1 (List.mem_of_getElem? (i := 115) rfl) rfl
theorem w_159 : (.fieldLink RX5 9 "Layertreaty$Pool" "isFailed" "[Z" : Cond) ∈ zB := zb_m1 (List.mem_of_getElem? (i := 135) rfl) rfl
theorem w_160 : (.fieldLink RX8 202 "Layertreaty$Pool" "isFailed" "[Z" : Cond) ∈ zB := zb_m1 (List.mem_of_getElem? (i := 136) rfl) rfl
theorem w_161 : (.fieldLink RX5 15 "Layertreaty$Pool" "receivers" "[I" : Cond) ∈ zB := zb_m1 (List.mem_of_getElem? (i := 137) rfl) rfl
theorem w_162 : (.fieldLink RX8 211 "Layertreaty$Pool" "receivers" "[I" : Cond) ∈ zB := zb_m1 (List.mem_of_getElem? (i := 138) rfl) rfl
theorem w_163 : (.fieldLink RX5 19 "Layertreaty$Pool" "bounds" "[I" : Cond) ∈ zB := zb_m1 (List.mem_of_getElem? (i := 139) rfl) rfl
theorem w_164 : (.fieldLink RX8 214 "Layertreaty$Pool" "bounds" "[I" : Cond) ∈ zB := zb_m1 (List.mem_of_getElem? (i := 140) rfl) rfl
theorem w_165 : (.fieldLink RX5 22 "Layertreaty$Pool" "limits" "[I" : Cond) ∈ zB := zb_m1 (List.mem_of_getElem? (i := 141) rfl) rfl
theorem w_166 : (.fieldLink RX8 208 "Layertreaty$Pool" "limits" "[I" : Cond) ∈ zB := zb_m1 (List.mem_of_getElem? (i := 142) rfl) rfl
theorem w_167 : (.fieldLink RX5 25 "Layertreaty$Pool" "own" "[J" : Cond) ∈ zB := zb_m1 (List.mem_of_getElem? (i := 143) rfl) rfl
theorem w_168 : (.fieldLink RX8 379 "Layertreaty$Pool" "own" "[J" : Cond) ∈ zB := zb_m1 (List.mem_of_getElem? (i := 144) rfl) rfl
theorem w_169 : (.fieldLink RX5 29 "Layertreaty$Pool" "comes" "[J" : Cond) ∈ zB := zb_m1 (List.mem_of_getElem? (i := 145) rfl) rfl
theorem w_170 : (.fieldLink RX8 291 "Layertreaty$Pool" "comes" "[J" : Cond) ∈ zB := zb_m1 (List.mem_of_getElem? (i := 146) rfl) rfl
theorem w_171 : (.fieldLink RX5 32 "Layertreaty$Pool" "early" "[J" : Cond) ∈ zB := zb_m1 (List.mem_of_getElem? (i := 147) rfl) rfl
theorem w_172 : (.fieldLink RX5 35 "Layertreaty$Pool" "above" "[J" : Cond) ∈ zB := zb_m1 (List.mem_of_getElem? (i := 148) rfl) rfl
theorem w_173 : (.fieldLink RX5 38 "Layertreaty$Pool" "before" "[J" : Cond) ∈ zB := zb_m1 (List.mem_of_getElem? (i := 149) rfl) rfl
theorem w_194 : (.fieldLink RX8 10 "Layertreaty" "policies" "Ljava/util/ArrayList;" : Cond) ∈ zB := zb_m1 (List.mem_of_getElem? (i := 170) rfl) rfl
theorem w_195 : (.fieldLink RX8 16 "Layertreaty" "claims" "Ljava/util/ArrayList;" : Cond) ∈ zB := zb_m1 (List.mem_of_getElem? (i := 171) rfl) rfl
theorem w_196 : (.fieldLink RX8 19 "Layertreaty" "terms" "Ljava/util/ArrayList;" : Cond) ∈ zB := zb_m1 (List.mem_of_getElem? (i := 172) rfl) rfl
theorem w_197 : (.fieldLink RX8 22 "Layertreaty" "scenarios" "Ljava/util/ArrayList;" : Cond) ∈ zB := zb_m1 (List.mem_of_getElem? (i := 173) rfl) rfl
theorem w_198 : (.fieldLink RX8 25 "Layertreaty" "damages" "Ljava/util/ArrayList;" : Cond) ∈ zB := zb_m1 (List.mem_of_getElem? (i := 174) rfl) rfl
theorem w_199 : (.fieldLink RX8 31 "Layertreaty" "real" "LLayertreaty$Flow;" : Cond) ∈ zB := zb_m1 (List.mem_of_getElem? (i := 175) rfl) rfl
theorem w_200 : (.fieldLink RX8 35 "Layertreaty" "trial" "LLayertreaty$Flow;" : Cond) ∈ zB := zb_m1 (List.mem_of_getElem? (i := 176) rfl) rfl
theorem w_201 : (.fieldLink RX8 41 "Layertreaty" "pool" "LLayertreaty$Pool;" : Cond) ∈ zB := zb_m1 (List.mem_of_getElem? (i := 177) rfl) rfl
theorem w_202 : (.fieldLink RX8 45 "Layertreaty" "isSettled" "Z" : Cond) ∈ zB := zb_m1 (List.mem_of_getElem? (i := 178) rfl) rfl
theorem w_713 : (.fieldLink RX4 7 "Layertreaty$Policy" "sum" "I" : Cond) ∈ zB := zb_m3 (List.mem_of_getElem? (i := 209) rfl) rfl
theorem w_714 : (.fieldLink RX6 32 "Layertreaty$Policy" "sum" "I" : Cond) ∈ zB := zb_m3 (List.mem_of_getElem? (i := 210) rfl) rfl
theorem w_715 : (.fieldLink RX7 96 "Layertreaty$Policy" "sum" "I" : Cond) ∈ zB := zb_m3 (List.mem_of_getElem? (i := 211) rfl) rfl
theorem w_716 : (.fieldLink RX4 13 "Layertreaty$Policy" "zone" "I" : Cond) ∈ zB := zb_m3 (List.mem_of_getElem? (i := 212) rfl) rfl
theorem w_717 : (.fieldLink RX6 35 "Layertreaty$Policy" "zone" "I" : Cond) ∈ zB := zb_m3 (List.mem_of_getElem? (i := 213) rfl) rfl
theorem w_718 : (.fieldLink RX2 135 "Layertreaty$Policy" "zone" "I" : Cond) ∈ zB := zb_m3 (List.mem_of_getElem? (i := 214) rfl) rfl
theorem w_719 : (.fieldLink RX4 16 "Layertreaty$Policy" "first" "I" : Cond) ∈ zB := zb_m3 (List.mem_of_getElem? (i := 215) rfl) rfl
theorem w_720 : (.fieldLink RX7 75 "Layertreaty$Policy" "first" "I" : Cond) ∈ zB := zb_m3 (List.mem_of_getElem? (i := 216) rfl) rfl
theorem w_721 : (.fieldLink RX4 19 "Layertreaty$Policy" "last" "I" : Cond) ∈ zB := zb_m3 (List.mem_of_getElem? (i := 217) rfl) rfl
theorem w_736 : (.fieldLink RX0 33 "Layertreaty$Claim" "policy" "LLayertreaty$Policy;" : Cond) ∈ zB := zb_m3 (List.mem_of_getElem? (i := 232) rfl) rfl
theorem w_737 : (.fieldLink RX7 71 "Layertreaty$Claim" "policy" "LLayertreaty$Policy;" : Cond) ∈ zB := zb_m3 (List.mem_of_getElem? (i := 233) rfl) rfl
theorem w_738 : (.fieldLink RX2 131 "Layertreaty$Claim" "policy" "LLayertreaty$Policy;" : Cond) ∈ zB := zb_m3 (List.mem_of_getElem? (i := 234) rfl) rfl
theorem w_739 : (.fieldLink RX8 389 "Layertreaty$Claim" "policy" "LLayertreaty$Policy;" : Cond) ∈ zB := zb_m3 (List.mem_of_getElem? (i := 235) rfl) rfl
theorem w_740 : (.fieldLink RX0 9 "Layertreaty$Claim" "took" "[J" : Cond) ∈ zB := zb_m3 (List.mem_of_getElem? (i := 236) rfl) rfl
theorem w_741 : (.fieldLink RX1 53 "Layertreaty$Claim" "took" "[J" : Cond) ∈ zB := zb_m3 (List.mem_of_getElem? (i := 237) rfl) rfl
theorem w_742 : (.fieldLink RX2 174 "Layertreaty$Claim" "took" "[J" : Cond) ∈ zB := zb_m3 (List.mem_of_getElem? (i := 238) rfl) rfl
theorem w_743 : (.fieldLink RX8 245 "Layertreaty$Claim" "took" "[J" : Cond) ∈ zB := zb_m3 (List.mem_of_getElem? (i := 239) rfl) rfl
theorem w_744 : (.fieldLink RX0 15 "Layertreaty$Claim" "events" "[I" : Cond) ∈ zB := zb_m4 (List.mem_of_getElem? (i := 0) rfl) rfl
theorem w_745 : (.fieldLink RX2 157 "Layertreaty$Claim" "events" "[I" : Cond) ∈ zB := zb_m4 (List.mem_of_getElem? (i := 1) rfl) rfl
theorem w_746 : (.fieldLink RX0 19 "Layertreaty$Claim" "day" "I" : Cond) ∈ zB := zb_m4 (List.mem_of_getElem? (i := 2) rfl) rfl
theorem w_747 : (.fieldLink RX3 32 "Layertreaty$Claim" "day" "I" : Cond) ∈ zB := zb_m4 (List.mem_of_getElem? (i := 3) rfl) rfl
theorem w_748 : (.fieldLink RX2 48 "Layertreaty$Claim" "day" "I" : Cond) ∈ zB := zb_m4 (List.mem_of_getElem? (i := 4) rfl) rfl
theorem w_749 : (.fieldLink RX7 66 "Layertreaty$Claim" "day" "I" : Cond) ∈ zB := zb_m4 (List.mem_of_getElem? (i := 5) rfl) rfl
theorem w_750 : (.fieldLink RX0 23 "Layertreaty$Claim" "told" "I" : Cond) ∈ zB := zb_m4 (List.mem_of_getElem? (i := 6) rfl) rfl
theorem w_751 : (.fieldLink RX7 78 "Layertreaty$Claim" "told" "I" : Cond) ∈ zB := zb_m4 (List.mem_of_getElem? (i := 7) rfl) rfl
theorem w_752 : (.fieldLink RX0 26 "Layertreaty$Claim" "amount" "I" : Cond) ∈ zB := zb_m4 (List.mem_of_getElem? (i := 8) rfl) rfl
theorem w_753 : (.fieldLink RX8 124 "Layertreaty$Claim" "amount" "I" : Cond) ∈ zB := zb_m4 (List.mem_of_getElem? (i := 9) rfl) rfl
theorem w_754 : (.fieldLink RX2 187 "Layertreaty$Claim" "amount" "I" : Cond) ∈ zB := zb_m4 (List.mem_of_getElem? (i := 10) rfl) rfl
theorem w_755 : (.fieldLink RX0 29 "Layertreaty$Claim" "left" "J" : Cond) ∈ zB := zb_m4 (List.mem_of_getElem? (i := 11) rfl) rfl
theorem w_756 : (.fieldLink RX3 37 "Layertreaty$Claim" "left" "J" : Cond) ∈ zB := zb_m4 (List.mem_of_getElem? (i := 12) rfl) rfl
theorem w_757 : (.fieldLink RX1 48 "Layertreaty$Claim" "left" "J" : Cond) ∈ zB := zb_m4 (List.mem_of_getElem? (i := 13) rfl) rfl
theorem w_758 : (.fieldLink RX7 90 "Layertreaty$Claim" "left" "J" : Cond) ∈ zB := zb_m4 (List.mem_of_getElem? (i := 14) rfl) rfl
theorem w_759 : (.fieldLink RX2 164 "Layertreaty$Claim" "left" "J" : Cond) ∈ zB := zb_m4 (List.mem_of_getElem? (i := 15) rfl) rfl
theorem w_760 : (.fieldLink RX8 242 "Layertreaty$Claim" "left" "J" : Cond) ∈ zB := zb_m4 (List.mem_of_getElem? (i := 16) rfl) rfl
theorem w_849 : (.fieldLink RJ0 1048 "java/lang/AbstractStringBuilder" "maybeLatin1" "Z" : Cond) ∈ zB := zb_m4 (List.mem_of_getElem? (i := 105) rfl) rfl
theorem w_909 : (.fieldLink RJ0 1053 "jdk/internal/util/Preconditions" "SIOOBE_FORMATTER" "Ljava/util/function/BiFunction;" : Cond) ∈ zB := zb_m4 (List.mem_of_getElem? (i := 165) rfl) rfl
theorem w_931 : (.fieldLink RJ0 38 "java/lang/String" "COMPACT_STRINGS" "Z" : Cond) ∈ zB := zb_m4 (List.mem_of_getElem? (i := 187) rfl) rfl
theorem w_979 : (.fieldLink RJ6 83 "java/lang/Integer" "DigitOnes" "[B" : Cond) ∈ zB := zb_m4 (List.mem_of_getElem? (i := 235) rfl) rfl
theorem w_981 : (.fieldLink RJ6 87 "java/lang/Integer" "DigitTens" "[B" : Cond) ∈ zB := zb_m4 (List.mem_of_getElem? (i := 237) rfl) rfl
theorem w_1048 : (.fieldLink RJ0 9 "java/lang/String" "value" "[B" : Cond) ∈ zB := zb_m5 (List.mem_of_getElem? (i := 64) rfl) rfl
theorem w_1049 : (.fieldLink RJ0 15 "java/lang/String" "coder" "B" : Cond) ∈ zB := zb_m5 (List.mem_of_getElem? (i := 65) rfl) rfl
theorem w_1091 : (.fieldLink RX7 38 "Layertreaty$Treaty" "number" "I" : Cond) ∈ zB := zb_m5 (List.mem_of_getElem? (i := 107) rfl) rfl
theorem w_1092 : (.fieldLink RX2 56 "Layertreaty$Treaty" "number" "I" : Cond) ∈ zB := zb_m5 (List.mem_of_getElem? (i := 108) rfl) rfl
theorem w_1093 : (.fieldLink RX1 57 "Layertreaty$Treaty" "number" "I" : Cond) ∈ zB := zb_m5 (List.mem_of_getElem? (i := 109) rfl) rfl
theorem w_1094 : (.fieldLink RX8 153 "Layertreaty$Treaty" "number" "I" : Cond) ∈ zB := zb_m5 (List.mem_of_getElem? (i := 110) rfl) rfl
theorem w_1095 : (.fieldLink RX7 41 "Layertreaty$Treaty" "kind" "C" : Cond) ∈ zB := zb_m5 (List.mem_of_getElem? (i := 111) rfl) rfl
theorem w_1096 : (.fieldLink RX2 79 "Layertreaty$Treaty" "kind" "C" : Cond) ∈ zB := zb_m5 (List.mem_of_getElem? (i := 112) rfl) rfl
theorem w_1097 : (.fieldLink RX8 370 "Layertreaty$Treaty" "kind" "C" : Cond) ∈ zB := zb_m5 (List.mem_of_getElem? (i := 113) rfl) rfl
theorem w_1098 : (.fieldLink RX7 45 "Layertreaty$Treaty" "basis" "C" : Cond) ∈ zB := zb_m5 (List.mem_of_getElem? (i := 114) rfl) rfl
theorem w_1099 : (.fieldLink RX7 48 "Layertreaty$Treaty" "first" "I" : Cond) ∈ zB := zb_m5 (List.mem_of_getElem? (i := 115) rfl) rfl
theorem w_1100 : (.fieldLink RX7 51 "Layertreaty$Treaty" "last" "I" : Cond) ∈ zB := zb_m5 (List.mem_of_getElem? (i := 116) rfl) rfl
theorem w_1101 : (.fieldLink RX7 54 "Layertreaty$Treaty" "a" "I" : Cond) ∈ zB := zb_m5 (List.mem_of_getElem? (i := 117) rfl) rfl
theorem w_1102 : (.fieldLink RX7 57 "Layertreaty$Treaty" "b" "I" : Cond) ∈ zB := zb_m5 (List.mem_of_getElem? (i := 118) rfl) rfl
theorem w_1103 : (.fieldLink RX1 65 "Layertreaty$Treaty" "b" "I" : Cond) ∈ zB := zb_m5 (List.mem_of_getElem? (i := 119) rfl) rfl
theorem w_1104 : (.fieldLink RX7 9 "Layertreaty$Treaty" "shares" "[I" : Cond) ∈ zB := zb_m5 (List.mem_of_getElem? (i := 120) rfl) rfl
theorem w_1105 : (.fieldLink RX8 193 "Layertreaty$Treaty" "shares" "[I" : Cond) ∈ zB := zb_m5 (List.mem_of_getElem? (i := 121) rfl) rfl
theorem w_1106 : (.fieldLink RX2 178 "Layertreaty$Treaty" "shares" "[I" : Cond) ∈ zB := zb_m5 (List.mem_of_getElem? (i := 122) rfl) rfl
theorem w_1107 : (.fieldLink RX7 15 "Layertreaty$Treaty" "days" "I" : Cond) ∈ zB := zb_m5 (List.mem_of_getElem? (i := 123) rfl) rfl
theorem w_1108 : (.fieldLink RX3 41 "Layertreaty$Treaty" "days" "I" : Cond) ∈ zB := zb_m5 (List.mem_of_getElem? (i := 124) rfl) rfl
theorem w_1109 : (.fieldLink RX8 162 "Layertreaty$Treaty" "days" "I" : Cond) ∈ zB := zb_m5 (List.mem_of_getElem? (i := 125) rfl) rfl
theorem w_1110 : (.fieldLink RX7 19 "Layertreaty$Treaty" "many" "I" : Cond) ∈ zB := zb_m5 (List.mem_of_getElem? (i := 126) rfl) rfl
theorem w_1111 : (.fieldLink RX1 68 "Layertreaty$Treaty" "many" "I" : Cond) ∈ zB := zb_m5 (List.mem_of_getElem? (i := 127) rfl) rfl
theorem w_1112 : (.fieldLink RX8 173 "Layertreaty$Treaty" "many" "I" : Cond) ∈ zB := zb_m5 (List.mem_of_getElem? (i := 128) rfl) rfl
theorem w_1113 : (.fieldLink RX7 22 "Layertreaty$Treaty" "price" "I" : Cond) ∈ zB := zb_m5 (List.mem_of_getElem? (i := 129) rfl) rfl
theorem w_1114 : (.fieldLink RX8 176 "Layertreaty$Treaty" "price" "I" : Cond) ∈ zB := zb_m5 (List.mem_of_getElem? (i := 130) rfl) rfl
theorem w_1115 : (.fieldLink RX7 25 "Layertreaty$Treaty" "isByTime" "Z" : Cond) ∈ zB := zb_m5 (List.mem_of_getElem? (i := 131) rfl) rfl
theorem w_1116 : (.fieldLink RX8 179 "Layertreaty$Treaty" "isByTime" "Z" : Cond) ∈ zB := zb_m5 (List.mem_of_getElem? (i := 132) rfl) rfl
theorem w_1117 : (.fieldLink RX7 29 "Layertreaty$Treaty" "premium" "I" : Cond) ∈ zB := zb_m5 (List.mem_of_getElem? (i := 133) rfl) rfl
theorem w_1118 : (.fieldLink RX8 184 "Layertreaty$Treaty" "premium" "I" : Cond) ∈ zB := zb_m5 (List.mem_of_getElem? (i := 134) rfl) rfl
theorem w_1119 : (.fieldLink RX7 32 "Layertreaty$Treaty" "isCommuted" "Z" : Cond) ∈ zB := zb_m5 (List.mem_of_getElem? (i := 135) rfl) rfl
theorem w_1120 : (.fieldLink RX1 38 "Layertreaty$Treaty" "isCommuted" "Z" : Cond) ∈ zB := zb_m5 (List.mem_of_getElem? (i := 136) rfl) rfl
theorem w_1121 : (.fieldLink RX8 227 "Layertreaty$Treaty" "isCommuted" "Z" : Cond) ∈ zB := zb_m5 (List.mem_of_getElem? (i := 137) rfl) rfl
theorem w_1122 : (.fieldLink RX2 190 "Layertreaty$Treaty" "isCommuted" "Z" : Cond) ∈ zB := zb_m5 (List.mem_of_getElem? (i := 138) rfl) rfl
theorem w_1123 : (.fieldLink RX7 35 "Layertreaty$Treaty" "commutedFor" "I" : Cond) ∈ zB := zb_m5 (List.mem_of_getElem? (i := 139) rfl) rfl
theorem w_1124 : (.fieldLink RX8 235 "Layertreaty$Treaty" "commutedFor" "I" : Cond) ∈ zB := zb_m5 (List.mem_of_getElem? (i := 140) rfl) rfl
theorem w_1161 : (.fieldLink RX1 28 "Layertreaty$Cover" "treaty" "LLayertreaty$Treaty;" : Cond) ∈ zB := zb_m5 (List.mem_of_getElem? (i := 177) rfl) rfl
theorem w_1162 : (.fieldLink RX2 75 "Layertreaty$Cover" "treaty" "LLayertreaty$Treaty;" : Cond) ∈ zB := zb_m5 (List.mem_of_getElem? (i := 178) rfl) rfl
theorem w_1163 : (.fieldLink RX8 223 "Layertreaty$Cover" "treaty" "LLayertreaty$Treaty;" : Cond) ∈ zB := zb_m5 (List.mem_of_getElem? (i := 179) rfl) rfl
theorem w_1164 : (.fieldLink RX1 9 "Layertreaty$Cover" "events" "[I" : Cond) ∈ zB := zb_m5 (List.mem_of_getElem? (i := 180) rfl) rfl
theorem w_1165 : (.fieldLink RX2 160 "Layertreaty$Cover" "events" "[I" : Cond) ∈ zB := zb_m5 (List.mem_of_getElem? (i := 181) rfl) rfl
theorem w_1166 : (.fieldLink RX8 267 "Layertreaty$Cover" "events" "[I" : Cond) ∈ zB := zb_m5 (List.mem_of_getElem? (i := 182) rfl) rfl
theorem w_1167 : (.fieldLink RX1 15 "Layertreaty$Cover" "limitLeft" "J" : Cond) ∈ zB := zb_m5 (List.mem_of_getElem? (i := 183) rfl) rfl
theorem w_1168 : (.fieldLink RX2 111 "Layertreaty$Cover" "limitLeft" "J" : Cond) ∈ zB := zb_m5 (List.mem_of_getElem? (i := 184) rfl) rfl
theorem w_1169 : (.fieldLink RX8 253 "Layertreaty$Cover" "limitLeft" "J" : Cond) ∈ zB := zb_m5 (List.mem_of_getElem? (i := 185) rfl) rfl
theorem w_1170 : (.fieldLink RX1 19 "Layertreaty$Cover" "taken" "J" : Cond) ∈ zB := zb_m5 (List.mem_of_getElem? (i := 186) rfl) rfl
theorem w_1171 : (.fieldLink RX8 238 "Layertreaty$Cover" "taken" "J" : Cond) ∈ zB := zb_m5 (List.mem_of_getElem? (i := 187) rfl) rfl
theorem w_1172 : (.fieldLink RX2 193 "Layertreaty$Cover" "taken" "J" : Cond) ∈ zB := zb_m5 (List.mem_of_getElem? (i := 188) rfl) rfl
theorem w_1173 : (.fieldLink RX1 22 "Layertreaty$Cover" "reinstated" "J" : Cond) ∈ zB := zb_m5 (List.mem_of_getElem? (i := 189) rfl) rfl
theorem w_1174 : (.fieldLink RX8 256 "Layertreaty$Cover" "reinstated" "J" : Cond) ∈ zB := zb_m5 (List.mem_of_getElem? (i := 190) rfl) rfl
theorem w_1175 : (.fieldLink RX1 25 "Layertreaty$Cover" "owed" "J" : Cond) ∈ zB := zb_m5 (List.mem_of_getElem? (i := 191) rfl) rfl
theorem w_1176 : (.fieldLink RX8 259 "Layertreaty$Cover" "owed" "J" : Cond) ∈ zB := zb_m5 (List.mem_of_getElem? (i := 192) rfl) rfl
theorem w_1314 : (.fieldLink RX6 19 "Layertreaty$Scenario" "day" "I" : Cond) ∈ zB := zb_m6 (List.mem_of_getElem? (i := 90) rfl) rfl
theorem w_1315 : (.fieldLink RX8 397 "Layertreaty$Scenario" "day" "I" : Cond) ∈ zB := zb_m6 (List.mem_of_getElem? (i := 91) rfl) rfl
theorem w_1316 : (.fieldLink RX6 23 "Layertreaty$Scenario" "weight" "I" : Cond) ∈ zB := zb_m6 (List.mem_of_getElem? (i := 92) rfl) rfl
theorem w_1317 : (.fieldLink RX8 352 "Layertreaty$Scenario" "weight" "I" : Cond) ∈ zB := zb_m6 (List.mem_of_getElem? (i := 93) rfl) rfl
theorem w_1318 : (.fieldLink RX6 9 "Layertreaty$Scenario" "damages" "[I" : Cond) ∈ zB := zb_m6 (List.mem_of_getElem? (i := 94) rfl) rfl
theorem w_1319 : (.fieldLink RX8 317 "Layertreaty$Scenario" "damages" "[I" : Cond) ∈ zB := zb_m6 (List.mem_of_getElem? (i := 95) rfl) rfl
theorem w_1320 : (.fieldLink RX6 15 "Layertreaty$Scenario" "net" "J" : Cond) ∈ zB := zb_m6 (List.mem_of_getElem? (i := 96) rfl) rfl
theorem w_1321 : (.fieldLink RX8 323 "Layertreaty$Scenario" "net" "J" : Cond) ∈ zB := zb_m6 (List.mem_of_getElem? (i := 97) rfl) rfl
theorem w_235 : (.static yX8_isOut : Cond) ∈ zB := zb_m1 (List.mem_of_getElem? (i := 211) rfl) rfl
theorem w_314 : (.static yJ15_checkIndex_7cf53 : Cond) ∈ zB := zb_m2 (List.mem_of_getElem? (i := 50) rfl) rfl
theorem w_317 : (.static yJ3_checkIndex_8e157 : Cond) ∈ zB := zb_m2 (List.mem_of_getElem? (i := 53) rfl) rfl
theorem w_325 : (.static yX8_checkHasEvents : Cond) ∈ zB := zb_m2 (List.mem_of_getElem? (i := 61) rfl) rfl
theorem w_359 : (.static yJ7_fill_d0a16 : Cond) ∈ zB := zb_m2 (List.mem_of_getElem? (i := 95) rfl) rfl
theorem w_362 : (.static yJ7_fill_53178 : Cond) ∈ zB := zb_m2 (List.mem_of_getElem? (i := 98) rfl) rfl
theorem w_397 : (.static ⟨RJ9, "min", "(II)I"⟩ : Cond) ∈ zB := zb_m2 (List.mem_of_getElem? (i := 133) rfl) rfl
theorem w_404 : (.static ⟨RJ9, "min", "(JJ)J"⟩ : Cond) ∈ zB := zb_m2 (List.mem_of_getElem? (i := 140) rfl) rfl
theorem w_407 : (.static ⟨RJ9, "max", "(JJ)J"⟩ : Cond) ∈ zB := zb_m2 (List.mem_of_getElem? (i := 143) rfl) rfl
theorem w_425 : (.static ⟨RJ9, "max", "(II)I"⟩ : Cond) ∈ zB := zb_m2 (List.mem_of_getElem? (i := 161) rfl) rfl
theorem w_452 : (.static yJ8_newLength_cabcc : Cond) ∈ zB := zb_m2 (List.mem_of_getElem? (i := 188) rfl) rfl
theorem w_460 : (.static yJ7_copyOf_1904c : Cond) ∈ zB := zb_m2 (List.mem_of_getElem? (i := 196) rfl) rfl
theorem w_486 : (.static yJ7_copyOf_6403c : Cond) ∈ zB := zb_m2 (List.mem_of_getElem? (i := 222) rfl) rfl
theorem w_493 : (.static ⟨RJ10, "arraycopy", "(Ljava/lang/Object;ILjava/lang/Object;II)V"⟩ : Cond) ∈ zB := zb_m2 (List.mem_of_getElem? (i := 229) rfl) rfl
theorem w_516 : (.static yJ6_bitCount_0f7a4 : Cond) ∈ zB := zb_m3 (List.mem_of_getElem? (i := 12) rfl) rfl
theorem w_657 : (.static yL_some : Cond) ∈ zB := zb_m3 (List.mem_of_getElem? (i := 153) rfl) rfl
theorem w_660 : (.static yL_cell : Cond) ∈ zB := zb_m3 (List.mem_of_getElem? (i := 156) rfl) rfl
theorem w_663 : (.static yL_policy : Cond) ∈ zB := zb_m3 (List.mem_of_getElem? (i := 159) rfl) rfl
theorem w_673 : (.static yX8_isSpan : Cond) ∈ zB := zb_m3 (List.mem_of_getElem? (i := 169) rfl) rfl
theorem w_779 : (.static yL_loss : Cond) ∈ zB := zb_m4 (List.mem_of_getElem? (i := 35) rfl) rfl
theorem w_1060 : (.static yL_setAmount : Cond) ∈ zB := zb_m5 (List.mem_of_getElem? (i := 76) rfl) rfl
theorem w_1073 : (.static yL_treaty : Cond) ∈ zB := zb_m5 (List.mem_of_getElem? (i := 89) rfl) rfl
theorem w_1080 : (.static yX8_isBasis : Cond) ∈ zB := zb_m5 (List.mem_of_getElem? (i := 96) rfl) rfl
theorem w_1083 : (.static yX8_fitsKind : Cond) ∈ zB := zb_m5 (List.mem_of_getElem? (i := 99) rfl) rfl
theorem w_1191 : (.static yL_setDays : Cond) ∈ zB := zb_m5 (List.mem_of_getElem? (i := 207) rfl) rfl
theorem w_1199 : (.static yL_reinstate : Cond) ∈ zB := zb_m5 (List.mem_of_getElem? (i := 215) rfl) rfl
theorem w_1209 : (.static yL_setPremium : Cond) ∈ zB := zb_m5 (List.mem_of_getElem? (i := 225) rfl) rfl
theorem w_1217 : (.static yL_share : Cond) ∈ zB := zb_m5 (List.mem_of_getElem? (i := 233) rfl) rfl
theorem w_1224 : (.static yX8_checkReinsurer : Cond) ∈ zB := zb_m6 (List.mem_of_getElem? (i := 0) rfl) rfl
theorem w_1234 : (.static yL_commute : Cond) ∈ zB := zb_m6 (List.mem_of_getElem? (i := 10) rfl) rfl
theorem w_1250 : (.static yL_left : Cond) ∈ zB := zb_m6 (List.mem_of_getElem? (i := 26) rfl) rfl
theorem w_1257 : (.static yL_taken : Cond) ∈ zB := zb_m6 (List.mem_of_getElem? (i := 33) rfl) rfl
theorem w_1264 : (.static yL_owed : Cond) ∈ zB := zb_m6 (List.mem_of_getElem? (i := 40) rfl) rfl
theorem w_1271 : (.static yL_events : Cond) ∈ zB := zb_m6 (List.mem_of_getElem? (i := 47) rfl) rfl
theorem w_1279 : (.static yL_lost : Cond) ∈ zB := zb_m6 (List.mem_of_getElem? (i := 55) rfl) rfl
theorem w_1286 : (.static yL_comes : Cond) ∈ zB := zb_m6 (List.mem_of_getElem? (i := 62) rfl) rfl
theorem w_1293 : (.static yL_stays : Cond) ∈ zB := zb_m6 (List.mem_of_getElem? (i := 69) rfl) rfl
theorem w_1301 : (.static yL_scenario : Cond) ∈ zB := zb_m6 (List.mem_of_getElem? (i := 77) rfl) rfl
theorem w_1332 : (.static yL_damage : Cond) ∈ zB := zb_m6 (List.mem_of_getElem? (i := 108) rfl) rfl
theorem w_1345 : (.static yL_scenarioNet : Cond) ∈ zB := zb_m6 (List.mem_of_getElem? (i := 121) rfl) rfl
theorem w_1352 : (.static yL_tail : Cond) ∈ zB := zb_m6 (List.mem_of_getElem? (i := 128) rfl) rfl
theorem w_1383 : (.static yL_handOn : Cond) ∈ zB := zb_m6 (List.mem_of_getElem? (i := 159) rfl) rfl
theorem w_1391 : (.static yL_fail : Cond) ∈ zB := zb_m6 (List.mem_of_getElem? (i := 167) rfl) rfl
theorem w_1398 : (.static yL_kept : Cond) ∈ zB := zb_m6 (List.mem_of_getElem? (i := 174) rfl) rfl
theorem w_1401 : (.static yL_takenFrom : Cond) ∈ zB := zb_m6 (List.mem_of_getElem? (i := 177) rfl) rfl
theorem w_1408 : (.static yL_limit : Cond) ∈ zB := zb_m6 (List.mem_of_getElem? (i := 184) rfl) rfl
theorem w_1418 : (.static yL_reinstated : Cond) ∈ zB := zb_m6 (List.mem_of_getElem? (i := 194) rfl) rfl
theorem w_1425 : (.static yL_paid : Cond) ∈ zB := zb_m6 (List.mem_of_getElem? (i := 201) rfl) rfl
theorem w_1445 : (.static yJ1_charAt_3b067 : Cond) ∈ zB := zb_m6 (List.mem_of_getElem? (i := 221) rfl) rfl
theorem w_1448 : (.static yJ0_checkIndex_df160 : Cond) ∈ zB := zb_m6 (List.mem_of_getElem? (i := 224) rfl) rfl
theorem w_63 : (.instanceMethod yX8_init : Cond) ∈ zB := zb_m1 (List.mem_of_getElem? (i := 39) rfl) rfl
theorem w_66 : (.instanceMethod ⟨"java/lang/Object", "<init>", "()V"⟩ : Cond) ∈ zB := zb_m1 (List.mem_of_getElem? (i := 42) rfl) rfl
theorem w_71 : (.instanceMethod yJx4a65c_init_da8c8 : Cond) ∈ zB := zb_m1 (List.mem_of_getElem? (i := 47) rfl) rfl
theorem w_74 : (.instanceMethod yJxc12de_init_da8c8 : Cond) ∈ zB := zb_m1 (List.mem_of_getElem? (i := 50) rfl) rfl
theorem w_77 : (.instanceMethod yJxa1e45_init_da8c8 : Cond) ∈ zB := zb_m1 (List.mem_of_getElem? (i := 53) rfl) rfl
theorem w_97 : (.instanceMethod yX2_init : Cond) ∈ zB := zb_m1 (List.mem_of_getElem? (i := 73) rfl) rfl
theorem w_105 : (.instanceMethod yX3_init : Cond) ∈ zB := zb_m1 (List.mem_of_getElem? (i := 81) rfl) rfl
theorem w_156 : (.instanceMethod yX5_init : Cond) ∈ zB := zb_m1 (List.mem_of_getElem? (i := 132) rfl) rfl
theorem w_223 : (.instanceMethod yX8_isSame : Cond) ∈ zB := zb_m1 (List.mem_of_getElem? (i := 199) rfl) rfl
theorem w_228 : (.instanceMethod yX8_treatyAt : Cond) ∈ zB := zb_m1 (List.mem_of_getElem? (i := 204) rfl) rfl
theorem w_231 : (.instanceMethod yJx4a65c_size_8abf5 : Cond) ∈ zB := zb_m1 (List.mem_of_getElem? (i := 207) rfl) rfl
theorem w_310 : (.instanceMethod yJx4a65c_get_915e3 : Cond) ∈ zB := zb_m2 (List.mem_of_getElem? (i := 46) rfl) rfl
theorem w_320 : (.instanceMethod yJx4a65c_elementData_915e3 : Cond) ∈ zB := zb_m2 (List.mem_of_getElem? (i := 56) rfl) rfl
theorem w_344 : (.instanceMethod yX2_isLaidBest : Cond) ∈ zB := zb_m2 (List.mem_of_getElem? (i := 80) rfl) rfl
theorem w_348 : (.instanceMethod yX2_run : Cond) ∈ zB := zb_m2 (List.mem_of_getElem? (i := 84) rfl) rfl
theorem w_355 : (.instanceMethod yX0_begin : Cond) ∈ zB := zb_m2 (List.mem_of_getElem? (i := 91) rfl) rfl
theorem w_366 : (.instanceMethod yX1_begin : Cond) ∈ zB := zb_m2 (List.mem_of_getElem? (i := 102) rfl) rfl
theorem w_371 : (.instanceMethod yX7_wholeLimit : Cond) ∈ zB := zb_m2 (List.mem_of_getElem? (i := 107) rfl) rfl
theorem w_375 : (.instanceMethod yX7_isLimited : Cond) ∈ zB := zb_m2 (List.mem_of_getElem? (i := 111) rfl) rfl
theorem w_381 : (.instanceMethod yX2_serveLoss : Cond) ∈ zB := zb_m2 (List.mem_of_getElem? (i := 117) rfl) rfl
theorem w_384 : (.instanceMethod yX7_isForEachLoss : Cond) ∈ zB := zb_m2 (List.mem_of_getElem? (i := 120) rfl) rfl
theorem w_388 : (.instanceMethod yX7_coversLoss : Cond) ∈ zB := zb_m2 (List.mem_of_getElem? (i := 124) rfl) rfl
theorem w_392 : (.instanceMethod yX7_wantedOf : Cond) ∈ zB := zb_m2 (List.mem_of_getElem? (i := 128) rfl) rfl
theorem w_400 : (.instanceMethod yX7_layerOf : Cond) ∈ zB := zb_m2 (List.mem_of_getElem? (i := 136) rfl) rfl
theorem w_411 : (.instanceMethod yX1_takeFrom : Cond) ∈ zB := zb_m2 (List.mem_of_getElem? (i := 147) rfl) rfl
theorem w_415 : (.instanceMethod yX1_refill : Cond) ∈ zB := zb_m2 (List.mem_of_getElem? (i := 151) rfl) rfl
theorem w_421 : (.instanceMethod yX7_priceOf : Cond) ∈ zB := zb_m2 (List.mem_of_getElem? (i := 157) rfl) rfl
theorem w_429 : (.instanceMethod yX2_findOpen : Cond) ∈ zB := zb_m2 (List.mem_of_getElem? (i := 165) rfl) rfl
theorem w_432 : (.instanceMethod yJx4a65c_clear_da8c8 : Cond) ∈ zB := zb_m2 (List.mem_of_getElem? (i := 168) rfl) rfl
theorem w_436 : (.instanceMethod yJx4a65c_add_9ea2d : Cond) ∈ zB := zb_m2 (List.mem_of_getElem? (i := 172) rfl) rfl
theorem w_441 : (.instanceMethod yJx4a65c_add_72be8 : Cond) ∈ zB := zb_m2 (List.mem_of_getElem? (i := 177) rfl) rfl
theorem w_445 : (.instanceMethod yJx4a65c_grow_d5877 : Cond) ∈ zB := zb_m2 (List.mem_of_getElem? (i := 181) rfl) rfl
theorem w_449 : (.instanceMethod yJx4a65c_grow_92f84 : Cond) ∈ zB := zb_m2 (List.mem_of_getElem? (i := 185) rfl) rfl
theorem w_463 : (.instanceMethod ⟨"java/lang/Object", "getClass", "()Ljava/lang/Class;"⟩ : Cond) ∈ zB := zb_m2 (List.mem_of_getElem? (i := 199) rfl) rfl
theorem w_499 : (.instanceMethod yX2_serveZone : Cond) ∈ zB := zb_m2 (List.mem_of_getElem? (i := 235) rfl) rfl
theorem w_502 : (.instanceMethod yX3_add : Cond) ∈ zB := zb_m2 (List.mem_of_getElem? (i := 238) rfl) rfl
theorem w_506 : (.instanceMethod yX3_lay : Cond) ∈ zB := zb_m3 (List.mem_of_getElem? (i := 2) rfl) rfl
theorem w_511 : (.instanceMethod yX3_isBestOfAll : Cond) ∈ zB := zb_m3 (List.mem_of_getElem? (i := 7) rfl) rfl
theorem w_523 : (.instanceMethod yX3_worthOf : Cond) ∈ zB := zb_m3 (List.mem_of_getElem? (i := 19) rfl) rfl
theorem w_527 : (.instanceMethod yX3_isCut : Cond) ∈ zB := zb_m3 (List.mem_of_getElem? (i := 23) rfl) rfl
theorem w_531 : (.instanceMethod yX3_laidCuts : Cond) ∈ zB := zb_m3 (List.mem_of_getElem? (i := 27) rfl) rfl
theorem w_535 : (.instanceMethod yX2_gather : Cond) ∈ zB := zb_m3 (List.mem_of_getElem? (i := 31) rfl) rfl
theorem w_539 : (.instanceMethod yX2_serveGroup : Cond) ∈ zB := zb_m3 (List.mem_of_getElem? (i := 35) rfl) rfl
theorem w_543 : (.instanceMethod yX8_net : Cond) ∈ zB := zb_m3 (List.mem_of_getElem? (i := 39) rfl) rfl
theorem w_548 : (.instanceMethod yX8_settle : Cond) ∈ zB := zb_m3 (List.mem_of_getElem? (i := 44) rfl) rfl
theorem w_552 : (.instanceMethod yX2_allLeft : Cond) ∈ zB := zb_m3 (List.mem_of_getElem? (i := 48) rfl) rfl
theorem w_557 : (.instanceMethod yX2_allPartsOf : Cond) ∈ zB := zb_m3 (List.mem_of_getElem? (i := 53) rfl) rfl
theorem w_561 : (.instanceMethod yX2_partOf : Cond) ∈ zB := zb_m3 (List.mem_of_getElem? (i := 57) rfl) rfl
theorem w_566 : (.instanceMethod yX8_losses : Cond) ∈ zB := zb_m3 (List.mem_of_getElem? (i := 62) rfl) rfl
theorem w_570 : (.instanceMethod yX8_meanNet : Cond) ∈ zB := zb_m3 (List.mem_of_getElem? (i := 66) rfl) rfl
theorem w_574 : (.instanceMethod yJx4a65c_isEmpty_aae02 : Cond) ∈ zB := zb_m3 (List.mem_of_getElem? (i := 70) rfl) rfl
theorem w_595 : (.instanceMethod yX8_playAll : Cond) ∈ zB := zb_m3 (List.mem_of_getElem? (i := 91) rfl) rfl
theorem w_600 : (.instanceMethod yX8_play : Cond) ∈ zB := zb_m3 (List.mem_of_getElem? (i := 96) rfl) rfl
theorem w_605 : (.instanceMethod yX6_damageOf : Cond) ∈ zB := zb_m3 (List.mem_of_getElem? (i := 101) rfl) rfl
theorem w_609 : (.instanceMethod yX4_isInForce : Cond) ∈ zB := zb_m3 (List.mem_of_getElem? (i := 105) rfl) rfl
theorem w_614 : (.instanceMethod yX0_happen : Cond) ∈ zB := zb_m3 (List.mem_of_getElem? (i := 110) rfl) rfl
theorem w_619 : (.instanceMethod yX8_isSound : Cond) ∈ zB := zb_m3 (List.mem_of_getElem? (i := 115) rfl) rfl
theorem w_624 : (.instanceMethod yX8_settlePool : Cond) ∈ zB := zb_m3 (List.mem_of_getElem? (i := 120) rfl) rfl
theorem w_627 : (.instanceMethod yX5_settleRings : Cond) ∈ zB := zb_m3 (List.mem_of_getElem? (i := 123) rfl) rfl
theorem w_633 : (.instanceMethod yX5_goRounds : Cond) ∈ zB := zb_m3 (List.mem_of_getElem? (i := 129) rfl) rfl
theorem w_637 : (.instanceMethod yX5_handedOn : Cond) ∈ zB := zb_m3 (List.mem_of_getElem? (i := 133) rfl) rfl
theorem w_644 : (.instanceMethod yX2_areLossesWhole : Cond) ∈ zB := zb_m3 (List.mem_of_getElem? (i := 140) rfl) rfl
theorem w_648 : (.instanceMethod yX2_areLimitsKept : Cond) ∈ zB := zb_m3 (List.mem_of_getElem? (i := 144) rfl) rfl
theorem w_653 : (.instanceMethod yX5_fits : Cond) ∈ zB := zb_m3 (List.mem_of_getElem? (i := 149) rfl) rfl
theorem w_668 : (.instanceMethod yX8_policy : Cond) ∈ zB := zb_m3 (List.mem_of_getElem? (i := 164) rfl) rfl
theorem w_710 : (.instanceMethod yX4_init : Cond) ∈ zB := zb_m3 (List.mem_of_getElem? (i := 206) rfl) rfl
theorem w_733 : (.instanceMethod yX0_init : Cond) ∈ zB := zb_m3 (List.mem_of_getElem? (i := 229) rfl) rfl
theorem w_804 : (.instanceMethod yX8_loss : Cond) ∈ zB := zb_m4 (List.mem_of_getElem? (i := 60) rfl) rfl
theorem w_813 : (.instanceMethod yX2_addByDay : Cond) ∈ zB := zb_m4 (List.mem_of_getElem? (i := 69) rfl) rfl
theorem w_817 : (.instanceMethod yJx4a65c_add_7a177 : Cond) ∈ zB := zb_m4 (List.mem_of_getElem? (i := 73) rfl) rfl
theorem w_822 : (.instanceMethod yJx4a65c_rangeCheckForAdd_d00df : Cond) ∈ zB := zb_m4 (List.mem_of_getElem? (i := 78) rfl) rfl
theorem w_888 : (.instanceMethod ⟨"java/lang/Object", "clone", "()Ljava/lang/Object;"⟩ : Cond) ∈ zB := zb_m4 (List.mem_of_getElem? (i := 144) rfl) rfl
theorem w_1063 : (.instanceMethod yX8_setAmount : Cond) ∈ zB := zb_m5 (List.mem_of_getElem? (i := 79) rfl) rfl
theorem w_1068 : (.instanceMethod yX8_claimAt : Cond) ∈ zB := zb_m5 (List.mem_of_getElem? (i := 84) rfl) rfl
theorem w_1076 : (.instanceMethod yX8_treaty : Cond) ∈ zB := zb_m5 (List.mem_of_getElem? (i := 92) rfl) rfl
theorem w_1088 : (.instanceMethod yX7_init : Cond) ∈ zB := zb_m5 (List.mem_of_getElem? (i := 104) rfl) rfl
theorem w_1158 : (.instanceMethod yX1_init : Cond) ∈ zB := zb_m5 (List.mem_of_getElem? (i := 174) rfl) rfl
theorem w_1194 : (.instanceMethod yX8_setDays : Cond) ∈ zB := zb_m5 (List.mem_of_getElem? (i := 210) rfl) rfl
theorem w_1202 : (.instanceMethod yX8_reinstate : Cond) ∈ zB := zb_m5 (List.mem_of_getElem? (i := 218) rfl) rfl
theorem w_1212 : (.instanceMethod yX8_setPremium : Cond) ∈ zB := zb_m5 (List.mem_of_getElem? (i := 228) rfl) rfl
theorem w_1220 : (.instanceMethod yX8_share : Cond) ∈ zB := zb_m5 (List.mem_of_getElem? (i := 236) rfl) rfl
theorem w_1229 : (.instanceMethod yX7_allShares : Cond) ∈ zB := zb_m6 (List.mem_of_getElem? (i := 5) rfl) rfl
theorem w_1237 : (.instanceMethod yX8_commute : Cond) ∈ zB := zb_m6 (List.mem_of_getElem? (i := 13) rfl) rfl
theorem w_1242 : (.instanceMethod yX8_coverAt : Cond) ∈ zB := zb_m6 (List.mem_of_getElem? (i := 18) rfl) rfl
theorem w_1253 : (.instanceMethod yX8_left : Cond) ∈ zB := zb_m6 (List.mem_of_getElem? (i := 29) rfl) rfl
theorem w_1260 : (.instanceMethod yX8_taken : Cond) ∈ zB := zb_m6 (List.mem_of_getElem? (i := 36) rfl) rfl
theorem w_1267 : (.instanceMethod yX8_owed : Cond) ∈ zB := zb_m6 (List.mem_of_getElem? (i := 43) rfl) rfl
theorem w_1274 : (.instanceMethod yX8_events : Cond) ∈ zB := zb_m6 (List.mem_of_getElem? (i := 50) rfl) rfl
theorem w_1282 : (.instanceMethod yX8_lost : Cond) ∈ zB := zb_m6 (List.mem_of_getElem? (i := 58) rfl) rfl
theorem w_1289 : (.instanceMethod yX8_comes : Cond) ∈ zB := zb_m6 (List.mem_of_getElem? (i := 65) rfl) rfl
theorem w_1296 : (.instanceMethod yX8_stays : Cond) ∈ zB := zb_m6 (List.mem_of_getElem? (i := 72) rfl) rfl
theorem w_1304 : (.instanceMethod yX8_scenario : Cond) ∈ zB := zb_m6 (List.mem_of_getElem? (i := 80) rfl) rfl
theorem w_1311 : (.instanceMethod yX6_init : Cond) ∈ zB := zb_m6 (List.mem_of_getElem? (i := 87) rfl) rfl
theorem w_1335 : (.instanceMethod yX8_damage : Cond) ∈ zB := zb_m6 (List.mem_of_getElem? (i := 111) rfl) rfl
theorem w_1340 : (.instanceMethod yX8_scenarioAt : Cond) ∈ zB := zb_m6 (List.mem_of_getElem? (i := 116) rfl) rfl
theorem w_1348 : (.instanceMethod yX8_scenarioNet : Cond) ∈ zB := zb_m6 (List.mem_of_getElem? (i := 124) rfl) rfl
theorem w_1356 : (.instanceMethod yX8_tail : Cond) ∈ zB := zb_m6 (List.mem_of_getElem? (i := 132) rfl) rfl
theorem w_1378 : (.instanceMethod yX8_weightAbove : Cond) ∈ zB := zb_m6 (List.mem_of_getElem? (i := 154) rfl) rfl
theorem w_1386 : (.instanceMethod yX8_handOn : Cond) ∈ zB := zb_m6 (List.mem_of_getElem? (i := 162) rfl) rfl
theorem w_1394 : (.instanceMethod yX8_fail : Cond) ∈ zB := zb_m6 (List.mem_of_getElem? (i := 170) rfl) rfl
theorem w_1404 : (.instanceMethod yX8_takenFrom : Cond) ∈ zB := zb_m6 (List.mem_of_getElem? (i := 180) rfl) rfl
theorem w_1411 : (.instanceMethod yX8_limit : Cond) ∈ zB := zb_m6 (List.mem_of_getElem? (i := 187) rfl) rfl
theorem w_1421 : (.instanceMethod yX8_reinstated : Cond) ∈ zB := zb_m6 (List.mem_of_getElem? (i := 197) rfl) rfl
theorem w_1428 : (.instanceMethod yX8_paid : Cond) ∈ zB := zb_m6 (List.mem_of_getElem? (i := 204) rfl) rfl
theorem w_1433 : (.instanceMethod yX8_allLosses : Cond) ∈ zB := zb_m6 (List.mem_of_getElem? (i := 209) rfl) rfl
theorem w_1437 : (.instanceMethod yJ0_charAt_5068e : Cond) ∈ zB := zb_m6 (List.mem_of_getElem? (i := 213) rfl) rfl
theorem w_1441 : (.instanceMethod yJ0_isLatin1_aae02 : Cond) ∈ zB := zb_m6 (List.mem_of_getElem? (i := 217) rfl) rfl
theorem w_224 : (.selects RX8 yX8_isSame yX8_isSame : Cond) ∈ zB := zb_m1 (List.mem_of_getElem? (i := 200) rfl) rfl
theorem w_232 : (.selects RJx4a65c yJx4a65c_size_8abf5 yJx4a65c_size_8abf5 : Cond) ∈ zB := zb_m1 (List.mem_of_getElem? (i := 208) rfl) rfl
theorem w_311 : (.selects RJx4a65c yJx4a65c_get_915e3 yJx4a65c_get_915e3 : Cond) ∈ zB := zb_m2 (List.mem_of_getElem? (i := 47) rfl) rfl
theorem w_321 : (.selects RJx4a65c yJx4a65c_elementData_915e3 yJx4a65c_elementData_915e3 : Cond) ∈ zB := zb_m2 (List.mem_of_getElem? (i := 57) rfl) rfl
theorem w_345 : (.selects RX2 yX2_isLaidBest yX2_isLaidBest : Cond) ∈ zB := zb_m2 (List.mem_of_getElem? (i := 81) rfl) rfl
theorem w_349 : (.selects RX2 yX2_run yX2_run : Cond) ∈ zB := zb_m2 (List.mem_of_getElem? (i := 85) rfl) rfl
theorem w_356 : (.selects RX0 yX0_begin yX0_begin : Cond) ∈ zB := zb_m2 (List.mem_of_getElem? (i := 92) rfl) rfl
theorem w_367 : (.selects RX1 yX1_begin yX1_begin : Cond) ∈ zB := zb_m2 (List.mem_of_getElem? (i := 103) rfl) rfl
theorem w_372 : (.selects RX7 yX7_wholeLimit yX7_wholeLimit : Cond) ∈ zB := zb_m2 (List.mem_of_getElem? (i := 108) rfl) rfl
theorem w_376 : (.selects RX7 yX7_isLimited yX7_isLimited : Cond) ∈ zB := zb_m2 (List.mem_of_getElem? (i := 112) rfl) rfl
theorem w_385 : (.selects RX7 yX7_isForEachLoss yX7_isForEachLoss : Cond) ∈ zB := zb_m2 (List.mem_of_getElem? (i := 121) rfl) rfl
theorem w_389 : (.selects RX7 yX7_coversLoss yX7_coversLoss : Cond) ∈ zB := zb_m2 (List.mem_of_getElem? (i := 125) rfl) rfl
theorem w_393 : (.selects RX7 yX7_wantedOf yX7_wantedOf : Cond) ∈ zB := zb_m2 (List.mem_of_getElem? (i := 129) rfl) rfl
theorem w_401 : (.selects RX7 yX7_layerOf yX7_layerOf : Cond) ∈ zB := zb_m2 (List.mem_of_getElem? (i := 137) rfl) rfl
theorem w_412 : (.selects RX1 yX1_takeFrom yX1_takeFrom : Cond) ∈ zB := zb_m2 (List.mem_of_getElem? (i := 148) rfl) rfl
theorem w_416 : (.selects RX1 yX1_refill yX1_refill : Cond) ∈ zB := zb_m2 (List.mem_of_getElem? (i := 152) rfl) rfl
theorem w_422 : (.selects RX7 yX7_priceOf yX7_priceOf : Cond) ∈ zB := zb_m2 (List.mem_of_getElem? (i := 158) rfl) rfl
theorem w_433 : (.selects RJx4a65c yJx4a65c_clear_da8c8 yJx4a65c_clear_da8c8 : Cond) ∈ zB := zb_m2 (List.mem_of_getElem? (i := 169) rfl) rfl
theorem w_437 : (.selects RJx4a65c yJx4a65c_add_9ea2d yJx4a65c_add_9ea2d : Cond) ∈ zB := zb_m2 (List.mem_of_getElem? (i := 173) rfl) rfl
theorem w_503 : (.selects RX3 yX3_add yX3_add : Cond) ∈ zB := zb_m2 (List.mem_of_getElem? (i := 239) rfl) rfl
theorem w_507 : (.selects RX3 yX3_lay yX3_lay : Cond) ∈ zB := zb_m3 (List.mem_of_getElem? (i := 3) rfl) rfl
theorem w_512 : (.selects RX3 yX3_isBestOfAll yX3_isBestOfAll : Cond) ∈ zB := zb_m3 (List.mem_of_getElem? (i := 8) rfl) rfl
theorem w_544 : (.selects RX8 yX8_net yX8_net : Cond) ∈ zB := zb_m3 (List.mem_of_getElem? (i := 40) rfl) rfl
theorem w_553 : (.selects RX2 yX2_allLeft yX2_allLeft : Cond) ∈ zB := zb_m3 (List.mem_of_getElem? (i := 49) rfl) rfl
theorem w_558 : (.selects RX2 yX2_allPartsOf yX2_allPartsOf : Cond) ∈ zB := zb_m3 (List.mem_of_getElem? (i := 54) rfl) rfl
theorem w_562 : (.selects RX2 yX2_partOf yX2_partOf : Cond) ∈ zB := zb_m3 (List.mem_of_getElem? (i := 58) rfl) rfl
theorem w_567 : (.selects RX8 yX8_losses yX8_losses : Cond) ∈ zB := zb_m3 (List.mem_of_getElem? (i := 63) rfl) rfl
theorem w_571 : (.selects RX8 yX8_meanNet yX8_meanNet : Cond) ∈ zB := zb_m3 (List.mem_of_getElem? (i := 67) rfl) rfl
theorem w_575 : (.selects RJx4a65c yJx4a65c_isEmpty_aae02 yJx4a65c_isEmpty_aae02 : Cond) ∈ zB := zb_m3 (List.mem_of_getElem? (i := 71) rfl) rfl
theorem w_606 : (.selects RX6 yX6_damageOf yX6_damageOf : Cond) ∈ zB := zb_m3 (List.mem_of_getElem? (i := 102) rfl) rfl
theorem w_610 : (.selects RX4 yX4_isInForce yX4_isInForce : Cond) ∈ zB := zb_m3 (List.mem_of_getElem? (i := 106) rfl) rfl
theorem w_615 : (.selects RX0 yX0_happen yX0_happen : Cond) ∈ zB := zb_m3 (List.mem_of_getElem? (i := 111) rfl) rfl
theorem w_620 : (.selects RX8 yX8_isSound yX8_isSound : Cond) ∈ zB := zb_m3 (List.mem_of_getElem? (i := 116) rfl) rfl
theorem w_628 : (.selects RX5 yX5_settleRings yX5_settleRings : Cond) ∈ zB := zb_m3 (List.mem_of_getElem? (i := 124) rfl) rfl
theorem w_638 : (.selects RX5 yX5_handedOn yX5_handedOn : Cond) ∈ zB := zb_m3 (List.mem_of_getElem? (i := 134) rfl) rfl
theorem w_645 : (.selects RX2 yX2_areLossesWhole yX2_areLossesWhole : Cond) ∈ zB := zb_m3 (List.mem_of_getElem? (i := 141) rfl) rfl
theorem w_649 : (.selects RX2 yX2_areLimitsKept yX2_areLimitsKept : Cond) ∈ zB := zb_m3 (List.mem_of_getElem? (i := 145) rfl) rfl
theorem w_654 : (.selects RX5 yX5_fits yX5_fits : Cond) ∈ zB := zb_m3 (List.mem_of_getElem? (i := 150) rfl) rfl
theorem w_669 : (.selects RX8 yX8_policy yX8_policy : Cond) ∈ zB := zb_m3 (List.mem_of_getElem? (i := 165) rfl) rfl
theorem w_805 : (.selects RX8 yX8_loss yX8_loss : Cond) ∈ zB := zb_m4 (List.mem_of_getElem? (i := 61) rfl) rfl
theorem w_814 : (.selects RX2 yX2_addByDay yX2_addByDay : Cond) ∈ zB := zb_m4 (List.mem_of_getElem? (i := 70) rfl) rfl
theorem w_818 : (.selects RJx4a65c yJx4a65c_add_7a177 yJx4a65c_add_7a177 : Cond) ∈ zB := zb_m4 (List.mem_of_getElem? (i := 74) rfl) rfl
theorem w_1064 : (.selects RX8 yX8_setAmount yX8_setAmount : Cond) ∈ zB := zb_m5 (List.mem_of_getElem? (i := 80) rfl) rfl
theorem w_1077 : (.selects RX8 yX8_treaty yX8_treaty : Cond) ∈ zB := zb_m5 (List.mem_of_getElem? (i := 93) rfl) rfl
theorem w_1195 : (.selects RX8 yX8_setDays yX8_setDays : Cond) ∈ zB := zb_m5 (List.mem_of_getElem? (i := 211) rfl) rfl
theorem w_1203 : (.selects RX8 yX8_reinstate yX8_reinstate : Cond) ∈ zB := zb_m5 (List.mem_of_getElem? (i := 219) rfl) rfl
theorem w_1213 : (.selects RX8 yX8_setPremium yX8_setPremium : Cond) ∈ zB := zb_m5 (List.mem_of_getElem? (i := 229) rfl) rfl
theorem w_1221 : (.selects RX8 yX8_share yX8_share : Cond) ∈ zB := zb_m5 (List.mem_of_getElem? (i := 237) rfl) rfl
theorem w_1230 : (.selects RX7 yX7_allShares yX7_allShares : Cond) ∈ zB := zb_m6 (List.mem_of_getElem? (i := 6) rfl) rfl
theorem w_1238 : (.selects RX8 yX8_commute yX8_commute : Cond) ∈ zB := zb_m6 (List.mem_of_getElem? (i := 14) rfl) rfl
theorem w_1254 : (.selects RX8 yX8_left yX8_left : Cond) ∈ zB := zb_m6 (List.mem_of_getElem? (i := 30) rfl) rfl
theorem w_1261 : (.selects RX8 yX8_taken yX8_taken : Cond) ∈ zB := zb_m6 (List.mem_of_getElem? (i := 37) rfl) rfl
theorem w_1268 : (.selects RX8 yX8_owed yX8_owed : Cond) ∈ zB := zb_m6 (List.mem_of_getElem? (i := 44) rfl) rfl
theorem w_1275 : (.selects RX8 yX8_events yX8_events : Cond) ∈ zB := zb_m6 (List.mem_of_getElem? (i := 51) rfl) rfl
theorem w_1283 : (.selects RX8 yX8_lost yX8_lost : Cond) ∈ zB := zb_m6 (List.mem_of_getElem? (i := 59) rfl) rfl
theorem w_1290 : (.selects RX8 yX8_comes yX8_comes : Cond) ∈ zB := zb_m6 (List.mem_of_getElem? (i := 66) rfl) rfl
theorem w_1297 : (.selects RX8 yX8_stays yX8_stays : Cond) ∈ zB := zb_m6 (List.mem_of_getElem? (i := 73) rfl) rfl
theorem w_1305 : (.selects RX8 yX8_scenario yX8_scenario : Cond) ∈ zB := zb_m6 (List.mem_of_getElem? (i := 81) rfl) rfl
theorem w_1336 : (.selects RX8 yX8_damage yX8_damage : Cond) ∈ zB := zb_m6 (List.mem_of_getElem? (i := 112) rfl) rfl
theorem w_1349 : (.selects RX8 yX8_scenarioNet yX8_scenarioNet : Cond) ∈ zB := zb_m6 (List.mem_of_getElem? (i := 125) rfl) rfl
theorem w_1357 : (.selects RX8 yX8_tail yX8_tail : Cond) ∈ zB := zb_m6 (List.mem_of_getElem? (i := 133) rfl) rfl
theorem w_1387 : (.selects RX8 yX8_handOn yX8_handOn : Cond) ∈ zB := zb_m6 (List.mem_of_getElem? (i := 163) rfl) rfl
theorem w_1395 : (.selects RX8 yX8_fail yX8_fail : Cond) ∈ zB := zb_m6 (List.mem_of_getElem? (i := 171) rfl) rfl
theorem w_1405 : (.selects RX8 yX8_takenFrom yX8_takenFrom : Cond) ∈ zB := zb_m6 (List.mem_of_getElem? (i := 181) rfl) rfl
theorem w_1412 : (.selects RX8 yX8_limit yX8_limit : Cond) ∈ zB := zb_m6 (List.mem_of_getElem? (i := 188) rfl) rfl
theorem w_1422 : (.selects RX8 yX8_reinstated yX8_reinstated : Cond) ∈ zB := zb_m6 (List.mem_of_getElem? (i := 198) rfl) rfl
theorem w_1429 : (.selects RX8 yX8_paid yX8_paid : Cond) ∈ zB := zb_m6 (List.mem_of_getElem? (i := 205) rfl) rfl
theorem w_1434 : (.selects RX8 yX8_allLosses yX8_allLosses : Cond) ∈ zB := zb_m6 (List.mem_of_getElem? (i := 210) rfl) rfl
theorem w_1438 : (.selects RJ0 yJ0_charAt_5068e yJ0_charAt_5068e : Cond) ∈ zB := zb_m6 (List.mem_of_getElem? (i := 214) rfl) rfl
theorem w_1442 : (.selects RJ0 yJ0_isLatin1_aae02 yJ0_isLatin1_aae02 : Cond) ∈ zB := zb_m6 (List.mem_of_getElem? (i := 218) rfl) rfl
theorem w_0 : (.selects RX8 yX8_treatyAt yX8_treatyAt : Cond) ∈ zB := zb_m0 (List.mem_of_getElem? (i := 0) rfl) rfl
theorem w_2 : (.selects RX2 yX2_serveLoss yX2_serveLoss : Cond) ∈ zB := zb_m0 (List.mem_of_getElem? (i := 2) rfl) rfl
theorem w_3 : (.selects RX2 yX2_findOpen yX2_findOpen : Cond) ∈ zB := zb_m0 (List.mem_of_getElem? (i := 3) rfl) rfl
theorem w_4 : (.selects RJx4a65c yJx4a65c_add_72be8 yJx4a65c_add_72be8 : Cond) ∈ zB := zb_m0 (List.mem_of_getElem? (i := 4) rfl) rfl
theorem w_5 : (.selects RJx4a65c yJx4a65c_grow_d5877 yJx4a65c_grow_d5877 : Cond) ∈ zB := zb_m0 (List.mem_of_getElem? (i := 5) rfl) rfl
theorem w_6 : (.selects RJx4a65c yJx4a65c_grow_92f84 yJx4a65c_grow_92f84 : Cond) ∈ zB := zb_m0 (List.mem_of_getElem? (i := 6) rfl) rfl
theorem w_7 : (.selects RX2 yX2_serveZone yX2_serveZone : Cond) ∈ zB := zb_m0 (List.mem_of_getElem? (i := 7) rfl) rfl
theorem w_8 : (.selects RX3 yX3_worthOf yX3_worthOf : Cond) ∈ zB := zb_m0 (List.mem_of_getElem? (i := 8) rfl) rfl
theorem w_9 : (.selects RX3 yX3_isCut yX3_isCut : Cond) ∈ zB := zb_m0 (List.mem_of_getElem? (i := 9) rfl) rfl
theorem w_10 : (.selects RX3 yX3_laidCuts yX3_laidCuts : Cond) ∈ zB := zb_m0 (List.mem_of_getElem? (i := 10) rfl) rfl
theorem w_11 : (.selects RX2 yX2_gather yX2_gather : Cond) ∈ zB := zb_m0 (List.mem_of_getElem? (i := 11) rfl) rfl
theorem w_12 : (.selects RX2 yX2_serveGroup yX2_serveGroup : Cond) ∈ zB := zb_m0 (List.mem_of_getElem? (i := 12) rfl) rfl
theorem w_13 : (.selects RX8 yX8_settle yX8_settle : Cond) ∈ zB := zb_m0 (List.mem_of_getElem? (i := 13) rfl) rfl
theorem w_14 : (.selects RX8 yX8_playAll yX8_playAll : Cond) ∈ zB := zb_m0 (List.mem_of_getElem? (i := 14) rfl) rfl
theorem w_15 : (.selects RX8 yX8_play yX8_play : Cond) ∈ zB := zb_m0 (List.mem_of_getElem? (i := 15) rfl) rfl
theorem w_16 : (.selects RX8 yX8_settlePool yX8_settlePool : Cond) ∈ zB := zb_m0 (List.mem_of_getElem? (i := 16) rfl) rfl
theorem w_17 : (.selects RX5 yX5_goRounds yX5_goRounds : Cond) ∈ zB := zb_m0 (List.mem_of_getElem? (i := 17) rfl) rfl
theorem w_18 : (.selects RJx4a65c yJx4a65c_rangeCheckForAdd_d00df yJx4a65c_rangeCheckForAdd_d00df : Cond) ∈ zB := zb_m0 (List.mem_of_getElem? (i := 18) rfl) rfl
theorem w_20 : (.selects RX8 yX8_claimAt yX8_claimAt : Cond) ∈ zB := zb_m0 (List.mem_of_getElem? (i := 20) rfl) rfl
theorem w_21 : (.selects RX8 yX8_coverAt yX8_coverAt : Cond) ∈ zB := zb_m0 (List.mem_of_getElem? (i := 21) rfl) rfl
theorem w_22 : (.selects RX8 yX8_scenarioAt yX8_scenarioAt : Cond) ∈ zB := zb_m0 (List.mem_of_getElem? (i := 22) rfl) rfl
theorem w_23 : (.selects RX8 yX8_weightAbove yX8_weightAbove : Cond) ∈ zB := zb_m0 (List.mem_of_getElem? (i := 23) rfl) rfl
theorem w_24 : (.initialized RL : Cond) ∈ zB := zb_m1 (List.mem_of_getElem? (i := 0) rfl) rfl
theorem w_25 : (.initialized RX8 : Cond) ∈ zB := zb_m1 (List.mem_of_getElem? (i := 1) rfl) rfl
theorem w_26 : (.initialized RJxa1e45 : Cond) ∈ zB := zb_m1 (List.mem_of_getElem? (i := 2) rfl) rfl
theorem w_27 : (.initialized RJxc12de : Cond) ∈ zB := zb_m1 (List.mem_of_getElem? (i := 3) rfl) rfl
theorem w_28 : (.initialized RJx4a65c : Cond) ∈ zB := zb_m1 (List.mem_of_getElem? (i := 4) rfl) rfl
theorem w_29 : (.initialized RX2 : Cond) ∈ zB := zb_m1 (List.mem_of_getElem? (i := 5) rfl) rfl
theorem w_30 : (.initialized RX3 : Cond) ∈ zB := zb_m1 (List.mem_of_getElem? (i := 6) rfl) rfl
theorem w_31 : (.initialized RX5 : Cond) ∈ zB := zb_m1 (List.mem_of_getElem? (i := 7) rfl) rfl
theorem w_32 : (.initialized "java/lang/Throwable" : Cond) ∈ zB := zb_m1 (List.mem_of_getElem? (i := 8) rfl) rfl
theorem w_37 : (.initialized RX4 : Cond) ∈ zB := zb_m1 (List.mem_of_getElem? (i := 13) rfl) rfl
theorem w_38 : (.initialized RJ8 : Cond) ∈ zB := zb_m1 (List.mem_of_getElem? (i := 14) rfl) rfl
theorem w_39 : (.initialized RJ9 : Cond) ∈ zB := zb_m1 (List.mem_of_getElem? (i := 15) rfl) rfl
theorem w_40 : (.initialized RJ7 : Cond) ∈ zB := zb_m1 (List.mem_of_getElem? (i := 16) rfl) rfl
theorem w_41 : (.initialized RJ10 : Cond) ∈ zB := zb_m1 (List.mem_of_getElem? (i := 17) rfl) rfl
theorem w_42 : (.initialized RX0 : Cond) ∈ zB := zb_m1 (List.mem_of_getElem? (i := 18) rfl) rfl
theorem w_45 : (.initialized RJ0 : Cond) ∈ zB := zb_m1 (List.mem_of_getElem? (i := 21) rfl) rfl
theorem w_46 : (.initialized RJ15 : Cond) ∈ zB := zb_m1 (List.mem_of_getElem? (i := 22) rfl) rfl
theorem w_47 : (.initialized RJ3 : Cond) ∈ zB := zb_m1 (List.mem_of_getElem? (i := 23) rfl) rfl
theorem w_52 : (.initialized RJ1 : Cond) ∈ zB := zb_m1 (List.mem_of_getElem? (i := 28) rfl) rfl
theorem w_54 : (.initialized RJ6 : Cond) ∈ zB := zb_m1 (List.mem_of_getElem? (i := 30) rfl) rfl
theorem w_55 : (.initialized RX7 : Cond) ∈ zB := zb_m1 (List.mem_of_getElem? (i := 31) rfl) rfl
theorem w_56 : (.initialized RX1 : Cond) ∈ zB := zb_m1 (List.mem_of_getElem? (i := 32) rfl) rfl
theorem w_57 : (.initialized RX6 : Cond) ∈ zB := zb_m1 (List.mem_of_getElem? (i := 33) rfl) rfl
theorem w_60 : (.classLink RL 14 RX8 : Cond) ∈ zB := zb_m1 (List.mem_of_getElem? (i := 36) rfl) rfl
theorem w_68 : (.classLink RX8 7 RJx4a65c : Cond) ∈ zB := zb_m1 (List.mem_of_getElem? (i := 44) rfl) rfl
theorem w_94 : (.classLink RX8 28 RX2 : Cond) ∈ zB := zb_m1 (List.mem_of_getElem? (i := 70) rfl) rfl
theorem w_100 : (.classLink RX2 9 RJx4a65c : Cond) ∈ zB := zb_m1 (List.mem_of_getElem? (i := 76) rfl) rfl
theorem w_102 : (.classLink RX2 27 RX3 : Cond) ∈ zB := zb_m1 (List.mem_of_getElem? (i := 78) rfl) rfl
theorem w_153 : (.classLink RX8 38 RX5 : Cond) ∈ zB := zb_m1 (List.mem_of_getElem? (i := 129) rfl) rfl
theorem w_237 : (.classLink RX8 88 "java/lang/IndexOutOfBoundsException" : Cond) ∈ zB := zb_m1 (List.mem_of_getElem? (i := 213) rfl) rfl
theorem w_323 : (.classLink RX8 140 RX7 : Cond) ∈ zB := zb_m2 (List.mem_of_getElem? (i := 59) rfl) rfl
theorem w_327 : (.classLink RX8 103 "java/lang/UnsupportedOperationException" : Cond) ∈ zB := zb_m2 (List.mem_of_getElem? (i := 63) rfl) rfl
theorem w_353 : (.classLink RX2 46 RX0 : Cond) ∈ zB := zb_m2 (List.mem_of_getElem? (i := 89) rfl) rfl
theorem w_364 : (.classLink RX2 68 RX1 : Cond) ∈ zB := zb_m2 (List.mem_of_getElem? (i := 100) rfl) rfl
theorem w_488 : (.classLink RJ7 110 "[Ljava/lang/Object;" : Cond) ∈ zB := zb_m2 (List.mem_of_getElem? (i := 224) rfl) rfl
theorem w_490 : (.classLink RJ7 2 "java/lang/Object" : Cond) ∈ zB := zb_m2 (List.mem_of_getElem? (i := 226) rfl) rfl
theorem w_496 : (.classLink RJx4a65c 7 "java/lang/Object" : Cond) ∈ zB := zb_m2 (List.mem_of_getElem? (i := 232) rfl) rfl
theorem w_555 : (.classLink RX8 148 RX1 : Cond) ∈ zB := zb_m3 (List.mem_of_getElem? (i := 51) rfl) rfl
theorem w_577 : (.classLink RX8 347 "java/lang/ArithmeticException" : Cond) ∈ zB := zb_m3 (List.mem_of_getElem? (i := 73) rfl) rfl
theorem w_597 : (.classLink RX8 306 RX6 : Cond) ∈ zB := zb_m3 (List.mem_of_getElem? (i := 93) rfl) rfl
theorem w_603 : (.classLink RX8 83 RX0 : Cond) ∈ zB := zb_m3 (List.mem_of_getElem? (i := 99) rfl) rfl
theorem w_665 : (.classLink RL 19 "java/lang/IllegalArgumentException" : Cond) ∈ zB := zb_m3 (List.mem_of_getElem? (i := 161) rfl) rfl
theorem w_666 : (.classLink RL 22 "java/lang/IllegalStateException" : Cond) ∈ zB := zb_m3 (List.mem_of_getElem? (i := 162) rfl) rfl
theorem w_675 : (.classLink RX8 58 "java/lang/IllegalArgumentException" : Cond) ∈ zB := zb_m3 (List.mem_of_getElem? (i := 171) rfl) rfl
theorem w_691 : (.classLink RX8 69 "java/lang/IllegalStateException" : Cond) ∈ zB := zb_m3 (List.mem_of_getElem? (i := 187) rfl) rfl
theorem w_707 : (.classLink RX8 74 RX4 : Cond) ∈ zB := zb_m3 (List.mem_of_getElem? (i := 203) rfl) rfl
theorem w_781 : (.classLink RL 28 "java/lang/IndexOutOfBoundsException" : Cond) ∈ zB := zb_m4 (List.mem_of_getElem? (i := 37) rfl) rfl
theorem w_802 : (.classLink RL 31 "java/lang/UnsupportedOperationException" : Cond) ∈ zB := zb_m4 (List.mem_of_getElem? (i := 58) rfl) rfl
theorem w_824 : (.classLink RJx4a65c 187 "java/lang/IndexOutOfBoundsException" : Cond) ∈ zB := zb_m4 (List.mem_of_getElem? (i := 80) rfl) rfl
theorem w_829 : (.classLink RJx4a65c 20 "java/lang/StringBuilder" : Cond) ∈ zB := zb_m4 (List.mem_of_getElem? (i := 85) rfl) rfl
theorem w_891 : (.classLink RJ7 311 "[B" : Cond) ∈ zB := zb_m4 (List.mem_of_getElem? (i := 147) rfl) rfl
theorem w_1027 : (.classLink RJ7 43 "java/lang/IllegalArgumentException" : Cond) ∈ zB := zb_m5 (List.mem_of_getElem? (i := 43) rfl) rfl
theorem w_1028 : (.classLink RJ7 45 "java/lang/StringBuilder" : Cond) ∈ zB := zb_m5 (List.mem_of_getElem? (i := 44) rfl) rfl
theorem w_1354 : (.classLink RL 93 "java/util/NoSuchElementException" : Cond) ∈ zB := zb_m6 (List.mem_of_getElem? (i := 130) rfl) rfl
theorem w_1360 : (.classLink RX8 271 "java/util/NoSuchElementException" : Cond) ∈ zB := zb_m6 (List.mem_of_getElem? (i := 136) rfl) rfl
theorem w_61 : (.instantiable RX8 9 : Cond) ∈ zB := zb_m1 (List.mem_of_getElem? (i := 37) rfl) rfl
theorem w_69 : (.instantiable RJx4a65c 3 : Cond) ∈ zB := zb_m1 (List.mem_of_getElem? (i := 45) rfl) rfl
theorem w_95 : (.instantiable RX2 6 : Cond) ∈ zB := zb_m1 (List.mem_of_getElem? (i := 71) rfl) rfl
theorem w_103 : (.instantiable RX3 6 : Cond) ∈ zB := zb_m1 (List.mem_of_getElem? (i := 79) rfl) rfl
theorem w_154 : (.instantiable RX5 9 : Cond) ∈ zB := zb_m1 (List.mem_of_getElem? (i := 130) rfl) rfl
theorem w_708 : (.instantiable RX4 4 : Cond) ∈ zB := zb_m3 (List.mem_of_getElem? (i := 204) rfl) rfl
theorem w_731 : (.instantiable RX0 7 : Cond) ∈ zB := zb_m3 (List.mem_of_getElem? (i := 227) rfl) rfl
theorem w_797 : (.instantiable RJ0 4 : Cond) ∈ zB := zb_m4 (List.mem_of_getElem? (i := 53) rfl) rfl
theorem w_1086 : (.instantiable RX7 15 : Cond) ∈ zB := zb_m5 (List.mem_of_getElem? (i := 102) rfl) rfl
theorem w_1156 : (.instantiable RX1 6 : Cond) ∈ zB := zb_m5 (List.mem_of_getElem? (i := 172) rfl) rfl
theorem w_1309 : (.instantiable RX6 4 : Cond) ∈ zB := zb_m6 (List.mem_of_getElem? (i := 85) rfl) rfl
theorem w_455 : (.constant RJ8 200 (2147483639) : Cond) ∈ zB := zb_m2 (List.mem_of_getElem? (i := 191) rfl) rfl
theorem w_518 : (.constant RJ6 265 (1431655765) : Cond) ∈ zB := zb_m3 (List.mem_of_getElem? (i := 14) rfl) rfl
theorem w_519 : (.constant RJ6 266 (858993459) : Cond) ∈ zB := zb_m3 (List.mem_of_getElem? (i := 15) rfl) rfl
theorem w_520 : (.constant RJ6 267 (252645135) : Cond) ∈ zB := zb_m3 (List.mem_of_getElem? (i := 16) rfl) rfl
theorem w_671 : (.constant RX8 49 (1000000) : Cond) ∈ zB := zb_m3 (List.mem_of_getElem? (i := 167) rfl) rfl
theorem w_776 : (.constant RL 21 (-2000000) : Cond) ∈ zB := zb_m4 (List.mem_of_getElem? (i := 32) rfl) rfl
theorem w_777 : (.constant RL 24 (-1000000) : Cond) ∈ zB := zb_m4 (List.mem_of_getElem? (i := 33) rfl) rfl
theorem w_1057 : (.constant RL 30 (-2500000) : Cond) ∈ zB := zb_m5 (List.mem_of_getElem? (i := 73) rfl) rfl
theorem w_1058 : (.constant RL 33 (-1500000) : Cond) ∈ zB := zb_m5 (List.mem_of_getElem? (i := 74) rfl) rfl
theorem w_378 : (.constantLong RX7 64 (1000000000000) : Cond) ∈ zB := zb_m2 (List.mem_of_getElem? (i := 114) rfl) rfl
theorem w_395 : (.constantLong RX7 94 (100) : Cond) ∈ zB := zb_m2 (List.mem_of_getElem? (i := 131) rfl) rfl
theorem w_514 : (.constantLong RX3 49 (-1) : Cond) ∈ zB := zb_m3 (List.mem_of_getElem? (i := 10) rfl) rfl
theorem w_564 : (.constantLong RX2 181 (100) : Cond) ∈ zB := zb_m3 (List.mem_of_getElem? (i := 60) rfl) rfl
theorem w_612 : (.constantLong RX6 38 (100) : Cond) ∈ zB := zb_m3 (List.mem_of_getElem? (i := 108) rfl) rfl
theorem w_642 : (.constantLong RX5 66 (1000000000000) : Cond) ∈ zB := zb_m3 (List.mem_of_getElem? (i := 138) rfl) rfl
theorem w_1246 : (.constantLong RL 60 (-2500000) : Cond) ∈ zB := zb_m6 (List.mem_of_getElem? (i := 22) rfl) rfl
theorem w_1247 : (.constantLong RL 62 (-2000000) : Cond) ∈ zB := zb_m6 (List.mem_of_getElem? (i := 23) rfl) rfl
theorem w_1248 : (.constantLong RL 64 (-1500000) : Cond) ∈ zB := zb_m6 (List.mem_of_getElem? (i := 24) rfl) rfl
theorem w_1375 : (.constantLong RX8 336 (-1) : Cond) ∈ zB := zb_m6 (List.mem_of_getElem? (i := 151) rfl) rfl
theorem w_1380 : (.constantLong RX8 342 (1000000000000) : Cond) ∈ zB := zb_m6 (List.mem_of_getElem? (i := 156) rfl) rfl
theorem w_1381 : (.constantLong RL 120 (-3000000) : Cond) ∈ zB := zb_m6 (List.mem_of_getElem? (i := 157) rfl) rfl
theorem w_1416 : (.constantLong RL 79 (-1000000) : Cond) ∈ zB := zb_m6 (List.mem_of_getElem? (i := 192) rfl) rfl
theorem w_87 : (.lays RJx4a65c "java/util/ArrayList" "elementData" "[Ljava/lang/Object;" : Cond) ∈ zB := zb_m1 (List.mem_of_getElem? (i := 63) rfl) rfl
theorem w_89 : (.lays RJx4a65c "java/util/ArrayList" "size" "I" : Cond) ∈ zB := zb_m1 (List.mem_of_getElem? (i := 65) rfl) rfl
theorem w_91 : (.lays RJx4a65c "java/util/AbstractList" "modCount" "I" : Cond) ∈ zB := zb_m1 (List.mem_of_getElem? (i := 67) rfl) rfl
theorem w_117 : (.laysFinal RX3 "Layertreaty$Laying" "days" "[I" : Cond) ∈ zB := zb_m1 (List.mem_of_getElem? (i := 93) rfl) rfl
theorem w_119 : (.laysFinal RX3 "Layertreaty$Laying" "sums" "[J" : Cond) ∈ zB := zb_m1 (List.mem_of_getElem? (i := 95) rfl) rfl
theorem w_121 : (.laysFinal RX3 "Layertreaty$Laying" "ends" "[I" : Cond) ∈ zB := zb_m1 (List.mem_of_getElem? (i := 97) rfl) rfl
theorem w_123 : (.laysFinal RX3 "Layertreaty$Laying" "brings" "[J" : Cond) ∈ zB := zb_m1 (List.mem_of_getElem? (i := 99) rfl) rfl
theorem w_125 : (.laysFinal RX3 "Layertreaty$Laying" "counts" "[I" : Cond) ∈ zB := zb_m1 (List.mem_of_getElem? (i := 101) rfl) rfl
theorem w_127 : (.lays RX3 "Layertreaty$Laying" "size" "I" : Cond) ∈ zB := zb_m1 (List.mem_of_getElem? (i := 103) rfl) rfl
theorem w_140 : (.laysFinal RX2 "Layertreaty$Flow" "claims" "Ljava/util/ArrayList;" : Cond) ∈ zB := zb_m1 (List.mem_of_getElem? (i := 116) rfl) rfl
theorem w_142 : (.laysFinal RX2 "Layertreaty$Flow" "covers" "Ljava/util/ArrayList;" : Cond) ∈ zB := zb_m1 (List.mem_of_getElem? (i := 118) rfl) rfl
theorem w_144 : (.laysFinal RX2 "Layertreaty$Flow" "open" "Ljava/util/ArrayList;" : Cond) ∈ zB := zb_m1 (List.mem_of_getElem? (i := 120) rfl) rfl
theorem w_146 : (.laysFinal RX2 "Layertreaty$Flow" "group" "Ljava/util/ArrayList;" : Cond) ∈ zB := zb_m1 (List.mem_of_getElem? (i := 122) rfl) rfl
theorem w_148 : (.laysFinal RX2 "Layertreaty$Flow" "laying" "LLayertreaty$Laying;" : Cond) ∈ zB := zb_m1 (List.mem_of_getElem? (i := 124) rfl) rfl
theorem w_150 : (.lays RX2 "Layertreaty$Flow" "isBest" "Z" : Cond) ∈ zB := zb_m1 (List.mem_of_getElem? (i := 126) rfl) rfl
theorem w_174 : (.laysFinal RX5 "Layertreaty$Pool" "isFailed" "[Z" : Cond) ∈ zB := zb_m1 (List.mem_of_getElem? (i := 150) rfl) rfl
theorem w_176 : (.laysFinal RX5 "Layertreaty$Pool" "receivers" "[I" : Cond) ∈ zB := zb_m1 (List.mem_of_getElem? (i := 152) rfl) rfl
theorem w_178 : (.laysFinal RX5 "Layertreaty$Pool" "bounds" "[I" : Cond) ∈ zB := zb_m1 (List.mem_of_getElem? (i := 154) rfl) rfl
theorem w_180 : (.laysFinal RX5 "Layertreaty$Pool" "limits" "[I" : Cond) ∈ zB := zb_m1 (List.mem_of_getElem? (i := 156) rfl) rfl
theorem w_182 : (.laysFinal RX5 "Layertreaty$Pool" "own" "[J" : Cond) ∈ zB := zb_m1 (List.mem_of_getElem? (i := 158) rfl) rfl
theorem w_184 : (.laysFinal RX5 "Layertreaty$Pool" "comes" "[J" : Cond) ∈ zB := zb_m1 (List.mem_of_getElem? (i := 160) rfl) rfl
theorem w_186 : (.laysFinal RX5 "Layertreaty$Pool" "early" "[J" : Cond) ∈ zB := zb_m1 (List.mem_of_getElem? (i := 162) rfl) rfl
theorem w_188 : (.laysFinal RX5 "Layertreaty$Pool" "above" "[J" : Cond) ∈ zB := zb_m1 (List.mem_of_getElem? (i := 164) rfl) rfl
theorem w_190 : (.laysFinal RX5 "Layertreaty$Pool" "before" "[J" : Cond) ∈ zB := zb_m1 (List.mem_of_getElem? (i := 166) rfl) rfl
theorem w_203 : (.laysFinal RX8 "Layertreaty" "policies" "Ljava/util/ArrayList;" : Cond) ∈ zB := zb_m1 (List.mem_of_getElem? (i := 179) rfl) rfl
theorem w_205 : (.laysFinal RX8 "Layertreaty" "claims" "Ljava/util/ArrayList;" : Cond) ∈ zB := zb_m1 (List.mem_of_getElem? (i := 181) rfl) rfl
theorem w_207 : (.laysFinal RX8 "Layertreaty" "terms" "Ljava/util/ArrayList;" : Cond) ∈ zB := zb_m1 (List.mem_of_getElem? (i := 183) rfl) rfl
theorem w_209 : (.laysFinal RX8 "Layertreaty" "scenarios" "Ljava/util/ArrayList;" : Cond) ∈ zB := zb_m1 (List.mem_of_getElem? (i := 185) rfl) rfl
theorem w_211 : (.laysFinal RX8 "Layertreaty" "damages" "Ljava/util/ArrayList;" : Cond) ∈ zB := zb_m1 (List.mem_of_getElem? (i := 187) rfl) rfl
theorem w_213 : (.laysFinal RX8 "Layertreaty" "real" "LLayertreaty$Flow;" : Cond) ∈ zB := zb_m1 (List.mem_of_getElem? (i := 189) rfl) rfl
theorem w_215 : (.laysFinal RX8 "Layertreaty" "trial" "LLayertreaty$Flow;" : Cond) ∈ zB := zb_m1 (List.mem_of_getElem? (i := 191) rfl) rfl
theorem w_217 : (.laysFinal RX8 "Layertreaty" "pool" "LLayertreaty$Pool;" : Cond) ∈ zB := zb_m1 (List.mem_of_getElem? (i := 193) rfl) rfl
theorem w_219 : (.lays RX8 "Layertreaty" "isSettled" "Z" : Cond) ∈ zB := zb_m1 (List.mem_of_getElem? (i := 195) rfl) rfl
theorem w_722 : (.laysFinal RX4 "Layertreaty$Policy" "sum" "I" : Cond) ∈ zB := zb_m3 (List.mem_of_getElem? (i := 218) rfl) rfl
theorem w_724 : (.laysFinal RX4 "Layertreaty$Policy" "zone" "I" : Cond) ∈ zB := zb_m3 (List.mem_of_getElem? (i := 220) rfl) rfl
theorem w_726 : (.laysFinal RX4 "Layertreaty$Policy" "first" "I" : Cond) ∈ zB := zb_m3 (List.mem_of_getElem? (i := 222) rfl) rfl
theorem w_728 : (.laysFinal RX4 "Layertreaty$Policy" "last" "I" : Cond) ∈ zB := zb_m3 (List.mem_of_getElem? (i := 224) rfl) rfl
theorem w_761 : (.laysFinal RX0 "Layertreaty$Claim" "policy" "LLayertreaty$Policy;" : Cond) ∈ zB := zb_m4 (List.mem_of_getElem? (i := 17) rfl) rfl
theorem w_763 : (.laysFinal RX0 "Layertreaty$Claim" "took" "[J" : Cond) ∈ zB := zb_m4 (List.mem_of_getElem? (i := 19) rfl) rfl
theorem w_765 : (.laysFinal RX0 "Layertreaty$Claim" "events" "[I" : Cond) ∈ zB := zb_m4 (List.mem_of_getElem? (i := 21) rfl) rfl
theorem w_767 : (.lays RX0 "Layertreaty$Claim" "day" "I" : Cond) ∈ zB := zb_m4 (List.mem_of_getElem? (i := 23) rfl) rfl
theorem w_769 : (.lays RX0 "Layertreaty$Claim" "told" "I" : Cond) ∈ zB := zb_m4 (List.mem_of_getElem? (i := 25) rfl) rfl
theorem w_771 : (.lays RX0 "Layertreaty$Claim" "amount" "I" : Cond) ∈ zB := zb_m4 (List.mem_of_getElem? (i := 27) rfl) rfl
theorem w_773 : (.lays RX0 "Layertreaty$Claim" "left" "J" : Cond) ∈ zB := zb_m4 (List.mem_of_getElem? (i := 29) rfl) rfl
theorem w_798 : (.laysFinal RJ0 "java/lang/String" "value" "[B" : Cond) ∈ zB := zb_m4 (List.mem_of_getElem? (i := 54) rfl) rfl
theorem w_800 : (.laysFinal RJ0 "java/lang/String" "coder" "B" : Cond) ∈ zB := zb_m4 (List.mem_of_getElem? (i := 56) rfl) rfl
theorem w_1050 : (.lays RJ0 "java/lang/String" "hash" "I" : Cond) ∈ zB := zb_m5 (List.mem_of_getElem? (i := 66) rfl) rfl
theorem w_1052 : (.lays RJ0 "java/lang/String" "hashIsZero" "Z" : Cond) ∈ zB := zb_m5 (List.mem_of_getElem? (i := 68) rfl) rfl
theorem w_1125 : (.laysFinal RX7 "Layertreaty$Treaty" "number" "I" : Cond) ∈ zB := zb_m5 (List.mem_of_getElem? (i := 141) rfl) rfl
theorem w_1127 : (.laysFinal RX7 "Layertreaty$Treaty" "kind" "C" : Cond) ∈ zB := zb_m5 (List.mem_of_getElem? (i := 143) rfl) rfl
theorem w_1129 : (.laysFinal RX7 "Layertreaty$Treaty" "basis" "C" : Cond) ∈ zB := zb_m5 (List.mem_of_getElem? (i := 145) rfl) rfl
theorem w_1131 : (.laysFinal RX7 "Layertreaty$Treaty" "first" "I" : Cond) ∈ zB := zb_m5 (List.mem_of_getElem? (i := 147) rfl) rfl
theorem w_1133 : (.laysFinal RX7 "Layertreaty$Treaty" "last" "I" : Cond) ∈ zB := zb_m5 (List.mem_of_getElem? (i := 149) rfl) rfl
theorem w_1135 : (.laysFinal RX7 "Layertreaty$Treaty" "a" "I" : Cond) ∈ zB := zb_m5 (List.mem_of_getElem? (i := 151) rfl) rfl
theorem w_1137 : (.laysFinal RX7 "Layertreaty$Treaty" "b" "I" : Cond) ∈ zB := zb_m5 (List.mem_of_getElem? (i := 153) rfl) rfl
theorem w_1139 : (.laysFinal RX7 "Layertreaty$Treaty" "shares" "[I" : Cond) ∈ zB := zb_m5 (List.mem_of_getElem? (i := 155) rfl) rfl
theorem w_1141 : (.lays RX7 "Layertreaty$Treaty" "days" "I" : Cond) ∈ zB := zb_m5 (List.mem_of_getElem? (i := 157) rfl) rfl
theorem w_1143 : (.lays RX7 "Layertreaty$Treaty" "many" "I" : Cond) ∈ zB := zb_m5 (List.mem_of_getElem? (i := 159) rfl) rfl
theorem w_1145 : (.lays RX7 "Layertreaty$Treaty" "price" "I" : Cond) ∈ zB := zb_m5 (List.mem_of_getElem? (i := 161) rfl) rfl
theorem w_1147 : (.lays RX7 "Layertreaty$Treaty" "isByTime" "Z" : Cond) ∈ zB := zb_m5 (List.mem_of_getElem? (i := 163) rfl) rfl
theorem w_1149 : (.lays RX7 "Layertreaty$Treaty" "premium" "I" : Cond) ∈ zB := zb_m5 (List.mem_of_getElem? (i := 165) rfl) rfl
theorem w_1151 : (.lays RX7 "Layertreaty$Treaty" "isCommuted" "Z" : Cond) ∈ zB := zb_m5 (List.mem_of_getElem? (i := 167) rfl) rfl
theorem w_1153 : (.lays RX7 "Layertreaty$Treaty" "commutedFor" "I" : Cond) ∈ zB := zb_m5 (List.mem_of_getElem? (i := 169) rfl) rfl
theorem w_1177 : (.laysFinal RX1 "Layertreaty$Cover" "treaty" "LLayertreaty$Treaty;" : Cond) ∈ zB := zb_m5 (List.mem_of_getElem? (i := 193) rfl) rfl
theorem w_1179 : (.laysFinal RX1 "Layertreaty$Cover" "events" "[I" : Cond) ∈ zB := zb_m5 (List.mem_of_getElem? (i := 195) rfl) rfl
theorem w_1181 : (.lays RX1 "Layertreaty$Cover" "limitLeft" "J" : Cond) ∈ zB := zb_m5 (List.mem_of_getElem? (i := 197) rfl) rfl
theorem w_1183 : (.lays RX1 "Layertreaty$Cover" "taken" "J" : Cond) ∈ zB := zb_m5 (List.mem_of_getElem? (i := 199) rfl) rfl
theorem w_1185 : (.lays RX1 "Layertreaty$Cover" "reinstated" "J" : Cond) ∈ zB := zb_m5 (List.mem_of_getElem? (i := 201) rfl) rfl
theorem w_1187 : (.lays RX1 "Layertreaty$Cover" "owed" "J" : Cond) ∈ zB := zb_m5 (List.mem_of_getElem? (i := 203) rfl) rfl
theorem w_1322 : (.laysFinal RX6 "Layertreaty$Scenario" "day" "I" : Cond) ∈ zB := zb_m6 (List.mem_of_getElem? (i := 98) rfl) rfl
theorem w_1324 : (.laysFinal RX6 "Layertreaty$Scenario" "weight" "I" : Cond) ∈ zB := zb_m6 (List.mem_of_getElem? (i := 100) rfl) rfl
theorem w_1326 : (.laysFinal RX6 "Layertreaty$Scenario" "damages" "[I" : Cond) ∈ zB := zb_m6 (List.mem_of_getElem? (i := 102) rfl) rfl
theorem w_1328 : (.lays RX6 "Layertreaty$Scenario" "net" "J" : Cond) ∈ zB := zb_m6 (List.mem_of_getElem? (i := 104) rfl) rfl
theorem w_130 : (.arrayClass FieldType.int : Cond) ∈ zB := zb_m1 (List.mem_of_getElem? (i := 106) rfl) rfl
theorem w_131 : (.arrayClass FieldType.long : Cond) ∈ zB := zb_m1 (List.mem_of_getElem? (i := 107) rfl) rfl
theorem w_193 : (.arrayClass FieldType.boolean : Cond) ∈ zB := zb_m1 (List.mem_of_getElem? (i := 169) rfl) rfl
theorem w_308 : (.arrayClass FieldType.byte : Cond) ∈ zB := zb_m2 (List.mem_of_getElem? (i := 44) rfl) rfl
theorem w_86 : (.sameField "java/util/ArrayList" "java/util/AbstractList" "modCount" "I" : Cond) ∈ zB := zb_m1 (List.mem_of_getElem? (i := 62) rfl) rfl
theorem inX0 : ∀ w ∈ u_ws RX0 TX0 7, w ∈ zB := by
  intro w hw
  obtain ⟨k, hk, rfl⟩ := List.mem_map.mp hw
  have hk := List.mem_range.mp hk
  match k, hk with
  | 0, _ => exact w_761
  | 1, _ => exact w_763
  | 2, _ => exact w_765
  | 3, _ => exact w_767
  | 4, _ => exact w_769
  | 5, _ => exact w_771
  | 6, _ => exact w_773
  | q + 7, h => exact absurd h (by omega)
theorem inX1 : ∀ w ∈ u_ws RX1 TX1 6, w ∈ zB := by
  intro w hw
  obtain ⟨k, hk, rfl⟩ := List.mem_map.mp hw
  have hk := List.mem_range.mp hk
  match k, hk with
  | 0, _ => exact w_1177
  | 1, _ => exact w_1179
  | 2, _ => exact w_1181
  | 3, _ => exact w_1183
  | 4, _ => exact w_1185
  | 5, _ => exact w_1187
  | q + 6, h => exact absurd h (by omega)
theorem inX2 : ∀ w ∈ u_ws RX2 TX2 6, w ∈ zB := by
  intro w hw
  obtain ⟨k, hk, rfl⟩ := List.mem_map.mp hw
  have hk := List.mem_range.mp hk
  match k, hk with
  | 0, _ => exact w_140
  | 1, _ => exact w_142
  | 2, _ => exact w_144
  | 3, _ => exact w_146
  | 4, _ => exact w_148
  | 5, _ => exact w_150
  | q + 6, h => exact absurd h (by omega)
theorem inX3 : ∀ w ∈ u_ws RX3 TX3 6, w ∈ zB := by
  intro w hw
  obtain ⟨k, hk, rfl⟩ := List.mem_map.mp hw
  have hk := List.mem_range.mp hk
  match k, hk with
  | 0, _ => exact w_117
  | 1, _ => exact w_119
  | 2, _ => exact w_121
  | 3, _ => exact w_123
  | 4, _ => exact w_125
  | 5, _ => exact w_127
  | q + 6, h => exact absurd h (by omega)
theorem inX4 : ∀ w ∈ u_ws RX4 TX4 4, w ∈ zB := by
  intro w hw
  obtain ⟨k, hk, rfl⟩ := List.mem_map.mp hw
  have hk := List.mem_range.mp hk
  match k, hk with
  | 0, _ => exact w_722
  | 1, _ => exact w_724
  | 2, _ => exact w_726
  | 3, _ => exact w_728
  | q + 4, h => exact absurd h (by omega)
theorem inX5 : ∀ w ∈ u_ws RX5 TX5 9, w ∈ zB := by
  intro w hw
  obtain ⟨k, hk, rfl⟩ := List.mem_map.mp hw
  have hk := List.mem_range.mp hk
  match k, hk with
  | 0, _ => exact w_174
  | 1, _ => exact w_176
  | 2, _ => exact w_178
  | 3, _ => exact w_180
  | 4, _ => exact w_182
  | 5, _ => exact w_184
  | 6, _ => exact w_186
  | 7, _ => exact w_188
  | 8, _ => exact w_190
  | q + 9, h => exact absurd h (by omega)
theorem inX6 : ∀ w ∈ u_ws RX6 TX6 4, w ∈ zB := by
  intro w hw
  obtain ⟨k, hk, rfl⟩ := List.mem_map.mp hw
  have hk := List.mem_range.mp hk
  match k, hk with
  | 0, _ => exact w_1322
  | 1, _ => exact w_1324
  | 2, _ => exact w_1326
  | 3, _ => exact w_1328
  | q + 4, h => exact absurd h (by omega)
theorem inX7 : ∀ w ∈ u_ws RX7 TX7 15, w ∈ zB := by
  intro w hw
  obtain ⟨k, hk, rfl⟩ := List.mem_map.mp hw
  have hk := List.mem_range.mp hk
  match k, hk with
  | 0, _ => exact w_1125
  | 1, _ => exact w_1127
  | 2, _ => exact w_1129
  | 3, _ => exact w_1131
  | 4, _ => exact w_1133
  | 5, _ => exact w_1135
  | 6, _ => exact w_1137
  | 7, _ => exact w_1139
  | 8, _ => exact w_1141
  | 9, _ => exact w_1143
  | 10, _ => exact w_1145
  | 11, _ => exact w_1147
  | 12, _ => exact w_1149
  | 13, _ => exact w_1151
  | 14, _ => exact w_1153
  | q + 15, h => exact absurd h (by omega)
theorem inX8 : ∀ w ∈ u_ws RX8 TX8 9, w ∈ zB := by
  intro w hw
  obtain ⟨k, hk, rfl⟩ := List.mem_map.mp hw
  have hk := List.mem_range.mp hk
  match k, hk with
  | 0, _ => exact w_203
  | 1, _ => exact w_205
  | 2, _ => exact w_207
  | 3, _ => exact w_209
  | 4, _ => exact w_211
  | 5, _ => exact w_213
  | 6, _ => exact w_215
  | 7, _ => exact w_217
  | 8, _ => exact w_219
  | q + 9, h => exact absurd h (by omega)
theorem inJx4a65c : ∀ w ∈ u_ws RJx4a65c TJx4a65c 3, w ∈ zB := by
  intro w hw
  obtain ⟨k, hk, rfl⟩ := List.mem_map.mp hw
  have hk := List.mem_range.mp hk
  match k, hk with
  | 0, _ => exact w_91
  | 1, _ => exact w_87
  | 2, _ => exact w_89
  | q + 3, h => exact absurd h (by omega)
