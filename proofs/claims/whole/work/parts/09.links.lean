theorem tbm {w : Cond} (i : Nat) (h : lw_tbl[i]? = some w) (hg : goodWord w = true) : w ∈ tb := List.mem_filter.mpr ⟨List.mem_of_getElem? h, hg⟩
theorem tb_sub {ws : List Cond} (ps : List Nat) (hp : ws = ps.filterMap (fun i => lw_tbl[i]?)) (hg : ws.all goodWord = true) : ∀ w ∈ ws, w ∈ tb := by
  intro w hw
  refine List.mem_filter.mpr ⟨?_, List.all_eq_true.mp hg w hw⟩
  rw [hp] at hw
  obtain ⟨i, -, hi⟩ := List.mem_filterMap.mp hw
  exact List.mem_of_getElem? hi
abbrev mX9_init : MD := (yX9_init, cX9_init, 1, none)
theorem cdX9_init : Cond.code yX9_init cX9_init 1 none ∈ tb := tbm 59 (by decide +kernel) rfl
theorem iiX9_init : Cond.instanceMethod yX9_init ∈ tb ∧ yX9_init.name = "<init>" ∧ (mX9_init).2.2.2 = none := ⟨tbm 58 (by decide +kernel) rfl, rfl, rfl⟩
theorem pnX9_init : plainName yX9_init.cls = true := by decide
abbrev mX5_init : MD := (yX5_init, cX5_init, 1, none)
theorem cdX5_init : Cond.code yX5_init cX5_init 1 none ∈ tb := tbm 67 (by decide +kernel) rfl
theorem iiX5_init : Cond.instanceMethod yX5_init ∈ tb ∧ yX5_init.name = "<init>" ∧ (mX5_init).2.2.2 = none := ⟨tbm 66 (by decide +kernel) rfl, rfl, rfl⟩
theorem pnX5_init : plainName yX5_init.cls = true := by decide
abbrev mX3_init : MD := (yX3_init, cX3_init, 2, none)
theorem cdX3_init : Cond.code yX3_init cX3_init 2 none ∈ tb := tbm 85 (by decide +kernel) rfl
theorem iiX3_init : Cond.instanceMethod yX3_init ∈ tb ∧ yX3_init.name = "<init>" ∧ (mX3_init).2.2.2 = none := ⟨tbm 84 (by decide +kernel) rfl, rfl, rfl⟩
theorem pnX3_init : plainName yX3_init.cls = true := by decide
abbrev mX6_init : MD := (yX6_init, cX6_init, 2, none)
theorem cdX6_init : Cond.code yX6_init cX6_init 2 none ∈ tb := tbm 92 (by decide +kernel) rfl
theorem iiX6_init : Cond.instanceMethod yX6_init ∈ tb ∧ yX6_init.name = "<init>" ∧ (mX6_init).2.2.2 = none := ⟨tbm 91 (by decide +kernel) rfl, rfl, rfl⟩
theorem pnX6_init : plainName yX6_init.cls = true := by decide
abbrev mX2_init : MD := (yX2_init, cX2_init, 1, none)
theorem cdX2_init : Cond.code yX2_init cX2_init 1 none ∈ tb := tbm 98 (by decide +kernel) rfl
theorem iiX2_init : Cond.instanceMethod yX2_init ∈ tb ∧ yX2_init.name = "<init>" ∧ (mX2_init).2.2.2 = none := ⟨tbm 97 (by decide +kernel) rfl, rfl, rfl⟩
theorem pnX2_init : plainName yX2_init.cls = true := by decide
abbrev mX0_init : MD := (yX0_init, cX0_init, 2, none)
theorem cdX0_init : Cond.code yX0_init cX0_init 2 none ∈ tb := tbm 112 (by decide +kernel) rfl
theorem iiX0_init : Cond.instanceMethod yX0_init ∈ tb ∧ yX0_init.name = "<init>" ∧ (mX0_init).2.2.2 = none := ⟨tbm 111 (by decide +kernel) rfl, rfl, rfl⟩
theorem pnX0_init : plainName yX0_init.cls = true := by decide
abbrev mX4_init : MD := (yX4_init, cX4_init, 1, none)
theorem cdX4_init : Cond.code yX4_init cX4_init 1 none ∈ tb := tbm 119 (by decide +kernel) rfl
theorem iiX4_init : Cond.instanceMethod yX4_init ∈ tb ∧ yX4_init.name = "<init>" ∧ (mX4_init).2.2.2 = none := ⟨tbm 118 (by decide +kernel) rfl, rfl, rfl⟩
theorem pnX4_init : plainName yX4_init.cls = true := by decide
abbrev mX1_init : MD := (yX1_init, cX1_init, 1, none)
theorem cdX1_init : Cond.code yX1_init cX1_init 1 none ∈ tb := tbm 160 (by decide +kernel) rfl
theorem iiX1_init : Cond.instanceMethod yX1_init ∈ tb ∧ yX1_init.name = "<init>" ∧ (mX1_init).2.2.2 = none := ⟨tbm 159 (by decide +kernel) rfl, rfl, rfl⟩
theorem pnX1_init : plainName yX1_init.cls = true := by decide
abbrev mX7_init : MD := (yX7_init, cX7_init, 1, none)
theorem cdX7_init : Cond.code yX7_init cX7_init 1 none ∈ tb := tbm 253 (by decide +kernel) rfl
theorem iiX7_init : Cond.instanceMethod yX7_init ∈ tb ∧ yX7_init.name = "<init>" ∧ (mX7_init).2.2.2 = none := ⟨tbm 252 (by decide +kernel) rfl, rfl, rfl⟩
theorem pnX7_init : plainName yX7_init.cls = true := by decide
abbrev mX8_init : MD := (yX8_init, cX8_init, 1, none)
theorem cdX8_init : Cond.code yX8_init cX8_init 1 none ∈ tb := tbm 282 (by decide +kernel) rfl
theorem iiX8_init : Cond.instanceMethod yX8_init ∈ tb ∧ yX8_init.name = "<init>" ∧ (mX8_init).2.2.2 = none := ⟨tbm 281 (by decide +kernel) rfl, rfl, rfl⟩
theorem pnX8_init : plainName yX8_init.cls = true := by decide
abbrev mX9_say : MD := (yX9_say, cX9_say, 2, (some .int))
theorem cdX9_say : Cond.code yX9_say cX9_say 2 (some .int) ∈ tb := tbm 314 (by decide +kernel) rfl
theorem ivX9_say : Cond.instanceMethod yX9_say ∈ tb ∧ Cond.selects yX9_say.cls yX9_say yX9_say ∈ tb := ⟨tbm 312 (by decide +kernel) rfl, tbm 313 (by decide +kernel) rfl⟩
theorem pnX9_say : plainName yX9_say.cls = true := by decide
abbrev mX5_add : MD := (yX5_add, cX5_add, 2, none)
theorem cdX5_add : Cond.code yX5_add cX5_add 2 none ∈ tb := tbm 318 (by decide +kernel) rfl
theorem ivX5_add : Cond.instanceMethod yX5_add ∈ tb ∧ Cond.selects yX5_add.cls yX5_add yX5_add ∈ tb := ⟨tbm 316 (by decide +kernel) rfl, tbm 317 (by decide +kernel) rfl⟩
theorem pnX5_add : plainName yX5_add.cls = true := by decide
abbrev mX9_wipe : MD := (yX9_wipe, cX9_wipe, 2, (some .int))
theorem cdX9_wipe : Cond.code yX9_wipe cX9_wipe 2 (some .int) ∈ tb := tbm 322 (by decide +kernel) rfl
theorem ivX9_wipe : Cond.instanceMethod yX9_wipe ∈ tb ∧ Cond.selects yX9_wipe.cls yX9_wipe yX9_wipe ∈ tb := ⟨tbm 320 (by decide +kernel) rfl, tbm 321 (by decide +kernel) rfl⟩
theorem pnX9_wipe : plainName yX9_wipe.cls = true := by decide
abbrev mX5_clear : MD := (yX5_clear, cX5_clear, 1, none)
theorem cdX5_clear : Cond.code yX5_clear cX5_clear 1 none ∈ tb := tbm 326 (by decide +kernel) rfl
theorem ivX5_clear : Cond.instanceMethod yX5_clear ∈ tb ∧ Cond.selects yX5_clear.cls yX5_clear yX5_clear ∈ tb := ⟨tbm 324 (by decide +kernel) rfl, tbm 325 (by decide +kernel) rfl⟩
theorem pnX5_clear : plainName yX5_clear.cls = true := by decide
abbrev mX9_fault : MD := (yX9_fault, cX9_fault, 1, (some .int))
theorem cdX9_fault : Cond.code yX9_fault cX9_fault 1 (some .int) ∈ tb := tbm 330 (by decide +kernel) rfl
theorem ivX9_fault : Cond.instanceMethod yX9_fault ∈ tb ∧ Cond.selects yX9_fault.cls yX9_fault yX9_fault ∈ tb := ⟨tbm 328 (by decide +kernel) rfl, tbm 329 (by decide +kernel) rfl⟩
theorem pnX9_fault : plainName yX9_fault.cls = true := by decide
abbrev mX5_readPacket : MD := (yX5_readPacket, cX5_readPacket, 2, (some .int))
theorem cdX5_readPacket : Cond.code yX5_readPacket cX5_readPacket 2 (some .int) ∈ tb := tbm 334 (by decide +kernel) rfl
theorem ivX5_readPacket : Cond.instanceMethod yX5_readPacket ∈ tb ∧ Cond.selects yX5_readPacket.cls yX5_readPacket yX5_readPacket ∈ tb := ⟨tbm 332 (by decide +kernel) rfl, tbm 333 (by decide +kernel) rfl⟩
theorem pnX5_readPacket : plainName yX5_readPacket.cls = true := by decide
abbrev mX4_clear : MD := (yX4_clear, cX4_clear, 1, none)
theorem cdX4_clear : Cond.code yX4_clear cX4_clear 1 none ∈ tb := tbm 338 (by decide +kernel) rfl
theorem ivX4_clear : Cond.instanceMethod yX4_clear ∈ tb ∧ Cond.selects yX4_clear.cls yX4_clear yX4_clear ∈ tb := ⟨tbm 336 (by decide +kernel) rfl, tbm 337 (by decide +kernel) rfl⟩
theorem pnX4_clear : plainName yX4_clear.cls = true := by decide
abbrev mX5_readLetters : MD := (yX5_readLetters, cX5_readLetters, 6, (some .int))
theorem cdX5_readLetters : Cond.code yX5_readLetters cX5_readLetters 6 (some .int) ∈ tb := tbm 342 (by decide +kernel) rfl
theorem ivX5_readLetters : Cond.instanceMethod yX5_readLetters ∈ tb ∧ Cond.selects yX5_readLetters.cls yX5_readLetters yX5_readLetters ∈ tb := ⟨tbm 340 (by decide +kernel) rfl, tbm 341 (by decide +kernel) rfl⟩
theorem pnX5_readLetters : plainName yX5_readLetters.cls = true := by decide
abbrev mX5_peek : MD := (yX5_peek, cX5_peek, 1, (some .int))
theorem cdX5_peek : Cond.code yX5_peek cX5_peek 1 (some .int) ∈ tb := tbm 346 (by decide +kernel) rfl
theorem ivX5_peek : Cond.instanceMethod yX5_peek ∈ tb ∧ Cond.selects yX5_peek.cls yX5_peek yX5_peek ∈ tb := ⟨tbm 344 (by decide +kernel) rfl, tbm 345 (by decide +kernel) rfl⟩
theorem pnX5_peek : plainName yX5_peek.cls = true := by decide
abbrev mX5_take : MD := (yX5_take, cX5_take, 2, (some .boolean))
theorem cdX5_take : Cond.code yX5_take cX5_take 2 (some .boolean) ∈ tb := tbm 350 (by decide +kernel) rfl
theorem ivX5_take : Cond.instanceMethod yX5_take ∈ tb ∧ Cond.selects yX5_take.cls yX5_take yX5_take ∈ tb := ⟨tbm 348 (by decide +kernel) rfl, tbm 349 (by decide +kernel) rfl⟩
theorem pnX5_take : plainName yX5_take.cls = true := by decide
abbrev mX5_readWords : MD := (yX5_readWords, cX5_readWords, 3, (some .boolean))
theorem cdX5_readWords : Cond.code yX5_readWords cX5_readWords 3 (some .boolean) ∈ tb := tbm 354 (by decide +kernel) rfl
theorem ivX5_readWords : Cond.instanceMethod yX5_readWords ∈ tb ∧ Cond.selects yX5_readWords.cls yX5_readWords yX5_readWords ∈ tb := ⟨tbm 352 (by decide +kernel) rfl, tbm 353 (by decide +kernel) rfl⟩
theorem pnX5_readWords : plainName yX5_readWords.cls = true := by decide
abbrev mX5_readWord : MD := (yX5_readWord, cX5_readWord, 4, (some .boolean))
theorem cdX5_readWord : Cond.code yX5_readWord cX5_readWord 4 (some .boolean) ∈ tb := tbm 358 (by decide +kernel) rfl
theorem ivX5_readWord : Cond.instanceMethod yX5_readWord ∈ tb ∧ Cond.selects yX5_readWord.cls yX5_readWord yX5_readWord ∈ tb := ⟨tbm 356 (by decide +kernel) rfl, tbm 357 (by decide +kernel) rfl⟩
theorem pnX5_readWord : plainName yX5_readWord.cls = true := by decide
abbrev mX9_isHops : MD := (yX9_isHops, cX9_isHops, 1, (some .boolean))
theorem cdX9_isHops : Cond.code yX9_isHops cX9_isHops 1 (some .boolean) ∈ tb := tbm 361 (by decide +kernel) rfl
theorem isX9_isHops : Cond.static yX9_isHops ∈ tb := tbm 360 (by decide +kernel) rfl
theorem pnX9_isHops : plainName yX9_isHops.cls = true := by decide
abbrev mX4_addWord : MD := (yX4_addWord, cX4_addWord, 4, none)
theorem cdX4_addWord : Cond.code yX4_addWord cX4_addWord 4 none ∈ tb := tbm 365 (by decide +kernel) rfl
theorem ivX4_addWord : Cond.instanceMethod yX4_addWord ∈ tb ∧ Cond.selects yX4_addWord.cls yX4_addWord yX4_addWord ∈ tb := ⟨tbm 363 (by decide +kernel) rfl, tbm 364 (by decide +kernel) rfl⟩
theorem pnX4_addWord : plainName yX4_addWord.cls = true := by decide
abbrev mX9_name : MD := (yX9_name, cX9_name, 6, (some .int))
theorem cdX9_name : Cond.code yX9_name cX9_name 6 (some .int) ∈ tb := tbm 369 (by decide +kernel) rfl
theorem ivX9_name : Cond.instanceMethod yX9_name ∈ tb ∧ Cond.selects yX9_name.cls yX9_name yX9_name ∈ tb := ⟨tbm 367 (by decide +kernel) rfl, tbm 368 (by decide +kernel) rfl⟩
theorem pnX9_name : plainName yX9_name.cls = true := by decide
abbrev mX9_isStation : MD := (yX9_isStation, cX9_isStation, 1, (some .boolean))
theorem cdX9_isStation : Cond.code yX9_isStation cX9_isStation 1 (some .boolean) ∈ tb := tbm 372 (by decide +kernel) rfl
theorem isX9_isStation : Cond.static yX9_isStation ∈ tb := tbm 371 (by decide +kernel) rfl
theorem pnX9_isStation : plainName yX9_isStation.cls = true := by decide
abbrev mX5_readName : MD := (yX5_readName, cX5_readName, 2, (some .int))
theorem cdX5_readName : Cond.code yX5_readName cX5_readName 2 (some .int) ∈ tb := tbm 376 (by decide +kernel) rfl
theorem ivX5_readName : Cond.instanceMethod yX5_readName ∈ tb ∧ Cond.selects yX5_readName.cls yX5_readName yX5_readName ∈ tb := ⟨tbm 374 (by decide +kernel) rfl, tbm 375 (by decide +kernel) rfl⟩
theorem pnX5_readName : plainName yX5_readName.cls = true := by decide
abbrev mX3_stationCalled : MD := (yX3_stationCalled, cX3_stationCalled, 3, (some .int))
theorem cdX3_stationCalled : Cond.code yX3_stationCalled cX3_stationCalled 3 (some .int) ∈ tb := tbm 380 (by decide +kernel) rfl
theorem ivX3_stationCalled : Cond.instanceMethod yX3_stationCalled ∈ tb ∧ Cond.selects yX3_stationCalled.cls yX3_stationCalled yX3_stationCalled ∈ tb := ⟨tbm 378 (by decide +kernel) rfl, tbm 379 (by decide +kernel) rfl⟩
theorem pnX3_stationCalled : plainName yX3_stationCalled.cls = true := by decide
abbrev mX2_add : MD := (yX2_add, cX2_add, 2, none)
theorem cdX2_add : Cond.code yX2_add cX2_add 2 none ∈ tb := tbm 384 (by decide +kernel) rfl
theorem ivX2_add : Cond.instanceMethod yX2_add ∈ tb ∧ Cond.selects yX2_add.cls yX2_add yX2_add ∈ tb := ⟨tbm 382 (by decide +kernel) rfl, tbm 383 (by decide +kernel) rfl⟩
theorem pnX2_add : plainName yX2_add.cls = true := by decide
abbrev mX9_forget : MD := (yX9_forget, cX9_forget, 6, (some .int))
theorem cdX9_forget : Cond.code yX9_forget cX9_forget 6 (some .int) ∈ tb := tbm 388 (by decide +kernel) rfl
theorem ivX9_forget : Cond.instanceMethod yX9_forget ∈ tb ∧ Cond.selects yX9_forget.cls yX9_forget yX9_forget ∈ tb := ⟨tbm 386 (by decide +kernel) rfl, tbm 387 (by decide +kernel) rfl⟩
theorem pnX9_forget : plainName yX9_forget.cls = true := by decide
abbrev mX2_clear : MD := (yX2_clear, cX2_clear, 1, none)
theorem cdX2_clear : Cond.code yX2_clear cX2_clear 1 none ∈ tb := tbm 392 (by decide +kernel) rfl
theorem ivX2_clear : Cond.instanceMethod yX2_clear ∈ tb ∧ Cond.selects yX2_clear.cls yX2_clear yX2_clear ∈ tb := ⟨tbm 390 (by decide +kernel) rfl, tbm 391 (by decide +kernel) rfl⟩
theorem pnX2_clear : plainName yX2_clear.cls = true := by decide
abbrev mX9_set : MD := (yX9_set, cX9_set, 6, (some .int))
theorem cdX9_set : Cond.code yX9_set cX9_set 6 (some .int) ∈ tb := tbm 396 (by decide +kernel) rfl
theorem ivX9_set : Cond.instanceMethod yX9_set ∈ tb ∧ Cond.selects yX9_set.cls yX9_set yX9_set ∈ tb := ⟨tbm 394 (by decide +kernel) rfl, tbm 395 (by decide +kernel) rfl⟩
theorem pnX9_set : plainName yX9_set.cls = true := by decide
abbrev mX9_isSetting : MD := (yX9_isSetting, cX9_isSetting, 2, (some .boolean))
theorem cdX9_isSetting : Cond.code yX9_isSetting cX9_isSetting 2 (some .boolean) ∈ tb := tbm 399 (by decide +kernel) rfl
theorem isX9_isSetting : Cond.static yX9_isSetting ∈ tb := tbm 398 (by decide +kernel) rfl
theorem pnX9_isSetting : plainName yX9_isSetting.cls = true := by decide
abbrev mX9_near : MD := (yX9_near, cX9_near, 4, (some .int))
theorem cdX9_near : Cond.code yX9_near cX9_near 4 (some .int) ∈ tb := tbm 403 (by decide +kernel) rfl
theorem ivX9_near : Cond.instanceMethod yX9_near ∈ tb ∧ Cond.selects yX9_near.cls yX9_near yX9_near ∈ tb := ⟨tbm 401 (by decide +kernel) rfl, tbm 402 (by decide +kernel) rfl⟩
theorem pnX9_near : plainName yX9_near.cls = true := by decide
abbrev mX3_join : MD := (yX3_join, cX3_join, 4, none)
theorem cdX3_join : Cond.code yX3_join cX3_join 4 none ∈ tb := tbm 407 (by decide +kernel) rfl
theorem ivX3_join : Cond.instanceMethod yX3_join ∈ tb ∧ Cond.selects yX3_join.cls yX3_join yX3_join ∈ tb := ⟨tbm 405 (by decide +kernel) rfl, tbm 406 (by decide +kernel) rfl⟩
theorem pnX3_join : plainName yX3_join.cls = true := by decide
abbrev mJ6_bitCount_0f7a4 : MD := (yJ6_bitCount_0f7a4, cJ6_bitCount_0f7a4, 1, (some .int))
theorem cdJ6_bitCount_0f7a4 : Cond.code yJ6_bitCount_0f7a4 cJ6_bitCount_0f7a4 1 (some .int) ∈ tb := tbm 411 (by decide +kernel) rfl
theorem isJ6_bitCount_0f7a4 : Cond.static yJ6_bitCount_0f7a4 ∈ tb := tbm 410 (by decide +kernel) rfl
theorem pnJ6_bitCount_0f7a4 : plainName yJ6_bitCount_0f7a4.cls = true := by decide
abbrev mX9_send : MD := (yX9_send, cX9_send, 3, (some .int))
theorem cdX9_send : Cond.code yX9_send cX9_send 3 (some .int) ∈ tb := tbm 418 (by decide +kernel) rfl
theorem ivX9_send : Cond.instanceMethod yX9_send ∈ tb ∧ Cond.selects yX9_send.cls yX9_send yX9_send ∈ tb := ⟨tbm 416 (by decide +kernel) rfl, tbm 417 (by decide +kernel) rfl⟩
theorem pnX9_send : plainName yX9_send.cls = true := by decide
abbrev mX6_originate : MD := (yX6_originate, cX6_originate, 3, none)
theorem cdX6_originate : Cond.code yX6_originate cX6_originate 3 none ∈ tb := tbm 422 (by decide +kernel) rfl
theorem ivX6_originate : Cond.instanceMethod yX6_originate ∈ tb ∧ Cond.selects yX6_originate.cls yX6_originate yX6_originate ∈ tb := ⟨tbm 420 (by decide +kernel) rfl, tbm 421 (by decide +kernel) rfl⟩
theorem pnX6_originate : plainName yX6_originate.cls = true := by decide
abbrev mX0_add : MD := (yX0_add, cX0_add, 3, (some .boolean))
theorem cdX0_add : Cond.code yX0_add cX0_add 3 (some .boolean) ∈ tb := tbm 426 (by decide +kernel) rfl
theorem ivX0_add : Cond.instanceMethod yX0_add ∈ tb ∧ Cond.selects yX0_add.cls yX0_add yX0_add ∈ tb := ⟨tbm 424 (by decide +kernel) rfl, tbm 425 (by decide +kernel) rfl⟩
theorem pnX0_add : plainName yX0_add.cls = true := by decide
abbrev mX4_copyFrom : MD := (yX4_copyFrom, cX4_copyFrom, 2, none)
theorem cdX4_copyFrom : Cond.code yX4_copyFrom cX4_copyFrom 2 none ∈ tb := tbm 430 (by decide +kernel) rfl
theorem ivX4_copyFrom : Cond.instanceMethod yX4_copyFrom ∈ tb ∧ Cond.selects yX4_copyFrom.cls yX4_copyFrom yX4_copyFrom ∈ tb := ⟨tbm 428 (by decide +kernel) rfl, tbm 429 (by decide +kernel) rfl⟩
theorem pnX4_copyFrom : plainName yX4_copyFrom.cls = true := by decide
abbrev mX1_placeOf : MD := (yX1_placeOf, cX1_placeOf, 3, (some .int))
theorem cdX1_placeOf : Cond.code yX1_placeOf cX1_placeOf 3 (some .int) ∈ tb := tbm 437 (by decide +kernel) rfl
theorem ivX1_placeOf : Cond.instanceMethod yX1_placeOf ∈ tb ∧ Cond.selects yX1_placeOf.cls yX1_placeOf yX1_placeOf ∈ tb := ⟨tbm 435 (by decide +kernel) rfl, tbm 436 (by decide +kernel) rfl⟩
theorem pnX1_placeOf : plainName yX1_placeOf.cls = true := by decide
abbrev mX1_removeAt : MD := (yX1_removeAt, cX1_removeAt, 3, none)
theorem cdX1_removeAt : Cond.code yX1_removeAt cX1_removeAt 3 none ∈ tb := tbm 441 (by decide +kernel) rfl
theorem ivX1_removeAt : Cond.instanceMethod yX1_removeAt ∈ tb ∧ Cond.selects yX1_removeAt.cls yX1_removeAt yX1_removeAt ∈ tb := ⟨tbm 439 (by decide +kernel) rfl, tbm 440 (by decide +kernel) rfl⟩
theorem pnX1_removeAt : plainName yX1_removeAt.cls = true := by decide
abbrev mX1_move : MD := (yX1_move, cX1_move, 3, none)
theorem cdX1_move : Cond.code yX1_move cX1_move 3 none ∈ tb := tbm 445 (by decide +kernel) rfl
theorem ivX1_move : Cond.instanceMethod yX1_move ∈ tb ∧ Cond.selects yX1_move.cls yX1_move yX1_move ∈ tb := ⟨tbm 443 (by decide +kernel) rfl, tbm 444 (by decide +kernel) rfl⟩
theorem pnX1_move : plainName yX1_move.cls = true := by decide
abbrev mX1_add : MD := (yX1_add, cX1_add, 3, none)
theorem cdX1_add : Cond.code yX1_add cX1_add 3 none ∈ tb := tbm 449 (by decide +kernel) rfl
theorem ivX1_add : Cond.instanceMethod yX1_add ∈ tb ∧ Cond.selects yX1_add.cls yX1_add yX1_add ∈ tb := ⟨tbm 447 (by decide +kernel) rfl, tbm 448 (by decide +kernel) rfl⟩
theorem pnX1_add : plainName yX1_add.cls = true := by decide
abbrev mX9_run : MD := (yX9_run, cX9_run, 3, (some .int))
theorem cdX9_run : Cond.code yX9_run cX9_run 3 (some .int) ∈ tb := tbm 454 (by decide +kernel) rfl
theorem ivX9_run : Cond.instanceMethod yX9_run ∈ tb ∧ Cond.selects yX9_run.cls yX9_run yX9_run ∈ tb := ⟨tbm 452 (by decide +kernel) rfl, tbm 453 (by decide +kernel) rfl⟩
theorem pnX9_run : plainName yX9_run.cls = true := by decide
abbrev mX3_passTick : MD := (yX3_passTick, cX3_passTick, 5, none)
theorem cdX3_passTick : Cond.code yX3_passTick cX3_passTick 5 none ∈ tb := tbm 458 (by decide +kernel) rfl
theorem ivX3_passTick : Cond.instanceMethod yX3_passTick ∈ tb ∧ Cond.selects yX3_passTick.cls yX3_passTick yX3_passTick ∈ tb := ⟨tbm 456 (by decide +kernel) rfl, tbm 457 (by decide +kernel) rfl⟩
theorem pnX3_passTick : plainName yX3_passTick.cls = true := by decide
abbrev mX6_startSending : MD := (yX6_startSending, cX6_startSending, 2, (some .boolean))
theorem cdX6_startSending : Cond.code yX6_startSending cX6_startSending 2 (some .boolean) ∈ tb := tbm 462 (by decide +kernel) rfl
theorem ivX6_startSending : Cond.instanceMethod yX6_startSending ∈ tb ∧ Cond.selects yX6_startSending.cls yX6_startSending yX6_startSending ∈ tb := ⟨tbm 460 (by decide +kernel) rfl, tbm 461 (by decide +kernel) rfl⟩
theorem pnX6_startSending : plainName yX6_startSending.cls = true := by decide
abbrev mX0_takeDue : MD := (yX0_takeDue, cX0_takeDue, 4, (some .boolean))
theorem cdX0_takeDue : Cond.code yX0_takeDue cX0_takeDue 4 (some .boolean) ∈ tb := tbm 466 (by decide +kernel) rfl
theorem ivX0_takeDue : Cond.instanceMethod yX0_takeDue ∈ tb ∧ Cond.selects yX0_takeDue.cls yX0_takeDue yX0_takeDue ∈ tb := ⟨tbm 464 (by decide +kernel) rfl, tbm 465 (by decide +kernel) rfl⟩
theorem pnX0_takeDue : plainName yX0_takeDue.cls = true := by decide
abbrev mX0_removeAt : MD := (yX0_removeAt, cX0_removeAt, 4, none)
theorem cdX0_removeAt : Cond.code yX0_removeAt cX0_removeAt 4 none ∈ tb := tbm 470 (by decide +kernel) rfl
theorem ivX0_removeAt : Cond.instanceMethod yX0_removeAt ∈ tb ∧ Cond.selects yX0_removeAt.cls yX0_removeAt yX0_removeAt ∈ tb := ⟨tbm 468 (by decide +kernel) rfl, tbm 469 (by decide +kernel) rfl⟩
theorem pnX0_removeAt : plainName yX0_removeAt.cls = true := by decide
abbrev mX9_isIn : MD := (yX9_isIn, cX9_isIn, 2, (some .boolean))
theorem cdX9_isIn : Cond.code yX9_isIn cX9_isIn 2 (some .boolean) ∈ tb := tbm 473 (by decide +kernel) rfl
theorem isX9_isIn : Cond.static yX9_isIn ∈ tb := tbm 472 (by decide +kernel) rfl
theorem pnX9_isIn : plainName yX9_isIn.cls = true := by decide
abbrev mX3_firstIn : MD := (yX3_firstIn, cX3_firstIn, 2, (some .int))
theorem cdX3_firstIn : Cond.code yX3_firstIn cX3_firstIn 2 (some .int) ∈ tb := tbm 476 (by decide +kernel) rfl
theorem isX3_firstIn : Cond.static yX3_firstIn ∈ tb := tbm 475 (by decide +kernel) rfl
theorem pnX3_firstIn : plainName yX3_firstIn.cls = true := by decide
abbrev mX6_hear : MD := (yX6_hear, cX6_hear, 4, none)
theorem cdX6_hear : Cond.code yX6_hear cX6_hear 4 none ∈ tb := tbm 481 (by decide +kernel) rfl
theorem ivX6_hear : Cond.instanceMethod yX6_hear ∈ tb ∧ Cond.selects yX6_hear.cls yX6_hear yX6_hear ∈ tb := ⟨tbm 479 (by decide +kernel) rfl, tbm 480 (by decide +kernel) rfl⟩
theorem pnX6_hear : plainName yX6_hear.cls = true := by decide
abbrev mX1_dropOld : MD := (yX1_dropOld, cX1_dropOld, 5, none)
theorem cdX1_dropOld : Cond.code yX1_dropOld cX1_dropOld 5 none ∈ tb := tbm 486 (by decide +kernel) rfl
theorem ivX1_dropOld : Cond.instanceMethod yX1_dropOld ∈ tb ∧ Cond.selects yX1_dropOld.cls yX1_dropOld yX1_dropOld ∈ tb := ⟨tbm 484 (by decide +kernel) rfl, tbm 485 (by decide +kernel) rfl⟩
theorem pnX1_dropOld : plainName yX1_dropOld.cls = true := by decide
abbrev mX4_wasSentBy : MD := (yX4_wasSentBy, cX4_wasSentBy, 4, (some .boolean))
theorem cdX4_wasSentBy : Cond.code yX4_wasSentBy cX4_wasSentBy 4 (some .boolean) ∈ tb := tbm 490 (by decide +kernel) rfl
theorem ivX4_wasSentBy : Cond.instanceMethod yX4_wasSentBy ∈ tb ∧ Cond.selects yX4_wasSentBy.cls yX4_wasSentBy yX4_wasSentBy ∈ tb := ⟨tbm 488 (by decide +kernel) rfl, tbm 489 (by decide +kernel) rfl⟩
theorem pnX4_wasSentBy : plainName yX4_wasSentBy.cls = true := by decide
abbrev mX4_firstUnspent : MD := (yX4_firstUnspent, cX4_firstUnspent, 2, (some .int))
theorem cdX4_firstUnspent : Cond.code yX4_firstUnspent cX4_firstUnspent 2 (some .int) ∈ tb := tbm 494 (by decide +kernel) rfl
theorem ivX4_firstUnspent : Cond.instanceMethod yX4_firstUnspent ∈ tb ∧ Cond.selects yX4_firstUnspent.cls yX4_firstUnspent yX4_firstUnspent ∈ tb := ⟨tbm 492 (by decide +kernel) rfl, tbm 493 (by decide +kernel) rfl⟩
theorem pnX4_firstUnspent : plainName yX4_firstUnspent.cls = true := by decide
abbrev mX6_changeIfMeant : MD := (yX6_changeIfMeant, cX6_changeIfMeant, 6, (some .boolean))
theorem cdX6_changeIfMeant : Cond.code yX6_changeIfMeant cX6_changeIfMeant 6 (some .boolean) ∈ tb := tbm 498 (by decide +kernel) rfl
theorem ivX6_changeIfMeant : Cond.instanceMethod yX6_changeIfMeant ∈ tb ∧ Cond.selects yX6_changeIfMeant.cls yX6_changeIfMeant yX6_changeIfMeant ∈ tb := ⟨tbm 496 (by decide +kernel) rfl, tbm 497 (by decide +kernel) rfl⟩
theorem pnX6_changeIfMeant : plainName yX6_changeIfMeant.cls = true := by decide
abbrev mX4_nameAt : MD := (yX4_nameAt, cX4_nameAt, 2, (some .int))
theorem cdX4_nameAt : Cond.code yX4_nameAt cX4_nameAt 2 (some .int) ∈ tb := tbm 502 (by decide +kernel) rfl
theorem ivX4_nameAt : Cond.instanceMethod yX4_nameAt ∈ tb ∧ Cond.selects yX4_nameAt.cls yX4_nameAt yX4_nameAt ∈ tb := ⟨tbm 500 (by decide +kernel) rfl, tbm 501 (by decide +kernel) rfl⟩
theorem pnX4_nameAt : plainName yX4_nameAt.cls = true := by decide
abbrev mX4_isPlace : MD := (yX4_isPlace, cX4_isPlace, 2, (some .boolean))
theorem cdX4_isPlace : Cond.code yX4_isPlace cX4_isPlace 2 (some .boolean) ∈ tb := tbm 506 (by decide +kernel) rfl
theorem ivX4_isPlace : Cond.instanceMethod yX4_isPlace ∈ tb ∧ Cond.selects yX4_isPlace.cls yX4_isPlace yX4_isPlace ∈ tb := ⟨tbm 504 (by decide +kernel) rfl, tbm 505 (by decide +kernel) rfl⟩
theorem pnX4_isPlace : plainName yX4_isPlace.cls = true := by decide
abbrev mX4_hopsAt : MD := (yX4_hopsAt, cX4_hopsAt, 2, (some .int))
theorem cdX4_hopsAt : Cond.code yX4_hopsAt cX4_hopsAt 2 (some .int) ∈ tb := tbm 510 (by decide +kernel) rfl
theorem ivX4_hopsAt : Cond.instanceMethod yX4_hopsAt ∈ tb ∧ Cond.selects yX4_hopsAt.cls yX4_hopsAt yX4_hopsAt ∈ tb := ⟨tbm 508 (by decide +kernel) rfl, tbm 509 (by decide +kernel) rfl⟩
theorem pnX4_hopsAt : plainName yX4_hopsAt.cls = true := by decide
abbrev mX2_has : MD := (yX2_has, cX2_has, 3, (some .boolean))
theorem cdX2_has : Cond.code yX2_has cX2_has 3 (some .boolean) ∈ tb := tbm 514 (by decide +kernel) rfl
theorem ivX2_has : Cond.instanceMethod yX2_has ∈ tb ∧ Cond.selects yX2_has.cls yX2_has yX2_has ∈ tb := ⟨tbm 512 (by decide +kernel) rfl, tbm 513 (by decide +kernel) rfl⟩
theorem pnX2_has : plainName yX2_has.cls = true := by decide
abbrev mX4_spend : MD := (yX4_spend, cX4_spend, 3, none)
theorem cdX4_spend : Cond.code yX4_spend cX4_spend 3 none ∈ tb := tbm 518 (by decide +kernel) rfl
theorem ivX4_spend : Cond.instanceMethod yX4_spend ∈ tb ∧ Cond.selects yX4_spend.cls yX4_spend yX4_spend ∈ tb := ⟨tbm 516 (by decide +kernel) rfl, tbm 517 (by decide +kernel) rfl⟩
theorem pnX4_spend : plainName yX4_spend.cls = true := by decide
abbrev mJ9_min_7cf53 : MD := (yJ9_min_7cf53, cJ9_min_7cf53, 2, (some .int))
theorem cdJ9_min_7cf53 : Cond.code yJ9_min_7cf53 cJ9_min_7cf53 2 (some .int) ∈ tb := tbm 521 (by decide +kernel) rfl
theorem isJ9_min_7cf53 : Cond.static yJ9_min_7cf53 ∈ tb := tbm 520 (by decide +kernel) rfl
abbrev mX4_setHops : MD := (yX4_setHops, cX4_setHops, 3, none)
theorem cdX4_setHops : Cond.code yX4_setHops cX4_setHops 3 none ∈ tb := tbm 525 (by decide +kernel) rfl
theorem ivX4_setHops : Cond.instanceMethod yX4_setHops ∈ tb ∧ Cond.selects yX4_setHops.cls yX4_setHops yX4_setHops ∈ tb := ⟨tbm 523 (by decide +kernel) rfl, tbm 524 (by decide +kernel) rfl⟩
theorem pnX4_setHops : plainName yX4_setHops.cls = true := by decide
abbrev mX4_putAhead : MD := (yX4_putAhead, cX4_putAhead, 4, none)
theorem cdX4_putAhead : Cond.code yX4_putAhead cX4_putAhead 4 none ∈ tb := tbm 529 (by decide +kernel) rfl
theorem ivX4_putAhead : Cond.instanceMethod yX4_putAhead ∈ tb ∧ Cond.selects yX4_putAhead.cls yX4_putAhead yX4_putAhead ∈ tb := ⟨tbm 527 (by decide +kernel) rfl, tbm 528 (by decide +kernel) rfl⟩
theorem pnX4_putAhead : plainName yX4_putAhead.cls = true := by decide
abbrev mX3_keptByAll : MD := (yX3_keptByAll, cX3_keptByAll, 3, (some .int))
theorem cdX3_keptByAll : Cond.code yX3_keptByAll cX3_keptByAll 3 (some .int) ∈ tb := tbm 533 (by decide +kernel) rfl
theorem ivX3_keptByAll : Cond.instanceMethod yX3_keptByAll ∈ tb ∧ Cond.selects yX3_keptByAll.cls yX3_keptByAll yX3_keptByAll ∈ tb := ⟨tbm 531 (by decide +kernel) rfl, tbm 532 (by decide +kernel) rfl⟩
theorem pnX3_keptByAll : plainName yX3_keptByAll.cls = true := by decide
abbrev mX9_heard : MD := (yX9_heard, cX9_heard, 4, (some .int))
theorem cdX9_heard : Cond.code yX9_heard cX9_heard 4 (some .int) ∈ tb := tbm 537 (by decide +kernel) rfl
theorem ivX9_heard : Cond.instanceMethod yX9_heard ∈ tb ∧ Cond.selects yX9_heard.cls yX9_heard yX9_heard ∈ tb := ⟨tbm 535 (by decide +kernel) rfl, tbm 536 (by decide +kernel) rfl⟩
theorem pnX9_heard : plainName yX9_heard.cls = true := by decide
abbrev mX9_written : MD := (yX9_written, cX9_written, 4, (some .int))
theorem cdX9_written : Cond.code yX9_written cX9_written 4 (some .int) ∈ tb := tbm 541 (by decide +kernel) rfl
theorem ivX9_written : Cond.instanceMethod yX9_written ∈ tb ∧ Cond.selects yX9_written.cls yX9_written yX9_written ∈ tb := ⟨tbm 539 (by decide +kernel) rfl, tbm 540 (by decide +kernel) rfl⟩
theorem pnX9_written : plainName yX9_written.cls = true := by decide
abbrev mX6_hasHeard : MD := (yX6_hasHeard, cX6_hasHeard, 1, (some .boolean))
theorem cdX6_hasHeard : Cond.code yX6_hasHeard cX6_hasHeard 1 (some .boolean) ∈ tb := tbm 545 (by decide +kernel) rfl
theorem ivX6_hasHeard : Cond.instanceMethod yX6_hasHeard ∈ tb ∧ Cond.selects yX6_hasHeard.cls yX6_hasHeard yX6_hasHeard ∈ tb := ⟨tbm 543 (by decide +kernel) rfl, tbm 544 (by decide +kernel) rfl⟩
theorem pnX6_hasHeard : plainName yX6_hasHeard.cls = true := by decide
abbrev mX8_write : MD := (yX8_write, cX8_write, 3, none)
theorem cdX8_write : Cond.code yX8_write cX8_write 3 none ∈ tb := tbm 549 (by decide +kernel) rfl
theorem ivX8_write : Cond.instanceMethod yX8_write ∈ tb ∧ Cond.selects yX8_write.cls yX8_write yX8_write ∈ tb := ⟨tbm 547 (by decide +kernel) rfl, tbm 548 (by decide +kernel) rfl⟩
theorem pnX8_write : plainName yX8_write.cls = true := by decide
abbrev mX8_putLetters : MD := (yX8_putLetters, cX8_putLetters, 5, none)
theorem cdX8_putLetters : Cond.code yX8_putLetters cX8_putLetters 5 none ∈ tb := tbm 553 (by decide +kernel) rfl
theorem ivX8_putLetters : Cond.instanceMethod yX8_putLetters ∈ tb ∧ Cond.selects yX8_putLetters.cls yX8_putLetters yX8_putLetters ∈ tb := ⟨tbm 551 (by decide +kernel) rfl, tbm 552 (by decide +kernel) rfl⟩
theorem pnX8_putLetters : plainName yX8_putLetters.cls = true := by decide
abbrev mX8_put : MD := (yX8_put, cX8_put, 2, none)
theorem cdX8_put : Cond.code yX8_put cX8_put 2 none ∈ tb := tbm 557 (by decide +kernel) rfl
theorem ivX8_put : Cond.instanceMethod yX8_put ∈ tb ∧ Cond.selects yX8_put.cls yX8_put yX8_put ∈ tb := ⟨tbm 555 (by decide +kernel) rfl, tbm 556 (by decide +kernel) rfl⟩
theorem pnX8_put : plainName yX8_put.cls = true := by decide
abbrev mX8_putWord : MD := (yX8_putWord, cX8_putWord, 3, none)
theorem cdX8_putWord : Cond.code yX8_putWord cX8_putWord 3 none ∈ tb := tbm 561 (by decide +kernel) rfl
theorem ivX8_putWord : Cond.instanceMethod yX8_putWord ∈ tb ∧ Cond.selects yX8_putWord.cls yX8_putWord yX8_putWord ∈ tb := ⟨tbm 559 (by decide +kernel) rfl, tbm 560 (by decide +kernel) rfl⟩
theorem pnX8_putWord : plainName yX8_putWord.cls = true := by decide
abbrev mX4_isSpentAt : MD := (yX4_isSpentAt, cX4_isSpentAt, 2, (some .boolean))
theorem cdX4_isSpentAt : Cond.code yX4_isSpentAt cX4_isSpentAt 2 (some .boolean) ∈ tb := tbm 567 (by decide +kernel) rfl
theorem ivX4_isSpentAt : Cond.instanceMethod yX4_isSpentAt ∈ tb ∧ Cond.selects yX4_isSpentAt.cls yX4_isSpentAt yX4_isSpentAt ∈ tb := ⟨tbm 565 (by decide +kernel) rfl, tbm 566 (by decide +kernel) rfl⟩
theorem pnX4_isSpentAt : plainName yX4_isSpentAt.cls = true := by decide
abbrev mX8_signAt : MD := (yX8_signAt, cX8_signAt, 2, (some .int))
theorem cdX8_signAt : Cond.code yX8_signAt cX8_signAt 2 (some .int) ∈ tb := tbm 571 (by decide +kernel) rfl
theorem ivX8_signAt : Cond.instanceMethod yX8_signAt ∈ tb ∧ Cond.selects yX8_signAt.cls yX8_signAt yX8_signAt ∈ tb := ⟨tbm 569 (by decide +kernel) rfl, tbm 570 (by decide +kernel) rfl⟩
theorem pnX8_signAt : plainName yX8_signAt.cls = true := by decide
abbrev mX9_last : MD := (yX9_last, cX9_last, 6, (some .int))
theorem cdX9_last : Cond.code yX9_last cX9_last 6 (some .int) ∈ tb := tbm 575 (by decide +kernel) rfl
theorem ivX9_last : Cond.instanceMethod yX9_last ∈ tb ∧ Cond.selects yX9_last.cls yX9_last yX9_last ∈ tb := ⟨tbm 573 (by decide +kernel) rfl, tbm 574 (by decide +kernel) rfl⟩
theorem pnX9_last : plainName yX9_last.cls = true := by decide
abbrev mX4_spentWords : MD := (yX4_spentWords, cX4_spentWords, 3, (some .int))
theorem cdX4_spentWords : Cond.code yX4_spentWords cX4_spentWords 3 (some .int) ∈ tb := tbm 579 (by decide +kernel) rfl
theorem ivX4_spentWords : Cond.instanceMethod yX4_spentWords ∈ tb ∧ Cond.selects yX4_spentWords.cls yX4_spentWords yX4_spentWords ∈ tb := ⟨tbm 577 (by decide +kernel) rfl, tbm 578 (by decide +kernel) rfl⟩
theorem pnX4_spentWords : plainName yX4_spentWords.cls = true := by decide
abbrev mX9_trail : MD := (yX9_trail, cX9_trail, 5, (some .int))
theorem cdX9_trail : Cond.code yX9_trail cX9_trail 5 (some .int) ∈ tb := tbm 585 (by decide +kernel) rfl
theorem ivX9_trail : Cond.instanceMethod yX9_trail ∈ tb ∧ Cond.selects yX9_trail.cls yX9_trail yX9_trail ∈ tb := ⟨tbm 583 (by decide +kernel) rfl, tbm 584 (by decide +kernel) rfl⟩
theorem pnX9_trail : plainName yX9_trail.cls = true := by decide
abbrev mX4_placeOfSpent : MD := (yX4_placeOfSpent, cX4_placeOfSpent, 4, (some .int))
theorem cdX4_placeOfSpent : Cond.code yX4_placeOfSpent cX4_placeOfSpent 4 (some .int) ∈ tb := tbm 589 (by decide +kernel) rfl
theorem ivX4_placeOfSpent : Cond.instanceMethod yX4_placeOfSpent ∈ tb ∧ Cond.selects yX4_placeOfSpent.cls yX4_placeOfSpent yX4_placeOfSpent ∈ tb := ⟨tbm 587 (by decide +kernel) rfl, tbm 588 (by decide +kernel) rfl⟩
theorem pnX4_placeOfSpent : plainName yX4_placeOfSpent.cls = true := by decide
abbrev mX9_reach : MD := (yX9_reach, cX9_reach, 5, (some .int))
theorem cdX9_reach : Cond.code yX9_reach cX9_reach 5 (some .int) ∈ tb := tbm 594 (by decide +kernel) rfl
theorem ivX9_reach : Cond.instanceMethod yX9_reach ∈ tb ∧ Cond.selects yX9_reach.cls yX9_reach yX9_reach ∈ tb := ⟨tbm 592 (by decide +kernel) rfl, tbm 593 (by decide +kernel) rfl⟩
theorem pnX9_reach : plainName yX9_reach.cls = true := by decide
abbrev mX7_prepare : MD := (yX7_prepare, cX7_prepare, 2, none)
theorem cdX7_prepare : Cond.code yX7_prepare cX7_prepare 2 none ∈ tb := tbm 599 (by decide +kernel) rfl
theorem ivX7_prepare : Cond.instanceMethod yX7_prepare ∈ tb ∧ Cond.selects yX7_prepare.cls yX7_prepare yX7_prepare ∈ tb := ⟨tbm 597 (by decide +kernel) rfl, tbm 598 (by decide +kernel) rfl⟩
theorem pnX7_prepare : plainName yX7_prepare.cls = true := by decide
abbrev mX3_beginLike : MD := (yX3_beginLike, cX3_beginLike, 3, none)
theorem cdX3_beginLike : Cond.code yX3_beginLike cX3_beginLike 3 none ∈ tb := tbm 603 (by decide +kernel) rfl
theorem ivX3_beginLike : Cond.instanceMethod yX3_beginLike ∈ tb ∧ Cond.selects yX3_beginLike.cls yX3_beginLike yX3_beginLike ∈ tb := ⟨tbm 601 (by decide +kernel) rfl, tbm 602 (by decide +kernel) rfl⟩
theorem pnX3_beginLike : plainName yX3_beginLike.cls = true := by decide
abbrev mX6_beginLike : MD := (yX6_beginLike, cX6_beginLike, 3, none)
theorem cdX6_beginLike : Cond.code yX6_beginLike cX6_beginLike 3 none ∈ tb := tbm 607 (by decide +kernel) rfl
theorem ivX6_beginLike : Cond.instanceMethod yX6_beginLike ∈ tb ∧ Cond.selects yX6_beginLike.cls yX6_beginLike yX6_beginLike ∈ tb := ⟨tbm 605 (by decide +kernel) rfl, tbm 606 (by decide +kernel) rfl⟩
theorem pnX6_beginLike : plainName yX6_beginLike.cls = true := by decide
abbrev mX6_copySettings : MD := (yX6_copySettings, cX6_copySettings, 2, none)
theorem cdX6_copySettings : Cond.code yX6_copySettings cX6_copySettings 2 none ∈ tb := tbm 611 (by decide +kernel) rfl
theorem ivX6_copySettings : Cond.instanceMethod yX6_copySettings ∈ tb ∧ Cond.selects yX6_copySettings.cls yX6_copySettings yX6_copySettings ∈ tb := ⟨tbm 609 (by decide +kernel) rfl, tbm 610 (by decide +kernel) rfl⟩
theorem pnX6_copySettings : plainName yX6_copySettings.cls = true := by decide
abbrev mX2_copyFrom : MD := (yX2_copyFrom, cX2_copyFrom, 2, none)
theorem cdX2_copyFrom : Cond.code yX2_copyFrom cX2_copyFrom 2 none ∈ tb := tbm 615 (by decide +kernel) rfl
theorem ivX2_copyFrom : Cond.instanceMethod yX2_copyFrom ∈ tb ∧ Cond.selects yX2_copyFrom.cls yX2_copyFrom yX2_copyFrom ∈ tb := ⟨tbm 613 (by decide +kernel) rfl, tbm 614 (by decide +kernel) rfl⟩
theorem pnX2_copyFrom : plainName yX2_copyFrom.cls = true := by decide
abbrev mX0_clear : MD := (yX0_clear, cX0_clear, 1, none)
theorem cdX0_clear : Cond.code yX0_clear cX0_clear 1 none ∈ tb := tbm 620 (by decide +kernel) rfl
theorem ivX0_clear : Cond.instanceMethod yX0_clear ∈ tb ∧ Cond.selects yX0_clear.cls yX0_clear yX0_clear ∈ tb := ⟨tbm 618 (by decide +kernel) rfl, tbm 619 (by decide +kernel) rfl⟩
theorem pnX0_clear : plainName yX0_clear.cls = true := by decide
abbrev mX1_clear : MD := (yX1_clear, cX1_clear, 1, none)
theorem cdX1_clear : Cond.code yX1_clear cX1_clear 1 none ∈ tb := tbm 624 (by decide +kernel) rfl
theorem ivX1_clear : Cond.instanceMethod yX1_clear ∈ tb ∧ Cond.selects yX1_clear.cls yX1_clear yX1_clear ∈ tb := ⟨tbm 622 (by decide +kernel) rfl, tbm 623 (by decide +kernel) rfl⟩
theorem pnX1_clear : plainName yX1_clear.cls = true := by decide
abbrev mX7_spread : MD := (yX7_spread, cX7_spread, 7, none)
theorem cdX7_spread : Cond.code yX7_spread cX7_spread 7 none ∈ tb := tbm 628 (by decide +kernel) rfl
theorem ivX7_spread : Cond.instanceMethod yX7_spread ∈ tb ∧ Cond.selects yX7_spread.cls yX7_spread yX7_spread ∈ tb := ⟨tbm 626 (by decide +kernel) rfl, tbm 627 (by decide +kernel) rfl⟩
theorem pnX7_spread : plainName yX7_spread.cls = true := by decide
abbrev mX3_hearers : MD := (yX3_hearers, cX3_hearers, 3, (some .int))
theorem cdX3_hearers : Cond.code yX3_hearers cX3_hearers 3 (some .int) ∈ tb := tbm 639 (by decide +kernel) rfl
theorem ivX3_hearers : Cond.instanceMethod yX3_hearers ∈ tb ∧ Cond.selects yX3_hearers.cls yX3_hearers yX3_hearers ∈ tb := ⟨tbm 637 (by decide +kernel) rfl, tbm 638 (by decide +kernel) rfl⟩
theorem pnX3_hearers : plainName yX3_hearers.cls = true := by decide
abbrev mX3_tallyOfAll : MD := (yX3_tallyOfAll, cX3_tallyOfAll, 4, (some .int))
theorem cdX3_tallyOfAll : Cond.code yX3_tallyOfAll cX3_tallyOfAll 4 (some .int) ∈ tb := tbm 644 (by decide +kernel) rfl
theorem ivX3_tallyOfAll : Cond.instanceMethod yX3_tallyOfAll ∈ tb ∧ Cond.selects yX3_tallyOfAll.cls yX3_tallyOfAll yX3_tallyOfAll ∈ tb := ⟨tbm 642 (by decide +kernel) rfl, tbm 643 (by decide +kernel) rfl⟩
theorem pnX3_tallyOfAll : plainName yX3_tallyOfAll.cls = true := by decide
abbrev mX9_fewest : MD := (yX9_fewest, cX9_fewest, 5, (some .int))
theorem cdX9_fewest : Cond.code yX9_fewest cX9_fewest 5 (some .int) ∈ tb := tbm 648 (by decide +kernel) rfl
theorem ivX9_fewest : Cond.instanceMethod yX9_fewest ∈ tb ∧ Cond.selects yX9_fewest.cls yX9_fewest yX9_fewest ∈ tb := ⟨tbm 646 (by decide +kernel) rfl, tbm 647 (by decide +kernel) rfl⟩
theorem pnX9_fewest : plainName yX9_fewest.cls = true := by decide
abbrev mX9_bridges : MD := (yX9_bridges, cX9_bridges, 7, (some .int))
theorem cdX9_bridges : Cond.code yX9_bridges cX9_bridges 7 (some .int) ∈ tb := tbm 653 (by decide +kernel) rfl
theorem ivX9_bridges : Cond.instanceMethod yX9_bridges ∈ tb ∧ Cond.selects yX9_bridges.cls yX9_bridges yX9_bridges ∈ tb := ⟨tbm 651 (by decide +kernel) rfl, tbm 652 (by decide +kernel) rfl⟩
theorem pnX9_bridges : plainName yX9_bridges.cls = true := by decide
abbrev mX3_isolate : MD := (yX3_isolate, cX3_isolate, 3, none)
theorem cdX3_isolate : Cond.code yX3_isolate cX3_isolate 3 none ∈ tb := tbm 657 (by decide +kernel) rfl
theorem ivX3_isolate : Cond.instanceMethod yX3_isolate ∈ tb ∧ Cond.selects yX3_isolate.cls yX3_isolate yX3_isolate ∈ tb := ⟨tbm 655 (by decide +kernel) rfl, tbm 656 (by decide +kernel) rfl⟩
theorem pnX3_isolate : plainName yX3_isolate.cls = true := by decide
abbrev mX9_image : MD := (yX9_image, cX9_image, 2, (some .int))
theorem cdX9_image : Cond.code yX9_image cX9_image 2 (some .int) ∈ tb := tbm 661 (by decide +kernel) rfl
theorem ivX9_image : Cond.instanceMethod yX9_image ∈ tb ∧ Cond.selects yX9_image.cls yX9_image yX9_image ∈ tb := ⟨tbm 659 (by decide +kernel) rfl, tbm 660 (by decide +kernel) rfl⟩
theorem pnX9_image : plainName yX9_image.cls = true := by decide
abbrev mX3_copyFrom : MD := (yX3_copyFrom, cX3_copyFrom, 3, none)
theorem cdX3_copyFrom : Cond.code yX3_copyFrom cX3_copyFrom 3 none ∈ tb := tbm 665 (by decide +kernel) rfl
theorem ivX3_copyFrom : Cond.instanceMethod yX3_copyFrom ∈ tb ∧ Cond.selects yX3_copyFrom.cls yX3_copyFrom yX3_copyFrom ∈ tb := ⟨tbm 663 (by decide +kernel) rfl, tbm 664 (by decide +kernel) rfl⟩
theorem pnX3_copyFrom : plainName yX3_copyFrom.cls = true := by decide
abbrev mX6_copyFrom : MD := (yX6_copyFrom, cX6_copyFrom, 2, none)
theorem cdX6_copyFrom : Cond.code yX6_copyFrom cX6_copyFrom 2 none ∈ tb := tbm 669 (by decide +kernel) rfl
theorem ivX6_copyFrom : Cond.instanceMethod yX6_copyFrom ∈ tb ∧ Cond.selects yX6_copyFrom.cls yX6_copyFrom yX6_copyFrom ∈ tb := ⟨tbm 667 (by decide +kernel) rfl, tbm 668 (by decide +kernel) rfl⟩
theorem pnX6_copyFrom : plainName yX6_copyFrom.cls = true := by decide
abbrev mX0_copyFrom : MD := (yX0_copyFrom, cX0_copyFrom, 3, none)
theorem cdX0_copyFrom : Cond.code yX0_copyFrom cX0_copyFrom 3 none ∈ tb := tbm 674 (by decide +kernel) rfl
theorem ivX0_copyFrom : Cond.instanceMethod yX0_copyFrom ∈ tb ∧ Cond.selects yX0_copyFrom.cls yX0_copyFrom yX0_copyFrom ∈ tb := ⟨tbm 672 (by decide +kernel) rfl, tbm 673 (by decide +kernel) rfl⟩
theorem pnX0_copyFrom : plainName yX0_copyFrom.cls = true := by decide
abbrev mX1_copyFrom : MD := (yX1_copyFrom, cX1_copyFrom, 2, none)
theorem cdX1_copyFrom : Cond.code yX1_copyFrom cX1_copyFrom 2 none ∈ tb := tbm 678 (by decide +kernel) rfl
theorem ivX1_copyFrom : Cond.instanceMethod yX1_copyFrom ∈ tb ∧ Cond.selects yX1_copyFrom.cls yX1_copyFrom yX1_copyFrom ∈ tb := ⟨tbm 676 (by decide +kernel) rfl, tbm 677 (by decide +kernel) rfl⟩
theorem pnX1_copyFrom : plainName yX1_copyFrom.cls = true := by decide
abbrev mX9_restore : MD := (yX9_restore, cX9_restore, 2, (some .int))
theorem cdX9_restore : Cond.code yX9_restore cX9_restore 2 (some .int) ∈ tb := tbm 683 (by decide +kernel) rfl
theorem ivX9_restore : Cond.instanceMethod yX9_restore ∈ tb ∧ Cond.selects yX9_restore.cls yX9_restore yX9_restore ∈ tb := ⟨tbm 681 (by decide +kernel) rfl, tbm 682 (by decide +kernel) rfl⟩
theorem pnX9_restore : plainName yX9_restore.cls = true := by decide
abbrev mX9_count : MD := (yX9_count, cX9_count, 2, (some .int))
theorem cdX9_count : Cond.code yX9_count cX9_count 2 (some .int) ∈ tb := tbm 687 (by decide +kernel) rfl
theorem ivX9_count : Cond.instanceMethod yX9_count ∈ tb ∧ Cond.selects yX9_count.cls yX9_count yX9_count ∈ tb := ⟨tbm 685 (by decide +kernel) rfl, tbm 686 (by decide +kernel) rfl⟩
theorem pnX9_count : plainName yX9_count.cls = true := by decide
abbrev mX3_pairsNear : MD := (yX3_pairsNear, cX3_pairsNear, 3, (some .int))
theorem cdX3_pairsNear : Cond.code yX3_pairsNear cX3_pairsNear 3 (some .int) ∈ tb := tbm 691 (by decide +kernel) rfl
theorem ivX3_pairsNear : Cond.instanceMethod yX3_pairsNear ∈ tb ∧ Cond.selects yX3_pairsNear.cls yX3_pairsNear yX3_pairsNear ∈ tb := ⟨tbm 689 (by decide +kernel) rfl, tbm 690 (by decide +kernel) rfl⟩
theorem pnX3_pairsNear : plainName yX3_pairsNear.cls = true := by decide
abbrev mX9_imagesKept : MD := (yX9_imagesKept, cX9_imagesKept, 3, (some .int))
theorem cdX9_imagesKept : Cond.code yX9_imagesKept cX9_imagesKept 3 (some .int) ∈ tb := tbm 695 (by decide +kernel) rfl
theorem ivX9_imagesKept : Cond.instanceMethod yX9_imagesKept ∈ tb ∧ Cond.selects yX9_imagesKept.cls yX9_imagesKept yX9_imagesKept ∈ tb := ⟨tbm 694 (by decide +kernel) rfl, tbm 0 (by decide +kernel) rfl⟩
theorem pnX9_imagesKept : plainName yX9_imagesKept.cls = true := by decide
abbrev mX10_init : MD := (yX10_init, cX10_init, 2, none)
theorem cdX10_init : Cond.code yX10_init cX10_init 2 none ∈ tb := tbm 700 (by decide +kernel) rfl
theorem iiX10_init : Cond.instanceMethod yX10_init ∈ tb ∧ yX10_init.name = "<init>" ∧ (mX10_init).2.2.2 = none := ⟨tbm 699 (by decide +kernel) rfl, rfl, rfl⟩
theorem pnX10_init : plainName yX10_init.cls = true := by decide
abbrev mX10_say : MD := (yX10_say, cX10_say, 2, (some .int))
theorem cdX10_say : Cond.code yX10_say cX10_say 2 (some .int) ∈ tb := tbm 755 (by decide +kernel) rfl
theorem ivX10_say : Cond.instanceMethod yX10_say ∈ tb ∧ Cond.selects yX10_say.cls yX10_say yX10_say ∈ tb := ⟨tbm 753 (by decide +kernel) rfl, tbm 754 (by decide +kernel) rfl⟩
theorem pnX10_say : plainName yX10_say.cls = true := by decide
abbrev mX10_in : MD := (yX10_in, cX10_in, 3, (some .boolean))
theorem cdX10_in : Cond.code yX10_in cX10_in 3 (some .boolean) ∈ tb := tbm 758 (by decide +kernel) rfl
theorem isX10_in : Cond.static yX10_in ∈ tb := tbm 757 (by decide +kernel) rfl
theorem pnX10_in : plainName yX10_in.cls = true := by decide
abbrev mX10_wipe : MD := (yX10_wipe, cX10_wipe, 2, (some .int))
theorem cdX10_wipe : Cond.code yX10_wipe cX10_wipe 2 (some .int) ∈ tb := tbm 762 (by decide +kernel) rfl
theorem ivX10_wipe : Cond.instanceMethod yX10_wipe ∈ tb ∧ Cond.selects yX10_wipe.cls yX10_wipe yX10_wipe ∈ tb := ⟨tbm 760 (by decide +kernel) rfl, tbm 761 (by decide +kernel) rfl⟩
theorem pnX10_wipe : plainName yX10_wipe.cls = true := by decide
abbrev mX10_fault : MD := (yX10_fault, cX10_fault, 1, (some .int))
theorem cdX10_fault : Cond.code yX10_fault cX10_fault 1 (some .int) ∈ tb := tbm 766 (by decide +kernel) rfl
theorem ivX10_fault : Cond.instanceMethod yX10_fault ∈ tb ∧ Cond.selects yX10_fault.cls yX10_fault yX10_fault ∈ tb := ⟨tbm 764 (by decide +kernel) rfl, tbm 765 (by decide +kernel) rfl⟩
theorem pnX10_fault : plainName yX10_fault.cls = true := by decide
abbrev mX10_readPacket : MD := (yX10_readPacket, cX10_readPacket, 2, (some .int))
theorem cdX10_readPacket : Cond.code yX10_readPacket cX10_readPacket 2 (some .int) ∈ tb := tbm 770 (by decide +kernel) rfl
theorem ivX10_readPacket : Cond.instanceMethod yX10_readPacket ∈ tb ∧ Cond.selects yX10_readPacket.cls yX10_readPacket yX10_readPacket ∈ tb := ⟨tbm 769 (by decide +kernel) rfl, tbm 1 (by decide +kernel) rfl⟩
theorem pnX10_readPacket : plainName yX10_readPacket.cls = true := by decide
abbrev mX10_readLetters : MD := (yX10_readLetters, cX10_readLetters, 5, (some .int))
theorem cdX10_readLetters : Cond.code yX10_readLetters cX10_readLetters 5 (some .int) ∈ tb := tbm 774 (by decide +kernel) rfl
theorem ivX10_readLetters : Cond.instanceMethod yX10_readLetters ∈ tb ∧ Cond.selects yX10_readLetters.cls yX10_readLetters yX10_readLetters ∈ tb := ⟨tbm 773 (by decide +kernel) rfl, tbm 2 (by decide +kernel) rfl⟩
theorem pnX10_readLetters : plainName yX10_readLetters.cls = true := by decide
abbrev mX10_isLetter : MD := (yX10_isLetter, cX10_isLetter, 2, (some .boolean))
theorem cdX10_isLetter : Cond.code yX10_isLetter cX10_isLetter 2 (some .boolean) ∈ tb := tbm 778 (by decide +kernel) rfl
theorem ivX10_isLetter : Cond.instanceMethod yX10_isLetter ∈ tb ∧ Cond.selects yX10_isLetter.cls yX10_isLetter yX10_isLetter ∈ tb := ⟨tbm 777 (by decide +kernel) rfl, tbm 3 (by decide +kernel) rfl⟩
theorem pnX10_isLetter : plainName yX10_isLetter.cls = true := by decide
abbrev mX10_readSign : MD := (yX10_readSign, cX10_readSign, 2, none)
theorem cdX10_readSign : Cond.code yX10_readSign cX10_readSign 2 none ∈ tb := tbm 782 (by decide +kernel) rfl
theorem ivX10_readSign : Cond.instanceMethod yX10_readSign ∈ tb ∧ Cond.selects yX10_readSign.cls yX10_readSign yX10_readSign ∈ tb := ⟨tbm 781 (by decide +kernel) rfl, tbm 4 (by decide +kernel) rfl⟩
theorem pnX10_readSign : plainName yX10_readSign.cls = true := by decide
abbrev mX10_isAt : MD := (yX10_isAt, cX10_isAt, 2, (some .boolean))
theorem cdX10_isAt : Cond.code yX10_isAt cX10_isAt 2 (some .boolean) ∈ tb := tbm 786 (by decide +kernel) rfl
theorem ivX10_isAt : Cond.instanceMethod yX10_isAt ∈ tb ∧ Cond.selects yX10_isAt.cls yX10_isAt yX10_isAt ∈ tb := ⟨tbm 785 (by decide +kernel) rfl, tbm 5 (by decide +kernel) rfl⟩
theorem pnX10_isAt : plainName yX10_isAt.cls = true := by decide
abbrev mX10_readWord : MD := (yX10_readWord, cX10_readWord, 4, none)
theorem cdX10_readWord : Cond.code yX10_readWord cX10_readWord 4 none ∈ tb := tbm 790 (by decide +kernel) rfl
theorem ivX10_readWord : Cond.instanceMethod yX10_readWord ∈ tb ∧ Cond.selects yX10_readWord.cls yX10_readWord yX10_readWord ∈ tb := ⟨tbm 789 (by decide +kernel) rfl, tbm 6 (by decide +kernel) rfl⟩
theorem pnX10_readWord : plainName yX10_readWord.cls = true := by decide
abbrev mX10_name : MD := (yX10_name, cX10_name, 4, (some .int))
theorem cdX10_name : Cond.code yX10_name cX10_name 4 (some .int) ∈ tb := tbm 794 (by decide +kernel) rfl
theorem ivX10_name : Cond.instanceMethod yX10_name ∈ tb ∧ Cond.selects yX10_name.cls yX10_name yX10_name ∈ tb := ⟨tbm 792 (by decide +kernel) rfl, tbm 793 (by decide +kernel) rfl⟩
theorem pnX10_name : plainName yX10_name.cls = true := by decide
abbrev mX10_isStation : MD := (yX10_isStation, cX10_isStation, 1, (some .boolean))
theorem cdX10_isStation : Cond.code yX10_isStation cX10_isStation 1 (some .boolean) ∈ tb := tbm 797 (by decide +kernel) rfl
theorem isX10_isStation : Cond.static yX10_isStation ∈ tb := tbm 796 (by decide +kernel) rfl
theorem pnX10_isStation : plainName yX10_isStation.cls = true := by decide
abbrev mX10_readName : MD := (yX10_readName, cX10_readName, 2, (some .int))
theorem cdX10_readName : Cond.code yX10_readName cX10_readName 2 (some .int) ∈ tb := tbm 801 (by decide +kernel) rfl
theorem ivX10_readName : Cond.instanceMethod yX10_readName ∈ tb ∧ Cond.selects yX10_readName.cls yX10_readName yX10_readName ∈ tb := ⟨tbm 800 (by decide +kernel) rfl, tbm 7 (by decide +kernel) rfl⟩
theorem pnX10_readName : plainName yX10_readName.cls = true := by decide
abbrev mX10_call : MD := (yX10_call, cX10_call, 4, (some .int))
theorem cdX10_call : Cond.code yX10_call cX10_call 4 (some .int) ∈ tb := tbm 805 (by decide +kernel) rfl
theorem ivX10_call : Cond.instanceMethod yX10_call ∈ tb ∧ Cond.selects yX10_call.cls yX10_call yX10_call ∈ tb := ⟨tbm 804 (by decide +kernel) rfl, tbm 8 (by decide +kernel) rfl⟩
theorem pnX10_call : plainName yX10_call.cls = true := by decide
abbrev mX10_more : MD := (yX10_more, cX10_more, 6, (some .int))
theorem cdX10_more : Cond.code yX10_more cX10_more 6 (some .int) ∈ tb := tbm 809 (by decide +kernel) rfl
theorem ivX10_more : Cond.instanceMethod yX10_more ∈ tb ∧ Cond.selects yX10_more.cls yX10_more yX10_more ∈ tb := ⟨tbm 808 (by decide +kernel) rfl, tbm 9 (by decide +kernel) rfl⟩
theorem pnX10_more : plainName yX10_more.cls = true := by decide
abbrev mX10_forget : MD := (yX10_forget, cX10_forget, 5, (some .int))
theorem cdX10_forget : Cond.code yX10_forget cX10_forget 5 (some .int) ∈ tb := tbm 813 (by decide +kernel) rfl
theorem ivX10_forget : Cond.instanceMethod yX10_forget ∈ tb ∧ Cond.selects yX10_forget.cls yX10_forget yX10_forget ∈ tb := ⟨tbm 811 (by decide +kernel) rfl, tbm 812 (by decide +kernel) rfl⟩
theorem pnX10_forget : plainName yX10_forget.cls = true := by decide
abbrev mX10_set : MD := (yX10_set, cX10_set, 6, (some .int))
theorem cdX10_set : Cond.code yX10_set cX10_set 6 (some .int) ∈ tb := tbm 817 (by decide +kernel) rfl
theorem ivX10_set : Cond.instanceMethod yX10_set ∈ tb ∧ Cond.selects yX10_set.cls yX10_set yX10_set ∈ tb := ⟨tbm 815 (by decide +kernel) rfl, tbm 816 (by decide +kernel) rfl⟩
theorem pnX10_set : plainName yX10_set.cls = true := by decide
abbrev mX10_near : MD := (yX10_near, cX10_near, 6, (some .int))
theorem cdX10_near : Cond.code yX10_near cX10_near 6 (some .int) ∈ tb := tbm 821 (by decide +kernel) rfl
theorem ivX10_near : Cond.instanceMethod yX10_near ∈ tb ∧ Cond.selects yX10_near.cls yX10_near yX10_near ∈ tb := ⟨tbm 819 (by decide +kernel) rfl, tbm 820 (by decide +kernel) rfl⟩
theorem pnX10_near : plainName yX10_near.cls = true := by decide
abbrev mX10_areNear : MD := (yX10_areNear, cX10_areNear, 3, (some .boolean))
theorem cdX10_areNear : Cond.code yX10_areNear cX10_areNear 3 (some .boolean) ∈ tb := tbm 825 (by decide +kernel) rfl
theorem ivX10_areNear : Cond.instanceMethod yX10_areNear ∈ tb ∧ Cond.selects yX10_areNear.cls yX10_areNear yX10_areNear ∈ tb := ⟨tbm 824 (by decide +kernel) rfl, tbm 10 (by decide +kernel) rfl⟩
theorem pnX10_areNear : plainName yX10_areNear.cls = true := by decide
abbrev mX10_send : MD := (yX10_send, cX10_send, 2, (some .int))
theorem cdX10_send : Cond.code yX10_send cX10_send 2 (some .int) ∈ tb := tbm 829 (by decide +kernel) rfl
theorem ivX10_send : Cond.instanceMethod yX10_send ∈ tb ∧ Cond.selects yX10_send.cls yX10_send yX10_send ∈ tb := ⟨tbm 827 (by decide +kernel) rfl, tbm 828 (by decide +kernel) rfl⟩
theorem pnX10_send : plainName yX10_send.cls = true := by decide
abbrev mX10_keep : MD := (yX10_keep, cX10_keep, 5, (some .boolean))
theorem cdX10_keep : Cond.code yX10_keep cX10_keep 5 (some .boolean) ∈ tb := tbm 833 (by decide +kernel) rfl
theorem ivX10_keep : Cond.instanceMethod yX10_keep ∈ tb ∧ Cond.selects yX10_keep.cls yX10_keep yX10_keep ∈ tb := ⟨tbm 832 (by decide +kernel) rfl, tbm 11 (by decide +kernel) rfl⟩
theorem pnX10_keep : plainName yX10_keep.cls = true := by decide
abbrev mX10_slot : MD := (yX10_slot, cX10_slot, 2, (some .int))
theorem cdX10_slot : Cond.code yX10_slot cX10_slot 2 (some .int) ∈ tb := tbm 836 (by decide +kernel) rfl
theorem isX10_slot : Cond.static yX10_slot ∈ tb := tbm 835 (by decide +kernel) rfl
theorem pnX10_slot : plainName yX10_slot.cls = true := by decide
abbrev mX10_begin : MD := (yX10_begin, cX10_begin, 3, none)
theorem cdX10_begin : Cond.code yX10_begin cX10_begin 3 none ∈ tb := tbm 840 (by decide +kernel) rfl
theorem ivX10_begin : Cond.instanceMethod yX10_begin ∈ tb ∧ Cond.selects yX10_begin.cls yX10_begin yX10_begin ∈ tb := ⟨tbm 839 (by decide +kernel) rfl, tbm 12 (by decide +kernel) rfl⟩
theorem pnX10_begin : plainName yX10_begin.cls = true := by decide
abbrev mX10_placeKnown : MD := (yX10_placeKnown, cX10_placeKnown, 6, (some .int))
theorem cdX10_placeKnown : Cond.code yX10_placeKnown cX10_placeKnown 6 (some .int) ∈ tb := tbm 844 (by decide +kernel) rfl
theorem ivX10_placeKnown : Cond.instanceMethod yX10_placeKnown ∈ tb ∧ Cond.selects yX10_placeKnown.cls yX10_placeKnown yX10_placeKnown ∈ tb := ⟨tbm 843 (by decide +kernel) rfl, tbm 13 (by decide +kernel) rfl⟩
theorem pnX10_placeKnown : plainName yX10_placeKnown.cls = true := by decide
abbrev mX10_known : MD := (yX10_known, cX10_known, 2, (some .int))
theorem cdX10_known : Cond.code yX10_known cX10_known 2 (some .int) ∈ tb := tbm 847 (by decide +kernel) rfl
theorem isX10_known : Cond.static yX10_known ∈ tb := tbm 846 (by decide +kernel) rfl
theorem pnX10_known : plainName yX10_known.cls = true := by decide
abbrev mX10_unknow : MD := (yX10_unknow, cX10_unknow, 5, none)
theorem cdX10_unknow : Cond.code yX10_unknow cX10_unknow 5 none ∈ tb := tbm 851 (by decide +kernel) rfl
theorem ivX10_unknow : Cond.instanceMethod yX10_unknow ∈ tb ∧ Cond.selects yX10_unknow.cls yX10_unknow yX10_unknow ∈ tb := ⟨tbm 850 (by decide +kernel) rfl, tbm 14 (by decide +kernel) rfl⟩
theorem pnX10_unknow : plainName yX10_unknow.cls = true := by decide
abbrev mX10_know : MD := (yX10_know, cX10_know, 5, none)
theorem cdX10_know : Cond.code yX10_know cX10_know 5 none ∈ tb := tbm 855 (by decide +kernel) rfl
theorem ivX10_know : Cond.instanceMethod yX10_know ∈ tb ∧ Cond.selects yX10_know.cls yX10_know yX10_know ∈ tb := ⟨tbm 854 (by decide +kernel) rfl, tbm 15 (by decide +kernel) rfl⟩
theorem pnX10_know : plainName yX10_know.cls = true := by decide
abbrev mX10_run : MD := (yX10_run, cX10_run, 3, (some .int))
theorem cdX10_run : Cond.code yX10_run cX10_run 3 (some .int) ∈ tb := tbm 859 (by decide +kernel) rfl
theorem ivX10_run : Cond.instanceMethod yX10_run ∈ tb ∧ Cond.selects yX10_run.cls yX10_run yX10_run ∈ tb := ⟨tbm 857 (by decide +kernel) rfl, tbm 858 (by decide +kernel) rfl⟩
theorem pnX10_run : plainName yX10_run.cls = true := by decide
abbrev mX10_tick : MD := (yX10_tick, cX10_tick, 2, none)
theorem cdX10_tick : Cond.code yX10_tick cX10_tick 2 none ∈ tb := tbm 863 (by decide +kernel) rfl
theorem ivX10_tick : Cond.instanceMethod yX10_tick ∈ tb ∧ Cond.selects yX10_tick.cls yX10_tick yX10_tick ∈ tb := ⟨tbm 862 (by decide +kernel) rfl, tbm 16 (by decide +kernel) rfl⟩
theorem pnX10_tick : plainName yX10_tick.cls = true := by decide
abbrev mX10_sendOne : MD := (yX10_sendOne, cX10_sendOne, 5, none)
theorem cdX10_sendOne : Cond.code yX10_sendOne cX10_sendOne 5 none ∈ tb := tbm 867 (by decide +kernel) rfl
theorem ivX10_sendOne : Cond.instanceMethod yX10_sendOne ∈ tb ∧ Cond.selects yX10_sendOne.cls yX10_sendOne yX10_sendOne ∈ tb := ⟨tbm 866 (by decide +kernel) rfl, tbm 17 (by decide +kernel) rfl⟩
theorem pnX10_sendOne : plainName yX10_sendOne.cls = true := by decide
abbrev mX10_count : MD := (yX10_count, cX10_count, 3, none)
theorem cdX10_count : Cond.code yX10_count cX10_count 3 none ∈ tb := tbm 871 (by decide +kernel) rfl
theorem ivX10_count : Cond.instanceMethod yX10_count ∈ tb ∧ Cond.selects yX10_count.cls yX10_count yX10_count ∈ tb := ⟨tbm 870 (by decide +kernel) rfl, tbm 18 (by decide +kernel) rfl⟩
theorem pnX10_count : plainName yX10_count.cls = true := by decide
abbrev mX10_hearsFrom : MD := (yX10_hearsFrom, cX10_hearsFrom, 5, (some .int))
theorem cdX10_hearsFrom : Cond.code yX10_hearsFrom cX10_hearsFrom 5 (some .int) ∈ tb := tbm 875 (by decide +kernel) rfl
theorem ivX10_hearsFrom : Cond.instanceMethod yX10_hearsFrom ∈ tb ∧ Cond.selects yX10_hearsFrom.cls yX10_hearsFrom yX10_hearsFrom ∈ tb := ⟨tbm 874 (by decide +kernel) rfl, tbm 19 (by decide +kernel) rfl⟩
theorem pnX10_hearsFrom : plainName yX10_hearsFrom.cls = true := by decide
abbrev mX10_hear : MD := (yX10_hear, cX10_hear, 4, none)
theorem cdX10_hear : Cond.code yX10_hear cX10_hear 4 none ∈ tb := tbm 879 (by decide +kernel) rfl
theorem ivX10_hear : Cond.instanceMethod yX10_hear ∈ tb ∧ Cond.selects yX10_hear.cls yX10_hear yX10_hear ∈ tb := ⟨tbm 878 (by decide +kernel) rfl, tbm 20 (by decide +kernel) rfl⟩
theorem pnX10_hear : plainName yX10_hear.cls = true := by decide
abbrev mX10_look : MD := (yX10_look, cX10_look, 3, none)
theorem cdX10_look : Cond.code yX10_look cX10_look 3 none ∈ tb := tbm 883 (by decide +kernel) rfl
theorem ivX10_look : Cond.instanceMethod yX10_look ∈ tb ∧ Cond.selects yX10_look.cls yX10_look yX10_look ∈ tb := ⟨tbm 882 (by decide +kernel) rfl, tbm 21 (by decide +kernel) rfl⟩
theorem pnX10_look : plainName yX10_look.cls = true := by decide
abbrev mX10_isOwn : MD := (yX10_isOwn, cX10_isOwn, 4, (some .boolean))
theorem cdX10_isOwn : Cond.code yX10_isOwn cX10_isOwn 4 (some .boolean) ∈ tb := tbm 887 (by decide +kernel) rfl
theorem ivX10_isOwn : Cond.instanceMethod yX10_isOwn ∈ tb ∧ Cond.selects yX10_isOwn.cls yX10_isOwn yX10_isOwn ∈ tb := ⟨tbm 886 (by decide +kernel) rfl, tbm 22 (by decide +kernel) rfl⟩
theorem pnX10_isOwn : plainName yX10_isOwn.cls = true := by decide
abbrev mX10_isSpent : MD := (yX10_isSpent, cX10_isSpent, 1, (some .boolean))
theorem cdX10_isSpent : Cond.code yX10_isSpent cX10_isSpent 1 (some .boolean) ∈ tb := tbm 890 (by decide +kernel) rfl
theorem isX10_isSpent : Cond.static yX10_isSpent ∈ tb := tbm 889 (by decide +kernel) rfl
theorem pnX10_isSpent : plainName yX10_isSpent.cls = true := by decide
abbrev mX10_isFor : MD := (yX10_isFor, cX10_isFor, 7, (some .boolean))
theorem cdX10_isFor : Cond.code yX10_isFor cX10_isFor 7 (some .boolean) ∈ tb := tbm 894 (by decide +kernel) rfl
theorem ivX10_isFor : Cond.instanceMethod yX10_isFor ∈ tb ∧ Cond.selects yX10_isFor.cls yX10_isFor yX10_isFor ∈ tb := ⟨tbm 893 (by decide +kernel) rfl, tbm 23 (by decide +kernel) rfl⟩
theorem pnX10_isFor : plainName yX10_isFor.cls = true := by decide
abbrev mX10_hopsOf : MD := (yX10_hopsOf, cX10_hopsOf, 1, (some .int))
theorem cdX10_hopsOf : Cond.code yX10_hopsOf cX10_hopsOf 1 (some .int) ∈ tb := tbm 897 (by decide +kernel) rfl
theorem isX10_hopsOf : Cond.static yX10_hopsOf ∈ tb := tbm 896 (by decide +kernel) rfl
theorem pnX10_hopsOf : plainName yX10_hopsOf.cls = true := by decide
abbrev mX10_isOf : MD := (yX10_isOf, cX10_isOf, 7, (some .boolean))
theorem cdX10_isOf : Cond.code yX10_isOf cX10_isOf 7 (some .boolean) ∈ tb := tbm 901 (by decide +kernel) rfl
theorem ivX10_isOf : Cond.instanceMethod yX10_isOf ∈ tb ∧ Cond.selects yX10_isOf.cls yX10_isOf yX10_isOf ∈ tb := ⟨tbm 900 (by decide +kernel) rfl, tbm 24 (by decide +kernel) rfl⟩
theorem pnX10_isOf : plainName yX10_isOf.cls = true := by decide
abbrev mX10_keptByAll : MD := (yX10_keptByAll, cX10_keptByAll, 3, (some .int))
theorem cdX10_keptByAll : Cond.code yX10_keptByAll cX10_keptByAll 3 (some .int) ∈ tb := tbm 905 (by decide +kernel) rfl
theorem ivX10_keptByAll : Cond.instanceMethod yX10_keptByAll ∈ tb ∧ Cond.selects yX10_keptByAll.cls yX10_keptByAll yX10_keptByAll ∈ tb := ⟨tbm 904 (by decide +kernel) rfl, tbm 25 (by decide +kernel) rfl⟩
theorem pnX10_keptByAll : plainName yX10_keptByAll.cls = true := by decide
abbrev mX10_heard : MD := (yX10_heard, cX10_heard, 3, (some .int))
theorem cdX10_heard : Cond.code yX10_heard cX10_heard 3 (some .int) ∈ tb := tbm 909 (by decide +kernel) rfl
theorem ivX10_heard : Cond.instanceMethod yX10_heard ∈ tb ∧ Cond.selects yX10_heard.cls yX10_heard yX10_heard ∈ tb := ⟨tbm 907 (by decide +kernel) rfl, tbm 908 (by decide +kernel) rfl⟩
theorem pnX10_heard : plainName yX10_heard.cls = true := by decide
abbrev mX10_written : MD := (yX10_written, cX10_written, 3, (some .int))
theorem cdX10_written : Cond.code yX10_written cX10_written 3 (some .int) ∈ tb := tbm 913 (by decide +kernel) rfl
theorem ivX10_written : Cond.instanceMethod yX10_written ∈ tb ∧ Cond.selects yX10_written.cls yX10_written yX10_written ∈ tb := ⟨tbm 911 (by decide +kernel) rfl, tbm 912 (by decide +kernel) rfl⟩
theorem pnX10_written : plainName yX10_written.cls = true := by decide
abbrev mX10_layLine : MD := (yX10_layLine, cX10_layLine, 3, none)
theorem cdX10_layLine : Cond.code yX10_layLine cX10_layLine 3 none ∈ tb := tbm 917 (by decide +kernel) rfl
theorem ivX10_layLine : Cond.instanceMethod yX10_layLine ∈ tb ∧ Cond.selects yX10_layLine.cls yX10_layLine yX10_layLine ∈ tb := ⟨tbm 916 (by decide +kernel) rfl, tbm 26 (by decide +kernel) rfl⟩
theorem pnX10_layLine : plainName yX10_layLine.cls = true := by decide
abbrev mX10_putLetters : MD := (yX10_putLetters, cX10_putLetters, 4, none)
theorem cdX10_putLetters : Cond.code yX10_putLetters cX10_putLetters 4 none ∈ tb := tbm 921 (by decide +kernel) rfl
theorem ivX10_putLetters : Cond.instanceMethod yX10_putLetters ∈ tb ∧ Cond.selects yX10_putLetters.cls yX10_putLetters yX10_putLetters ∈ tb := ⟨tbm 920 (by decide +kernel) rfl, tbm 27 (by decide +kernel) rfl⟩
theorem pnX10_putLetters : plainName yX10_putLetters.cls = true := by decide
abbrev mX10_put : MD := (yX10_put, cX10_put, 2, none)
theorem cdX10_put : Cond.code yX10_put cX10_put 2 none ∈ tb := tbm 925 (by decide +kernel) rfl
theorem ivX10_put : Cond.instanceMethod yX10_put ∈ tb ∧ Cond.selects yX10_put.cls yX10_put yX10_put ∈ tb := ⟨tbm 924 (by decide +kernel) rfl, tbm 28 (by decide +kernel) rfl⟩
theorem pnX10_put : plainName yX10_put.cls = true := by decide
abbrev mX10_words : MD := (yX10_words, cX10_words, 2, (some .int))
theorem cdX10_words : Cond.code yX10_words cX10_words 2 (some .int) ∈ tb := tbm 929 (by decide +kernel) rfl
theorem ivX10_words : Cond.instanceMethod yX10_words ∈ tb ∧ Cond.selects yX10_words.cls yX10_words yX10_words ∈ tb := ⟨tbm 928 (by decide +kernel) rfl, tbm 29 (by decide +kernel) rfl⟩
theorem pnX10_words : plainName yX10_words.cls = true := by decide
abbrev mX10_word : MD := (yX10_word, cX10_word, 3, (some .int))
theorem cdX10_word : Cond.code yX10_word cX10_word 3 (some .int) ∈ tb := tbm 933 (by decide +kernel) rfl
theorem ivX10_word : Cond.instanceMethod yX10_word ∈ tb ∧ Cond.selects yX10_word.cls yX10_word yX10_word ∈ tb := ⟨tbm 932 (by decide +kernel) rfl, tbm 30 (by decide +kernel) rfl⟩
theorem pnX10_word : plainName yX10_word.cls = true := by decide
abbrev mX10_last : MD := (yX10_last, cX10_last, 3, (some .int))
theorem cdX10_last : Cond.code yX10_last cX10_last 3 (some .int) ∈ tb := tbm 937 (by decide +kernel) rfl
theorem ivX10_last : Cond.instanceMethod yX10_last ∈ tb ∧ Cond.selects yX10_last.cls yX10_last yX10_last ∈ tb := ⟨tbm 935 (by decide +kernel) rfl, tbm 936 (by decide +kernel) rfl⟩
theorem pnX10_last : plainName yX10_last.cls = true := by decide
abbrev mX10_spentWords : MD := (yX10_spentWords, cX10_spentWords, 4, (some .int))
theorem cdX10_spentWords : Cond.code yX10_spentWords cX10_spentWords 4 (some .int) ∈ tb := tbm 941 (by decide +kernel) rfl
theorem ivX10_spentWords : Cond.instanceMethod yX10_spentWords ∈ tb ∧ Cond.selects yX10_spentWords.cls yX10_spentWords yX10_spentWords ∈ tb := ⟨tbm 940 (by decide +kernel) rfl, tbm 31 (by decide +kernel) rfl⟩
theorem pnX10_spentWords : plainName yX10_spentWords.cls = true := by decide
abbrev mX10_firstHops : MD := (yX10_firstHops, cX10_firstHops, 3, (some .int))
theorem cdX10_firstHops : Cond.code yX10_firstHops cX10_firstHops 3 (some .int) ∈ tb := tbm 945 (by decide +kernel) rfl
theorem ivX10_firstHops : Cond.instanceMethod yX10_firstHops ∈ tb ∧ Cond.selects yX10_firstHops.cls yX10_firstHops yX10_firstHops ∈ tb := ⟨tbm 944 (by decide +kernel) rfl, tbm 32 (by decide +kernel) rfl⟩
theorem pnX10_firstHops : plainName yX10_firstHops.cls = true := by decide
abbrev mX10_trail : MD := (yX10_trail, cX10_trail, 5, (some .int))
theorem cdX10_trail : Cond.code yX10_trail cX10_trail 5 (some .int) ∈ tb := tbm 949 (by decide +kernel) rfl
theorem ivX10_trail : Cond.instanceMethod yX10_trail ∈ tb ∧ Cond.selects yX10_trail.cls yX10_trail yX10_trail ∈ tb := ⟨tbm 947 (by decide +kernel) rfl, tbm 948 (by decide +kernel) rfl⟩
theorem pnX10_trail : plainName yX10_trail.cls = true := by decide
abbrev mX10_stationOf : MD := (yX10_stationOf, cX10_stationOf, 4, (some .int))
theorem cdX10_stationOf : Cond.code yX10_stationOf cX10_stationOf 4 (some .int) ∈ tb := tbm 953 (by decide +kernel) rfl
theorem ivX10_stationOf : Cond.instanceMethod yX10_stationOf ∈ tb ∧ Cond.selects yX10_stationOf.cls yX10_stationOf yX10_stationOf ∈ tb := ⟨tbm 952 (by decide +kernel) rfl, tbm 33 (by decide +kernel) rfl⟩
theorem pnX10_stationOf : plainName yX10_stationOf.cls = true := by decide
abbrev mX10_reach : MD := (yX10_reach, cX10_reach, 6, (some .int))
theorem cdX10_reach : Cond.code yX10_reach cX10_reach 6 (some .int) ∈ tb := tbm 957 (by decide +kernel) rfl
theorem ivX10_reach : Cond.instanceMethod yX10_reach ∈ tb ∧ Cond.selects yX10_reach.cls yX10_reach yX10_reach ∈ tb := ⟨tbm 955 (by decide +kernel) rfl, tbm 956 (by decide +kernel) rfl⟩
theorem pnX10_reach : plainName yX10_reach.cls = true := by decide
abbrev mX10_reachFrom : MD := (yX10_reachFrom, cX10_reachFrom, 7, (some .int))
theorem cdX10_reachFrom : Cond.code yX10_reachFrom cX10_reachFrom 7 (some .int) ∈ tb := tbm 961 (by decide +kernel) rfl
theorem ivX10_reachFrom : Cond.instanceMethod yX10_reachFrom ∈ tb ∧ Cond.selects yX10_reachFrom.cls yX10_reachFrom yX10_reachFrom ∈ tb := ⟨tbm 960 (by decide +kernel) rfl, tbm 34 (by decide +kernel) rfl⟩
theorem pnX10_reachFrom : plainName yX10_reachFrom.cls = true := by decide
abbrev mX10_save : MD := (yX10_save, cX10_save, 3, none)
theorem cdX10_save : Cond.code yX10_save cX10_save 3 none ∈ tb := tbm 965 (by decide +kernel) rfl
theorem ivX10_save : Cond.instanceMethod yX10_save ∈ tb ∧ Cond.selects yX10_save.cls yX10_save yX10_save ∈ tb := ⟨tbm 964 (by decide +kernel) rfl, tbm 35 (by decide +kernel) rfl⟩
theorem pnX10_save : plainName yX10_save.cls = true := by decide
abbrev mX10_sumOf : MD := (yX10_sumOf, cX10_sumOf, 4, (some .int))
theorem cdX10_sumOf : Cond.code yX10_sumOf cX10_sumOf 4 (some .int) ∈ tb := tbm 969 (by decide +kernel) rfl
theorem ivX10_sumOf : Cond.instanceMethod yX10_sumOf ∈ tb ∧ Cond.selects yX10_sumOf.cls yX10_sumOf yX10_sumOf ∈ tb := ⟨tbm 968 (by decide +kernel) rfl, tbm 36 (by decide +kernel) rfl⟩
theorem pnX10_sumOf : plainName yX10_sumOf.cls = true := by decide
abbrev mX10_load : MD := (yX10_load, cX10_load, 3, none)
theorem cdX10_load : Cond.code yX10_load cX10_load 3 none ∈ tb := tbm 973 (by decide +kernel) rfl
theorem ivX10_load : Cond.instanceMethod yX10_load ∈ tb ∧ Cond.selects yX10_load.cls yX10_load yX10_load ∈ tb := ⟨tbm 972 (by decide +kernel) rfl, tbm 37 (by decide +kernel) rfl⟩
theorem pnX10_load : plainName yX10_load.cls = true := by decide
abbrev mX10_latest : MD := (yX10_latest, cX10_latest, 3, (some .int))
theorem cdX10_latest : Cond.code yX10_latest cX10_latest 3 (some .int) ∈ tb := tbm 977 (by decide +kernel) rfl
theorem ivX10_latest : Cond.instanceMethod yX10_latest ∈ tb ∧ Cond.selects yX10_latest.cls yX10_latest yX10_latest ∈ tb := ⟨tbm 976 (by decide +kernel) rfl, tbm 38 (by decide +kernel) rfl⟩
theorem pnX10_latest : plainName yX10_latest.cls = true := by decide
abbrev mX10_fewest : MD := (yX10_fewest, cX10_fewest, 5, (some .int))
theorem cdX10_fewest : Cond.code yX10_fewest cX10_fewest 5 (some .int) ∈ tb := tbm 981 (by decide +kernel) rfl
theorem ivX10_fewest : Cond.instanceMethod yX10_fewest ∈ tb ∧ Cond.selects yX10_fewest.cls yX10_fewest yX10_fewest ∈ tb := ⟨tbm 979 (by decide +kernel) rfl, tbm 980 (by decide +kernel) rfl⟩
theorem pnX10_fewest : plainName yX10_fewest.cls = true := by decide
abbrev mX10_bridges : MD := (yX10_bridges, cX10_bridges, 7, (some .int))
theorem cdX10_bridges : Cond.code yX10_bridges cX10_bridges 7 (some .int) ∈ tb := tbm 985 (by decide +kernel) rfl
theorem ivX10_bridges : Cond.instanceMethod yX10_bridges ∈ tb ∧ Cond.selects yX10_bridges.cls yX10_bridges yX10_bridges ∈ tb := ⟨tbm 983 (by decide +kernel) rfl, tbm 984 (by decide +kernel) rfl⟩
theorem pnX10_bridges : plainName yX10_bridges.cls = true := by decide
abbrev mX10_image : MD := (yX10_image, cX10_image, 2, (some .int))
theorem cdX10_image : Cond.code yX10_image cX10_image 2 (some .int) ∈ tb := tbm 989 (by decide +kernel) rfl
theorem ivX10_image : Cond.instanceMethod yX10_image ∈ tb ∧ Cond.selects yX10_image.cls yX10_image yX10_image ∈ tb := ⟨tbm 987 (by decide +kernel) rfl, tbm 988 (by decide +kernel) rfl⟩
theorem pnX10_image : plainName yX10_image.cls = true := by decide
abbrev mX10_restore : MD := (yX10_restore, cX10_restore, 2, (some .int))
theorem cdX10_restore : Cond.code yX10_restore cX10_restore 2 (some .int) ∈ tb := tbm 993 (by decide +kernel) rfl
theorem ivX10_restore : Cond.instanceMethod yX10_restore ∈ tb ∧ Cond.selects yX10_restore.cls yX10_restore yX10_restore ∈ tb := ⟨tbm 991 (by decide +kernel) rfl, tbm 992 (by decide +kernel) rfl⟩
theorem pnX10_restore : plainName yX10_restore.cls = true := by decide
abbrev mX10_count_ : MD := (yX10_count_, cX10_count_, 2, (some .int))
theorem cdX10_count_ : Cond.code yX10_count_ cX10_count_ 2 (some .int) ∈ tb := tbm 997 (by decide +kernel) rfl
theorem ivX10_count_ : Cond.instanceMethod yX10_count_ ∈ tb ∧ Cond.selects yX10_count_.cls yX10_count_ yX10_count_ ∈ tb := ⟨tbm 995 (by decide +kernel) rfl, tbm 996 (by decide +kernel) rfl⟩
theorem pnX10_count_ : plainName yX10_count_.cls = true := by decide
abbrev mX10_pairs : MD := (yX10_pairs, cX10_pairs, 3, (some .int))
theorem cdX10_pairs : Cond.code yX10_pairs cX10_pairs 3 (some .int) ∈ tb := tbm 1001 (by decide +kernel) rfl
theorem ivX10_pairs : Cond.instanceMethod yX10_pairs ∈ tb ∧ Cond.selects yX10_pairs.cls yX10_pairs yX10_pairs ∈ tb := ⟨tbm 1000 (by decide +kernel) rfl, tbm 39 (by decide +kernel) rfl⟩
theorem pnX10_pairs : plainName yX10_pairs.cls = true := by decide
theorem x_oi : Cond.instanceMethod Lib.objectInit ∈ tb := tbm 61 (by decide +kernel) rfl
theorem x_oc : Cond.code Lib.objectInit ⟨#[0xb1]⟩ 1 none ∈ tb := tbm 62 (by decide +kernel) rfl
theorem ini_RL : Cond.initialized RL ∈ tb := tbm 40 (by decide +kernel) rfl
theorem ini_RX9 : Cond.initialized RX9 ∈ tb := tbm 41 (by decide +kernel) rfl
theorem ini_RX5 : Cond.initialized RX5 ∈ tb := tbm 42 (by decide +kernel) rfl
theorem ini_RX3 : Cond.initialized RX3 ∈ tb := tbm 43 (by decide +kernel) rfl
theorem ini_RX6 : Cond.initialized RX6 ∈ tb := tbm 44 (by decide +kernel) rfl
theorem ini_RX2 : Cond.initialized RX2 ∈ tb := tbm 45 (by decide +kernel) rfl
theorem ini_RX0 : Cond.initialized RX0 ∈ tb := tbm 46 (by decide +kernel) rfl
theorem ini_RX4 : Cond.initialized RX4 ∈ tb := tbm 47 (by decide +kernel) rfl
theorem ini_RX1 : Cond.initialized RX1 ∈ tb := tbm 48 (by decide +kernel) rfl
theorem ini_RX7 : Cond.initialized RX7 ∈ tb := tbm 49 (by decide +kernel) rfl
theorem ini_RX8 : Cond.initialized RX8 ∈ tb := tbm 50 (by decide +kernel) rfl
theorem ini_RX10 : Cond.initialized RX10 ∈ tb := tbm 51 (by decide +kernel) rfl
theorem ini_RJ6 : Cond.initialized RJ6 ∈ tb := tbm 52 (by decide +kernel) rfl
theorem ini_RJ10 : Cond.initialized RJ10 ∈ tb := tbm 53 (by decide +kernel) rfl
theorem ini_RJ9 : Cond.initialized RJ9 ∈ tb := tbm 54 (by decide +kernel) rfl
theorem ckX0 : CK 0 RX0 TX0 3 := ⟨rfl, tb_sub [149, 151, 153] (by decide +kernel) (by decide +kernel), tyX0_ok, nmX0, rfl, by decide⟩
theorem ckX1 : CK 1 RX1 TX1 4 := ⟨rfl, tb_sub [167, 169, 171, 173] (by decide +kernel) (by decide +kernel), tyX1_ok, nmX1, rfl, by decide⟩
theorem ckX2 : CK 2 RX2 TX2 2 := ⟨rfl, tb_sub [103, 105] (by decide +kernel) (by decide +kernel), tyX2_ok, nmX2, rfl, by decide⟩
theorem ckX3 : CK 3 RX3 TX3 3 := ⟨rfl, tb_sub [242, 244, 246] (by decide +kernel) (by decide +kernel), tyX3_ok, nmX3, rfl, by decide⟩
theorem ckX4 : CK 4 RX4 TX4 4 := ⟨rfl, tb_sub [135, 137, 139, 141] (by decide +kernel) (by decide +kernel), tyX4_ok, nmX4, rfl, by decide⟩
theorem ckX5 : CK 5 RX5 TX5 3 := ⟨rfl, tb_sub [73, 75, 77] (by decide +kernel) (by decide +kernel), tyX5_ok, nmX5, rfl, by decide⟩
theorem ckX6 : CK 6 RX6 TX6 13 := ⟨rfl, tb_sub [207, 209, 211, 213, 215, 217, 219, 221, 223, 225, 227, 229, 231] (by decide +kernel) (by decide +kernel), tyX6_ok, nmX6, rfl, by decide⟩
theorem ckX7 : CK 7 RX7 TX7 4 := ⟨rfl, tb_sub [266, 268, 270, 272] (by decide +kernel) (by decide +kernel), tyX7_ok, nmX7, rfl, by decide⟩
theorem ckX8 : CK 8 RX8 TX8 2 := ⟨rfl, tb_sub [287, 289] (by decide +kernel) (by decide +kernel), tyX8_ok, nmX8, rfl, by decide⟩
theorem ckX9 : CK 9 RX9 TX9 6 := ⟨rfl, tb_sub [298, 300, 302, 304, 306, 308] (by decide +kernel) (by decide +kernel), tyX9_ok, nmX9, rfl, by decide⟩
theorem ckX10 : CK 10 RX10 TX10 16 := ⟨rfl, tb_sub [718, 720, 722, 724, 726, 728, 730, 732, 734, 736, 738, 740, 742, 744, 746, 748] (by decide +kernel) (by decide +kernel), tyX10_ok, nmX10, rfl, by decide⟩
theorem cl_RL_7 : Cond.classLink RL 7 RX9 ∈ tb := tbm 55 (by decide +kernel) rfl
theorem in_RX9 : Cond.instantiable RX9 6 ∈ tb := tbm 56 (by decide +kernel) rfl
theorem ok_RL_9 : okC RL 9 mX9_init 0 := ⟨tbm 57 (by decide +kernel) rfl, ini_RX9, cdX9_init, by decide +kernel⟩
theorem ml_RX9_1 : Cond.methodLink RX9 1 Lib.objectInit ∈ tb := tbm 60 (by decide +kernel) rfl
theorem cl_RX9_7 : Cond.classLink RX9 7 RX5 ∈ tb := tbm 63 (by decide +kernel) rfl
theorem in_RX5 : Cond.instantiable RX5 3 ∈ tb := tbm 64 (by decide +kernel) rfl
theorem ok_RX9_9 : okN RX9 9 mX5_init 0 := ⟨by decide +kernel, ini_RX5, cdX5_init, by decide +kernel⟩
theorem ml_RX5_3 : Cond.methodLink RX5 3 Lib.objectInit ∈ tb := tbm 68 (by decide +kernel) rfl
theorem fl_RX5_9 : FL RX5 9 5 0 true := ⟨_, _, _, ckX5, by decide, tbm 69 (by decide +kernel) rfl, rfl, rfl⟩
theorem fl_RX5_15 : FL RX5 15 5 1 false := ⟨_, _, _, ckX5, by decide, tbm 70 (by decide +kernel) rfl, rfl, rfl⟩
theorem fl_RX9_48 : FL RX9 48 5 1 false := ⟨_, _, _, ckX5, by decide, tbm 71 (by decide +kernel) rfl, rfl, rfl⟩
theorem fl_RX5_19 : FL RX5 19 5 2 false := ⟨_, _, _, ckX5, by decide, tbm 72 (by decide +kernel) rfl, rfl, rfl⟩
theorem ac_int : Cond.arrayClass .int ∈ tb := tbm 80 (by decide +kernel) rfl
theorem cl_RX9_16 : Cond.classLink RX9 16 RX3 ∈ tb := tbm 81 (by decide +kernel) rfl
theorem in_RX3 : Cond.instantiable RX3 3 ∈ tb := tbm 82 (by decide +kernel) rfl
theorem ok_RX9_18 : okC RX9 18 mX3_init 0 := ⟨tbm 83 (by decide +kernel) rfl, ini_RX3, cdX3_init, by decide +kernel⟩
theorem ml_RX3_3 : Cond.methodLink RX3 3 Lib.objectInit ∈ tb := tbm 86 (by decide +kernel) rfl
theorem cl_RX3_9 : Cond.classLink RX3 9 RX6 ∈ tb := tbm 87 (by decide +kernel) rfl
theorem in_RX6 : Cond.instantiable RX6 13 ∈ tb := tbm 89 (by decide +kernel) rfl
theorem ok_RX3_21 : okC RX3 21 mX6_init 1 := ⟨tbm 90 (by decide +kernel) rfl, ini_RX6, cdX6_init, by decide +kernel⟩
theorem ml_RX6_3 : Cond.methodLink RX6 3 Lib.objectInit ∈ tb := tbm 93 (by decide +kernel) rfl
theorem cl_RX6_9 : Cond.classLink RX6 9 RX2 ∈ tb := tbm 94 (by decide +kernel) rfl
theorem in_RX2 : Cond.instantiable RX2 2 ∈ tb := tbm 95 (by decide +kernel) rfl
theorem ok_RX6_11 : okN RX6 11 mX2_init 0 := ⟨by decide +kernel, ini_RX2, cdX2_init, by decide +kernel⟩
theorem ml_RX2_3 : Cond.methodLink RX2 3 Lib.objectInit ∈ tb := tbm 99 (by decide +kernel) rfl
theorem fl_RX2_9 : FL RX2 9 2 0 true := ⟨_, _, _, ckX2, by decide, tbm 100 (by decide +kernel) rfl, rfl, rfl⟩
theorem fl_RX2_21 : FL RX2 21 2 1 false := ⟨_, _, _, ckX2, by decide, tbm 101 (by decide +kernel) rfl, rfl, rfl⟩
theorem fl_RX9_91 : FL RX9 91 2 1 false := ⟨_, _, _, ckX2, by decide, tbm 102 (by decide +kernel) rfl, rfl, rfl⟩
theorem cl_RX6_35 : Cond.classLink RX6 35 RX0 ∈ tb := tbm 108 (by decide +kernel) rfl
theorem in_RX0 : Cond.instantiable RX0 3 ∈ tb := tbm 109 (by decide +kernel) rfl
theorem ok_RX6_37 : okC RX6 37 mX0_init 0 := ⟨tbm 110 (by decide +kernel) rfl, ini_RX0, cdX0_init, by decide +kernel⟩
theorem ml_RX0_3 : Cond.methodLink RX0 3 Lib.objectInit ∈ tb := tbm 113 (by decide +kernel) rfl
theorem cl_RX0_9 : Cond.classLink RX0 9 RX4 ∈ tb := tbm 114 (by decide +kernel) rfl
theorem in_RX4 : Cond.instantiable RX4 4 ∈ tb := tbm 116 (by decide +kernel) rfl
theorem ok_RX0_21 : okN RX0 21 mX4_init 0 := ⟨by decide +kernel, ini_RX4, cdX4_init, by decide +kernel⟩
theorem ml_RX4_3 : Cond.methodLink RX4 3 Lib.objectInit ∈ tb := tbm 120 (by decide +kernel) rfl
theorem fl_RX4_9 : FL RX4 9 4 0 true := ⟨_, _, _, ckX4, by decide, tbm 121 (by decide +kernel) rfl, rfl, rfl⟩
theorem fl_RX4_21 : FL RX4 21 4 1 false := ⟨_, _, _, ckX4, by decide, tbm 122 (by decide +kernel) rfl, rfl, rfl⟩
theorem fl_RX8_32 : FL RX8 32 4 1 false := ⟨_, _, _, ckX4, by decide, tbm 123 (by decide +kernel) rfl, rfl, rfl⟩
theorem fl_RX9_167 : FL RX9 167 4 1 false := ⟨_, _, _, ckX4, by decide, tbm 124 (by decide +kernel) rfl, rfl, rfl⟩
theorem fl_RX8_19 : FL RX8 19 4 2 false := ⟨_, _, _, ckX4, by decide, tbm 125 (by decide +kernel) rfl, rfl, rfl⟩
theorem fl_RX4_25 : FL RX4 25 4 2 false := ⟨_, _, _, ckX4, by decide, tbm 126 (by decide +kernel) rfl, rfl, rfl⟩
theorem fl_RX7_52 : FL RX7 52 4 2 false := ⟨_, _, _, ckX4, by decide, tbm 127 (by decide +kernel) rfl, rfl, rfl⟩
theorem fl_RX1_31 : FL RX1 31 4 2 false := ⟨_, _, _, ckX4, by decide, tbm 128 (by decide +kernel) rfl, rfl, rfl⟩
theorem fl_RX5_31 : FL RX5 31 4 2 false := ⟨_, _, _, ckX4, by decide, tbm 129 (by decide +kernel) rfl, rfl, rfl⟩
theorem fl_RX4_28 : FL RX4 28 4 3 false := ⟨_, _, _, ckX4, by decide, tbm 130 (by decide +kernel) rfl, rfl, rfl⟩
theorem fl_RX8_37 : FL RX8 37 4 3 false := ⟨_, _, _, ckX4, by decide, tbm 131 (by decide +kernel) rfl, rfl, rfl⟩
theorem fl_RX7_55 : FL RX7 55 4 3 false := ⟨_, _, _, ckX4, by decide, tbm 132 (by decide +kernel) rfl, rfl, rfl⟩
theorem fl_RX1_36 : FL RX1 36 4 3 false := ⟨_, _, _, ckX4, by decide, tbm 133 (by decide +kernel) rfl, rfl, rfl⟩
theorem fl_RX5_42 : FL RX5 42 4 3 false := ⟨_, _, _, ckX4, by decide, tbm 134 (by decide +kernel) rfl, rfl, rfl⟩
theorem fl_RX0_11 : FL RX0 11 0 0 true := ⟨_, _, _, ckX0, by decide, tbm 144 (by decide +kernel) rfl, rfl, rfl⟩
theorem fl_RX0_17 : FL RX0 17 0 1 true := ⟨_, _, _, ckX0, by decide, tbm 145 (by decide +kernel) rfl, rfl, rfl⟩
theorem fl_RX0_22 : FL RX0 22 0 2 false := ⟨_, _, _, ckX0, by decide, tbm 146 (by decide +kernel) rfl, rfl, rfl⟩
theorem fl_RX3_73 : FL RX3 73 0 2 false := ⟨_, _, _, ckX0, by decide, tbm 147 (by decide +kernel) rfl, rfl, rfl⟩
theorem fl_RX9_126 : FL RX9 126 0 2 false := ⟨_, _, _, ckX0, by decide, tbm 148 (by decide +kernel) rfl, rfl, rfl⟩
theorem cl_RX6_42 : Cond.classLink RX6 42 RX1 ∈ tb := tbm 156 (by decide +kernel) rfl
theorem in_RX1 : Cond.instantiable RX1 4 ∈ tb := tbm 157 (by decide +kernel) rfl
theorem ok_RX6_44 : okN RX6 44 mX1_init 0 := ⟨by decide +kernel, ini_RX1, cdX1_init, by decide +kernel⟩
theorem ml_RX1_3 : Cond.methodLink RX1 3 Lib.objectInit ∈ tb := tbm 161 (by decide +kernel) rfl
theorem fl_RX1_9 : FL RX1 9 1 0 true := ⟨_, _, _, ckX1, by decide, tbm 162 (by decide +kernel) rfl, rfl, rfl⟩
theorem fl_RX1_15 : FL RX1 15 1 1 true := ⟨_, _, _, ckX1, by decide, tbm 163 (by decide +kernel) rfl, rfl, rfl⟩
theorem fl_RX1_18 : FL RX1 18 1 2 true := ⟨_, _, _, ckX1, by decide, tbm 164 (by decide +kernel) rfl, rfl, rfl⟩
theorem fl_RX1_27 : FL RX1 27 1 3 false := ⟨_, _, _, ckX1, by decide, tbm 165 (by decide +kernel) rfl, rfl, rfl⟩
theorem fl_RX9_149 : FL RX9 149 1 3 false := ⟨_, _, _, ckX1, by decide, tbm 166 (by decide +kernel) rfl, rfl, rfl⟩
theorem cl_RX6_49 : Cond.classLink RX6 49 RX4 ∈ tb := tbm 176 (by decide +kernel) rfl
theorem ok_RX6_51 : okN RX6 51 mX4_init 0 := ⟨by decide +kernel, ini_RX4, cdX4_init, by decide +kernel⟩
theorem fl_RX6_62 : FL RX6 62 6 0 false := ⟨_, _, _, ckX6, by decide, tbm 178 (by decide +kernel) rfl, rfl, rfl⟩
theorem fl_RX7_47 : FL RX7 47 6 0 false := ⟨_, _, _, ckX6, by decide, tbm 179 (by decide +kernel) rfl, rfl, rfl⟩
theorem fl_RX9_79 : FL RX9 79 6 0 false := ⟨_, _, _, ckX6, by decide, tbm 180 (by decide +kernel) rfl, rfl, rfl⟩
theorem fl_RX3_66 : FL RX3 66 6 0 false := ⟨_, _, _, ckX6, by decide, tbm 181 (by decide +kernel) rfl, rfl, rfl⟩
theorem fl_RX6_12 : FL RX6 12 6 1 true := ⟨_, _, _, ckX6, by decide, tbm 182 (by decide +kernel) rfl, rfl, rfl⟩
theorem fl_RX9_84 : FL RX9 84 6 1 true := ⟨_, _, _, ckX6, by decide, tbm 183 (by decide +kernel) rfl, rfl, rfl⟩
theorem fl_RX6_18 : FL RX6 18 6 2 true := ⟨_, _, _, ckX6, by decide, tbm 184 (by decide +kernel) rfl, rfl, rfl⟩
theorem fl_RX9_88 : FL RX9 88 6 2 true := ⟨_, _, _, ckX6, by decide, tbm 185 (by decide +kernel) rfl, rfl, rfl⟩
theorem fl_RX6_21 : FL RX6 21 6 3 false := ⟨_, _, _, ckX6, by decide, tbm 186 (by decide +kernel) rfl, rfl, rfl⟩
theorem fl_RX9_100 : FL RX9 100 6 3 false := ⟨_, _, _, ckX6, by decide, tbm 187 (by decide +kernel) rfl, rfl, rfl⟩
theorem fl_RX6_25 : FL RX6 25 6 4 false := ⟨_, _, _, ckX6, by decide, tbm 188 (by decide +kernel) rfl, rfl, rfl⟩
theorem fl_RX9_103 : FL RX9 103 6 4 false := ⟨_, _, _, ckX6, by decide, tbm 189 (by decide +kernel) rfl, rfl, rfl⟩
theorem fl_RX6_28 : FL RX6 28 6 5 false := ⟨_, _, _, ckX6, by decide, tbm 190 (by decide +kernel) rfl, rfl, rfl⟩
theorem fl_RX9_106 : FL RX9 106 6 5 false := ⟨_, _, _, ckX6, by decide, tbm 191 (by decide +kernel) rfl, rfl, rfl⟩
theorem fl_RX6_31 : FL RX6 31 6 6 true := ⟨_, _, _, ckX6, by decide, tbm 192 (by decide +kernel) rfl, rfl, rfl⟩
theorem fl_RX3_55 : FL RX3 55 6 6 true := ⟨_, _, _, ckX6, by decide, tbm 193 (by decide +kernel) rfl, rfl, rfl⟩
theorem fl_RX9_142 : FL RX9 142 6 6 true := ⟨_, _, _, ckX6, by decide, tbm 194 (by decide +kernel) rfl, rfl, rfl⟩
theorem fl_RX6_38 : FL RX6 38 6 7 true := ⟨_, _, _, ckX6, by decide, tbm 195 (by decide +kernel) rfl, rfl, rfl⟩
theorem fl_RX3_69 : FL RX3 69 6 7 true := ⟨_, _, _, ckX6, by decide, tbm 196 (by decide +kernel) rfl, rfl, rfl⟩
theorem fl_RX9_122 : FL RX9 122 6 7 true := ⟨_, _, _, ckX6, by decide, tbm 197 (by decide +kernel) rfl, rfl, rfl⟩
theorem fl_RX6_45 : FL RX6 45 6 8 true := ⟨_, _, _, ckX6, by decide, tbm 198 (by decide +kernel) rfl, rfl, rfl⟩
theorem fl_RX9_145 : FL RX9 145 6 8 true := ⟨_, _, _, ckX6, by decide, tbm 199 (by decide +kernel) rfl, rfl, rfl⟩
theorem fl_RX6_52 : FL RX6 52 6 9 true := ⟨_, _, _, ckX6, by decide, tbm 200 (by decide +kernel) rfl, rfl, rfl⟩
theorem fl_RX9_156 : FL RX9 156 6 9 true := ⟨_, _, _, ckX6, by decide, tbm 201 (by decide +kernel) rfl, rfl, rfl⟩
theorem fl_RX6_85 : FL RX6 85 6 10 false := ⟨_, _, _, ckX6, by decide, tbm 202 (by decide +kernel) rfl, rfl, rfl⟩
theorem fl_RX9_171 : FL RX9 171 6 10 false := ⟨_, _, _, ckX6, by decide, tbm 203 (by decide +kernel) rfl, rfl, rfl⟩
theorem fl_RX6_56 : FL RX6 56 6 11 true := ⟨_, _, _, ckX6, by decide, tbm 204 (by decide +kernel) rfl, rfl, rfl⟩
theorem fl_RX3_58 : FL RX3 58 6 11 true := ⟨_, _, _, ckX6, by decide, tbm 205 (by decide +kernel) rfl, rfl, rfl⟩
theorem fl_RX6_59 : FL RX6 59 6 12 true := ⟨_, _, _, ckX6, by decide, tbm 206 (by decide +kernel) rfl, rfl, rfl⟩
theorem fl_RX3_11 : FL RX3 11 3 0 true := ⟨_, _, _, ckX3, by decide, tbm 234 (by decide +kernel) rfl, rfl, rfl⟩
theorem fl_RX7_43 : FL RX7 43 3 0 true := ⟨_, _, _, ckX3, by decide, tbm 235 (by decide +kernel) rfl, rfl, rfl⟩
theorem fl_RX9_71 : FL RX9 71 3 0 true := ⟨_, _, _, ckX3, by decide, tbm 236 (by decide +kernel) rfl, rfl, rfl⟩
theorem fl_RX3_17 : FL RX3 17 3 1 true := ⟨_, _, _, ckX3, by decide, tbm 237 (by decide +kernel) rfl, rfl, rfl⟩
theorem fl_RX9_113 : FL RX9 113 3 1 true := ⟨_, _, _, ckX3, by decide, tbm 238 (by decide +kernel) rfl, rfl, rfl⟩
theorem fl_RX3_28 : FL RX3 28 3 2 false := ⟨_, _, _, ckX3, by decide, tbm 239 (by decide +kernel) rfl, rfl, rfl⟩
theorem fl_RX7_71 : FL RX7 71 3 2 false := ⟨_, _, _, ckX3, by decide, tbm 240 (by decide +kernel) rfl, rfl, rfl⟩
theorem fl_RX9_129 : FL RX9 129 3 2 false := ⟨_, _, _, ckX3, by decide, tbm 241 (by decide +kernel) rfl, rfl, rfl⟩
theorem cl_RX9_23 : Cond.classLink RX9 23 RX7 ∈ tb := tbm 249 (by decide +kernel) rfl
theorem in_RX7 : Cond.instantiable RX7 4 ∈ tb := tbm 250 (by decide +kernel) rfl
theorem ok_RX9_25 : okN RX9 25 mX7_init 0 := ⟨by decide +kernel, ini_RX7, cdX7_init, by decide +kernel⟩
theorem ml_RX7_3 : Cond.methodLink RX7 3 Lib.objectInit ∈ tb := tbm 254 (by decide +kernel) rfl
theorem cl_RX7_9 : Cond.classLink RX7 9 RX3 ∈ tb := tbm 255 (by decide +kernel) rfl
theorem ok_RX7_11 : okC RX7 11 mX3_init 0 := ⟨tbm 256 (by decide +kernel) rfl, ini_RX3, cdX3_init, by decide +kernel⟩
theorem cl_RX7_18 : Cond.classLink RX7 18 RX4 ∈ tb := tbm 257 (by decide +kernel) rfl
theorem ok_RX7_20 : okN RX7 20 mX4_init 0 := ⟨by decide +kernel, ini_RX4, cdX4_init, by decide +kernel⟩
theorem fl_RX7_12 : FL RX7 12 7 0 true := ⟨_, _, _, ckX7, by decide, tbm 259 (by decide +kernel) rfl, rfl, rfl⟩
theorem fl_RX9_203 : FL RX9 203 7 0 true := ⟨_, _, _, ckX7, by decide, tbm 260 (by decide +kernel) rfl, rfl, rfl⟩
theorem fl_RX7_21 : FL RX7 21 7 1 true := ⟨_, _, _, ckX7, by decide, tbm 261 (by decide +kernel) rfl, rfl, rfl⟩
theorem fl_RX7_29 : FL RX7 29 7 2 false := ⟨_, _, _, ckX7, by decide, tbm 262 (by decide +kernel) rfl, rfl, rfl⟩
theorem fl_RX9_197 : FL RX9 197 7 2 false := ⟨_, _, _, ckX7, by decide, tbm 263 (by decide +kernel) rfl, rfl, rfl⟩
theorem fl_RX7_33 : FL RX7 33 7 3 false := ⟨_, _, _, ckX7, by decide, tbm 264 (by decide +kernel) rfl, rfl, rfl⟩
theorem fl_RX9_200 : FL RX9 200 7 3 false := ⟨_, _, _, ckX7, by decide, tbm 265 (by decide +kernel) rfl, rfl, rfl⟩
theorem cl_RX9_34 : Cond.classLink RX9 34 RX4 ∈ tb := tbm 276 (by decide +kernel) rfl
theorem ok_RX9_36 : okN RX9 36 mX4_init 0 := ⟨by decide +kernel, ini_RX4, cdX4_init, by decide +kernel⟩
theorem cl_RX9_41 : Cond.classLink RX9 41 RX8 ∈ tb := tbm 278 (by decide +kernel) rfl
theorem in_RX8 : Cond.instantiable RX8 2 ∈ tb := tbm 279 (by decide +kernel) rfl
theorem ok_RX9_43 : okN RX9 43 mX8_init 0 := ⟨by decide +kernel, ini_RX8, cdX8_init, by decide +kernel⟩
theorem ml_RX8_3 : Cond.methodLink RX8 3 Lib.objectInit ∈ tb := tbm 283 (by decide +kernel) rfl
theorem fl_RX8_9 : FL RX8 9 8 0 true := ⟨_, _, _, ckX8, by decide, tbm 284 (by decide +kernel) rfl, rfl, rfl⟩
theorem fl_RX8_15 : FL RX8 15 8 1 false := ⟨_, _, _, ckX8, by decide, tbm 285 (by decide +kernel) rfl, rfl, rfl⟩
theorem fl_RX9_163 : FL RX9 163 8 1 false := ⟨_, _, _, ckX8, by decide, tbm 286 (by decide +kernel) rfl, rfl, rfl⟩
theorem fl_RX9_10 : FL RX9 10 9 0 true := ⟨_, _, _, ckX9, by decide, tbm 292 (by decide +kernel) rfl, rfl, rfl⟩
theorem fl_RX9_19 : FL RX9 19 9 1 true := ⟨_, _, _, ckX9, by decide, tbm 293 (by decide +kernel) rfl, rfl, rfl⟩
theorem fl_RX9_26 : FL RX9 26 9 2 true := ⟨_, _, _, ckX9, by decide, tbm 294 (by decide +kernel) rfl, rfl, rfl⟩
theorem fl_RX9_30 : FL RX9 30 9 3 true := ⟨_, _, _, ckX9, by decide, tbm 295 (by decide +kernel) rfl, rfl, rfl⟩
theorem fl_RX9_37 : FL RX9 37 9 4 true := ⟨_, _, _, ckX9, by decide, tbm 296 (by decide +kernel) rfl, rfl, rfl⟩
theorem fl_RX9_44 : FL RX9 44 9 5 true := ⟨_, _, _, ckX9, by decide, tbm 297 (by decide +kernel) rfl, rfl, rfl⟩
theorem ok_RL_13 : okC RL 13 mX9_say 1 := ⟨tbm 311 (by decide +kernel) rfl, ini_RX9, cdX9_say, by decide +kernel⟩
theorem ok_RX9_52 : okC RX9 52 mX5_add 1 := ⟨tbm 315 (by decide +kernel) rfl, ini_RX5, cdX5_add, by decide +kernel⟩
theorem ok_RL_18 : okC RL 18 mX9_wipe 0 := ⟨tbm 319 (by decide +kernel) rfl, ini_RX9, cdX9_wipe, by decide +kernel⟩
theorem ok_RX9_56 : okC RX9 56 mX5_clear 0 := ⟨tbm 323 (by decide +kernel) rfl, ini_RX5, cdX5_clear, by decide +kernel⟩
theorem ok_RL_23 : okC RL 23 mX9_fault 0 := ⟨tbm 327 (by decide +kernel) rfl, ini_RX9, cdX9_fault, by decide +kernel⟩
theorem ok_RX9_59 : okC RX9 59 mX5_readPacket 1 := ⟨tbm 331 (by decide +kernel) rfl, ini_RX5, cdX5_readPacket, by decide +kernel⟩
theorem ok_RX5_26 : okC RX5 26 mX4_clear 0 := ⟨tbm 335 (by decide +kernel) rfl, ini_RX4, cdX4_clear, by decide +kernel⟩
theorem ok_RX5_22 : okC RX5 22 mX5_readLetters 2 := ⟨tbm 339 (by decide +kernel) rfl, ini_RX5, cdX5_readLetters, by decide +kernel⟩
theorem ok_RX5_45 : okC RX5 45 mX5_peek 0 := ⟨tbm 343 (by decide +kernel) rfl, ini_RX5, cdX5_peek, by decide +kernel⟩
theorem ok_RX5_34 : okC RX5 34 mX5_take 1 := ⟨tbm 347 (by decide +kernel) rfl, ini_RX5, cdX5_take, by decide +kernel⟩
theorem ok_RX5_38 : okC RX5 38 mX5_readWords 1 := ⟨tbm 351 (by decide +kernel) rfl, ini_RX5, cdX5_readWords, by decide +kernel⟩
theorem ok_RX5_49 : okC RX5 49 mX5_readWord 1 := ⟨tbm 355 (by decide +kernel) rfl, ini_RX5, cdX5_readWord, by decide +kernel⟩
theorem ok_RX5_52 : okN RX5 52 mX9_isHops 1 := ⟨by decide +kernel, ini_RX9, cdX9_isHops, by decide +kernel⟩
theorem ok_RX5_55 : okC RX5 55 mX4_addWord 3 := ⟨tbm 362 (by decide +kernel) rfl, ini_RX4, cdX4_addWord, by decide +kernel⟩
theorem ok_RL_27 : okC RL 27 mX9_name 2 := ⟨tbm 366 (by decide +kernel) rfl, ini_RX9, cdX9_name, by decide +kernel⟩
theorem ok_RX9_63 : okC RX9 63 mX9_isStation 1 := ⟨tbm 370 (by decide +kernel) rfl, ini_RX9, cdX9_isStation, by decide +kernel⟩
theorem ok_RX9_67 : okC RX9 67 mX5_readName 0 := ⟨tbm 373 (by decide +kernel) rfl, ini_RX5, cdX5_readName, by decide +kernel⟩
theorem ok_RX9_75 : okC RX9 75 mX3_stationCalled 1 := ⟨tbm 377 (by decide +kernel) rfl, ini_RX3, cdX3_stationCalled, by decide +kernel⟩
theorem ok_RX9_94 : okC RX9 94 mX2_add 1 := ⟨tbm 381 (by decide +kernel) rfl, ini_RX2, cdX2_add, by decide +kernel⟩
theorem ok_RL_32 : okC RL 32 mX9_forget 2 := ⟨tbm 385 (by decide +kernel) rfl, ini_RX9, cdX9_forget, by decide +kernel⟩
theorem ok_RX9_95 : okC RX9 95 mX2_clear 0 := ⟨tbm 389 (by decide +kernel) rfl, ini_RX2, cdX2_clear, by decide +kernel⟩
theorem ok_RL_36 : okC RL 36 mX9_set 3 := ⟨tbm 393 (by decide +kernel) rfl, ini_RX9, cdX9_set, by decide +kernel⟩
theorem ok_RX9_96 : okC RX9 96 mX9_isSetting 2 := ⟨tbm 397 (by decide +kernel) rfl, ini_RX9, cdX9_isSetting, by decide +kernel⟩
theorem ok_RL_41 : okC RL 41 mX9_near 3 := ⟨tbm 400 (by decide +kernel) rfl, ini_RX9, cdX9_near, by decide +kernel⟩
theorem ok_RX9_109 : okC RX9 109 mX3_join 3 := ⟨tbm 404 (by decide +kernel) rfl, ini_RX3, cdX3_join, by decide +kernel⟩
theorem ok_RX3_35 : okN RX3 35 mX9_isStation 1 := ⟨by decide +kernel, ini_RX9, cdX9_isStation, by decide +kernel⟩
theorem ok_RX9_117 : okC RX9 117 mJ6_bitCount_0f7a4 1 := ⟨tbm 409 (by decide +kernel) rfl, ini_RJ6, cdJ6_bitCount_0f7a4, by decide +kernel⟩
theorem ct_RJ6_265 : Cond.constant RJ6 265 1431655765 ∈ tb := tbm 412 (by decide +kernel) rfl
theorem ct_RJ6_266 : Cond.constant RJ6 266 858993459 ∈ tb := tbm 413 (by decide +kernel) rfl
theorem ct_RJ6_267 : Cond.constant RJ6 267 252645135 ∈ tb := tbm 414 (by decide +kernel) rfl
theorem ok_RL_45 : okC RL 45 mX9_send 1 := ⟨tbm 415 (by decide +kernel) rfl, ini_RX9, cdX9_send, by decide +kernel⟩
theorem ok_RX9_132 : okC RX9 132 mX6_originate 2 := ⟨tbm 419 (by decide +kernel) rfl, ini_RX6, cdX6_originate, by decide +kernel⟩
theorem ok_RX6_95 : okC RX6 95 mX0_add 2 := ⟨tbm 423 (by decide +kernel) rfl, ini_RX0, cdX0_add, by decide +kernel⟩
theorem ok_RX0_26 : okC RX0 26 mX4_copyFrom 1 := ⟨tbm 427 (by decide +kernel) rfl, ini_RX4, cdX4_copyFrom, by decide +kernel⟩
theorem ml_RX4_15 : Cond.methodLink RX4 15 arraycopyName ∈ tb := tbm 431 (by decide +kernel) rfl
theorem x_nat : Cond.native arraycopyName ∈ tb := tbm 433 (by decide +kernel) rfl
theorem ok_RX6_99 : okC RX6 99 mX1_placeOf 1 := ⟨tbm 434 (by decide +kernel) rfl, ini_RX1, cdX1_placeOf, by decide +kernel⟩
theorem ok_RX6_103 : okC RX6 103 mX1_removeAt 1 := ⟨tbm 438 (by decide +kernel) rfl, ini_RX1, cdX1_removeAt, by decide +kernel⟩
theorem ok_RX1_43 : okC RX1 43 mX1_move 2 := ⟨tbm 442 (by decide +kernel) rfl, ini_RX1, cdX1_move, by decide +kernel⟩
theorem ok_RX6_107 : okC RX6 107 mX1_add 2 := ⟨tbm 446 (by decide +kernel) rfl, ini_RX1, cdX1_add, by decide +kernel⟩
theorem ok_RX1_39 : okC RX1 39 mX1_removeAt 1 := ⟨tbm 450 (by decide +kernel) rfl, ini_RX1, cdX1_removeAt, by decide +kernel⟩
theorem ok_RL_49 : okC RL 49 mX9_run 1 := ⟨tbm 451 (by decide +kernel) rfl, ini_RX9, cdX9_run, by decide +kernel⟩
theorem ok_RX9_136 : okC RX9 136 mX3_passTick 0 := ⟨tbm 455 (by decide +kernel) rfl, ini_RX3, cdX3_passTick, by decide +kernel⟩
theorem ok_RX3_39 : okC RX3 39 mX6_startSending 1 := ⟨tbm 459 (by decide +kernel) rfl, ini_RX6, cdX6_startSending, by decide +kernel⟩
theorem ok_RX6_110 : okC RX6 110 mX0_takeDue 2 := ⟨tbm 463 (by decide +kernel) rfl, ini_RX0, cdX0_takeDue, by decide +kernel⟩
theorem ok_RX0_30 : okC RX0 30 mX0_removeAt 1 := ⟨tbm 467 (by decide +kernel) rfl, ini_RX0, cdX0_removeAt, by decide +kernel⟩
theorem ok_RX3_42 : okN RX3 42 mX9_isIn 2 := ⟨by decide +kernel, ini_RX9, cdX9_isIn, by decide +kernel⟩
theorem ok_RX3_46 : okC RX3 46 mX3_firstIn 1 := ⟨tbm 474 (by decide +kernel) rfl, ini_RX3, cdX3_firstIn, by decide +kernel⟩
theorem ok_RX3_50 : okC RX3 50 mJ6_bitCount_0f7a4 1 := ⟨tbm 477 (by decide +kernel) rfl, ini_RJ6, cdJ6_bitCount_0f7a4, by decide +kernel⟩
theorem ok_RX3_62 : okC RX3 62 mX6_hear 2 := ⟨tbm 478 (by decide +kernel) rfl, ini_RX6, cdX6_hear, by decide +kernel⟩
theorem ok_RX6_82 : okC RX6 82 mX4_copyFrom 1 := ⟨tbm 482 (by decide +kernel) rfl, ini_RX4, cdX4_copyFrom, by decide +kernel⟩
theorem ok_RX6_114 : okC RX6 114 mX1_dropOld 2 := ⟨tbm 483 (by decide +kernel) rfl, ini_RX1, cdX1_dropOld, by decide +kernel⟩
theorem ok_RX6_118 : okC RX6 118 mX4_wasSentBy 1 := ⟨tbm 487 (by decide +kernel) rfl, ini_RX4, cdX4_wasSentBy, by decide +kernel⟩
theorem ok_RX6_122 : okC RX6 122 mX4_firstUnspent 0 := ⟨tbm 491 (by decide +kernel) rfl, ini_RX4, cdX4_firstUnspent, by decide +kernel⟩
theorem ok_RX6_126 : okC RX6 126 mX6_changeIfMeant 2 := ⟨tbm 495 (by decide +kernel) rfl, ini_RX6, cdX6_changeIfMeant, by decide +kernel⟩
theorem ok_RX6_129 : okC RX6 129 mX4_nameAt 1 := ⟨tbm 499 (by decide +kernel) rfl, ini_RX4, cdX4_nameAt, by decide +kernel⟩
theorem ok_RX4_31 : okC RX4 31 mX4_isPlace 1 := ⟨tbm 503 (by decide +kernel) rfl, ini_RX4, cdX4_isPlace, by decide +kernel⟩
theorem ok_RX6_133 : okC RX6 133 mX4_hopsAt 1 := ⟨tbm 507 (by decide +kernel) rfl, ini_RX4, cdX4_hopsAt, by decide +kernel⟩
theorem ok_RX6_136 : okC RX6 136 mX2_has 1 := ⟨tbm 511 (by decide +kernel) rfl, ini_RX2, cdX2_has, by decide +kernel⟩
theorem ok_RX6_139 : okC RX6 139 mX4_spend 2 := ⟨tbm 515 (by decide +kernel) rfl, ini_RX4, cdX4_spend, by decide +kernel⟩
theorem ml_RX6_142 : Cond.methodLink RX6 142 Lib.Math.min.name ∈ tb := tbm 519 (by decide +kernel) rfl
theorem ok_RX6_148 : okC RX6 148 mX4_setHops 2 := ⟨tbm 522 (by decide +kernel) rfl, ini_RX4, cdX4_setHops, by decide +kernel⟩
theorem ok_RX6_151 : okC RX6 151 mX4_putAhead 2 := ⟨tbm 526 (by decide +kernel) rfl, ini_RX4, cdX4_putAhead, by decide +kernel⟩
theorem ok_RX9_139 : okC RX9 139 mX3_keptByAll 0 := ⟨tbm 530 (by decide +kernel) rfl, ini_RX3, cdX3_keptByAll, by decide +kernel⟩
theorem ok_RL_53 : okC RL 53 mX9_heard 2 := ⟨tbm 534 (by decide +kernel) rfl, ini_RX9, cdX9_heard, by decide +kernel⟩
theorem ok_RL_57 : okC RL 57 mX9_written 2 := ⟨tbm 538 (by decide +kernel) rfl, ini_RX9, cdX9_written, by decide +kernel⟩
theorem ok_RX9_152 : okC RX9 152 mX6_hasHeard 0 := ⟨tbm 542 (by decide +kernel) rfl, ini_RX6, cdX6_hasHeard, by decide +kernel⟩
theorem ok_RX9_159 : okC RX9 159 mX8_write 1 := ⟨tbm 546 (by decide +kernel) rfl, ini_RX8, cdX8_write, by decide +kernel⟩
theorem ok_RX8_24 : okC RX8 24 mX8_putLetters 2 := ⟨tbm 550 (by decide +kernel) rfl, ini_RX8, cdX8_putLetters, by decide +kernel⟩
theorem ok_RX8_28 : okC RX8 28 mX8_put 1 := ⟨tbm 554 (by decide +kernel) rfl, ini_RX8, cdX8_put, by decide +kernel⟩
theorem ok_RX8_33 : okC RX8 33 mX8_putWord 2 := ⟨tbm 558 (by decide +kernel) rfl, ini_RX8, cdX8_putWord, by decide +kernel⟩
theorem ok_RX8_40 : okC RX8 40 mX4_nameAt 1 := ⟨tbm 562 (by decide +kernel) rfl, ini_RX4, cdX4_nameAt, by decide +kernel⟩
theorem ok_RX8_44 : okC RX8 44 mX4_hopsAt 1 := ⟨tbm 563 (by decide +kernel) rfl, ini_RX4, cdX4_hopsAt, by decide +kernel⟩
theorem ok_RX8_47 : okC RX8 47 mX4_isSpentAt 1 := ⟨tbm 564 (by decide +kernel) rfl, ini_RX4, cdX4_isSpentAt, by decide +kernel⟩
theorem ok_RX9_164 : okC RX9 164 mX8_signAt 1 := ⟨tbm 568 (by decide +kernel) rfl, ini_RX8, cdX8_signAt, by decide +kernel⟩
theorem ok_RL_61 : okC RL 61 mX9_last 2 := ⟨tbm 572 (by decide +kernel) rfl, ini_RX9, cdX9_last, by decide +kernel⟩
theorem ok_RX9_168 : okC RX9 168 mX4_spentWords 0 := ⟨tbm 576 (by decide +kernel) rfl, ini_RX4, cdX4_spentWords, by decide +kernel⟩
theorem ok_RX9_174 : okC RX9 174 mX4_firstUnspent 0 := ⟨tbm 580 (by decide +kernel) rfl, ini_RX4, cdX4_firstUnspent, by decide +kernel⟩
theorem ok_RX9_177 : okC RX9 177 mX4_hopsAt 1 := ⟨tbm 581 (by decide +kernel) rfl, ini_RX4, cdX4_hopsAt, by decide +kernel⟩
theorem ok_RL_65 : okC RL 65 mX9_trail 2 := ⟨tbm 582 (by decide +kernel) rfl, ini_RX9, cdX9_trail, by decide +kernel⟩
theorem ok_RX9_180 : okC RX9 180 mX4_placeOfSpent 1 := ⟨tbm 586 (by decide +kernel) rfl, ini_RX4, cdX4_placeOfSpent, by decide +kernel⟩
theorem ok_RX9_183 : okC RX9 183 mX4_nameAt 1 := ⟨tbm 590 (by decide +kernel) rfl, ini_RX4, cdX4_nameAt, by decide +kernel⟩
theorem ok_RL_69 : okC RL 69 mX9_reach 3 := ⟨tbm 591 (by decide +kernel) rfl, ini_RX9, cdX9_reach, by decide +kernel⟩
theorem ok_RX9_186 : okC RX9 186 mX9_isHops 1 := ⟨tbm 595 (by decide +kernel) rfl, ini_RX9, cdX9_isHops, by decide +kernel⟩
theorem ok_RX9_189 : okC RX9 189 mX7_prepare 1 := ⟨tbm 596 (by decide +kernel) rfl, ini_RX7, cdX7_prepare, by decide +kernel⟩
theorem ok_RX7_25 : okC RX7 25 mX3_beginLike 1 := ⟨tbm 600 (by decide +kernel) rfl, ini_RX3, cdX3_beginLike, by decide +kernel⟩
theorem ok_RX3_32 : okC RX3 32 mX6_beginLike 1 := ⟨tbm 604 (by decide +kernel) rfl, ini_RX6, cdX6_beginLike, by decide +kernel⟩
theorem ok_RX6_65 : okC RX6 65 mX6_copySettings 1 := ⟨tbm 608 (by decide +kernel) rfl, ini_RX6, cdX6_copySettings, by decide +kernel⟩
theorem ok_RX6_92 : okC RX6 92 mX2_copyFrom 1 := ⟨tbm 612 (by decide +kernel) rfl, ini_RX2, cdX2_copyFrom, by decide +kernel⟩
theorem ml_RX2_15 : Cond.methodLink RX2 15 arraycopyName ∈ tb := tbm 616 (by decide +kernel) rfl
theorem ok_RX6_88 : okC RX6 88 mX0_clear 0 := ⟨tbm 617 (by decide +kernel) rfl, ini_RX0, cdX0_clear, by decide +kernel⟩
theorem ok_RX6_91 : okC RX6 91 mX1_clear 0 := ⟨tbm 621 (by decide +kernel) rfl, ini_RX1, cdX1_clear, by decide +kernel⟩
theorem ok_RX9_193 : okC RX9 193 mX7_spread 3 := ⟨tbm 625 (by decide +kernel) rfl, ini_RX7, cdX7_spread, by decide +kernel⟩
theorem ok_RX7_36 : okN RX7 36 mX9_isStation 1 := ⟨by decide +kernel, ini_RX9, cdX9_isStation, by decide +kernel⟩
theorem ok_RX7_40 : okC RX7 40 mX4_clear 0 := ⟨tbm 630 (by decide +kernel) rfl, ini_RX4, cdX4_clear, by decide +kernel⟩
theorem ok_RX7_58 : okC RX7 58 mX4_addWord 3 := ⟨tbm 631 (by decide +kernel) rfl, ini_RX4, cdX4_addWord, by decide +kernel⟩
theorem ok_RX7_62 : okC RX7 62 mX6_originate 2 := ⟨tbm 632 (by decide +kernel) rfl, ini_RX6, cdX6_originate, by decide +kernel⟩
theorem ct_RX7_66 : Cond.constant RX7 66 100000 ∈ tb := tbm 633 (by decide +kernel) rfl
theorem ok_RX7_67 : okC RX7 67 mX3_keptByAll 0 := ⟨tbm 634 (by decide +kernel) rfl, ini_RX3, cdX3_keptByAll, by decide +kernel⟩
theorem ok_RX7_74 : okC RX7 74 mX3_passTick 0 := ⟨tbm 635 (by decide +kernel) rfl, ini_RX3, cdX3_passTick, by decide +kernel⟩
theorem ok_RX7_77 : okC RX7 77 mX3_hearers 0 := ⟨tbm 636 (by decide +kernel) rfl, ini_RX3, cdX3_hearers, by decide +kernel⟩
theorem ok_RX3_78 : okC RX3 78 mX6_hasHeard 0 := ⟨tbm 640 (by decide +kernel) rfl, ini_RX6, cdX6_hasHeard, by decide +kernel⟩
theorem ok_RX9_204 : okC RX9 204 mX3_tallyOfAll 1 := ⟨tbm 641 (by decide +kernel) rfl, ini_RX3, cdX3_tallyOfAll, by decide +kernel⟩
theorem ok_RL_73 : okC RL 73 mX9_fewest 2 := ⟨tbm 645 (by decide +kernel) rfl, ini_RX9, cdX9_fewest, by decide +kernel⟩
theorem ok_RX9_207 : okC RX9 207 mX9_isIn 2 := ⟨tbm 649 (by decide +kernel) rfl, ini_RX9, cdX9_isIn, by decide +kernel⟩
theorem ok_RL_77 : okC RL 77 mX9_bridges 3 := ⟨tbm 650 (by decide +kernel) rfl, ini_RX9, cdX9_bridges, by decide +kernel⟩
theorem ok_RX9_210 : okC RX9 210 mX3_isolate 1 := ⟨tbm 654 (by decide +kernel) rfl, ini_RX3, cdX3_isolate, by decide +kernel⟩
theorem ok_RL_81 : okC RL 81 mX9_image 1 := ⟨tbm 658 (by decide +kernel) rfl, ini_RX9, cdX9_image, by decide +kernel⟩
theorem ok_RX9_213 : okC RX9 213 mX3_copyFrom 1 := ⟨tbm 662 (by decide +kernel) rfl, ini_RX3, cdX3_copyFrom, by decide +kernel⟩
theorem ok_RX3_24 : okC RX3 24 mX6_copyFrom 1 := ⟨tbm 666 (by decide +kernel) rfl, ini_RX6, cdX6_copyFrom, by decide +kernel⟩
theorem ml_RX6_69 : Cond.methodLink RX6 69 arraycopyName ∈ tb := tbm 670 (by decide +kernel) rfl
theorem ok_RX6_75 : okC RX6 75 mX0_copyFrom 1 := ⟨tbm 671 (by decide +kernel) rfl, ini_RX0, cdX0_copyFrom, by decide +kernel⟩
theorem ok_RX6_79 : okC RX6 79 mX1_copyFrom 1 := ⟨tbm 675 (by decide +kernel) rfl, ini_RX1, cdX1_copyFrom, by decide +kernel⟩
theorem ml_RX1_21 : Cond.methodLink RX1 21 arraycopyName ∈ tb := tbm 679 (by decide +kernel) rfl
theorem ok_RL_85 : okC RL 85 mX9_restore 1 := ⟨tbm 680 (by decide +kernel) rfl, ini_RX9, cdX9_restore, by decide +kernel⟩
theorem ok_RL_89 : okC RL 89 mX9_count 1 := ⟨tbm 684 (by decide +kernel) rfl, ini_RX9, cdX9_count, by decide +kernel⟩
theorem ok_RX9_216 : okC RX9 216 mX3_pairsNear 0 := ⟨tbm 688 (by decide +kernel) rfl, ini_RX3, cdX3_pairsNear, by decide +kernel⟩
theorem ok_RX9_219 : okC RX9 219 mX9_imagesKept 0 := ⟨tbm 692 (by decide +kernel) rfl, ini_RX9, cdX9_imagesKept, by decide +kernel⟩
theorem cl_RL_10 : Cond.classLink RL 10 RX10 ∈ tb := tbm 696 (by decide +kernel) rfl
theorem in_RX10 : Cond.instantiable RX10 16 ∈ tb := tbm 697 (by decide +kernel) rfl
theorem ok_RL_12 : okC RL 12 mX10_init 0 := ⟨tbm 698 (by decide +kernel) rfl, ini_RX10, cdX10_init, by decide +kernel⟩
theorem ml_RX10_1 : Cond.methodLink RX10 1 Lib.objectInit ∈ tb := tbm 701 (by decide +kernel) rfl
theorem fl_RX10_7 : FL RX10 7 10 0 true := ⟨_, _, _, ckX10, by decide, tbm 702 (by decide +kernel) rfl, rfl, rfl⟩
theorem fl_RX10_13 : FL RX10 13 10 1 true := ⟨_, _, _, ckX10, by decide, tbm 703 (by decide +kernel) rfl, rfl, rfl⟩
theorem fl_RX10_16 : FL RX10 16 10 2 true := ⟨_, _, _, ckX10, by decide, tbm 704 (by decide +kernel) rfl, rfl, rfl⟩
theorem fl_RX10_20 : FL RX10 20 10 3 true := ⟨_, _, _, ckX10, by decide, tbm 705 (by decide +kernel) rfl, rfl, rfl⟩
theorem fl_RX10_45 : FL RX10 45 10 4 false := ⟨_, _, _, ckX10, by decide, tbm 706 (by decide +kernel) rfl, rfl, rfl⟩
theorem fl_RX10_23 : FL RX10 23 10 5 true := ⟨_, _, _, ckX10, by decide, tbm 707 (by decide +kernel) rfl, rfl, rfl⟩
theorem fl_RX10_49 : FL RX10 49 10 6 false := ⟨_, _, _, ckX10, by decide, tbm 708 (by decide +kernel) rfl, rfl, rfl⟩
theorem fl_RX10_56 : FL RX10 56 10 7 false := ⟨_, _, _, ckX10, by decide, tbm 709 (by decide +kernel) rfl, rfl, rfl⟩
theorem fl_RX10_26 : FL RX10 26 10 8 true := ⟨_, _, _, ckX10, by decide, tbm 710 (by decide +kernel) rfl, rfl, rfl⟩
theorem fl_RX10_29 : FL RX10 29 10 9 true := ⟨_, _, _, ckX10, by decide, tbm 711 (by decide +kernel) rfl, rfl, rfl⟩
theorem fl_RX10_32 : FL RX10 32 10 10 true := ⟨_, _, _, ckX10, by decide, tbm 712 (by decide +kernel) rfl, rfl, rfl⟩
theorem fl_RX10_35 : FL RX10 35 10 11 true := ⟨_, _, _, ckX10, by decide, tbm 713 (by decide +kernel) rfl, rfl, rfl⟩
theorem fl_RX10_38 : FL RX10 38 10 12 true := ⟨_, _, _, ckX10, by decide, tbm 714 (by decide +kernel) rfl, rfl, rfl⟩
theorem fl_RX10_157 : FL RX10 157 10 13 false := ⟨_, _, _, ckX10, by decide, tbm 715 (by decide +kernel) rfl, rfl, rfl⟩
theorem fl_RX10_190 : FL RX10 190 10 14 false := ⟨_, _, _, ckX10, by decide, tbm 716 (by decide +kernel) rfl, rfl, rfl⟩
theorem fl_RX10_193 : FL RX10 193 10 15 false := ⟨_, _, _, ckX10, by decide, tbm 717 (by decide +kernel) rfl, rfl, rfl⟩
theorem ac_boolean : Cond.arrayClass .boolean ∈ tb := tbm 751 (by decide +kernel) rfl
theorem ok_RL_17 : okC RL 17 mX10_say 1 := ⟨tbm 752 (by decide +kernel) rfl, ini_RX10, cdX10_say, by decide +kernel⟩
theorem ok_RX10_41 : okC RX10 41 mX10_in 3 := ⟨tbm 756 (by decide +kernel) rfl, ini_RX10, cdX10_in, by decide +kernel⟩
theorem ok_RL_22 : okC RL 22 mX10_wipe 0 := ⟨tbm 759 (by decide +kernel) rfl, ini_RX10, cdX10_wipe, by decide +kernel⟩
theorem ok_RL_26 : okC RL 26 mX10_fault 0 := ⟨tbm 763 (by decide +kernel) rfl, ini_RX10, cdX10_fault, by decide +kernel⟩
theorem ok_RX10_74 : okC RX10 74 mX10_readPacket 0 := ⟨tbm 767 (by decide +kernel) rfl, ini_RX10, cdX10_readPacket, by decide +kernel⟩
theorem ok_RX10_63 : okC RX10 63 mX10_readLetters 2 := ⟨tbm 771 (by decide +kernel) rfl, ini_RX10, cdX10_readLetters, by decide +kernel⟩
theorem ok_RX10_52 : okC RX10 52 mX10_isLetter 1 := ⟨tbm 775 (by decide +kernel) rfl, ini_RX10, cdX10_isLetter, by decide +kernel⟩
theorem ok_RX10_67 : okC RX10 67 mX10_readSign 1 := ⟨tbm 779 (by decide +kernel) rfl, ini_RX10, cdX10_readSign, by decide +kernel⟩
theorem ok_RX10_60 : okC RX10 60 mX10_isAt 1 := ⟨tbm 783 (by decide +kernel) rfl, ini_RX10, cdX10_isAt, by decide +kernel⟩
theorem ok_RX10_71 : okC RX10 71 mX10_readWord 0 := ⟨tbm 787 (by decide +kernel) rfl, ini_RX10, cdX10_readWord, by decide +kernel⟩
theorem ok_RL_31 : okC RL 31 mX10_name 2 := ⟨tbm 791 (by decide +kernel) rfl, ini_RX10, cdX10_name, by decide +kernel⟩
theorem ok_RX10_78 : okC RX10 78 mX10_isStation 1 := ⟨tbm 795 (by decide +kernel) rfl, ini_RX10, cdX10_isStation, by decide +kernel⟩
theorem ok_RX10_81 : okC RX10 81 mX10_readName 0 := ⟨tbm 798 (by decide +kernel) rfl, ini_RX10, cdX10_readName, by decide +kernel⟩
theorem ok_RX10_84 : okC RX10 84 mX10_call 2 := ⟨tbm 802 (by decide +kernel) rfl, ini_RX10, cdX10_call, by decide +kernel⟩
theorem ok_RX10_87 : okC RX10 87 mX10_more 4 := ⟨tbm 806 (by decide +kernel) rfl, ini_RX10, cdX10_more, by decide +kernel⟩
theorem ok_RL_35 : okC RL 35 mX10_forget 2 := ⟨tbm 810 (by decide +kernel) rfl, ini_RX10, cdX10_forget, by decide +kernel⟩
theorem ok_RL_40 : okC RL 40 mX10_set 3 := ⟨tbm 814 (by decide +kernel) rfl, ini_RX10, cdX10_set, by decide +kernel⟩
theorem ok_RL_44 : okC RL 44 mX10_near 3 := ⟨tbm 818 (by decide +kernel) rfl, ini_RX10, cdX10_near, by decide +kernel⟩
theorem ok_RX10_91 : okC RX10 91 mX10_areNear 2 := ⟨tbm 822 (by decide +kernel) rfl, ini_RX10, cdX10_areNear, by decide +kernel⟩
theorem ok_RL_48 : okC RL 48 mX10_send 1 := ⟨tbm 826 (by decide +kernel) rfl, ini_RX10, cdX10_send, by decide +kernel⟩
theorem ok_RX10_113 : okC RX10 113 mX10_keep 2 := ⟨tbm 830 (by decide +kernel) rfl, ini_RX10, cdX10_keep, by decide +kernel⟩
theorem ok_RX10_95 : okC RX10 95 mX10_slot 2 := ⟨tbm 834 (by decide +kernel) rfl, ini_RX10, cdX10_slot, by decide +kernel⟩
theorem ok_RX10_116 : okC RX10 116 mX10_begin 1 := ⟨tbm 837 (by decide +kernel) rfl, ini_RX10, cdX10_begin, by decide +kernel⟩
theorem ok_RX10_105 : okC RX10 105 mX10_placeKnown 3 := ⟨tbm 841 (by decide +kernel) rfl, ini_RX10, cdX10_placeKnown, by decide +kernel⟩
theorem ok_RX10_98 : okC RX10 98 mX10_known 2 := ⟨tbm 845 (by decide +kernel) rfl, ini_RX10, cdX10_known, by decide +kernel⟩
theorem ok_RX10_101 : okC RX10 101 mX10_unknow 2 := ⟨tbm 848 (by decide +kernel) rfl, ini_RX10, cdX10_unknow, by decide +kernel⟩
theorem ok_RX10_109 : okC RX10 109 mX10_know 3 := ⟨tbm 852 (by decide +kernel) rfl, ini_RX10, cdX10_know, by decide +kernel⟩
theorem ok_RL_52 : okC RL 52 mX10_run 1 := ⟨tbm 856 (by decide +kernel) rfl, ini_RX10, cdX10_run, by decide +kernel⟩
theorem ok_RX10_151 : okC RX10 151 mX10_tick 0 := ⟨tbm 860 (by decide +kernel) rfl, ini_RX10, cdX10_tick, by decide +kernel⟩
theorem ok_RX10_122 : okC RX10 122 mX10_sendOne 1 := ⟨tbm 864 (by decide +kernel) rfl, ini_RX10, cdX10_sendOne, by decide +kernel⟩
theorem ok_RX10_119 : okC RX10 119 mX10_count 2 := ⟨tbm 868 (by decide +kernel) rfl, ini_RX10, cdX10_count, by decide +kernel⟩
theorem ok_RX10_125 : okC RX10 125 mX10_hearsFrom 1 := ⟨tbm 872 (by decide +kernel) rfl, ini_RX10, cdX10_hearsFrom, by decide +kernel⟩
theorem ok_RX10_129 : okC RX10 129 mX10_hear 2 := ⟨tbm 876 (by decide +kernel) rfl, ini_RX10, cdX10_hear, by decide +kernel⟩
theorem ok_RX10_132 : okC RX10 132 mX10_look 1 := ⟨tbm 880 (by decide +kernel) rfl, ini_RX10, cdX10_look, by decide +kernel⟩
theorem ok_RX10_138 : okC RX10 138 mX10_isOwn 1 := ⟨tbm 884 (by decide +kernel) rfl, ini_RX10, cdX10_isOwn, by decide +kernel⟩
theorem ok_RX10_135 : okC RX10 135 mX10_isSpent 1 := ⟨tbm 888 (by decide +kernel) rfl, ini_RX10, cdX10_isSpent, by decide +kernel⟩
theorem ok_RX10_141 : okC RX10 141 mX10_isFor 2 := ⟨tbm 891 (by decide +kernel) rfl, ini_RX10, cdX10_isFor, by decide +kernel⟩
theorem ok_RX10_144 : okC RX10 144 mX10_hopsOf 1 := ⟨tbm 895 (by decide +kernel) rfl, ini_RX10, cdX10_hopsOf, by decide +kernel⟩
theorem ok_RX10_147 : okC RX10 147 mX10_isOf 4 := ⟨tbm 898 (by decide +kernel) rfl, ini_RX10, cdX10_isOf, by decide +kernel⟩
theorem ok_RX10_154 : okC RX10 154 mX10_keptByAll 0 := ⟨tbm 902 (by decide +kernel) rfl, ini_RX10, cdX10_keptByAll, by decide +kernel⟩
theorem ok_RL_56 : okC RL 56 mX10_heard 2 := ⟨tbm 906 (by decide +kernel) rfl, ini_RX10, cdX10_heard, by decide +kernel⟩
theorem ok_RL_60 : okC RL 60 mX10_written 2 := ⟨tbm 910 (by decide +kernel) rfl, ini_RX10, cdX10_written, by decide +kernel⟩
theorem ok_RX10_172 : okC RX10 172 mX10_layLine 1 := ⟨tbm 914 (by decide +kernel) rfl, ini_RX10, cdX10_layLine, by decide +kernel⟩
theorem ok_RX10_163 : okC RX10 163 mX10_putLetters 2 := ⟨tbm 918 (by decide +kernel) rfl, ini_RX10, cdX10_putLetters, by decide +kernel⟩
theorem ok_RX10_160 : okC RX10 160 mX10_put 1 := ⟨tbm 922 (by decide +kernel) rfl, ini_RX10, cdX10_put, by decide +kernel⟩
theorem ok_RX10_166 : okC RX10 166 mX10_words 1 := ⟨tbm 926 (by decide +kernel) rfl, ini_RX10, cdX10_words, by decide +kernel⟩
theorem ok_RX10_169 : okC RX10 169 mX10_word 2 := ⟨tbm 930 (by decide +kernel) rfl, ini_RX10, cdX10_word, by decide +kernel⟩
theorem ok_RL_64 : okC RL 64 mX10_last 2 := ⟨tbm 934 (by decide +kernel) rfl, ini_RX10, cdX10_last, by decide +kernel⟩
theorem ok_RX10_175 : okC RX10 175 mX10_spentWords 1 := ⟨tbm 938 (by decide +kernel) rfl, ini_RX10, cdX10_spentWords, by decide +kernel⟩
theorem ok_RX10_178 : okC RX10 178 mX10_firstHops 1 := ⟨tbm 942 (by decide +kernel) rfl, ini_RX10, cdX10_firstHops, by decide +kernel⟩
theorem ok_RL_68 : okC RL 68 mX10_trail 2 := ⟨tbm 946 (by decide +kernel) rfl, ini_RX10, cdX10_trail, by decide +kernel⟩
theorem ok_RX10_181 : okC RX10 181 mX10_stationOf 1 := ⟨tbm 950 (by decide +kernel) rfl, ini_RX10, cdX10_stationOf, by decide +kernel⟩
theorem ok_RL_72 : okC RL 72 mX10_reach 3 := ⟨tbm 954 (by decide +kernel) rfl, ini_RX10, cdX10_reach, by decide +kernel⟩
theorem ok_RX10_199 : okC RX10 199 mX10_reachFrom 4 := ⟨tbm 958 (by decide +kernel) rfl, ini_RX10, cdX10_reachFrom, by decide +kernel⟩
theorem ok_RX10_184 : okC RX10 184 mX10_save 1 := ⟨tbm 962 (by decide +kernel) rfl, ini_RX10, cdX10_save, by decide +kernel⟩
theorem ok_RX10_187 : okC RX10 187 mX10_sumOf 1 := ⟨tbm 966 (by decide +kernel) rfl, ini_RX10, cdX10_sumOf, by decide +kernel⟩
theorem ok_RX10_196 : okC RX10 196 mX10_load 1 := ⟨tbm 970 (by decide +kernel) rfl, ini_RX10, cdX10_load, by decide +kernel⟩
theorem ok_RX10_202 : okC RX10 202 mX10_latest 0 := ⟨tbm 974 (by decide +kernel) rfl, ini_RX10, cdX10_latest, by decide +kernel⟩
theorem ok_RL_76 : okC RL 76 mX10_fewest 2 := ⟨tbm 978 (by decide +kernel) rfl, ini_RX10, cdX10_fewest, by decide +kernel⟩
theorem ok_RL_80 : okC RL 80 mX10_bridges 3 := ⟨tbm 982 (by decide +kernel) rfl, ini_RX10, cdX10_bridges, by decide +kernel⟩
theorem ok_RL_84 : okC RL 84 mX10_image 1 := ⟨tbm 986 (by decide +kernel) rfl, ini_RX10, cdX10_image, by decide +kernel⟩
theorem ok_RL_88 : okC RL 88 mX10_restore 1 := ⟨tbm 990 (by decide +kernel) rfl, ini_RX10, cdX10_restore, by decide +kernel⟩
theorem ok_RL_92 : okC RL 92 mX10_count_ 1 := ⟨tbm 994 (by decide +kernel) rfl, ini_RX10, cdX10_count_, by decide +kernel⟩
theorem ok_RX10_205 : okC RX10 205 mX10_pairs 0 := ⟨tbm 998 (by decide +kernel) rfl, ini_RX10, cdX10_pairs, by decide +kernel⟩
theorem x_sta : Cond.static arraycopyName ∈ tb := tbm 432 (by decide +kernel) rfl
theorem x_sys : Cond.initialized "java/lang/System" ∈ tb := tbm 53 (by decide +kernel) rfl
theorem x_ms : Cond.static Lib.Math.min.name ∈ tb := tbm 520 (by decide +kernel) rfl
theorem x_mi : Cond.initialized "java/lang/Math" ∈ tb := tbm 54 (by decide +kernel) rfl
theorem x_mc : Cond.code Lib.Math.min.name Lib.Math.min.code 2 (some .int) ∈ tb := tbm 521 (by decide +kernel) rfl
