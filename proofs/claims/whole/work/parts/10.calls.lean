def vM (μ : Mth) (ci n : Nat) : Prop := okM μ ∧ (dW (.instanceMethod μ.1) ∧ dW (.selects μ.1.cls μ.1 μ.1)) ∧ (∃ q, vwCl[ci]? = some q ∧ q.1 = μ.1.cls) ∧ n = nP μ ∧ μ.2.2.2.2.1 = μ.1.cls
def sM (μ : Mth) (n : Nat) : Prop := okM μ ∧ dW (.static μ.1) ∧ n = nP μ ∧ μ.2.2.2.2.1 = μ.1.cls
theorem vX0_exists : vM mX0_exists 0 0 := ⟨okX0_exists, ⟨dW_at 318 (by decide +kernel), dW_at 319 (by decide +kernel)⟩, ⟨_, rfl, rfl⟩, by decide +kernel, rfl⟩
theorem vX0_hasItem : vM mX0_hasItem 0 1 := ⟨okX0_hasItem, ⟨dW_at 334 (by decide +kernel), dW_at 335 (by decide +kernel)⟩, ⟨_, rfl, rfl⟩, by decide +kernel, rfl⟩
theorem vX0_forget : vM mX0_forget 0 0 := ⟨okX0_forget, ⟨dW_at 205 (by decide +kernel), dW_at 206 (by decide +kernel)⟩, ⟨_, rfl, rfl⟩, by decide +kernel, rfl⟩
theorem vX0_beginAt : vM mX0_beginAt 0 1 := ⟨okX0_beginAt, ⟨dW_at 302 (by decide +kernel), dW_at 303 (by decide +kernel)⟩, ⟨_, rfl, rfl⟩, by decide +kernel, rfl⟩
theorem vX0_copyFrom : vM mX0_copyFrom 0 1 := ⟨okX0_copyFrom, ⟨dW_at 468 (by decide +kernel), dW_at 469 (by decide +kernel)⟩, ⟨_, rfl, rfl⟩, by decide +kernel, rfl⟩
theorem vX0_nextBy : vM mX0_nextBy 0 1 := ⟨okX0_nextBy, ⟨dW_at 330 (by decide +kernel), dW_at 331 (by decide +kernel)⟩, ⟨_, rfl, rfl⟩, by decide +kernel, rfl⟩
theorem vX0_addItem : vM mX0_addItem 0 3 := ⟨okX0_addItem, ⟨dW_at 310 (by decide +kernel), dW_at 311 (by decide +kernel)⟩, ⟨_, rfl, rfl⟩, by decide +kernel, rfl⟩
theorem vX0_takeOut : vM mX0_takeOut 0 1 := ⟨okX0_takeOut, ⟨dW_at 338 (by decide +kernel), dW_at 339 (by decide +kernel)⟩, ⟨_, rfl, rfl⟩, by decide +kernel, rfl⟩
theorem vX0_addEnded : vM mX0_addEnded 0 2 := ⟨okX0_addEnded, ⟨dW_at 345 (by decide +kernel), dW_at 346 (by decide +kernel)⟩, ⟨_, rfl, rfl⟩, by decide +kernel, rfl⟩
theorem vX0_addLeft : vM mX0_addLeft 0 2 := ⟨okX0_addLeft, ⟨dW_at 349 (by decide +kernel), dW_at 350 (by decide +kernel)⟩, ⟨_, rfl, rfl⟩, by decide +kernel, rfl⟩
theorem vX0_itemAt : vM mX0_itemAt 0 2 := ⟨okX0_itemAt, ⟨dW_at 377 (by decide +kernel), dW_at 378 (by decide +kernel)⟩, ⟨_, rfl, rfl⟩, by decide +kernel, rfl⟩
theorem vX0_countNew : vM mX0_countNew 0 2 := ⟨okX0_countNew, ⟨dW_at 373 (by decide +kernel), dW_at 374 (by decide +kernel)⟩, ⟨_, rfl, rfl⟩, by decide +kernel, rfl⟩
theorem vX0_putShares : vM mX0_putShares 0 2 := ⟨okX0_putShares, ⟨dW_at 385 (by decide +kernel), dW_at 386 (by decide +kernel)⟩, ⟨_, rfl, rfl⟩, by decide +kernel, rfl⟩
theorem vX0_endedIn : vM mX0_endedIn 0 1 := ⟨okX0_endedIn, ⟨dW_at 404 (by decide +kernel), dW_at 405 (by decide +kernel)⟩, ⟨_, rfl, rfl⟩, by decide +kernel, rfl⟩
theorem vX1_divide : vM mX1_divide 1 4 := ⟨okX1_divide, ⟨dW_at 353 (by decide +kernel), dW_at 354 (by decide +kernel)⟩, ⟨_, rfl, rfl⟩, by decide +kernel, rfl⟩
theorem vX1_spread : vM mX1_spread 1 5 := ⟨okX1_spread, ⟨dW_at 357 (by decide +kernel), dW_at 358 (by decide +kernel)⟩, ⟨_, rfl, rfl⟩, by decide +kernel, rfl⟩
theorem vX1_portion : vM mX1_portion 1 1 := ⟨okX1_portion, ⟨dW_at 361 (by decide +kernel), dW_at 362 (by decide +kernel)⟩, ⟨_, rfl, rfl⟩, by decide +kernel, rfl⟩
theorem vX1_add : vM mX1_add 1 3 := ⟨okX1_add, ⟨dW_at 365 (by decide +kernel), dW_at 366 (by decide +kernel)⟩, ⟨_, rfl, rfl⟩, by decide +kernel, rfl⟩
theorem vX1_isRepeated : vM mX1_isRepeated 1 1 := ⟨okX1_isRepeated, ⟨dW_at 381 (by decide +kernel), dW_at 382 (by decide +kernel)⟩, ⟨_, rfl, rfl⟩, by decide +kernel, rfl⟩
theorem vX2_has : vM mX2_has 2 1 := ⟨okX2_has, ⟨dW_at 228 (by decide +kernel), dW_at 229 (by decide +kernel)⟩, ⟨_, rfl, rfl⟩, by decide +kernel, rfl⟩
theorem vX2_goesOn : vM mX2_goesOn 2 1 := ⟨okX2_goesOn, ⟨dW_at 224 (by decide +kernel), dW_at 225 (by decide +kernel)⟩, ⟨_, rfl, rfl⟩, by decide +kernel, rfl⟩
theorem vX2_addState : vM mX2_addState 2 1 := ⟨okX2_addState, ⟨dW_at 216 (by decide +kernel), dW_at 217 (by decide +kernel)⟩, ⟨_, rfl, rfl⟩, by decide +kernel, rfl⟩
theorem vX2_addSixteenths : vM mX2_addSixteenths 2 3 := ⟨okX2_addSixteenths, ⟨dW_at 233 (by decide +kernel), dW_at 234 (by decide +kernel)⟩, ⟨_, rfl, rfl⟩, by decide +kernel, rfl⟩
theorem vX2_arrowTo : vM mX2_arrowTo 2 2 := ⟨okX2_arrowTo, ⟨dW_at 237 (by decide +kernel), dW_at 238 (by decide +kernel)⟩, ⟨_, rfl, rfl⟩, by decide +kernel, rfl⟩
theorem vX2_sixteenthsTo : vM mX2_sixteenthsTo 2 2 := ⟨okX2_sixteenthsTo, ⟨dW_at 253 (by decide +kernel), dW_at 254 (by decide +kernel)⟩, ⟨_, rfl, rfl⟩, by decide +kernel, rfl⟩
theorem vX2_isWhole : vM mX2_isWhole 2 1 := ⟨okX2_isWhole, ⟨dW_at 257 (by decide +kernel), dW_at 258 (by decide +kernel)⟩, ⟨_, rfl, rfl⟩, by decide +kernel, rfl⟩
theorem vX2_isProved : vM mX2_isProved 2 2 := ⟨okX2_isProved, ⟨dW_at 245 (by decide +kernel), dW_at 246 (by decide +kernel)⟩, ⟨_, rfl, rfl⟩, by decide +kernel, rfl⟩
theorem vX2_isLoop : vM mX2_isLoop 2 1 := ⟨okX2_isLoop, ⟨dW_at 249 (by decide +kernel), dW_at 250 (by decide +kernel)⟩, ⟨_, rfl, rfl⟩, by decide +kernel, rfl⟩
theorem vX2_isRing : vM mX2_isRing 2 2 := ⟨okX2_isRing, ⟨dW_at 261 (by decide +kernel), dW_at 262 (by decide +kernel)⟩, ⟨_, rfl, rfl⟩, by decide +kernel, rfl⟩
theorem vX2_forgetLaws : vM mX2_forgetLaws 2 0 := ⟨okX2_forgetLaws, ⟨dW_at 209 (by decide +kernel), dW_at 210 (by decide +kernel)⟩, ⟨_, rfl, rfl⟩, by decide +kernel, rfl⟩
theorem vX2_survey : vM mX2_survey 2 0 := ⟨okX2_survey, ⟨dW_at 277 (by decide +kernel), dW_at 278 (by decide +kernel)⟩, ⟨_, rfl, rfl⟩, by decide +kernel, rfl⟩
theorem vX2_findComings : vM mX2_findComings 2 0 := ⟨okX2_findComings, ⟨dW_at 281 (by decide +kernel), dW_at 282 (by decide +kernel)⟩, ⟨_, rfl, rfl⟩, by decide +kernel, rfl⟩
theorem vX2_comes : vM mX2_comes 2 2 := ⟨okX2_comes, ⟨dW_at 285 (by decide +kernel), dW_at 286 (by decide +kernel)⟩, ⟨_, rfl, rfl⟩, by decide +kernel, rfl⟩
theorem vX2_findReach : vM mX2_findReach 2 1 := ⟨okX2_findReach, ⟨dW_at 289 (by decide +kernel), dW_at 290 (by decide +kernel)⟩, ⟨_, rfl, rfl⟩, by decide +kernel, rfl⟩
theorem vX2_findSure : vM mX2_findSure 2 1 := ⟨okX2_findSure, ⟨dW_at 294 (by decide +kernel), dW_at 295 (by decide +kernel)⟩, ⟨_, rfl, rfl⟩, by decide +kernel, rfl⟩
theorem vX2_isWholeFrom : vM mX2_isWholeFrom 2 1 := ⟨okX2_isWholeFrom, ⟨dW_at 298 (by decide +kernel), dW_at 299 (by decide +kernel)⟩, ⟨_, rfl, rfl⟩, by decide +kernel, rfl⟩
theorem vX2_endsWithin : vM mX2_endsWithin 2 2 := ⟨okX2_endsWithin, ⟨dW_at 412 (by decide +kernel), dW_at 413 (by decide +kernel)⟩, ⟨_, rfl, rfl⟩, by decide +kernel, rfl⟩
theorem vX3_state : vM mX3_state 3 1 := ⟨okX3_state, ⟨dW_at 194 (by decide +kernel), dW_at 195 (by decide +kernel)⟩, ⟨_, rfl, rfl⟩, by decide +kernel, rfl⟩
theorem vX3_arrow : vM mX3_arrow 3 3 := ⟨okX3_arrow, ⟨dW_at 220 (by decide +kernel), dW_at 221 (by decide +kernel)⟩, ⟨_, rfl, rfl⟩, by decide +kernel, rfl⟩
theorem vX3_law : vM mX3_law 3 2 := ⟨okX3_law, ⟨dW_at 241 (by decide +kernel), dW_at 242 (by decide +kernel)⟩, ⟨_, rfl, rfl⟩, by decide +kernel, rfl⟩
theorem vX3_order : vM mX3_order 3 1 := ⟨okX3_order, ⟨dW_at 265 (by decide +kernel), dW_at 266 (by decide +kernel)⟩, ⟨_, rfl, rfl⟩, by decide +kernel, rfl⟩
theorem vX3_joined : vM mX3_joined 3 1 := ⟨okX3_joined, ⟨dW_at 269 (by decide +kernel), dW_at 270 (by decide +kernel)⟩, ⟨_, rfl, rfl⟩, by decide +kernel, rfl⟩
theorem vX3_begin : vM mX3_begin 3 1 := ⟨okX3_begin, ⟨dW_at 273 (by decide +kernel), dW_at 274 (by decide +kernel)⟩, ⟨_, rfl, rfl⟩, by decide +kernel, rfl⟩
theorem vX3_grow : vM mX3_grow 3 1 := ⟨okX3_grow, ⟨dW_at 314 (by decide +kernel), dW_at 315 (by decide +kernel)⟩, ⟨_, rfl, rfl⟩, by decide +kernel, rfl⟩
theorem vX3_until : vM mX3_until 3 3 := ⟨okX3_until, ⟨dW_at 389 (by decide +kernel), dW_at 390 (by decide +kernel)⟩, ⟨_, rfl, rfl⟩, by decide +kernel, rfl⟩
theorem vX3_end : vM mX3_end 3 2 := ⟨okX3_end, ⟨dW_at 416 (by decide +kernel), dW_at 417 (by decide +kernel)⟩, ⟨_, rfl, rfl⟩, by decide +kernel, rfl⟩
theorem vX3_given : vM mX3_given 3 3 := ⟨okX3_given, ⟨dW_at 423 (by decide +kernel), dW_at 424 (by decide +kernel)⟩, ⟨_, rfl, rfl⟩, by decide +kernel, rfl⟩
theorem vX3_best : vM mX3_best 3 2 := ⟨okX3_best, ⟨dW_at 437 (by decide +kernel), dW_at 438 (by decide +kernel)⟩, ⟨_, rfl, rfl⟩, by decide +kernel, rfl⟩
theorem vX3_item : vM mX3_item 3 2 := ⟨okX3_item, ⟨dW_at 445 (by decide +kernel), dW_at 446 (by decide +kernel)⟩, ⟨_, rfl, rfl⟩, by decide +kernel, rfl⟩
theorem vX3_units : vM mX3_units 3 1 := ⟨okX3_units, ⟨dW_at 449 (by decide +kernel), dW_at 450 (by decide +kernel)⟩, ⟨_, rfl, rfl⟩, by decide +kernel, rfl⟩
theorem vX3_found : vM mX3_found 3 1 := ⟨okX3_found, ⟨dW_at 453 (by decide +kernel), dW_at 454 (by decide +kernel)⟩, ⟨_, rfl, rfl⟩, by decide +kernel, rfl⟩
theorem vX3_rests : vM mX3_rests 3 1 := ⟨okX3_rests, ⟨dW_at 457 (by decide +kernel), dW_at 458 (by decide +kernel)⟩, ⟨_, rfl, rfl⟩, by decide +kernel, rfl⟩
theorem vX3_save : vM mX3_save 3 1 := ⟨okX3_save, ⟨dW_at 461 (by decide +kernel), dW_at 462 (by decide +kernel)⟩, ⟨_, rfl, rfl⟩, by decide +kernel, rfl⟩
theorem vX3_back : vM mX3_back 3 1 := ⟨okX3_back, ⟨dW_at 472 (by decide +kernel), dW_at 473 (by decide +kernel)⟩, ⟨_, rfl, rfl⟩, by decide +kernel, rfl⟩
theorem vX3_told : vM mX3_told 3 1 := ⟨okX3_told, ⟨dW_at 476 (by decide +kernel), dW_at 477 (by decide +kernel)⟩, ⟨_, rfl, rfl⟩, by decide +kernel, rfl⟩
theorem vX3_isOutcome : sM mX3_isOutcome 1 := ⟨okX3_isOutcome, dW_at 198 (by decide +kernel), by decide +kernel, rfl⟩
theorem vX3_isSet : sM mX3_isSet 1 := ⟨okX3_isSet, dW_at 393 (by decide +kernel), by decide +kernel, rfl⟩
theorem vX3_isSide : sM mX3_isSide 1 := ⟨okX3_isSide, dW_at 420 (by decide +kernel), by decide +kernel, rfl⟩
theorem vX3_isSave : sM mX3_isSave 1 := ⟨okX3_isSave, dW_at 465 (by decide +kernel), by decide +kernel, rfl⟩
theorem vX3_forgetWhatRestsOnWalk : vM mX3_forgetWhatRestsOnWalk 3 0 := ⟨okX3_forgetWhatRestsOnWalk, ⟨dW_at 202 (by decide +kernel), dW_at 0 (by decide +kernel)⟩, ⟨_, rfl, rfl⟩, by decide +kernel, rfl⟩
theorem vX3_goOnTimes : vM mX3_goOnTimes 3 3 := ⟨okX3_goOnTimes, ⟨dW_at 323 (by decide +kernel), dW_at 1 (by decide +kernel)⟩, ⟨_, rfl, rfl⟩, by decide +kernel, rfl⟩
theorem vX3_goOnOnce : vM mX3_goOnOnce 3 2 := ⟨okX3_goOnOnce, ⟨dW_at 327 (by decide +kernel), dW_at 2 (by decide +kernel)⟩, ⟨_, rfl, rfl⟩, by decide +kernel, rfl⟩
theorem vX3_low : vM mX3_low 3 2 := ⟨okX3_low, ⟨dW_at 409 (by decide +kernel), dW_at 5 (by decide +kernel)⟩, ⟨_, rfl, rfl⟩, by decide +kernel, rfl⟩
theorem vX3_high : vM mX3_high 3 2 := ⟨okX3_high, ⟨dW_at 401 (by decide +kernel), dW_at 4 (by decide +kernel)⟩, ⟨_, rfl, rfl⟩, by decide +kernel, rfl⟩
theorem vX3_width : vM mX3_width 3 2 := ⟨okX3_width, ⟨dW_at 397 (by decide +kernel), dW_at 3 (by decide +kernel)⟩, ⟨_, rfl, rfl⟩, by decide +kernel, rfl⟩
theorem vX3_trialWidth : vM mX3_trialWidth 3 3 := ⟨okX3_trialWidth, ⟨dW_at 442 (by decide +kernel), dW_at 6 (by decide +kernel)⟩, ⟨_, rfl, rfl⟩, by decide +kernel, rfl⟩
theorem vX3_leastPart : sM mX3_leastPart 2 := ⟨okX3_leastPart, dW_at 427 (by decide +kernel), by decide +kernel, rfl⟩
theorem vX3_greatestPart : sM mX3_greatestPart 2 := ⟨okX3_greatestPart, dW_at 434 (by decide +kernel), by decide +kernel, rfl⟩
theorem vX3_partOf : sM mX3_partOf 3 := ⟨okX3_partOf, dW_at 430 (by decide +kernel), by decide +kernel, rfl⟩
theorem vX4_in : sM mX4_in 3 := ⟨okX4_in, dW_at 566 (by decide +kernel), by decide +kernel, rfl⟩
theorem vX4_isState : vM mX4_isState 4 1 := ⟨okX4_isState, ⟨dW_at 578 (by decide +kernel), dW_at 8 (by decide +kernel)⟩, ⟨_, rfl, rfl⟩, by decide +kernel, rfl⟩
theorem vX4_forget : vM mX4_forget 4 0 := ⟨okX4_forget, ⟨dW_at 570 (by decide +kernel), dW_at 7 (by decide +kernel)⟩, ⟨_, rfl, rfl⟩, by decide +kernel, rfl⟩
theorem vX4_state : vM mX4_state 4 1 := ⟨okX4_state, ⟨dW_at 562 (by decide +kernel), dW_at 563 (by decide +kernel)⟩, ⟨_, rfl, rfl⟩, by decide +kernel, rfl⟩
theorem vX4_arrowOf : vM mX4_arrowOf 4 2 := ⟨okX4_arrowOf, ⟨dW_at 582 (by decide +kernel), dW_at 9 (by decide +kernel)⟩, ⟨_, rfl, rfl⟩, by decide +kernel, rfl⟩
theorem vX4_arrow : vM mX4_arrow 4 3 := ⟨okX4_arrow, ⟨dW_at 573 (by decide +kernel), dW_at 574 (by decide +kernel)⟩, ⟨_, rfl, rfl⟩, by decide +kernel, rfl⟩
theorem vX4_law : vM mX4_law 4 2 := ⟨okX4_law, ⟨dW_at 585 (by decide +kernel), dW_at 586 (by decide +kernel)⟩, ⟨_, rfl, rfl⟩, by decide +kernel, rfl⟩
theorem vX4_order : vM mX4_order 4 1 := ⟨okX4_order, ⟨dW_at 589 (by decide +kernel), dW_at 590 (by decide +kernel)⟩, ⟨_, rfl, rfl⟩, by decide +kernel, rfl⟩
theorem vX4_joined : vM mX4_joined 4 1 := ⟨okX4_joined, ⟨dW_at 593 (by decide +kernel), dW_at 594 (by decide +kernel)⟩, ⟨_, rfl, rfl⟩, by decide +kernel, rfl⟩
theorem vX4_comes : vM mX4_comes 4 1 := ⟨okX4_comes, ⟨dW_at 602 (by decide +kernel), dW_at 10 (by decide +kernel)⟩, ⟨_, rfl, rfl⟩, by decide +kernel, rfl⟩
theorem vX4_look : vM mX4_look 4 0 := ⟨okX4_look, ⟨dW_at 615 (by decide +kernel), dW_at 13 (by decide +kernel)⟩, ⟨_, rfl, rfl⟩, by decide +kernel, rfl⟩
theorem vX4_reach : vM mX4_reach 4 1 := ⟨okX4_reach, ⟨dW_at 611 (by decide +kernel), dW_at 12 (by decide +kernel)⟩, ⟨_, rfl, rfl⟩, by decide +kernel, rfl⟩
theorem vX4_isSure : vM mX4_isSure 4 1 := ⟨okX4_isSure, ⟨dW_at 672 (by decide +kernel), dW_at 24 (by decide +kernel)⟩, ⟨_, rfl, rfl⟩, by decide +kernel, rfl⟩
theorem vX4_open : vM mX4_open 4 2 := ⟨okX4_open, ⟨dW_at 606 (by decide +kernel), dW_at 11 (by decide +kernel)⟩, ⟨_, rfl, rfl⟩, by decide +kernel, rfl⟩
theorem vX4_begin : vM mX4_begin 4 1 := ⟨okX4_begin, ⟨dW_at 597 (by decide +kernel), dW_at 598 (by decide +kernel)⟩, ⟨_, rfl, rfl⟩, by decide +kernel, rfl⟩
theorem vX4_next : vM mX4_next 4 2 := ⟨okX4_next, ⟨dW_at 627 (by decide +kernel), dW_at 15 (by decide +kernel)⟩, ⟨_, rfl, rfl⟩, by decide +kernel, rfl⟩
theorem vX4_share : vM mX4_share 4 5 := ⟨okX4_share, ⟨dW_at 637 (by decide +kernel), dW_at 17 (by decide +kernel)⟩, ⟨_, rfl, rfl⟩, by decide +kernel, rfl⟩
theorem vX4_lay : vM mX4_lay 4 3 := ⟨okX4_lay, ⟨dW_at 631 (by decide +kernel), dW_at 16 (by decide +kernel)⟩, ⟨_, rfl, rfl⟩, by decide +kernel, rfl⟩
theorem vX4_alike : vM mX4_alike 4 4 := ⟨okX4_alike, ⟨dW_at 645 (by decide +kernel), dW_at 19 (by decide +kernel)⟩, ⟨_, rfl, rfl⟩, by decide +kernel, rfl⟩
theorem vX4_newItems : vM mX4_newItems 4 2 := ⟨okX4_newItems, ⟨dW_at 641 (by decide +kernel), dW_at 18 (by decide +kernel)⟩, ⟨_, rfl, rfl⟩, by decide +kernel, rfl⟩
theorem vX4_goOn : vM mX4_goOn 4 2 := ⟨okX4_goOn, ⟨dW_at 623 (by decide +kernel), dW_at 14 (by decide +kernel)⟩, ⟨_, rfl, rfl⟩, by decide +kernel, rfl⟩
theorem vX4_grow : vM mX4_grow 4 1 := ⟨okX4_grow, ⟨dW_at 618 (by decide +kernel), dW_at 619 (by decide +kernel)⟩, ⟨_, rfl, rfl⟩, by decide +kernel, rfl⟩
theorem vX4_isSet : sM mX4_isSet 1 := ⟨okX4_isSet, dW_at 652 (by decide +kernel), by decide +kernel, rfl⟩
theorem vX4_until : vM mX4_until 4 3 := ⟨okX4_until, ⟨dW_at 648 (by decide +kernel), dW_at 649 (by decide +kernel)⟩, ⟨_, rfl, rfl⟩, by decide +kernel, rfl⟩
theorem vX4_unended : vM mX4_unended 4 2 := ⟨okX4_unended, ⟨dW_at 664 (by decide +kernel), dW_at 22 (by decide +kernel)⟩, ⟨_, rfl, rfl⟩, by decide +kernel, rfl⟩
theorem vX4_foundOf : vM mX4_foundOf 4 2 := ⟨okX4_foundOf, ⟨dW_at 660 (by decide +kernel), dW_at 21 (by decide +kernel)⟩, ⟨_, rfl, rfl⟩, by decide +kernel, rfl⟩
theorem vX4_low : vM mX4_low 4 2 := ⟨okX4_low, ⟨dW_at 668 (by decide +kernel), dW_at 23 (by decide +kernel)⟩, ⟨_, rfl, rfl⟩, by decide +kernel, rfl⟩
theorem vX4_high : vM mX4_high 4 2 := ⟨okX4_high, ⟨dW_at 656 (by decide +kernel), dW_at 20 (by decide +kernel)⟩, ⟨_, rfl, rfl⟩, by decide +kernel, rfl⟩
theorem vX4_end : vM mX4_end 4 2 := ⟨okX4_end, ⟨dW_at 675 (by decide +kernel), dW_at 676 (by decide +kernel)⟩, ⟨_, rfl, rfl⟩, by decide +kernel, rfl⟩
theorem vX4_part : sM mX4_part 3 := ⟨okX4_part, dW_at 684 (by decide +kernel), by decide +kernel, rfl⟩
theorem vX4_given : vM mX4_given 4 3 := ⟨okX4_given, ⟨dW_at 679 (by decide +kernel), dW_at 680 (by decide +kernel)⟩, ⟨_, rfl, rfl⟩, by decide +kernel, rfl⟩
theorem vX4_best : vM mX4_best 4 2 := ⟨okX4_best, ⟨dW_at 687 (by decide +kernel), dW_at 688 (by decide +kernel)⟩, ⟨_, rfl, rfl⟩, by decide +kernel, rfl⟩
theorem vX4_item : vM mX4_item 4 2 := ⟨okX4_item, ⟨dW_at 691 (by decide +kernel), dW_at 692 (by decide +kernel)⟩, ⟨_, rfl, rfl⟩, by decide +kernel, rfl⟩
theorem vX4_units : vM mX4_units 4 1 := ⟨okX4_units, ⟨dW_at 695 (by decide +kernel), dW_at 696 (by decide +kernel)⟩, ⟨_, rfl, rfl⟩, by decide +kernel, rfl⟩
theorem vX4_found : vM mX4_found 4 1 := ⟨okX4_found, ⟨dW_at 699 (by decide +kernel), dW_at 700 (by decide +kernel)⟩, ⟨_, rfl, rfl⟩, by decide +kernel, rfl⟩
theorem vX4_rests : vM mX4_rests 4 1 := ⟨okX4_rests, ⟨dW_at 703 (by decide +kernel), dW_at 704 (by decide +kernel)⟩, ⟨_, rfl, rfl⟩, by decide +kernel, rfl⟩
theorem vX4_copy : vM mX4_copy 4 2 := ⟨okX4_copy, ⟨dW_at 712 (by decide +kernel), dW_at 25 (by decide +kernel)⟩, ⟨_, rfl, rfl⟩, by decide +kernel, rfl⟩
theorem vX4_save : vM mX4_save 4 1 := ⟨okX4_save, ⟨dW_at 707 (by decide +kernel), dW_at 708 (by decide +kernel)⟩, ⟨_, rfl, rfl⟩, by decide +kernel, rfl⟩
theorem vX4_back : vM mX4_back 4 1 := ⟨okX4_back, ⟨dW_at 715 (by decide +kernel), dW_at 716 (by decide +kernel)⟩, ⟨_, rfl, rfl⟩, by decide +kernel, rfl⟩
theorem vX4_told : vM mX4_told 4 1 := ⟨okX4_told, ⟨dW_at 719 (by decide +kernel), dW_at 720 (by decide +kernel)⟩, ⟨_, rfl, rfl⟩, by decide +kernel, rfl⟩
theorem vJ7_fill_d0a16 : sM mJ7_fill_d0a16 2 := ⟨okJ7_fill_d0a16, dW_at 306 (by decide +kernel), by decide +kernel, rfl⟩
theorem vJ7_fill_53178 : sM mJ7_fill_53178 2 := ⟨okJ7_fill_53178, dW_at 213 (by decide +kernel), by decide +kernel, rfl⟩
section CALLS
variable {Y : Env3} {ad : Nat → Nat} {μ μ' : Mth} {pc npc : Nat} {ls : List (Option Value)} {st : List Value} {h : Mem}
theorem r_VI0 {k ci : Nat} {fs : List (Nat ⊕ Bool)} {Q : Int32 → Mem → Prop} (e : dV μ pc μ' npc) (v : vM μ' ci 0) (hs : shTab[k]? = some (.inr (ci, fs))) (hK : Con ad μ' [.ref (ad k)] h (qI Q)) (kk : ∀ (x : Int32) (h1 : Mem), Q x h1 → G Y ad μ npc ls (.int x :: st) h1) (hst : (st.map fun v => v.category).sum ≤ 8 := by exact Nat.le_of_ble_eq_true rfl) : G Y ad μ pc ls (.ref (ad k) :: st) h := r_V (As := []) e v.1 v.2.1 v.2.2.2.1 hs v.2.2.1 hK hst (fun r h1 hQ => by
  obtain ⟨x, rfl, hQ⟩ := hQ
  exact kk x h1 hQ)
theorem r_SI0 {Q : Int32 → Mem → Prop} (e : dS μ pc μ' npc) (v : sM μ' 0) (hK : Con ad μ' [] h (qI Q)) (kk : ∀ (x : Int32) (h1 : Mem), Q x h1 → G Y ad μ npc ls (.int x :: st) h1) (hst : (st.map fun v => v.category).sum ≤ 8 := by exact Nat.le_of_ble_eq_true rfl) : G Y ad μ pc ls (st) h := r_S (As := []) e v.1 v.2.1 v.2.2.1 hK hst (fun r h1 hQ => by
  obtain ⟨x, rfl, hQ⟩ := hQ
  exact kk x h1 hQ)
theorem r_VZ0 {k ci : Nat} {fs : List (Nat ⊕ Bool)} {Q : Bool → Mem → Prop} (e : dV μ pc μ' npc) (v : vM μ' ci 0) (hs : shTab[k]? = some (.inr (ci, fs))) (hK : Con ad μ' [.ref (ad k)] h (qZ Q)) (kk : ∀ (x : Bool) (h1 : Mem), Q x h1 → G Y ad μ npc ls (.int (bI x) :: st) h1) (hst : (st.map fun v => v.category).sum ≤ 8 := by exact Nat.le_of_ble_eq_true rfl) : G Y ad μ pc ls (.ref (ad k) :: st) h := r_V (As := []) e v.1 v.2.1 v.2.2.2.1 hs v.2.2.1 hK hst (fun r h1 hQ => by
  obtain ⟨x, rfl, hQ⟩ := hQ
  exact kk x h1 hQ)
theorem r_SZ0 {Q : Bool → Mem → Prop} (e : dS μ pc μ' npc) (v : sM μ' 0) (hK : Con ad μ' [] h (qZ Q)) (kk : ∀ (x : Bool) (h1 : Mem), Q x h1 → G Y ad μ npc ls (.int (bI x) :: st) h1) (hst : (st.map fun v => v.category).sum ≤ 8 := by exact Nat.le_of_ble_eq_true rfl) : G Y ad μ pc ls (st) h := r_S (As := []) e v.1 v.2.1 v.2.2.1 hK hst (fun r h1 hQ => by
  obtain ⟨x, rfl, hQ⟩ := hQ
  exact kk x h1 hQ)
theorem r_VL0 {k ci : Nat} {fs : List (Nat ⊕ Bool)} {Q : Int64 → Mem → Prop} (e : dV μ pc μ' npc) (v : vM μ' ci 0) (hs : shTab[k]? = some (.inr (ci, fs))) (hK : Con ad μ' [.ref (ad k)] h (qL Q)) (kk : ∀ (x : Int64) (h1 : Mem), Q x h1 → G Y ad μ npc ls (.long x :: st) h1) (hst : (st.map fun v => v.category).sum ≤ 8 := by exact Nat.le_of_ble_eq_true rfl) : G Y ad μ pc ls (.ref (ad k) :: st) h := r_V (As := []) e v.1 v.2.1 v.2.2.2.1 hs v.2.2.1 hK hst (fun r h1 hQ => by
  obtain ⟨x, rfl, hQ⟩ := hQ
  exact kk x h1 hQ)
theorem r_SL0 {Q : Int64 → Mem → Prop} (e : dS μ pc μ' npc) (v : sM μ' 0) (hK : Con ad μ' [] h (qL Q)) (kk : ∀ (x : Int64) (h1 : Mem), Q x h1 → G Y ad μ npc ls (.long x :: st) h1) (hst : (st.map fun v => v.category).sum ≤ 8 := by exact Nat.le_of_ble_eq_true rfl) : G Y ad μ pc ls (st) h := r_S (As := []) e v.1 v.2.1 v.2.2.1 hK hst (fun r h1 hQ => by
  obtain ⟨x, rfl, hQ⟩ := hQ
  exact kk x h1 hQ)
theorem r_VV0 {k ci : Nat} {fs : List (Nat ⊕ Bool)} {Q : Mem → Prop} (e : dV μ pc μ' npc) (v : vM μ' ci 0) (hs : shTab[k]? = some (.inr (ci, fs))) (hK : Con ad μ' [.ref (ad k)] h (qV Q)) (kk : ∀ (h1 : Mem), Q h1 → G Y ad μ npc ls (st) h1) (hst : (st.map fun v => v.category).sum ≤ 8 := by exact Nat.le_of_ble_eq_true rfl) : G Y ad μ pc ls (.ref (ad k) :: st) h := r_V (As := []) e v.1 v.2.1 v.2.2.2.1 hs v.2.2.1 hK hst (fun r h1 hQ => by
  obtain ⟨rfl, hQ⟩ := hQ
  exact kk h1 hQ)
theorem r_SV0 {Q : Mem → Prop} (e : dS μ pc μ' npc) (v : sM μ' 0) (hK : Con ad μ' [] h (qV Q)) (kk : ∀ (h1 : Mem), Q h1 → G Y ad μ npc ls (st) h1) (hst : (st.map fun v => v.category).sum ≤ 8 := by exact Nat.le_of_ble_eq_true rfl) : G Y ad μ pc ls (st) h := r_S (As := []) e v.1 v.2.1 v.2.2.1 hK hst (fun r h1 hQ => by
  obtain ⟨rfl, hQ⟩ := hQ
  exact kk h1 hQ)
theorem r_VI1 {a0 : Value} {k ci : Nat} {fs : List (Nat ⊕ Bool)} {Q : Int32 → Mem → Prop} (e : dV μ pc μ' npc) (v : vM μ' ci 1) (hs : shTab[k]? = some (.inr (ci, fs))) (hK : Con ad μ' [.ref (ad k), a0] h (qI Q)) (kk : ∀ (x : Int32) (h1 : Mem), Q x h1 → G Y ad μ npc ls (.int x :: st) h1) (hst : (st.map fun v => v.category).sum ≤ 8 := by exact Nat.le_of_ble_eq_true rfl) : G Y ad μ pc ls (a0 :: .ref (ad k) :: st) h := r_V (As := [a0]) e v.1 v.2.1 v.2.2.2.1 hs v.2.2.1 hK hst (fun r h1 hQ => by
  obtain ⟨x, rfl, hQ⟩ := hQ
  exact kk x h1 hQ)
theorem r_SI1 {a0 : Value} {Q : Int32 → Mem → Prop} (e : dS μ pc μ' npc) (v : sM μ' 1) (hK : Con ad μ' [a0] h (qI Q)) (kk : ∀ (x : Int32) (h1 : Mem), Q x h1 → G Y ad μ npc ls (.int x :: st) h1) (hst : (st.map fun v => v.category).sum ≤ 8 := by exact Nat.le_of_ble_eq_true rfl) : G Y ad μ pc ls (a0 :: st) h := r_S (As := [a0]) e v.1 v.2.1 v.2.2.1 hK hst (fun r h1 hQ => by
  obtain ⟨x, rfl, hQ⟩ := hQ
  exact kk x h1 hQ)
theorem r_VZ1 {a0 : Value} {k ci : Nat} {fs : List (Nat ⊕ Bool)} {Q : Bool → Mem → Prop} (e : dV μ pc μ' npc) (v : vM μ' ci 1) (hs : shTab[k]? = some (.inr (ci, fs))) (hK : Con ad μ' [.ref (ad k), a0] h (qZ Q)) (kk : ∀ (x : Bool) (h1 : Mem), Q x h1 → G Y ad μ npc ls (.int (bI x) :: st) h1) (hst : (st.map fun v => v.category).sum ≤ 8 := by exact Nat.le_of_ble_eq_true rfl) : G Y ad μ pc ls (a0 :: .ref (ad k) :: st) h := r_V (As := [a0]) e v.1 v.2.1 v.2.2.2.1 hs v.2.2.1 hK hst (fun r h1 hQ => by
  obtain ⟨x, rfl, hQ⟩ := hQ
  exact kk x h1 hQ)
theorem r_SZ1 {a0 : Value} {Q : Bool → Mem → Prop} (e : dS μ pc μ' npc) (v : sM μ' 1) (hK : Con ad μ' [a0] h (qZ Q)) (kk : ∀ (x : Bool) (h1 : Mem), Q x h1 → G Y ad μ npc ls (.int (bI x) :: st) h1) (hst : (st.map fun v => v.category).sum ≤ 8 := by exact Nat.le_of_ble_eq_true rfl) : G Y ad μ pc ls (a0 :: st) h := r_S (As := [a0]) e v.1 v.2.1 v.2.2.1 hK hst (fun r h1 hQ => by
  obtain ⟨x, rfl, hQ⟩ := hQ
  exact kk x h1 hQ)
theorem r_VL1 {a0 : Value} {k ci : Nat} {fs : List (Nat ⊕ Bool)} {Q : Int64 → Mem → Prop} (e : dV μ pc μ' npc) (v : vM μ' ci 1) (hs : shTab[k]? = some (.inr (ci, fs))) (hK : Con ad μ' [.ref (ad k), a0] h (qL Q)) (kk : ∀ (x : Int64) (h1 : Mem), Q x h1 → G Y ad μ npc ls (.long x :: st) h1) (hst : (st.map fun v => v.category).sum ≤ 8 := by exact Nat.le_of_ble_eq_true rfl) : G Y ad μ pc ls (a0 :: .ref (ad k) :: st) h := r_V (As := [a0]) e v.1 v.2.1 v.2.2.2.1 hs v.2.2.1 hK hst (fun r h1 hQ => by
  obtain ⟨x, rfl, hQ⟩ := hQ
  exact kk x h1 hQ)
theorem r_SL1 {a0 : Value} {Q : Int64 → Mem → Prop} (e : dS μ pc μ' npc) (v : sM μ' 1) (hK : Con ad μ' [a0] h (qL Q)) (kk : ∀ (x : Int64) (h1 : Mem), Q x h1 → G Y ad μ npc ls (.long x :: st) h1) (hst : (st.map fun v => v.category).sum ≤ 8 := by exact Nat.le_of_ble_eq_true rfl) : G Y ad μ pc ls (a0 :: st) h := r_S (As := [a0]) e v.1 v.2.1 v.2.2.1 hK hst (fun r h1 hQ => by
  obtain ⟨x, rfl, hQ⟩ := hQ
  exact kk x h1 hQ)
theorem r_VV1 {a0 : Value} {k ci : Nat} {fs : List (Nat ⊕ Bool)} {Q : Mem → Prop} (e : dV μ pc μ' npc) (v : vM μ' ci 1) (hs : shTab[k]? = some (.inr (ci, fs))) (hK : Con ad μ' [.ref (ad k), a0] h (qV Q)) (kk : ∀ (h1 : Mem), Q h1 → G Y ad μ npc ls (st) h1) (hst : (st.map fun v => v.category).sum ≤ 8 := by exact Nat.le_of_ble_eq_true rfl) : G Y ad μ pc ls (a0 :: .ref (ad k) :: st) h := r_V (As := [a0]) e v.1 v.2.1 v.2.2.2.1 hs v.2.2.1 hK hst (fun r h1 hQ => by
  obtain ⟨rfl, hQ⟩ := hQ
  exact kk h1 hQ)
theorem r_SV1 {a0 : Value} {Q : Mem → Prop} (e : dS μ pc μ' npc) (v : sM μ' 1) (hK : Con ad μ' [a0] h (qV Q)) (kk : ∀ (h1 : Mem), Q h1 → G Y ad μ npc ls (st) h1) (hst : (st.map fun v => v.category).sum ≤ 8 := by exact Nat.le_of_ble_eq_true rfl) : G Y ad μ pc ls (a0 :: st) h := r_S (As := [a0]) e v.1 v.2.1 v.2.2.1 hK hst (fun r h1 hQ => by
  obtain ⟨rfl, hQ⟩ := hQ
  exact kk h1 hQ)
theorem r_VI2 {a0 a1 : Value} {k ci : Nat} {fs : List (Nat ⊕ Bool)} {Q : Int32 → Mem → Prop} (e : dV μ pc μ' npc) (v : vM μ' ci 2) (hs : shTab[k]? = some (.inr (ci, fs))) (hK : Con ad μ' [.ref (ad k), a0, a1] h (qI Q)) (kk : ∀ (x : Int32) (h1 : Mem), Q x h1 → G Y ad μ npc ls (.int x :: st) h1) (hst : (st.map fun v => v.category).sum ≤ 8 := by exact Nat.le_of_ble_eq_true rfl) : G Y ad μ pc ls (a1 :: a0 :: .ref (ad k) :: st) h := r_V (As := [a0, a1]) e v.1 v.2.1 v.2.2.2.1 hs v.2.2.1 hK hst (fun r h1 hQ => by
  obtain ⟨x, rfl, hQ⟩ := hQ
  exact kk x h1 hQ)
theorem r_SI2 {a0 a1 : Value} {Q : Int32 → Mem → Prop} (e : dS μ pc μ' npc) (v : sM μ' 2) (hK : Con ad μ' [a0, a1] h (qI Q)) (kk : ∀ (x : Int32) (h1 : Mem), Q x h1 → G Y ad μ npc ls (.int x :: st) h1) (hst : (st.map fun v => v.category).sum ≤ 8 := by exact Nat.le_of_ble_eq_true rfl) : G Y ad μ pc ls (a1 :: a0 :: st) h := r_S (As := [a0, a1]) e v.1 v.2.1 v.2.2.1 hK hst (fun r h1 hQ => by
  obtain ⟨x, rfl, hQ⟩ := hQ
  exact kk x h1 hQ)
theorem r_VZ2 {a0 a1 : Value} {k ci : Nat} {fs : List (Nat ⊕ Bool)} {Q : Bool → Mem → Prop} (e : dV μ pc μ' npc) (v : vM μ' ci 2) (hs : shTab[k]? = some (.inr (ci, fs))) (hK : Con ad μ' [.ref (ad k), a0, a1] h (qZ Q)) (kk : ∀ (x : Bool) (h1 : Mem), Q x h1 → G Y ad μ npc ls (.int (bI x) :: st) h1) (hst : (st.map fun v => v.category).sum ≤ 8 := by exact Nat.le_of_ble_eq_true rfl) : G Y ad μ pc ls (a1 :: a0 :: .ref (ad k) :: st) h := r_V (As := [a0, a1]) e v.1 v.2.1 v.2.2.2.1 hs v.2.2.1 hK hst (fun r h1 hQ => by
  obtain ⟨x, rfl, hQ⟩ := hQ
  exact kk x h1 hQ)
theorem r_SZ2 {a0 a1 : Value} {Q : Bool → Mem → Prop} (e : dS μ pc μ' npc) (v : sM μ' 2) (hK : Con ad μ' [a0, a1] h (qZ Q)) (kk : ∀ (x : Bool) (h1 : Mem), Q x h1 → G Y ad μ npc ls (.int (bI x) :: st) h1) (hst : (st.map fun v => v.category).sum ≤ 8 := by exact Nat.le_of_ble_eq_true rfl) : G Y ad μ pc ls (a1 :: a0 :: st) h := r_S (As := [a0, a1]) e v.1 v.2.1 v.2.2.1 hK hst (fun r h1 hQ => by
  obtain ⟨x, rfl, hQ⟩ := hQ
  exact kk x h1 hQ)
theorem r_VL2 {a0 a1 : Value} {k ci : Nat} {fs : List (Nat ⊕ Bool)} {Q : Int64 → Mem → Prop} (e : dV μ pc μ' npc) (v : vM μ' ci 2) (hs : shTab[k]? = some (.inr (ci, fs))) (hK : Con ad μ' [.ref (ad k), a0, a1] h (qL Q)) (kk : ∀ (x : Int64) (h1 : Mem), Q x h1 → G Y ad μ npc ls (.long x :: st) h1) (hst : (st.map fun v => v.category).sum ≤ 8 := by exact Nat.le_of_ble_eq_true rfl) : G Y ad μ pc ls (a1 :: a0 :: .ref (ad k) :: st) h := r_V (As := [a0, a1]) e v.1 v.2.1 v.2.2.2.1 hs v.2.2.1 hK hst (fun r h1 hQ => by
  obtain ⟨x, rfl, hQ⟩ := hQ
  exact kk x h1 hQ)
theorem r_SL2 {a0 a1 : Value} {Q : Int64 → Mem → Prop} (e : dS μ pc μ' npc) (v : sM μ' 2) (hK : Con ad μ' [a0, a1] h (qL Q)) (kk : ∀ (x : Int64) (h1 : Mem), Q x h1 → G Y ad μ npc ls (.long x :: st) h1) (hst : (st.map fun v => v.category).sum ≤ 8 := by exact Nat.le_of_ble_eq_true rfl) : G Y ad μ pc ls (a1 :: a0 :: st) h := r_S (As := [a0, a1]) e v.1 v.2.1 v.2.2.1 hK hst (fun r h1 hQ => by
  obtain ⟨x, rfl, hQ⟩ := hQ
  exact kk x h1 hQ)
theorem r_VV2 {a0 a1 : Value} {k ci : Nat} {fs : List (Nat ⊕ Bool)} {Q : Mem → Prop} (e : dV μ pc μ' npc) (v : vM μ' ci 2) (hs : shTab[k]? = some (.inr (ci, fs))) (hK : Con ad μ' [.ref (ad k), a0, a1] h (qV Q)) (kk : ∀ (h1 : Mem), Q h1 → G Y ad μ npc ls (st) h1) (hst : (st.map fun v => v.category).sum ≤ 8 := by exact Nat.le_of_ble_eq_true rfl) : G Y ad μ pc ls (a1 :: a0 :: .ref (ad k) :: st) h := r_V (As := [a0, a1]) e v.1 v.2.1 v.2.2.2.1 hs v.2.2.1 hK hst (fun r h1 hQ => by
  obtain ⟨rfl, hQ⟩ := hQ
  exact kk h1 hQ)
theorem r_SV2 {a0 a1 : Value} {Q : Mem → Prop} (e : dS μ pc μ' npc) (v : sM μ' 2) (hK : Con ad μ' [a0, a1] h (qV Q)) (kk : ∀ (h1 : Mem), Q h1 → G Y ad μ npc ls (st) h1) (hst : (st.map fun v => v.category).sum ≤ 8 := by exact Nat.le_of_ble_eq_true rfl) : G Y ad μ pc ls (a1 :: a0 :: st) h := r_S (As := [a0, a1]) e v.1 v.2.1 v.2.2.1 hK hst (fun r h1 hQ => by
  obtain ⟨rfl, hQ⟩ := hQ
  exact kk h1 hQ)
theorem r_VI3 {a0 a1 a2 : Value} {k ci : Nat} {fs : List (Nat ⊕ Bool)} {Q : Int32 → Mem → Prop} (e : dV μ pc μ' npc) (v : vM μ' ci 3) (hs : shTab[k]? = some (.inr (ci, fs))) (hK : Con ad μ' [.ref (ad k), a0, a1, a2] h (qI Q)) (kk : ∀ (x : Int32) (h1 : Mem), Q x h1 → G Y ad μ npc ls (.int x :: st) h1) (hst : (st.map fun v => v.category).sum ≤ 8 := by exact Nat.le_of_ble_eq_true rfl) : G Y ad μ pc ls (a2 :: a1 :: a0 :: .ref (ad k) :: st) h := r_V (As := [a0, a1, a2]) e v.1 v.2.1 v.2.2.2.1 hs v.2.2.1 hK hst (fun r h1 hQ => by
  obtain ⟨x, rfl, hQ⟩ := hQ
  exact kk x h1 hQ)
theorem r_SI3 {a0 a1 a2 : Value} {Q : Int32 → Mem → Prop} (e : dS μ pc μ' npc) (v : sM μ' 3) (hK : Con ad μ' [a0, a1, a2] h (qI Q)) (kk : ∀ (x : Int32) (h1 : Mem), Q x h1 → G Y ad μ npc ls (.int x :: st) h1) (hst : (st.map fun v => v.category).sum ≤ 8 := by exact Nat.le_of_ble_eq_true rfl) : G Y ad μ pc ls (a2 :: a1 :: a0 :: st) h := r_S (As := [a0, a1, a2]) e v.1 v.2.1 v.2.2.1 hK hst (fun r h1 hQ => by
  obtain ⟨x, rfl, hQ⟩ := hQ
  exact kk x h1 hQ)
theorem r_VZ3 {a0 a1 a2 : Value} {k ci : Nat} {fs : List (Nat ⊕ Bool)} {Q : Bool → Mem → Prop} (e : dV μ pc μ' npc) (v : vM μ' ci 3) (hs : shTab[k]? = some (.inr (ci, fs))) (hK : Con ad μ' [.ref (ad k), a0, a1, a2] h (qZ Q)) (kk : ∀ (x : Bool) (h1 : Mem), Q x h1 → G Y ad μ npc ls (.int (bI x) :: st) h1) (hst : (st.map fun v => v.category).sum ≤ 8 := by exact Nat.le_of_ble_eq_true rfl) : G Y ad μ pc ls (a2 :: a1 :: a0 :: .ref (ad k) :: st) h := r_V (As := [a0, a1, a2]) e v.1 v.2.1 v.2.2.2.1 hs v.2.2.1 hK hst (fun r h1 hQ => by
  obtain ⟨x, rfl, hQ⟩ := hQ
  exact kk x h1 hQ)
theorem r_SZ3 {a0 a1 a2 : Value} {Q : Bool → Mem → Prop} (e : dS μ pc μ' npc) (v : sM μ' 3) (hK : Con ad μ' [a0, a1, a2] h (qZ Q)) (kk : ∀ (x : Bool) (h1 : Mem), Q x h1 → G Y ad μ npc ls (.int (bI x) :: st) h1) (hst : (st.map fun v => v.category).sum ≤ 8 := by exact Nat.le_of_ble_eq_true rfl) : G Y ad μ pc ls (a2 :: a1 :: a0 :: st) h := r_S (As := [a0, a1, a2]) e v.1 v.2.1 v.2.2.1 hK hst (fun r h1 hQ => by
  obtain ⟨x, rfl, hQ⟩ := hQ
  exact kk x h1 hQ)
theorem r_VL3 {a0 a1 a2 : Value} {k ci : Nat} {fs : List (Nat ⊕ Bool)} {Q : Int64 → Mem → Prop} (e : dV μ pc μ' npc) (v : vM μ' ci 3) (hs : shTab[k]? = some (.inr (ci, fs))) (hK : Con ad μ' [.ref (ad k), a0, a1, a2] h (qL Q)) (kk : ∀ (x : Int64) (h1 : Mem), Q x h1 → G Y ad μ npc ls (.long x :: st) h1) (hst : (st.map fun v => v.category).sum ≤ 8 := by exact Nat.le_of_ble_eq_true rfl) : G Y ad μ pc ls (a2 :: a1 :: a0 :: .ref (ad k) :: st) h := r_V (As := [a0, a1, a2]) e v.1 v.2.1 v.2.2.2.1 hs v.2.2.1 hK hst (fun r h1 hQ => by
  obtain ⟨x, rfl, hQ⟩ := hQ
  exact kk x h1 hQ)
theorem r_SL3 {a0 a1 a2 : Value} {Q : Int64 → Mem → Prop} (e : dS μ pc μ' npc) (v : sM μ' 3) (hK : Con ad μ' [a0, a1, a2] h (qL Q)) (kk : ∀ (x : Int64) (h1 : Mem), Q x h1 → G Y ad μ npc ls (.long x :: st) h1) (hst : (st.map fun v => v.category).sum ≤ 8 := by exact Nat.le_of_ble_eq_true rfl) : G Y ad μ pc ls (a2 :: a1 :: a0 :: st) h := r_S (As := [a0, a1, a2]) e v.1 v.2.1 v.2.2.1 hK hst (fun r h1 hQ => by
  obtain ⟨x, rfl, hQ⟩ := hQ
  exact kk x h1 hQ)
theorem r_VV3 {a0 a1 a2 : Value} {k ci : Nat} {fs : List (Nat ⊕ Bool)} {Q : Mem → Prop} (e : dV μ pc μ' npc) (v : vM μ' ci 3) (hs : shTab[k]? = some (.inr (ci, fs))) (hK : Con ad μ' [.ref (ad k), a0, a1, a2] h (qV Q)) (kk : ∀ (h1 : Mem), Q h1 → G Y ad μ npc ls (st) h1) (hst : (st.map fun v => v.category).sum ≤ 8 := by exact Nat.le_of_ble_eq_true rfl) : G Y ad μ pc ls (a2 :: a1 :: a0 :: .ref (ad k) :: st) h := r_V (As := [a0, a1, a2]) e v.1 v.2.1 v.2.2.2.1 hs v.2.2.1 hK hst (fun r h1 hQ => by
  obtain ⟨rfl, hQ⟩ := hQ
  exact kk h1 hQ)
theorem r_SV3 {a0 a1 a2 : Value} {Q : Mem → Prop} (e : dS μ pc μ' npc) (v : sM μ' 3) (hK : Con ad μ' [a0, a1, a2] h (qV Q)) (kk : ∀ (h1 : Mem), Q h1 → G Y ad μ npc ls (st) h1) (hst : (st.map fun v => v.category).sum ≤ 8 := by exact Nat.le_of_ble_eq_true rfl) : G Y ad μ pc ls (a2 :: a1 :: a0 :: st) h := r_S (As := [a0, a1, a2]) e v.1 v.2.1 v.2.2.1 hK hst (fun r h1 hQ => by
  obtain ⟨rfl, hQ⟩ := hQ
  exact kk h1 hQ)
theorem r_VI4 {a0 a1 a2 a3 : Value} {k ci : Nat} {fs : List (Nat ⊕ Bool)} {Q : Int32 → Mem → Prop} (e : dV μ pc μ' npc) (v : vM μ' ci 4) (hs : shTab[k]? = some (.inr (ci, fs))) (hK : Con ad μ' [.ref (ad k), a0, a1, a2, a3] h (qI Q)) (kk : ∀ (x : Int32) (h1 : Mem), Q x h1 → G Y ad μ npc ls (.int x :: st) h1) (hst : (st.map fun v => v.category).sum ≤ 8 := by exact Nat.le_of_ble_eq_true rfl) : G Y ad μ pc ls (a3 :: a2 :: a1 :: a0 :: .ref (ad k) :: st) h := r_V (As := [a0, a1, a2, a3]) e v.1 v.2.1 v.2.2.2.1 hs v.2.2.1 hK hst (fun r h1 hQ => by
  obtain ⟨x, rfl, hQ⟩ := hQ
  exact kk x h1 hQ)
theorem r_SI4 {a0 a1 a2 a3 : Value} {Q : Int32 → Mem → Prop} (e : dS μ pc μ' npc) (v : sM μ' 4) (hK : Con ad μ' [a0, a1, a2, a3] h (qI Q)) (kk : ∀ (x : Int32) (h1 : Mem), Q x h1 → G Y ad μ npc ls (.int x :: st) h1) (hst : (st.map fun v => v.category).sum ≤ 8 := by exact Nat.le_of_ble_eq_true rfl) : G Y ad μ pc ls (a3 :: a2 :: a1 :: a0 :: st) h := r_S (As := [a0, a1, a2, a3]) e v.1 v.2.1 v.2.2.1 hK hst (fun r h1 hQ => by
  obtain ⟨x, rfl, hQ⟩ := hQ
  exact kk x h1 hQ)
theorem r_VZ4 {a0 a1 a2 a3 : Value} {k ci : Nat} {fs : List (Nat ⊕ Bool)} {Q : Bool → Mem → Prop} (e : dV μ pc μ' npc) (v : vM μ' ci 4) (hs : shTab[k]? = some (.inr (ci, fs))) (hK : Con ad μ' [.ref (ad k), a0, a1, a2, a3] h (qZ Q)) (kk : ∀ (x : Bool) (h1 : Mem), Q x h1 → G Y ad μ npc ls (.int (bI x) :: st) h1) (hst : (st.map fun v => v.category).sum ≤ 8 := by exact Nat.le_of_ble_eq_true rfl) : G Y ad μ pc ls (a3 :: a2 :: a1 :: a0 :: .ref (ad k) :: st) h := r_V (As := [a0, a1, a2, a3]) e v.1 v.2.1 v.2.2.2.1 hs v.2.2.1 hK hst (fun r h1 hQ => by
  obtain ⟨x, rfl, hQ⟩ := hQ
  exact kk x h1 hQ)
theorem r_SZ4 {a0 a1 a2 a3 : Value} {Q : Bool → Mem → Prop} (e : dS μ pc μ' npc) (v : sM μ' 4) (hK : Con ad μ' [a0, a1, a2, a3] h (qZ Q)) (kk : ∀ (x : Bool) (h1 : Mem), Q x h1 → G Y ad μ npc ls (.int (bI x) :: st) h1) (hst : (st.map fun v => v.category).sum ≤ 8 := by exact Nat.le_of_ble_eq_true rfl) : G Y ad μ pc ls (a3 :: a2 :: a1 :: a0 :: st) h := r_S (As := [a0, a1, a2, a3]) e v.1 v.2.1 v.2.2.1 hK hst (fun r h1 hQ => by
  obtain ⟨x, rfl, hQ⟩ := hQ
  exact kk x h1 hQ)
theorem r_VL4 {a0 a1 a2 a3 : Value} {k ci : Nat} {fs : List (Nat ⊕ Bool)} {Q : Int64 → Mem → Prop} (e : dV μ pc μ' npc) (v : vM μ' ci 4) (hs : shTab[k]? = some (.inr (ci, fs))) (hK : Con ad μ' [.ref (ad k), a0, a1, a2, a3] h (qL Q)) (kk : ∀ (x : Int64) (h1 : Mem), Q x h1 → G Y ad μ npc ls (.long x :: st) h1) (hst : (st.map fun v => v.category).sum ≤ 8 := by exact Nat.le_of_ble_eq_true rfl) : G Y ad μ pc ls (a3 :: a2 :: a1 :: a0 :: .ref (ad k) :: st) h := r_V (As := [a0, a1, a2, a3]) e v.1 v.2.1 v.2.2.2.1 hs v.2.2.1 hK hst (fun r h1 hQ => by
  obtain ⟨x, rfl, hQ⟩ := hQ
  exact kk x h1 hQ)
theorem r_SL4 {a0 a1 a2 a3 : Value} {Q : Int64 → Mem → Prop} (e : dS μ pc μ' npc) (v : sM μ' 4) (hK : Con ad μ' [a0, a1, a2, a3] h (qL Q)) (kk : ∀ (x : Int64) (h1 : Mem), Q x h1 → G Y ad μ npc ls (.long x :: st) h1) (hst : (st.map fun v => v.category).sum ≤ 8 := by exact Nat.le_of_ble_eq_true rfl) : G Y ad μ pc ls (a3 :: a2 :: a1 :: a0 :: st) h := r_S (As := [a0, a1, a2, a3]) e v.1 v.2.1 v.2.2.1 hK hst (fun r h1 hQ => by
  obtain ⟨x, rfl, hQ⟩ := hQ
  exact kk x h1 hQ)
theorem r_VV4 {a0 a1 a2 a3 : Value} {k ci : Nat} {fs : List (Nat ⊕ Bool)} {Q : Mem → Prop} (e : dV μ pc μ' npc) (v : vM μ' ci 4) (hs : shTab[k]? = some (.inr (ci, fs))) (hK : Con ad μ' [.ref (ad k), a0, a1, a2, a3] h (qV Q)) (kk : ∀ (h1 : Mem), Q h1 → G Y ad μ npc ls (st) h1) (hst : (st.map fun v => v.category).sum ≤ 8 := by exact Nat.le_of_ble_eq_true rfl) : G Y ad μ pc ls (a3 :: a2 :: a1 :: a0 :: .ref (ad k) :: st) h := r_V (As := [a0, a1, a2, a3]) e v.1 v.2.1 v.2.2.2.1 hs v.2.2.1 hK hst (fun r h1 hQ => by
  obtain ⟨rfl, hQ⟩ := hQ
  exact kk h1 hQ)
theorem r_SV4 {a0 a1 a2 a3 : Value} {Q : Mem → Prop} (e : dS μ pc μ' npc) (v : sM μ' 4) (hK : Con ad μ' [a0, a1, a2, a3] h (qV Q)) (kk : ∀ (h1 : Mem), Q h1 → G Y ad μ npc ls (st) h1) (hst : (st.map fun v => v.category).sum ≤ 8 := by exact Nat.le_of_ble_eq_true rfl) : G Y ad μ pc ls (a3 :: a2 :: a1 :: a0 :: st) h := r_S (As := [a0, a1, a2, a3]) e v.1 v.2.1 v.2.2.1 hK hst (fun r h1 hQ => by
  obtain ⟨rfl, hQ⟩ := hQ
  exact kk h1 hQ)
theorem r_VI5 {a0 a1 a2 a3 a4 : Value} {k ci : Nat} {fs : List (Nat ⊕ Bool)} {Q : Int32 → Mem → Prop} (e : dV μ pc μ' npc) (v : vM μ' ci 5) (hs : shTab[k]? = some (.inr (ci, fs))) (hK : Con ad μ' [.ref (ad k), a0, a1, a2, a3, a4] h (qI Q)) (kk : ∀ (x : Int32) (h1 : Mem), Q x h1 → G Y ad μ npc ls (.int x :: st) h1) (hst : (st.map fun v => v.category).sum ≤ 8 := by exact Nat.le_of_ble_eq_true rfl) : G Y ad μ pc ls (a4 :: a3 :: a2 :: a1 :: a0 :: .ref (ad k) :: st) h := r_V (As := [a0, a1, a2, a3, a4]) e v.1 v.2.1 v.2.2.2.1 hs v.2.2.1 hK hst (fun r h1 hQ => by
  obtain ⟨x, rfl, hQ⟩ := hQ
  exact kk x h1 hQ)
theorem r_SI5 {a0 a1 a2 a3 a4 : Value} {Q : Int32 → Mem → Prop} (e : dS μ pc μ' npc) (v : sM μ' 5) (hK : Con ad μ' [a0, a1, a2, a3, a4] h (qI Q)) (kk : ∀ (x : Int32) (h1 : Mem), Q x h1 → G Y ad μ npc ls (.int x :: st) h1) (hst : (st.map fun v => v.category).sum ≤ 8 := by exact Nat.le_of_ble_eq_true rfl) : G Y ad μ pc ls (a4 :: a3 :: a2 :: a1 :: a0 :: st) h := r_S (As := [a0, a1, a2, a3, a4]) e v.1 v.2.1 v.2.2.1 hK hst (fun r h1 hQ => by
  obtain ⟨x, rfl, hQ⟩ := hQ
  exact kk x h1 hQ)
theorem r_VZ5 {a0 a1 a2 a3 a4 : Value} {k ci : Nat} {fs : List (Nat ⊕ Bool)} {Q : Bool → Mem → Prop} (e : dV μ pc μ' npc) (v : vM μ' ci 5) (hs : shTab[k]? = some (.inr (ci, fs))) (hK : Con ad μ' [.ref (ad k), a0, a1, a2, a3, a4] h (qZ Q)) (kk : ∀ (x : Bool) (h1 : Mem), Q x h1 → G Y ad μ npc ls (.int (bI x) :: st) h1) (hst : (st.map fun v => v.category).sum ≤ 8 := by exact Nat.le_of_ble_eq_true rfl) : G Y ad μ pc ls (a4 :: a3 :: a2 :: a1 :: a0 :: .ref (ad k) :: st) h := r_V (As := [a0, a1, a2, a3, a4]) e v.1 v.2.1 v.2.2.2.1 hs v.2.2.1 hK hst (fun r h1 hQ => by
  obtain ⟨x, rfl, hQ⟩ := hQ
  exact kk x h1 hQ)
theorem r_SZ5 {a0 a1 a2 a3 a4 : Value} {Q : Bool → Mem → Prop} (e : dS μ pc μ' npc) (v : sM μ' 5) (hK : Con ad μ' [a0, a1, a2, a3, a4] h (qZ Q)) (kk : ∀ (x : Bool) (h1 : Mem), Q x h1 → G Y ad μ npc ls (.int (bI x) :: st) h1) (hst : (st.map fun v => v.category).sum ≤ 8 := by exact Nat.le_of_ble_eq_true rfl) : G Y ad μ pc ls (a4 :: a3 :: a2 :: a1 :: a0 :: st) h := r_S (As := [a0, a1, a2, a3, a4]) e v.1 v.2.1 v.2.2.1 hK hst (fun r h1 hQ => by
  obtain ⟨x, rfl, hQ⟩ := hQ
  exact kk x h1 hQ)
theorem r_VL5 {a0 a1 a2 a3 a4 : Value} {k ci : Nat} {fs : List (Nat ⊕ Bool)} {Q : Int64 → Mem → Prop} (e : dV μ pc μ' npc) (v : vM μ' ci 5) (hs : shTab[k]? = some (.inr (ci, fs))) (hK : Con ad μ' [.ref (ad k), a0, a1, a2, a3, a4] h (qL Q)) (kk : ∀ (x : Int64) (h1 : Mem), Q x h1 → G Y ad μ npc ls (.long x :: st) h1) (hst : (st.map fun v => v.category).sum ≤ 8 := by exact Nat.le_of_ble_eq_true rfl) : G Y ad μ pc ls (a4 :: a3 :: a2 :: a1 :: a0 :: .ref (ad k) :: st) h := r_V (As := [a0, a1, a2, a3, a4]) e v.1 v.2.1 v.2.2.2.1 hs v.2.2.1 hK hst (fun r h1 hQ => by
  obtain ⟨x, rfl, hQ⟩ := hQ
  exact kk x h1 hQ)
theorem r_SL5 {a0 a1 a2 a3 a4 : Value} {Q : Int64 → Mem → Prop} (e : dS μ pc μ' npc) (v : sM μ' 5) (hK : Con ad μ' [a0, a1, a2, a3, a4] h (qL Q)) (kk : ∀ (x : Int64) (h1 : Mem), Q x h1 → G Y ad μ npc ls (.long x :: st) h1) (hst : (st.map fun v => v.category).sum ≤ 8 := by exact Nat.le_of_ble_eq_true rfl) : G Y ad μ pc ls (a4 :: a3 :: a2 :: a1 :: a0 :: st) h := r_S (As := [a0, a1, a2, a3, a4]) e v.1 v.2.1 v.2.2.1 hK hst (fun r h1 hQ => by
  obtain ⟨x, rfl, hQ⟩ := hQ
  exact kk x h1 hQ)
theorem r_VV5 {a0 a1 a2 a3 a4 : Value} {k ci : Nat} {fs : List (Nat ⊕ Bool)} {Q : Mem → Prop} (e : dV μ pc μ' npc) (v : vM μ' ci 5) (hs : shTab[k]? = some (.inr (ci, fs))) (hK : Con ad μ' [.ref (ad k), a0, a1, a2, a3, a4] h (qV Q)) (kk : ∀ (h1 : Mem), Q h1 → G Y ad μ npc ls (st) h1) (hst : (st.map fun v => v.category).sum ≤ 8 := by exact Nat.le_of_ble_eq_true rfl) : G Y ad μ pc ls (a4 :: a3 :: a2 :: a1 :: a0 :: .ref (ad k) :: st) h := r_V (As := [a0, a1, a2, a3, a4]) e v.1 v.2.1 v.2.2.2.1 hs v.2.2.1 hK hst (fun r h1 hQ => by
  obtain ⟨rfl, hQ⟩ := hQ
  exact kk h1 hQ)
theorem r_SV5 {a0 a1 a2 a3 a4 : Value} {Q : Mem → Prop} (e : dS μ pc μ' npc) (v : sM μ' 5) (hK : Con ad μ' [a0, a1, a2, a3, a4] h (qV Q)) (kk : ∀ (h1 : Mem), Q h1 → G Y ad μ npc ls (st) h1) (hst : (st.map fun v => v.category).sum ≤ 8 := by exact Nat.le_of_ble_eq_true rfl) : G Y ad μ pc ls (a4 :: a3 :: a2 :: a1 :: a0 :: st) h := r_S (As := [a0, a1, a2, a3, a4]) e v.1 v.2.1 v.2.2.1 hK hst (fun r h1 hQ => by
  obtain ⟨rfl, hQ⟩ := hQ
  exact kk h1 hQ)
end CALLS
