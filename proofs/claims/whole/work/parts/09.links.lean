theorem kw_oi : Cond.instanceMethod objectInit ∈ am_G := am_inG 62 (by decide +kernel) (by decide +kernel)
theorem kw_oc : Cond.code objectInit ⟨#[0xb1]⟩ 1 none ∈ am_G := am_inG 63 (by decide +kernel) (by decide +kernel)
theorem kw_aint : Cond.arrayClass .int ∈ am_G := am_inG 101 (by decide +kernel) (by decide +kernel)
theorem kw_along : Cond.arrayClass .long ∈ am_G := am_inG 130 (by decide +kernel) (by decide +kernel)
theorem kw_aboolean : Cond.arrayClass .boolean ∈ am_G := am_inG 102 (by decide +kernel) (by decide +kernel)
theorem kw_smax : Cond.static Lib.Math.max.name ∈ am_G := am_inG 522 (by decide +kernel) (by decide +kernel)
theorem kw_cmax : Cond.code Lib.Math.max.name Lib.Math.max.code 2 (some .int) ∈ am_G := am_inG 523 (by decide +kernel) (by decide +kernel)
theorem kw_smin : Cond.static Lib.Math.min.name ∈ am_G := am_inG 430 (by decide +kernel) (by decide +kernel)
theorem kw_cmin : Cond.code Lib.Math.min.name Lib.Math.min.code 2 (some .int) ∈ am_G := am_inG 431 (by decide +kernel) (by decide +kernel)
theorem kw_sabs : Cond.static Lib.Math.abs.name ∈ am_G := am_inG 437 (by decide +kernel) (by decide +kernel)
theorem kw_cabs : Cond.code Lib.Math.abs.name Lib.Math.abs.code 1 (some .int) ∈ am_G := am_inG 438 (by decide +kernel) (by decide +kernel)
theorem knL : Cond.initialized RL ∈ am_G := am_inG 41 (by decide +kernel) (by decide +kernel)
theorem knX6 : Cond.initialized RX6 ∈ am_G := am_inG 42 (by decide +kernel) (by decide +kernel)
theorem knX5 : Cond.initialized RX5 ∈ am_G := am_inG 43 (by decide +kernel) (by decide +kernel)
theorem knJ7 : Cond.initialized RJ7 ∈ am_G := am_inG 44 (by decide +kernel) (by decide +kernel)
theorem knX0 : Cond.initialized RX0 ∈ am_G := am_inG 45 (by decide +kernel) (by decide +kernel)
theorem knX1 : Cond.initialized RX1 ∈ am_G := am_inG 46 (by decide +kernel) (by decide +kernel)
theorem knX4 : Cond.initialized RX4 ∈ am_G := am_inG 47 (by decide +kernel) (by decide +kernel)
theorem knX7 : Cond.initialized RX7 ∈ am_G := am_inG 48 (by decide +kernel) (by decide +kernel)
theorem knX3 : Cond.initialized RX3 ∈ am_G := am_inG 49 (by decide +kernel) (by decide +kernel)
theorem knX2 : Cond.initialized RX2 ∈ am_G := am_inG 50 (by decide +kernel) (by decide +kernel)
theorem knJ9 : Cond.initialized RJ9 ∈ am_G := am_inG 51 (by decide +kernel) (by decide +kernel)
theorem ktX6 : Cond.instantiable RX6 5 ∈ am_G := am_inG 57 (by decide +kernel) (by decide +kernel)
theorem ktX5 : Cond.instantiable RX5 6 ∈ am_G := am_inG 65 (by decide +kernel) (by decide +kernel)
theorem ktX0 : Cond.instantiable RX0 6 ∈ am_G := am_inG 104 (by decide +kernel) (by decide +kernel)
theorem ktX1 : Cond.instantiable RX1 7 ∈ am_G := am_inG 132 (by decide +kernel) (by decide +kernel)
theorem ktX4 : Cond.instantiable RX4 7 ∈ am_G := am_inG 162 (by decide +kernel) (by decide +kernel)
theorem ktX3 : Cond.instantiable RX3 6 ∈ am_G := am_inG 262 (by decide +kernel) (by decide +kernel)
theorem ktX2 : Cond.instantiable RX2 15 ∈ am_G := am_inG 298 (by decide +kernel) (by decide +kernel)
theorem ktX7 : Cond.instantiable RX7 34 ∈ am_G := am_inG 704 (by decide +kernel) (by decide +kernel)
abbrev rmX0_init : Room := { frames := 1, cells := 3, slots := 649, locals := 20 }
theorem kcX0_init : Cond.code yX0_init cX0_init 1 none ∈ am_G := am_inG 107 (by decide +kernel) (by decide +kernel)
theorem kiX0_init : Cond.instanceMethod yX0_init ∈ am_G := am_inG 106 (by decide +kernel) (by decide +kernel)
abbrev rmX0_clear : Room := { frames := 0, cells := 0, slots := 0, locals := 0 }
theorem kcX0_clear : Cond.code yX0_clear cX0_clear 1 none ∈ am_G := am_inG 424 (by decide +kernel) (by decide +kernel)
theorem kiX0_clear : Cond.instanceMethod yX0_clear ∈ am_G := am_inG 422 (by decide +kernel) (by decide +kernel)
theorem ksX0_clear : Cond.selects RX0 yX0_clear yX0_clear ∈ am_G := am_inG 423 (by decide +kernel) (by decide +kernel)
abbrev rmX0_addRound : Room := { frames := 1, cells := 0, slots := 0, locals := 21 }
theorem kcX0_addRound : Cond.code yX0_addRound cX0_addRound 3 none ∈ am_G := am_inG 435 (by decide +kernel) (by decide +kernel)
theorem kiX0_addRound : Cond.instanceMethod yX0_addRound ∈ am_G := am_inG 433 (by decide +kernel) (by decide +kernel)
theorem ksX0_addRound : Cond.selects RX0 yX0_addRound yX0_addRound ∈ am_G := am_inG 434 (by decide +kernel) (by decide +kernel)
abbrev rmX0_count : Room := { frames := 1, cells := 0, slots := 0, locals := 24 }
theorem kcX0_count : Cond.code yX0_count cX0_count 6 none ∈ am_G := am_inG 442 (by decide +kernel) (by decide +kernel)
theorem kiX0_count : Cond.instanceMethod yX0_count ∈ am_G := am_inG 440 (by decide +kernel) (by decide +kernel)
theorem ksX0_count : Cond.selects RX0 yX0_count yX0_count ∈ am_G := am_inG 441 (by decide +kernel) (by decide +kernel)
abbrev rmX0_addSign : Room := { frames := 0, cells := 0, slots := 0, locals := 0 }
theorem kcX0_addSign : Cond.code yX0_addSign cX0_addSign 4 none ∈ am_G := am_inG 454 (by decide +kernel) (by decide +kernel)
theorem kiX0_addSign : Cond.instanceMethod yX0_addSign ∈ am_G := am_inG 453 (by decide +kernel) (by decide +kernel)
theorem ksX0_addSign : Cond.selects RX0 yX0_addSign yX0_addSign ∈ am_G := am_inG 7 (by decide +kernel) (by decide +kernel)
abbrev rmX0_weightOf : Room := { frames := 0, cells := 0, slots := 0, locals := 0 }
theorem kcX0_weightOf : Cond.code yX0_weightOf cX0_weightOf 4 (some .int) ∈ am_G := am_inG 449 (by decide +kernel) (by decide +kernel)
theorem kiX0_weightOf : Cond.instanceMethod yX0_weightOf ∈ am_G := am_inG 448 (by decide +kernel) (by decide +kernel)
theorem ksX0_weightOf : Cond.selects RX0 yX0_weightOf yX0_weightOf ∈ am_G := am_inG 6 (by decide +kernel) (by decide +kernel)
abbrev rmX0_areAbove : Room := { frames := 0, cells := 0, slots := 0, locals := 0 }
theorem kcX0_areAbove : Cond.code yX0_areAbove cX0_areAbove 3 (some .boolean) ∈ am_G := am_inG 459 (by decide +kernel) (by decide +kernel)
theorem kiX0_areAbove : Cond.instanceMethod yX0_areAbove ∈ am_G := am_inG 457 (by decide +kernel) (by decide +kernel)
theorem ksX0_areAbove : Cond.selects RX0 yX0_areAbove yX0_areAbove ∈ am_G := am_inG 458 (by decide +kernel) (by decide +kernel)
abbrev rmX1_init : Room := { frames := 1, cells := 17, slots := 361, locals := 20 }
theorem kcX1_init : Cond.code yX1_init cX1_init 1 none ∈ am_G := am_inG 135 (by decide +kernel) (by decide +kernel)
theorem kiX1_init : Cond.instanceMethod yX1_init ∈ am_G := am_inG 134 (by decide +kernel) (by decide +kernel)
abbrev rmX1_find : Room := { frames := 4, cells := 0, slots := 0, locals := 91 }
theorem kcX1_find : Cond.code yX1_find cX1_find 5 none ∈ am_G := am_inG 514 (by decide +kernel) (by decide +kernel)
theorem kiX1_find : Cond.instanceMethod yX1_find ∈ am_G := am_inG 512 (by decide +kernel) (by decide +kernel)
theorem ksX1_find : Cond.selects RX1 yX1_find yX1_find ∈ am_G := am_inG 513 (by decide +kernel) (by decide +kernel)
abbrev rmX1_memberAt : Room := { frames := 0, cells := 0, slots := 0, locals := 0 }
theorem kcX1_memberAt : Cond.code yX1_memberAt cX1_memberAt 2 (some .int) ∈ am_G := am_inG 551 (by decide +kernel) (by decide +kernel)
theorem kiX1_memberAt : Cond.instanceMethod yX1_memberAt ∈ am_G := am_inG 549 (by decide +kernel) (by decide +kernel)
theorem ksX1_memberAt : Cond.selects RX1 yX1_memberAt yX1_memberAt ∈ am_G := am_inG 550 (by decide +kernel) (by decide +kernel)
abbrev rmX1_gatherWhole : Room := { frames := 2, cells := 0, slots := 0, locals := 42 }
theorem kcX1_gatherWhole : Cond.code yX1_gatherWhole cX1_gatherWhole 3 none ∈ am_G := am_inG 518 (by decide +kernel) (by decide +kernel)
theorem kiX1_gatherWhole : Cond.instanceMethod yX1_gatherWhole ∈ am_G := am_inG 517 (by decide +kernel) (by decide +kernel)
theorem ksX1_gatherWhole : Cond.selects RX1 yX1_gatherWhole yX1_gatherWhole ∈ am_G := am_inG 8 (by decide +kernel) (by decide +kernel)
abbrev rmX1_placeFrom : Room := { frames := 3, cells := 0, slots := 0, locals := 67 }
theorem kcX1_placeFrom : Cond.code yX1_placeFrom cX1_placeFrom 5 none ∈ am_G := am_inG 530 (by decide +kernel) (by decide +kernel)
theorem kiX1_placeFrom : Cond.instanceMethod yX1_placeFrom ∈ am_G := am_inG 529 (by decide +kernel) (by decide +kernel)
theorem ksX1_placeFrom : Cond.selects RX1 yX1_placeFrom yX1_placeFrom ∈ am_G := am_inG 9 (by decide +kernel) (by decide +kernel)
abbrev rmX1_joinCosts : Room := { frames := 2, cells := 0, slots := 0, locals := 43 }
theorem kcX1_joinCosts : Cond.code yX1_joinCosts cX1_joinCosts 5 none ∈ am_G := am_inG 534 (by decide +kernel) (by decide +kernel)
theorem kiX1_joinCosts : Cond.instanceMethod yX1_joinCosts ∈ am_G := am_inG 533 (by decide +kernel) (by decide +kernel)
theorem ksX1_joinCosts : Cond.selects RX1 yX1_joinCosts yX1_joinCosts ∈ am_G := am_inG 10 (by decide +kernel) (by decide +kernel)
abbrev rmX1_lastThatCanRise : Room := { frames := 0, cells := 0, slots := 0, locals := 0 }
theorem kcX1_lastThatCanRise : Cond.code yX1_lastThatCanRise cX1_lastThatCanRise 2 (some .int) ∈ am_G := am_inG 547 (by decide +kernel) (by decide +kernel)
theorem kiX1_lastThatCanRise : Cond.instanceMethod yX1_lastThatCanRise ∈ am_G := am_inG 546 (by decide +kernel) (by decide +kernel)
theorem ksX1_lastThatCanRise : Cond.selects RX1 yX1_lastThatCanRise yX1_lastThatCanRise ∈ am_G := am_inG 12 (by decide +kernel) (by decide +kernel)
abbrev rmX1_keepIfLess : Room := { frames := 2, cells := 0, slots := 0, locals := 42 }
theorem kcX1_keepIfLess : Cond.code yX1_keepIfLess cX1_keepIfLess 4 none ∈ am_G := am_inG 539 (by decide +kernel) (by decide +kernel)
theorem kiX1_keepIfLess : Cond.instanceMethod yX1_keepIfLess ∈ am_G := am_inG 538 (by decide +kernel) (by decide +kernel)
theorem ksX1_keepIfLess : Cond.selects RX1 yX1_keepIfLess yX1_keepIfLess ∈ am_G := am_inG 11 (by decide +kernel) (by decide +kernel)
abbrev rmX2_init : Room := { frames := 1, cells := 18, slots := 372, locals := 24 }
theorem kcX2_init : Cond.code yX2_init cX2_init 4 none ∈ am_G := am_inG 301 (by decide +kernel) (by decide +kernel)
theorem kiX2_init : Cond.instanceMethod yX2_init ∈ am_G := am_inG 300 (by decide +kernel) (by decide +kernel)
abbrev rmX2_begin : Room := { frames := 1, cells := 0, slots := 0, locals := 20 }
theorem kcX2_begin : Cond.code yX2_begin cX2_begin 6 none ∈ am_G := am_inG 365 (by decide +kernel) (by decide +kernel)
theorem kiX2_begin : Cond.instanceMethod yX2_begin ∈ am_G := am_inG 363 (by decide +kernel) (by decide +kernel)
theorem ksX2_begin : Cond.selects RX2 yX2_begin yX2_begin ∈ am_G := am_inG 364 (by decide +kernel) (by decide +kernel)
abbrev rmX2_whyOver : Room := { frames := 0, cells := 0, slots := 0, locals := 0 }
theorem kcX2_whyOver : Cond.code yX2_whyOver cX2_whyOver 1 (some .int) ∈ am_G := am_inG 370 (by decide +kernel) (by decide +kernel)
theorem kiX2_whyOver : Cond.instanceMethod yX2_whyOver ∈ am_G := am_inG 369 (by decide +kernel) (by decide +kernel)
theorem ksX2_whyOver : Cond.selects RX2 yX2_whyOver yX2_whyOver ∈ am_G := am_inG 0 (by decide +kernel) (by decide +kernel)
abbrev rmX2_isEntered : Room := { frames := 0, cells := 0, slots := 0, locals := 0 }
theorem kcX2_isEntered : Cond.code yX2_isEntered cX2_isEntered 2 (some .boolean) ∈ am_G := am_inG 428 (by decide +kernel) (by decide +kernel)
theorem kiX2_isEntered : Cond.instanceMethod yX2_isEntered ∈ am_G := am_inG 426 (by decide +kernel) (by decide +kernel)
theorem ksX2_isEntered : Cond.selects RX2 yX2_isEntered yX2_isEntered ∈ am_G := am_inG 427 (by decide +kernel) (by decide +kernel)
abbrev rmX2_isLeft : Room := { frames := 0, cells := 0, slots := 0, locals := 0 }
theorem kcX2_isLeft : Cond.code yX2_isLeft cX2_isLeft 2 (some .boolean) ∈ am_G := am_inG 392 (by decide +kernel) (by decide +kernel)
theorem kiX2_isLeft : Cond.instanceMethod yX2_isLeft ∈ am_G := am_inG 390 (by decide +kernel) (by decide +kernel)
theorem ksX2_isLeft : Cond.selects RX2 yX2_isLeft yX2_isLeft ∈ am_G := am_inG 391 (by decide +kernel) (by decide +kernel)
abbrev rmX2_instanceAt : Room := { frames := 0, cells := 0, slots := 0, locals := 0 }
theorem kcX2_instanceAt : Cond.code yX2_instanceAt cX2_instanceAt 2 (some .int) ∈ am_G := am_inG 378 (by decide +kernel) (by decide +kernel)
theorem kiX2_instanceAt : Cond.instanceMethod yX2_instanceAt ∈ am_G := am_inG 376 (by decide +kernel) (by decide +kernel)
theorem ksX2_instanceAt : Cond.selects RX2 yX2_instanceAt yX2_instanceAt ∈ am_G := am_inG 377 (by decide +kernel) (by decide +kernel)
abbrev rmX2_remainingAt : Room := { frames := 1, cells := 0, slots := 0, locals := 21 }
theorem kcX2_remainingAt : Cond.code yX2_remainingAt cX2_remainingAt 4 (some .int) ∈ am_G := am_inG 467 (by decide +kernel) (by decide +kernel)
theorem kiX2_remainingAt : Cond.instanceMethod yX2_remainingAt ∈ am_G := am_inG 465 (by decide +kernel) (by decide +kernel)
theorem ksX2_remainingAt : Cond.selects RX2 yX2_remainingAt yX2_remainingAt ∈ am_G := am_inG 466 (by decide +kernel) (by decide +kernel)
abbrev rmX2_leftFrom : Room := { frames := 1, cells := 0, slots := 0, locals := 21 }
theorem kcX2_leftFrom : Cond.code yX2_leftFrom cX2_leftFrom 3 (some .int) ∈ am_G := am_inG 396 (by decide +kernel) (by decide +kernel)
theorem kiX2_leftFrom : Cond.instanceMethod yX2_leftFrom ∈ am_G := am_inG 395 (by decide +kernel) (by decide +kernel)
theorem ksX2_leftFrom : Cond.selects RX2 yX2_leftFrom yX2_leftFrom ∈ am_G := am_inG 1 (by decide +kernel) (by decide +kernel)
abbrev rmX2_runNext : Room := { frames := 5, cells := 0, slots := 0, locals := 117 }
theorem kcX2_runNext : Cond.code yX2_runNext cX2_runNext 2 (some .int) ∈ am_G := am_inG 386 (by decide +kernel) (by decide +kernel)
theorem kiX2_runNext : Cond.instanceMethod yX2_runNext ∈ am_G := am_inG 384 (by decide +kernel) (by decide +kernel)
theorem ksX2_runNext : Cond.selects RX2 yX2_runNext yX2_runNext ∈ am_G := am_inG 385 (by decide +kernel) (by decide +kernel)
abbrev rmX2_endRound : Room := { frames := 4, cells := 0, slots := 0, locals := 97 }
theorem kcX2_endRound : Cond.code yX2_endRound cX2_endRound 1 none ∈ am_G := am_inG 400 (by decide +kernel) (by decide +kernel)
theorem kiX2_endRound : Cond.instanceMethod yX2_endRound ∈ am_G := am_inG 399 (by decide +kernel) (by decide +kernel)
theorem ksX2_endRound : Cond.selects RX2 yX2_endRound yX2_endRound ∈ am_G := am_inG 2 (by decide +kernel) (by decide +kernel)
abbrev rmX2_dropWorse : Room := { frames := 3, cells := 0, slots := 0, locals := 73 }
theorem kcX2_dropWorse : Cond.code yX2_dropWorse cX2_dropWorse 5 none ∈ am_G := am_inG 404 (by decide +kernel) (by decide +kernel)
theorem kiX2_dropWorse : Cond.instanceMethod yX2_dropWorse ∈ am_G := am_inG 403 (by decide +kernel) (by decide +kernel)
theorem ksX2_dropWorse : Cond.selects RX2 yX2_dropWorse yX2_dropWorse ∈ am_G := am_inG 3 (by decide +kernel) (by decide +kernel)
abbrev rmX2_leader : Room := { frames := 3, cells := 0, slots := 0, locals := 71 }
theorem kcX2_leader : Cond.code yX2_leader cX2_leader 1 (some .int) ∈ am_G := am_inG 475 (by decide +kernel) (by decide +kernel)
theorem kiX2_leader : Cond.instanceMethod yX2_leader ∈ am_G := am_inG 473 (by decide +kernel) (by decide +kernel)
theorem ksX2_leader : Cond.selects RX2 yX2_leader yX2_leader ∈ am_G := am_inG 474 (by decide +kernel) (by decide +kernel)
abbrev rmX2_arrange : Room := { frames := 2, cells := 0, slots := 0, locals := 47 }
theorem kcX2_arrange : Cond.code yX2_arrange cX2_arrange 5 (some .int) ∈ am_G := am_inG 408 (by decide +kernel) (by decide +kernel)
theorem kiX2_arrange : Cond.instanceMethod yX2_arrange ∈ am_G := am_inG 407 (by decide +kernel) (by decide +kernel)
theorem ksX2_arrange : Cond.selects RX2 yX2_arrange yX2_arrange ∈ am_G := am_inG 4 (by decide +kernel) (by decide +kernel)
abbrev rmX2_rankOf : Room := { frames := 1, cells := 0, slots := 0, locals := 24 }
theorem kcX2_rankOf : Cond.code yX2_rankOf cX2_rankOf 4 (some .int) ∈ am_G := am_inG 412 (by decide +kernel) (by decide +kernel)
theorem kiX2_rankOf : Cond.instanceMethod yX2_rankOf ∈ am_G := am_inG 410 (by decide +kernel) (by decide +kernel)
theorem ksX2_rankOf : Cond.selects RX2 yX2_rankOf yX2_rankOf ∈ am_G := am_inG 411 (by decide +kernel) (by decide +kernel)
abbrev rmX2_rankAgainst : Room := { frames := 0, cells := 0, slots := 0, locals := 0 }
theorem kcX2_rankAgainst : Cond.code yX2_rankAgainst cX2_rankAgainst 5 (some .int) ∈ am_G := am_inG 416 (by decide +kernel) (by decide +kernel)
theorem kiX2_rankAgainst : Cond.instanceMethod yX2_rankAgainst ∈ am_G := am_inG 415 (by decide +kernel) (by decide +kernel)
theorem ksX2_rankAgainst : Cond.selects RX2 yX2_rankAgainst yX2_rankAgainst ∈ am_G := am_inG 5 (by decide +kernel) (by decide +kernel)
abbrev rmX2_countOdds : Room := { frames := 2, cells := 0, slots := 0, locals := 49 }
theorem kcX2_countOdds : Cond.code yX2_countOdds cX2_countOdds 5 none ∈ am_G := am_inG 420 (by decide +kernel) (by decide +kernel)
theorem kiX2_countOdds : Cond.instanceMethod yX2_countOdds ∈ am_G := am_inG 418 (by decide +kernel) (by decide +kernel)
theorem ksX2_countOdds : Cond.selects RX2 yX2_countOdds yX2_countOdds ∈ am_G := am_inG 419 (by decide +kernel) (by decide +kernel)
abbrev rmX2_sumOfFirst : Room := { frames := 1, cells := 0, slots := 0, locals := 21 }
theorem kcX2_sumOfFirst : Cond.code yX2_sumOfFirst cX2_sumOfFirst 6 (some .long) ∈ am_G := am_inG 702 (by decide +kernel) (by decide +kernel)
theorem kiX2_sumOfFirst : Cond.instanceMethod yX2_sumOfFirst ∈ am_G := am_inG 700 (by decide +kernel) (by decide +kernel)
theorem ksX2_sumOfFirst : Cond.selects RX2 yX2_sumOfFirst yX2_sumOfFirst ∈ am_G := am_inG 701 (by decide +kernel) (by decide +kernel)
abbrev rmX3_init : Room := { frames := 1, cells := 0, slots := 0, locals := 20 }
theorem kcX3_init : Cond.code yX3_init cX3_init 7 none ∈ am_G := am_inG 265 (by decide +kernel) (by decide +kernel)
theorem kiX3_init : Cond.instanceMethod yX3_init ∈ am_G := am_inG 264 (by decide +kernel) (by decide +kernel)
abbrev rmX3_areWithinBounds : Room := { frames := 1, cells := 0, slots := 0, locals := 22 }
theorem kcX3_areWithinBounds : Cond.code yX3_areWithinBounds cX3_areWithinBounds 1 (some .boolean) ∈ am_G := am_inG 295 (by decide +kernel) (by decide +kernel)
theorem kiX3_areWithinBounds : Cond.instanceMethod yX3_areWithinBounds ∈ am_G := am_inG 293 (by decide +kernel) (by decide +kernel)
theorem ksX3_areWithinBounds : Cond.selects RX3 yX3_areWithinBounds yX3_areWithinBounds ∈ am_G := am_inG 294 (by decide +kernel) (by decide +kernel)
abbrev rmX4_init : Room := { frames := 1, cells := 2, slots := 24, locals := 20 }
theorem kcX4_init : Cond.code yX4_init cX4_init 1 none ∈ am_G := am_inG 165 (by decide +kernel) (by decide +kernel)
theorem kiX4_init : Cond.instanceMethod yX4_init ∈ am_G := am_inG 164 (by decide +kernel) (by decide +kernel)
abbrev rmX4_find : Room := { frames := 4, cells := 0, slots := 0, locals := 91 }
theorem kcX4_find : Cond.code yX4_find cX4_find 4 none ∈ am_G := am_inG 586 (by decide +kernel) (by decide +kernel)
theorem kiX4_find : Cond.instanceMethod yX4_find ∈ am_G := am_inG 584 (by decide +kernel) (by decide +kernel)
theorem ksX4_find : Cond.selects RX4 yX4_find yX4_find ∈ am_G := am_inG 585 (by decide +kernel) (by decide +kernel)
abbrev rmX4_settingFor : Room := { frames := 2, cells := 0, slots := 0, locals := 44 }
theorem kcX4_settingFor : Cond.code yX4_settingFor cX4_settingFor 3 (some .int) ∈ am_G := am_inG 624 (by decide +kernel) (by decide +kernel)
theorem kiX4_settingFor : Cond.instanceMethod yX4_settingFor ∈ am_G := am_inG 622 (by decide +kernel) (by decide +kernel)
theorem ksX4_settingFor : Cond.selects RX4 yX4_settingFor yX4_settingFor ∈ am_G := am_inG 623 (by decide +kernel) (by decide +kernel)
abbrev rmX4_putAllFromCut : Room := { frames := 2, cells := 0, slots := 0, locals := 43 }
theorem kcX4_putAllFromCut : Cond.code yX4_putAllFromCut cX4_putAllFromCut 4 none ∈ am_G := am_inG 591 (by decide +kernel) (by decide +kernel)
theorem kiX4_putAllFromCut : Cond.instanceMethod yX4_putAllFromCut ∈ am_G := am_inG 590 (by decide +kernel) (by decide +kernel)
theorem ksX4_putAllFromCut : Cond.selects RX4 yX4_putAllFromCut yX4_putAllFromCut ∈ am_G := am_inG 15 (by decide +kernel) (by decide +kernel)
abbrev rmX4_moveBelow : Room := { frames := 2, cells := 0, slots := 0, locals := 44 }
theorem kcX4_moveBelow : Cond.code yX4_moveBelow cX4_moveBelow 6 none ∈ am_G := am_inG 598 (by decide +kernel) (by decide +kernel)
theorem kiX4_moveBelow : Cond.instanceMethod yX4_moveBelow ∈ am_G := am_inG 597 (by decide +kernel) (by decide +kernel)
theorem ksX4_moveBelow : Cond.selects RX4 yX4_moveBelow yX4_moveBelow ∈ am_G := am_inG 16 (by decide +kernel) (by decide +kernel)
abbrev rmX4_keepIfLess : Room := { frames := 3, cells := 0, slots := 0, locals := 65 }
theorem kcX4_keepIfLess : Cond.code yX4_keepIfLess cX4_keepIfLess 7 none ∈ am_G := am_inG 603 (by decide +kernel) (by decide +kernel)
theorem kiX4_keepIfLess : Cond.instanceMethod yX4_keepIfLess ∈ am_G := am_inG 602 (by decide +kernel) (by decide +kernel)
theorem ksX4_keepIfLess : Cond.selects RX4 yX4_keepIfLess yX4_keepIfLess ∈ am_G := am_inG 17 (by decide +kernel) (by decide +kernel)
abbrev rmX4_leastOf : Room := { frames := 2, cells := 0, slots := 0, locals := 42 }
theorem kcX4_leastOf : Cond.code yX4_leastOf cX4_leastOf 4 (some .int) ∈ am_G := am_inG 606 (by decide +kernel) (by decide +kernel)
theorem kzX4_leastOf : Cond.static yX4_leastOf ∈ am_G := am_inG 605 (by decide +kernel) (by decide +kernel)
abbrev rmX5_init : Room := { frames := 1, cells := 18, slots := 386, locals := 23 }
theorem kcX5_init : Cond.code yX5_init cX5_init 2 none ∈ am_G := am_inG 68 (by decide +kernel) (by decide +kernel)
theorem kiX5_init : Cond.instanceMethod yX5_init ∈ am_G := am_inG 67 (by decide +kernel) (by decide +kernel)
abbrev rmX5_addSetting : Room := { frames := 0, cells := 0, slots := 0, locals := 0 }
theorem kcX5_addSetting : Cond.code yX5_addSetting cX5_addSetting 1 (some .int) ∈ am_G := am_inG 217 (by decide +kernel) (by decide +kernel)
theorem kiX5_addSetting : Cond.instanceMethod yX5_addSetting ∈ am_G := am_inG 215 (by decide +kernel) (by decide +kernel)
theorem ksX5_addSetting : Cond.selects RX5 yX5_addSetting yX5_addSetting ∈ am_G := am_inG 216 (by decide +kernel) (by decide +kernel)
abbrev rmX5_addInstance : Room := { frames := 0, cells := 0, slots := 0, locals := 0 }
theorem kcX5_addInstance : Cond.code yX5_addInstance cX5_addInstance 4 (some .int) ∈ am_G := am_inG 228 (by decide +kernel) (by decide +kernel)
theorem kiX5_addInstance : Cond.instanceMethod yX5_addInstance ∈ am_G := am_inG 226 (by decide +kernel) (by decide +kernel)
theorem ksX5_addInstance : Cond.selects RX5 yX5_addInstance yX5_addInstance ∈ am_G := am_inG 227 (by decide +kernel) (by decide +kernel)
abbrev rmX5_hasSetting : Room := { frames := 0, cells := 0, slots := 0, locals := 0 }
theorem kcX5_hasSetting : Cond.code yX5_hasSetting cX5_hasSetting 2 (some .boolean) ∈ am_G := am_inG 236 (by decide +kernel) (by decide +kernel)
theorem kiX5_hasSetting : Cond.instanceMethod yX5_hasSetting ∈ am_G := am_inG 234 (by decide +kernel) (by decide +kernel)
theorem ksX5_hasSetting : Cond.selects RX5 yX5_hasSetting yX5_hasSetting ∈ am_G := am_inG 235 (by decide +kernel) (by decide +kernel)
abbrev rmX5_hasInstance : Room := { frames := 0, cells := 0, slots := 0, locals := 0 }
theorem kcX5_hasInstance : Cond.code yX5_hasInstance cX5_hasInstance 2 (some .boolean) ∈ am_G := am_inG 240 (by decide +kernel) (by decide +kernel)
theorem kiX5_hasInstance : Cond.instanceMethod yX5_hasInstance ∈ am_G := am_inG 238 (by decide +kernel) (by decide +kernel)
theorem ksX5_hasInstance : Cond.selects RX5 yX5_hasInstance yX5_hasInstance ∈ am_G := am_inG 239 (by decide +kernel) (by decide +kernel)
abbrev rmX5_isLearning : Room := { frames := 1, cells := 0, slots := 0, locals := 21 }
theorem kcX5_isLearning : Cond.code yX5_isLearning cX5_isLearning 2 (some .boolean) ∈ am_G := am_inG 543 (by decide +kernel) (by decide +kernel)
theorem kiX5_isLearning : Cond.instanceMethod yX5_isLearning ∈ am_G := am_inG 541 (by decide +kernel) (by decide +kernel)
theorem ksX5_isLearning : Cond.selects RX5 yX5_isLearning yX5_isLearning ∈ am_G := am_inG 542 (by decide +kernel) (by decide +kernel)
abbrev rmX5_costAt : Room := { frames := 1, cells := 0, slots := 0, locals := 21 }
theorem kcX5_costAt : Cond.code yX5_costAt cX5_costAt 3 (some .int) ∈ am_G := am_inG 245 (by decide +kernel) (by decide +kernel)
theorem kiX5_costAt : Cond.instanceMethod yX5_costAt ∈ am_G := am_inG 243 (by decide +kernel) (by decide +kernel)
theorem ksX5_costAt : Cond.selects RX5 yX5_costAt yX5_costAt ∈ am_G := am_inG 244 (by decide +kernel) (by decide +kernel)
abbrev rmX5_tell : Room := { frames := 1, cells := 0, slots := 0, locals := 21 }
theorem kcX5_tell : Cond.code yX5_tell cX5_tell 4 (some .int) ∈ am_G := am_inG 252 (by decide +kernel) (by decide +kernel)
theorem kiX5_tell : Cond.instanceMethod yX5_tell ∈ am_G := am_inG 250 (by decide +kernel) (by decide +kernel)
theorem ksX5_tell : Cond.selects RX5 yX5_tell yX5_tell ∈ am_G := am_inG 251 (by decide +kernel) (by decide +kernel)
abbrev rmX5_isWhole : Room := { frames := 1, cells := 0, slots := 0, locals := 21 }
theorem kcX5_isWhole : Cond.code yX5_isWhole cX5_isWhole 2 (some .boolean) ∈ am_G := am_inG 510 (by decide +kernel) (by decide +kernel)
theorem kiX5_isWhole : Cond.instanceMethod yX5_isWhole ∈ am_G := am_inG 508 (by decide +kernel) (by decide +kernel)
theorem ksX5_isWhole : Cond.selects RX5 yX5_isWhole yX5_isWhole ∈ am_G := am_inG 509 (by decide +kernel) (by decide +kernel)
abbrev rmX5_countWhole : Room := { frames := 2, cells := 0, slots := 0, locals := 42 }
theorem kcX5_countWhole : Cond.code yX5_countWhole cX5_countWhole 3 (some .int) ∈ am_G := am_inG 506 (by decide +kernel) (by decide +kernel)
theorem kiX5_countWhole : Cond.instanceMethod yX5_countWhole ∈ am_G := am_inG 504 (by decide +kernel) (by decide +kernel)
theorem ksX5_countWhole : Cond.selects RX5 yX5_countWhole yX5_countWhole ∈ am_G := am_inG 505 (by decide +kernel) (by decide +kernel)
abbrev rmX5_featureAt : Room := { frames := 1, cells := 0, slots := 0, locals := 22 }
theorem kcX5_featureAt : Cond.code yX5_featureAt cX5_featureAt 3 (some .int) ∈ am_G := am_inG 572 (by decide +kernel) (by decide +kernel)
theorem kiX5_featureAt : Cond.instanceMethod yX5_featureAt ∈ am_G := am_inG 570 (by decide +kernel) (by decide +kernel)
theorem ksX5_featureAt : Cond.selects RX5 yX5_featureAt yX5_featureAt ∈ am_G := am_inG 571 (by decide +kernel) (by decide +kernel)
abbrev rmX5_learningOnes : Room := { frames := 0, cells := 1, slots := 24, locals := 0 }
theorem kcX5_learningOnes : Cond.code yX5_learningOnes cX5_learningOnes 5 (some (.array .int)) ∈ am_G := am_inG 307 (by decide +kernel) (by decide +kernel)
theorem kiX5_learningOnes : Cond.instanceMethod yX5_learningOnes ∈ am_G := am_inG 305 (by decide +kernel) (by decide +kernel)
theorem ksX5_learningOnes : Cond.selects RX5 yX5_learningOnes yX5_learningOnes ∈ am_G := am_inG 306 (by decide +kernel) (by decide +kernel)
abbrev rmX5_nearestLearning : Room := { frames := 3, cells := 0, slots := 0, locals := 66 }
theorem kcX5_nearestLearning : Cond.code yX5_nearestLearning cX5_nearestLearning 5 (some .int) ∈ am_G := am_inG 563 (by decide +kernel) (by decide +kernel)
theorem kiX5_nearestLearning : Cond.instanceMethod yX5_nearestLearning ∈ am_G := am_inG 561 (by decide +kernel) (by decide +kernel)
theorem ksX5_nearestLearning : Cond.selects RX5 yX5_nearestLearning yX5_nearestLearning ∈ am_G := am_inG 562 (by decide +kernel) (by decide +kernel)
abbrev rmX5_distance : Room := { frames := 2, cells := 0, slots := 0, locals := 44 }
theorem kcX5_distance : Cond.code yX5_distance cX5_distance 3 (some .int) ∈ am_G := am_inG 568 (by decide +kernel) (by decide +kernel)
theorem kiX5_distance : Cond.instanceMethod yX5_distance ∈ am_G := am_inG 567 (by decide +kernel) (by decide +kernel)
theorem ksX5_distance : Cond.selects RX5 yX5_distance yX5_distance ∈ am_G := am_inG 14 (by decide +kernel) (by decide +kernel)
abbrev rmX5_bestOn : Room := { frames := 2, cells := 0, slots := 0, locals := 42 }
theorem kcX5_bestOn : Cond.code yX5_bestOn cX5_bestOn 5 (some .int) ∈ am_G := am_inG 578 (by decide +kernel) (by decide +kernel)
theorem kiX5_bestOn : Cond.instanceMethod yX5_bestOn ∈ am_G := am_inG 576 (by decide +kernel) (by decide +kernel)
theorem ksX5_bestOn : Cond.selects RX5 yX5_bestOn yX5_bestOn ∈ am_G := am_inG 577 (by decide +kernel) (by decide +kernel)
abbrev rmX6_init : Room := { frames := 2, cells := 44, slots := 1446, locals := 44 }
theorem kcX6_init : Cond.code yX6_init cX6_init 1 none ∈ am_G := am_inG 60 (by decide +kernel) (by decide +kernel)
theorem kiX6_init : Cond.instanceMethod yX6_init ∈ am_G := am_inG 59 (by decide +kernel) (by decide +kernel)
abbrev rmX6_setting : Room := { frames := 1, cells := 0, slots := 0, locals := 20 }
theorem kcX6_setting : Cond.code yX6_setting cX6_setting 1 (some .int) ∈ am_G := am_inG 213 (by decide +kernel) (by decide +kernel)
theorem kiX6_setting : Cond.instanceMethod yX6_setting ∈ am_G := am_inG 211 (by decide +kernel) (by decide +kernel)
theorem ksX6_setting : Cond.selects RX6 yX6_setting yX6_setting ∈ am_G := am_inG 212 (by decide +kernel) (by decide +kernel)
abbrev rmX6_instance : Room := { frames := 1, cells := 0, slots := 0, locals := 23 }
theorem kcX6_instance : Cond.code yX6_instance cX6_instance 4 (some .int) ∈ am_G := am_inG 221 (by decide +kernel) (by decide +kernel)
theorem kiX6_instance : Cond.instanceMethod yX6_instance ∈ am_G := am_inG 219 (by decide +kernel) (by decide +kernel)
theorem ksX6_instance : Cond.selects RX6 yX6_instance yX6_instance ∈ am_G := am_inG 220 (by decide +kernel) (by decide +kernel)
abbrev rmX6_cost : Room := { frames := 2, cells := 0, slots := 0, locals := 44 }
theorem kcX6_cost : Cond.code yX6_cost cX6_cost 4 (some .int) ∈ am_G := am_inG 232 (by decide +kernel) (by decide +kernel)
theorem kiX6_cost : Cond.instanceMethod yX6_cost ∈ am_G := am_inG 230 (by decide +kernel) (by decide +kernel)
theorem ksX6_cost : Cond.selects RX6 yX6_cost yX6_cost ∈ am_G := am_inG 231 (by decide +kernel) (by decide +kernel)
abbrev rmX6_costOf : Room := { frames := 2, cells := 0, slots := 0, locals := 43 }
theorem kcX6_costOf : Cond.code yX6_costOf cX6_costOf 4 (some .int) ∈ am_G := am_inG 256 (by decide +kernel) (by decide +kernel)
theorem kiX6_costOf : Cond.instanceMethod yX6_costOf ∈ am_G := am_inG 254 (by decide +kernel) (by decide +kernel)
theorem ksX6_costOf : Cond.selects RX6 yX6_costOf yX6_costOf ∈ am_G := am_inG 255 (by decide +kernel) (by decide +kernel)
abbrev rmX6_race : Room := { frames := 2, cells := 20, slots := 393, locals := 47 }
theorem kcX6_race : Cond.code yX6_race cX6_race 10 (some .int) ∈ am_G := am_inG 260 (by decide +kernel) (by decide +kernel)
theorem kiX6_race : Cond.instanceMethod yX6_race ∈ am_G := am_inG 258 (by decide +kernel) (by decide +kernel)
theorem ksX6_race : Cond.selects RX6 yX6_race yX6_race ∈ am_G := am_inG 259 (by decide +kernel) (by decide +kernel)
abbrev rmX6_wants : Room := { frames := 1, cells := 0, slots := 0, locals := 22 }
theorem kcX6_wants : Cond.code yX6_wants cX6_wants 2 (some .int) ∈ am_G := am_inG 374 (by decide +kernel) (by decide +kernel)
theorem kiX6_wants : Cond.instanceMethod yX6_wants ∈ am_G := am_inG 372 (by decide +kernel) (by decide +kernel)
theorem ksX6_wants : Cond.selects RX6 yX6_wants yX6_wants ∈ am_G := am_inG 373 (by decide +kernel) (by decide +kernel)
abbrev rmX6_run : Room := { frames := 6, cells := 0, slots := 0, locals := 138 }
theorem kcX6_run : Cond.code yX6_run cX6_run 1 (some .int) ∈ am_G := am_inG 382 (by decide +kernel) (by decide +kernel)
theorem kiX6_run : Cond.instanceMethod yX6_run ∈ am_G := am_inG 380 (by decide +kernel) (by decide +kernel)
theorem ksX6_run : Cond.selects RX6 yX6_run yX6_run ∈ am_G := am_inG 381 (by decide +kernel) (by decide +kernel)
abbrev rmX6_left : Room := { frames := 2, cells := 0, slots := 0, locals := 44 }
theorem kcX6_left : Cond.code yX6_left cX6_left 2 (some .int) ∈ am_G := am_inG 463 (by decide +kernel) (by decide +kernel)
theorem kiX6_left : Cond.instanceMethod yX6_left ∈ am_G := am_inG 461 (by decide +kernel) (by decide +kernel)
theorem ksX6_left : Cond.selects RX6 yX6_left yX6_left ∈ am_G := am_inG 462 (by decide +kernel) (by decide +kernel)
abbrev rmX6_raceOf : Room := { frames := 4, cells := 0, slots := 0, locals := 91 }
theorem kcX6_raceOf : Cond.code yX6_raceOf cX6_raceOf 2 (some .int) ∈ am_G := am_inG 471 (by decide +kernel) (by decide +kernel)
theorem kiX6_raceOf : Cond.instanceMethod yX6_raceOf ∈ am_G := am_inG 469 (by decide +kernel) (by decide +kernel)
theorem ksX6_raceOf : Cond.selects RX6 yX6_raceOf yX6_raceOf ∈ am_G := am_inG 470 (by decide +kernel) (by decide +kernel)
abbrev rmX6_rank : Room := { frames := 2, cells := 0, slots := 0, locals := 47 }
theorem kcX6_rank : Cond.code yX6_rank cX6_rank 2 (some .int) ∈ am_G := am_inG 479 (by decide +kernel) (by decide +kernel)
theorem kiX6_rank : Cond.instanceMethod yX6_rank ∈ am_G := am_inG 477 (by decide +kernel) (by decide +kernel)
theorem ksX6_rank : Cond.selects RX6 yX6_rank yX6_rank ∈ am_G := am_inG 478 (by decide +kernel) (by decide +kernel)
abbrev rmX6_dropped : Room := { frames := 1, cells := 0, slots := 0, locals := 21 }
theorem kcX6_dropped : Cond.code yX6_dropped cX6_dropped 2 (some .int) ∈ am_G := am_inG 485 (by decide +kernel) (by decide +kernel)
theorem kiX6_dropped : Cond.instanceMethod yX6_dropped ∈ am_G := am_inG 483 (by decide +kernel) (by decide +kernel)
theorem ksX6_dropped : Cond.selects RX6 yX6_dropped yX6_dropped ∈ am_G := am_inG 484 (by decide +kernel) (by decide +kernel)
abbrev rmX6_odds : Room := { frames := 3, cells := 0, slots := 0, locals := 73 }
theorem kcX6_odds : Cond.code yX6_odds cX6_odds 4 (some .long) ∈ am_G := am_inG 490 (by decide +kernel) (by decide +kernel)
theorem kiX6_odds : Cond.instanceMethod yX6_odds ∈ am_G := am_inG 488 (by decide +kernel) (by decide +kernel)
theorem ksX6_odds : Cond.selects RX6 yX6_odds yX6_odds ∈ am_G := am_inG 489 (by decide +kernel) (by decide +kernel)
abbrev rmX6_portfolio : Room := { frames := 5, cells := 0, slots := 0, locals := 115 }
theorem kcX6_portfolio : Cond.code yX6_portfolio cX6_portfolio 3 (some .int) ∈ am_G := am_inG 502 (by decide +kernel) (by decide +kernel)
theorem kiX6_portfolio : Cond.instanceMethod yX6_portfolio ∈ am_G := am_inG 500 (by decide +kernel) (by decide +kernel)
theorem ksX6_portfolio : Cond.selects RX6 yX6_portfolio yX6_portfolio ∈ am_G := am_inG 501 (by decide +kernel) (by decide +kernel)
abbrev rmX6_pick : Room := { frames := 5, cells := 0, slots := 0, locals := 111 }
theorem kcX6_pick : Cond.code yX6_pick cX6_pick 3 (some .int) ∈ am_G := am_inG 555 (by decide +kernel) (by decide +kernel)
theorem kiX6_pick : Cond.instanceMethod yX6_pick ∈ am_G := am_inG 553 (by decide +kernel) (by decide +kernel)
theorem ksX6_pick : Cond.selects RX6 yX6_pick yX6_pick ∈ am_G := am_inG 554 (by decide +kernel) (by decide +kernel)
abbrev rmX6_stump : Room := { frames := 5, cells := 0, slots := 0, locals := 114 }
theorem kcX6_stump : Cond.code yX6_stump cX6_stump 2 (some .int) ∈ am_G := am_inG 582 (by decide +kernel) (by decide +kernel)
theorem kiX6_stump : Cond.instanceMethod yX6_stump ∈ am_G := am_inG 580 (by decide +kernel) (by decide +kernel)
theorem ksX6_stump : Cond.selects RX6 yX6_stump yX6_stump ∈ am_G := am_inG 581 (by decide +kernel) (by decide +kernel)
abbrev rmX6_heldOut : Room := { frames := 6, cells := 0, slots := 0, locals := 136 }
theorem kcX6_heldOut : Cond.code yX6_heldOut cX6_heldOut 5 (some .int) ∈ am_G := am_inG 611 (by decide +kernel) (by decide +kernel)
theorem kiX6_heldOut : Cond.instanceMethod yX6_heldOut ∈ am_G := am_inG 609 (by decide +kernel) (by decide +kernel)
theorem ksX6_heldOut : Cond.selects RX6 yX6_heldOut yX6_heldOut ∈ am_G := am_inG 610 (by decide +kernel) (by decide +kernel)
abbrev rmX6_mean : Room := { frames := 6, cells := 1, slots := 6, locals := 90 }
theorem kcX6_mean : Cond.code yX6_mean cX6_mean 4 (some .long) ∈ am_G := am_inG 632 (by decide +kernel) (by decide +kernel)
theorem kiX6_mean : Cond.instanceMethod yX6_mean ∈ am_G := am_inG 630 (by decide +kernel) (by decide +kernel)
theorem ksX6_mean : Cond.selects RX6 yX6_mean yX6_mean ∈ am_G := am_inG 631 (by decide +kernel) (by decide +kernel)
abbrev rmX6_isWithin : Room := { frames := 0, cells := 0, slots := 0, locals := 0 }
theorem kcX6_isWithin : Cond.code yX6_isWithin cX6_isWithin 3 (some .boolean) ∈ am_G := am_inG 224 (by decide +kernel) (by decide +kernel)
theorem kzX6_isWithin : Cond.static yX6_isWithin ∈ am_G := am_inG 223 (by decide +kernel) (by decide +kernel)
abbrev rmX6_pickFor : Room := { frames := 4, cells := 0, slots := 0, locals := 90 }
theorem kcX6_pickFor : Cond.code yX6_pickFor cX6_pickFor 2 (some .int) ∈ am_G := am_inG 559 (by decide +kernel) (by decide +kernel)
theorem kiX6_pickFor : Cond.instanceMethod yX6_pickFor ∈ am_G := am_inG 558 (by decide +kernel) (by decide +kernel)
theorem ksX6_pickFor : Cond.selects RX6 yX6_pickFor yX6_pickFor ∈ am_G := am_inG 13 (by decide +kernel) (by decide +kernel)
abbrev rmX6_findChoice : Room := { frames := 5, cells := 0, slots := 0, locals := 115 }
theorem kcX6_findChoice : Cond.code yX6_findChoice cX6_findChoice 2 none ∈ am_G := am_inG 615 (by decide +kernel) (by decide +kernel)
theorem kiX6_findChoice : Cond.instanceMethod yX6_findChoice ∈ am_G := am_inG 614 (by decide +kernel) (by decide +kernel)
theorem ksX6_findChoice : Cond.selects RX6 yX6_findChoice yX6_findChoice ∈ am_G := am_inG 18 (by decide +kernel) (by decide +kernel)
abbrev rmX6_chosenFor : Room := { frames := 5, cells := 0, slots := 0, locals := 111 }
theorem kcX6_chosenFor : Cond.code yX6_chosenFor cX6_chosenFor 3 (some .int) ∈ am_G := am_inG 620 (by decide +kernel) (by decide +kernel)
theorem kiX6_chosenFor : Cond.instanceMethod yX6_chosenFor ∈ am_G := am_inG 619 (by decide +kernel) (by decide +kernel)
theorem ksX6_chosenFor : Cond.selects RX6 yX6_chosenFor yX6_chosenFor ∈ am_G := am_inG 19 (by decide +kernel) (by decide +kernel)
abbrev rmX6_lowestTerms : Room := { frames := 1, cells := 0, slots := 0, locals := 30 }
theorem kcX6_lowestTerms : Cond.code yX6_lowestTerms cX6_lowestTerms 9 (some .long) ∈ am_G := am_inG 495 (by decide +kernel) (by decide +kernel)
theorem kzX6_lowestTerms : Cond.static yX6_lowestTerms ∈ am_G := am_inG 494 (by decide +kernel) (by decide +kernel)
abbrev rmX6_greatestDivisor : Room := { frames := 0, cells := 0, slots := 0, locals := 0 }
theorem kcX6_greatestDivisor : Cond.code yX6_greatestDivisor cX6_greatestDivisor 11 (some .long) ∈ am_G := am_inG 498 (by decide +kernel) (by decide +kernel)
theorem kzX6_greatestDivisor : Cond.static yX6_greatestDivisor ∈ am_G := am_inG 497 (by decide +kernel) (by decide +kernel)
abbrev rmX7_init : Room := { frames := 1, cells := 9, slots := 1756, locals := 20 }
theorem kcX7_init : Cond.code yX7_init cX7_init 1 none ∈ am_G := am_inG 707 (by decide +kernel) (by decide +kernel)
theorem kiX7_init : Cond.instanceMethod yX7_init ∈ am_G := am_inG 706 (by decide +kernel) (by decide +kernel)
abbrev rmX7_thrown : Room := { frames := 0, cells := 0, slots := 0, locals := 0 }
theorem kcX7_thrown : Cond.code yX7_thrown cX7_thrown 1 (some .int) ∈ am_G := am_inG 815 (by decide +kernel) (by decide +kernel)
theorem kiX7_thrown : Cond.instanceMethod yX7_thrown ∈ am_G := am_inG 813 (by decide +kernel) (by decide +kernel)
theorem ksX7_thrown : Cond.selects RX7 yX7_thrown yX7_thrown ∈ am_G := am_inG 814 (by decide +kernel) (by decide +kernel)
abbrev rmX7_in : Room := { frames := 0, cells := 0, slots := 0, locals := 0 }
theorem kcX7_in : Cond.code yX7_in cX7_in 3 (some .boolean) ∈ am_G := am_inG 826 (by decide +kernel) (by decide +kernel)
theorem kzX7_in : Cond.static yX7_in ∈ am_G := am_inG 825 (by decide +kernel) (by decide +kernel)
abbrev rmX7_isSetting : Room := { frames := 1, cells := 0, slots := 0, locals := 22 }
theorem kcX7_isSetting : Cond.code yX7_isSetting cX7_isSetting 2 (some .boolean) ∈ am_G := am_inG 834 (by decide +kernel) (by decide +kernel)
theorem kiX7_isSetting : Cond.instanceMethod yX7_isSetting ∈ am_G := am_inG 833 (by decide +kernel) (by decide +kernel)
theorem ksX7_isSetting : Cond.selects RX7 yX7_isSetting yX7_isSetting ∈ am_G := am_inG 21 (by decide +kernel) (by decide +kernel)
abbrev rmX7_isInstance : Room := { frames := 1, cells := 0, slots := 0, locals := 22 }
theorem kcX7_isInstance : Cond.code yX7_isInstance cX7_isInstance 2 (some .boolean) ∈ am_G := am_inG 838 (by decide +kernel) (by decide +kernel)
theorem kiX7_isInstance : Cond.instanceMethod yX7_isInstance ∈ am_G := am_inG 837 (by decide +kernel) (by decide +kernel)
theorem ksX7_isInstance : Cond.selects RX7 yX7_isInstance yX7_isInstance ∈ am_G := am_inG 22 (by decide +kernel) (by decide +kernel)
abbrev rmX7_costAt : Room := { frames := 0, cells := 0, slots := 0, locals := 0 }
theorem kcX7_costAt : Cond.code yX7_costAt cX7_costAt 3 (some .int) ∈ am_G := am_inG 848 (by decide +kernel) (by decide +kernel)
theorem kiX7_costAt : Cond.instanceMethod yX7_costAt ∈ am_G := am_inG 847 (by decide +kernel) (by decide +kernel)
theorem ksX7_costAt : Cond.selects RX7 yX7_costAt yX7_costAt ∈ am_G := am_inG 23 (by decide +kernel) (by decide +kernel)
abbrev rmX7_setting : Room := { frames := 0, cells := 0, slots := 0, locals := 0 }
theorem kcX7_setting : Cond.code yX7_setting cX7_setting 1 (some .int) ∈ am_G := am_inG 819 (by decide +kernel) (by decide +kernel)
theorem kiX7_setting : Cond.instanceMethod yX7_setting ∈ am_G := am_inG 817 (by decide +kernel) (by decide +kernel)
theorem ksX7_setting : Cond.selects RX7 yX7_setting yX7_setting ∈ am_G := am_inG 818 (by decide +kernel) (by decide +kernel)
abbrev rmX7_instance : Room := { frames := 1, cells := 0, slots := 0, locals := 22 }
theorem kcX7_instance : Cond.code yX7_instance cX7_instance 4 (some .int) ∈ am_G := am_inG 823 (by decide +kernel) (by decide +kernel)
theorem kiX7_instance : Cond.instanceMethod yX7_instance ∈ am_G := am_inG 821 (by decide +kernel) (by decide +kernel)
theorem ksX7_instance : Cond.selects RX7 yX7_instance yX7_instance ∈ am_G := am_inG 822 (by decide +kernel) (by decide +kernel)
abbrev rmX7_cost : Room := { frames := 2, cells := 0, slots := 0, locals := 43 }
theorem kcX7_cost : Cond.code yX7_cost cX7_cost 6 (some .int) ∈ am_G := am_inG 830 (by decide +kernel) (by decide +kernel)
theorem kiX7_cost : Cond.instanceMethod yX7_cost ∈ am_G := am_inG 828 (by decide +kernel) (by decide +kernel)
theorem ksX7_cost : Cond.selects RX7 yX7_cost yX7_cost ∈ am_G := am_inG 829 (by decide +kernel) (by decide +kernel)
abbrev rmX7_costOf : Room := { frames := 2, cells := 0, slots := 0, locals := 43 }
theorem kcX7_costOf : Cond.code yX7_costOf cX7_costOf 3 (some .int) ∈ am_G := am_inG 844 (by decide +kernel) (by decide +kernel)
theorem kiX7_costOf : Cond.instanceMethod yX7_costOf ∈ am_G := am_inG 842 (by decide +kernel) (by decide +kernel)
theorem ksX7_costOf : Cond.selects RX7 yX7_costOf yX7_costOf ∈ am_G := am_inG 843 (by decide +kernel) (by decide +kernel)
abbrev rmX7_leftMany : Room := { frames := 0, cells := 0, slots := 0, locals := 0 }
theorem kcX7_leftMany : Cond.code yX7_leftMany cX7_leftMany 3 (some .int) ∈ am_G := am_inG 861 (by decide +kernel) (by decide +kernel)
theorem kiX7_leftMany : Cond.instanceMethod yX7_leftMany ∈ am_G := am_inG 860 (by decide +kernel) (by decide +kernel)
theorem ksX7_leftMany : Cond.selects RX7 yX7_leftMany yX7_leftMany ∈ am_G := am_inG 25 (by decide +kernel) (by decide +kernel)
abbrev rmX7_look : Room := { frames := 1, cells := 0, slots := 0, locals := 22 }
theorem kcX7_look : Cond.code yX7_look cX7_look 2 none ∈ am_G := am_inG 857 (by decide +kernel) (by decide +kernel)
theorem kiX7_look : Cond.instanceMethod yX7_look ∈ am_G := am_inG 856 (by decide +kernel) (by decide +kernel)
theorem ksX7_look : Cond.selects RX7 yX7_look yX7_look ∈ am_G := am_inG 24 (by decide +kernel) (by decide +kernel)
abbrev rmX7_race : Room := { frames := 2, cells := 0, slots := 0, locals := 43 }
theorem kcX7_race : Cond.code yX7_race cX7_race 12 (some .int) ∈ am_G := am_inG 852 (by decide +kernel) (by decide +kernel)
theorem kiX7_race : Cond.instanceMethod yX7_race ∈ am_G := am_inG 850 (by decide +kernel) (by decide +kernel)
theorem ksX7_race : Cond.selects RX7 yX7_race yX7_race ∈ am_G := am_inG 851 (by decide +kernel) (by decide +kernel)
abbrev rmX7_isOn : Room := { frames := 0, cells := 0, slots := 0, locals := 0 }
theorem kcX7_isOn : Cond.code yX7_isOn cX7_isOn 1 (some .boolean) ∈ am_G := am_inG 869 (by decide +kernel) (by decide +kernel)
theorem kiX7_isOn : Cond.instanceMethod yX7_isOn ∈ am_G := am_inG 868 (by decide +kernel) (by decide +kernel)
theorem ksX7_isOn : Cond.selects RX7 yX7_isOn yX7_isOn ∈ am_G := am_inG 26 (by decide +kernel) (by decide +kernel)
abbrev rmX7_wants : Room := { frames := 1, cells := 0, slots := 0, locals := 22 }
theorem kcX7_wants : Cond.code yX7_wants cX7_wants 2 (some .int) ∈ am_G := am_inG 865 (by decide +kernel) (by decide +kernel)
theorem kiX7_wants : Cond.instanceMethod yX7_wants ∈ am_G := am_inG 863 (by decide +kernel) (by decide +kernel)
theorem ksX7_wants : Cond.selects RX7 yX7_wants yX7_wants ∈ am_G := am_inG 864 (by decide +kernel) (by decide +kernel)
abbrev rmX7_run : Room := { frames := 4, cells := 0, slots := 0, locals := 95 }
theorem kcX7_run : Cond.code yX7_run cX7_run 1 (some .int) ∈ am_G := am_inG 873 (by decide +kernel) (by decide +kernel)
theorem kiX7_run : Cond.instanceMethod yX7_run ∈ am_G := am_inG 871 (by decide +kernel) (by decide +kernel)
theorem ksX7_run : Cond.selects RX7 yX7_run yX7_run ∈ am_G := am_inG 872 (by decide +kernel) (by decide +kernel)
abbrev rmX7_rankOf : Room := { frames := 1, cells := 0, slots := 0, locals := 22 }
theorem kcX7_rankOf : Cond.code yX7_rankOf cX7_rankOf 7 (some .int) ∈ am_G := am_inG 885 (by decide +kernel) (by decide +kernel)
theorem kiX7_rankOf : Cond.instanceMethod yX7_rankOf ∈ am_G := am_inG 884 (by decide +kernel) (by decide +kernel)
theorem ksX7_rankOf : Cond.selects RX7 yX7_rankOf yX7_rankOf ∈ am_G := am_inG 29 (by decide +kernel) (by decide +kernel)
abbrev rmX7_leader : Room := { frames := 2, cells := 0, slots := 0, locals := 48 }
theorem kcX7_leader : Cond.code yX7_leader cX7_leader 3 (some .int) ∈ am_G := am_inG 881 (by decide +kernel) (by decide +kernel)
theorem kiX7_leader : Cond.instanceMethod yX7_leader ∈ am_G := am_inG 880 (by decide +kernel) (by decide +kernel)
theorem ksX7_leader : Cond.selects RX7 yX7_leader yX7_leader ∈ am_G := am_inG 28 (by decide +kernel) (by decide +kernel)
abbrev rmX7_drop : Room := { frames := 3, cells := 0, slots := 0, locals := 70 }
theorem kcX7_drop : Cond.code yX7_drop cX7_drop 6 none ∈ am_G := am_inG 877 (by decide +kernel) (by decide +kernel)
theorem kiX7_drop : Cond.instanceMethod yX7_drop ∈ am_G := am_inG 876 (by decide +kernel) (by decide +kernel)
theorem ksX7_drop : Cond.selects RX7 yX7_drop yX7_drop ∈ am_G := am_inG 27 (by decide +kernel) (by decide +kernel)
abbrev rmX7_ranOf : Room := { frames := 0, cells := 0, slots := 0, locals := 0 }
theorem kcX7_ranOf : Cond.code yX7_ranOf cX7_ranOf 2 (some .int) ∈ am_G := am_inG 893 (by decide +kernel) (by decide +kernel)
theorem kiX7_ranOf : Cond.instanceMethod yX7_ranOf ∈ am_G := am_inG 892 (by decide +kernel) (by decide +kernel)
theorem ksX7_ranOf : Cond.selects RX7 yX7_ranOf yX7_ranOf ∈ am_G := am_inG 31 (by decide +kernel) (by decide +kernel)
abbrev rmX7_findOdds : Room := { frames := 1, cells := 0, slots := 0, locals := 22 }
theorem kcX7_findOdds : Cond.code yX7_findOdds cX7_findOdds 11 none ∈ am_G := am_inG 889 (by decide +kernel) (by decide +kernel)
theorem kiX7_findOdds : Cond.instanceMethod yX7_findOdds ∈ am_G := am_inG 888 (by decide +kernel) (by decide +kernel)
theorem ksX7_findOdds : Cond.selects RX7 yX7_findOdds yX7_findOdds ∈ am_G := am_inG 30 (by decide +kernel) (by decide +kernel)
abbrev rmX7_left : Room := { frames := 1, cells := 0, slots := 0, locals := 22 }
theorem kcX7_left : Cond.code yX7_left cX7_left 4 (some .int) ∈ am_G := am_inG 898 (by decide +kernel) (by decide +kernel)
theorem kiX7_left : Cond.instanceMethod yX7_left ∈ am_G := am_inG 896 (by decide +kernel) (by decide +kernel)
theorem ksX7_left : Cond.selects RX7 yX7_left yX7_left ∈ am_G := am_inG 897 (by decide +kernel) (by decide +kernel)
abbrev rmX7_raceOf : Room := { frames := 3, cells := 0, slots := 0, locals := 70 }
theorem kcX7_raceOf : Cond.code yX7_raceOf cX7_raceOf 2 (some .int) ∈ am_G := am_inG 902 (by decide +kernel) (by decide +kernel)
theorem kiX7_raceOf : Cond.instanceMethod yX7_raceOf ∈ am_G := am_inG 900 (by decide +kernel) (by decide +kernel)
theorem ksX7_raceOf : Cond.selects RX7 yX7_raceOf yX7_raceOf ∈ am_G := am_inG 901 (by decide +kernel) (by decide +kernel)
abbrev rmX7_rank : Room := { frames := 2, cells := 0, slots := 0, locals := 48 }
theorem kcX7_rank : Cond.code yX7_rank cX7_rank 2 (some .int) ∈ am_G := am_inG 906 (by decide +kernel) (by decide +kernel)
theorem kiX7_rank : Cond.instanceMethod yX7_rank ∈ am_G := am_inG 904 (by decide +kernel) (by decide +kernel)
theorem ksX7_rank : Cond.selects RX7 yX7_rank yX7_rank ∈ am_G := am_inG 905 (by decide +kernel) (by decide +kernel)
abbrev rmX7_dropped : Room := { frames := 1, cells := 0, slots := 0, locals := 22 }
theorem kcX7_dropped : Cond.code yX7_dropped cX7_dropped 2 (some .int) ∈ am_G := am_inG 910 (by decide +kernel) (by decide +kernel)
theorem kiX7_dropped : Cond.instanceMethod yX7_dropped ∈ am_G := am_inG 908 (by decide +kernel) (by decide +kernel)
theorem ksX7_dropped : Cond.selects RX7 yX7_dropped yX7_dropped ∈ am_G := am_inG 909 (by decide +kernel) (by decide +kernel)
abbrev rmX7_odds : Room := { frames := 2, cells := 0, slots := 0, locals := 52 }
theorem kcX7_odds : Cond.code yX7_odds cX7_odds 4 (some .long) ∈ am_G := am_inG 914 (by decide +kernel) (by decide +kernel)
theorem kiX7_odds : Cond.instanceMethod yX7_odds ∈ am_G := am_inG 912 (by decide +kernel) (by decide +kernel)
theorem ksX7_odds : Cond.selects RX7 yX7_odds yX7_odds ∈ am_G := am_inG 913 (by decide +kernel) (by decide +kernel)
abbrev rmX7_isWhole : Room := { frames := 0, cells := 0, slots := 0, locals := 0 }
theorem kcX7_isWhole : Cond.code yX7_isWhole cX7_isWhole 3 (some .boolean) ∈ am_G := am_inG 927 (by decide +kernel) (by decide +kernel)
theorem kiX7_isWhole : Cond.instanceMethod yX7_isWhole ∈ am_G := am_inG 926 (by decide +kernel) (by decide +kernel)
theorem ksX7_isWhole : Cond.selects RX7 yX7_isWhole yX7_isWhole ∈ am_G := am_inG 33 (by decide +kernel) (by decide +kernel)
abbrev rmX7_wholes : Room := { frames := 1, cells := 0, slots := 0, locals := 22 }
theorem kcX7_wholes : Cond.code yX7_wholes cX7_wholes 3 (some .int) ∈ am_G := am_inG 923 (by decide +kernel) (by decide +kernel)
theorem kiX7_wholes : Cond.instanceMethod yX7_wholes ∈ am_G := am_inG 922 (by decide +kernel) (by decide +kernel)
theorem ksX7_wholes : Cond.selects RX7 yX7_wholes yX7_wholes ∈ am_G := am_inG 32 (by decide +kernel) (by decide +kernel)
abbrev rmX7_many : Room := { frames := 0, cells := 0, slots := 0, locals := 0 }
theorem kcX7_many : Cond.code yX7_many cX7_many 3 (some .int) ∈ am_G := am_inG 930 (by decide +kernel) (by decide +kernel)
theorem kzX7_many : Cond.static yX7_many ∈ am_G := am_inG 929 (by decide +kernel) (by decide +kernel)
abbrev rmX7_isAhead : Room := { frames := 0, cells := 0, slots := 0, locals := 0 }
theorem kcX7_isAhead : Cond.code yX7_isAhead cX7_isAhead 3 (some .boolean) ∈ am_G := am_inG 941 (by decide +kernel) (by decide +kernel)
theorem kzX7_isAhead : Cond.static yX7_isAhead ∈ am_G := am_inG 940 (by decide +kernel) (by decide +kernel)
abbrev rmX7_findSet : Room := { frames := 2, cells := 0, slots := 0, locals := 46 }
theorem kcX7_findSet : Cond.code yX7_findSet cX7_findSet 6 none ∈ am_G := am_inG 934 (by decide +kernel) (by decide +kernel)
theorem kiX7_findSet : Cond.instanceMethod yX7_findSet ∈ am_G := am_inG 933 (by decide +kernel) (by decide +kernel)
theorem ksX7_findSet : Cond.selects RX7 yX7_findSet yX7_findSet ∈ am_G := am_inG 34 (by decide +kernel) (by decide +kernel)
abbrev rmX7_leastOf : Room := { frames := 1, cells := 0, slots := 0, locals := 22 }
theorem kcX7_leastOf : Cond.code yX7_leastOf cX7_leastOf 5 (some .int) ∈ am_G := am_inG 938 (by decide +kernel) (by decide +kernel)
theorem kiX7_leastOf : Cond.instanceMethod yX7_leastOf ∈ am_G := am_inG 937 (by decide +kernel) (by decide +kernel)
theorem ksX7_leastOf : Cond.selects RX7 yX7_leastOf yX7_leastOf ∈ am_G := am_inG 35 (by decide +kernel) (by decide +kernel)
abbrev rmX7_portfolio : Room := { frames := 3, cells := 0, slots := 0, locals := 71 }
theorem kcX7_portfolio : Cond.code yX7_portfolio cX7_portfolio 5 (some .int) ∈ am_G := am_inG 919 (by decide +kernel) (by decide +kernel)
theorem kiX7_portfolio : Cond.instanceMethod yX7_portfolio ∈ am_G := am_inG 917 (by decide +kernel) (by decide +kernel)
theorem ksX7_portfolio : Cond.selects RX7 yX7_portfolio yX7_portfolio ∈ am_G := am_inG 918 (by decide +kernel) (by decide +kernel)
abbrev rmX7_farOf : Room := { frames := 0, cells := 0, slots := 0, locals := 0 }
theorem kcX7_farOf : Cond.code yX7_farOf cX7_farOf 5 (some .int) ∈ am_G := am_inG 953 (by decide +kernel) (by decide +kernel)
theorem kiX7_farOf : Cond.instanceMethod yX7_farOf ∈ am_G := am_inG 952 (by decide +kernel) (by decide +kernel)
theorem ksX7_farOf : Cond.selects RX7 yX7_farOf yX7_farOf ∈ am_G := am_inG 37 (by decide +kernel) (by decide +kernel)
abbrev rmX7_pickOf : Room := { frames := 1, cells := 0, slots := 0, locals := 24 }
theorem kcX7_pickOf : Cond.code yX7_pickOf cX7_pickOf 5 (some .int) ∈ am_G := am_inG 949 (by decide +kernel) (by decide +kernel)
theorem kiX7_pickOf : Cond.instanceMethod yX7_pickOf ∈ am_G := am_inG 948 (by decide +kernel) (by decide +kernel)
theorem ksX7_pickOf : Cond.selects RX7 yX7_pickOf yX7_pickOf ∈ am_G := am_inG 36 (by decide +kernel) (by decide +kernel)
abbrev rmX7_pick : Room := { frames := 2, cells := 0, slots := 0, locals := 48 }
theorem kcX7_pick : Cond.code yX7_pick cX7_pick 2 (some .int) ∈ am_G := am_inG 945 (by decide +kernel) (by decide +kernel)
theorem kiX7_pick : Cond.instanceMethod yX7_pick ∈ am_G := am_inG 943 (by decide +kernel) (by decide +kernel)
theorem ksX7_pick : Cond.selects RX7 yX7_pick yX7_pick ∈ am_G := am_inG 944 (by decide +kernel) (by decide +kernel)
abbrev rmX7_sideBest : Room := { frames := 1, cells := 0, slots := 0, locals := 22 }
theorem kcX7_sideBest : Cond.code yX7_sideBest cX7_sideBest 8 (some .int) ∈ am_G := am_inG 965 (by decide +kernel) (by decide +kernel)
theorem kiX7_sideBest : Cond.instanceMethod yX7_sideBest ∈ am_G := am_inG 964 (by decide +kernel) (by decide +kernel)
theorem ksX7_sideBest : Cond.selects RX7 yX7_sideBest yX7_sideBest ∈ am_G := am_inG 39 (by decide +kernel) (by decide +kernel)
abbrev rmX7_findStump : Room := { frames := 2, cells := 0, slots := 0, locals := 49 }
theorem kcX7_findStump : Cond.code yX7_findStump cX7_findStump 6 none ∈ am_G := am_inG 961 (by decide +kernel) (by decide +kernel)
theorem kiX7_findStump : Cond.instanceMethod yX7_findStump ∈ am_G := am_inG 960 (by decide +kernel) (by decide +kernel)
theorem ksX7_findStump : Cond.selects RX7 yX7_findStump yX7_findStump ∈ am_G := am_inG 38 (by decide +kernel) (by decide +kernel)
abbrev rmX7_stump : Room := { frames := 3, cells := 0, slots := 0, locals := 74 }
theorem kcX7_stump : Cond.code yX7_stump cX7_stump 2 (some .int) ∈ am_G := am_inG 957 (by decide +kernel) (by decide +kernel)
theorem kiX7_stump : Cond.instanceMethod yX7_stump ∈ am_G := am_inG 955 (by decide +kernel) (by decide +kernel)
theorem ksX7_stump : Cond.selects RX7 yX7_stump yX7_stump ∈ am_G := am_inG 956 (by decide +kernel) (by decide +kernel)
abbrev rmX7_heldOut : Room := { frames := 3, cells := 0, slots := 0, locals := 74 }
theorem kcX7_heldOut : Cond.code yX7_heldOut cX7_heldOut 6 (some .int) ∈ am_G := am_inG 969 (by decide +kernel) (by decide +kernel)
theorem kiX7_heldOut : Cond.instanceMethod yX7_heldOut ∈ am_G := am_inG 967 (by decide +kernel) (by decide +kernel)
theorem ksX7_heldOut : Cond.selects RX7 yX7_heldOut yX7_heldOut ∈ am_G := am_inG 968 (by decide +kernel) (by decide +kernel)
abbrev rmX7_runsOf : Room := { frames := 0, cells := 0, slots := 0, locals := 0 }
theorem kcX7_runsOf : Cond.code yX7_runsOf cX7_runsOf 2 (some .int) ∈ am_G := am_inG 977 (by decide +kernel) (by decide +kernel)
theorem kiX7_runsOf : Cond.instanceMethod yX7_runsOf ∈ am_G := am_inG 976 (by decide +kernel) (by decide +kernel)
theorem ksX7_runsOf : Cond.selects RX7 yX7_runsOf yX7_runsOf ∈ am_G := am_inG 40 (by decide +kernel) (by decide +kernel)
abbrev rmX7_mean : Room := { frames := 1, cells := 0, slots := 0, locals := 22 }
theorem kcX7_mean : Cond.code yX7_mean cX7_mean 8 (some .long) ∈ am_G := am_inG 973 (by decide +kernel) (by decide +kernel)
theorem kiX7_mean : Cond.instanceMethod yX7_mean ∈ am_G := am_inG 971 (by decide +kernel) (by decide +kernel)
theorem ksX7_mean : Cond.selects RX7 yX7_mean yX7_mean ∈ am_G := am_inG 972 (by decide +kernel) (by decide +kernel)
abbrev rmJ7_fill_d0a16 : Room := { frames := 0, cells := 0, slots := 0, locals := 0 }
theorem kcJ7_fill_d0a16 : Cond.code yJ7_fill_d0a16 cJ7_fill_d0a16 5 none ∈ am_G := am_inG 445 (by decide +kernel) (by decide +kernel)
theorem kzJ7_fill_d0a16 : Cond.static yJ7_fill_d0a16 ∈ am_G := am_inG 444 (by decide +kernel) (by decide +kernel)
abbrev rmJ7_fill_53178 : Room := { frames := 0, cells := 0, slots := 0, locals := 0 }
theorem kcJ7_fill_53178 : Cond.code yJ7_fill_53178 cJ7_fill_53178 4 none ∈ am_G := am_inG 74 (by decide +kernel) (by decide +kernel)
theorem kzJ7_fill_53178 : Cond.static yJ7_fill_53178 ∈ am_G := am_inG 73 (by decide +kernel) (by decide +kernel)
abbrev rmL_mean : Room := { frames := 7, cells := 1, slots := 6, locals := 113 }
theorem kzL_mean : Cond.static yL_mean ∈ am_G := am_inG 626 (by decide +kernel) (by decide +kernel)
theorem moX0_3 : Cond.methodLink RX0 3 objectInit ∈ am_G := am_inG 108 (by decide +kernel) (by decide +kernel)
theorem fgX0_9 : Cond.fieldLink RX0 9 ((am_cl 0).2.1 0).1 ((am_cl 0).2.1 0).2.1 ((am_cl 0).2.1 0).2.2.1 ∈ am_G := am_inG 109 (by decide +kernel) (by decide +kernel)
theorem fkX0_9 : am_lk RX0 9 0 0 := Or.inl fgX0_9
theorem fgX0_15 : Cond.fieldLink RX0 15 ((am_cl 0).2.1 1).1 ((am_cl 0).2.1 1).2.1 ((am_cl 0).2.1 1).2.2.1 ∈ am_G := am_inG 110 (by decide +kernel) (by decide +kernel)
theorem fkX0_15 : am_lk RX0 15 0 1 := Or.inl fgX0_15
theorem fgX0_19 : Cond.fieldLink RX0 19 ((am_cl 0).2.1 2).1 ((am_cl 0).2.1 2).2.1 ((am_cl 0).2.1 2).2.2.1 ∈ am_G := am_inG 111 (by decide +kernel) (by decide +kernel)
theorem fkX0_19 : am_lk RX0 19 0 2 := Or.inl fgX0_19
theorem fgX0_23 : Cond.fieldLink RX0 23 ((am_cl 0).2.1 3).1 ((am_cl 0).2.1 3).2.1 ((am_cl 0).2.1 3).2.2.1 ∈ am_G := am_inG 112 (by decide +kernel) (by decide +kernel)
theorem fkX0_23 : am_lk RX0 23 0 3 := Or.inl fgX0_23
theorem fgX0_27 : Cond.fieldLink RX0 27 ((am_cl 0).2.1 4).1 ((am_cl 0).2.1 4).2.1 ((am_cl 0).2.1 4).2.2.1 ∈ am_G := am_inG 113 (by decide +kernel) (by decide +kernel)
theorem fkX0_27 : am_lk RX0 27 0 4 := Or.inl fgX0_27
theorem fgX0_31 : Cond.fieldLink RX0 31 ((am_cl 0).2.1 5).1 ((am_cl 0).2.1 5).2.1 ((am_cl 0).2.1 5).2.2.1 ∈ am_G := am_inG 115 (by decide +kernel) (by decide +kernel)
theorem fkX0_31 : am_lk RX0 31 0 5 := Or.inl fgX0_31
theorem moX0_34 : Cond.methodLink RX0 34 Lib.Math.abs.name ∈ am_G := am_inG 436 (by decide +kernel) (by decide +kernel)
theorem mkX0_40 : am_mk RX0 40 yJ7_fill_d0a16 cJ7_fill_d0a16 5 none 2 ∧ Cond.static yJ7_fill_d0a16 ∈ am_G := ⟨⟨Or.inl (am_inG 443 (by decide +kernel) (by decide +kernel)), kcJ7_fill_d0a16, knJ7, by decide +kernel⟩, kzJ7_fill_d0a16⟩
theorem mkX0_46 : am_mk RX0 46 yX0_weightOf cX0_weightOf 4 (some .int) 1 ∧ Cond.instanceMethod yX0_weightOf ∈ am_G ∧ Cond.selects yX0_weightOf.cls yX0_weightOf yX0_weightOf ∈ am_G := ⟨⟨Or.inl (am_inG 446 (by decide +kernel) (by decide +kernel)), kcX0_weightOf, knX0, by decide +kernel⟩, kiX0_weightOf, ksX0_weightOf⟩
theorem moX0_49 : Cond.methodLink RX0 49 Lib.Math.min.name ∈ am_G := am_inG 450 (by decide +kernel) (by decide +kernel)
theorem mkX0_53 : am_mk RX0 53 yX0_addSign cX0_addSign 4 none 2 ∧ Cond.instanceMethod yX0_addSign ∈ am_G ∧ Cond.selects yX0_addSign.cls yX0_addSign yX0_addSign ∈ am_G := ⟨⟨Or.inl (am_inG 451 (by decide +kernel) (by decide +kernel)), kcX0_addSign, knX0, by decide +kernel⟩, kiX0_addSign, ksX0_addSign⟩
theorem kdX0_57 : Cond.constantLong RX0 57 2 ∈ am_G := am_inG 455 (by decide +kernel) (by decide +kernel)
theorem moX1_3 : Cond.methodLink RX1 3 objectInit ∈ am_G := am_inG 136 (by decide +kernel) (by decide +kernel)
theorem fgX1_9 : Cond.fieldLink RX1 9 ((am_cl 1).2.1 0).1 ((am_cl 1).2.1 0).2.1 ((am_cl 1).2.1 0).2.2.1 ∈ am_G := am_inG 138 (by decide +kernel) (by decide +kernel)
theorem fkX1_9 : am_lk RX1 9 1 0 := Or.inl fgX1_9
theorem fgX1_15 : Cond.fieldLink RX1 15 ((am_cl 1).2.1 1).1 ((am_cl 1).2.1 1).2.1 ((am_cl 1).2.1 1).2.2.1 ∈ am_G := am_inG 139 (by decide +kernel) (by decide +kernel)
theorem fkX1_15 : am_lk RX1 15 1 1 := Or.inl fgX1_15
theorem fgX1_18 : Cond.fieldLink RX1 18 ((am_cl 1).2.1 2).1 ((am_cl 1).2.1 2).2.1 ((am_cl 1).2.1 2).2.2.1 ∈ am_G := am_inG 140 (by decide +kernel) (by decide +kernel)
theorem fkX1_18 : am_lk RX1 18 1 2 := Or.inl fgX1_18
theorem klX1_21 : Cond.classLink RX1 21 "[[I" ∈ am_G := am_inG 137 (by decide +kernel) (by decide +kernel)
theorem fgX1_23 : Cond.fieldLink RX1 23 ((am_cl 1).2.1 3).1 ((am_cl 1).2.1 3).2.1 ((am_cl 1).2.1 3).2.2.1 ∈ am_G := am_inG 141 (by decide +kernel) (by decide +kernel)
theorem fkX1_23 : am_lk RX1 23 1 3 := Or.inl fgX1_23
theorem fgX1_26 : Cond.fieldLink RX1 26 ((am_cl 1).2.1 4).1 ((am_cl 1).2.1 4).2.1 ((am_cl 1).2.1 4).2.2.1 ∈ am_G := am_inG 142 (by decide +kernel) (by decide +kernel)
theorem fkX1_26 : am_lk RX1 26 1 4 := Or.inl fgX1_26
theorem fgX1_30 : Cond.fieldLink RX1 30 ((am_cl 1).2.1 5).1 ((am_cl 1).2.1 5).2.1 ((am_cl 1).2.1 5).2.2.1 ∈ am_G := am_inG 143 (by decide +kernel) (by decide +kernel)
theorem fkX1_30 : am_lk RX1 30 1 5 := Or.inl fgX1_30
theorem fgX1_33 : Cond.fieldLink RX1 33 ((am_cl 1).2.1 6).1 ((am_cl 1).2.1 6).2.1 ((am_cl 1).2.1 6).2.2.1 ∈ am_G := am_inG 144 (by decide +kernel) (by decide +kernel)
theorem fkX1_33 : am_lk RX1 33 1 6 := Or.inl fgX1_33
theorem mkX1_36 : am_mk RX1 36 yX1_gatherWhole cX1_gatherWhole 3 none 1 ∧ Cond.instanceMethod yX1_gatherWhole ∈ am_G ∧ Cond.selects yX1_gatherWhole.cls yX1_gatherWhole yX1_gatherWhole ∈ am_G := ⟨⟨Or.inl (am_inG 515 (by decide +kernel) (by decide +kernel)), kcX1_gatherWhole, knX1, by decide +kernel⟩, kiX1_gatherWhole, ksX1_gatherWhole⟩
theorem moX1_40 : Cond.methodLink RX1 40 Lib.Math.min.name ∈ am_G := am_inG 520 (by decide +kernel) (by decide +kernel)
theorem moX1_46 : Cond.methodLink RX1 46 Lib.Math.max.name ∈ am_G := am_inG 521 (by decide +kernel) (by decide +kernel)
theorem kdX1_51 : Cond.constant RX1 51 2147483647 ∈ am_G := am_inG 524 (by decide +kernel) (by decide +kernel)
theorem kdX1_52 : Cond.constant RX1 52 2000000 ∈ am_G := am_inG 525 (by decide +kernel) (by decide +kernel)
theorem mkX1_53 : am_mk RX1 53 yJ7_fill_53178 cJ7_fill_53178 4 none 2 ∧ Cond.static yJ7_fill_53178 ∈ am_G := ⟨⟨Or.inl (am_inG 526 (by decide +kernel) (by decide +kernel)), kcJ7_fill_53178, knJ7, by decide +kernel⟩, kzJ7_fill_53178⟩
theorem mkX1_59 : am_mk RX1 59 yX1_placeFrom cX1_placeFrom 5 none 3 ∧ Cond.instanceMethod yX1_placeFrom ∈ am_G ∧ Cond.selects yX1_placeFrom.cls yX1_placeFrom yX1_placeFrom ∈ am_G := ⟨⟨Or.inl (am_inG 527 (by decide +kernel) (by decide +kernel)), kcX1_placeFrom, knX1, by decide +kernel⟩, kiX1_placeFrom, ksX1_placeFrom⟩
theorem mkX1_63 : am_mk RX1 63 yX1_keepIfLess cX1_keepIfLess 4 none 1 ∧ Cond.instanceMethod yX1_keepIfLess ∈ am_G ∧ Cond.selects yX1_keepIfLess.cls yX1_keepIfLess yX1_keepIfLess ∈ am_G := ⟨⟨Or.inl (am_inG 536 (by decide +kernel) (by decide +kernel)), kcX1_keepIfLess, knX1, by decide +kernel⟩, kiX1_keepIfLess, ksX1_keepIfLess⟩
theorem mkX1_66 : am_mk RX1 66 yX1_lastThatCanRise cX1_lastThatCanRise 2 (some .int) 0 ∧ Cond.instanceMethod yX1_lastThatCanRise ∈ am_G ∧ Cond.selects yX1_lastThatCanRise.cls yX1_lastThatCanRise yX1_lastThatCanRise ∈ am_G := ⟨⟨Or.inl (am_inG 544 (by decide +kernel) (by decide +kernel)), kcX1_lastThatCanRise, knX1, by decide +kernel⟩, kiX1_lastThatCanRise, ksX1_lastThatCanRise⟩
theorem fkX1_70 : am_lk RX1 70 5 4 := Or.inr ⟨"RaceTuning", am_inN 81 (by decide +kernel) (by decide +kernel)⟩
theorem mkX1_75 : am_mk RX1 75 yX5_isWhole cX5_isWhole 2 (some .boolean) 1 ∧ Cond.instanceMethod yX5_isWhole ∈ am_G ∧ Cond.selects yX5_isWhole.cls yX5_isWhole yX5_isWhole ∈ am_G := ⟨⟨Or.inl (am_inG 519 (by decide +kernel) (by decide +kernel)), kcX5_isWhole, knX5, by decide +kernel⟩, kiX5_isWhole, ksX5_isWhole⟩
theorem mkX1_79 : am_mk RX1 79 yX1_joinCosts cX1_joinCosts 5 none 3 ∧ Cond.instanceMethod yX1_joinCosts ∈ am_G ∧ Cond.selects yX1_joinCosts.cls yX1_joinCosts yX1_joinCosts ∈ am_G := ⟨⟨Or.inl (am_inG 531 (by decide +kernel) (by decide +kernel)), kcX1_joinCosts, knX1, by decide +kernel⟩, kiX1_joinCosts, ksX1_joinCosts⟩
theorem fkX1_82 : am_lk RX1 82 5 5 := Or.inr ⟨"RaceTuning", am_inN 86 (by decide +kernel) (by decide +kernel)⟩
theorem mkX1_85 : am_mk RX1 85 yX5_costAt cX5_costAt 3 (some .int) 2 ∧ Cond.instanceMethod yX5_costAt ∈ am_G ∧ Cond.selects yX5_costAt.cls yX5_costAt yX5_costAt ∈ am_G := ⟨⟨Or.inl (am_inG 535 (by decide +kernel) (by decide +kernel)), kcX5_costAt, knX5, by decide +kernel⟩, kiX5_costAt, ksX5_costAt⟩
theorem mkX1_88 : am_mk RX1 88 yX5_isLearning cX5_isLearning 2 (some .boolean) 1 ∧ Cond.instanceMethod yX5_isLearning ∈ am_G ∧ Cond.selects yX5_isLearning.cls yX5_isLearning yX5_isLearning ∈ am_G := ⟨⟨Or.inl (am_inG 540 (by decide +kernel) (by decide +kernel)), kcX5_isLearning, knX5, by decide +kernel⟩, kiX5_isLearning, ksX5_isLearning⟩
theorem moX2_3 : Cond.methodLink RX2 3 objectInit ∈ am_G := am_inG 302 (by decide +kernel) (by decide +kernel)
theorem klX2_9 : Cond.classLink RX2 9 "[[I" ∈ am_G := am_inG 303 (by decide +kernel) (by decide +kernel)
theorem fgX2_11 : Cond.fieldLink RX2 11 ((am_cl 2).2.1 5).1 ((am_cl 2).2.1 5).2.1 ((am_cl 2).2.1 5).2.2.1 ∈ am_G := am_inG 314 (by decide +kernel) (by decide +kernel)
theorem fkX2_11 : am_lk RX2 11 2 5 := Or.inl fgX2_11
theorem fgX2_16 : Cond.fieldLink RX2 16 ((am_cl 2).2.1 6).1 ((am_cl 2).2.1 6).2.1 ((am_cl 2).2.1 6).2.2.1 ∈ am_G := am_inG 315 (by decide +kernel) (by decide +kernel)
theorem fkX2_16 : am_lk RX2 16 2 6 := Or.inl fgX2_16
theorem fgX2_20 : Cond.fieldLink RX2 20 ((am_cl 2).2.1 7).1 ((am_cl 2).2.1 7).2.1 ((am_cl 2).2.1 7).2.2.1 ∈ am_G := am_inG 317 (by decide +kernel) (by decide +kernel)
theorem fkX2_20 : am_lk RX2 20 2 7 := Or.inl fgX2_20
theorem fgX2_23 : Cond.fieldLink RX2 23 ((am_cl 2).2.1 8).1 ((am_cl 2).2.1 8).2.1 ((am_cl 2).2.1 8).2.2.1 ∈ am_G := am_inG 319 (by decide +kernel) (by decide +kernel)
theorem fkX2_23 : am_lk RX2 23 2 8 := Or.inl fgX2_23
theorem fgX2_26 : Cond.fieldLink RX2 26 ((am_cl 2).2.1 9).1 ((am_cl 2).2.1 9).2.1 ((am_cl 2).2.1 9).2.2.1 ∈ am_G := am_inG 320 (by decide +kernel) (by decide +kernel)
theorem fkX2_26 : am_lk RX2 26 2 9 := Or.inl fgX2_26
theorem fgX2_29 : Cond.fieldLink RX2 29 ((am_cl 2).2.1 11).1 ((am_cl 2).2.1 11).2.1 ((am_cl 2).2.1 11).2.2.1 ∈ am_G := am_inG 323 (by decide +kernel) (by decide +kernel)
theorem fkX2_29 : am_lk RX2 29 2 11 := Or.inl fgX2_29
theorem fgX2_33 : Cond.fieldLink RX2 33 ((am_cl 2).2.1 12).1 ((am_cl 2).2.1 12).2.1 ((am_cl 2).2.1 12).2.2.1 ∈ am_G := am_inG 325 (by decide +kernel) (by decide +kernel)
theorem fkX2_33 : am_lk RX2 33 2 12 := Or.inl fgX2_33
theorem fgX2_36 : Cond.fieldLink RX2 36 ((am_cl 2).2.1 13).1 ((am_cl 2).2.1 13).2.1 ((am_cl 2).2.1 13).2.2.1 ∈ am_G := am_inG 327 (by decide +kernel) (by decide +kernel)
theorem fkX2_36 : am_lk RX2 36 2 13 := Or.inl fgX2_36
theorem fgX2_39 : Cond.fieldLink RX2 39 ((am_cl 2).2.1 14).1 ((am_cl 2).2.1 14).2.1 ((am_cl 2).2.1 14).2.2.1 ∈ am_G := am_inG 329 (by decide +kernel) (by decide +kernel)
theorem fkX2_39 : am_lk RX2 39 2 14 := Or.inl fgX2_39
theorem fgX2_42 : Cond.fieldLink RX2 42 ((am_cl 2).2.1 0).1 ((am_cl 2).2.1 0).2.1 ((am_cl 2).2.1 0).2.2.1 ∈ am_G := am_inG 308 (by decide +kernel) (by decide +kernel)
theorem fkX2_42 : am_lk RX2 42 2 0 := Or.inl fgX2_42
theorem fgX2_46 : Cond.fieldLink RX2 46 ((am_cl 2).2.1 1).1 ((am_cl 2).2.1 1).2.1 ((am_cl 2).2.1 1).2.2.1 ∈ am_G := am_inG 309 (by decide +kernel) (by decide +kernel)
theorem fkX2_46 : am_lk RX2 46 2 1 := Or.inl fgX2_46
theorem fgX2_50 : Cond.fieldLink RX2 50 ((am_cl 2).2.1 2).1 ((am_cl 2).2.1 2).2.1 ((am_cl 2).2.1 2).2.2.1 ∈ am_G := am_inG 310 (by decide +kernel) (by decide +kernel)
theorem fkX2_50 : am_lk RX2 50 2 2 := Or.inl fgX2_50
theorem mkX2_54 : am_mk RX2 54 yX5_learningOnes cX5_learningOnes 5 (some (.array .int)) 0 ∧ Cond.instanceMethod yX5_learningOnes ∈ am_G ∧ Cond.selects yX5_learningOnes.cls yX5_learningOnes yX5_learningOnes ∈ am_G := ⟨⟨Or.inl (am_inG 304 (by decide +kernel) (by decide +kernel)), kcX5_learningOnes, knX5, by decide +kernel⟩, kiX5_learningOnes, ksX5_learningOnes⟩
theorem fgX2_60 : Cond.fieldLink RX2 60 ((am_cl 2).2.1 3).1 ((am_cl 2).2.1 3).2.1 ((am_cl 2).2.1 3).2.2.1 ∈ am_G := am_inG 311 (by decide +kernel) (by decide +kernel)
theorem fkX2_60 : am_lk RX2 60 2 3 := Or.inl fgX2_60
theorem fkX2_63 : am_lk RX2 63 5 4 := Or.inr ⟨"RaceTuning", am_inN 80 (by decide +kernel) (by decide +kernel)⟩
theorem fgX2_66 : Cond.fieldLink RX2 66 ((am_cl 2).2.1 4).1 ((am_cl 2).2.1 4).2.1 ((am_cl 2).2.1 4).2.2.1 ∈ am_G := am_inG 312 (by decide +kernel) (by decide +kernel)
theorem fkX2_66 : am_lk RX2 66 2 4 := Or.inl fgX2_66
theorem fgX2_69 : Cond.fieldLink RX2 69 ((am_cl 2).2.1 10).1 ((am_cl 2).2.1 10).2.1 ((am_cl 2).2.1 10).2.2.1 ∈ am_G := am_inG 321 (by decide +kernel) (by decide +kernel)
theorem fkX2_69 : am_lk RX2 69 2 10 := Or.inl fgX2_69
theorem kdX2_72 : Cond.constant RX2 72 1103515245 ∈ am_G := am_inG 366 (by decide +kernel) (by decide +kernel)
theorem mkX2_73 : am_mk RX2 73 yX2_whyOver cX2_whyOver 1 (some .int) 0 ∧ Cond.instanceMethod yX2_whyOver ∈ am_G ∧ Cond.selects yX2_whyOver.cls yX2_whyOver yX2_whyOver ∈ am_G := ⟨⟨Or.inl (am_inG 367 (by decide +kernel) (by decide +kernel)), kcX2_whyOver, knX2, by decide +kernel⟩, kiX2_whyOver, ksX2_whyOver⟩
theorem fkX2_77 : am_lk RX2 77 3 4 := Or.inr ⟨"RaceTuning", am_inN 276 (by decide +kernel) (by decide +kernel)⟩
theorem fkX2_82 : am_lk RX2 82 3 5 := Or.inr ⟨"RaceTuning", am_inN 278 (by decide +kernel) (by decide +kernel)⟩
theorem mkX2_85 : am_mk RX2 85 yX2_isLeft cX2_isLeft 2 (some .boolean) 1 ∧ Cond.instanceMethod yX2_isLeft ∈ am_G ∧ Cond.selects yX2_isLeft.cls yX2_isLeft yX2_isLeft ∈ am_G := ⟨⟨Or.inl (am_inG 389 (by decide +kernel) (by decide +kernel)), kcX2_isLeft, knX2, by decide +kernel⟩, kiX2_isLeft, ksX2_isLeft⟩
theorem mkX2_89 : am_mk RX2 89 yX2_instanceAt cX2_instanceAt 2 (some .int) 1 ∧ Cond.instanceMethod yX2_instanceAt ∈ am_G ∧ Cond.selects yX2_instanceAt.cls yX2_instanceAt yX2_instanceAt ∈ am_G := ⟨⟨Or.inl (am_inG 387 (by decide +kernel) (by decide +kernel)), kcX2_instanceAt, knX2, by decide +kernel⟩, kiX2_instanceAt, ksX2_instanceAt⟩
theorem mkX2_93 : am_mk RX2 93 yX5_costAt cX5_costAt 3 (some .int) 2 ∧ Cond.instanceMethod yX5_costAt ∈ am_G ∧ Cond.selects yX5_costAt.cls yX5_costAt yX5_costAt ∈ am_G := ⟨⟨Or.inl (am_inG 388 (by decide +kernel) (by decide +kernel)), kcX5_costAt, knX5, by decide +kernel⟩, kiX5_costAt, ksX5_costAt⟩
theorem mkX2_97 : am_mk RX2 97 yX2_leftFrom cX2_leftFrom 3 (some .int) 1 ∧ Cond.instanceMethod yX2_leftFrom ∈ am_G ∧ Cond.selects yX2_leftFrom.cls yX2_leftFrom yX2_leftFrom ∈ am_G := ⟨⟨Or.inl (am_inG 393 (by decide +kernel) (by decide +kernel)), kcX2_leftFrom, knX2, by decide +kernel⟩, kiX2_leftFrom, ksX2_leftFrom⟩
theorem mkX2_100 : am_mk RX2 100 yX2_endRound cX2_endRound 1 none 0 ∧ Cond.instanceMethod yX2_endRound ∈ am_G ∧ Cond.selects yX2_endRound.cls yX2_endRound yX2_endRound ∈ am_G := ⟨⟨Or.inl (am_inG 397 (by decide +kernel) (by decide +kernel)), kcX2_endRound, knX2, by decide +kernel⟩, kiX2_endRound, ksX2_endRound⟩
theorem fkX2_103 : am_lk RX2 103 3 1 := Or.inr ⟨"RaceTuning", am_inN 270 (by decide +kernel) (by decide +kernel)⟩
theorem mkX2_106 : am_mk RX2 106 yX2_dropWorse cX2_dropWorse 5 none 0 ∧ Cond.instanceMethod yX2_dropWorse ∈ am_G ∧ Cond.selects yX2_dropWorse.cls yX2_dropWorse yX2_dropWorse ∈ am_G := ⟨⟨Or.inl (am_inG 401 (by decide +kernel) (by decide +kernel)), kcX2_dropWorse, knX2, by decide +kernel⟩, kiX2_dropWorse, ksX2_dropWorse⟩
theorem mkX2_109 : am_mk RX2 109 yX2_arrange cX2_arrange 5 (some .int) 0 ∧ Cond.instanceMethod yX2_arrange ∈ am_G ∧ Cond.selects yX2_arrange.cls yX2_arrange yX2_arrange ∈ am_G := ⟨⟨Or.inl (am_inG 405 (by decide +kernel) (by decide +kernel)), kcX2_arrange, knX2, by decide +kernel⟩, kiX2_arrange, ksX2_arrange⟩
theorem mkX2_112 : am_mk RX2 112 yX2_countOdds cX2_countOdds 5 none 2 ∧ Cond.instanceMethod yX2_countOdds ∈ am_G ∧ Cond.selects yX2_countOdds.cls yX2_countOdds yX2_countOdds ∈ am_G := ⟨⟨Or.inl (am_inG 417 (by decide +kernel) (by decide +kernel)), kcX2_countOdds, knX2, by decide +kernel⟩, kiX2_countOdds, ksX2_countOdds⟩
theorem fkX2_116 : am_lk RX2 116 3 2 := Or.inr ⟨"RaceTuning", am_inN 272 (by decide +kernel) (by decide +kernel)⟩
theorem fkX2_119 : am_lk RX2 119 3 3 := Or.inr ⟨"RaceTuning", am_inN 274 (by decide +kernel) (by decide +kernel)⟩
theorem mkX2_122 : am_mk RX2 122 yX0_areAbove cX0_areAbove 3 (some .boolean) 2 ∧ Cond.instanceMethod yX0_areAbove ∈ am_G ∧ Cond.selects yX0_areAbove.cls yX0_areAbove yX0_areAbove ∈ am_G := ⟨⟨Or.inl (am_inG 456 (by decide +kernel) (by decide +kernel)), kcX0_areAbove, knX0, by decide +kernel⟩, kiX0_areAbove, ksX0_areAbove⟩
theorem mkX2_128 : am_mk RX2 128 yX2_rankOf cX2_rankOf 4 (some .int) 1 ∧ Cond.instanceMethod yX2_rankOf ∈ am_G ∧ Cond.selects yX2_rankOf.cls yX2_rankOf yX2_rankOf ∈ am_G := ⟨⟨Or.inl (am_inG 409 (by decide +kernel) (by decide +kernel)), kcX2_rankOf, knX2, by decide +kernel⟩, kiX2_rankOf, ksX2_rankOf⟩
theorem mkX2_131 : am_mk RX2 131 yX2_rankAgainst cX2_rankAgainst 5 (some .int) 2 ∧ Cond.instanceMethod yX2_rankAgainst ∈ am_G ∧ Cond.selects yX2_rankAgainst.cls yX2_rankAgainst yX2_rankAgainst ∈ am_G := ⟨⟨Or.inl (am_inG 413 (by decide +kernel) (by decide +kernel)), kcX2_rankAgainst, knX2, by decide +kernel⟩, kiX2_rankAgainst, ksX2_rankAgainst⟩
theorem mkX2_134 : am_mk RX2 134 yX0_clear cX0_clear 1 none 0 ∧ Cond.instanceMethod yX0_clear ∈ am_G ∧ Cond.selects yX0_clear.cls yX0_clear yX0_clear ∈ am_G := ⟨⟨Or.inl (am_inG 421 (by decide +kernel) (by decide +kernel)), kcX0_clear, knX0, by decide +kernel⟩, kiX0_clear, ksX0_clear⟩
theorem mkX2_137 : am_mk RX2 137 yX2_isEntered cX2_isEntered 2 (some .boolean) 1 ∧ Cond.instanceMethod yX2_isEntered ∈ am_G ∧ Cond.selects yX2_isEntered.cls yX2_isEntered yX2_isEntered ∈ am_G := ⟨⟨Or.inl (am_inG 425 (by decide +kernel) (by decide +kernel)), kcX2_isEntered, knX2, by decide +kernel⟩, kiX2_isEntered, ksX2_isEntered⟩
theorem moX2_140 : Cond.methodLink RX2 140 Lib.Math.min.name ∈ am_G := am_inG 429 (by decide +kernel) (by decide +kernel)
theorem mkX2_145 : am_mk RX2 145 yX0_addRound cX0_addRound 3 none 2 ∧ Cond.instanceMethod yX0_addRound ∈ am_G ∧ Cond.selects yX0_addRound.cls yX0_addRound yX0_addRound ∈ am_G := ⟨⟨Or.inl (am_inG 432 (by decide +kernel) (by decide +kernel)), kcX0_addRound, knX0, by decide +kernel⟩, kiX0_addRound, ksX0_addRound⟩
theorem fkX2_148 : am_lk RX2 148 3 0 := Or.inr ⟨"RaceTuning", am_inN 268 (by decide +kernel) (by decide +kernel)⟩
theorem mkX2_151 : am_mk RX2 151 yX0_count cX0_count 6 none 1 ∧ Cond.instanceMethod yX0_count ∈ am_G ∧ Cond.selects yX0_count.cls yX0_count yX0_count ∈ am_G := ⟨⟨Or.inl (am_inG 439 (by decide +kernel) (by decide +kernel)), kcX0_count, knX0, by decide +kernel⟩, kiX0_count, ksX0_count⟩
theorem moX3_3 : Cond.methodLink RX3 3 objectInit ∈ am_G := am_inG 266 (by decide +kernel) (by decide +kernel)
theorem fgX3_9 : Cond.fieldLink RX3 9 ((am_cl 3).2.1 0).1 ((am_cl 3).2.1 0).2.1 ((am_cl 3).2.1 0).2.2.1 ∈ am_G := am_inG 267 (by decide +kernel) (by decide +kernel)
theorem fkX3_9 : am_lk RX3 9 3 0 := Or.inl fgX3_9
theorem fgX3_15 : Cond.fieldLink RX3 15 ((am_cl 3).2.1 1).1 ((am_cl 3).2.1 1).2.1 ((am_cl 3).2.1 1).2.2.1 ∈ am_G := am_inG 269 (by decide +kernel) (by decide +kernel)
theorem fkX3_15 : am_lk RX3 15 3 1 := Or.inl fgX3_15
theorem fgX3_18 : Cond.fieldLink RX3 18 ((am_cl 3).2.1 2).1 ((am_cl 3).2.1 2).2.1 ((am_cl 3).2.1 2).2.2.1 ∈ am_G := am_inG 271 (by decide +kernel) (by decide +kernel)
theorem fkX3_18 : am_lk RX3 18 3 2 := Or.inl fgX3_18
theorem fgX3_21 : Cond.fieldLink RX3 21 ((am_cl 3).2.1 3).1 ((am_cl 3).2.1 3).2.1 ((am_cl 3).2.1 3).2.2.1 ∈ am_G := am_inG 273 (by decide +kernel) (by decide +kernel)
theorem fkX3_21 : am_lk RX3 21 3 3 := Or.inl fgX3_21
theorem fgX3_24 : Cond.fieldLink RX3 24 ((am_cl 3).2.1 4).1 ((am_cl 3).2.1 4).2.1 ((am_cl 3).2.1 4).2.2.1 ∈ am_G := am_inG 275 (by decide +kernel) (by decide +kernel)
theorem fkX3_24 : am_lk RX3 24 3 4 := Or.inl fgX3_24
theorem fgX3_27 : Cond.fieldLink RX3 27 ((am_cl 3).2.1 5).1 ((am_cl 3).2.1 5).2.1 ((am_cl 3).2.1 5).2.2.1 ∈ am_G := am_inG 277 (by decide +kernel) (by decide +kernel)
theorem fkX3_27 : am_lk RX3 27 3 5 := Or.inl fgX3_27
theorem mkX3_30 : am_mk RX3 30 yX6_isWithin cX6_isWithin 3 (some .boolean) 3 ∧ Cond.static yX6_isWithin ∈ am_G := ⟨⟨Or.inr ⟨"RaceTuning", am_inN 296 (by decide +kernel) (by decide +kernel)⟩, kcX6_isWithin, knX6, by decide +kernel⟩, kzX6_isWithin⟩
theorem moX4_3 : Cond.methodLink RX4 3 objectInit ∈ am_G := am_inG 166 (by decide +kernel) (by decide +kernel)
theorem fgX4_9 : Cond.fieldLink RX4 9 ((am_cl 4).2.1 0).1 ((am_cl 4).2.1 0).2.1 ((am_cl 4).2.1 0).2.2.1 ∈ am_G := am_inG 167 (by decide +kernel) (by decide +kernel)
theorem fkX4_9 : am_lk RX4 9 4 0 := Or.inl fgX4_9
theorem fgX4_15 : Cond.fieldLink RX4 15 ((am_cl 4).2.1 1).1 ((am_cl 4).2.1 1).2.1 ((am_cl 4).2.1 1).2.2.1 ∈ am_G := am_inG 168 (by decide +kernel) (by decide +kernel)
theorem fkX4_15 : am_lk RX4 15 4 1 := Or.inl fgX4_15
theorem fgX4_18 : Cond.fieldLink RX4 18 ((am_cl 4).2.1 2).1 ((am_cl 4).2.1 2).2.1 ((am_cl 4).2.1 2).2.2.1 ∈ am_G := am_inG 169 (by decide +kernel) (by decide +kernel)
theorem fkX4_18 : am_lk RX4 18 4 2 := Or.inl fgX4_18
theorem fgX4_22 : Cond.fieldLink RX4 22 ((am_cl 4).2.1 3).1 ((am_cl 4).2.1 3).2.1 ((am_cl 4).2.1 3).2.2.1 ∈ am_G := am_inG 171 (by decide +kernel) (by decide +kernel)
theorem fkX4_22 : am_lk RX4 22 4 3 := Or.inl fgX4_22
theorem fgX4_25 : Cond.fieldLink RX4 25 ((am_cl 4).2.1 4).1 ((am_cl 4).2.1 4).2.1 ((am_cl 4).2.1 4).2.2.1 ∈ am_G := am_inG 173 (by decide +kernel) (by decide +kernel)
theorem fkX4_25 : am_lk RX4 25 4 4 := Or.inl fgX4_25
theorem fgX4_28 : Cond.fieldLink RX4 28 ((am_cl 4).2.1 5).1 ((am_cl 4).2.1 5).2.1 ((am_cl 4).2.1 5).2.2.1 ∈ am_G := am_inG 175 (by decide +kernel) (by decide +kernel)
theorem fkX4_28 : am_lk RX4 28 4 5 := Or.inl fgX4_28
theorem fgX4_31 : Cond.fieldLink RX4 31 ((am_cl 4).2.1 6).1 ((am_cl 4).2.1 6).2.1 ((am_cl 4).2.1 6).2.2.1 ∈ am_G := am_inG 177 (by decide +kernel) (by decide +kernel)
theorem fkX4_31 : am_lk RX4 31 4 6 := Or.inl fgX4_31
theorem kdX4_36 : Cond.constant RX4 36 2147483647 ∈ am_G := am_inG 587 (by decide +kernel) (by decide +kernel)
theorem mkX4_37 : am_mk RX4 37 yX4_putAllFromCut cX4_putAllFromCut 4 none 1 ∧ Cond.instanceMethod yX4_putAllFromCut ∈ am_G ∧ Cond.selects yX4_putAllFromCut.cls yX4_putAllFromCut yX4_putAllFromCut ∈ am_G := ⟨⟨Or.inl (am_inG 588 (by decide +kernel) (by decide +kernel)), kcX4_putAllFromCut, knX4, by decide +kernel⟩, kiX4_putAllFromCut, ksX4_putAllFromCut⟩
theorem mkX4_41 : am_mk RX4 41 yX4_moveBelow cX4_moveBelow 6 none 3 ∧ Cond.instanceMethod yX4_moveBelow ∈ am_G ∧ Cond.selects yX4_moveBelow.cls yX4_moveBelow yX4_moveBelow ∈ am_G := ⟨⟨Or.inl (am_inG 595 (by decide +kernel) (by decide +kernel)), kcX4_moveBelow, knX4, by decide +kernel⟩, kiX4_moveBelow, ksX4_moveBelow⟩
theorem mkX4_45 : am_mk RX4 45 yX4_keepIfLess cX4_keepIfLess 7 none 3 ∧ Cond.instanceMethod yX4_keepIfLess ∈ am_G ∧ Cond.selects yX4_keepIfLess.cls yX4_keepIfLess yX4_keepIfLess ∈ am_G := ⟨⟨Or.inl (am_inG 600 (by decide +kernel) (by decide +kernel)), kcX4_keepIfLess, knX4, by decide +kernel⟩, kiX4_keepIfLess, ksX4_keepIfLess⟩
theorem mkX4_48 : am_mk RX4 48 yX5_featureAt cX5_featureAt 3 (some .int) 2 ∧ Cond.instanceMethod yX5_featureAt ∈ am_G ∧ Cond.selects yX5_featureAt.cls yX5_featureAt yX5_featureAt ∈ am_G := ⟨⟨Or.inl (am_inG 599 (by decide +kernel) (by decide +kernel)), kcX5_featureAt, knX5, by decide +kernel⟩, kiX5_featureAt, ksX5_featureAt⟩
theorem mkX4_54 : am_mk RX4 54 yJ7_fill_53178 cJ7_fill_53178 4 none 2 ∧ Cond.static yJ7_fill_53178 ∈ am_G := ⟨⟨Or.inl (am_inG 592 (by decide +kernel) (by decide +kernel)), kcJ7_fill_53178, knJ7, by decide +kernel⟩, kzJ7_fill_53178⟩
theorem fkX4_60 : am_lk RX4 60 5 4 := Or.inr ⟨"RaceTuning", am_inN 82 (by decide +kernel) (by decide +kernel)⟩
theorem fkX4_63 : am_lk RX4 63 5 5 := Or.inr ⟨"RaceTuning", am_inN 85 (by decide +kernel) (by decide +kernel)⟩
theorem mkX4_66 : am_mk RX4 66 yX5_isLearning cX5_isLearning 2 (some .boolean) 1 ∧ Cond.instanceMethod yX5_isLearning ∈ am_G ∧ Cond.selects yX5_isLearning.cls yX5_isLearning yX5_isLearning ∈ am_G := ⟨⟨Or.inl (am_inG 593 (by decide +kernel) (by decide +kernel)), kcX5_isLearning, knX5, by decide +kernel⟩, kiX5_isLearning, ksX5_isLearning⟩
theorem mkX4_70 : am_mk RX4 70 yX5_costAt cX5_costAt 3 (some .int) 2 ∧ Cond.instanceMethod yX5_costAt ∈ am_G ∧ Cond.selects yX5_costAt.cls yX5_costAt yX5_costAt ∈ am_G := ⟨⟨Or.inl (am_inG 594 (by decide +kernel) (by decide +kernel)), kcX5_costAt, knX5, by decide +kernel⟩, kiX5_costAt, ksX5_costAt⟩
theorem mkX4_73 : am_mk RX4 73 yX4_leastOf cX4_leastOf 4 (some .int) 2 ∧ Cond.static yX4_leastOf ∈ am_G := ⟨⟨Or.inl (am_inG 604 (by decide +kernel) (by decide +kernel)), kcX4_leastOf, knX4, by decide +kernel⟩, kzX4_leastOf⟩
theorem mkX4_77 : am_mk RX4 77 yX5_isWhole cX5_isWhole 2 (some .boolean) 1 ∧ Cond.instanceMethod yX5_isWhole ∈ am_G ∧ Cond.selects yX5_isWhole.cls yX5_isWhole yX5_isWhole ∈ am_G := ⟨⟨Or.inl (am_inG 607 (by decide +kernel) (by decide +kernel)), kcX5_isWhole, knX5, by decide +kernel⟩, kiX5_isWhole, ksX5_isWhole⟩
theorem moX5_3 : Cond.methodLink RX5 3 objectInit ∈ am_G := am_inG 69 (by decide +kernel) (by decide +kernel)
theorem klX5_9 : Cond.classLink RX5 9 "[[I" ∈ am_G := am_inG 70 (by decide +kernel) (by decide +kernel)
theorem fgX5_11 : Cond.fieldLink RX5 11 ((am_cl 5).2.1 0).1 ((am_cl 5).2.1 0).2.1 ((am_cl 5).2.1 0).2.2.1 ∈ am_G := am_inG 75 (by decide +kernel) (by decide +kernel)
theorem fkX5_11 : am_lk RX5 11 5 0 := Or.inl fgX5_11
theorem fgX5_16 : Cond.fieldLink RX5 16 ((am_cl 5).2.1 1).1 ((am_cl 5).2.1 1).2.1 ((am_cl 5).2.1 1).2.2.1 ∈ am_G := am_inG 76 (by decide +kernel) (by decide +kernel)
theorem fkX5_16 : am_lk RX5 16 5 1 := Or.inl fgX5_16
theorem fgX5_20 : Cond.fieldLink RX5 20 ((am_cl 5).2.1 2).1 ((am_cl 5).2.1 2).2.1 ((am_cl 5).2.1 2).2.2.1 ∈ am_G := am_inG 77 (by decide +kernel) (by decide +kernel)
theorem fkX5_20 : am_lk RX5 20 5 2 := Or.inl fgX5_20
theorem fgX5_23 : Cond.fieldLink RX5 23 ((am_cl 5).2.1 3).1 ((am_cl 5).2.1 3).2.1 ((am_cl 5).2.1 3).2.2.1 ∈ am_G := am_inG 78 (by decide +kernel) (by decide +kernel)
theorem fkX5_23 : am_lk RX5 23 5 3 := Or.inl fgX5_23
theorem fgX5_27 : Cond.fieldLink RX5 27 ((am_cl 5).2.1 4).1 ((am_cl 5).2.1 4).2.1 ((am_cl 5).2.1 4).2.2.1 ∈ am_G := am_inG 79 (by decide +kernel) (by decide +kernel)
theorem fkX5_27 : am_lk RX5 27 5 4 := Or.inl fgX5_27
theorem fgX5_31 : Cond.fieldLink RX5 31 ((am_cl 5).2.1 5).1 ((am_cl 5).2.1 5).2.1 ((am_cl 5).2.1 5).2.2.1 ∈ am_G := am_inG 84 (by decide +kernel) (by decide +kernel)
theorem fkX5_31 : am_lk RX5 31 5 5 := Or.inl fgX5_31
theorem mkX5_34 : am_mk RX5 34 yJ7_fill_53178 cJ7_fill_53178 4 none 2 ∧ Cond.static yJ7_fill_53178 ∈ am_G := ⟨⟨Or.inl (am_inG 72 (by decide +kernel) (by decide +kernel)), kcJ7_fill_53178, knJ7, by decide +kernel⟩, kzJ7_fill_53178⟩
theorem mkX5_40 : am_mk RX5 40 yX5_hasInstance cX5_hasInstance 2 (some .boolean) 1 ∧ Cond.instanceMethod yX5_hasInstance ∈ am_G ∧ Cond.selects yX5_hasInstance.cls yX5_hasInstance yX5_hasInstance ∈ am_G := ⟨⟨Or.inl (am_inG 247 (by decide +kernel) (by decide +kernel)), kcX5_hasInstance, knX5, by decide +kernel⟩, kiX5_hasInstance, ksX5_hasInstance⟩
theorem mkX5_44 : am_mk RX5 44 yX5_hasSetting cX5_hasSetting 2 (some .boolean) 1 ∧ Cond.instanceMethod yX5_hasSetting ∈ am_G ∧ Cond.selects yX5_hasSetting.cls yX5_hasSetting yX5_hasSetting ∈ am_G := ⟨⟨Or.inl (am_inG 246 (by decide +kernel) (by decide +kernel)), kcX5_hasSetting, knX5, by decide +kernel⟩, kiX5_hasSetting, ksX5_hasSetting⟩
theorem mkX5_47 : am_mk RX5 47 yX5_isWhole cX5_isWhole 2 (some .boolean) 1 ∧ Cond.instanceMethod yX5_isWhole ∈ am_G ∧ Cond.selects yX5_isWhole.cls yX5_isWhole yX5_isWhole ∈ am_G := ⟨⟨Or.inl (am_inG 507 (by decide +kernel) (by decide +kernel)), kcX5_isWhole, knX5, by decide +kernel⟩, kiX5_isWhole, ksX5_isWhole⟩
theorem mkX5_50 : am_mk RX5 50 yX6_isWithin cX6_isWithin 3 (some .boolean) 3 ∧ Cond.static yX6_isWithin ∈ am_G := ⟨⟨Or.inr ⟨"RaceTuning", am_inN 573 (by decide +kernel) (by decide +kernel)⟩, kcX6_isWithin, knX6, by decide +kernel⟩, kzX6_isWithin⟩
theorem kdX5_56 : Cond.constant RX5 56 2147483647 ∈ am_G := am_inG 564 (by decide +kernel) (by decide +kernel)
theorem mkX5_57 : am_mk RX5 57 yX5_distance cX5_distance 3 (some .int) 2 ∧ Cond.instanceMethod yX5_distance ∈ am_G ∧ Cond.selects yX5_distance.cls yX5_distance yX5_distance ∈ am_G := ⟨⟨Or.inl (am_inG 565 (by decide +kernel) (by decide +kernel)), kcX5_distance, knX5, by decide +kernel⟩, kiX5_distance, ksX5_distance⟩
theorem mkX5_61 : am_mk RX5 61 yX5_featureAt cX5_featureAt 3 (some .int) 2 ∧ Cond.instanceMethod yX5_featureAt ∈ am_G ∧ Cond.selects yX5_featureAt.cls yX5_featureAt yX5_featureAt ∈ am_G := ⟨⟨Or.inl (am_inG 569 (by decide +kernel) (by decide +kernel)), kcX5_featureAt, knX5, by decide +kernel⟩, kiX5_featureAt, ksX5_featureAt⟩
theorem moX5_64 : Cond.methodLink RX5 64 Lib.Math.abs.name ∈ am_G := am_inG 574 (by decide +kernel) (by decide +kernel)
theorem moX6_3 : Cond.methodLink RX6 3 objectInit ∈ am_G := am_inG 61 (by decide +kernel) (by decide +kernel)
theorem klX6_9 : Cond.classLink RX6 9 RX5 ∈ am_G := am_inG 64 (by decide +kernel) (by decide +kernel)
theorem mkX6_11 : am_mk RX6 11 yX5_init cX5_init 2 none 0 ∧ yX5_init.name = "<init>" ∧ Cond.instanceMethod yX5_init ∈ am_G := ⟨⟨Or.inl (am_inG 66 (by decide +kernel) (by decide +kernel)), kcX5_init, knX5, by decide +kernel⟩, rfl, kiX5_init⟩
theorem fgX6_12 : Cond.fieldLink RX6 12 ((am_cl 6).2.1 0).1 ((am_cl 6).2.1 0).2.1 ((am_cl 6).2.1 0).2.2.1 ∈ am_G := am_inG 194 (by decide +kernel) (by decide +kernel)
theorem fkX6_12 : am_lk RX6 12 6 0 := Or.inl fgX6_12
theorem klX6_18 : Cond.classLink RX6 18 RX0 ∈ am_G := am_inG 103 (by decide +kernel) (by decide +kernel)
theorem mkX6_20 : am_mk RX6 20 yX0_init cX0_init 1 none 0 ∧ yX0_init.name = "<init>" ∧ Cond.instanceMethod yX0_init ∈ am_G := ⟨⟨Or.inr ⟨"RaceTuning", am_inN 105 (by decide +kernel) (by decide +kernel)⟩, kcX0_init, knX0, by decide +kernel⟩, rfl, kiX0_init⟩
theorem fgX6_21 : Cond.fieldLink RX6 21 ((am_cl 6).2.1 1).1 ((am_cl 6).2.1 1).2.1 ((am_cl 6).2.1 1).2.2.1 ∈ am_G := am_inG 195 (by decide +kernel) (by decide +kernel)
theorem fkX6_21 : am_lk RX6 21 6 1 := Or.inl fgX6_21
theorem klX6_25 : Cond.classLink RX6 25 RX1 ∈ am_G := am_inG 131 (by decide +kernel) (by decide +kernel)
theorem mkX6_27 : am_mk RX6 27 yX1_init cX1_init 1 none 0 ∧ yX1_init.name = "<init>" ∧ Cond.instanceMethod yX1_init ∈ am_G := ⟨⟨Or.inr ⟨"RaceTuning", am_inN 133 (by decide +kernel) (by decide +kernel)⟩, kcX1_init, knX1, by decide +kernel⟩, rfl, kiX1_init⟩
theorem fgX6_28 : Cond.fieldLink RX6 28 ((am_cl 6).2.1 2).1 ((am_cl 6).2.1 2).2.1 ((am_cl 6).2.1 2).2.2.1 ∈ am_G := am_inG 196 (by decide +kernel) (by decide +kernel)
theorem fkX6_28 : am_lk RX6 28 6 2 := Or.inl fgX6_28
theorem klX6_32 : Cond.classLink RX6 32 RX4 ∈ am_G := am_inG 161 (by decide +kernel) (by decide +kernel)
theorem mkX6_34 : am_mk RX6 34 yX4_init cX4_init 1 none 0 ∧ yX4_init.name = "<init>" ∧ Cond.instanceMethod yX4_init ∈ am_G := ⟨⟨Or.inr ⟨"RaceTuning", am_inN 163 (by decide +kernel) (by decide +kernel)⟩, kcX4_init, knX4, by decide +kernel⟩, rfl, kiX4_init⟩
theorem fgX6_35 : Cond.fieldLink RX6 35 ((am_cl 6).2.1 3).1 ((am_cl 6).2.1 3).2.1 ((am_cl 6).2.1 3).2.2.1 ∈ am_G := am_inG 197 (by decide +kernel) (by decide +kernel)
theorem fkX6_35 : am_lk RX6 35 6 3 := Or.inl fgX6_35
theorem fgX6_39 : Cond.fieldLink RX6 39 ((am_cl 6).2.1 4).1 ((am_cl 6).2.1 4).2.1 ((am_cl 6).2.1 4).2.2.1 ∈ am_G := am_inG 198 (by decide +kernel) (by decide +kernel)
theorem fkX6_39 : am_lk RX6 39 6 4 := Or.inl fgX6_39
theorem mkX6_43 : am_mk RX6 43 yX5_addSetting cX5_addSetting 1 (some .int) 0 ∧ Cond.instanceMethod yX5_addSetting ∈ am_G ∧ Cond.selects yX5_addSetting.cls yX5_addSetting yX5_addSetting ∈ am_G := ⟨⟨Or.inl (am_inG 214 (by decide +kernel) (by decide +kernel)), kcX5_addSetting, knX5, by decide +kernel⟩, kiX5_addSetting, ksX5_addSetting⟩
theorem mkX6_47 : am_mk RX6 47 yX6_isWithin cX6_isWithin 3 (some .boolean) 3 ∧ Cond.static yX6_isWithin ∈ am_G := ⟨⟨Or.inl (am_inG 222 (by decide +kernel) (by decide +kernel)), kcX6_isWithin, knX6, by decide +kernel⟩, kzX6_isWithin⟩
theorem mkX6_51 : am_mk RX6 51 yX5_addInstance cX5_addInstance 4 (some .int) 3 ∧ Cond.instanceMethod yX5_addInstance ∈ am_G ∧ Cond.selects yX5_addInstance.cls yX5_addInstance yX5_addInstance ∈ am_G := ⟨⟨Or.inl (am_inG 225 (by decide +kernel) (by decide +kernel)), kcX5_addInstance, knX5, by decide +kernel⟩, kiX5_addInstance, ksX5_addInstance⟩
theorem mkX6_55 : am_mk RX6 55 yX5_hasSetting cX5_hasSetting 2 (some .boolean) 1 ∧ Cond.instanceMethod yX5_hasSetting ∈ am_G ∧ Cond.selects yX5_hasSetting.cls yX5_hasSetting yX5_hasSetting ∈ am_G := ⟨⟨Or.inl (am_inG 233 (by decide +kernel) (by decide +kernel)), kcX5_hasSetting, knX5, by decide +kernel⟩, kiX5_hasSetting, ksX5_hasSetting⟩
theorem mkX6_59 : am_mk RX6 59 yX5_hasInstance cX5_hasInstance 2 (some .boolean) 1 ∧ Cond.instanceMethod yX5_hasInstance ∈ am_G ∧ Cond.selects yX5_hasInstance.cls yX5_hasInstance yX5_hasInstance ∈ am_G := ⟨⟨Or.inl (am_inG 237 (by decide +kernel) (by decide +kernel)), kcX5_hasInstance, knX5, by decide +kernel⟩, kiX5_hasInstance, ksX5_hasInstance⟩
theorem kdX6_62 : Cond.constant RX6 62 1000000 ∈ am_G := am_inG 241 (by decide +kernel) (by decide +kernel)
theorem mkX6_63 : am_mk RX6 63 yX5_costAt cX5_costAt 3 (some .int) 2 ∧ Cond.instanceMethod yX5_costAt ∈ am_G ∧ Cond.selects yX5_costAt.cls yX5_costAt yX5_costAt ∈ am_G := ⟨⟨Or.inl (am_inG 242 (by decide +kernel) (by decide +kernel)), kcX5_costAt, knX5, by decide +kernel⟩, kiX5_costAt, ksX5_costAt⟩
theorem kdX6_67 : Cond.constant RX6 67 2000000 ∈ am_G := am_inG 248 (by decide +kernel) (by decide +kernel)
theorem mkX6_68 : am_mk RX6 68 yX5_tell cX5_tell 4 (some .int) 3 ∧ Cond.instanceMethod yX5_tell ∈ am_G ∧ Cond.selects yX5_tell.cls yX5_tell yX5_tell ∈ am_G := ⟨⟨Or.inl (am_inG 249 (by decide +kernel) (by decide +kernel)), kcX5_tell, knX5, by decide +kernel⟩, kiX5_tell, ksX5_tell⟩
theorem klX6_72 : Cond.classLink RX6 72 RX3 ∈ am_G := am_inG 261 (by decide +kernel) (by decide +kernel)
theorem mkX6_74 : am_mk RX6 74 yX3_init cX3_init 7 none 6 ∧ yX3_init.name = "<init>" ∧ Cond.instanceMethod yX3_init ∈ am_G := ⟨⟨Or.inl (am_inG 263 (by decide +kernel) (by decide +kernel)), kcX3_init, knX3, by decide +kernel⟩, rfl, kiX3_init⟩
theorem mkX6_77 : am_mk RX6 77 yX3_areWithinBounds cX3_areWithinBounds 1 (some .boolean) 0 ∧ Cond.instanceMethod yX3_areWithinBounds ∈ am_G ∧ Cond.selects yX3_areWithinBounds.cls yX3_areWithinBounds yX3_areWithinBounds ∈ am_G := ⟨⟨Or.inl (am_inG 292 (by decide +kernel) (by decide +kernel)), kcX3_areWithinBounds, knX3, by decide +kernel⟩, kiX3_areWithinBounds, ksX3_areWithinBounds⟩
theorem fkX6_81 : am_lk RX6 81 5 4 := Or.inr ⟨"RaceTuning", am_inN 83 (by decide +kernel) (by decide +kernel)⟩
theorem klX6_85 : Cond.classLink RX6 85 RX2 ∈ am_G := am_inG 297 (by decide +kernel) (by decide +kernel)
theorem mkX6_87 : am_mk RX6 87 yX2_init cX2_init 4 none 3 ∧ yX2_init.name = "<init>" ∧ Cond.instanceMethod yX2_init ∈ am_G := ⟨⟨Or.inl (am_inG 299 (by decide +kernel) (by decide +kernel)), kcX2_init, knX2, by decide +kernel⟩, rfl, kiX2_init⟩
theorem mkX6_90 : am_mk RX6 90 yX2_begin cX2_begin 6 none 1 ∧ Cond.instanceMethod yX2_begin ∈ am_G ∧ Cond.selects yX2_begin.cls yX2_begin yX2_begin ∈ am_G := ⟨⟨Or.inl (am_inG 362 (by decide +kernel) (by decide +kernel)), kcX2_begin, knX2, by decide +kernel⟩, kiX2_begin, ksX2_begin⟩
theorem fkX6_94 : am_lk RX6 94 2 4 := Or.inr ⟨"RaceTuning", am_inN 313 (by decide +kernel) (by decide +kernel)⟩
theorem fkX6_97 : am_lk RX6 97 2 14 := Or.inr ⟨"RaceTuning", am_inN 330 (by decide +kernel) (by decide +kernel)⟩
theorem fkX6_100 : am_lk RX6 100 2 11 := Or.inr ⟨"RaceTuning", am_inN 324 (by decide +kernel) (by decide +kernel)⟩
theorem fkX6_103 : am_lk RX6 103 2 12 := Or.inr ⟨"RaceTuning", am_inN 326 (by decide +kernel) (by decide +kernel)⟩
theorem mkX6_106 : am_mk RX6 106 yX2_instanceAt cX2_instanceAt 2 (some .int) 1 ∧ Cond.instanceMethod yX2_instanceAt ∈ am_G ∧ Cond.selects yX2_instanceAt.cls yX2_instanceAt yX2_instanceAt ∈ am_G := ⟨⟨Or.inl (am_inG 375 (by decide +kernel) (by decide +kernel)), kcX2_instanceAt, knX2, by decide +kernel⟩, kiX2_instanceAt, ksX2_instanceAt⟩
theorem mkX6_110 : am_mk RX6 110 yX2_runNext cX2_runNext 2 (some .int) 0 ∧ Cond.instanceMethod yX2_runNext ∈ am_G ∧ Cond.selects yX2_runNext.cls yX2_runNext yX2_runNext ∈ am_G := ⟨⟨Or.inl (am_inG 383 (by decide +kernel) (by decide +kernel)), kcX2_runNext, knX2, by decide +kernel⟩, kiX2_runNext, ksX2_runNext⟩
theorem fkX6_113 : am_lk RX6 113 2 10 := Or.inr ⟨"RaceTuning", am_inN 322 (by decide +kernel) (by decide +kernel)⟩
theorem mkX6_116 : am_mk RX6 116 yX2_remainingAt cX2_remainingAt 4 (some .int) 1 ∧ Cond.instanceMethod yX2_remainingAt ∈ am_G ∧ Cond.selects yX2_remainingAt.cls yX2_remainingAt yX2_remainingAt ∈ am_G := ⟨⟨Or.inl (am_inG 464 (by decide +kernel) (by decide +kernel)), kcX2_remainingAt, knX2, by decide +kernel⟩, kiX2_remainingAt, ksX2_remainingAt⟩
theorem fkX6_119 : am_lk RX6 119 2 13 := Or.inr ⟨"RaceTuning", am_inN 328 (by decide +kernel) (by decide +kernel)⟩
theorem mkX6_122 : am_mk RX6 122 yX2_leader cX2_leader 1 (some .int) 0 ∧ Cond.instanceMethod yX2_leader ∈ am_G ∧ Cond.selects yX2_leader.cls yX2_leader yX2_leader ∈ am_G := ⟨⟨Or.inl (am_inG 472 (by decide +kernel) (by decide +kernel)), kcX2_leader, knX2, by decide +kernel⟩, kiX2_leader, ksX2_leader⟩
theorem mkX6_125 : am_mk RX6 125 yX2_isLeft cX2_isLeft 2 (some .boolean) 1 ∧ Cond.instanceMethod yX2_isLeft ∈ am_G ∧ Cond.selects yX2_isLeft.cls yX2_isLeft yX2_isLeft ∈ am_G := ⟨⟨Or.inl (am_inG 480 (by decide +kernel) (by decide +kernel)), kcX2_isLeft, knX2, by decide +kernel⟩, kiX2_isLeft, ksX2_isLeft⟩
theorem mkX6_128 : am_mk RX6 128 yX2_rankOf cX2_rankOf 4 (some .int) 1 ∧ Cond.instanceMethod yX2_rankOf ∈ am_G ∧ Cond.selects yX2_rankOf.cls yX2_rankOf yX2_rankOf ∈ am_G := ⟨⟨Or.inl (am_inG 481 (by decide +kernel) (by decide +kernel)), kcX2_rankOf, knX2, by decide +kernel⟩, kiX2_rankOf, ksX2_rankOf⟩
theorem mkX6_131 : am_mk RX6 131 yX2_isEntered cX2_isEntered 2 (some .boolean) 1 ∧ Cond.instanceMethod yX2_isEntered ∈ am_G ∧ Cond.selects yX2_isEntered.cls yX2_isEntered yX2_isEntered ∈ am_G := ⟨⟨Or.inl (am_inG 486 (by decide +kernel) (by decide +kernel)), kcX2_isEntered, knX2, by decide +kernel⟩, kiX2_isEntered, ksX2_isEntered⟩
theorem fkX6_134 : am_lk RX6 134 2 6 := Or.inr ⟨"RaceTuning", am_inN 316 (by decide +kernel) (by decide +kernel)⟩
theorem kdX6_138 : Cond.constantLong RX6 138 (-9223372036854775808) ∈ am_G := am_inG 491 (by decide +kernel) (by decide +kernel)
theorem mkX6_140 : am_mk RX6 140 yX2_countOdds cX2_countOdds 5 none 2 ∧ Cond.instanceMethod yX2_countOdds ∈ am_G ∧ Cond.selects yX2_countOdds.cls yX2_countOdds yX2_countOdds ∈ am_G := ⟨⟨Or.inl (am_inG 492 (by decide +kernel) (by decide +kernel)), kcX2_countOdds, knX2, by decide +kernel⟩, kiX2_countOdds, ksX2_countOdds⟩
theorem fkX6_144 : am_lk RX6 144 0 4 := Or.inr ⟨"RaceTuning", am_inN 114 (by decide +kernel) (by decide +kernel)⟩
theorem fkX6_148 : am_lk RX6 148 0 5 := Or.inr ⟨"RaceTuning", am_inN 116 (by decide +kernel) (by decide +kernel)⟩
theorem mkX6_151 : am_mk RX6 151 yX6_lowestTerms cX6_lowestTerms 9 (some .long) 3 ∧ Cond.static yX6_lowestTerms ∈ am_G := ⟨⟨Or.inl (am_inG 493 (by decide +kernel) (by decide +kernel)), kcX6_lowestTerms, knX6, by decide +kernel⟩, kzX6_lowestTerms⟩
theorem mkX6_155 : am_mk RX6 155 yX5_countWhole cX5_countWhole 3 (some .int) 0 ∧ Cond.instanceMethod yX5_countWhole ∈ am_G ∧ Cond.selects yX5_countWhole.cls yX5_countWhole yX5_countWhole ∈ am_G := ⟨⟨Or.inl (am_inG 503 (by decide +kernel) (by decide +kernel)), kcX5_countWhole, knX5, by decide +kernel⟩, kiX5_countWhole, ksX5_countWhole⟩
theorem mkX6_158 : am_mk RX6 158 yX1_find cX1_find 5 none 2 ∧ Cond.instanceMethod yX1_find ∈ am_G ∧ Cond.selects yX1_find.cls yX1_find yX1_find ∈ am_G := ⟨⟨Or.inl (am_inG 511 (by decide +kernel) (by decide +kernel)), kcX1_find, knX1, by decide +kernel⟩, kiX1_find, ksX1_find⟩
theorem fkX6_162 : am_lk RX6 162 1 6 := Or.inr ⟨"RaceTuning", am_inN 145 (by decide +kernel) (by decide +kernel)⟩
theorem mkX6_165 : am_mk RX6 165 yX1_memberAt cX1_memberAt 2 (some .int) 1 ∧ Cond.instanceMethod yX1_memberAt ∈ am_G ∧ Cond.selects yX1_memberAt.cls yX1_memberAt yX1_memberAt ∈ am_G := ⟨⟨Or.inl (am_inG 548 (by decide +kernel) (by decide +kernel)), kcX1_memberAt, knX1, by decide +kernel⟩, kiX1_memberAt, ksX1_memberAt⟩
theorem mkX6_168 : am_mk RX6 168 yX6_pickFor cX6_pickFor 2 (some .int) 1 ∧ Cond.instanceMethod yX6_pickFor ∈ am_G ∧ Cond.selects yX6_pickFor.cls yX6_pickFor yX6_pickFor ∈ am_G := ⟨⟨Or.inl (am_inG 556 (by decide +kernel) (by decide +kernel)), kcX6_pickFor, knX6, by decide +kernel⟩, kiX6_pickFor, ksX6_pickFor⟩
theorem mkX6_171 : am_mk RX6 171 yX4_find cX4_find 4 none 1 ∧ Cond.instanceMethod yX4_find ∈ am_G ∧ Cond.selects yX4_find.cls yX4_find yX4_find ∈ am_G := ⟨⟨Or.inl (am_inG 583 (by decide +kernel) (by decide +kernel)), kcX4_find, knX4, by decide +kernel⟩, kiX4_find, ksX4_find⟩
theorem fkX6_174 : am_lk RX6 174 4 2 := Or.inr ⟨"RaceTuning", am_inN 170 (by decide +kernel) (by decide +kernel)⟩
theorem fkX6_177 : am_lk RX6 177 4 3 := Or.inr ⟨"RaceTuning", am_inN 172 (by decide +kernel) (by decide +kernel)⟩
theorem fkX6_180 : am_lk RX6 180 4 4 := Or.inr ⟨"RaceTuning", am_inN 174 (by decide +kernel) (by decide +kernel)⟩
theorem fkX6_183 : am_lk RX6 183 4 5 := Or.inr ⟨"RaceTuning", am_inN 176 (by decide +kernel) (by decide +kernel)⟩
theorem fkX6_186 : am_lk RX6 186 4 6 := Or.inr ⟨"RaceTuning", am_inN 178 (by decide +kernel) (by decide +kernel)⟩
theorem mkX6_187 : am_mk RX6 187 yX6_findChoice cX6_findChoice 2 none 1 ∧ Cond.instanceMethod yX6_findChoice ∈ am_G ∧ Cond.selects yX6_findChoice.cls yX6_findChoice yX6_findChoice ∈ am_G := ⟨⟨Or.inl (am_inG 612 (by decide +kernel) (by decide +kernel)), kcX6_findChoice, knX6, by decide +kernel⟩, kiX6_findChoice, ksX6_findChoice⟩
theorem fkX6_190 : am_lk RX6 190 5 5 := Or.inr ⟨"RaceTuning", am_inN 87 (by decide +kernel) (by decide +kernel)⟩
theorem mkX6_193 : am_mk RX6 193 yX5_isLearning cX5_isLearning 2 (some .boolean) 1 ∧ Cond.instanceMethod yX5_isLearning ∈ am_G ∧ Cond.selects yX5_isLearning.cls yX5_isLearning yX5_isLearning ∈ am_G := ⟨⟨Or.inl (am_inG 616 (by decide +kernel) (by decide +kernel)), kcX5_isLearning, knX5, by decide +kernel⟩, kiX5_isLearning, ksX5_isLearning⟩
theorem mkX6_196 : am_mk RX6 196 yX6_chosenFor cX6_chosenFor 3 (some .int) 2 ∧ Cond.instanceMethod yX6_chosenFor ∈ am_G ∧ Cond.selects yX6_chosenFor.cls yX6_chosenFor yX6_chosenFor ∈ am_G := ⟨⟨Or.inl (am_inG 617 (by decide +kernel) (by decide +kernel)), kcX6_chosenFor, knX6, by decide +kernel⟩, kiX6_chosenFor, ksX6_chosenFor⟩
theorem fkX6_199 : am_lk RX6 199 2 7 := Or.inr ⟨"RaceTuning", am_inN 318 (by decide +kernel) (by decide +kernel)⟩
theorem mkX6_209 : am_mk RX6 209 yX2_sumOfFirst cX2_sumOfFirst 6 (some .long) 2 ∧ Cond.instanceMethod yX2_sumOfFirst ∈ am_G ∧ Cond.selects yX2_sumOfFirst.cls yX2_sumOfFirst yX2_sumOfFirst ∈ am_G := ⟨⟨Or.inl (am_inG 699 (by decide +kernel) (by decide +kernel)), kcX2_sumOfFirst, knX2, by decide +kernel⟩, kiX2_sumOfFirst, ksX2_sumOfFirst⟩
theorem mkX6_213 : am_mk RX6 213 yX5_nearestLearning cX5_nearestLearning 5 (some .int) 1 ∧ Cond.instanceMethod yX5_nearestLearning ∈ am_G ∧ Cond.selects yX5_nearestLearning.cls yX5_nearestLearning yX5_nearestLearning ∈ am_G := ⟨⟨Or.inl (am_inG 560 (by decide +kernel) (by decide +kernel)), kcX5_nearestLearning, knX5, by decide +kernel⟩, kiX5_nearestLearning, ksX5_nearestLearning⟩
theorem mkX6_216 : am_mk RX6 216 yX5_bestOn cX5_bestOn 5 (some .int) 1 ∧ Cond.instanceMethod yX5_bestOn ∈ am_G ∧ Cond.selects yX5_bestOn.cls yX5_bestOn yX5_bestOn ∈ am_G := ⟨⟨Or.inl (am_inG 575 (by decide +kernel) (by decide +kernel)), kcX5_bestOn, knX5, by decide +kernel⟩, kiX5_bestOn, ksX5_bestOn⟩
theorem mkX6_219 : am_mk RX6 219 yX4_settingFor cX4_settingFor 3 (some .int) 2 ∧ Cond.instanceMethod yX4_settingFor ∈ am_G ∧ Cond.selects yX4_settingFor.cls yX4_settingFor yX4_settingFor ∈ am_G := ⟨⟨Or.inl (am_inG 621 (by decide +kernel) (by decide +kernel)), kcX4_settingFor, knX4, by decide +kernel⟩, kiX4_settingFor, ksX4_settingFor⟩
theorem mkX6_223 : am_mk RX6 223 yX6_greatestDivisor cX6_greatestDivisor 11 (some .long) 2 ∧ Cond.static yX6_greatestDivisor ∈ am_G := ⟨⟨Or.inl (am_inG 496 (by decide +kernel) (by decide +kernel)), kcX6_greatestDivisor, knX6, by decide +kernel⟩, kzX6_greatestDivisor⟩
theorem moX7_1 : Cond.methodLink RX7 1 objectInit ∈ am_G := am_inG 708 (by decide +kernel) (by decide +kernel)
theorem fgX7_7 : Cond.fieldLink RX7 7 ((am_cl 7).2.1 3).1 ((am_cl 7).2.1 3).2.1 ((am_cl 7).2.1 3).2.2.1 ∈ am_G := am_inG 712 (by decide +kernel) (by decide +kernel)
theorem fkX7_7 : am_lk RX7 7 7 3 := Or.inl fgX7_7
theorem fgX7_13 : Cond.fieldLink RX7 13 ((am_cl 7).2.1 4).1 ((am_cl 7).2.1 4).2.1 ((am_cl 7).2.1 4).2.2.1 ∈ am_G := am_inG 713 (by decide +kernel) (by decide +kernel)
theorem fkX7_13 : am_lk RX7 13 7 4 := Or.inl fgX7_13
theorem fgX7_17 : Cond.fieldLink RX7 17 ((am_cl 7).2.1 5).1 ((am_cl 7).2.1 5).2.1 ((am_cl 7).2.1 5).2.2.1 ∈ am_G := am_inG 714 (by decide +kernel) (by decide +kernel)
theorem fkX7_17 : am_lk RX7 17 7 5 := Or.inl fgX7_17
theorem fgX7_20 : Cond.fieldLink RX7 20 ((am_cl 7).2.1 6).1 ((am_cl 7).2.1 6).2.1 ((am_cl 7).2.1 6).2.2.1 ∈ am_G := am_inG 715 (by decide +kernel) (by decide +kernel)
theorem fkX7_20 : am_lk RX7 20 7 6 := Or.inl fgX7_20
theorem fgX7_24 : Cond.fieldLink RX7 24 ((am_cl 7).2.1 14).1 ((am_cl 7).2.1 14).2.1 ((am_cl 7).2.1 14).2.2.1 ∈ am_G := am_inG 723 (by decide +kernel) (by decide +kernel)
theorem fkX7_24 : am_lk RX7 24 7 14 := Or.inl fgX7_24
theorem fgX7_27 : Cond.fieldLink RX7 27 ((am_cl 7).2.1 19).1 ((am_cl 7).2.1 19).2.1 ((am_cl 7).2.1 19).2.2.1 ∈ am_G := am_inG 728 (by decide +kernel) (by decide +kernel)
theorem fkX7_27 : am_lk RX7 27 7 19 := Or.inl fgX7_27
theorem fgX7_30 : Cond.fieldLink RX7 30 ((am_cl 7).2.1 20).1 ((am_cl 7).2.1 20).2.1 ((am_cl 7).2.1 20).2.2.1 ∈ am_G := am_inG 729 (by decide +kernel) (by decide +kernel)
theorem fkX7_30 : am_lk RX7 30 7 20 := Or.inl fgX7_30
theorem fgX7_33 : Cond.fieldLink RX7 33 ((am_cl 7).2.1 23).1 ((am_cl 7).2.1 23).2.1 ((am_cl 7).2.1 23).2.2.1 ∈ am_G := am_inG 732 (by decide +kernel) (by decide +kernel)
theorem fkX7_33 : am_lk RX7 33 7 23 := Or.inl fgX7_33
theorem fgX7_36 : Cond.fieldLink RX7 36 ((am_cl 7).2.1 24).1 ((am_cl 7).2.1 24).2.1 ((am_cl 7).2.1 24).2.2.1 ∈ am_G := am_inG 733 (by decide +kernel) (by decide +kernel)
theorem fkX7_36 : am_lk RX7 36 7 24 := Or.inl fgX7_36
theorem fgX7_39 : Cond.fieldLink RX7 39 ((am_cl 7).2.1 25).1 ((am_cl 7).2.1 25).2.1 ((am_cl 7).2.1 25).2.2.1 ∈ am_G := am_inG 734 (by decide +kernel) (by decide +kernel)
theorem fkX7_39 : am_lk RX7 39 7 25 := Or.inl fgX7_39
theorem fgX7_43 : Cond.fieldLink RX7 43 ((am_cl 7).2.1 0).1 ((am_cl 7).2.1 0).2.1 ((am_cl 7).2.1 0).2.2.1 ∈ am_G := am_inG 709 (by decide +kernel) (by decide +kernel)
theorem fkX7_43 : am_lk RX7 43 7 0 := Or.inl fgX7_43
theorem fgX7_46 : Cond.fieldLink RX7 46 ((am_cl 7).2.1 1).1 ((am_cl 7).2.1 1).2.1 ((am_cl 7).2.1 1).2.2.1 ∈ am_G := am_inG 710 (by decide +kernel) (by decide +kernel)
theorem fkX7_46 : am_lk RX7 46 7 1 := Or.inl fgX7_46
theorem mkX7_49 : am_mk RX7 49 yX7_in cX7_in 3 (some .boolean) 3 ∧ Cond.static yX7_in ∈ am_G := ⟨⟨Or.inl (am_inG 824 (by decide +kernel) (by decide +kernel)), kcX7_in, knX7, by decide +kernel⟩, kzX7_in⟩
theorem fgX7_53 : Cond.fieldLink RX7 53 ((am_cl 7).2.1 2).1 ((am_cl 7).2.1 2).2.1 ((am_cl 7).2.1 2).2.2.1 ∈ am_G := am_inG 711 (by decide +kernel) (by decide +kernel)
theorem fkX7_53 : am_lk RX7 53 7 2 := Or.inl fgX7_53
theorem mkX7_56 : am_mk RX7 56 yX7_isSetting cX7_isSetting 2 (some .boolean) 1 ∧ Cond.instanceMethod yX7_isSetting ∈ am_G ∧ Cond.selects yX7_isSetting.cls yX7_isSetting yX7_isSetting ∈ am_G := ⟨⟨Or.inl (am_inG 831 (by decide +kernel) (by decide +kernel)), kcX7_isSetting, knX7, by decide +kernel⟩, kiX7_isSetting, ksX7_isSetting⟩
theorem mkX7_60 : am_mk RX7 60 yX7_isInstance cX7_isInstance 2 (some .boolean) 1 ∧ Cond.instanceMethod yX7_isInstance ∈ am_G ∧ Cond.selects yX7_isInstance.cls yX7_isInstance yX7_isInstance ∈ am_G := ⟨⟨Or.inl (am_inG 835 (by decide +kernel) (by decide +kernel)), kcX7_isInstance, knX7, by decide +kernel⟩, kiX7_isInstance, ksX7_isInstance⟩
theorem kdX7_63 : Cond.constant RX7 63 1000000 ∈ am_G := am_inG 839 (by decide +kernel) (by decide +kernel)
theorem kdX7_64 : Cond.constant RX7 64 2000001 ∈ am_G := am_inG 840 (by decide +kernel) (by decide +kernel)
theorem mkX7_65 : am_mk RX7 65 yX7_costAt cX7_costAt 3 (some .int) 2 ∧ Cond.instanceMethod yX7_costAt ∈ am_G ∧ Cond.selects yX7_costAt.cls yX7_costAt yX7_costAt ∈ am_G := ⟨⟨Or.inl (am_inG 845 (by decide +kernel) (by decide +kernel)), kcX7_costAt, knX7, by decide +kernel⟩, kiX7_costAt, ksX7_costAt⟩
theorem fgX7_69 : Cond.fieldLink RX7 69 ((am_cl 7).2.1 12).1 ((am_cl 7).2.1 12).2.1 ((am_cl 7).2.1 12).2.2.1 ∈ am_G := am_inG 721 (by decide +kernel) (by decide +kernel)
theorem fkX7_69 : am_lk RX7 69 7 12 := Or.inl fgX7_69
theorem mkX7_72 : am_mk RX7 72 yX7_leftMany cX7_leftMany 3 (some .int) 0 ∧ Cond.instanceMethod yX7_leftMany ∈ am_G ∧ Cond.selects yX7_leftMany.cls yX7_leftMany yX7_leftMany ∈ am_G := ⟨⟨Or.inl (am_inG 858 (by decide +kernel) (by decide +kernel)), kcX7_leftMany, knX7, by decide +kernel⟩, kiX7_leftMany, ksX7_leftMany⟩
theorem fgX7_76 : Cond.fieldLink RX7 76 ((am_cl 7).2.1 10).1 ((am_cl 7).2.1 10).2.1 ((am_cl 7).2.1 10).2.2.1 ∈ am_G := am_inG 719 (by decide +kernel) (by decide +kernel)
theorem fkX7_76 : am_lk RX7 76 7 10 := Or.inl fgX7_76
theorem fgX7_79 : Cond.fieldLink RX7 79 ((am_cl 7).2.1 15).1 ((am_cl 7).2.1 15).2.1 ((am_cl 7).2.1 15).2.2.1 ∈ am_G := am_inG 724 (by decide +kernel) (by decide +kernel)
theorem fkX7_79 : am_lk RX7 79 7 15 := Or.inl fgX7_79
theorem fgX7_82 : Cond.fieldLink RX7 82 ((am_cl 7).2.1 13).1 ((am_cl 7).2.1 13).2.1 ((am_cl 7).2.1 13).2.2.1 ∈ am_G := am_inG 722 (by decide +kernel) (by decide +kernel)
theorem fkX7_82 : am_lk RX7 82 7 13 := Or.inl fgX7_82
theorem fgX7_85 : Cond.fieldLink RX7 85 ((am_cl 7).2.1 11).1 ((am_cl 7).2.1 11).2.1 ((am_cl 7).2.1 11).2.2.1 ∈ am_G := am_inG 720 (by decide +kernel) (by decide +kernel)
theorem fkX7_85 : am_lk RX7 85 7 11 := Or.inl fgX7_85
theorem fgX7_88 : Cond.fieldLink RX7 88 ((am_cl 7).2.1 16).1 ((am_cl 7).2.1 16).2.1 ((am_cl 7).2.1 16).2.2.1 ∈ am_G := am_inG 725 (by decide +kernel) (by decide +kernel)
theorem fkX7_88 : am_lk RX7 88 7 16 := Or.inl fgX7_88
theorem fgX7_91 : Cond.fieldLink RX7 91 ((am_cl 7).2.1 17).1 ((am_cl 7).2.1 17).2.1 ((am_cl 7).2.1 17).2.2.1 ∈ am_G := am_inG 726 (by decide +kernel) (by decide +kernel)
theorem fkX7_91 : am_lk RX7 91 7 17 := Or.inl fgX7_91
theorem fgX7_94 : Cond.fieldLink RX7 94 ((am_cl 7).2.1 18).1 ((am_cl 7).2.1 18).2.1 ((am_cl 7).2.1 18).2.2.1 ∈ am_G := am_inG 727 (by decide +kernel) (by decide +kernel)
theorem fkX7_94 : am_lk RX7 94 7 18 := Or.inl fgX7_94
theorem fgX7_97 : Cond.fieldLink RX7 97 ((am_cl 7).2.1 7).1 ((am_cl 7).2.1 7).2.1 ((am_cl 7).2.1 7).2.2.1 ∈ am_G := am_inG 716 (by decide +kernel) (by decide +kernel)
theorem fkX7_97 : am_lk RX7 97 7 7 := Or.inl fgX7_97
theorem fgX7_100 : Cond.fieldLink RX7 100 ((am_cl 7).2.1 8).1 ((am_cl 7).2.1 8).2.1 ((am_cl 7).2.1 8).2.2.1 ∈ am_G := am_inG 717 (by decide +kernel) (by decide +kernel)
theorem fkX7_100 : am_lk RX7 100 7 8 := Or.inl fgX7_100
theorem fgX7_103 : Cond.fieldLink RX7 103 ((am_cl 7).2.1 9).1 ((am_cl 7).2.1 9).2.1 ((am_cl 7).2.1 9).2.2.1 ∈ am_G := am_inG 718 (by decide +kernel) (by decide +kernel)
theorem fkX7_103 : am_lk RX7 103 7 9 := Or.inl fgX7_103
theorem kdX7_106 : Cond.constant RX7 106 1103515245 ∈ am_G := am_inG 853 (by decide +kernel) (by decide +kernel)
theorem mkX7_107 : am_mk RX7 107 yX7_look cX7_look 2 none 0 ∧ Cond.instanceMethod yX7_look ∈ am_G ∧ Cond.selects yX7_look.cls yX7_look yX7_look ∈ am_G := ⟨⟨Or.inl (am_inG 854 (by decide +kernel) (by decide +kernel)), kcX7_look, knX7, by decide +kernel⟩, kiX7_look, ksX7_look⟩
theorem mkX7_110 : am_mk RX7 110 yX7_isOn cX7_isOn 1 (some .boolean) 0 ∧ Cond.instanceMethod yX7_isOn ∈ am_G ∧ Cond.selects yX7_isOn.cls yX7_isOn yX7_isOn ∈ am_G := ⟨⟨Or.inl (am_inG 866 (by decide +kernel) (by decide +kernel)), kcX7_isOn, knX7, by decide +kernel⟩, kiX7_isOn, ksX7_isOn⟩
theorem mkX7_114 : am_mk RX7 114 yX7_drop cX7_drop 6 none 0 ∧ Cond.instanceMethod yX7_drop ∈ am_G ∧ Cond.selects yX7_drop.cls yX7_drop yX7_drop ∈ am_G := ⟨⟨Or.inl (am_inG 874 (by decide +kernel) (by decide +kernel)), kcX7_drop, knX7, by decide +kernel⟩, kiX7_drop, ksX7_drop⟩
theorem mkX7_117 : am_mk RX7 117 yX7_rankOf cX7_rankOf 7 (some .int) 1 ∧ Cond.instanceMethod yX7_rankOf ∈ am_G ∧ Cond.selects yX7_rankOf.cls yX7_rankOf yX7_rankOf ∈ am_G := ⟨⟨Or.inl (am_inG 882 (by decide +kernel) (by decide +kernel)), kcX7_rankOf, knX7, by decide +kernel⟩, kiX7_rankOf, ksX7_rankOf⟩
theorem mkX7_121 : am_mk RX7 121 yX7_leader cX7_leader 3 (some .int) 0 ∧ Cond.instanceMethod yX7_leader ∈ am_G ∧ Cond.selects yX7_leader.cls yX7_leader yX7_leader ∈ am_G := ⟨⟨Or.inl (am_inG 878 (by decide +kernel) (by decide +kernel)), kcX7_leader, knX7, by decide +kernel⟩, kiX7_leader, ksX7_leader⟩
theorem mkX7_124 : am_mk RX7 124 yX7_findOdds cX7_findOdds 11 none 2 ∧ Cond.instanceMethod yX7_findOdds ∈ am_G ∧ Cond.selects yX7_findOdds.cls yX7_findOdds yX7_findOdds ∈ am_G := ⟨⟨Or.inl (am_inG 886 (by decide +kernel) (by decide +kernel)), kcX7_findOdds, knX7, by decide +kernel⟩, kiX7_findOdds, ksX7_findOdds⟩
theorem fgX7_128 : Cond.fieldLink RX7 128 ((am_cl 7).2.1 21).1 ((am_cl 7).2.1 21).2.1 ((am_cl 7).2.1 21).2.2.1 ∈ am_G := am_inG 730 (by decide +kernel) (by decide +kernel)
theorem fkX7_128 : am_lk RX7 128 7 21 := Or.inl fgX7_128
theorem fgX7_132 : Cond.fieldLink RX7 132 ((am_cl 7).2.1 22).1 ((am_cl 7).2.1 22).2.1 ((am_cl 7).2.1 22).2.2.1 ∈ am_G := am_inG 731 (by decide +kernel) (by decide +kernel)
theorem fkX7_132 : am_lk RX7 132 7 22 := Or.inl fgX7_132
theorem mkX7_135 : am_mk RX7 135 yX7_ranOf cX7_ranOf 2 (some .int) 1 ∧ Cond.instanceMethod yX7_ranOf ∈ am_G ∧ Cond.selects yX7_ranOf.cls yX7_ranOf yX7_ranOf ∈ am_G := ⟨⟨Or.inl (am_inG 890 (by decide +kernel) (by decide +kernel)), kcX7_ranOf, knX7, by decide +kernel⟩, kiX7_ranOf, ksX7_ranOf⟩
theorem kdX7_138 : Cond.constantLong RX7 138 2 ∈ am_G := am_inG 894 (by decide +kernel) (by decide +kernel)
theorem kdX7_140 : Cond.constantLong RX7 140 (-9223372036854775808) ∈ am_G := am_inG 915 (by decide +kernel) (by decide +kernel)
theorem mkX7_142 : am_mk RX7 142 yX7_isWhole cX7_isWhole 3 (some .boolean) 1 ∧ Cond.instanceMethod yX7_isWhole ∈ am_G ∧ Cond.selects yX7_isWhole.cls yX7_isWhole yX7_isWhole ∈ am_G := ⟨⟨Or.inl (am_inG 924 (by decide +kernel) (by decide +kernel)), kcX7_isWhole, knX7, by decide +kernel⟩, kiX7_isWhole, ksX7_isWhole⟩
theorem mkX7_145 : am_mk RX7 145 yX7_wholes cX7_wholes 3 (some .int) 0 ∧ Cond.instanceMethod yX7_wholes ∈ am_G ∧ Cond.selects yX7_wholes.cls yX7_wholes yX7_wholes ∈ am_G := ⟨⟨Or.inl (am_inG 920 (by decide +kernel) (by decide +kernel)), kcX7_wholes, knX7, by decide +kernel⟩, kiX7_wholes, ksX7_wholes⟩
theorem fgX7_148 : Cond.fieldLink RX7 148 ((am_cl 7).2.1 26).1 ((am_cl 7).2.1 26).2.1 ((am_cl 7).2.1 26).2.2.1 ∈ am_G := am_inG 735 (by decide +kernel) (by decide +kernel)
theorem fkX7_148 : am_lk RX7 148 7 26 := Or.inl fgX7_148
theorem fgX7_151 : Cond.fieldLink RX7 151 ((am_cl 7).2.1 27).1 ((am_cl 7).2.1 27).2.1 ((am_cl 7).2.1 27).2.2.1 ∈ am_G := am_inG 736 (by decide +kernel) (by decide +kernel)
theorem fkX7_151 : am_lk RX7 151 7 27 := Or.inl fgX7_151
theorem mkX7_154 : am_mk RX7 154 yX7_many cX7_many 3 (some .int) 1 ∧ Cond.static yX7_many ∈ am_G := ⟨⟨Or.inl (am_inG 928 (by decide +kernel) (by decide +kernel)), kcX7_many, knX7, by decide +kernel⟩, kzX7_many⟩
theorem mkX7_157 : am_mk RX7 157 yX7_leastOf cX7_leastOf 5 (some .int) 2 ∧ Cond.instanceMethod yX7_leastOf ∈ am_G ∧ Cond.selects yX7_leastOf.cls yX7_leastOf yX7_leastOf ∈ am_G := ⟨⟨Or.inl (am_inG 935 (by decide +kernel) (by decide +kernel)), kcX7_leastOf, knX7, by decide +kernel⟩, kiX7_leastOf, ksX7_leastOf⟩
theorem mkX7_160 : am_mk RX7 160 yX7_isAhead cX7_isAhead 3 (some .boolean) 2 ∧ Cond.static yX7_isAhead ∈ am_G := ⟨⟨Or.inl (am_inG 939 (by decide +kernel) (by decide +kernel)), kcX7_isAhead, knX7, by decide +kernel⟩, kzX7_isAhead⟩
theorem mkX7_164 : am_mk RX7 164 yX7_findSet cX7_findSet 6 none 1 ∧ Cond.instanceMethod yX7_findSet ∈ am_G ∧ Cond.selects yX7_findSet.cls yX7_findSet yX7_findSet ∈ am_G := ⟨⟨Or.inl (am_inG 931 (by decide +kernel) (by decide +kernel)), kcX7_findSet, knX7, by decide +kernel⟩, kiX7_findSet, ksX7_findSet⟩
theorem mkX7_168 : am_mk RX7 168 yX7_farOf cX7_farOf 5 (some .int) 2 ∧ Cond.instanceMethod yX7_farOf ∈ am_G ∧ Cond.selects yX7_farOf.cls yX7_farOf yX7_farOf ∈ am_G := ⟨⟨Or.inl (am_inG 950 (by decide +kernel) (by decide +kernel)), kcX7_farOf, knX7, by decide +kernel⟩, kiX7_farOf, ksX7_farOf⟩
theorem mkX7_171 : am_mk RX7 171 yX7_pickOf cX7_pickOf 5 (some .int) 1 ∧ Cond.instanceMethod yX7_pickOf ∈ am_G ∧ Cond.selects yX7_pickOf.cls yX7_pickOf yX7_pickOf ∈ am_G := ⟨⟨Or.inl (am_inG 946 (by decide +kernel) (by decide +kernel)), kcX7_pickOf, knX7, by decide +kernel⟩, kiX7_pickOf, ksX7_pickOf⟩
theorem fgX7_174 : Cond.fieldLink RX7 174 ((am_cl 7).2.1 33).1 ((am_cl 7).2.1 33).2.1 ((am_cl 7).2.1 33).2.2.1 ∈ am_G := am_inG 742 (by decide +kernel) (by decide +kernel)
theorem fkX7_174 : am_lk RX7 174 7 33 := Or.inl fgX7_174
theorem fgX7_177 : Cond.fieldLink RX7 177 ((am_cl 7).2.1 32).1 ((am_cl 7).2.1 32).2.1 ((am_cl 7).2.1 32).2.2.1 ∈ am_G := am_inG 741 (by decide +kernel) (by decide +kernel)
theorem fkX7_177 : am_lk RX7 177 7 32 := Or.inl fgX7_177
theorem mkX7_180 : am_mk RX7 180 yX7_sideBest cX7_sideBest 8 (some .int) 3 ∧ Cond.instanceMethod yX7_sideBest ∈ am_G ∧ Cond.selects yX7_sideBest.cls yX7_sideBest yX7_sideBest ∈ am_G := ⟨⟨Or.inl (am_inG 962 (by decide +kernel) (by decide +kernel)), kcX7_sideBest, knX7, by decide +kernel⟩, kiX7_sideBest, ksX7_sideBest⟩
theorem fgX7_184 : Cond.fieldLink RX7 184 ((am_cl 7).2.1 28).1 ((am_cl 7).2.1 28).2.1 ((am_cl 7).2.1 28).2.2.1 ∈ am_G := am_inG 737 (by decide +kernel) (by decide +kernel)
theorem fkX7_184 : am_lk RX7 184 7 28 := Or.inl fgX7_184
theorem fgX7_187 : Cond.fieldLink RX7 187 ((am_cl 7).2.1 29).1 ((am_cl 7).2.1 29).2.1 ((am_cl 7).2.1 29).2.2.1 ∈ am_G := am_inG 738 (by decide +kernel) (by decide +kernel)
theorem fkX7_187 : am_lk RX7 187 7 29 := Or.inl fgX7_187
theorem fgX7_190 : Cond.fieldLink RX7 190 ((am_cl 7).2.1 30).1 ((am_cl 7).2.1 30).2.1 ((am_cl 7).2.1 30).2.2.1 ∈ am_G := am_inG 739 (by decide +kernel) (by decide +kernel)
theorem fkX7_190 : am_lk RX7 190 7 30 := Or.inl fgX7_190
theorem fgX7_193 : Cond.fieldLink RX7 193 ((am_cl 7).2.1 31).1 ((am_cl 7).2.1 31).2.1 ((am_cl 7).2.1 31).2.2.1 ∈ am_G := am_inG 740 (by decide +kernel) (by decide +kernel)
theorem fkX7_193 : am_lk RX7 193 7 31 := Or.inl fgX7_193
theorem mkX7_196 : am_mk RX7 196 yX7_findStump cX7_findStump 6 none 0 ∧ Cond.instanceMethod yX7_findStump ∈ am_G ∧ Cond.selects yX7_findStump.cls yX7_findStump yX7_findStump ∈ am_G := ⟨⟨Or.inl (am_inG 958 (by decide +kernel) (by decide +kernel)), kcX7_findStump, knX7, by decide +kernel⟩, kiX7_findStump, ksX7_findStump⟩
theorem mkX7_199 : am_mk RX7 199 yX7_runsOf cX7_runsOf 2 (some .int) 1 ∧ Cond.instanceMethod yX7_runsOf ∈ am_G ∧ Cond.selects yX7_runsOf.cls yX7_runsOf yX7_runsOf ∈ am_G := ⟨⟨Or.inl (am_inG 974 (by decide +kernel) (by decide +kernel)), kcX7_runsOf, knX7, by decide +kernel⟩, kiX7_runsOf, ksX7_runsOf⟩
theorem mkL_7 : am_mk RL 7 yX6_mean cX6_mean 4 (some .long) 3 ∧ Cond.instanceMethod yX6_mean ∈ am_G ∧ Cond.selects yX6_mean.cls yX6_mean yX6_mean ∈ am_G := ⟨⟨Or.inl (am_inG 629 (by decide +kernel) (by decide +kernel)), kcX6_mean, knX6, by decide +kernel⟩, kiX6_mean, ksX6_mean⟩
theorem klL_8 : Cond.classLink RL 8 RX6 ∈ am_G := am_inG 56 (by decide +kernel) (by decide +kernel)
theorem mkL_15 : am_mk RL 15 yX6_init cX6_init 1 none 0 ∧ yX6_init.name = "<init>" ∧ Cond.instanceMethod yX6_init ∈ am_G := ⟨⟨Or.inl (am_inG 58 (by decide +kernel) (by decide +kernel)), kcX6_init, knX6, by decide +kernel⟩, rfl, kiX6_init⟩
theorem klL_16 : Cond.classLink RL 16 RX7 ∈ am_G := am_inG 703 (by decide +kernel) (by decide +kernel)
theorem mkL_18 : am_mk RL 18 yX7_init cX7_init 1 none 0 ∧ yX7_init.name = "<init>" ∧ Cond.instanceMethod yX7_init ∈ am_G := ⟨⟨Or.inl (am_inG 705 (by decide +kernel) (by decide +kernel)), kcX7_init, knX7, by decide +kernel⟩, rfl, kiX7_init⟩
theorem mkL_19 : am_mk RL 19 yX6_setting cX6_setting 1 (some .int) 0 ∧ Cond.instanceMethod yX6_setting ∈ am_G ∧ Cond.selects yX6_setting.cls yX6_setting yX6_setting ∈ am_G := ⟨⟨Or.inl (am_inG 210 (by decide +kernel) (by decide +kernel)), kcX6_setting, knX6, by decide +kernel⟩, kiX6_setting, ksX6_setting⟩
theorem mkL_23 : am_mk RL 23 yX7_setting cX7_setting 1 (some .int) 0 ∧ Cond.instanceMethod yX7_setting ∈ am_G ∧ Cond.selects yX7_setting.cls yX7_setting yX7_setting ∈ am_G := ⟨⟨Or.inl (am_inG 816 (by decide +kernel) (by decide +kernel)), kcX7_setting, knX7, by decide +kernel⟩, kiX7_setting, ksX7_setting⟩
theorem mkL_24 : am_mk RL 24 yX6_instance cX6_instance 4 (some .int) 3 ∧ Cond.instanceMethod yX6_instance ∈ am_G ∧ Cond.selects yX6_instance.cls yX6_instance yX6_instance ∈ am_G := ⟨⟨Or.inl (am_inG 218 (by decide +kernel) (by decide +kernel)), kcX6_instance, knX6, by decide +kernel⟩, kiX6_instance, ksX6_instance⟩
theorem mkL_28 : am_mk RL 28 yX7_instance cX7_instance 4 (some .int) 3 ∧ Cond.instanceMethod yX7_instance ∈ am_G ∧ Cond.selects yX7_instance.cls yX7_instance yX7_instance ∈ am_G := ⟨⟨Or.inl (am_inG 820 (by decide +kernel) (by decide +kernel)), kcX7_instance, knX7, by decide +kernel⟩, kiX7_instance, ksX7_instance⟩
theorem mkL_29 : am_mk RL 29 yX6_cost cX6_cost 4 (some .int) 3 ∧ Cond.instanceMethod yX6_cost ∈ am_G ∧ Cond.selects yX6_cost.cls yX6_cost yX6_cost ∈ am_G := ⟨⟨Or.inl (am_inG 229 (by decide +kernel) (by decide +kernel)), kcX6_cost, knX6, by decide +kernel⟩, kiX6_cost, ksX6_cost⟩
theorem mkL_33 : am_mk RL 33 yX7_cost cX7_cost 6 (some .int) 3 ∧ Cond.instanceMethod yX7_cost ∈ am_G ∧ Cond.selects yX7_cost.cls yX7_cost yX7_cost ∈ am_G := ⟨⟨Or.inl (am_inG 827 (by decide +kernel) (by decide +kernel)), kcX7_cost, knX7, by decide +kernel⟩, kiX7_cost, ksX7_cost⟩
theorem mkL_34 : am_mk RL 34 yX6_costOf cX6_costOf 4 (some .int) 2 ∧ Cond.instanceMethod yX6_costOf ∈ am_G ∧ Cond.selects yX6_costOf.cls yX6_costOf yX6_costOf ∈ am_G := ⟨⟨Or.inl (am_inG 253 (by decide +kernel) (by decide +kernel)), kcX6_costOf, knX6, by decide +kernel⟩, kiX6_costOf, ksX6_costOf⟩
theorem mkL_38 : am_mk RL 38 yX7_costOf cX7_costOf 3 (some .int) 2 ∧ Cond.instanceMethod yX7_costOf ∈ am_G ∧ Cond.selects yX7_costOf.cls yX7_costOf yX7_costOf ∈ am_G := ⟨⟨Or.inl (am_inG 841 (by decide +kernel) (by decide +kernel)), kcX7_costOf, knX7, by decide +kernel⟩, kiX7_costOf, ksX7_costOf⟩
theorem mkL_39 : am_mk RL 39 yX6_race cX6_race 10 (some .int) 7 ∧ Cond.instanceMethod yX6_race ∈ am_G ∧ Cond.selects yX6_race.cls yX6_race yX6_race ∈ am_G := ⟨⟨Or.inl (am_inG 257 (by decide +kernel) (by decide +kernel)), kcX6_race, knX6, by decide +kernel⟩, kiX6_race, ksX6_race⟩
theorem mkL_43 : am_mk RL 43 yX7_race cX7_race 12 (some .int) 7 ∧ Cond.instanceMethod yX7_race ∈ am_G ∧ Cond.selects yX7_race.cls yX7_race yX7_race ∈ am_G := ⟨⟨Or.inl (am_inG 849 (by decide +kernel) (by decide +kernel)), kcX7_race, knX7, by decide +kernel⟩, kiX7_race, ksX7_race⟩
theorem mkL_44 : am_mk RL 44 yX6_wants cX6_wants 2 (some .int) 1 ∧ Cond.instanceMethod yX6_wants ∈ am_G ∧ Cond.selects yX6_wants.cls yX6_wants yX6_wants ∈ am_G := ⟨⟨Or.inl (am_inG 371 (by decide +kernel) (by decide +kernel)), kcX6_wants, knX6, by decide +kernel⟩, kiX6_wants, ksX6_wants⟩
theorem mkL_48 : am_mk RL 48 yX7_wants cX7_wants 2 (some .int) 1 ∧ Cond.instanceMethod yX7_wants ∈ am_G ∧ Cond.selects yX7_wants.cls yX7_wants yX7_wants ∈ am_G := ⟨⟨Or.inl (am_inG 862 (by decide +kernel) (by decide +kernel)), kcX7_wants, knX7, by decide +kernel⟩, kiX7_wants, ksX7_wants⟩
theorem mkL_49 : am_mk RL 49 yX6_run cX6_run 1 (some .int) 0 ∧ Cond.instanceMethod yX6_run ∈ am_G ∧ Cond.selects yX6_run.cls yX6_run yX6_run ∈ am_G := ⟨⟨Or.inl (am_inG 379 (by decide +kernel) (by decide +kernel)), kcX6_run, knX6, by decide +kernel⟩, kiX6_run, ksX6_run⟩
theorem mkL_52 : am_mk RL 52 yX7_run cX7_run 1 (some .int) 0 ∧ Cond.instanceMethod yX7_run ∈ am_G ∧ Cond.selects yX7_run.cls yX7_run yX7_run ∈ am_G := ⟨⟨Or.inl (am_inG 870 (by decide +kernel) (by decide +kernel)), kcX7_run, knX7, by decide +kernel⟩, kiX7_run, ksX7_run⟩
theorem mkL_53 : am_mk RL 53 yX6_left cX6_left 2 (some .int) 1 ∧ Cond.instanceMethod yX6_left ∈ am_G ∧ Cond.selects yX6_left.cls yX6_left yX6_left ∈ am_G := ⟨⟨Or.inl (am_inG 460 (by decide +kernel) (by decide +kernel)), kcX6_left, knX6, by decide +kernel⟩, kiX6_left, ksX6_left⟩
theorem mkL_56 : am_mk RL 56 yX7_left cX7_left 4 (some .int) 1 ∧ Cond.instanceMethod yX7_left ∈ am_G ∧ Cond.selects yX7_left.cls yX7_left yX7_left ∈ am_G := ⟨⟨Or.inl (am_inG 895 (by decide +kernel) (by decide +kernel)), kcX7_left, knX7, by decide +kernel⟩, kiX7_left, ksX7_left⟩
theorem mkL_57 : am_mk RL 57 yX6_raceOf cX6_raceOf 2 (some .int) 1 ∧ Cond.instanceMethod yX6_raceOf ∈ am_G ∧ Cond.selects yX6_raceOf.cls yX6_raceOf yX6_raceOf ∈ am_G := ⟨⟨Or.inl (am_inG 468 (by decide +kernel) (by decide +kernel)), kcX6_raceOf, knX6, by decide +kernel⟩, kiX6_raceOf, ksX6_raceOf⟩
theorem mkL_60 : am_mk RL 60 yX7_raceOf cX7_raceOf 2 (some .int) 1 ∧ Cond.instanceMethod yX7_raceOf ∈ am_G ∧ Cond.selects yX7_raceOf.cls yX7_raceOf yX7_raceOf ∈ am_G := ⟨⟨Or.inl (am_inG 899 (by decide +kernel) (by decide +kernel)), kcX7_raceOf, knX7, by decide +kernel⟩, kiX7_raceOf, ksX7_raceOf⟩
theorem mkL_61 : am_mk RL 61 yX6_rank cX6_rank 2 (some .int) 1 ∧ Cond.instanceMethod yX6_rank ∈ am_G ∧ Cond.selects yX6_rank.cls yX6_rank yX6_rank ∈ am_G := ⟨⟨Or.inl (am_inG 476 (by decide +kernel) (by decide +kernel)), kcX6_rank, knX6, by decide +kernel⟩, kiX6_rank, ksX6_rank⟩
theorem mkL_64 : am_mk RL 64 yX7_rank cX7_rank 2 (some .int) 1 ∧ Cond.instanceMethod yX7_rank ∈ am_G ∧ Cond.selects yX7_rank.cls yX7_rank yX7_rank ∈ am_G := ⟨⟨Or.inl (am_inG 903 (by decide +kernel) (by decide +kernel)), kcX7_rank, knX7, by decide +kernel⟩, kiX7_rank, ksX7_rank⟩
theorem mkL_65 : am_mk RL 65 yX6_dropped cX6_dropped 2 (some .int) 1 ∧ Cond.instanceMethod yX6_dropped ∈ am_G ∧ Cond.selects yX6_dropped.cls yX6_dropped yX6_dropped ∈ am_G := ⟨⟨Or.inl (am_inG 482 (by decide +kernel) (by decide +kernel)), kcX6_dropped, knX6, by decide +kernel⟩, kiX6_dropped, ksX6_dropped⟩
theorem mkL_68 : am_mk RL 68 yX7_dropped cX7_dropped 2 (some .int) 1 ∧ Cond.instanceMethod yX7_dropped ∈ am_G ∧ Cond.selects yX7_dropped.cls yX7_dropped yX7_dropped ∈ am_G := ⟨⟨Or.inl (am_inG 907 (by decide +kernel) (by decide +kernel)), kcX7_dropped, knX7, by decide +kernel⟩, kiX7_dropped, ksX7_dropped⟩
theorem mkL_69 : am_mk RL 69 yX6_odds cX6_odds 4 (some .long) 3 ∧ Cond.instanceMethod yX6_odds ∈ am_G ∧ Cond.selects yX6_odds.cls yX6_odds yX6_odds ∈ am_G := ⟨⟨Or.inl (am_inG 487 (by decide +kernel) (by decide +kernel)), kcX6_odds, knX6, by decide +kernel⟩, kiX6_odds, ksX6_odds⟩
theorem mkL_72 : am_mk RL 72 yX7_odds cX7_odds 4 (some .long) 3 ∧ Cond.instanceMethod yX7_odds ∈ am_G ∧ Cond.selects yX7_odds.cls yX7_odds yX7_odds ∈ am_G := ⟨⟨Or.inl (am_inG 911 (by decide +kernel) (by decide +kernel)), kcX7_odds, knX7, by decide +kernel⟩, kiX7_odds, ksX7_odds⟩
theorem mkL_73 : am_mk RL 73 yX6_portfolio cX6_portfolio 3 (some .int) 2 ∧ Cond.instanceMethod yX6_portfolio ∈ am_G ∧ Cond.selects yX6_portfolio.cls yX6_portfolio yX6_portfolio ∈ am_G := ⟨⟨Or.inl (am_inG 499 (by decide +kernel) (by decide +kernel)), kcX6_portfolio, knX6, by decide +kernel⟩, kiX6_portfolio, ksX6_portfolio⟩
theorem mkL_76 : am_mk RL 76 yX7_portfolio cX7_portfolio 5 (some .int) 2 ∧ Cond.instanceMethod yX7_portfolio ∈ am_G ∧ Cond.selects yX7_portfolio.cls yX7_portfolio yX7_portfolio ∈ am_G := ⟨⟨Or.inl (am_inG 916 (by decide +kernel) (by decide +kernel)), kcX7_portfolio, knX7, by decide +kernel⟩, kiX7_portfolio, ksX7_portfolio⟩
theorem mkL_77 : am_mk RL 77 yX6_pick cX6_pick 3 (some .int) 1 ∧ Cond.instanceMethod yX6_pick ∈ am_G ∧ Cond.selects yX6_pick.cls yX6_pick yX6_pick ∈ am_G := ⟨⟨Or.inl (am_inG 552 (by decide +kernel) (by decide +kernel)), kcX6_pick, knX6, by decide +kernel⟩, kiX6_pick, ksX6_pick⟩
theorem mkL_80 : am_mk RL 80 yX7_pick cX7_pick 2 (some .int) 1 ∧ Cond.instanceMethod yX7_pick ∈ am_G ∧ Cond.selects yX7_pick.cls yX7_pick yX7_pick ∈ am_G := ⟨⟨Or.inl (am_inG 942 (by decide +kernel) (by decide +kernel)), kcX7_pick, knX7, by decide +kernel⟩, kiX7_pick, ksX7_pick⟩
theorem mkL_81 : am_mk RL 81 yX6_stump cX6_stump 2 (some .int) 1 ∧ Cond.instanceMethod yX6_stump ∈ am_G ∧ Cond.selects yX6_stump.cls yX6_stump yX6_stump ∈ am_G := ⟨⟨Or.inl (am_inG 579 (by decide +kernel) (by decide +kernel)), kcX6_stump, knX6, by decide +kernel⟩, kiX6_stump, ksX6_stump⟩
theorem mkL_84 : am_mk RL 84 yX7_stump cX7_stump 2 (some .int) 1 ∧ Cond.instanceMethod yX7_stump ∈ am_G ∧ Cond.selects yX7_stump.cls yX7_stump yX7_stump ∈ am_G := ⟨⟨Or.inl (am_inG 954 (by decide +kernel) (by decide +kernel)), kcX7_stump, knX7, by decide +kernel⟩, kiX7_stump, ksX7_stump⟩
theorem mkL_85 : am_mk RL 85 yX6_heldOut cX6_heldOut 5 (some .int) 1 ∧ Cond.instanceMethod yX6_heldOut ∈ am_G ∧ Cond.selects yX6_heldOut.cls yX6_heldOut yX6_heldOut ∈ am_G := ⟨⟨Or.inl (am_inG 608 (by decide +kernel) (by decide +kernel)), kcX6_heldOut, knX6, by decide +kernel⟩, kiX6_heldOut, ksX6_heldOut⟩
theorem mkL_88 : am_mk RL 88 yX7_heldOut cX7_heldOut 6 (some .int) 1 ∧ Cond.instanceMethod yX7_heldOut ∈ am_G ∧ Cond.selects yX7_heldOut.cls yX7_heldOut yX7_heldOut ∈ am_G := ⟨⟨Or.inl (am_inG 966 (by decide +kernel) (by decide +kernel)), kcX7_heldOut, knX7, by decide +kernel⟩, kiX7_heldOut, ksX7_heldOut⟩
theorem moL_89 : Cond.methodLink RL 89 yL_mean ∈ am_G := am_inG 625 (by decide +kernel) (by decide +kernel)
theorem mkL_94 : am_mk RL 94 yX7_mean cX7_mean 8 (some .long) 3 ∧ Cond.instanceMethod yX7_mean ∈ am_G ∧ Cond.selects yX7_mean.cls yX7_mean yX7_mean ∈ am_G := ⟨⟨Or.inl (am_inG 970 (by decide +kernel) (by decide +kernel)), kcX7_mean, knX7, by decide +kernel⟩, kiX7_mean, ksX7_mean⟩
theorem mkL_95 : am_mk RL 95 yX7_thrown cX7_thrown 1 (some .int) 0 ∧ Cond.instanceMethod yX7_thrown ∈ am_G ∧ Cond.selects yX7_thrown.cls yX7_thrown yX7_thrown ∈ am_G := ⟨⟨Or.inl (am_inG 812 (by decide +kernel) (by decide +kernel)), kcX7_thrown, knX7, by decide +kernel⟩, kiX7_thrown, ksX7_thrown⟩
