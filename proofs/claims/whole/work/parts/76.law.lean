/-! ===== the law's loop (printed by run76.py) ===== -/
theorem wl_248 : Cond.methodLink "DreamSharesLaw" 13 ⟨"DreamShares", "type", "(II)I"⟩ ∈ lw_tbl := List.mem_of_getElem? (i := 339) (by decide +kernel)
theorem wl_249 : Cond.instanceMethod ⟨"DreamShares", "type", "(II)I"⟩ ∈ lw_tbl := List.mem_of_getElem? (i := 340) (by decide +kernel)
theorem wl_250 : Cond.selects "DreamShares" ⟨"DreamShares", "type", "(II)I"⟩ ⟨"DreamShares", "type", "(II)I"⟩ ∈ lw_tbl := List.mem_of_getElem? (i := 341) (by decide +kernel)
set_option maxRecDepth 20000 in
theorem wl_251 : Cond.code yX8_type cX8_type 3 (some .int) ∈ lw_tbl := List.mem_of_getElem? (i := 342) rfl
theorem wl_313 : Cond.methodLink "DreamSharesLaw" 18 ⟨"DreamShares", "wipe", "(I)I"⟩ ∈ lw_tbl := List.mem_of_getElem? (i := 404) (by decide +kernel)
theorem wl_314 : Cond.instanceMethod ⟨"DreamShares", "wipe", "(I)I"⟩ ∈ lw_tbl := List.mem_of_getElem? (i := 405) (by decide +kernel)
theorem wl_315 : Cond.selects "DreamShares" ⟨"DreamShares", "wipe", "(I)I"⟩ ⟨"DreamShares", "wipe", "(I)I"⟩ ∈ lw_tbl := List.mem_of_getElem? (i := 406) (by decide +kernel)
set_option maxRecDepth 20000 in
theorem wl_316 : Cond.code yX8_wipe cX8_wipe 3 (some .int) ∈ lw_tbl := List.mem_of_getElem? (i := 407) rfl
theorem wl_317 : Cond.methodLink "DreamSharesLaw" 23 ⟨"DreamShares", "undo", "(I)I"⟩ ∈ lw_tbl := List.mem_of_getElem? (i := 408) (by decide +kernel)
theorem wl_318 : Cond.instanceMethod ⟨"DreamShares", "undo", "(I)I"⟩ ∈ lw_tbl := List.mem_of_getElem? (i := 409) (by decide +kernel)
theorem wl_319 : Cond.selects "DreamShares" ⟨"DreamShares", "undo", "(I)I"⟩ ⟨"DreamShares", "undo", "(I)I"⟩ ∈ lw_tbl := List.mem_of_getElem? (i := 410) (by decide +kernel)
set_option maxRecDepth 20000 in
theorem wl_320 : Cond.code yX8_undo cX8_undo 2 (some .int) ∈ lw_tbl := List.mem_of_getElem? (i := 411) rfl
theorem wl_321 : Cond.methodLink "DreamSharesLaw" 27 ⟨"DreamShares", "fault", "(I)I"⟩ ∈ lw_tbl := List.mem_of_getElem? (i := 412) (by decide +kernel)
theorem wl_325 : Cond.methodLink "DreamSharesLaw" 31 ⟨"DreamShares", "member", "(II)I"⟩ ∈ lw_tbl := List.mem_of_getElem? (i := 416) (by decide +kernel)
theorem wl_336 : Cond.methodLink "DreamSharesLaw" 35 ⟨"DreamShares", "recipe", "(II)I"⟩ ∈ lw_tbl := List.mem_of_getElem? (i := 427) (by decide +kernel)
theorem wl_344 : Cond.methodLink "DreamSharesLaw" 39 ⟨"DreamShares", "supper", "(II)I"⟩ ∈ lw_tbl := List.mem_of_getElem? (i := 435) (by decide +kernel)
theorem wl_345 : Cond.instanceMethod ⟨"DreamShares", "supper", "(II)I"⟩ ∈ lw_tbl := List.mem_of_getElem? (i := 436) (by decide +kernel)
theorem wl_346 : Cond.selects "DreamShares" ⟨"DreamShares", "supper", "(II)I"⟩ ⟨"DreamShares", "supper", "(II)I"⟩ ∈ lw_tbl := List.mem_of_getElem? (i := 437) (by decide +kernel)
set_option maxRecDepth 20000 in
theorem wl_347 : Cond.code yX8_supper cX8_supper 4 (some .int) ∈ lw_tbl := List.mem_of_getElem? (i := 438) rfl
theorem wl_354 : Cond.methodLink "DreamSharesLaw" 43 ⟨"DreamShares", "set", "(II)I"⟩ ∈ lw_tbl := List.mem_of_getElem? (i := 445) (by decide +kernel)
theorem wl_355 : Cond.instanceMethod ⟨"DreamShares", "set", "(II)I"⟩ ∈ lw_tbl := List.mem_of_getElem? (i := 446) (by decide +kernel)
theorem wl_356 : Cond.selects "DreamShares" ⟨"DreamShares", "set", "(II)I"⟩ ⟨"DreamShares", "set", "(II)I"⟩ ∈ lw_tbl := List.mem_of_getElem? (i := 447) (by decide +kernel)
set_option maxRecDepth 20000 in
theorem wl_357 : Cond.code yX8_set cX8_set 4 (some .int) ∈ lw_tbl := List.mem_of_getElem? (i := 448) rfl
theorem wl_358 : Cond.methodLink "DreamSharesLaw" 47 ⟨"DreamShares", "pay", "(II)I"⟩ ∈ lw_tbl := List.mem_of_getElem? (i := 449) (by decide +kernel)
theorem wl_359 : Cond.instanceMethod ⟨"DreamShares", "pay", "(II)I"⟩ ∈ lw_tbl := List.mem_of_getElem? (i := 450) (by decide +kernel)
theorem wl_360 : Cond.selects "DreamShares" ⟨"DreamShares", "pay", "(II)I"⟩ ⟨"DreamShares", "pay", "(II)I"⟩ ∈ lw_tbl := List.mem_of_getElem? (i := 451) (by decide +kernel)
set_option maxRecDepth 20000 in
theorem wl_361 : Cond.code yX8_pay cX8_pay 4 (some .int) ∈ lw_tbl := List.mem_of_getElem? (i := 452) rfl
theorem wl_365 : Cond.methodLink "DreamSharesLaw" 51 ⟨"DreamShares", "dreamt", "(II)I"⟩ ∈ lw_tbl := List.mem_of_getElem? (i := 456) (by decide +kernel)
theorem wl_366 : Cond.instanceMethod ⟨"DreamShares", "dreamt", "(II)I"⟩ ∈ lw_tbl := List.mem_of_getElem? (i := 457) (by decide +kernel)
theorem wl_367 : Cond.selects "DreamShares" ⟨"DreamShares", "dreamt", "(II)I"⟩ ⟨"DreamShares", "dreamt", "(II)I"⟩ ∈ lw_tbl := List.mem_of_getElem? (i := 458) (by decide +kernel)
set_option maxRecDepth 20000 in
theorem wl_368 : Cond.code yX8_dreamt cX8_dreamt 4 (some .int) ∈ lw_tbl := List.mem_of_getElem? (i := 459) rfl
theorem wl_369 : Cond.methodLink "DreamSharesLaw" 55 ⟨"DreamShares", "read", "(I)I"⟩ ∈ lw_tbl := List.mem_of_getElem? (i := 460) (by decide +kernel)
theorem wl_370 : Cond.instanceMethod ⟨"DreamShares", "read", "(I)I"⟩ ∈ lw_tbl := List.mem_of_getElem? (i := 461) (by decide +kernel)
theorem wl_371 : Cond.selects "DreamShares" ⟨"DreamShares", "read", "(I)I"⟩ ⟨"DreamShares", "read", "(I)I"⟩ ∈ lw_tbl := List.mem_of_getElem? (i := 462) (by decide +kernel)
set_option maxRecDepth 20000 in
theorem wl_372 : Cond.code yX8_read cX8_read 4 (some .int) ∈ lw_tbl := List.mem_of_getElem? (i := 463) rfl
theorem wl_380 : Cond.methodLink "DreamSharesLaw" 59 ⟨"DreamShares", "chance", "(III)J"⟩ ∈ lw_tbl := List.mem_of_getElem? (i := 471) (by decide +kernel)
theorem wl_381 : Cond.instanceMethod ⟨"DreamShares", "chance", "(III)J"⟩ ∈ lw_tbl := List.mem_of_getElem? (i := 472) (by decide +kernel)
theorem wl_382 : Cond.selects "DreamShares" ⟨"DreamShares", "chance", "(III)J"⟩ ⟨"DreamShares", "chance", "(III)J"⟩ ∈ lw_tbl := List.mem_of_getElem? (i := 473) (by decide +kernel)
set_option maxRecDepth 20000 in
theorem wl_383 : Cond.code yX8_chance cX8_chance 4 (some .long) ∈ lw_tbl := List.mem_of_getElem? (i := 474) rfl
theorem wl_414 : Cond.methodLink "DreamSharesLaw" 64 ⟨"DreamShares", "worth", "(IIII)I"⟩ ∈ lw_tbl := List.mem_of_getElem? (i := 505) (by decide +kernel)
theorem wl_432 : Cond.methodLink "DreamSharesLaw" 69 ⟨"DreamShares", "made", "(IIIII)I"⟩ ∈ lw_tbl := List.mem_of_getElem? (i := 523) (by decide +kernel)
theorem wl_457 : Cond.methodLink "DreamSharesLaw" 74 ⟨"DreamShares", "mean", "(II)J"⟩ ∈ lw_tbl := List.mem_of_getElem? (i := 548) (by decide +kernel)
theorem wl_458 : Cond.instanceMethod ⟨"DreamShares", "mean", "(II)J"⟩ ∈ lw_tbl := List.mem_of_getElem? (i := 549) (by decide +kernel)
theorem wl_459 : Cond.selects "DreamShares" ⟨"DreamShares", "mean", "(II)J"⟩ ⟨"DreamShares", "mean", "(II)J"⟩ ∈ lw_tbl := List.mem_of_getElem? (i := 550) (by decide +kernel)
set_option maxRecDepth 20000 in
theorem wl_460 : Cond.code yX8_mean cX8_mean 3 (some .long) ∈ lw_tbl := List.mem_of_getElem? (i := 551) rfl
theorem wl_499 : Cond.methodLink "DreamSharesLaw" 79 ⟨"DreamShares", "share", "(II)J"⟩ ∈ lw_tbl := List.mem_of_getElem? (i := 590) (by decide +kernel)
theorem wl_500 : Cond.instanceMethod ⟨"DreamShares", "share", "(II)J"⟩ ∈ lw_tbl := List.mem_of_getElem? (i := 591) (by decide +kernel)
theorem wl_501 : Cond.selects "DreamShares" ⟨"DreamShares", "share", "(II)J"⟩ ⟨"DreamShares", "share", "(II)J"⟩ ∈ lw_tbl := List.mem_of_getElem? (i := 592) (by decide +kernel)
set_option maxRecDepth 20000 in
theorem wl_502 : Cond.code yX8_share cX8_share 3 (some .long) ∈ lw_tbl := List.mem_of_getElem? (i := 593) rfl
theorem wl_513 : Cond.methodLink "DreamSharesLaw" 83 ⟨"DreamShares", "leave", "()I"⟩ ∈ lw_tbl := List.mem_of_getElem? (i := 604) (by decide +kernel)
theorem wl_514 : Cond.instanceMethod ⟨"DreamShares", "leave", "()I"⟩ ∈ lw_tbl := List.mem_of_getElem? (i := 605) (by decide +kernel)
theorem wl_515 : Cond.selects "DreamShares" ⟨"DreamShares", "leave", "()I"⟩ ⟨"DreamShares", "leave", "()I"⟩ ∈ lw_tbl := List.mem_of_getElem? (i := 606) (by decide +kernel)
set_option maxRecDepth 20000 in
theorem wl_516 : Cond.code yX8_leave cX8_leave 1 (some .int) ∈ lw_tbl := List.mem_of_getElem? (i := 607) rfl
theorem wl_525 : Cond.methodLink "DreamSharesLaw" 88 ⟨"DreamShares", "strike", "(II)J"⟩ ∈ lw_tbl := List.mem_of_getElem? (i := 616) (by decide +kernel)
theorem wl_526 : Cond.instanceMethod ⟨"DreamShares", "strike", "(II)J"⟩ ∈ lw_tbl := List.mem_of_getElem? (i := 617) (by decide +kernel)
theorem wl_527 : Cond.selects "DreamShares" ⟨"DreamShares", "strike", "(II)J"⟩ ⟨"DreamShares", "strike", "(II)J"⟩ ∈ lw_tbl := List.mem_of_getElem? (i := 618) (by decide +kernel)
set_option maxRecDepth 20000 in
theorem wl_528 : Cond.code yX8_strike cX8_strike 3 (some .long) ∈ lw_tbl := List.mem_of_getElem? (i := 619) rfl
theorem wl_533 : Cond.methodLink "DreamSharesLaw" 92 ⟨"DreamShares", "best", "(I)I"⟩ ∈ lw_tbl := List.mem_of_getElem? (i := 624) (by decide +kernel)
theorem wl_542 : Cond.methodLink "DreamSharesLaw" 96 ⟨"DreamShares", "menu", "(II)I"⟩ ∈ lw_tbl := List.mem_of_getElem? (i := 633) (by decide +kernel)
theorem wl_565 : Cond.methodLink "DreamSharesLaw" 100 ⟨"DreamShares", "menuMean", "(II)J"⟩ ∈ lw_tbl := List.mem_of_getElem? (i := 656) (by decide +kernel)
theorem wl_573 : Cond.methodLink "DreamSharesLaw" 104 ⟨"DreamShares", "dread", "(II)J"⟩ ∈ lw_tbl := List.mem_of_getElem? (i := 664) (by decide +kernel)
theorem wl_574 : Cond.instanceMethod ⟨"DreamShares", "dread", "(II)J"⟩ ∈ lw_tbl := List.mem_of_getElem? (i := 665) (by decide +kernel)
theorem wl_575 : Cond.selects "DreamShares" ⟨"DreamShares", "dread", "(II)J"⟩ ⟨"DreamShares", "dread", "(II)J"⟩ ∈ lw_tbl := List.mem_of_getElem? (i := 666) (by decide +kernel)
set_option maxRecDepth 20000 in
theorem wl_576 : Cond.code yX8_dread cX8_dread 3 (some .long) ∈ lw_tbl := List.mem_of_getElem? (i := 667) rfl
theorem wl_581 : Cond.methodLink "DreamSharesLaw" 108 ⟨"DreamShares", "rows", "(IIII)I"⟩ ∈ lw_tbl := List.mem_of_getElem? (i := 672) (by decide +kernel)
theorem wl_593 : Cond.methodLink "DreamSharesLaw" 112 ⟨"DreamShares", "may", "(IIIII)I"⟩ ∈ lw_tbl := List.mem_of_getElem? (i := 684) (by decide +kernel)
theorem wl_597 : Cond.methodLink "DreamSharesLaw" 116 ⟨"DreamShares", "likeliest", "(IIIII)I"⟩ ∈ lw_tbl := List.mem_of_getElem? (i := 688) (by decide +kernel)
theorem wl_598 : Cond.instanceMethod ⟨"DreamShares", "likeliest", "(IIIII)I"⟩ ∈ lw_tbl := List.mem_of_getElem? (i := 689) (by decide +kernel)
theorem wl_599 : Cond.selects "DreamShares" ⟨"DreamShares", "likeliest", "(IIIII)I"⟩ ⟨"DreamShares", "likeliest", "(IIIII)I"⟩ ∈ lw_tbl := List.mem_of_getElem? (i := 690) (by decide +kernel)
set_option maxRecDepth 20000 in
theorem wl_600 : Cond.code yX8_likeliest cX8_likeliest 6 (some .int) ∈ lw_tbl := List.mem_of_getElem? (i := 691) rfl
theorem wl_616 : Cond.methodLink "DreamSharesLaw" 120 ⟨"DreamShares", "kept", "(IIII)I"⟩ ∈ lw_tbl := List.mem_of_getElem? (i := 707) (by decide +kernel)
theorem wl_624 : Cond.methodLink "DreamSharesLaw" 124 ⟨"DreamShares", "week", "(III)I"⟩ ∈ lw_tbl := List.mem_of_getElem? (i := 715) (by decide +kernel)
theorem wl_641 : Cond.methodLink "DreamSharesLaw" 129 ⟨"DreamShares", "sheet", "(III)I"⟩ ∈ lw_tbl := List.mem_of_getElem? (i := 732) (by decide +kernel)
theorem wl_642 : Cond.instanceMethod ⟨"DreamShares", "sheet", "(III)I"⟩ ∈ lw_tbl := List.mem_of_getElem? (i := 733) (by decide +kernel)
theorem wl_643 : Cond.selects "DreamShares" ⟨"DreamShares", "sheet", "(III)I"⟩ ⟨"DreamShares", "sheet", "(III)I"⟩ ∈ lw_tbl := List.mem_of_getElem? (i := 734) (by decide +kernel)
set_option maxRecDepth 20000 in
theorem wl_644 : Cond.code yX8_sheet cX8_sheet 4 (some .int) ∈ lw_tbl := List.mem_of_getElem? (i := 735) rfl
theorem wl_652 : Cond.methodLink "DreamSharesLaw" 133 ⟨"DreamShares", "lose", "(I)I"⟩ ∈ lw_tbl := List.mem_of_getElem? (i := 743) (by decide +kernel)
theorem wl_653 : Cond.instanceMethod ⟨"DreamShares", "lose", "(I)I"⟩ ∈ lw_tbl := List.mem_of_getElem? (i := 744) (by decide +kernel)
theorem wl_654 : Cond.selects "DreamShares" ⟨"DreamShares", "lose", "(I)I"⟩ ⟨"DreamShares", "lose", "(I)I"⟩ ∈ lw_tbl := List.mem_of_getElem? (i := 745) (by decide +kernel)
set_option maxRecDepth 20000 in
theorem wl_655 : Cond.code yX8_lose cX8_lose 2 (some .int) ∈ lw_tbl := List.mem_of_getElem? (i := 746) rfl
theorem wl_656 : Cond.methodLink "DreamSharesLaw" 137 ⟨"DreamShares", "put", "(IIII)I"⟩ ∈ lw_tbl := List.mem_of_getElem? (i := 747) (by decide +kernel)
theorem wl_657 : Cond.instanceMethod ⟨"DreamShares", "put", "(IIII)I"⟩ ∈ lw_tbl := List.mem_of_getElem? (i := 748) (by decide +kernel)
theorem wl_658 : Cond.selects "DreamShares" ⟨"DreamShares", "put", "(IIII)I"⟩ ⟨"DreamShares", "put", "(IIII)I"⟩ ∈ lw_tbl := List.mem_of_getElem? (i := 749) (by decide +kernel)
set_option maxRecDepth 20000 in
theorem wl_659 : Cond.code yX8_put cX8_put 6 (some .int) ∈ lw_tbl := List.mem_of_getElem? (i := 750) rfl
theorem wl_668 : Cond.methodLink "DreamSharesLaw" 141 ⟨"DreamShares", "get", "(III)I"⟩ ∈ lw_tbl := List.mem_of_getElem? (i := 759) (by decide +kernel)
theorem wl_669 : Cond.instanceMethod ⟨"DreamShares", "get", "(III)I"⟩ ∈ lw_tbl := List.mem_of_getElem? (i := 760) (by decide +kernel)
theorem wl_670 : Cond.selects "DreamShares" ⟨"DreamShares", "get", "(III)I"⟩ ⟨"DreamShares", "get", "(III)I"⟩ ∈ lw_tbl := List.mem_of_getElem? (i := 761) (by decide +kernel)
set_option maxRecDepth 20000 in
theorem wl_671 : Cond.code yX8_get cX8_get 5 (some .int) ∈ lw_tbl := List.mem_of_getElem? (i := 762) rfl
theorem wl_673 : Cond.methodLink "DreamSharesLaw" 145 ⟨"DreamShares", "copy", "(IIIII)I"⟩ ∈ lw_tbl := List.mem_of_getElem? (i := 764) (by decide +kernel)
theorem wl_674 : Cond.instanceMethod ⟨"DreamShares", "copy", "(IIIII)I"⟩ ∈ lw_tbl := List.mem_of_getElem? (i := 765) (by decide +kernel)
theorem wl_675 : Cond.selects "DreamShares" ⟨"DreamShares", "copy", "(IIIII)I"⟩ ⟨"DreamShares", "copy", "(IIIII)I"⟩ ∈ lw_tbl := List.mem_of_getElem? (i := 766) (by decide +kernel)
set_option maxRecDepth 20000 in
theorem wl_676 : Cond.code yX8_copy cX8_copy 8 (some .int) ∈ lw_tbl := List.mem_of_getElem? (i := 767) rfl
theorem wl_684 : Cond.methodLink "DreamSharesLaw" 149 ⟨"DreamShares", "write", "(II)I"⟩ ∈ lw_tbl := List.mem_of_getElem? (i := 775) (by decide +kernel)
theorem wl_685 : Cond.instanceMethod ⟨"DreamShares", "write", "(II)I"⟩ ∈ lw_tbl := List.mem_of_getElem? (i := 776) (by decide +kernel)
theorem wl_686 : Cond.selects "DreamShares" ⟨"DreamShares", "write", "(II)I"⟩ ⟨"DreamShares", "write", "(II)I"⟩ ∈ lw_tbl := List.mem_of_getElem? (i := 777) (by decide +kernel)
set_option maxRecDepth 20000 in
theorem wl_687 : Cond.code yX8_write cX8_write 5 (some .int) ∈ lw_tbl := List.mem_of_getElem? (i := 778) rfl
theorem wl_688 : Cond.methodLink "DreamSharesLaw" 153 ⟨"DreamShares", "count", "(I)I"⟩ ∈ lw_tbl := List.mem_of_getElem? (i := 779) (by decide +kernel)
theorem wl_696 : Cond.methodLink "DreamSharesLaw" 157 ⟨"DreamShares", "digest", "()J"⟩ ∈ lw_tbl := List.mem_of_getElem? (i := 787) (by decide +kernel)
theorem wl_697 : Cond.instanceMethod ⟨"DreamShares", "digest", "()J"⟩ ∈ lw_tbl := List.mem_of_getElem? (i := 788) (by decide +kernel)
theorem wl_698 : Cond.selects "DreamShares" ⟨"DreamShares", "digest", "()J"⟩ ⟨"DreamShares", "digest", "()J"⟩ ∈ lw_tbl := List.mem_of_getElem? (i := 789) (by decide +kernel)
set_option maxRecDepth 20000 in
theorem wl_699 : Cond.code yX8_digest cX8_digest 4 (some .long) ∈ lw_tbl := List.mem_of_getElem? (i := 790) rfl
theorem wl_831 : Cond.methodLink "DreamSharesLaw" 17 ⟨"DreamSharesModel", "type", "(II)I"⟩ ∈ lw_tbl := List.mem_of_getElem? (i := 922) (by decide +kernel)
theorem wl_832 : Cond.instanceMethod ⟨"DreamSharesModel", "type", "(II)I"⟩ ∈ lw_tbl := List.mem_of_getElem? (i := 923) (by decide +kernel)
theorem wl_833 : Cond.selects "DreamSharesModel" ⟨"DreamSharesModel", "type", "(II)I"⟩ ⟨"DreamSharesModel", "type", "(II)I"⟩ ∈ lw_tbl := List.mem_of_getElem? (i := 924) (by decide +kernel)
set_option maxRecDepth 20000 in
theorem wl_834 : Cond.code yX9_type cX9_type 3 (some .int) ∈ lw_tbl := List.mem_of_getElem? (i := 925) rfl
theorem wl_841 : Cond.methodLink "DreamSharesLaw" 22 ⟨"DreamSharesModel", "wipe", "(I)I"⟩ ∈ lw_tbl := List.mem_of_getElem? (i := 932) (by decide +kernel)
theorem wl_842 : Cond.instanceMethod ⟨"DreamSharesModel", "wipe", "(I)I"⟩ ∈ lw_tbl := List.mem_of_getElem? (i := 933) (by decide +kernel)
theorem wl_843 : Cond.selects "DreamSharesModel" ⟨"DreamSharesModel", "wipe", "(I)I"⟩ ⟨"DreamSharesModel", "wipe", "(I)I"⟩ ∈ lw_tbl := List.mem_of_getElem? (i := 934) (by decide +kernel)
set_option maxRecDepth 20000 in
theorem wl_844 : Cond.code yX9_wipe cX9_wipe 3 (some .int) ∈ lw_tbl := List.mem_of_getElem? (i := 935) rfl
theorem wl_845 : Cond.methodLink "DreamSharesLaw" 26 ⟨"DreamSharesModel", "undo", "(I)I"⟩ ∈ lw_tbl := List.mem_of_getElem? (i := 936) (by decide +kernel)
theorem wl_846 : Cond.instanceMethod ⟨"DreamSharesModel", "undo", "(I)I"⟩ ∈ lw_tbl := List.mem_of_getElem? (i := 937) (by decide +kernel)
theorem wl_847 : Cond.selects "DreamSharesModel" ⟨"DreamSharesModel", "undo", "(I)I"⟩ ⟨"DreamSharesModel", "undo", "(I)I"⟩ ∈ lw_tbl := List.mem_of_getElem? (i := 938) (by decide +kernel)
set_option maxRecDepth 20000 in
theorem wl_848 : Cond.code yX9_undo cX9_undo 2 (some .int) ∈ lw_tbl := List.mem_of_getElem? (i := 939) rfl
theorem wl_849 : Cond.methodLink "DreamSharesLaw" 30 ⟨"DreamSharesModel", "fault", "(I)I"⟩ ∈ lw_tbl := List.mem_of_getElem? (i := 940) (by decide +kernel)
theorem wl_850 : Cond.instanceMethod ⟨"DreamSharesModel", "fault", "(I)I"⟩ ∈ lw_tbl := List.mem_of_getElem? (i := 941) (by decide +kernel)
theorem wl_851 : Cond.selects "DreamSharesModel" ⟨"DreamSharesModel", "fault", "(I)I"⟩ ⟨"DreamSharesModel", "fault", "(I)I"⟩ ∈ lw_tbl := List.mem_of_getElem? (i := 942) (by decide +kernel)
set_option maxRecDepth 20000 in
theorem wl_852 : Cond.code yX9_fault cX9_fault 2 (some .int) ∈ lw_tbl := List.mem_of_getElem? (i := 943) rfl
theorem wl_881 : Cond.methodLink "DreamSharesLaw" 34 ⟨"DreamSharesModel", "member", "(II)I"⟩ ∈ lw_tbl := List.mem_of_getElem? (i := 972) (by decide +kernel)
theorem wl_882 : Cond.instanceMethod ⟨"DreamSharesModel", "member", "(II)I"⟩ ∈ lw_tbl := List.mem_of_getElem? (i := 973) (by decide +kernel)
theorem wl_883 : Cond.selects "DreamSharesModel" ⟨"DreamSharesModel", "member", "(II)I"⟩ ⟨"DreamSharesModel", "member", "(II)I"⟩ ∈ lw_tbl := List.mem_of_getElem? (i := 974) (by decide +kernel)
set_option maxRecDepth 20000 in
theorem wl_884 : Cond.code yX9_member cX9_member 3 (some .int) ∈ lw_tbl := List.mem_of_getElem? (i := 975) rfl
theorem wl_893 : Cond.methodLink "DreamSharesLaw" 38 ⟨"DreamSharesModel", "recipe", "(II)I"⟩ ∈ lw_tbl := List.mem_of_getElem? (i := 984) (by decide +kernel)
theorem wl_894 : Cond.instanceMethod ⟨"DreamSharesModel", "recipe", "(II)I"⟩ ∈ lw_tbl := List.mem_of_getElem? (i := 985) (by decide +kernel)
theorem wl_895 : Cond.selects "DreamSharesModel" ⟨"DreamSharesModel", "recipe", "(II)I"⟩ ⟨"DreamSharesModel", "recipe", "(II)I"⟩ ∈ lw_tbl := List.mem_of_getElem? (i := 986) (by decide +kernel)
set_option maxRecDepth 20000 in
theorem wl_896 : Cond.code yX9_recipe cX9_recipe 3 (some .int) ∈ lw_tbl := List.mem_of_getElem? (i := 987) rfl
theorem wl_905 : Cond.methodLink "DreamSharesLaw" 42 ⟨"DreamSharesModel", "supper", "(II)I"⟩ ∈ lw_tbl := List.mem_of_getElem? (i := 996) (by decide +kernel)
theorem wl_906 : Cond.instanceMethod ⟨"DreamSharesModel", "supper", "(II)I"⟩ ∈ lw_tbl := List.mem_of_getElem? (i := 997) (by decide +kernel)
theorem wl_907 : Cond.selects "DreamSharesModel" ⟨"DreamSharesModel", "supper", "(II)I"⟩ ⟨"DreamSharesModel", "supper", "(II)I"⟩ ∈ lw_tbl := List.mem_of_getElem? (i := 998) (by decide +kernel)
set_option maxRecDepth 20000 in
theorem wl_908 : Cond.code yX9_supper cX9_supper 4 (some .int) ∈ lw_tbl := List.mem_of_getElem? (i := 999) rfl
theorem wl_912 : Cond.methodLink "DreamSharesLaw" 46 ⟨"DreamSharesModel", "set", "(II)I"⟩ ∈ lw_tbl := List.mem_of_getElem? (i := 1003) (by decide +kernel)
theorem wl_913 : Cond.instanceMethod ⟨"DreamSharesModel", "set", "(II)I"⟩ ∈ lw_tbl := List.mem_of_getElem? (i := 1004) (by decide +kernel)
theorem wl_914 : Cond.selects "DreamSharesModel" ⟨"DreamSharesModel", "set", "(II)I"⟩ ⟨"DreamSharesModel", "set", "(II)I"⟩ ∈ lw_tbl := List.mem_of_getElem? (i := 1005) (by decide +kernel)
set_option maxRecDepth 20000 in
theorem wl_915 : Cond.code yX9_set cX9_set 4 (some .int) ∈ lw_tbl := List.mem_of_getElem? (i := 1006) rfl
theorem wl_916 : Cond.methodLink "DreamSharesLaw" 50 ⟨"DreamSharesModel", "pay", "(II)I"⟩ ∈ lw_tbl := List.mem_of_getElem? (i := 1007) (by decide +kernel)
theorem wl_917 : Cond.instanceMethod ⟨"DreamSharesModel", "pay", "(II)I"⟩ ∈ lw_tbl := List.mem_of_getElem? (i := 1008) (by decide +kernel)
theorem wl_918 : Cond.selects "DreamSharesModel" ⟨"DreamSharesModel", "pay", "(II)I"⟩ ⟨"DreamSharesModel", "pay", "(II)I"⟩ ∈ lw_tbl := List.mem_of_getElem? (i := 1009) (by decide +kernel)
set_option maxRecDepth 20000 in
theorem wl_919 : Cond.code yX9_pay cX9_pay 4 (some .int) ∈ lw_tbl := List.mem_of_getElem? (i := 1010) rfl
theorem wl_920 : Cond.methodLink "DreamSharesLaw" 54 ⟨"DreamSharesModel", "dreamt", "(II)I"⟩ ∈ lw_tbl := List.mem_of_getElem? (i := 1011) (by decide +kernel)
theorem wl_921 : Cond.instanceMethod ⟨"DreamSharesModel", "dreamt", "(II)I"⟩ ∈ lw_tbl := List.mem_of_getElem? (i := 1012) (by decide +kernel)
theorem wl_922 : Cond.selects "DreamSharesModel" ⟨"DreamSharesModel", "dreamt", "(II)I"⟩ ⟨"DreamSharesModel", "dreamt", "(II)I"⟩ ∈ lw_tbl := List.mem_of_getElem? (i := 1013) (by decide +kernel)
set_option maxRecDepth 20000 in
theorem wl_923 : Cond.code yX9_dreamt cX9_dreamt 4 (some .int) ∈ lw_tbl := List.mem_of_getElem? (i := 1014) rfl
theorem wl_924 : Cond.methodLink "DreamSharesLaw" 58 ⟨"DreamSharesModel", "read", "(I)I"⟩ ∈ lw_tbl := List.mem_of_getElem? (i := 1015) (by decide +kernel)
theorem wl_925 : Cond.instanceMethod ⟨"DreamSharesModel", "read", "(I)I"⟩ ∈ lw_tbl := List.mem_of_getElem? (i := 1016) (by decide +kernel)
theorem wl_926 : Cond.selects "DreamSharesModel" ⟨"DreamSharesModel", "read", "(I)I"⟩ ⟨"DreamSharesModel", "read", "(I)I"⟩ ∈ lw_tbl := List.mem_of_getElem? (i := 1017) (by decide +kernel)
set_option maxRecDepth 20000 in
theorem wl_927 : Cond.code yX9_read cX9_read 3 (some .int) ∈ lw_tbl := List.mem_of_getElem? (i := 1018) rfl
theorem wl_935 : Cond.methodLink "DreamSharesLaw" 68 ⟨"DreamSharesModel", "worth", "(IIII)I"⟩ ∈ lw_tbl := List.mem_of_getElem? (i := 1026) (by decide +kernel)
theorem wl_936 : Cond.instanceMethod ⟨"DreamSharesModel", "worth", "(IIII)I"⟩ ∈ lw_tbl := List.mem_of_getElem? (i := 1027) (by decide +kernel)
theorem wl_937 : Cond.selects "DreamSharesModel" ⟨"DreamSharesModel", "worth", "(IIII)I"⟩ ⟨"DreamSharesModel", "worth", "(IIII)I"⟩ ∈ lw_tbl := List.mem_of_getElem? (i := 1028) (by decide +kernel)
set_option maxRecDepth 20000 in
theorem wl_938 : Cond.code yX9_worth cX9_worth 5 (some .int) ∈ lw_tbl := List.mem_of_getElem? (i := 1029) rfl
theorem wl_967 : Cond.methodLink "DreamSharesLaw" 73 ⟨"DreamSharesModel", "made", "(IIIII)I"⟩ ∈ lw_tbl := List.mem_of_getElem? (i := 1058) (by decide +kernel)
theorem wl_968 : Cond.instanceMethod ⟨"DreamSharesModel", "made", "(IIIII)I"⟩ ∈ lw_tbl := List.mem_of_getElem? (i := 1059) (by decide +kernel)
theorem wl_969 : Cond.selects "DreamSharesModel" ⟨"DreamSharesModel", "made", "(IIIII)I"⟩ ⟨"DreamSharesModel", "made", "(IIIII)I"⟩ ∈ lw_tbl := List.mem_of_getElem? (i := 1060) (by decide +kernel)
set_option maxRecDepth 20000 in
theorem wl_970 : Cond.code yX9_made cX9_made 7 (some .int) ∈ lw_tbl := List.mem_of_getElem? (i := 1061) rfl
theorem wl_975 : Cond.methodLink "DreamSharesLaw" 63 ⟨"DreamSharesModel", "chance", "(III)J"⟩ ∈ lw_tbl := List.mem_of_getElem? (i := 1066) (by decide +kernel)
theorem wl_994 : Cond.methodLink "DreamSharesLaw" 78 ⟨"DreamSharesModel", "mean", "(II)J"⟩ ∈ lw_tbl := List.mem_of_getElem? (i := 1085) (by decide +kernel)
theorem wl_995 : Cond.instanceMethod ⟨"DreamSharesModel", "mean", "(II)J"⟩ ∈ lw_tbl := List.mem_of_getElem? (i := 1086) (by decide +kernel)
theorem wl_996 : Cond.selects "DreamSharesModel" ⟨"DreamSharesModel", "mean", "(II)J"⟩ ⟨"DreamSharesModel", "mean", "(II)J"⟩ ∈ lw_tbl := List.mem_of_getElem? (i := 1087) (by decide +kernel)
set_option maxRecDepth 20000 in
theorem wl_997 : Cond.code yX9_mean cX9_mean 3 (some .long) ∈ lw_tbl := List.mem_of_getElem? (i := 1088) rfl
theorem wl_1017 : Cond.methodLink "DreamSharesLaw" 82 ⟨"DreamSharesModel", "share", "(II)J"⟩ ∈ lw_tbl := List.mem_of_getElem? (i := 1108) (by decide +kernel)
theorem wl_1018 : Cond.instanceMethod ⟨"DreamSharesModel", "share", "(II)J"⟩ ∈ lw_tbl := List.mem_of_getElem? (i := 1109) (by decide +kernel)
theorem wl_1019 : Cond.selects "DreamSharesModel" ⟨"DreamSharesModel", "share", "(II)J"⟩ ⟨"DreamSharesModel", "share", "(II)J"⟩ ∈ lw_tbl := List.mem_of_getElem? (i := 1110) (by decide +kernel)
set_option maxRecDepth 20000 in
theorem wl_1020 : Cond.code yX9_share cX9_share 3 (some .long) ∈ lw_tbl := List.mem_of_getElem? (i := 1111) rfl
theorem wl_1035 : Cond.methodLink "DreamSharesLaw" 87 ⟨"DreamSharesModel", "leave", "()I"⟩ ∈ lw_tbl := List.mem_of_getElem? (i := 1126) (by decide +kernel)
theorem wl_1036 : Cond.instanceMethod ⟨"DreamSharesModel", "leave", "()I"⟩ ∈ lw_tbl := List.mem_of_getElem? (i := 1127) (by decide +kernel)
theorem wl_1037 : Cond.selects "DreamSharesModel" ⟨"DreamSharesModel", "leave", "()I"⟩ ⟨"DreamSharesModel", "leave", "()I"⟩ ∈ lw_tbl := List.mem_of_getElem? (i := 1128) (by decide +kernel)
set_option maxRecDepth 20000 in
theorem wl_1038 : Cond.code yX9_leave cX9_leave 1 (some .int) ∈ lw_tbl := List.mem_of_getElem? (i := 1129) rfl
theorem wl_1043 : Cond.methodLink "DreamSharesLaw" 91 ⟨"DreamSharesModel", "strike", "(II)J"⟩ ∈ lw_tbl := List.mem_of_getElem? (i := 1134) (by decide +kernel)
theorem wl_1044 : Cond.instanceMethod ⟨"DreamSharesModel", "strike", "(II)J"⟩ ∈ lw_tbl := List.mem_of_getElem? (i := 1135) (by decide +kernel)
theorem wl_1045 : Cond.selects "DreamSharesModel" ⟨"DreamSharesModel", "strike", "(II)J"⟩ ⟨"DreamSharesModel", "strike", "(II)J"⟩ ∈ lw_tbl := List.mem_of_getElem? (i := 1136) (by decide +kernel)
set_option maxRecDepth 20000 in
theorem wl_1046 : Cond.code yX9_strike cX9_strike 3 (some .long) ∈ lw_tbl := List.mem_of_getElem? (i := 1137) rfl
theorem wl_1051 : Cond.methodLink "DreamSharesLaw" 95 ⟨"DreamSharesModel", "best", "(I)I"⟩ ∈ lw_tbl := List.mem_of_getElem? (i := 1142) (by decide +kernel)
theorem wl_1052 : Cond.instanceMethod ⟨"DreamSharesModel", "best", "(I)I"⟩ ∈ lw_tbl := List.mem_of_getElem? (i := 1143) (by decide +kernel)
theorem wl_1053 : Cond.selects "DreamSharesModel" ⟨"DreamSharesModel", "best", "(I)I"⟩ ⟨"DreamSharesModel", "best", "(I)I"⟩ ∈ lw_tbl := List.mem_of_getElem? (i := 1144) (by decide +kernel)
set_option maxRecDepth 20000 in
theorem wl_1054 : Cond.code yX9_best cX9_best 2 (some .int) ∈ lw_tbl := List.mem_of_getElem? (i := 1145) rfl
theorem wl_1059 : Cond.methodLink "DreamSharesLaw" 99 ⟨"DreamSharesModel", "menu", "(II)I"⟩ ∈ lw_tbl := List.mem_of_getElem? (i := 1150) (by decide +kernel)
theorem wl_1075 : Cond.methodLink "DreamSharesLaw" 103 ⟨"DreamSharesModel", "menuMean", "(II)J"⟩ ∈ lw_tbl := List.mem_of_getElem? (i := 1166) (by decide +kernel)
theorem wl_1083 : Cond.methodLink "DreamSharesLaw" 107 ⟨"DreamSharesModel", "dread", "(II)J"⟩ ∈ lw_tbl := List.mem_of_getElem? (i := 1174) (by decide +kernel)
theorem wl_1084 : Cond.instanceMethod ⟨"DreamSharesModel", "dread", "(II)J"⟩ ∈ lw_tbl := List.mem_of_getElem? (i := 1175) (by decide +kernel)
theorem wl_1085 : Cond.selects "DreamSharesModel" ⟨"DreamSharesModel", "dread", "(II)J"⟩ ⟨"DreamSharesModel", "dread", "(II)J"⟩ ∈ lw_tbl := List.mem_of_getElem? (i := 1176) (by decide +kernel)
set_option maxRecDepth 20000 in
theorem wl_1086 : Cond.code yX9_dread cX9_dread 3 (some .long) ∈ lw_tbl := List.mem_of_getElem? (i := 1177) rfl
theorem wl_1091 : Cond.methodLink "DreamSharesLaw" 111 ⟨"DreamSharesModel", "rows", "(IIII)I"⟩ ∈ lw_tbl := List.mem_of_getElem? (i := 1182) (by decide +kernel)
theorem wl_1092 : Cond.instanceMethod ⟨"DreamSharesModel", "rows", "(IIII)I"⟩ ∈ lw_tbl := List.mem_of_getElem? (i := 1183) (by decide +kernel)
theorem wl_1093 : Cond.selects "DreamSharesModel" ⟨"DreamSharesModel", "rows", "(IIII)I"⟩ ⟨"DreamSharesModel", "rows", "(IIII)I"⟩ ∈ lw_tbl := List.mem_of_getElem? (i := 1184) (by decide +kernel)
set_option maxRecDepth 20000 in
theorem wl_1094 : Cond.code yX9_rows cX9_rows 5 (some .int) ∈ lw_tbl := List.mem_of_getElem? (i := 1185) rfl
theorem wl_1103 : Cond.methodLink "DreamSharesLaw" 115 ⟨"DreamSharesModel", "may", "(IIIII)I"⟩ ∈ lw_tbl := List.mem_of_getElem? (i := 1194) (by decide +kernel)
theorem wl_1104 : Cond.instanceMethod ⟨"DreamSharesModel", "may", "(IIIII)I"⟩ ∈ lw_tbl := List.mem_of_getElem? (i := 1195) (by decide +kernel)
theorem wl_1105 : Cond.selects "DreamSharesModel" ⟨"DreamSharesModel", "may", "(IIIII)I"⟩ ⟨"DreamSharesModel", "may", "(IIIII)I"⟩ ∈ lw_tbl := List.mem_of_getElem? (i := 1196) (by decide +kernel)
set_option maxRecDepth 20000 in
theorem wl_1106 : Cond.code yX9_may cX9_may 6 (some .int) ∈ lw_tbl := List.mem_of_getElem? (i := 1197) rfl
theorem wl_1111 : Cond.methodLink "DreamSharesLaw" 119 ⟨"DreamSharesModel", "likeliest", "(IIIII)I"⟩ ∈ lw_tbl := List.mem_of_getElem? (i := 1202) (by decide +kernel)
theorem wl_1112 : Cond.instanceMethod ⟨"DreamSharesModel", "likeliest", "(IIIII)I"⟩ ∈ lw_tbl := List.mem_of_getElem? (i := 1203) (by decide +kernel)
theorem wl_1113 : Cond.selects "DreamSharesModel" ⟨"DreamSharesModel", "likeliest", "(IIIII)I"⟩ ⟨"DreamSharesModel", "likeliest", "(IIIII)I"⟩ ∈ lw_tbl := List.mem_of_getElem? (i := 1204) (by decide +kernel)
set_option maxRecDepth 20000 in
theorem wl_1114 : Cond.code yX9_likeliest cX9_likeliest 6 (some .int) ∈ lw_tbl := List.mem_of_getElem? (i := 1205) rfl
theorem wl_1119 : Cond.methodLink "DreamSharesLaw" 123 ⟨"DreamSharesModel", "kept", "(IIII)I"⟩ ∈ lw_tbl := List.mem_of_getElem? (i := 1210) (by decide +kernel)
theorem wl_1120 : Cond.instanceMethod ⟨"DreamSharesModel", "kept", "(IIII)I"⟩ ∈ lw_tbl := List.mem_of_getElem? (i := 1211) (by decide +kernel)
theorem wl_1121 : Cond.selects "DreamSharesModel" ⟨"DreamSharesModel", "kept", "(IIII)I"⟩ ⟨"DreamSharesModel", "kept", "(IIII)I"⟩ ∈ lw_tbl := List.mem_of_getElem? (i := 1212) (by decide +kernel)
set_option maxRecDepth 20000 in
theorem wl_1122 : Cond.code yX9_kept cX9_kept 5 (some .int) ∈ lw_tbl := List.mem_of_getElem? (i := 1213) rfl
theorem wl_1127 : Cond.methodLink "DreamSharesLaw" 128 ⟨"DreamSharesModel", "week", "(III)I"⟩ ∈ lw_tbl := List.mem_of_getElem? (i := 1218) (by decide +kernel)
theorem wl_1128 : Cond.instanceMethod ⟨"DreamSharesModel", "week", "(III)I"⟩ ∈ lw_tbl := List.mem_of_getElem? (i := 1219) (by decide +kernel)
theorem wl_1129 : Cond.selects "DreamSharesModel" ⟨"DreamSharesModel", "week", "(III)I"⟩ ⟨"DreamSharesModel", "week", "(III)I"⟩ ∈ lw_tbl := List.mem_of_getElem? (i := 1220) (by decide +kernel)
set_option maxRecDepth 20000 in
theorem wl_1130 : Cond.code yX9_week cX9_week 4 (some .int) ∈ lw_tbl := List.mem_of_getElem? (i := 1221) rfl
theorem wl_1140 : Cond.methodLink "DreamSharesLaw" 132 ⟨"DreamSharesModel", "sheet", "(III)I"⟩ ∈ lw_tbl := List.mem_of_getElem? (i := 1231) (by decide +kernel)
theorem wl_1141 : Cond.instanceMethod ⟨"DreamSharesModel", "sheet", "(III)I"⟩ ∈ lw_tbl := List.mem_of_getElem? (i := 1232) (by decide +kernel)
theorem wl_1142 : Cond.selects "DreamSharesModel" ⟨"DreamSharesModel", "sheet", "(III)I"⟩ ⟨"DreamSharesModel", "sheet", "(III)I"⟩ ∈ lw_tbl := List.mem_of_getElem? (i := 1233) (by decide +kernel)
set_option maxRecDepth 20000 in
theorem wl_1143 : Cond.code yX9_sheet cX9_sheet 5 (some .int) ∈ lw_tbl := List.mem_of_getElem? (i := 1234) rfl
theorem wl_1144 : Cond.methodLink "DreamSharesLaw" 136 ⟨"DreamSharesModel", "lose", "(I)I"⟩ ∈ lw_tbl := List.mem_of_getElem? (i := 1235) (by decide +kernel)
theorem wl_1145 : Cond.instanceMethod ⟨"DreamSharesModel", "lose", "(I)I"⟩ ∈ lw_tbl := List.mem_of_getElem? (i := 1236) (by decide +kernel)
theorem wl_1146 : Cond.selects "DreamSharesModel" ⟨"DreamSharesModel", "lose", "(I)I"⟩ ⟨"DreamSharesModel", "lose", "(I)I"⟩ ∈ lw_tbl := List.mem_of_getElem? (i := 1237) (by decide +kernel)
set_option maxRecDepth 20000 in
theorem wl_1147 : Cond.code yX9_lose cX9_lose 2 (some .int) ∈ lw_tbl := List.mem_of_getElem? (i := 1238) rfl
theorem wl_1148 : Cond.methodLink "DreamSharesLaw" 140 ⟨"DreamSharesModel", "put", "(IIII)I"⟩ ∈ lw_tbl := List.mem_of_getElem? (i := 1239) (by decide +kernel)
theorem wl_1149 : Cond.instanceMethod ⟨"DreamSharesModel", "put", "(IIII)I"⟩ ∈ lw_tbl := List.mem_of_getElem? (i := 1240) (by decide +kernel)
theorem wl_1150 : Cond.selects "DreamSharesModel" ⟨"DreamSharesModel", "put", "(IIII)I"⟩ ⟨"DreamSharesModel", "put", "(IIII)I"⟩ ∈ lw_tbl := List.mem_of_getElem? (i := 1241) (by decide +kernel)
set_option maxRecDepth 20000 in
theorem wl_1151 : Cond.code yX9_put cX9_put 6 (some .int) ∈ lw_tbl := List.mem_of_getElem? (i := 1242) rfl
theorem wl_1160 : Cond.methodLink "DreamSharesLaw" 144 ⟨"DreamSharesModel", "get", "(III)I"⟩ ∈ lw_tbl := List.mem_of_getElem? (i := 1251) (by decide +kernel)
theorem wl_1161 : Cond.instanceMethod ⟨"DreamSharesModel", "get", "(III)I"⟩ ∈ lw_tbl := List.mem_of_getElem? (i := 1252) (by decide +kernel)
theorem wl_1162 : Cond.selects "DreamSharesModel" ⟨"DreamSharesModel", "get", "(III)I"⟩ ⟨"DreamSharesModel", "get", "(III)I"⟩ ∈ lw_tbl := List.mem_of_getElem? (i := 1253) (by decide +kernel)
set_option maxRecDepth 20000 in
theorem wl_1163 : Cond.code yX9_get cX9_get 5 (some .int) ∈ lw_tbl := List.mem_of_getElem? (i := 1254) rfl
theorem wl_1165 : Cond.methodLink "DreamSharesLaw" 148 ⟨"DreamSharesModel", "copy", "(IIIII)I"⟩ ∈ lw_tbl := List.mem_of_getElem? (i := 1256) (by decide +kernel)
theorem wl_1166 : Cond.instanceMethod ⟨"DreamSharesModel", "copy", "(IIIII)I"⟩ ∈ lw_tbl := List.mem_of_getElem? (i := 1257) (by decide +kernel)
theorem wl_1167 : Cond.selects "DreamSharesModel" ⟨"DreamSharesModel", "copy", "(IIIII)I"⟩ ⟨"DreamSharesModel", "copy", "(IIIII)I"⟩ ∈ lw_tbl := List.mem_of_getElem? (i := 1258) (by decide +kernel)
set_option maxRecDepth 20000 in
theorem wl_1168 : Cond.code yX9_copy cX9_copy 7 (some .int) ∈ lw_tbl := List.mem_of_getElem? (i := 1259) rfl
theorem wl_1169 : Cond.methodLink "DreamSharesLaw" 152 ⟨"DreamSharesModel", "write", "(II)I"⟩ ∈ lw_tbl := List.mem_of_getElem? (i := 1260) (by decide +kernel)
theorem wl_1170 : Cond.instanceMethod ⟨"DreamSharesModel", "write", "(II)I"⟩ ∈ lw_tbl := List.mem_of_getElem? (i := 1261) (by decide +kernel)
theorem wl_1171 : Cond.selects "DreamSharesModel" ⟨"DreamSharesModel", "write", "(II)I"⟩ ⟨"DreamSharesModel", "write", "(II)I"⟩ ∈ lw_tbl := List.mem_of_getElem? (i := 1262) (by decide +kernel)
set_option maxRecDepth 20000 in
theorem wl_1172 : Cond.code yX9_write cX9_write 4 (some .int) ∈ lw_tbl := List.mem_of_getElem? (i := 1263) rfl
theorem wl_1173 : Cond.methodLink "DreamSharesLaw" 156 ⟨"DreamSharesModel", "count", "(I)I"⟩ ∈ lw_tbl := List.mem_of_getElem? (i := 1264) (by decide +kernel)
theorem wl_1181 : Cond.methodLink "DreamSharesLaw" 161 ⟨"DreamSharesModel", "digest", "()J"⟩ ∈ lw_tbl := List.mem_of_getElem? (i := 1272) (by decide +kernel)
theorem wl_1182 : Cond.instanceMethod ⟨"DreamSharesModel", "digest", "()J"⟩ ∈ lw_tbl := List.mem_of_getElem? (i := 1273) (by decide +kernel)
theorem wl_1183 : Cond.selects "DreamSharesModel" ⟨"DreamSharesModel", "digest", "()J"⟩ ⟨"DreamSharesModel", "digest", "()J"⟩ ∈ lw_tbl := List.mem_of_getElem? (i := 1274) (by decide +kernel)
set_option maxRecDepth 20000 in
theorem wl_1184 : Cond.code yX9_digest cX9_digest 5 (some .long) ∈ lw_tbl := List.mem_of_getElem? (i := 1275) rfl
def ML : MD := (yL_law, code, 4, some .boolean, 11)
def XS (L : Nat) (xs : Nat → Int32) : Ev → (Nat → Prop) → State → Prop := fun E A s => va_X (ea E 62) L xs s s.heap ∧ ea E 62 < s.heap.size ∧ ¬ A (ea E 62)
def LSj (j : Nat) : List (Nat × Value) := [(3, .int (nI j)), (2, .ref 35), (1, .ref 0), (0, .ref 62)]
theorem Snd.use {M : MD} {X : Ev → (Nat → Prop) → State → Prop} {pc : Nat} {i : Ins} (h : Snd M X pc i) {K : Kr} {ls : List (Nat × Value)} {st : List Value} {σ : St} (hh : i (VW M X K) K pc ls st σ) : VW M X K pc ls st σ := h (VW M X K) K (fun _ _ _ _ h => h) ls st σ hh
theorem lcmp_self (v : Int64) : lg_cmp v v = 0 := by
  unfold lg_cmp
  rw [if_neg (show ¬ v > v from Int64.lt_irrefl), if_pos rfl]
section
variable {L : Nat} {xs : Nat → Int32} {K : Kr} {j : Nat} {pc : Nat} {st : List Value} {σ : St}
theorem lw_o {i a : Nat} {k : Fin 4} (hd : decode code pc = .ok (.aload_n k, 1)) (hi : (k : Nat) = i) (hk : lk i (LSj j) = some (.ref a)) (h : VW ML (XS L xs) K (pc + 1) (LSj j) (.ref a :: st) σ) : VW ML (XS L xs) K pc (LSj j) st σ := by
  refine Snd.use (snd_aload_n (M := ML) (k := k) (i := i) hd hi) ?_
  unfold i_ald
  rw [hk]
  exact h
theorem lw_sld {i : Int32} (hd : decode code pc = .ok (.iaload, 1)) (hi : vp_in i L) (h : VW ML (XS L xs) K (pc + 1) (LSj j) (.int (xs i.toNatClampNeg) :: st) σ) : VW ML (XS L xs) K pc (LSj j) (.int i :: .ref 62 :: st) σ := by
  intro l E p e R s m args below meth c A cs sl Q C H locs lv hP hS hl
  have X0 := C.2.2.2.2.2.2.2.2.2.2
  exact va_sld C.1 C.2.1 X0.1 X0.2.1 X0.2.2 hS hi hd (h l E p e R s m args below meth c A cs sl Q C H locs lv hP hS hl)
theorem lw_slen (hd : decode code pc = .ok (.arraylength, 1)) (h : VW ML (XS L xs) K (pc + 1) (LSj j) (.int (nI L) :: st) σ) : VW ML (XS L xs) K pc (LSj j) (.ref 62 :: st) σ := by
  intro l E p e R s m args below meth c A cs sl Q C H locs lv hP hS hl
  have X0 := C.2.2.2.2.2.2.2.2.2.2
  exact va_slen C.1 C.2.1 X0.1 X0.2.1 X0.2.2 hS hd (h l E p e R s m args below meth c A cs sl Q C H locs lv hP hS hl)
theorem lw_a {n : Int} {k : Nat} (d1 : decode code pc = .ok (.aload_n 0, 1)) (d2 : decode code (pc + 1) = .ok (.iload_n 3, 1)) (d3 : decode code (pc + 2) = .ok (.iconst n, 1)) (d4 : decode code (pc + 3) = .ok (.iadd, 1)) (d5 : decode code (pc + 4) = .ok (.iaload, 1)) (hn : Int32.ofInt n = nI k) (hjk : j + k < L) (hL : L < 2 ^ 31) (h : VW ML (XS L xs) K (pc + 5) (LSj j) (.int (xs (j + k)) :: st) σ) : VW ML (XS L xs) K pc (LSj j) st σ := by
  refine lw_o (i := 0) (k := 0) (a := 62) d1 rfl rfl ?_
  refine Snd.use (snd_iload_n (M := ML) (k := 3) (i := 3) d2 rfl) ?_
  refine (show VW ML (XS L xs) K (pc + 2) (LSj j) (.int (nI j) :: .ref 62 :: st) σ from ?_)
  refine Snd.use (snd_iconst (M := ML) d3 hn) ?_
  refine (show VW ML (XS L xs) K (pc + 3) (LSj j) (.int (nI k) :: .int (nI j) :: .ref 62 :: st) σ from ?_)
  refine Snd.use (snd_iadd (M := ML) d4) ?_
  refine (show VW ML (XS L xs) K (pc + 4) (LSj j) (.int (nI j + nI k) :: .ref 62 :: st) σ from ?_)
  rw [nI_add]
  refine lw_sld d5 (vp_in_nI hjk hL) ?_
  rw [nI_clamp (by omega)]
  exact h
theorem lc_0 (hI : Inv σ) (hj : j + 6 ≤ L) (hL : L ≤ 3072) (h : ∀ σ', Inv σ' → VW ML (XS L xs) K 1480 (LSj j) [] σ') : VW ML (XS L xs) K 188 (LSj j) [] σ := by
  refine lw_o (i := 1) (k := 1) (a := 0) (by decide +kernel) rfl rfl ?_
  refine lw_a (k := 1) (n := 1) (by decide +kernel) (by decide +kernel) (by decide +kernel) (by decide +kernel) (by decide +kernel) (by decide +kernel) (by omega) (by omega) ?_
  refine lw_a (k := 2) (n := 2) (by decide +kernel) (by decide +kernel) (by decide +kernel) (by decide +kernel) (by decide +kernel) (by decide +kernel) (by omega) (by omega) ?_
  refine Snd.use (snd_invV (M' := M8_type) (ci := 8) (n := 2) (T := TX8) (by decide +kernel) wl_248 wl_249 wl_250 wd_1 wl_251 rfl (by decide +kernel) (by decide +kernel) (by decide +kernel)) ?_
  refine (show oc 0 = 8 ∧ wsum [] ≤ 8 ∧ VM M8_type (.ref 0 :: [.int (xs (j + 1)), .int (xs (j + 2))]) σ (ctn (VW ML (XS L xs) K) 202 (LSj j) []) from ⟨rfl, by decide, (st_type hI).mono ?_⟩)
  rintro r σ1 ⟨v, rfl, h9⟩
  show VW ML (XS L xs) K 202 (LSj j) [.int v] σ1
  refine lw_o (i := 2) (k := 2) (a := 35) (by decide +kernel) rfl rfl ?_
  refine lw_a (k := 1) (n := 1) (by decide +kernel) (by decide +kernel) (by decide +kernel) (by decide +kernel) (by decide +kernel) (by decide +kernel) (by omega) (by omega) ?_
  refine lw_a (k := 2) (n := 2) (by decide +kernel) (by decide +kernel) (by decide +kernel) (by decide +kernel) (by decide +kernel) (by decide +kernel) (by omega) (by omega) ?_
  refine Snd.use (snd_invV (M' := M9_type) (ci := 9) (n := 2) (T := TX9) (by decide +kernel) wl_831 wl_832 wl_833 wd_10 wl_834 rfl (by decide +kernel) (by decide +kernel) (by decide +kernel)) ?_
  refine (show oc 35 = 9 ∧ wsum [.int v] ≤ 8 ∧ VM M9_type (.ref 35 :: [.int (xs (j + 1)), .int (xs (j + 2))]) σ1 (ctn (VW ML (XS L xs) K) 216 (LSj j) [.int v]) from ⟨rfl, by show 1 + 0 ≤ 8; decide, h9.mono ?_⟩)
  rintro r σ2 ⟨rfl, hI2⟩
  show VW ML (XS L xs) K 216 (LSj j) [.int v, .int v] σ2
  refine Snd.use (snd_ceq (off := 1264) (tgt := 1480) (by decide +kernel) (by decide +kernel)) ?_
  exact ⟨fun _ => h σ2 hI2, fun q => absurd rfl q⟩
theorem lc_1 (hI : Inv σ) (hj : j + 6 ≤ L) (hL : L ≤ 3072) (h : ∀ σ', Inv σ' → VW ML (XS L xs) K 1480 (LSj j) [] σ') : VW ML (XS L xs) K 221 (LSj j) [] σ := by
  refine lw_o (i := 1) (k := 1) (a := 0) (by decide +kernel) rfl rfl ?_
  refine lw_a (k := 1) (n := 1) (by decide +kernel) (by decide +kernel) (by decide +kernel) (by decide +kernel) (by decide +kernel) (by decide +kernel) (by omega) (by omega) ?_
  refine Snd.use (snd_invV (M' := M8_wipe) (ci := 8) (n := 1) (T := TX8) (by decide +kernel) wl_313 wl_314 wl_315 wd_1 wl_316 rfl (by decide +kernel) (by decide +kernel) (by decide +kernel)) ?_
  refine (show oc 0 = 8 ∧ wsum [] ≤ 8 ∧ VM M8_wipe (.ref 0 :: [.int (xs (j + 1))]) σ (ctn (VW ML (XS L xs) K) 230 (LSj j) []) from ⟨rfl, by decide, (st_wipe hI).mono ?_⟩)
  rintro r σ1 ⟨v, rfl, h9⟩
  show VW ML (XS L xs) K 230 (LSj j) [.int v] σ1
  refine lw_o (i := 2) (k := 2) (a := 35) (by decide +kernel) rfl rfl ?_
  refine lw_a (k := 1) (n := 1) (by decide +kernel) (by decide +kernel) (by decide +kernel) (by decide +kernel) (by decide +kernel) (by decide +kernel) (by omega) (by omega) ?_
  refine Snd.use (snd_invV (M' := M9_wipe) (ci := 9) (n := 1) (T := TX9) (by decide +kernel) wl_841 wl_842 wl_843 wd_10 wl_844 rfl (by decide +kernel) (by decide +kernel) (by decide +kernel)) ?_
  refine (show oc 35 = 9 ∧ wsum [.int v] ≤ 8 ∧ VM M9_wipe (.ref 35 :: [.int (xs (j + 1))]) σ1 (ctn (VW ML (XS L xs) K) 239 (LSj j) [.int v]) from ⟨rfl, by show 1 + 0 ≤ 8; decide, h9.mono ?_⟩)
  rintro r σ2 ⟨rfl, hI2⟩
  show VW ML (XS L xs) K 239 (LSj j) [.int v, .int v] σ2
  refine Snd.use (snd_ceq (off := 1241) (tgt := 1480) (by decide +kernel) (by decide +kernel)) ?_
  exact ⟨fun _ => h σ2 hI2, fun q => absurd rfl q⟩
theorem lc_2 (hI : Inv σ) (hj : j + 6 ≤ L) (hL : L ≤ 3072) (h : ∀ σ', Inv σ' → VW ML (XS L xs) K 1480 (LSj j) [] σ') : VW ML (XS L xs) K 244 (LSj j) [] σ := by
  refine lw_o (i := 1) (k := 1) (a := 0) (by decide +kernel) rfl rfl ?_
  refine lw_a (k := 1) (n := 1) (by decide +kernel) (by decide +kernel) (by decide +kernel) (by decide +kernel) (by decide +kernel) (by decide +kernel) (by omega) (by omega) ?_
  refine Snd.use (snd_invV (M' := M8_undo) (ci := 8) (n := 1) (T := TX8) (by decide +kernel) wl_317 wl_318 wl_319 wd_1 wl_320 rfl (by decide +kernel) (by decide +kernel) (by decide +kernel)) ?_
  refine (show oc 0 = 8 ∧ wsum [] ≤ 8 ∧ VM M8_undo (.ref 0 :: [.int (xs (j + 1))]) σ (ctn (VW ML (XS L xs) K) 253 (LSj j) []) from ⟨rfl, by decide, (st_undo hI).mono ?_⟩)
  rintro r σ1 ⟨v, rfl, h9⟩
  show VW ML (XS L xs) K 253 (LSj j) [.int v] σ1
  refine lw_o (i := 2) (k := 2) (a := 35) (by decide +kernel) rfl rfl ?_
  refine lw_a (k := 1) (n := 1) (by decide +kernel) (by decide +kernel) (by decide +kernel) (by decide +kernel) (by decide +kernel) (by decide +kernel) (by omega) (by omega) ?_
  refine Snd.use (snd_invV (M' := M9_undo) (ci := 9) (n := 1) (T := TX9) (by decide +kernel) wl_845 wl_846 wl_847 wd_10 wl_848 rfl (by decide +kernel) (by decide +kernel) (by decide +kernel)) ?_
  refine (show oc 35 = 9 ∧ wsum [.int v] ≤ 8 ∧ VM M9_undo (.ref 35 :: [.int (xs (j + 1))]) σ1 (ctn (VW ML (XS L xs) K) 262 (LSj j) [.int v]) from ⟨rfl, by show 1 + 0 ≤ 8; decide, h9.mono ?_⟩)
  rintro r σ2 ⟨rfl, hI2⟩
  show VW ML (XS L xs) K 262 (LSj j) [.int v, .int v] σ2
  refine Snd.use (snd_ceq (off := 1218) (tgt := 1480) (by decide +kernel) (by decide +kernel)) ?_
  exact ⟨fun _ => h σ2 hI2, fun q => absurd rfl q⟩
theorem lc_3 (hI : Inv σ) (hj : j + 6 ≤ L) (hL : L ≤ 3072) (h : ∀ σ', Inv σ' → VW ML (XS L xs) K 1480 (LSj j) [] σ') : VW ML (XS L xs) K 267 (LSj j) [] σ := by
  refine lw_o (i := 1) (k := 1) (a := 0) (by decide +kernel) rfl rfl ?_
  refine lw_a (k := 1) (n := 1) (by decide +kernel) (by decide +kernel) (by decide +kernel) (by decide +kernel) (by decide +kernel) (by decide +kernel) (by omega) (by omega) ?_
  refine Snd.use (snd_invV (M' := M8_fault) (ci := 8) (n := 1) (T := TX8) (by decide +kernel) wl_321 wd_322 wd_323 wd_1 wd_324 rfl (by decide +kernel) (by decide +kernel) (by decide +kernel)) ?_
  refine (show oc 0 = 8 ∧ wsum [] ≤ 8 ∧ VM M8_fault (.ref 0 :: [.int (xs (j + 1))]) σ (ctn (VW ML (XS L xs) K) 276 (LSj j) []) from ⟨rfl, by decide, (st_fault hI).mono ?_⟩)
  rintro r σ1 ⟨v, rfl, h9⟩
  show VW ML (XS L xs) K 276 (LSj j) [.int v] σ1
  refine lw_o (i := 2) (k := 2) (a := 35) (by decide +kernel) rfl rfl ?_
  refine lw_a (k := 1) (n := 1) (by decide +kernel) (by decide +kernel) (by decide +kernel) (by decide +kernel) (by decide +kernel) (by decide +kernel) (by omega) (by omega) ?_
  refine Snd.use (snd_invV (M' := M9_fault) (ci := 9) (n := 1) (T := TX9) (by decide +kernel) wl_849 wl_850 wl_851 wd_10 wl_852 rfl (by decide +kernel) (by decide +kernel) (by decide +kernel)) ?_
  refine (show oc 35 = 9 ∧ wsum [.int v] ≤ 8 ∧ VM M9_fault (.ref 35 :: [.int (xs (j + 1))]) σ1 (ctn (VW ML (XS L xs) K) 285 (LSj j) [.int v]) from ⟨rfl, by show 1 + 0 ≤ 8; decide, h9.mono ?_⟩)
  rintro r σ2 ⟨rfl, hI2⟩
  show VW ML (XS L xs) K 285 (LSj j) [.int v, .int v] σ2
  refine Snd.use (snd_ceq (off := 1195) (tgt := 1480) (by decide +kernel) (by decide +kernel)) ?_
  exact ⟨fun _ => h σ2 hI2, fun q => absurd rfl q⟩
theorem lc_4 (hI : Inv σ) (hj : j + 6 ≤ L) (hL : L ≤ 3072) (h : ∀ σ', Inv σ' → VW ML (XS L xs) K 1480 (LSj j) [] σ') : VW ML (XS L xs) K 290 (LSj j) [] σ := by
  refine lw_o (i := 1) (k := 1) (a := 0) (by decide +kernel) rfl rfl ?_
  refine lw_a (k := 1) (n := 1) (by decide +kernel) (by decide +kernel) (by decide +kernel) (by decide +kernel) (by decide +kernel) (by decide +kernel) (by omega) (by omega) ?_
  refine lw_a (k := 2) (n := 2) (by decide +kernel) (by decide +kernel) (by decide +kernel) (by decide +kernel) (by decide +kernel) (by decide +kernel) (by omega) (by omega) ?_
  refine Snd.use (snd_invV (M' := M8_member) (ci := 8) (n := 2) (T := TX8) (by decide +kernel) wl_325 wd_326 wd_327 wd_1 wd_328 rfl (by decide +kernel) (by decide +kernel) (by decide +kernel)) ?_
  refine (show oc 0 = 8 ∧ wsum [] ≤ 8 ∧ VM M8_member (.ref 0 :: [.int (xs (j + 1)), .int (xs (j + 2))]) σ (ctn (VW ML (XS L xs) K) 304 (LSj j) []) from ⟨rfl, by decide, (st_member hI).mono ?_⟩)
  rintro r σ1 ⟨v, rfl, h9⟩
  show VW ML (XS L xs) K 304 (LSj j) [.int v] σ1
  refine lw_o (i := 2) (k := 2) (a := 35) (by decide +kernel) rfl rfl ?_
  refine lw_a (k := 1) (n := 1) (by decide +kernel) (by decide +kernel) (by decide +kernel) (by decide +kernel) (by decide +kernel) (by decide +kernel) (by omega) (by omega) ?_
  refine lw_a (k := 2) (n := 2) (by decide +kernel) (by decide +kernel) (by decide +kernel) (by decide +kernel) (by decide +kernel) (by decide +kernel) (by omega) (by omega) ?_
  refine Snd.use (snd_invV (M' := M9_member) (ci := 9) (n := 2) (T := TX9) (by decide +kernel) wl_881 wl_882 wl_883 wd_10 wl_884 rfl (by decide +kernel) (by decide +kernel) (by decide +kernel)) ?_
  refine (show oc 35 = 9 ∧ wsum [.int v] ≤ 8 ∧ VM M9_member (.ref 35 :: [.int (xs (j + 1)), .int (xs (j + 2))]) σ1 (ctn (VW ML (XS L xs) K) 318 (LSj j) [.int v]) from ⟨rfl, by show 1 + 0 ≤ 8; decide, h9.mono ?_⟩)
  rintro r σ2 ⟨rfl, hI2⟩
  show VW ML (XS L xs) K 318 (LSj j) [.int v, .int v] σ2
  refine Snd.use (snd_ceq (off := 1162) (tgt := 1480) (by decide +kernel) (by decide +kernel)) ?_
  exact ⟨fun _ => h σ2 hI2, fun q => absurd rfl q⟩
theorem lc_5 (hI : Inv σ) (hj : j + 6 ≤ L) (hL : L ≤ 3072) (h : ∀ σ', Inv σ' → VW ML (XS L xs) K 1480 (LSj j) [] σ') : VW ML (XS L xs) K 323 (LSj j) [] σ := by
  refine lw_o (i := 1) (k := 1) (a := 0) (by decide +kernel) rfl rfl ?_
  refine lw_a (k := 1) (n := 1) (by decide +kernel) (by decide +kernel) (by decide +kernel) (by decide +kernel) (by decide +kernel) (by decide +kernel) (by omega) (by omega) ?_
  refine lw_a (k := 2) (n := 2) (by decide +kernel) (by decide +kernel) (by decide +kernel) (by decide +kernel) (by decide +kernel) (by decide +kernel) (by omega) (by omega) ?_
  refine Snd.use (snd_invV (M' := M8_recipe) (ci := 8) (n := 2) (T := TX8) (by decide +kernel) wl_336 wd_337 wd_338 wd_1 wd_339 rfl (by decide +kernel) (by decide +kernel) (by decide +kernel)) ?_
  refine (show oc 0 = 8 ∧ wsum [] ≤ 8 ∧ VM M8_recipe (.ref 0 :: [.int (xs (j + 1)), .int (xs (j + 2))]) σ (ctn (VW ML (XS L xs) K) 337 (LSj j) []) from ⟨rfl, by decide, (st_recipe hI).mono ?_⟩)
  rintro r σ1 ⟨v, rfl, h9⟩
  show VW ML (XS L xs) K 337 (LSj j) [.int v] σ1
  refine lw_o (i := 2) (k := 2) (a := 35) (by decide +kernel) rfl rfl ?_
  refine lw_a (k := 1) (n := 1) (by decide +kernel) (by decide +kernel) (by decide +kernel) (by decide +kernel) (by decide +kernel) (by decide +kernel) (by omega) (by omega) ?_
  refine lw_a (k := 2) (n := 2) (by decide +kernel) (by decide +kernel) (by decide +kernel) (by decide +kernel) (by decide +kernel) (by decide +kernel) (by omega) (by omega) ?_
  refine Snd.use (snd_invV (M' := M9_recipe) (ci := 9) (n := 2) (T := TX9) (by decide +kernel) wl_893 wl_894 wl_895 wd_10 wl_896 rfl (by decide +kernel) (by decide +kernel) (by decide +kernel)) ?_
  refine (show oc 35 = 9 ∧ wsum [.int v] ≤ 8 ∧ VM M9_recipe (.ref 35 :: [.int (xs (j + 1)), .int (xs (j + 2))]) σ1 (ctn (VW ML (XS L xs) K) 351 (LSj j) [.int v]) from ⟨rfl, by show 1 + 0 ≤ 8; decide, h9.mono ?_⟩)
  rintro r σ2 ⟨rfl, hI2⟩
  show VW ML (XS L xs) K 351 (LSj j) [.int v, .int v] σ2
  refine Snd.use (snd_ceq (off := 1129) (tgt := 1480) (by decide +kernel) (by decide +kernel)) ?_
  exact ⟨fun _ => h σ2 hI2, fun q => absurd rfl q⟩
theorem lc_6 (hI : Inv σ) (hj : j + 6 ≤ L) (hL : L ≤ 3072) (h : ∀ σ', Inv σ' → VW ML (XS L xs) K 1480 (LSj j) [] σ') : VW ML (XS L xs) K 356 (LSj j) [] σ := by
  refine lw_o (i := 1) (k := 1) (a := 0) (by decide +kernel) rfl rfl ?_
  refine lw_a (k := 1) (n := 1) (by decide +kernel) (by decide +kernel) (by decide +kernel) (by decide +kernel) (by decide +kernel) (by decide +kernel) (by omega) (by omega) ?_
  refine lw_a (k := 2) (n := 2) (by decide +kernel) (by decide +kernel) (by decide +kernel) (by decide +kernel) (by decide +kernel) (by decide +kernel) (by omega) (by omega) ?_
  refine Snd.use (snd_invV (M' := M8_supper) (ci := 8) (n := 2) (T := TX8) (by decide +kernel) wl_344 wl_345 wl_346 wd_1 wl_347 rfl (by decide +kernel) (by decide +kernel) (by decide +kernel)) ?_
  refine (show oc 0 = 8 ∧ wsum [] ≤ 8 ∧ VM M8_supper (.ref 0 :: [.int (xs (j + 1)), .int (xs (j + 2))]) σ (ctn (VW ML (XS L xs) K) 370 (LSj j) []) from ⟨rfl, by decide, (st_supper hI).mono ?_⟩)
  rintro r σ1 ⟨v, rfl, h9⟩
  show VW ML (XS L xs) K 370 (LSj j) [.int v] σ1
  refine lw_o (i := 2) (k := 2) (a := 35) (by decide +kernel) rfl rfl ?_
  refine lw_a (k := 1) (n := 1) (by decide +kernel) (by decide +kernel) (by decide +kernel) (by decide +kernel) (by decide +kernel) (by decide +kernel) (by omega) (by omega) ?_
  refine lw_a (k := 2) (n := 2) (by decide +kernel) (by decide +kernel) (by decide +kernel) (by decide +kernel) (by decide +kernel) (by decide +kernel) (by omega) (by omega) ?_
  refine Snd.use (snd_invV (M' := M9_supper) (ci := 9) (n := 2) (T := TX9) (by decide +kernel) wl_905 wl_906 wl_907 wd_10 wl_908 rfl (by decide +kernel) (by decide +kernel) (by decide +kernel)) ?_
  refine (show oc 35 = 9 ∧ wsum [.int v] ≤ 8 ∧ VM M9_supper (.ref 35 :: [.int (xs (j + 1)), .int (xs (j + 2))]) σ1 (ctn (VW ML (XS L xs) K) 384 (LSj j) [.int v]) from ⟨rfl, by show 1 + 0 ≤ 8; decide, h9.mono ?_⟩)
  rintro r σ2 ⟨rfl, hI2⟩
  show VW ML (XS L xs) K 384 (LSj j) [.int v, .int v] σ2
  refine Snd.use (snd_ceq (off := 1096) (tgt := 1480) (by decide +kernel) (by decide +kernel)) ?_
  exact ⟨fun _ => h σ2 hI2, fun q => absurd rfl q⟩
theorem lc_7 (hI : Inv σ) (hj : j + 6 ≤ L) (hL : L ≤ 3072) (h : ∀ σ', Inv σ' → VW ML (XS L xs) K 1480 (LSj j) [] σ') : VW ML (XS L xs) K 389 (LSj j) [] σ := by
  refine lw_o (i := 1) (k := 1) (a := 0) (by decide +kernel) rfl rfl ?_
  refine lw_a (k := 1) (n := 1) (by decide +kernel) (by decide +kernel) (by decide +kernel) (by decide +kernel) (by decide +kernel) (by decide +kernel) (by omega) (by omega) ?_
  refine lw_a (k := 2) (n := 2) (by decide +kernel) (by decide +kernel) (by decide +kernel) (by decide +kernel) (by decide +kernel) (by decide +kernel) (by omega) (by omega) ?_
  refine Snd.use (snd_invV (M' := M8_set) (ci := 8) (n := 2) (T := TX8) (by decide +kernel) wl_354 wl_355 wl_356 wd_1 wl_357 rfl (by decide +kernel) (by decide +kernel) (by decide +kernel)) ?_
  refine (show oc 0 = 8 ∧ wsum [] ≤ 8 ∧ VM M8_set (.ref 0 :: [.int (xs (j + 1)), .int (xs (j + 2))]) σ (ctn (VW ML (XS L xs) K) 403 (LSj j) []) from ⟨rfl, by decide, (st_set hI).mono ?_⟩)
  rintro r σ1 ⟨v, rfl, h9⟩
  show VW ML (XS L xs) K 403 (LSj j) [.int v] σ1
  refine lw_o (i := 2) (k := 2) (a := 35) (by decide +kernel) rfl rfl ?_
  refine lw_a (k := 1) (n := 1) (by decide +kernel) (by decide +kernel) (by decide +kernel) (by decide +kernel) (by decide +kernel) (by decide +kernel) (by omega) (by omega) ?_
  refine lw_a (k := 2) (n := 2) (by decide +kernel) (by decide +kernel) (by decide +kernel) (by decide +kernel) (by decide +kernel) (by decide +kernel) (by omega) (by omega) ?_
  refine Snd.use (snd_invV (M' := M9_set) (ci := 9) (n := 2) (T := TX9) (by decide +kernel) wl_912 wl_913 wl_914 wd_10 wl_915 rfl (by decide +kernel) (by decide +kernel) (by decide +kernel)) ?_
  refine (show oc 35 = 9 ∧ wsum [.int v] ≤ 8 ∧ VM M9_set (.ref 35 :: [.int (xs (j + 1)), .int (xs (j + 2))]) σ1 (ctn (VW ML (XS L xs) K) 417 (LSj j) [.int v]) from ⟨rfl, by show 1 + 0 ≤ 8; decide, h9.mono ?_⟩)
  rintro r σ2 ⟨rfl, hI2⟩
  show VW ML (XS L xs) K 417 (LSj j) [.int v, .int v] σ2
  refine Snd.use (snd_ceq (off := 1063) (tgt := 1480) (by decide +kernel) (by decide +kernel)) ?_
  exact ⟨fun _ => h σ2 hI2, fun q => absurd rfl q⟩
theorem lc_8 (hI : Inv σ) (hj : j + 6 ≤ L) (hL : L ≤ 3072) (h : ∀ σ', Inv σ' → VW ML (XS L xs) K 1480 (LSj j) [] σ') : VW ML (XS L xs) K 422 (LSj j) [] σ := by
  refine lw_o (i := 1) (k := 1) (a := 0) (by decide +kernel) rfl rfl ?_
  refine lw_a (k := 1) (n := 1) (by decide +kernel) (by decide +kernel) (by decide +kernel) (by decide +kernel) (by decide +kernel) (by decide +kernel) (by omega) (by omega) ?_
  refine lw_a (k := 2) (n := 2) (by decide +kernel) (by decide +kernel) (by decide +kernel) (by decide +kernel) (by decide +kernel) (by decide +kernel) (by omega) (by omega) ?_
  refine Snd.use (snd_invV (M' := M8_pay) (ci := 8) (n := 2) (T := TX8) (by decide +kernel) wl_358 wl_359 wl_360 wd_1 wl_361 rfl (by decide +kernel) (by decide +kernel) (by decide +kernel)) ?_
  refine (show oc 0 = 8 ∧ wsum [] ≤ 8 ∧ VM M8_pay (.ref 0 :: [.int (xs (j + 1)), .int (xs (j + 2))]) σ (ctn (VW ML (XS L xs) K) 436 (LSj j) []) from ⟨rfl, by decide, (st_pay hI).mono ?_⟩)
  rintro r σ1 ⟨v, rfl, h9⟩
  show VW ML (XS L xs) K 436 (LSj j) [.int v] σ1
  refine lw_o (i := 2) (k := 2) (a := 35) (by decide +kernel) rfl rfl ?_
  refine lw_a (k := 1) (n := 1) (by decide +kernel) (by decide +kernel) (by decide +kernel) (by decide +kernel) (by decide +kernel) (by decide +kernel) (by omega) (by omega) ?_
  refine lw_a (k := 2) (n := 2) (by decide +kernel) (by decide +kernel) (by decide +kernel) (by decide +kernel) (by decide +kernel) (by decide +kernel) (by omega) (by omega) ?_
  refine Snd.use (snd_invV (M' := M9_pay) (ci := 9) (n := 2) (T := TX9) (by decide +kernel) wl_916 wl_917 wl_918 wd_10 wl_919 rfl (by decide +kernel) (by decide +kernel) (by decide +kernel)) ?_
  refine (show oc 35 = 9 ∧ wsum [.int v] ≤ 8 ∧ VM M9_pay (.ref 35 :: [.int (xs (j + 1)), .int (xs (j + 2))]) σ1 (ctn (VW ML (XS L xs) K) 450 (LSj j) [.int v]) from ⟨rfl, by show 1 + 0 ≤ 8; decide, h9.mono ?_⟩)
  rintro r σ2 ⟨rfl, hI2⟩
  show VW ML (XS L xs) K 450 (LSj j) [.int v, .int v] σ2
  refine Snd.use (snd_ceq (off := 1030) (tgt := 1480) (by decide +kernel) (by decide +kernel)) ?_
  exact ⟨fun _ => h σ2 hI2, fun q => absurd rfl q⟩
theorem lc_9 (hI : Inv σ) (hj : j + 6 ≤ L) (hL : L ≤ 3072) (h : ∀ σ', Inv σ' → VW ML (XS L xs) K 1480 (LSj j) [] σ') : VW ML (XS L xs) K 455 (LSj j) [] σ := by
  refine lw_o (i := 1) (k := 1) (a := 0) (by decide +kernel) rfl rfl ?_
  refine lw_a (k := 1) (n := 1) (by decide +kernel) (by decide +kernel) (by decide +kernel) (by decide +kernel) (by decide +kernel) (by decide +kernel) (by omega) (by omega) ?_
  refine lw_a (k := 2) (n := 2) (by decide +kernel) (by decide +kernel) (by decide +kernel) (by decide +kernel) (by decide +kernel) (by decide +kernel) (by omega) (by omega) ?_
  refine Snd.use (snd_invV (M' := M8_dreamt) (ci := 8) (n := 2) (T := TX8) (by decide +kernel) wl_365 wl_366 wl_367 wd_1 wl_368 rfl (by decide +kernel) (by decide +kernel) (by decide +kernel)) ?_
  refine (show oc 0 = 8 ∧ wsum [] ≤ 8 ∧ VM M8_dreamt (.ref 0 :: [.int (xs (j + 1)), .int (xs (j + 2))]) σ (ctn (VW ML (XS L xs) K) 469 (LSj j) []) from ⟨rfl, by decide, (st_dreamt hI).mono ?_⟩)
  rintro r σ1 ⟨v, rfl, h9⟩
  show VW ML (XS L xs) K 469 (LSj j) [.int v] σ1
  refine lw_o (i := 2) (k := 2) (a := 35) (by decide +kernel) rfl rfl ?_
  refine lw_a (k := 1) (n := 1) (by decide +kernel) (by decide +kernel) (by decide +kernel) (by decide +kernel) (by decide +kernel) (by decide +kernel) (by omega) (by omega) ?_
  refine lw_a (k := 2) (n := 2) (by decide +kernel) (by decide +kernel) (by decide +kernel) (by decide +kernel) (by decide +kernel) (by decide +kernel) (by omega) (by omega) ?_
  refine Snd.use (snd_invV (M' := M9_dreamt) (ci := 9) (n := 2) (T := TX9) (by decide +kernel) wl_920 wl_921 wl_922 wd_10 wl_923 rfl (by decide +kernel) (by decide +kernel) (by decide +kernel)) ?_
  refine (show oc 35 = 9 ∧ wsum [.int v] ≤ 8 ∧ VM M9_dreamt (.ref 35 :: [.int (xs (j + 1)), .int (xs (j + 2))]) σ1 (ctn (VW ML (XS L xs) K) 483 (LSj j) [.int v]) from ⟨rfl, by show 1 + 0 ≤ 8; decide, h9.mono ?_⟩)
  rintro r σ2 ⟨rfl, hI2⟩
  show VW ML (XS L xs) K 483 (LSj j) [.int v, .int v] σ2
  refine Snd.use (snd_ceq (off := 997) (tgt := 1480) (by decide +kernel) (by decide +kernel)) ?_
  exact ⟨fun _ => h σ2 hI2, fun q => absurd rfl q⟩
theorem lc_10 (hI : Inv σ) (hj : j + 6 ≤ L) (hL : L ≤ 3072) (h : ∀ σ', Inv σ' → VW ML (XS L xs) K 1480 (LSj j) [] σ') : VW ML (XS L xs) K 488 (LSj j) [] σ := by
  refine lw_o (i := 1) (k := 1) (a := 0) (by decide +kernel) rfl rfl ?_
  refine lw_a (k := 1) (n := 1) (by decide +kernel) (by decide +kernel) (by decide +kernel) (by decide +kernel) (by decide +kernel) (by decide +kernel) (by omega) (by omega) ?_
  refine Snd.use (snd_invV (M' := M8_read) (ci := 8) (n := 1) (T := TX8) (by decide +kernel) wl_369 wl_370 wl_371 wd_1 wl_372 rfl (by decide +kernel) (by decide +kernel) (by decide +kernel)) ?_
  refine (show oc 0 = 8 ∧ wsum [] ≤ 8 ∧ VM M8_read (.ref 0 :: [.int (xs (j + 1))]) σ (ctn (VW ML (XS L xs) K) 497 (LSj j) []) from ⟨rfl, by decide, (st_read hI).mono ?_⟩)
  rintro r σ1 ⟨v, rfl, h9⟩
  show VW ML (XS L xs) K 497 (LSj j) [.int v] σ1
  refine lw_o (i := 2) (k := 2) (a := 35) (by decide +kernel) rfl rfl ?_
  refine lw_a (k := 1) (n := 1) (by decide +kernel) (by decide +kernel) (by decide +kernel) (by decide +kernel) (by decide +kernel) (by decide +kernel) (by omega) (by omega) ?_
  refine Snd.use (snd_invV (M' := M9_read) (ci := 9) (n := 1) (T := TX9) (by decide +kernel) wl_924 wl_925 wl_926 wd_10 wl_927 rfl (by decide +kernel) (by decide +kernel) (by decide +kernel)) ?_
  refine (show oc 35 = 9 ∧ wsum [.int v] ≤ 8 ∧ VM M9_read (.ref 35 :: [.int (xs (j + 1))]) σ1 (ctn (VW ML (XS L xs) K) 506 (LSj j) [.int v]) from ⟨rfl, by show 1 + 0 ≤ 8; decide, h9.mono ?_⟩)
  rintro r σ2 ⟨rfl, hI2⟩
  show VW ML (XS L xs) K 506 (LSj j) [.int v, .int v] σ2
  refine Snd.use (snd_ceq (off := 974) (tgt := 1480) (by decide +kernel) (by decide +kernel)) ?_
  exact ⟨fun _ => h σ2 hI2, fun q => absurd rfl q⟩
theorem lc_11 (hI : Inv σ) (hj : j + 6 ≤ L) (hL : L ≤ 3072) (h : ∀ σ', Inv σ' → VW ML (XS L xs) K 1480 (LSj j) [] σ') : VW ML (XS L xs) K 511 (LSj j) [] σ := by
  refine lw_o (i := 1) (k := 1) (a := 0) (by decide +kernel) rfl rfl ?_
  refine lw_a (k := 1) (n := 1) (by decide +kernel) (by decide +kernel) (by decide +kernel) (by decide +kernel) (by decide +kernel) (by decide +kernel) (by omega) (by omega) ?_
  refine lw_a (k := 2) (n := 2) (by decide +kernel) (by decide +kernel) (by decide +kernel) (by decide +kernel) (by decide +kernel) (by decide +kernel) (by omega) (by omega) ?_
  refine lw_a (k := 3) (n := 3) (by decide +kernel) (by decide +kernel) (by decide +kernel) (by decide +kernel) (by decide +kernel) (by decide +kernel) (by omega) (by omega) ?_
  refine Snd.use (snd_invV (M' := M8_chance) (ci := 8) (n := 3) (T := TX8) (by decide +kernel) wl_380 wl_381 wl_382 wd_1 wl_383 rfl (by decide +kernel) (by decide +kernel) (by decide +kernel)) ?_
  refine (show oc 0 = 8 ∧ wsum [] ≤ 8 ∧ VM M8_chance (.ref 0 :: [.int (xs (j + 1)), .int (xs (j + 2)), .int (xs (j + 3))]) σ (ctn (VW ML (XS L xs) K) 530 (LSj j) []) from ⟨rfl, by decide, (st_chance hI).mono ?_⟩)
  rintro r σ1 ⟨v, rfl, h9⟩
  show VW ML (XS L xs) K 530 (LSj j) [.long v] σ1
  refine lw_o (i := 2) (k := 2) (a := 35) (by decide +kernel) rfl rfl ?_
  refine lw_a (k := 1) (n := 1) (by decide +kernel) (by decide +kernel) (by decide +kernel) (by decide +kernel) (by decide +kernel) (by decide +kernel) (by omega) (by omega) ?_
  refine lw_a (k := 2) (n := 2) (by decide +kernel) (by decide +kernel) (by decide +kernel) (by decide +kernel) (by decide +kernel) (by decide +kernel) (by omega) (by omega) ?_
  refine lw_a (k := 3) (n := 3) (by decide +kernel) (by decide +kernel) (by decide +kernel) (by decide +kernel) (by decide +kernel) (by decide +kernel) (by omega) (by omega) ?_
  refine Snd.use (snd_invV (M' := M9_chance) (ci := 9) (n := 3) (T := TX9) (by decide +kernel) wl_975 wd_976 wd_977 wd_10 wd_978 rfl (by decide +kernel) (by decide +kernel) (by decide +kernel)) ?_
  refine (show oc 35 = 9 ∧ wsum [.long v] ≤ 8 ∧ VM M9_chance (.ref 35 :: [.int (xs (j + 1)), .int (xs (j + 2)), .int (xs (j + 3))]) σ1 (ctn (VW ML (XS L xs) K) 549 (LSj j) [.long v]) from ⟨rfl, by show 2 + 0 ≤ 8; decide, h9.mono ?_⟩)
  rintro r σ2 ⟨rfl, hI2⟩
  show VW ML (XS L xs) K 549 (LSj j) [.long v, .long v] σ2
  refine Snd.use (snd_lcmp (by decide +kernel)) ?_
  show VW ML (XS L xs) K 550 (LSj j) [.int (lg_cmp v v)] σ2
  refine Snd.use (snd_zeq (off := 930) (tgt := 1480) (by decide +kernel) (by decide +kernel)) ?_
  exact ⟨fun _ => h σ2 hI2, fun q => absurd (lcmp_self v) q⟩
theorem lc_12 (hI : Inv σ) (hj : j + 6 ≤ L) (hL : L ≤ 3072) (h : ∀ σ', Inv σ' → VW ML (XS L xs) K 1480 (LSj j) [] σ') : VW ML (XS L xs) K 555 (LSj j) [] σ := by
  refine lw_o (i := 1) (k := 1) (a := 0) (by decide +kernel) rfl rfl ?_
  refine lw_a (k := 1) (n := 1) (by decide +kernel) (by decide +kernel) (by decide +kernel) (by decide +kernel) (by decide +kernel) (by decide +kernel) (by omega) (by omega) ?_
  refine lw_a (k := 2) (n := 2) (by decide +kernel) (by decide +kernel) (by decide +kernel) (by decide +kernel) (by decide +kernel) (by decide +kernel) (by omega) (by omega) ?_
  refine lw_a (k := 3) (n := 3) (by decide +kernel) (by decide +kernel) (by decide +kernel) (by decide +kernel) (by decide +kernel) (by decide +kernel) (by omega) (by omega) ?_
  refine lw_a (k := 4) (n := 4) (by decide +kernel) (by decide +kernel) (by decide +kernel) (by decide +kernel) (by decide +kernel) (by decide +kernel) (by omega) (by omega) ?_
  refine Snd.use (snd_invV (M' := M8_worth) (ci := 8) (n := 4) (T := TX8) (by decide +kernel) wl_414 wd_415 wd_416 wd_1 wd_417 rfl (by decide +kernel) (by decide +kernel) (by decide +kernel)) ?_
  refine (show oc 0 = 8 ∧ wsum [] ≤ 8 ∧ VM M8_worth (.ref 0 :: [.int (xs (j + 1)), .int (xs (j + 2)), .int (xs (j + 3)), .int (xs (j + 4))]) σ (ctn (VW ML (XS L xs) K) 579 (LSj j) []) from ⟨rfl, by decide, (st_worth hI).mono ?_⟩)
  rintro r σ1 ⟨v, rfl, h9⟩
  show VW ML (XS L xs) K 579 (LSj j) [.int v] σ1
  refine lw_o (i := 2) (k := 2) (a := 35) (by decide +kernel) rfl rfl ?_
  refine lw_a (k := 1) (n := 1) (by decide +kernel) (by decide +kernel) (by decide +kernel) (by decide +kernel) (by decide +kernel) (by decide +kernel) (by omega) (by omega) ?_
  refine lw_a (k := 2) (n := 2) (by decide +kernel) (by decide +kernel) (by decide +kernel) (by decide +kernel) (by decide +kernel) (by decide +kernel) (by omega) (by omega) ?_
  refine lw_a (k := 3) (n := 3) (by decide +kernel) (by decide +kernel) (by decide +kernel) (by decide +kernel) (by decide +kernel) (by decide +kernel) (by omega) (by omega) ?_
  refine lw_a (k := 4) (n := 4) (by decide +kernel) (by decide +kernel) (by decide +kernel) (by decide +kernel) (by decide +kernel) (by decide +kernel) (by omega) (by omega) ?_
  refine Snd.use (snd_invV (M' := M9_worth) (ci := 9) (n := 4) (T := TX9) (by decide +kernel) wl_935 wl_936 wl_937 wd_10 wl_938 rfl (by decide +kernel) (by decide +kernel) (by decide +kernel)) ?_
  refine (show oc 35 = 9 ∧ wsum [.int v] ≤ 8 ∧ VM M9_worth (.ref 35 :: [.int (xs (j + 1)), .int (xs (j + 2)), .int (xs (j + 3)), .int (xs (j + 4))]) σ1 (ctn (VW ML (XS L xs) K) 603 (LSj j) [.int v]) from ⟨rfl, by show 1 + 0 ≤ 8; decide, h9.mono ?_⟩)
  rintro r σ2 ⟨rfl, hI2⟩
  show VW ML (XS L xs) K 603 (LSj j) [.int v, .int v] σ2
  refine Snd.use (snd_ceq (off := 877) (tgt := 1480) (by decide +kernel) (by decide +kernel)) ?_
  exact ⟨fun _ => h σ2 hI2, fun q => absurd rfl q⟩
theorem lc_13 (hI : Inv σ) (hj : j + 6 ≤ L) (hL : L ≤ 3072) (h : ∀ σ', Inv σ' → VW ML (XS L xs) K 1480 (LSj j) [] σ') : VW ML (XS L xs) K 608 (LSj j) [] σ := by
  refine lw_o (i := 1) (k := 1) (a := 0) (by decide +kernel) rfl rfl ?_
  refine lw_a (k := 1) (n := 1) (by decide +kernel) (by decide +kernel) (by decide +kernel) (by decide +kernel) (by decide +kernel) (by decide +kernel) (by omega) (by omega) ?_
  refine lw_a (k := 2) (n := 2) (by decide +kernel) (by decide +kernel) (by decide +kernel) (by decide +kernel) (by decide +kernel) (by decide +kernel) (by omega) (by omega) ?_
  refine lw_a (k := 3) (n := 3) (by decide +kernel) (by decide +kernel) (by decide +kernel) (by decide +kernel) (by decide +kernel) (by decide +kernel) (by omega) (by omega) ?_
  refine lw_a (k := 4) (n := 4) (by decide +kernel) (by decide +kernel) (by decide +kernel) (by decide +kernel) (by decide +kernel) (by decide +kernel) (by omega) (by omega) ?_
  refine lw_a (k := 5) (n := 5) (by decide +kernel) (by decide +kernel) (by decide +kernel) (by decide +kernel) (by decide +kernel) (by decide +kernel) (by omega) (by omega) ?_
  refine Snd.use (snd_invV (M' := M8_made) (ci := 8) (n := 5) (T := TX8) (by decide +kernel) wl_432 wd_433 wd_434 wd_1 wd_435 rfl (by decide +kernel) (by decide +kernel) (by decide +kernel)) ?_
  refine (show oc 0 = 8 ∧ wsum [] ≤ 8 ∧ VM M8_made (.ref 0 :: [.int (xs (j + 1)), .int (xs (j + 2)), .int (xs (j + 3)), .int (xs (j + 4)), .int (xs (j + 5))]) σ (ctn (VW ML (XS L xs) K) 637 (LSj j) []) from ⟨rfl, by decide, (st_made hI).mono ?_⟩)
  rintro r σ1 ⟨v, rfl, h9⟩
  show VW ML (XS L xs) K 637 (LSj j) [.int v] σ1
  refine lw_o (i := 2) (k := 2) (a := 35) (by decide +kernel) rfl rfl ?_
  refine lw_a (k := 1) (n := 1) (by decide +kernel) (by decide +kernel) (by decide +kernel) (by decide +kernel) (by decide +kernel) (by decide +kernel) (by omega) (by omega) ?_
  refine lw_a (k := 2) (n := 2) (by decide +kernel) (by decide +kernel) (by decide +kernel) (by decide +kernel) (by decide +kernel) (by decide +kernel) (by omega) (by omega) ?_
  refine lw_a (k := 3) (n := 3) (by decide +kernel) (by decide +kernel) (by decide +kernel) (by decide +kernel) (by decide +kernel) (by decide +kernel) (by omega) (by omega) ?_
  refine lw_a (k := 4) (n := 4) (by decide +kernel) (by decide +kernel) (by decide +kernel) (by decide +kernel) (by decide +kernel) (by decide +kernel) (by omega) (by omega) ?_
  refine lw_a (k := 5) (n := 5) (by decide +kernel) (by decide +kernel) (by decide +kernel) (by decide +kernel) (by decide +kernel) (by decide +kernel) (by omega) (by omega) ?_
  refine Snd.use (snd_invV (M' := M9_made) (ci := 9) (n := 5) (T := TX9) (by decide +kernel) wl_967 wl_968 wl_969 wd_10 wl_970 rfl (by decide +kernel) (by decide +kernel) (by decide +kernel)) ?_
  refine (show oc 35 = 9 ∧ wsum [.int v] ≤ 8 ∧ VM M9_made (.ref 35 :: [.int (xs (j + 1)), .int (xs (j + 2)), .int (xs (j + 3)), .int (xs (j + 4)), .int (xs (j + 5))]) σ1 (ctn (VW ML (XS L xs) K) 666 (LSj j) [.int v]) from ⟨rfl, by show 1 + 0 ≤ 8; decide, h9.mono ?_⟩)
  rintro r σ2 ⟨rfl, hI2⟩
  show VW ML (XS L xs) K 666 (LSj j) [.int v, .int v] σ2
  refine Snd.use (snd_ceq (off := 814) (tgt := 1480) (by decide +kernel) (by decide +kernel)) ?_
  exact ⟨fun _ => h σ2 hI2, fun q => absurd rfl q⟩
theorem lc_14 (hI : Inv σ) (hj : j + 6 ≤ L) (hL : L ≤ 3072) (h : ∀ σ', Inv σ' → VW ML (XS L xs) K 1480 (LSj j) [] σ') : VW ML (XS L xs) K 671 (LSj j) [] σ := by
  refine lw_o (i := 1) (k := 1) (a := 0) (by decide +kernel) rfl rfl ?_
  refine lw_a (k := 1) (n := 1) (by decide +kernel) (by decide +kernel) (by decide +kernel) (by decide +kernel) (by decide +kernel) (by decide +kernel) (by omega) (by omega) ?_
  refine lw_a (k := 2) (n := 2) (by decide +kernel) (by decide +kernel) (by decide +kernel) (by decide +kernel) (by decide +kernel) (by decide +kernel) (by omega) (by omega) ?_
  refine Snd.use (snd_invV (M' := M8_mean) (ci := 8) (n := 2) (T := TX8) (by decide +kernel) wl_457 wl_458 wl_459 wd_1 wl_460 rfl (by decide +kernel) (by decide +kernel) (by decide +kernel)) ?_
  refine (show oc 0 = 8 ∧ wsum [] ≤ 8 ∧ VM M8_mean (.ref 0 :: [.int (xs (j + 1)), .int (xs (j + 2))]) σ (ctn (VW ML (XS L xs) K) 685 (LSj j) []) from ⟨rfl, by decide, (st_mean hI).mono ?_⟩)
  rintro r σ1 ⟨v, rfl, h9⟩
  show VW ML (XS L xs) K 685 (LSj j) [.long v] σ1
  refine lw_o (i := 2) (k := 2) (a := 35) (by decide +kernel) rfl rfl ?_
  refine lw_a (k := 1) (n := 1) (by decide +kernel) (by decide +kernel) (by decide +kernel) (by decide +kernel) (by decide +kernel) (by decide +kernel) (by omega) (by omega) ?_
  refine lw_a (k := 2) (n := 2) (by decide +kernel) (by decide +kernel) (by decide +kernel) (by decide +kernel) (by decide +kernel) (by decide +kernel) (by omega) (by omega) ?_
  refine Snd.use (snd_invV (M' := M9_mean) (ci := 9) (n := 2) (T := TX9) (by decide +kernel) wl_994 wl_995 wl_996 wd_10 wl_997 rfl (by decide +kernel) (by decide +kernel) (by decide +kernel)) ?_
  refine (show oc 35 = 9 ∧ wsum [.long v] ≤ 8 ∧ VM M9_mean (.ref 35 :: [.int (xs (j + 1)), .int (xs (j + 2))]) σ1 (ctn (VW ML (XS L xs) K) 699 (LSj j) [.long v]) from ⟨rfl, by show 2 + 0 ≤ 8; decide, h9.mono ?_⟩)
  rintro r σ2 ⟨rfl, hI2⟩
  show VW ML (XS L xs) K 699 (LSj j) [.long v, .long v] σ2
  refine Snd.use (snd_lcmp (by decide +kernel)) ?_
  show VW ML (XS L xs) K 700 (LSj j) [.int (lg_cmp v v)] σ2
  refine Snd.use (snd_zeq (off := 780) (tgt := 1480) (by decide +kernel) (by decide +kernel)) ?_
  exact ⟨fun _ => h σ2 hI2, fun q => absurd (lcmp_self v) q⟩
theorem lc_15 (hI : Inv σ) (hj : j + 6 ≤ L) (hL : L ≤ 3072) (h : ∀ σ', Inv σ' → VW ML (XS L xs) K 1480 (LSj j) [] σ') : VW ML (XS L xs) K 705 (LSj j) [] σ := by
  refine lw_o (i := 1) (k := 1) (a := 0) (by decide +kernel) rfl rfl ?_
  refine lw_a (k := 1) (n := 1) (by decide +kernel) (by decide +kernel) (by decide +kernel) (by decide +kernel) (by decide +kernel) (by decide +kernel) (by omega) (by omega) ?_
  refine lw_a (k := 2) (n := 2) (by decide +kernel) (by decide +kernel) (by decide +kernel) (by decide +kernel) (by decide +kernel) (by decide +kernel) (by omega) (by omega) ?_
  refine Snd.use (snd_invV (M' := M8_share) (ci := 8) (n := 2) (T := TX8) (by decide +kernel) wl_499 wl_500 wl_501 wd_1 wl_502 rfl (by decide +kernel) (by decide +kernel) (by decide +kernel)) ?_
  refine (show oc 0 = 8 ∧ wsum [] ≤ 8 ∧ VM M8_share (.ref 0 :: [.int (xs (j + 1)), .int (xs (j + 2))]) σ (ctn (VW ML (XS L xs) K) 719 (LSj j) []) from ⟨rfl, by decide, (st_share hI).mono ?_⟩)
  rintro r σ1 ⟨v, rfl, h9⟩
  show VW ML (XS L xs) K 719 (LSj j) [.long v] σ1
  refine lw_o (i := 2) (k := 2) (a := 35) (by decide +kernel) rfl rfl ?_
  refine lw_a (k := 1) (n := 1) (by decide +kernel) (by decide +kernel) (by decide +kernel) (by decide +kernel) (by decide +kernel) (by decide +kernel) (by omega) (by omega) ?_
  refine lw_a (k := 2) (n := 2) (by decide +kernel) (by decide +kernel) (by decide +kernel) (by decide +kernel) (by decide +kernel) (by decide +kernel) (by omega) (by omega) ?_
  refine Snd.use (snd_invV (M' := M9_share) (ci := 9) (n := 2) (T := TX9) (by decide +kernel) wl_1017 wl_1018 wl_1019 wd_10 wl_1020 rfl (by decide +kernel) (by decide +kernel) (by decide +kernel)) ?_
  refine (show oc 35 = 9 ∧ wsum [.long v] ≤ 8 ∧ VM M9_share (.ref 35 :: [.int (xs (j + 1)), .int (xs (j + 2))]) σ1 (ctn (VW ML (XS L xs) K) 733 (LSj j) [.long v]) from ⟨rfl, by show 2 + 0 ≤ 8; decide, h9.mono ?_⟩)
  rintro r σ2 ⟨rfl, hI2⟩
  show VW ML (XS L xs) K 733 (LSj j) [.long v, .long v] σ2
  refine Snd.use (snd_lcmp (by decide +kernel)) ?_
  show VW ML (XS L xs) K 734 (LSj j) [.int (lg_cmp v v)] σ2
  refine Snd.use (snd_zeq (off := 746) (tgt := 1480) (by decide +kernel) (by decide +kernel)) ?_
  exact ⟨fun _ => h σ2 hI2, fun q => absurd (lcmp_self v) q⟩
theorem lc_16 (hI : Inv σ) (hj : j + 6 ≤ L) (hL : L ≤ 3072) (h : ∀ σ', Inv σ' → VW ML (XS L xs) K 1480 (LSj j) [] σ') : VW ML (XS L xs) K 739 (LSj j) [] σ := by
  refine lw_o (i := 1) (k := 1) (a := 0) (by decide +kernel) rfl rfl ?_
  refine Snd.use (snd_invV (M' := M8_leave) (ci := 8) (n := 0) (T := TX8) (by decide +kernel) wl_513 wl_514 wl_515 wd_1 wl_516 rfl (by decide +kernel) (by decide +kernel) (by decide +kernel)) ?_
  refine (show oc 0 = 8 ∧ wsum [] ≤ 8 ∧ VM M8_leave (.ref 0 :: []) σ (ctn (VW ML (XS L xs) K) 743 (LSj j) []) from ⟨rfl, by decide, (st_leave hI).mono ?_⟩)
  rintro r σ1 ⟨v, rfl, h9⟩
  show VW ML (XS L xs) K 743 (LSj j) [.int v] σ1
  refine lw_o (i := 2) (k := 2) (a := 35) (by decide +kernel) rfl rfl ?_
  refine Snd.use (snd_invV (M' := M9_leave) (ci := 9) (n := 0) (T := TX9) (by decide +kernel) wl_1035 wl_1036 wl_1037 wd_10 wl_1038 rfl (by decide +kernel) (by decide +kernel) (by decide +kernel)) ?_
  refine (show oc 35 = 9 ∧ wsum [.int v] ≤ 8 ∧ VM M9_leave (.ref 35 :: []) σ1 (ctn (VW ML (XS L xs) K) 747 (LSj j) [.int v]) from ⟨rfl, by show 1 + 0 ≤ 8; decide, h9.mono ?_⟩)
  rintro r σ2 ⟨rfl, hI2⟩
  show VW ML (XS L xs) K 747 (LSj j) [.int v, .int v] σ2
  refine Snd.use (snd_ceq (off := 733) (tgt := 1480) (by decide +kernel) (by decide +kernel)) ?_
  exact ⟨fun _ => h σ2 hI2, fun q => absurd rfl q⟩
theorem lc_17 (hI : Inv σ) (hj : j + 6 ≤ L) (hL : L ≤ 3072) (h : ∀ σ', Inv σ' → VW ML (XS L xs) K 1480 (LSj j) [] σ') : VW ML (XS L xs) K 752 (LSj j) [] σ := by
  refine lw_o (i := 1) (k := 1) (a := 0) (by decide +kernel) rfl rfl ?_
  refine lw_a (k := 1) (n := 1) (by decide +kernel) (by decide +kernel) (by decide +kernel) (by decide +kernel) (by decide +kernel) (by decide +kernel) (by omega) (by omega) ?_
  refine lw_a (k := 2) (n := 2) (by decide +kernel) (by decide +kernel) (by decide +kernel) (by decide +kernel) (by decide +kernel) (by decide +kernel) (by omega) (by omega) ?_
  refine Snd.use (snd_invV (M' := M8_strike) (ci := 8) (n := 2) (T := TX8) (by decide +kernel) wl_525 wl_526 wl_527 wd_1 wl_528 rfl (by decide +kernel) (by decide +kernel) (by decide +kernel)) ?_
  refine (show oc 0 = 8 ∧ wsum [] ≤ 8 ∧ VM M8_strike (.ref 0 :: [.int (xs (j + 1)), .int (xs (j + 2))]) σ (ctn (VW ML (XS L xs) K) 766 (LSj j) []) from ⟨rfl, by decide, (st_strike hI).mono ?_⟩)
  rintro r σ1 ⟨v, rfl, h9⟩
  show VW ML (XS L xs) K 766 (LSj j) [.long v] σ1
  refine lw_o (i := 2) (k := 2) (a := 35) (by decide +kernel) rfl rfl ?_
  refine lw_a (k := 1) (n := 1) (by decide +kernel) (by decide +kernel) (by decide +kernel) (by decide +kernel) (by decide +kernel) (by decide +kernel) (by omega) (by omega) ?_
  refine lw_a (k := 2) (n := 2) (by decide +kernel) (by decide +kernel) (by decide +kernel) (by decide +kernel) (by decide +kernel) (by decide +kernel) (by omega) (by omega) ?_
  refine Snd.use (snd_invV (M' := M9_strike) (ci := 9) (n := 2) (T := TX9) (by decide +kernel) wl_1043 wl_1044 wl_1045 wd_10 wl_1046 rfl (by decide +kernel) (by decide +kernel) (by decide +kernel)) ?_
  refine (show oc 35 = 9 ∧ wsum [.long v] ≤ 8 ∧ VM M9_strike (.ref 35 :: [.int (xs (j + 1)), .int (xs (j + 2))]) σ1 (ctn (VW ML (XS L xs) K) 780 (LSj j) [.long v]) from ⟨rfl, by show 2 + 0 ≤ 8; decide, h9.mono ?_⟩)
  rintro r σ2 ⟨rfl, hI2⟩
  show VW ML (XS L xs) K 780 (LSj j) [.long v, .long v] σ2
  refine Snd.use (snd_lcmp (by decide +kernel)) ?_
  show VW ML (XS L xs) K 781 (LSj j) [.int (lg_cmp v v)] σ2
  refine Snd.use (snd_zeq (off := 699) (tgt := 1480) (by decide +kernel) (by decide +kernel)) ?_
  exact ⟨fun _ => h σ2 hI2, fun q => absurd (lcmp_self v) q⟩
theorem lc_18 (hI : Inv σ) (hj : j + 6 ≤ L) (hL : L ≤ 3072) (h : ∀ σ', Inv σ' → VW ML (XS L xs) K 1480 (LSj j) [] σ') : VW ML (XS L xs) K 786 (LSj j) [] σ := by
  refine lw_o (i := 1) (k := 1) (a := 0) (by decide +kernel) rfl rfl ?_
  refine lw_a (k := 1) (n := 1) (by decide +kernel) (by decide +kernel) (by decide +kernel) (by decide +kernel) (by decide +kernel) (by decide +kernel) (by omega) (by omega) ?_
  refine Snd.use (snd_invV (M' := M8_best) (ci := 8) (n := 1) (T := TX8) (by decide +kernel) wl_533 wd_534 wd_535 wd_1 wd_536 rfl (by decide +kernel) (by decide +kernel) (by decide +kernel)) ?_
  refine (show oc 0 = 8 ∧ wsum [] ≤ 8 ∧ VM M8_best (.ref 0 :: [.int (xs (j + 1))]) σ (ctn (VW ML (XS L xs) K) 795 (LSj j) []) from ⟨rfl, by decide, (st_best hI).mono ?_⟩)
  rintro r σ1 ⟨v, rfl, h9⟩
  show VW ML (XS L xs) K 795 (LSj j) [.int v] σ1
  refine lw_o (i := 2) (k := 2) (a := 35) (by decide +kernel) rfl rfl ?_
  refine lw_a (k := 1) (n := 1) (by decide +kernel) (by decide +kernel) (by decide +kernel) (by decide +kernel) (by decide +kernel) (by decide +kernel) (by omega) (by omega) ?_
  refine Snd.use (snd_invV (M' := M9_best) (ci := 9) (n := 1) (T := TX9) (by decide +kernel) wl_1051 wl_1052 wl_1053 wd_10 wl_1054 rfl (by decide +kernel) (by decide +kernel) (by decide +kernel)) ?_
  refine (show oc 35 = 9 ∧ wsum [.int v] ≤ 8 ∧ VM M9_best (.ref 35 :: [.int (xs (j + 1))]) σ1 (ctn (VW ML (XS L xs) K) 804 (LSj j) [.int v]) from ⟨rfl, by show 1 + 0 ≤ 8; decide, h9.mono ?_⟩)
  rintro r σ2 ⟨rfl, hI2⟩
  show VW ML (XS L xs) K 804 (LSj j) [.int v, .int v] σ2
  refine Snd.use (snd_ceq (off := 676) (tgt := 1480) (by decide +kernel) (by decide +kernel)) ?_
  exact ⟨fun _ => h σ2 hI2, fun q => absurd rfl q⟩
theorem lc_19 (hI : Inv σ) (hj : j + 6 ≤ L) (hL : L ≤ 3072) (h : ∀ σ', Inv σ' → VW ML (XS L xs) K 1480 (LSj j) [] σ') : VW ML (XS L xs) K 809 (LSj j) [] σ := by
  refine lw_o (i := 1) (k := 1) (a := 0) (by decide +kernel) rfl rfl ?_
  refine lw_a (k := 1) (n := 1) (by decide +kernel) (by decide +kernel) (by decide +kernel) (by decide +kernel) (by decide +kernel) (by decide +kernel) (by omega) (by omega) ?_
  refine lw_a (k := 2) (n := 2) (by decide +kernel) (by decide +kernel) (by decide +kernel) (by decide +kernel) (by decide +kernel) (by decide +kernel) (by omega) (by omega) ?_
  refine Snd.use (snd_invV (M' := M8_menu) (ci := 8) (n := 2) (T := TX8) (by decide +kernel) wl_542 wd_543 wd_544 wd_1 wd_545 rfl (by decide +kernel) (by decide +kernel) (by decide +kernel)) ?_
  refine (show oc 0 = 8 ∧ wsum [] ≤ 8 ∧ VM M8_menu (.ref 0 :: [.int (xs (j + 1)), .int (xs (j + 2))]) σ (ctn (VW ML (XS L xs) K) 823 (LSj j) []) from ⟨rfl, by decide, (st_menu hI).mono ?_⟩)
  rintro r σ1 ⟨v, rfl, h9⟩
  show VW ML (XS L xs) K 823 (LSj j) [.int v] σ1
  refine lw_o (i := 2) (k := 2) (a := 35) (by decide +kernel) rfl rfl ?_
  refine lw_a (k := 1) (n := 1) (by decide +kernel) (by decide +kernel) (by decide +kernel) (by decide +kernel) (by decide +kernel) (by decide +kernel) (by omega) (by omega) ?_
  refine lw_a (k := 2) (n := 2) (by decide +kernel) (by decide +kernel) (by decide +kernel) (by decide +kernel) (by decide +kernel) (by decide +kernel) (by omega) (by omega) ?_
  refine Snd.use (snd_invV (M' := M9_menu) (ci := 9) (n := 2) (T := TX9) (by decide +kernel) wl_1059 wd_1060 wd_1061 wd_10 wd_1062 rfl (by decide +kernel) (by decide +kernel) (by decide +kernel)) ?_
  refine (show oc 35 = 9 ∧ wsum [.int v] ≤ 8 ∧ VM M9_menu (.ref 35 :: [.int (xs (j + 1)), .int (xs (j + 2))]) σ1 (ctn (VW ML (XS L xs) K) 837 (LSj j) [.int v]) from ⟨rfl, by show 1 + 0 ≤ 8; decide, h9.mono ?_⟩)
  rintro r σ2 ⟨rfl, hI2⟩
  show VW ML (XS L xs) K 837 (LSj j) [.int v, .int v] σ2
  refine Snd.use (snd_ceq (off := 643) (tgt := 1480) (by decide +kernel) (by decide +kernel)) ?_
  exact ⟨fun _ => h σ2 hI2, fun q => absurd rfl q⟩
theorem lc_20 (hI : Inv σ) (hj : j + 6 ≤ L) (hL : L ≤ 3072) (h : ∀ σ', Inv σ' → VW ML (XS L xs) K 1480 (LSj j) [] σ') : VW ML (XS L xs) K 842 (LSj j) [] σ := by
  refine lw_o (i := 1) (k := 1) (a := 0) (by decide +kernel) rfl rfl ?_
  refine lw_a (k := 1) (n := 1) (by decide +kernel) (by decide +kernel) (by decide +kernel) (by decide +kernel) (by decide +kernel) (by decide +kernel) (by omega) (by omega) ?_
  refine lw_a (k := 2) (n := 2) (by decide +kernel) (by decide +kernel) (by decide +kernel) (by decide +kernel) (by decide +kernel) (by decide +kernel) (by omega) (by omega) ?_
  refine Snd.use (snd_invV (M' := M8_menuMean) (ci := 8) (n := 2) (T := TX8) (by decide +kernel) wl_565 wd_566 wd_567 wd_1 wd_568 rfl (by decide +kernel) (by decide +kernel) (by decide +kernel)) ?_
  refine (show oc 0 = 8 ∧ wsum [] ≤ 8 ∧ VM M8_menuMean (.ref 0 :: [.int (xs (j + 1)), .int (xs (j + 2))]) σ (ctn (VW ML (XS L xs) K) 856 (LSj j) []) from ⟨rfl, by decide, (st_menuMean hI).mono ?_⟩)
  rintro r σ1 ⟨v, rfl, h9⟩
  show VW ML (XS L xs) K 856 (LSj j) [.long v] σ1
  refine lw_o (i := 2) (k := 2) (a := 35) (by decide +kernel) rfl rfl ?_
  refine lw_a (k := 1) (n := 1) (by decide +kernel) (by decide +kernel) (by decide +kernel) (by decide +kernel) (by decide +kernel) (by decide +kernel) (by omega) (by omega) ?_
  refine lw_a (k := 2) (n := 2) (by decide +kernel) (by decide +kernel) (by decide +kernel) (by decide +kernel) (by decide +kernel) (by decide +kernel) (by omega) (by omega) ?_
  refine Snd.use (snd_invV (M' := M9_menuMean) (ci := 9) (n := 2) (T := TX9) (by decide +kernel) wl_1075 wd_1076 wd_1077 wd_10 wd_1078 rfl (by decide +kernel) (by decide +kernel) (by decide +kernel)) ?_
  refine (show oc 35 = 9 ∧ wsum [.long v] ≤ 8 ∧ VM M9_menuMean (.ref 35 :: [.int (xs (j + 1)), .int (xs (j + 2))]) σ1 (ctn (VW ML (XS L xs) K) 870 (LSj j) [.long v]) from ⟨rfl, by show 2 + 0 ≤ 8; decide, h9.mono ?_⟩)
  rintro r σ2 ⟨rfl, hI2⟩
  show VW ML (XS L xs) K 870 (LSj j) [.long v, .long v] σ2
  refine Snd.use (snd_lcmp (by decide +kernel)) ?_
  show VW ML (XS L xs) K 871 (LSj j) [.int (lg_cmp v v)] σ2
  refine Snd.use (snd_zeq (off := 609) (tgt := 1480) (by decide +kernel) (by decide +kernel)) ?_
  exact ⟨fun _ => h σ2 hI2, fun q => absurd (lcmp_self v) q⟩
theorem lc_21 (hI : Inv σ) (hj : j + 6 ≤ L) (hL : L ≤ 3072) (h : ∀ σ', Inv σ' → VW ML (XS L xs) K 1480 (LSj j) [] σ') : VW ML (XS L xs) K 876 (LSj j) [] σ := by
  refine lw_o (i := 1) (k := 1) (a := 0) (by decide +kernel) rfl rfl ?_
  refine lw_a (k := 1) (n := 1) (by decide +kernel) (by decide +kernel) (by decide +kernel) (by decide +kernel) (by decide +kernel) (by decide +kernel) (by omega) (by omega) ?_
  refine lw_a (k := 2) (n := 2) (by decide +kernel) (by decide +kernel) (by decide +kernel) (by decide +kernel) (by decide +kernel) (by decide +kernel) (by omega) (by omega) ?_
  refine Snd.use (snd_invV (M' := M8_dread) (ci := 8) (n := 2) (T := TX8) (by decide +kernel) wl_573 wl_574 wl_575 wd_1 wl_576 rfl (by decide +kernel) (by decide +kernel) (by decide +kernel)) ?_
  refine (show oc 0 = 8 ∧ wsum [] ≤ 8 ∧ VM M8_dread (.ref 0 :: [.int (xs (j + 1)), .int (xs (j + 2))]) σ (ctn (VW ML (XS L xs) K) 890 (LSj j) []) from ⟨rfl, by decide, (st_dread hI).mono ?_⟩)
  rintro r σ1 ⟨v, rfl, h9⟩
  show VW ML (XS L xs) K 890 (LSj j) [.long v] σ1
  refine lw_o (i := 2) (k := 2) (a := 35) (by decide +kernel) rfl rfl ?_
  refine lw_a (k := 1) (n := 1) (by decide +kernel) (by decide +kernel) (by decide +kernel) (by decide +kernel) (by decide +kernel) (by decide +kernel) (by omega) (by omega) ?_
  refine lw_a (k := 2) (n := 2) (by decide +kernel) (by decide +kernel) (by decide +kernel) (by decide +kernel) (by decide +kernel) (by decide +kernel) (by omega) (by omega) ?_
  refine Snd.use (snd_invV (M' := M9_dread) (ci := 9) (n := 2) (T := TX9) (by decide +kernel) wl_1083 wl_1084 wl_1085 wd_10 wl_1086 rfl (by decide +kernel) (by decide +kernel) (by decide +kernel)) ?_
  refine (show oc 35 = 9 ∧ wsum [.long v] ≤ 8 ∧ VM M9_dread (.ref 35 :: [.int (xs (j + 1)), .int (xs (j + 2))]) σ1 (ctn (VW ML (XS L xs) K) 904 (LSj j) [.long v]) from ⟨rfl, by show 2 + 0 ≤ 8; decide, h9.mono ?_⟩)
  rintro r σ2 ⟨rfl, hI2⟩
  show VW ML (XS L xs) K 904 (LSj j) [.long v, .long v] σ2
  refine Snd.use (snd_lcmp (by decide +kernel)) ?_
  show VW ML (XS L xs) K 905 (LSj j) [.int (lg_cmp v v)] σ2
  refine Snd.use (snd_zeq (off := 575) (tgt := 1480) (by decide +kernel) (by decide +kernel)) ?_
  exact ⟨fun _ => h σ2 hI2, fun q => absurd (lcmp_self v) q⟩
theorem lc_22 (hI : Inv σ) (hj : j + 6 ≤ L) (hL : L ≤ 3072) (h : ∀ σ', Inv σ' → VW ML (XS L xs) K 1480 (LSj j) [] σ') : VW ML (XS L xs) K 910 (LSj j) [] σ := by
  refine lw_o (i := 1) (k := 1) (a := 0) (by decide +kernel) rfl rfl ?_
  refine lw_a (k := 1) (n := 1) (by decide +kernel) (by decide +kernel) (by decide +kernel) (by decide +kernel) (by decide +kernel) (by decide +kernel) (by omega) (by omega) ?_
  refine lw_a (k := 2) (n := 2) (by decide +kernel) (by decide +kernel) (by decide +kernel) (by decide +kernel) (by decide +kernel) (by decide +kernel) (by omega) (by omega) ?_
  refine lw_a (k := 3) (n := 3) (by decide +kernel) (by decide +kernel) (by decide +kernel) (by decide +kernel) (by decide +kernel) (by decide +kernel) (by omega) (by omega) ?_
  refine lw_a (k := 4) (n := 4) (by decide +kernel) (by decide +kernel) (by decide +kernel) (by decide +kernel) (by decide +kernel) (by decide +kernel) (by omega) (by omega) ?_
  refine Snd.use (snd_invV (M' := M8_rows) (ci := 8) (n := 4) (T := TX8) (by decide +kernel) wl_581 wd_582 wd_583 wd_1 wd_584 rfl (by decide +kernel) (by decide +kernel) (by decide +kernel)) ?_
  refine (show oc 0 = 8 ∧ wsum [] ≤ 8 ∧ VM M8_rows (.ref 0 :: [.int (xs (j + 1)), .int (xs (j + 2)), .int (xs (j + 3)), .int (xs (j + 4))]) σ (ctn (VW ML (XS L xs) K) 934 (LSj j) []) from ⟨rfl, by decide, (st_rows hI).mono ?_⟩)
  rintro r σ1 ⟨v, rfl, h9⟩
  show VW ML (XS L xs) K 934 (LSj j) [.int v] σ1
  refine lw_o (i := 2) (k := 2) (a := 35) (by decide +kernel) rfl rfl ?_
  refine lw_a (k := 1) (n := 1) (by decide +kernel) (by decide +kernel) (by decide +kernel) (by decide +kernel) (by decide +kernel) (by decide +kernel) (by omega) (by omega) ?_
  refine lw_a (k := 2) (n := 2) (by decide +kernel) (by decide +kernel) (by decide +kernel) (by decide +kernel) (by decide +kernel) (by decide +kernel) (by omega) (by omega) ?_
  refine lw_a (k := 3) (n := 3) (by decide +kernel) (by decide +kernel) (by decide +kernel) (by decide +kernel) (by decide +kernel) (by decide +kernel) (by omega) (by omega) ?_
  refine lw_a (k := 4) (n := 4) (by decide +kernel) (by decide +kernel) (by decide +kernel) (by decide +kernel) (by decide +kernel) (by decide +kernel) (by omega) (by omega) ?_
  refine Snd.use (snd_invV (M' := M9_rows) (ci := 9) (n := 4) (T := TX9) (by decide +kernel) wl_1091 wl_1092 wl_1093 wd_10 wl_1094 rfl (by decide +kernel) (by decide +kernel) (by decide +kernel)) ?_
  refine (show oc 35 = 9 ∧ wsum [.int v] ≤ 8 ∧ VM M9_rows (.ref 35 :: [.int (xs (j + 1)), .int (xs (j + 2)), .int (xs (j + 3)), .int (xs (j + 4))]) σ1 (ctn (VW ML (XS L xs) K) 958 (LSj j) [.int v]) from ⟨rfl, by show 1 + 0 ≤ 8; decide, h9.mono ?_⟩)
  rintro r σ2 ⟨rfl, hI2⟩
  show VW ML (XS L xs) K 958 (LSj j) [.int v, .int v] σ2
  refine Snd.use (snd_ceq (off := 522) (tgt := 1480) (by decide +kernel) (by decide +kernel)) ?_
  exact ⟨fun _ => h σ2 hI2, fun q => absurd rfl q⟩
theorem lc_23 (hI : Inv σ) (hj : j + 6 ≤ L) (hL : L ≤ 3072) (h : ∀ σ', Inv σ' → VW ML (XS L xs) K 1480 (LSj j) [] σ') : VW ML (XS L xs) K 963 (LSj j) [] σ := by
  refine lw_o (i := 1) (k := 1) (a := 0) (by decide +kernel) rfl rfl ?_
  refine lw_a (k := 1) (n := 1) (by decide +kernel) (by decide +kernel) (by decide +kernel) (by decide +kernel) (by decide +kernel) (by decide +kernel) (by omega) (by omega) ?_
  refine lw_a (k := 2) (n := 2) (by decide +kernel) (by decide +kernel) (by decide +kernel) (by decide +kernel) (by decide +kernel) (by decide +kernel) (by omega) (by omega) ?_
  refine lw_a (k := 3) (n := 3) (by decide +kernel) (by decide +kernel) (by decide +kernel) (by decide +kernel) (by decide +kernel) (by decide +kernel) (by omega) (by omega) ?_
  refine lw_a (k := 4) (n := 4) (by decide +kernel) (by decide +kernel) (by decide +kernel) (by decide +kernel) (by decide +kernel) (by decide +kernel) (by omega) (by omega) ?_
  refine lw_a (k := 5) (n := 5) (by decide +kernel) (by decide +kernel) (by decide +kernel) (by decide +kernel) (by decide +kernel) (by decide +kernel) (by omega) (by omega) ?_
  refine Snd.use (snd_invV (M' := M8_may) (ci := 8) (n := 5) (T := TX8) (by decide +kernel) wl_593 wd_594 wd_595 wd_1 wd_596 rfl (by decide +kernel) (by decide +kernel) (by decide +kernel)) ?_
  refine (show oc 0 = 8 ∧ wsum [] ≤ 8 ∧ VM M8_may (.ref 0 :: [.int (xs (j + 1)), .int (xs (j + 2)), .int (xs (j + 3)), .int (xs (j + 4)), .int (xs (j + 5))]) σ (ctn (VW ML (XS L xs) K) 992 (LSj j) []) from ⟨rfl, by decide, (st_may hI).mono ?_⟩)
  rintro r σ1 ⟨v, rfl, h9⟩
  show VW ML (XS L xs) K 992 (LSj j) [.int v] σ1
  refine lw_o (i := 2) (k := 2) (a := 35) (by decide +kernel) rfl rfl ?_
  refine lw_a (k := 1) (n := 1) (by decide +kernel) (by decide +kernel) (by decide +kernel) (by decide +kernel) (by decide +kernel) (by decide +kernel) (by omega) (by omega) ?_
  refine lw_a (k := 2) (n := 2) (by decide +kernel) (by decide +kernel) (by decide +kernel) (by decide +kernel) (by decide +kernel) (by decide +kernel) (by omega) (by omega) ?_
  refine lw_a (k := 3) (n := 3) (by decide +kernel) (by decide +kernel) (by decide +kernel) (by decide +kernel) (by decide +kernel) (by decide +kernel) (by omega) (by omega) ?_
  refine lw_a (k := 4) (n := 4) (by decide +kernel) (by decide +kernel) (by decide +kernel) (by decide +kernel) (by decide +kernel) (by decide +kernel) (by omega) (by omega) ?_
  refine lw_a (k := 5) (n := 5) (by decide +kernel) (by decide +kernel) (by decide +kernel) (by decide +kernel) (by decide +kernel) (by decide +kernel) (by omega) (by omega) ?_
  refine Snd.use (snd_invV (M' := M9_may) (ci := 9) (n := 5) (T := TX9) (by decide +kernel) wl_1103 wl_1104 wl_1105 wd_10 wl_1106 rfl (by decide +kernel) (by decide +kernel) (by decide +kernel)) ?_
  refine (show oc 35 = 9 ∧ wsum [.int v] ≤ 8 ∧ VM M9_may (.ref 35 :: [.int (xs (j + 1)), .int (xs (j + 2)), .int (xs (j + 3)), .int (xs (j + 4)), .int (xs (j + 5))]) σ1 (ctn (VW ML (XS L xs) K) 1021 (LSj j) [.int v]) from ⟨rfl, by show 1 + 0 ≤ 8; decide, h9.mono ?_⟩)
  rintro r σ2 ⟨rfl, hI2⟩
  show VW ML (XS L xs) K 1021 (LSj j) [.int v, .int v] σ2
  refine Snd.use (snd_ceq (off := 459) (tgt := 1480) (by decide +kernel) (by decide +kernel)) ?_
  exact ⟨fun _ => h σ2 hI2, fun q => absurd rfl q⟩
theorem lc_24 (hI : Inv σ) (hj : j + 6 ≤ L) (hL : L ≤ 3072) (h : ∀ σ', Inv σ' → VW ML (XS L xs) K 1480 (LSj j) [] σ') : VW ML (XS L xs) K 1026 (LSj j) [] σ := by
  refine lw_o (i := 1) (k := 1) (a := 0) (by decide +kernel) rfl rfl ?_
  refine lw_a (k := 1) (n := 1) (by decide +kernel) (by decide +kernel) (by decide +kernel) (by decide +kernel) (by decide +kernel) (by decide +kernel) (by omega) (by omega) ?_
  refine lw_a (k := 2) (n := 2) (by decide +kernel) (by decide +kernel) (by decide +kernel) (by decide +kernel) (by decide +kernel) (by decide +kernel) (by omega) (by omega) ?_
  refine lw_a (k := 3) (n := 3) (by decide +kernel) (by decide +kernel) (by decide +kernel) (by decide +kernel) (by decide +kernel) (by decide +kernel) (by omega) (by omega) ?_
  refine lw_a (k := 4) (n := 4) (by decide +kernel) (by decide +kernel) (by decide +kernel) (by decide +kernel) (by decide +kernel) (by decide +kernel) (by omega) (by omega) ?_
  refine lw_a (k := 5) (n := 5) (by decide +kernel) (by decide +kernel) (by decide +kernel) (by decide +kernel) (by decide +kernel) (by decide +kernel) (by omega) (by omega) ?_
  refine Snd.use (snd_invV (M' := M8_likeliest) (ci := 8) (n := 5) (T := TX8) (by decide +kernel) wl_597 wl_598 wl_599 wd_1 wl_600 rfl (by decide +kernel) (by decide +kernel) (by decide +kernel)) ?_
  refine (show oc 0 = 8 ∧ wsum [] ≤ 8 ∧ VM M8_likeliest (.ref 0 :: [.int (xs (j + 1)), .int (xs (j + 2)), .int (xs (j + 3)), .int (xs (j + 4)), .int (xs (j + 5))]) σ (ctn (VW ML (XS L xs) K) 1055 (LSj j) []) from ⟨rfl, by decide, (st_likeliest hI).mono ?_⟩)
  rintro r σ1 ⟨v, rfl, h9⟩
  show VW ML (XS L xs) K 1055 (LSj j) [.int v] σ1
  refine lw_o (i := 2) (k := 2) (a := 35) (by decide +kernel) rfl rfl ?_
  refine lw_a (k := 1) (n := 1) (by decide +kernel) (by decide +kernel) (by decide +kernel) (by decide +kernel) (by decide +kernel) (by decide +kernel) (by omega) (by omega) ?_
  refine lw_a (k := 2) (n := 2) (by decide +kernel) (by decide +kernel) (by decide +kernel) (by decide +kernel) (by decide +kernel) (by decide +kernel) (by omega) (by omega) ?_
  refine lw_a (k := 3) (n := 3) (by decide +kernel) (by decide +kernel) (by decide +kernel) (by decide +kernel) (by decide +kernel) (by decide +kernel) (by omega) (by omega) ?_
  refine lw_a (k := 4) (n := 4) (by decide +kernel) (by decide +kernel) (by decide +kernel) (by decide +kernel) (by decide +kernel) (by decide +kernel) (by omega) (by omega) ?_
  refine lw_a (k := 5) (n := 5) (by decide +kernel) (by decide +kernel) (by decide +kernel) (by decide +kernel) (by decide +kernel) (by decide +kernel) (by omega) (by omega) ?_
  refine Snd.use (snd_invV (M' := M9_likeliest) (ci := 9) (n := 5) (T := TX9) (by decide +kernel) wl_1111 wl_1112 wl_1113 wd_10 wl_1114 rfl (by decide +kernel) (by decide +kernel) (by decide +kernel)) ?_
  refine (show oc 35 = 9 ∧ wsum [.int v] ≤ 8 ∧ VM M9_likeliest (.ref 35 :: [.int (xs (j + 1)), .int (xs (j + 2)), .int (xs (j + 3)), .int (xs (j + 4)), .int (xs (j + 5))]) σ1 (ctn (VW ML (XS L xs) K) 1084 (LSj j) [.int v]) from ⟨rfl, by show 1 + 0 ≤ 8; decide, h9.mono ?_⟩)
  rintro r σ2 ⟨rfl, hI2⟩
  show VW ML (XS L xs) K 1084 (LSj j) [.int v, .int v] σ2
  refine Snd.use (snd_ceq (off := 396) (tgt := 1480) (by decide +kernel) (by decide +kernel)) ?_
  exact ⟨fun _ => h σ2 hI2, fun q => absurd rfl q⟩
theorem lc_25 (hI : Inv σ) (hj : j + 6 ≤ L) (hL : L ≤ 3072) (h : ∀ σ', Inv σ' → VW ML (XS L xs) K 1480 (LSj j) [] σ') : VW ML (XS L xs) K 1089 (LSj j) [] σ := by
  refine lw_o (i := 1) (k := 1) (a := 0) (by decide +kernel) rfl rfl ?_
  refine lw_a (k := 1) (n := 1) (by decide +kernel) (by decide +kernel) (by decide +kernel) (by decide +kernel) (by decide +kernel) (by decide +kernel) (by omega) (by omega) ?_
  refine lw_a (k := 2) (n := 2) (by decide +kernel) (by decide +kernel) (by decide +kernel) (by decide +kernel) (by decide +kernel) (by decide +kernel) (by omega) (by omega) ?_
  refine lw_a (k := 3) (n := 3) (by decide +kernel) (by decide +kernel) (by decide +kernel) (by decide +kernel) (by decide +kernel) (by decide +kernel) (by omega) (by omega) ?_
  refine lw_a (k := 4) (n := 4) (by decide +kernel) (by decide +kernel) (by decide +kernel) (by decide +kernel) (by decide +kernel) (by decide +kernel) (by omega) (by omega) ?_
  refine Snd.use (snd_invV (M' := M8_kept) (ci := 8) (n := 4) (T := TX8) (by decide +kernel) wl_616 wd_617 wd_618 wd_1 wd_619 rfl (by decide +kernel) (by decide +kernel) (by decide +kernel)) ?_
  refine (show oc 0 = 8 ∧ wsum [] ≤ 8 ∧ VM M8_kept (.ref 0 :: [.int (xs (j + 1)), .int (xs (j + 2)), .int (xs (j + 3)), .int (xs (j + 4))]) σ (ctn (VW ML (XS L xs) K) 1113 (LSj j) []) from ⟨rfl, by decide, (st_kept hI).mono ?_⟩)
  rintro r σ1 ⟨v, rfl, h9⟩
  show VW ML (XS L xs) K 1113 (LSj j) [.int v] σ1
  refine lw_o (i := 2) (k := 2) (a := 35) (by decide +kernel) rfl rfl ?_
  refine lw_a (k := 1) (n := 1) (by decide +kernel) (by decide +kernel) (by decide +kernel) (by decide +kernel) (by decide +kernel) (by decide +kernel) (by omega) (by omega) ?_
  refine lw_a (k := 2) (n := 2) (by decide +kernel) (by decide +kernel) (by decide +kernel) (by decide +kernel) (by decide +kernel) (by decide +kernel) (by omega) (by omega) ?_
  refine lw_a (k := 3) (n := 3) (by decide +kernel) (by decide +kernel) (by decide +kernel) (by decide +kernel) (by decide +kernel) (by decide +kernel) (by omega) (by omega) ?_
  refine lw_a (k := 4) (n := 4) (by decide +kernel) (by decide +kernel) (by decide +kernel) (by decide +kernel) (by decide +kernel) (by decide +kernel) (by omega) (by omega) ?_
  refine Snd.use (snd_invV (M' := M9_kept) (ci := 9) (n := 4) (T := TX9) (by decide +kernel) wl_1119 wl_1120 wl_1121 wd_10 wl_1122 rfl (by decide +kernel) (by decide +kernel) (by decide +kernel)) ?_
  refine (show oc 35 = 9 ∧ wsum [.int v] ≤ 8 ∧ VM M9_kept (.ref 35 :: [.int (xs (j + 1)), .int (xs (j + 2)), .int (xs (j + 3)), .int (xs (j + 4))]) σ1 (ctn (VW ML (XS L xs) K) 1137 (LSj j) [.int v]) from ⟨rfl, by show 1 + 0 ≤ 8; decide, h9.mono ?_⟩)
  rintro r σ2 ⟨rfl, hI2⟩
  show VW ML (XS L xs) K 1137 (LSj j) [.int v, .int v] σ2
  refine Snd.use (snd_ceq (off := 343) (tgt := 1480) (by decide +kernel) (by decide +kernel)) ?_
  exact ⟨fun _ => h σ2 hI2, fun q => absurd rfl q⟩
theorem lc_26 (hI : Inv σ) (hj : j + 6 ≤ L) (hL : L ≤ 3072) (h : ∀ σ', Inv σ' → VW ML (XS L xs) K 1480 (LSj j) [] σ') : VW ML (XS L xs) K 1142 (LSj j) [] σ := by
  refine lw_o (i := 1) (k := 1) (a := 0) (by decide +kernel) rfl rfl ?_
  refine lw_a (k := 1) (n := 1) (by decide +kernel) (by decide +kernel) (by decide +kernel) (by decide +kernel) (by decide +kernel) (by decide +kernel) (by omega) (by omega) ?_
  refine lw_a (k := 2) (n := 2) (by decide +kernel) (by decide +kernel) (by decide +kernel) (by decide +kernel) (by decide +kernel) (by decide +kernel) (by omega) (by omega) ?_
  refine lw_a (k := 3) (n := 3) (by decide +kernel) (by decide +kernel) (by decide +kernel) (by decide +kernel) (by decide +kernel) (by decide +kernel) (by omega) (by omega) ?_
  refine Snd.use (snd_invV (M' := M8_week) (ci := 8) (n := 3) (T := TX8) (by decide +kernel) wl_624 wd_625 wd_626 wd_1 wd_627 rfl (by decide +kernel) (by decide +kernel) (by decide +kernel)) ?_
  refine (show oc 0 = 8 ∧ wsum [] ≤ 8 ∧ VM M8_week (.ref 0 :: [.int (xs (j + 1)), .int (xs (j + 2)), .int (xs (j + 3))]) σ (ctn (VW ML (XS L xs) K) 1161 (LSj j) []) from ⟨rfl, by decide, (st_week hI).mono ?_⟩)
  rintro r σ1 ⟨v, rfl, h9⟩
  show VW ML (XS L xs) K 1161 (LSj j) [.int v] σ1
  refine lw_o (i := 2) (k := 2) (a := 35) (by decide +kernel) rfl rfl ?_
  refine lw_a (k := 1) (n := 1) (by decide +kernel) (by decide +kernel) (by decide +kernel) (by decide +kernel) (by decide +kernel) (by decide +kernel) (by omega) (by omega) ?_
  refine lw_a (k := 2) (n := 2) (by decide +kernel) (by decide +kernel) (by decide +kernel) (by decide +kernel) (by decide +kernel) (by decide +kernel) (by omega) (by omega) ?_
  refine lw_a (k := 3) (n := 3) (by decide +kernel) (by decide +kernel) (by decide +kernel) (by decide +kernel) (by decide +kernel) (by decide +kernel) (by omega) (by omega) ?_
  refine Snd.use (snd_invV (M' := M9_week) (ci := 9) (n := 3) (T := TX9) (by decide +kernel) wl_1127 wl_1128 wl_1129 wd_10 wl_1130 rfl (by decide +kernel) (by decide +kernel) (by decide +kernel)) ?_
  refine (show oc 35 = 9 ∧ wsum [.int v] ≤ 8 ∧ VM M9_week (.ref 35 :: [.int (xs (j + 1)), .int (xs (j + 2)), .int (xs (j + 3))]) σ1 (ctn (VW ML (XS L xs) K) 1180 (LSj j) [.int v]) from ⟨rfl, by show 1 + 0 ≤ 8; decide, h9.mono ?_⟩)
  rintro r σ2 ⟨rfl, hI2⟩
  show VW ML (XS L xs) K 1180 (LSj j) [.int v, .int v] σ2
  refine Snd.use (snd_ceq (off := 300) (tgt := 1480) (by decide +kernel) (by decide +kernel)) ?_
  exact ⟨fun _ => h σ2 hI2, fun q => absurd rfl q⟩
theorem lc_27 (hI : Inv σ) (hj : j + 6 ≤ L) (hL : L ≤ 3072) (h : ∀ σ', Inv σ' → VW ML (XS L xs) K 1480 (LSj j) [] σ') : VW ML (XS L xs) K 1185 (LSj j) [] σ := by
  refine lw_o (i := 1) (k := 1) (a := 0) (by decide +kernel) rfl rfl ?_
  refine lw_a (k := 1) (n := 1) (by decide +kernel) (by decide +kernel) (by decide +kernel) (by decide +kernel) (by decide +kernel) (by decide +kernel) (by omega) (by omega) ?_
  refine lw_a (k := 2) (n := 2) (by decide +kernel) (by decide +kernel) (by decide +kernel) (by decide +kernel) (by decide +kernel) (by decide +kernel) (by omega) (by omega) ?_
  refine lw_a (k := 3) (n := 3) (by decide +kernel) (by decide +kernel) (by decide +kernel) (by decide +kernel) (by decide +kernel) (by decide +kernel) (by omega) (by omega) ?_
  refine Snd.use (snd_invV (M' := M8_sheet) (ci := 8) (n := 3) (T := TX8) (by decide +kernel) wl_641 wl_642 wl_643 wd_1 wl_644 rfl (by decide +kernel) (by decide +kernel) (by decide +kernel)) ?_
  refine (show oc 0 = 8 ∧ wsum [] ≤ 8 ∧ VM M8_sheet (.ref 0 :: [.int (xs (j + 1)), .int (xs (j + 2)), .int (xs (j + 3))]) σ (ctn (VW ML (XS L xs) K) 1204 (LSj j) []) from ⟨rfl, by decide, (st_sheet hI).mono ?_⟩)
  rintro r σ1 ⟨v, rfl, h9⟩
  show VW ML (XS L xs) K 1204 (LSj j) [.int v] σ1
  refine lw_o (i := 2) (k := 2) (a := 35) (by decide +kernel) rfl rfl ?_
  refine lw_a (k := 1) (n := 1) (by decide +kernel) (by decide +kernel) (by decide +kernel) (by decide +kernel) (by decide +kernel) (by decide +kernel) (by omega) (by omega) ?_
  refine lw_a (k := 2) (n := 2) (by decide +kernel) (by decide +kernel) (by decide +kernel) (by decide +kernel) (by decide +kernel) (by decide +kernel) (by omega) (by omega) ?_
  refine lw_a (k := 3) (n := 3) (by decide +kernel) (by decide +kernel) (by decide +kernel) (by decide +kernel) (by decide +kernel) (by decide +kernel) (by omega) (by omega) ?_
  refine Snd.use (snd_invV (M' := M9_sheet) (ci := 9) (n := 3) (T := TX9) (by decide +kernel) wl_1140 wl_1141 wl_1142 wd_10 wl_1143 rfl (by decide +kernel) (by decide +kernel) (by decide +kernel)) ?_
  refine (show oc 35 = 9 ∧ wsum [.int v] ≤ 8 ∧ VM M9_sheet (.ref 35 :: [.int (xs (j + 1)), .int (xs (j + 2)), .int (xs (j + 3))]) σ1 (ctn (VW ML (XS L xs) K) 1223 (LSj j) [.int v]) from ⟨rfl, by show 1 + 0 ≤ 8; decide, h9.mono ?_⟩)
  rintro r σ2 ⟨rfl, hI2⟩
  show VW ML (XS L xs) K 1223 (LSj j) [.int v, .int v] σ2
  refine Snd.use (snd_ceq (off := 257) (tgt := 1480) (by decide +kernel) (by decide +kernel)) ?_
  exact ⟨fun _ => h σ2 hI2, fun q => absurd rfl q⟩
theorem lc_28 (hI : Inv σ) (hj : j + 6 ≤ L) (hL : L ≤ 3072) (h : ∀ σ', Inv σ' → VW ML (XS L xs) K 1480 (LSj j) [] σ') : VW ML (XS L xs) K 1228 (LSj j) [] σ := by
  refine lw_o (i := 1) (k := 1) (a := 0) (by decide +kernel) rfl rfl ?_
  refine lw_a (k := 1) (n := 1) (by decide +kernel) (by decide +kernel) (by decide +kernel) (by decide +kernel) (by decide +kernel) (by decide +kernel) (by omega) (by omega) ?_
  refine Snd.use (snd_invV (M' := M8_lose) (ci := 8) (n := 1) (T := TX8) (by decide +kernel) wl_652 wl_653 wl_654 wd_1 wl_655 rfl (by decide +kernel) (by decide +kernel) (by decide +kernel)) ?_
  refine (show oc 0 = 8 ∧ wsum [] ≤ 8 ∧ VM M8_lose (.ref 0 :: [.int (xs (j + 1))]) σ (ctn (VW ML (XS L xs) K) 1237 (LSj j) []) from ⟨rfl, by decide, (st_lose hI).mono ?_⟩)
  rintro r σ1 ⟨v, rfl, h9⟩
  show VW ML (XS L xs) K 1237 (LSj j) [.int v] σ1
  refine lw_o (i := 2) (k := 2) (a := 35) (by decide +kernel) rfl rfl ?_
  refine lw_a (k := 1) (n := 1) (by decide +kernel) (by decide +kernel) (by decide +kernel) (by decide +kernel) (by decide +kernel) (by decide +kernel) (by omega) (by omega) ?_
  refine Snd.use (snd_invV (M' := M9_lose) (ci := 9) (n := 1) (T := TX9) (by decide +kernel) wl_1144 wl_1145 wl_1146 wd_10 wl_1147 rfl (by decide +kernel) (by decide +kernel) (by decide +kernel)) ?_
  refine (show oc 35 = 9 ∧ wsum [.int v] ≤ 8 ∧ VM M9_lose (.ref 35 :: [.int (xs (j + 1))]) σ1 (ctn (VW ML (XS L xs) K) 1246 (LSj j) [.int v]) from ⟨rfl, by show 1 + 0 ≤ 8; decide, h9.mono ?_⟩)
  rintro r σ2 ⟨rfl, hI2⟩
  show VW ML (XS L xs) K 1246 (LSj j) [.int v, .int v] σ2
  refine Snd.use (snd_ceq (off := 234) (tgt := 1480) (by decide +kernel) (by decide +kernel)) ?_
  exact ⟨fun _ => h σ2 hI2, fun q => absurd rfl q⟩
theorem lc_29 (hI : Inv σ) (hj : j + 6 ≤ L) (hL : L ≤ 3072) (h : ∀ σ', Inv σ' → VW ML (XS L xs) K 1480 (LSj j) [] σ') : VW ML (XS L xs) K 1251 (LSj j) [] σ := by
  refine lw_o (i := 1) (k := 1) (a := 0) (by decide +kernel) rfl rfl ?_
  refine lw_a (k := 1) (n := 1) (by decide +kernel) (by decide +kernel) (by decide +kernel) (by decide +kernel) (by decide +kernel) (by decide +kernel) (by omega) (by omega) ?_
  refine lw_a (k := 2) (n := 2) (by decide +kernel) (by decide +kernel) (by decide +kernel) (by decide +kernel) (by decide +kernel) (by decide +kernel) (by omega) (by omega) ?_
  refine lw_a (k := 3) (n := 3) (by decide +kernel) (by decide +kernel) (by decide +kernel) (by decide +kernel) (by decide +kernel) (by decide +kernel) (by omega) (by omega) ?_
  refine lw_a (k := 4) (n := 4) (by decide +kernel) (by decide +kernel) (by decide +kernel) (by decide +kernel) (by decide +kernel) (by decide +kernel) (by omega) (by omega) ?_
  refine Snd.use (snd_invV (M' := M8_put) (ci := 8) (n := 4) (T := TX8) (by decide +kernel) wl_656 wl_657 wl_658 wd_1 wl_659 rfl (by decide +kernel) (by decide +kernel) (by decide +kernel)) ?_
  refine (show oc 0 = 8 ∧ wsum [] ≤ 8 ∧ VM M8_put (.ref 0 :: [.int (xs (j + 1)), .int (xs (j + 2)), .int (xs (j + 3)), .int (xs (j + 4))]) σ (ctn (VW ML (XS L xs) K) 1275 (LSj j) []) from ⟨rfl, by decide, (st_put hI).mono ?_⟩)
  rintro r σ1 ⟨v, rfl, h9⟩
  show VW ML (XS L xs) K 1275 (LSj j) [.int v] σ1
  refine lw_o (i := 2) (k := 2) (a := 35) (by decide +kernel) rfl rfl ?_
  refine lw_a (k := 1) (n := 1) (by decide +kernel) (by decide +kernel) (by decide +kernel) (by decide +kernel) (by decide +kernel) (by decide +kernel) (by omega) (by omega) ?_
  refine lw_a (k := 2) (n := 2) (by decide +kernel) (by decide +kernel) (by decide +kernel) (by decide +kernel) (by decide +kernel) (by decide +kernel) (by omega) (by omega) ?_
  refine lw_a (k := 3) (n := 3) (by decide +kernel) (by decide +kernel) (by decide +kernel) (by decide +kernel) (by decide +kernel) (by decide +kernel) (by omega) (by omega) ?_
  refine lw_a (k := 4) (n := 4) (by decide +kernel) (by decide +kernel) (by decide +kernel) (by decide +kernel) (by decide +kernel) (by decide +kernel) (by omega) (by omega) ?_
  refine Snd.use (snd_invV (M' := M9_put) (ci := 9) (n := 4) (T := TX9) (by decide +kernel) wl_1148 wl_1149 wl_1150 wd_10 wl_1151 rfl (by decide +kernel) (by decide +kernel) (by decide +kernel)) ?_
  refine (show oc 35 = 9 ∧ wsum [.int v] ≤ 8 ∧ VM M9_put (.ref 35 :: [.int (xs (j + 1)), .int (xs (j + 2)), .int (xs (j + 3)), .int (xs (j + 4))]) σ1 (ctn (VW ML (XS L xs) K) 1299 (LSj j) [.int v]) from ⟨rfl, by show 1 + 0 ≤ 8; decide, h9.mono ?_⟩)
  rintro r σ2 ⟨rfl, hI2⟩
  show VW ML (XS L xs) K 1299 (LSj j) [.int v, .int v] σ2
  refine Snd.use (snd_ceq (off := 181) (tgt := 1480) (by decide +kernel) (by decide +kernel)) ?_
  exact ⟨fun _ => h σ2 hI2, fun q => absurd rfl q⟩
theorem lc_30 (hI : Inv σ) (hj : j + 6 ≤ L) (hL : L ≤ 3072) (h : ∀ σ', Inv σ' → VW ML (XS L xs) K 1480 (LSj j) [] σ') : VW ML (XS L xs) K 1304 (LSj j) [] σ := by
  refine lw_o (i := 1) (k := 1) (a := 0) (by decide +kernel) rfl rfl ?_
  refine lw_a (k := 1) (n := 1) (by decide +kernel) (by decide +kernel) (by decide +kernel) (by decide +kernel) (by decide +kernel) (by decide +kernel) (by omega) (by omega) ?_
  refine lw_a (k := 2) (n := 2) (by decide +kernel) (by decide +kernel) (by decide +kernel) (by decide +kernel) (by decide +kernel) (by decide +kernel) (by omega) (by omega) ?_
  refine lw_a (k := 3) (n := 3) (by decide +kernel) (by decide +kernel) (by decide +kernel) (by decide +kernel) (by decide +kernel) (by decide +kernel) (by omega) (by omega) ?_
  refine Snd.use (snd_invV (M' := M8_get) (ci := 8) (n := 3) (T := TX8) (by decide +kernel) wl_668 wl_669 wl_670 wd_1 wl_671 rfl (by decide +kernel) (by decide +kernel) (by decide +kernel)) ?_
  refine (show oc 0 = 8 ∧ wsum [] ≤ 8 ∧ VM M8_get (.ref 0 :: [.int (xs (j + 1)), .int (xs (j + 2)), .int (xs (j + 3))]) σ (ctn (VW ML (XS L xs) K) 1323 (LSj j) []) from ⟨rfl, by decide, (st_get hI).mono ?_⟩)
  rintro r σ1 ⟨v, rfl, h9⟩
  show VW ML (XS L xs) K 1323 (LSj j) [.int v] σ1
  refine lw_o (i := 2) (k := 2) (a := 35) (by decide +kernel) rfl rfl ?_
  refine lw_a (k := 1) (n := 1) (by decide +kernel) (by decide +kernel) (by decide +kernel) (by decide +kernel) (by decide +kernel) (by decide +kernel) (by omega) (by omega) ?_
  refine lw_a (k := 2) (n := 2) (by decide +kernel) (by decide +kernel) (by decide +kernel) (by decide +kernel) (by decide +kernel) (by decide +kernel) (by omega) (by omega) ?_
  refine lw_a (k := 3) (n := 3) (by decide +kernel) (by decide +kernel) (by decide +kernel) (by decide +kernel) (by decide +kernel) (by decide +kernel) (by omega) (by omega) ?_
  refine Snd.use (snd_invV (M' := M9_get) (ci := 9) (n := 3) (T := TX9) (by decide +kernel) wl_1160 wl_1161 wl_1162 wd_10 wl_1163 rfl (by decide +kernel) (by decide +kernel) (by decide +kernel)) ?_
  refine (show oc 35 = 9 ∧ wsum [.int v] ≤ 8 ∧ VM M9_get (.ref 35 :: [.int (xs (j + 1)), .int (xs (j + 2)), .int (xs (j + 3))]) σ1 (ctn (VW ML (XS L xs) K) 1342 (LSj j) [.int v]) from ⟨rfl, by show 1 + 0 ≤ 8; decide, h9.mono ?_⟩)
  rintro r σ2 ⟨rfl, hI2⟩
  show VW ML (XS L xs) K 1342 (LSj j) [.int v, .int v] σ2
  refine Snd.use (snd_ceq (off := 138) (tgt := 1480) (by decide +kernel) (by decide +kernel)) ?_
  exact ⟨fun _ => h σ2 hI2, fun q => absurd rfl q⟩
theorem lc_31 (hI : Inv σ) (hj : j + 6 ≤ L) (hL : L ≤ 3072) (h : ∀ σ', Inv σ' → VW ML (XS L xs) K 1480 (LSj j) [] σ') : VW ML (XS L xs) K 1347 (LSj j) [] σ := by
  refine lw_o (i := 1) (k := 1) (a := 0) (by decide +kernel) rfl rfl ?_
  refine lw_a (k := 1) (n := 1) (by decide +kernel) (by decide +kernel) (by decide +kernel) (by decide +kernel) (by decide +kernel) (by decide +kernel) (by omega) (by omega) ?_
  refine lw_a (k := 2) (n := 2) (by decide +kernel) (by decide +kernel) (by decide +kernel) (by decide +kernel) (by decide +kernel) (by decide +kernel) (by omega) (by omega) ?_
  refine lw_a (k := 3) (n := 3) (by decide +kernel) (by decide +kernel) (by decide +kernel) (by decide +kernel) (by decide +kernel) (by decide +kernel) (by omega) (by omega) ?_
  refine lw_a (k := 4) (n := 4) (by decide +kernel) (by decide +kernel) (by decide +kernel) (by decide +kernel) (by decide +kernel) (by decide +kernel) (by omega) (by omega) ?_
  refine lw_a (k := 5) (n := 5) (by decide +kernel) (by decide +kernel) (by decide +kernel) (by decide +kernel) (by decide +kernel) (by decide +kernel) (by omega) (by omega) ?_
  refine Snd.use (snd_invV (M' := M8_copy) (ci := 8) (n := 5) (T := TX8) (by decide +kernel) wl_673 wl_674 wl_675 wd_1 wl_676 rfl (by decide +kernel) (by decide +kernel) (by decide +kernel)) ?_
  refine (show oc 0 = 8 ∧ wsum [] ≤ 8 ∧ VM M8_copy (.ref 0 :: [.int (xs (j + 1)), .int (xs (j + 2)), .int (xs (j + 3)), .int (xs (j + 4)), .int (xs (j + 5))]) σ (ctn (VW ML (XS L xs) K) 1376 (LSj j) []) from ⟨rfl, by decide, (st_copy hI).mono ?_⟩)
  rintro r σ1 ⟨v, rfl, h9⟩
  show VW ML (XS L xs) K 1376 (LSj j) [.int v] σ1
  refine lw_o (i := 2) (k := 2) (a := 35) (by decide +kernel) rfl rfl ?_
  refine lw_a (k := 1) (n := 1) (by decide +kernel) (by decide +kernel) (by decide +kernel) (by decide +kernel) (by decide +kernel) (by decide +kernel) (by omega) (by omega) ?_
  refine lw_a (k := 2) (n := 2) (by decide +kernel) (by decide +kernel) (by decide +kernel) (by decide +kernel) (by decide +kernel) (by decide +kernel) (by omega) (by omega) ?_
  refine lw_a (k := 3) (n := 3) (by decide +kernel) (by decide +kernel) (by decide +kernel) (by decide +kernel) (by decide +kernel) (by decide +kernel) (by omega) (by omega) ?_
  refine lw_a (k := 4) (n := 4) (by decide +kernel) (by decide +kernel) (by decide +kernel) (by decide +kernel) (by decide +kernel) (by decide +kernel) (by omega) (by omega) ?_
  refine lw_a (k := 5) (n := 5) (by decide +kernel) (by decide +kernel) (by decide +kernel) (by decide +kernel) (by decide +kernel) (by decide +kernel) (by omega) (by omega) ?_
  refine Snd.use (snd_invV (M' := M9_copy) (ci := 9) (n := 5) (T := TX9) (by decide +kernel) wl_1165 wl_1166 wl_1167 wd_10 wl_1168 rfl (by decide +kernel) (by decide +kernel) (by decide +kernel)) ?_
  refine (show oc 35 = 9 ∧ wsum [.int v] ≤ 8 ∧ VM M9_copy (.ref 35 :: [.int (xs (j + 1)), .int (xs (j + 2)), .int (xs (j + 3)), .int (xs (j + 4)), .int (xs (j + 5))]) σ1 (ctn (VW ML (XS L xs) K) 1405 (LSj j) [.int v]) from ⟨rfl, by show 1 + 0 ≤ 8; decide, h9.mono ?_⟩)
  rintro r σ2 ⟨rfl, hI2⟩
  show VW ML (XS L xs) K 1405 (LSj j) [.int v, .int v] σ2
  refine Snd.use (snd_ceq (off := 75) (tgt := 1480) (by decide +kernel) (by decide +kernel)) ?_
  exact ⟨fun _ => h σ2 hI2, fun q => absurd rfl q⟩
theorem lc_32 (hI : Inv σ) (hj : j + 6 ≤ L) (hL : L ≤ 3072) (h : ∀ σ', Inv σ' → VW ML (XS L xs) K 1480 (LSj j) [] σ') : VW ML (XS L xs) K 1410 (LSj j) [] σ := by
  refine lw_o (i := 1) (k := 1) (a := 0) (by decide +kernel) rfl rfl ?_
  refine lw_a (k := 1) (n := 1) (by decide +kernel) (by decide +kernel) (by decide +kernel) (by decide +kernel) (by decide +kernel) (by decide +kernel) (by omega) (by omega) ?_
  refine lw_a (k := 2) (n := 2) (by decide +kernel) (by decide +kernel) (by decide +kernel) (by decide +kernel) (by decide +kernel) (by decide +kernel) (by omega) (by omega) ?_
  refine Snd.use (snd_invV (M' := M8_write) (ci := 8) (n := 2) (T := TX8) (by decide +kernel) wl_684 wl_685 wl_686 wd_1 wl_687 rfl (by decide +kernel) (by decide +kernel) (by decide +kernel)) ?_
  refine (show oc 0 = 8 ∧ wsum [] ≤ 8 ∧ VM M8_write (.ref 0 :: [.int (xs (j + 1)), .int (xs (j + 2))]) σ (ctn (VW ML (XS L xs) K) 1424 (LSj j) []) from ⟨rfl, by decide, (st_write hI).mono ?_⟩)
  rintro r σ1 ⟨v, rfl, h9⟩
  show VW ML (XS L xs) K 1424 (LSj j) [.int v] σ1
  refine lw_o (i := 2) (k := 2) (a := 35) (by decide +kernel) rfl rfl ?_
  refine lw_a (k := 1) (n := 1) (by decide +kernel) (by decide +kernel) (by decide +kernel) (by decide +kernel) (by decide +kernel) (by decide +kernel) (by omega) (by omega) ?_
  refine lw_a (k := 2) (n := 2) (by decide +kernel) (by decide +kernel) (by decide +kernel) (by decide +kernel) (by decide +kernel) (by decide +kernel) (by omega) (by omega) ?_
  refine Snd.use (snd_invV (M' := M9_write) (ci := 9) (n := 2) (T := TX9) (by decide +kernel) wl_1169 wl_1170 wl_1171 wd_10 wl_1172 rfl (by decide +kernel) (by decide +kernel) (by decide +kernel)) ?_
  refine (show oc 35 = 9 ∧ wsum [.int v] ≤ 8 ∧ VM M9_write (.ref 35 :: [.int (xs (j + 1)), .int (xs (j + 2))]) σ1 (ctn (VW ML (XS L xs) K) 1438 (LSj j) [.int v]) from ⟨rfl, by show 1 + 0 ≤ 8; decide, h9.mono ?_⟩)
  rintro r σ2 ⟨rfl, hI2⟩
  show VW ML (XS L xs) K 1438 (LSj j) [.int v, .int v] σ2
  refine Snd.use (snd_ceq (off := 42) (tgt := 1480) (by decide +kernel) (by decide +kernel)) ?_
  exact ⟨fun _ => h σ2 hI2, fun q => absurd rfl q⟩
theorem lc_33 (hI : Inv σ) (hj : j + 6 ≤ L) (hL : L ≤ 3072) (h : ∀ σ', Inv σ' → VW ML (XS L xs) K 1480 (LSj j) [] σ') : VW ML (XS L xs) K 1443 (LSj j) [] σ := by
  refine lw_o (i := 1) (k := 1) (a := 0) (by decide +kernel) rfl rfl ?_
  refine lw_a (k := 1) (n := 1) (by decide +kernel) (by decide +kernel) (by decide +kernel) (by decide +kernel) (by decide +kernel) (by decide +kernel) (by omega) (by omega) ?_
  refine Snd.use (snd_invV (M' := M8_count) (ci := 8) (n := 1) (T := TX8) (by decide +kernel) wl_688 wd_689 wd_690 wd_1 wd_691 rfl (by decide +kernel) (by decide +kernel) (by decide +kernel)) ?_
  refine (show oc 0 = 8 ∧ wsum [] ≤ 8 ∧ VM M8_count (.ref 0 :: [.int (xs (j + 1))]) σ (ctn (VW ML (XS L xs) K) 1452 (LSj j) []) from ⟨rfl, by decide, (st_count hI).mono ?_⟩)
  rintro r σ1 ⟨v, rfl, h9⟩
  show VW ML (XS L xs) K 1452 (LSj j) [.int v] σ1
  refine lw_o (i := 2) (k := 2) (a := 35) (by decide +kernel) rfl rfl ?_
  refine lw_a (k := 1) (n := 1) (by decide +kernel) (by decide +kernel) (by decide +kernel) (by decide +kernel) (by decide +kernel) (by decide +kernel) (by omega) (by omega) ?_
  refine Snd.use (snd_invV (M' := M9_count) (ci := 9) (n := 1) (T := TX9) (by decide +kernel) wl_1173 wd_1174 wd_1175 wd_10 wd_1176 rfl (by decide +kernel) (by decide +kernel) (by decide +kernel)) ?_
  refine (show oc 35 = 9 ∧ wsum [.int v] ≤ 8 ∧ VM M9_count (.ref 35 :: [.int (xs (j + 1))]) σ1 (ctn (VW ML (XS L xs) K) 1461 (LSj j) [.int v]) from ⟨rfl, by show 1 + 0 ≤ 8; decide, h9.mono ?_⟩)
  rintro r σ2 ⟨rfl, hI2⟩
  show VW ML (XS L xs) K 1461 (LSj j) [.int v, .int v] σ2
  refine Snd.use (snd_ceq (off := 19) (tgt := 1480) (by decide +kernel) (by decide +kernel)) ?_
  exact ⟨fun _ => h σ2 hI2, fun q => absurd rfl q⟩
theorem lc_34 (hI : Inv σ) (hj : j + 6 ≤ L) (hL : L ≤ 3072) (h : ∀ σ', Inv σ' → VW ML (XS L xs) K 1480 (LSj j) [] σ') : VW ML (XS L xs) K 1466 (LSj j) [] σ := by
  refine lw_o (i := 1) (k := 1) (a := 0) (by decide +kernel) rfl rfl ?_
  refine Snd.use (snd_invV (M' := M8_digest) (ci := 8) (n := 0) (T := TX8) (by decide +kernel) wl_696 wl_697 wl_698 wd_1 wl_699 rfl (by decide +kernel) (by decide +kernel) (by decide +kernel)) ?_
  refine (show oc 0 = 8 ∧ wsum [] ≤ 8 ∧ VM M8_digest (.ref 0 :: []) σ (ctn (VW ML (XS L xs) K) 1470 (LSj j) []) from ⟨rfl, by decide, (st_digest hI).mono ?_⟩)
  rintro r σ1 ⟨v, rfl, h9⟩
  show VW ML (XS L xs) K 1470 (LSj j) [.long v] σ1
  refine lw_o (i := 2) (k := 2) (a := 35) (by decide +kernel) rfl rfl ?_
  refine Snd.use (snd_invV (M' := M9_digest) (ci := 9) (n := 0) (T := TX9) (by decide +kernel) wl_1181 wl_1182 wl_1183 wd_10 wl_1184 rfl (by decide +kernel) (by decide +kernel) (by decide +kernel)) ?_
  refine (show oc 35 = 9 ∧ wsum [.long v] ≤ 8 ∧ VM M9_digest (.ref 35 :: []) σ1 (ctn (VW ML (XS L xs) K) 1474 (LSj j) [.long v]) from ⟨rfl, by show 2 + 0 ≤ 8; decide, h9.mono ?_⟩)
  rintro r σ2 ⟨rfl, hI2⟩
  show VW ML (XS L xs) K 1474 (LSj j) [.long v, .long v] σ2
  refine Snd.use (snd_lcmp (by decide +kernel)) ?_
  show VW ML (XS L xs) K 1475 (LSj j) [.int (lg_cmp v v)] σ2
  refine Snd.use (snd_zeq (off := 5) (tgt := 1480) (by decide +kernel) (by decide +kernel)) ?_
  exact ⟨fun _ => h σ2 hI2, fun q => absurd (lcmp_self v) q⟩
theorem lw_neg : ∀ L, L < 6 → ∀ j, j ≤ L → nI L - 6 < nI j := by decide
theorem lw_loop (hL : L ≤ 3072) (hK : ∀ σ', K (some (.int 1)) σ') : ∀ (n j : Nat), j ≤ L → L < j + 6 * n → ∀ σ, Inv σ → VW ML (XS L xs) K 18 (LSj j) [] σ := by
  intro n
  have hend : ∀ j σ, VW ML (XS L xs) K 1486 (LSj j) [] σ := by
    intro j σ
    refine Snd.use (snd_iconst (M := ML) (n := 1) (v := 1) (by decide +kernel) (by decide +kernel)) ?_
    refine (show VW ML (XS L xs) K 1487 (LSj j) [.int 1] σ from ?_)
    exact Snd.use (snd_zret (M := ML) (by decide +kernel) rfl) ⟨Or.inr rfl, hK σ⟩
  induction n with
  | zero => intro j h1 h2; omega
  | succ n ih =>
    intro j hj hn σ hI
    refine Snd.use (snd_iload_n (M := ML) (k := 3) (i := 3) (by decide +kernel) rfl) ?_
    refine (show VW ML (XS L xs) K 19 (LSj j) [.int (nI j)] σ from ?_)
    refine lw_o (i := 0) (k := 0) (a := 62) (by decide +kernel) rfl rfl ?_
    refine lw_slen (by decide +kernel) ?_
    refine Snd.use (snd_bipush (M := ML) (n := 6) (v := 6) (by decide +kernel) (by decide +kernel)) ?_
    refine (show VW ML (XS L xs) K 23 (LSj j) [.int 6, .int (nI L), .int (nI j)] σ from ?_)
    refine Snd.use (snd_isub (M := ML) (by decide +kernel)) ?_
    refine (show VW ML (XS L xs) K 24 (LSj j) [.int (nI L - 6), .int (nI j)] σ from ?_)
    refine Snd.use (snd_cgt (M := ML) (off := 1462) (tgt := 1486) (by decide +kernel) (by decide +kernel)) ?_
    refine ⟨fun _ => hend j σ, fun q => ?_⟩
    have hj6 : j + 6 ≤ L := by
      rcases Nat.lt_or_ge L 6 with z | z
      · exact absurd (lw_neg L z j hj) q
      · rw [show (6 : Int32) = nI 6 from rfl, pk_sub z] at q
        rcases Nat.lt_or_ge L (j + 6) with y | y
        · exact absurd (nI_lt (show L - 6 < j by omega) (by omega)) q
        · exact y
    have hinc : ∀ σ', Inv σ' → VW ML (XS L xs) K 1480 (LSj j) [] σ' := by
      intro σ' hI'
      refine Snd.use (snd_iinc (M := ML) (i := 3) (n := 6) (d := nI 6) (by decide +kernel) (by decide +kernel) (by decide +kernel)) ?_
      refine (show VW ML (XS L xs) K 1483 [(3, .int (nI j + nI 6)), (2, .ref 35), (1, .ref 0), (0, .ref 62)] [] σ' from ?_)
      rw [nI_add]
      refine Snd.use (snd_goto (M := ML) (off := -1465) (tgt := 18) (by decide +kernel) (by decide +kernel)) ?_
      exact ih (j + 6) hj6 (by omega) σ' hI'
    show VW ML (XS L xs) K 27 (LSj j) [] σ
    refine lw_o (i := 0) (k := 0) (a := 62) (by decide +kernel) rfl rfl ?_
    refine Snd.use (snd_iload_n (M := ML) (k := 3) (i := 3) (by decide +kernel) rfl) ?_
    refine (show VW ML (XS L xs) K 29 (LSj j) [.int (nI j), .ref 62] σ from ?_)
    refine lw_sld (by decide +kernel) (vp_in_nI (by omega) (by omega)) ?_
    refine Snd.use (snd_bipush (M := ML) (n := 63) (v := 63) (by decide +kernel) (by decide +kernel)) ?_
    refine (show VW ML (XS L xs) K 32 (LSj j) [.int 63, .int (xs (nI j).toNatClampNeg)] σ from ?_)
    refine Snd.use (snd_iand (M := ML) (by decide +kernel)) ?_
    refine (show VW ML (XS L xs) K 33 (LSj j) [.int (xs (nI j).toNatClampNeg &&& 63)] σ from ?_)
    refine Snd.use (snd_tsw (M := ML) (dflt := 1480) (ts := [188, 221, 244, 267, 290, 323, 356, 389, 422, 455, 488, 511, 555, 608, 671, 705, 739, 752, 786, 809, 842, 876, 910, 963, 1026, 1089, 1142, 1185, 1228, 1251, 1304, 1347, 1410, 1443, 1466]) (d := 1447) (hi := 34) (offs := #[155, 188, 211, 234, 257, 290, 323, 356, 389, 422, 455, 478, 522, 575, 638, 672, 706, 719, 753, 776, 809, 843, 877, 930, 993, 1056, 1109, 1152, 1195, 1218, 1271, 1314, 1377, 1410, 1433]) (len := 155) (by decide +kernel) (by decide +kernel) (by decide +kernel) (by decide +kernel) (by decide +kernel)) ?_
    exact ⟨⟨fun _ => lc_0 hI hj6 hL hinc, fun _ => lc_1 hI hj6 hL hinc, fun _ => lc_2 hI hj6 hL hinc, fun _ => lc_3 hI hj6 hL hinc, fun _ => lc_4 hI hj6 hL hinc, fun _ => lc_5 hI hj6 hL hinc, fun _ => lc_6 hI hj6 hL hinc, fun _ => lc_7 hI hj6 hL hinc, fun _ => lc_8 hI hj6 hL hinc, fun _ => lc_9 hI hj6 hL hinc, fun _ => lc_10 hI hj6 hL hinc, fun _ => lc_11 hI hj6 hL hinc, fun _ => lc_12 hI hj6 hL hinc, fun _ => lc_13 hI hj6 hL hinc, fun _ => lc_14 hI hj6 hL hinc, fun _ => lc_15 hI hj6 hL hinc, fun _ => lc_16 hI hj6 hL hinc, fun _ => lc_17 hI hj6 hL hinc, fun _ => lc_18 hI hj6 hL hinc, fun _ => lc_19 hI hj6 hL hinc, fun _ => lc_20 hI hj6 hL hinc, fun _ => lc_21 hI hj6 hL hinc, fun _ => lc_22 hI hj6 hL hinc, fun _ => lc_23 hI hj6 hL hinc, fun _ => lc_24 hI hj6 hL hinc, fun _ => lc_25 hI hj6 hL hinc, fun _ => lc_26 hI hj6 hL hinc, fun _ => lc_27 hI hj6 hL hinc, fun _ => lc_28 hI hj6 hL hinc, fun _ => lc_29 hI hj6 hL hinc, fun _ => lc_30 hI hj6 hL hinc, fun _ => lc_31 hI hj6 hL hinc, fun _ => lc_32 hI hj6 hL hinc, fun _ => lc_33 hI hj6 hL hinc, fun _ => lc_34 hI hj6 hL hinc, trivial⟩, fun _ => hinc σ hI⟩
end
