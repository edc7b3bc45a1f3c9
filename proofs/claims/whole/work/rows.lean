section
-- ===== PART A: goes FIRST, ahead of the names: the tables' words, and 'selects' of the private methods out of them =====
/-- a private method of a class that the tables say can be made, by its rows of tables_1 -/
def lw_okq (q : MethodName × Nat) : Prop := (q.1.cls ≠ "java/lang/invoke/MethodHandle" ∧ q.1.cls ≠ "java/lang/invoke/VarHandle") ∧ Cond.instantiable q.1.cls q.2 ∈ tables_1 ∧ Cond.privateMethod q.1 ∈ tables_1 ∧ Cond.instanceMethod q.1 ∈ tables_1
theorem lw_p0 : lw_okq (⟨"HintPlacer$History", "beginOf", "(I)I"⟩, 3) := ⟨⟨by decide +kernel, by decide +kernel⟩, List.mem_of_getElem? (i := 48) (by decide +kernel), List.mem_of_getElem? (i := 229) (by decide +kernel), List.mem_of_getElem? (i := 230) (by decide +kernel)⟩
theorem lw_p1 : lw_okq (⟨"HintPlacer$Showing", "orderOpenHints", "(LHintPlacer$State;)I"⟩, 8) := ⟨⟨by decide +kernel, by decide +kernel⟩, List.mem_of_getElem? (i := 67) (by decide +kernel), List.mem_of_getElem? (i := 249) (by decide +kernel), List.mem_of_getElem? (i := 250) (by decide +kernel)⟩
theorem lw_p2 : lw_okq (⟨"HintPlacer$State", "goesBefore", "(II)Z"⟩, 1) := ⟨⟨by decide +kernel, by decide +kernel⟩, List.mem_of_getElem? (i := 20) (by decide +kernel), List.mem_of_getElem? (i := 272) (by decide +kernel), List.mem_of_getElem? (i := 273) (by decide +kernel)⟩
theorem lw_p3 : lw_okq (⟨"HintPlacer$Showing", "tryToShow", "(LHintPlacer$State;I)I"⟩, 8) := ⟨⟨by decide +kernel, by decide +kernel⟩, List.mem_of_getElem? (i := 67) (by decide +kernel), List.mem_of_getElem? (i := 277) (by decide +kernel), List.mem_of_getElem? (i := 278) (by decide +kernel)⟩
theorem lw_p4 : lw_okq (⟨"HintPlacer$Tries", "add", "(I)V"⟩, 2) := ⟨⟨by decide +kernel, by decide +kernel⟩, List.mem_of_getElem? (i := 75) (by decide +kernel), List.mem_of_getElem? (i := 307) (by decide +kernel), List.mem_of_getElem? (i := 308) (by decide +kernel)⟩
theorem lw_p5 : lw_okq (⟨"HintPlacer$Showing", "isFree", "(LHintPlacer$State;I)Z"⟩, 8) := ⟨⟨by decide +kernel, by decide +kernel⟩, List.mem_of_getElem? (i := 67) (by decide +kernel), List.mem_of_getElem? (i := 356) (by decide +kernel), List.mem_of_getElem? (i := 357) (by decide +kernel)⟩
theorem lw_p6 : lw_okq (⟨"HintPlacer", "canMoveView", "(II)Z"⟩, 6) := ⟨⟨by decide +kernel, by decide +kernel⟩, List.mem_of_getElem? (i := 12) (by decide +kernel), List.mem_of_getElem? (i := 373) (by decide +kernel), List.mem_of_getElem? (i := 374) (by decide +kernel)⟩
theorem lw_p7 : lw_okq (⟨"HintPlacer", "moveView", "(II)V"⟩, 6) := ⟨⟨by decide +kernel, by decide +kernel⟩, List.mem_of_getElem? (i := 12) (by decide +kernel), List.mem_of_getElem? (i := 378) (by decide +kernel), List.mem_of_getElem? (i := 379) (by decide +kernel)⟩
theorem lw_p8 : lw_okq (⟨"HintPlacer", "isAnchor", "(I)Z"⟩, 6) := ⟨⟨by decide +kernel, by decide +kernel⟩, List.mem_of_getElem? (i := 12) (by decide +kernel), List.mem_of_getElem? (i := 397) (by decide +kernel), List.mem_of_getElem? (i := 398) (by decide +kernel)⟩
theorem lw_p9 : lw_okq (⟨"HintPlacer", "countHintsOf", "(IZ)I"⟩, 6) := ⟨⟨by decide +kernel, by decide +kernel⟩, List.mem_of_getElem? (i := 12) (by decide +kernel), List.mem_of_getElem? (i := 406) (by decide +kernel), List.mem_of_getElem? (i := 407) (by decide +kernel)⟩
theorem lw_p10 : lw_okq (⟨"HintPlacer", "countOpen", "()I"⟩, 6) := ⟨⟨by decide +kernel, by decide +kernel⟩, List.mem_of_getElem? (i := 12) (by decide +kernel), List.mem_of_getElem? (i := 426) (by decide +kernel), List.mem_of_getElem? (i := 427) (by decide +kernel)⟩
theorem lw_p11 : lw_okq (⟨"HintPlacer", "countRemembered", "()I"⟩, 6) := ⟨⟨by decide +kernel, by decide +kernel⟩, List.mem_of_getElem? (i := 12) (by decide +kernel), List.mem_of_getElem? (i := 431) (by decide +kernel), List.mem_of_getElem? (i := 432) (by decide +kernel)⟩
theorem lw_p12 : lw_okq (⟨"HintPlacer", "countCovered", "()I"⟩, 6) := ⟨⟨by decide +kernel, by decide +kernel⟩, List.mem_of_getElem? (i := 12) (by decide +kernel), List.mem_of_getElem? (i := 435) (by decide +kernel), List.mem_of_getElem? (i := 436) (by decide +kernel)⟩
theorem lw_p13 : lw_okq (⟨"HintPlacer", "highestValue", "(I)I"⟩, 6) := ⟨⟨by decide +kernel, by decide +kernel⟩, List.mem_of_getElem? (i := 12) (by decide +kernel), List.mem_of_getElem? (i := 446) (by decide +kernel), List.mem_of_getElem? (i := 447) (by decide +kernel)⟩
theorem lw_p14 : lw_okq (⟨"HintPlacer", "isHint", "(I)Z"⟩, 6) := ⟨⟨by decide +kernel, by decide +kernel⟩, List.mem_of_getElem? (i := 12) (by decide +kernel), List.mem_of_getElem? (i := 458) (by decide +kernel), List.mem_of_getElem? (i := 459) (by decide +kernel)⟩
theorem lw_p15 : lw_okq (⟨"HintPlacer", "openHint", "(I)V"⟩, 6) := ⟨⟨by decide +kernel, by decide +kernel⟩, List.mem_of_getElem? (i := 12) (by decide +kernel), List.mem_of_getElem? (i := 469) (by decide +kernel), List.mem_of_getElem? (i := 470) (by decide +kernel)⟩
def lw_privs_1 : List (MethodName × Nat) := [(⟨"HintPlacer$History", "beginOf", "(I)I"⟩, 3), (⟨"HintPlacer$Showing", "orderOpenHints", "(LHintPlacer$State;)I"⟩, 8), (⟨"HintPlacer$State", "goesBefore", "(II)Z"⟩, 1), (⟨"HintPlacer$Showing", "tryToShow", "(LHintPlacer$State;I)I"⟩, 8), (⟨"HintPlacer$Tries", "add", "(I)V"⟩, 2), (⟨"HintPlacer$Showing", "isFree", "(LHintPlacer$State;I)Z"⟩, 8), (⟨"HintPlacer", "canMoveView", "(II)Z"⟩, 6), (⟨"HintPlacer", "moveView", "(II)V"⟩, 6), (⟨"HintPlacer", "isAnchor", "(I)Z"⟩, 6), (⟨"HintPlacer", "countHintsOf", "(IZ)I"⟩, 6), (⟨"HintPlacer", "countOpen", "()I"⟩, 6), (⟨"HintPlacer", "countRemembered", "()I"⟩, 6), (⟨"HintPlacer", "countCovered", "()I"⟩, 6), (⟨"HintPlacer", "highestValue", "(I)I"⟩, 6), (⟨"HintPlacer", "isHint", "(I)Z"⟩, 6), (⟨"HintPlacer", "openHint", "(I)V"⟩, 6)]
theorem lw_r1 : ∀ q ∈ lw_privs_1, lw_okq q := List.forall_mem_cons.mpr ⟨lw_p0, List.forall_mem_cons.mpr ⟨lw_p1, List.forall_mem_cons.mpr ⟨lw_p2, List.forall_mem_cons.mpr ⟨lw_p3, List.forall_mem_cons.mpr ⟨lw_p4, List.forall_mem_cons.mpr ⟨lw_p5, List.forall_mem_cons.mpr ⟨lw_p6, List.forall_mem_cons.mpr ⟨lw_p7, List.forall_mem_cons.mpr ⟨lw_p8, List.forall_mem_cons.mpr ⟨lw_p9, List.forall_mem_cons.mpr ⟨lw_p10, List.forall_mem_cons.mpr ⟨lw_p11, List.forall_mem_cons.mpr ⟨lw_p12, List.forall_mem_cons.mpr ⟨lw_p13, List.forall_mem_cons.mpr ⟨lw_p14, List.forall_mem_cons.mpr ⟨lw_p15, fun _ h => absurd h List.not_mem_nil⟩⟩⟩⟩⟩⟩⟩⟩⟩⟩⟩⟩⟩⟩⟩⟩
theorem lw_p16 : lw_okq (⟨"HintPlacer", "closeHint", "(I)V"⟩, 6) := ⟨⟨by decide +kernel, by decide +kernel⟩, List.mem_of_getElem? (i := 12) (by decide +kernel), List.mem_of_getElem? (i := 477) (by decide +kernel), List.mem_of_getElem? (i := 478) (by decide +kernel)⟩
theorem lw_p17 : lw_okq (⟨"HintPlacer", "rememberSides", "()I"⟩, 6) := ⟨⟨by decide +kernel, by decide +kernel⟩, List.mem_of_getElem? (i := 12) (by decide +kernel), List.mem_of_getElem? (i := 485) (by decide +kernel), List.mem_of_getElem? (i := 486) (by decide +kernel)⟩
theorem lw_p18 : lw_okq (⟨"HintPlacer", "shownValue", "(II)I"⟩, 6) := ⟨⟨by decide +kernel, by decide +kernel⟩, List.mem_of_getElem? (i := 12) (by decide +kernel), List.mem_of_getElem? (i := 494) (by decide +kernel), List.mem_of_getElem? (i := 495) (by decide +kernel)⟩
theorem lw_p19 : lw_okq (⟨"HintPlacer", "isInSightOnATry", "(III)Z"⟩, 6) := ⟨⟨by decide +kernel, by decide +kernel⟩, List.mem_of_getElem? (i := 12) (by decide +kernel), List.mem_of_getElem? (i := 518) (by decide +kernel), List.mem_of_getElem? (i := 519) (by decide +kernel)⟩
theorem lw_p20 : lw_okq (⟨"HintPlacer$Orders", "signAt", "(I)I"⟩, 8) := ⟨⟨by decide +kernel, by decide +kernel⟩, List.mem_of_getElem? (i := 156) (by decide +kernel), List.mem_of_getElem? (i := 559) (by decide +kernel), List.mem_of_getElem? (i := 560) (by decide +kernel)⟩
theorem lw_p21 : lw_okq (⟨"HintPlacer$Orders", "readHint", "()Z"⟩, 8) := ⟨⟨by decide +kernel, by decide +kernel⟩, List.mem_of_getElem? (i := 156) (by decide +kernel), List.mem_of_getElem? (i := 564) (by decide +kernel), List.mem_of_getElem? (i := 565) (by decide +kernel)⟩
theorem lw_p22 : lw_okq (⟨"HintPlacer$Orders", "readDigits", "(I)Z"⟩, 8) := ⟨⟨by decide +kernel, by decide +kernel⟩, List.mem_of_getElem? (i := 156) (by decide +kernel), List.mem_of_getElem? (i := 568) (by decide +kernel), List.mem_of_getElem? (i := 569) (by decide +kernel)⟩
theorem lw_p23 : lw_okq (⟨"HintPlacer$Orders", "pass", "(C)Z"⟩, 8) := ⟨⟨by decide +kernel, by decide +kernel⟩, List.mem_of_getElem? (i := 156) (by decide +kernel), List.mem_of_getElem? (i := 575) (by decide +kernel), List.mem_of_getElem? (i := 576) (by decide +kernel)⟩
theorem lw_p24 : lw_okq (⟨"HintPlacer$Orders", "readMove", "()Z"⟩, 8) := ⟨⟨by decide +kernel, by decide +kernel⟩, List.mem_of_getElem? (i := 156) (by decide +kernel), List.mem_of_getElem? (i := 579) (by decide +kernel), List.mem_of_getElem? (i := 580) (by decide +kernel)⟩
theorem lw_p25 : lw_okq (⟨"HintPlacer$Orders", "readSigned", "()Z"⟩, 8) := ⟨⟨by decide +kernel, by decide +kernel⟩, List.mem_of_getElem? (i := 156) (by decide +kernel), List.mem_of_getElem? (i := 583) (by decide +kernel), List.mem_of_getElem? (i := 584) (by decide +kernel)⟩
theorem lw_p26 : lw_okq (⟨"HintPlacer", "carryOrder", "()Z"⟩, 6) := ⟨⟨by decide +kernel, by decide +kernel⟩, List.mem_of_getElem? (i := 12) (by decide +kernel), List.mem_of_getElem? (i := 592) (by decide +kernel), List.mem_of_getElem? (i := 593) (by decide +kernel)⟩
theorem lw_p27 : lw_okq (⟨"HintPlacerModel", "records", "()V"⟩, 21) := ⟨⟨by decide +kernel, by decide +kernel⟩, List.mem_of_getElem? (i := 596) (by decide +kernel), List.mem_of_getElem? (i := 674) (by decide +kernel), List.mem_of_getElem? (i := 675) (by decide +kernel)⟩
theorem lw_p28 : lw_okq (⟨"HintPlacerModel", "many", "()I"⟩, 21) := ⟨⟨by decide +kernel, by decide +kernel⟩, List.mem_of_getElem? (i := 596) (by decide +kernel), List.mem_of_getElem? (i := 678) (by decide +kernel), List.mem_of_getElem? (i := 679) (by decide +kernel)⟩
theorem lw_p29 : lw_okq (⟨"HintPlacerModel", "shows", "()V"⟩, 21) := ⟨⟨by decide +kernel, by decide +kernel⟩, List.mem_of_getElem? (i := 596) (by decide +kernel), List.mem_of_getElem? (i := 682) (by decide +kernel), List.mem_of_getElem? (i := 683) (by decide +kernel)⟩
theorem lw_p30 : lw_okq (⟨"HintPlacerModel", "sorts", "()V"⟩, 21) := ⟨⟨by decide +kernel, by decide +kernel⟩, List.mem_of_getElem? (i := 596) (by decide +kernel), List.mem_of_getElem? (i := 686) (by decide +kernel), List.mem_of_getElem? (i := 687) (by decide +kernel)⟩
theorem lw_p31 : lw_okq (⟨"HintPlacerModel", "ofHint", "(II)I"⟩, 21) := ⟨⟨by decide +kernel, by decide +kernel⟩, List.mem_of_getElem? (i := 596) (by decide +kernel), List.mem_of_getElem? (i := 690) (by decide +kernel), List.mem_of_getElem? (i := 691) (by decide +kernel)⟩
def lw_privs_2 : List (MethodName × Nat) := [(⟨"HintPlacer", "closeHint", "(I)V"⟩, 6), (⟨"HintPlacer", "rememberSides", "()I"⟩, 6), (⟨"HintPlacer", "shownValue", "(II)I"⟩, 6), (⟨"HintPlacer", "isInSightOnATry", "(III)Z"⟩, 6), (⟨"HintPlacer$Orders", "signAt", "(I)I"⟩, 8), (⟨"HintPlacer$Orders", "readHint", "()Z"⟩, 8), (⟨"HintPlacer$Orders", "readDigits", "(I)Z"⟩, 8), (⟨"HintPlacer$Orders", "pass", "(C)Z"⟩, 8), (⟨"HintPlacer$Orders", "readMove", "()Z"⟩, 8), (⟨"HintPlacer$Orders", "readSigned", "()Z"⟩, 8), (⟨"HintPlacer", "carryOrder", "()Z"⟩, 6), (⟨"HintPlacerModel", "records", "()V"⟩, 21), (⟨"HintPlacerModel", "many", "()I"⟩, 21), (⟨"HintPlacerModel", "shows", "()V"⟩, 21), (⟨"HintPlacerModel", "sorts", "()V"⟩, 21), (⟨"HintPlacerModel", "ofHint", "(II)I"⟩, 21)]
theorem lw_r2 : ∀ q ∈ lw_privs_2, lw_okq q := List.forall_mem_cons.mpr ⟨lw_p16, List.forall_mem_cons.mpr ⟨lw_p17, List.forall_mem_cons.mpr ⟨lw_p18, List.forall_mem_cons.mpr ⟨lw_p19, List.forall_mem_cons.mpr ⟨lw_p20, List.forall_mem_cons.mpr ⟨lw_p21, List.forall_mem_cons.mpr ⟨lw_p22, List.forall_mem_cons.mpr ⟨lw_p23, List.forall_mem_cons.mpr ⟨lw_p24, List.forall_mem_cons.mpr ⟨lw_p25, List.forall_mem_cons.mpr ⟨lw_p26, List.forall_mem_cons.mpr ⟨lw_p27, List.forall_mem_cons.mpr ⟨lw_p28, List.forall_mem_cons.mpr ⟨lw_p29, List.forall_mem_cons.mpr ⟨lw_p30, List.forall_mem_cons.mpr ⟨lw_p31, fun _ h => absurd h List.not_mem_nil⟩⟩⟩⟩⟩⟩⟩⟩⟩⟩⟩⟩⟩⟩⟩⟩
theorem lw_p32 : lw_okq (⟨"HintPlacerModel", "isSeen", "(I)Z"⟩, 21) := ⟨⟨by decide +kernel, by decide +kernel⟩, List.mem_of_getElem? (i := 596) (by decide +kernel), List.mem_of_getElem? (i := 694) (by decide +kernel), List.mem_of_getElem? (i := 695) (by decide +kernel)⟩
theorem lw_p33 : lw_okq (⟨"HintPlacerModel", "ofAnchor", "(II)I"⟩, 21) := ⟨⟨by decide +kernel, by decide +kernel⟩, List.mem_of_getElem? (i := 596) (by decide +kernel), List.mem_of_getElem? (i := 698) (by decide +kernel), List.mem_of_getElem? (i := 699) (by decide +kernel)⟩
theorem lw_p34 : lw_okq (⟨"HintPlacerModel", "finds", "(I)V"⟩, 21) := ⟨⟨by decide +kernel, by decide +kernel⟩, List.mem_of_getElem? (i := 596) (by decide +kernel), List.mem_of_getElem? (i := 705) (by decide +kernel), List.mem_of_getElem? (i := 706) (by decide +kernel)⟩
theorem lw_p35 : lw_okq (⟨"HintPlacerModel", "lists", "(I)V"⟩, 21) := ⟨⟨by decide +kernel, by decide +kernel⟩, List.mem_of_getElem? (i := 596) (by decide +kernel), List.mem_of_getElem? (i := 709) (by decide +kernel), List.mem_of_getElem? (i := 710) (by decide +kernel)⟩
theorem lw_p36 : lw_okq (⟨"HintPlacerModel", "addTry", "(I)V"⟩, 21) := ⟨⟨by decide +kernel, by decide +kernel⟩, List.mem_of_getElem? (i := 596) (by decide +kernel), List.mem_of_getElem? (i := 713) (by decide +kernel), List.mem_of_getElem? (i := 714) (by decide +kernel)⟩
theorem lw_p37 : lw_okq (⟨"HintPlacerModel", "isIn", "(II)Z"⟩, 21) := ⟨⟨by decide +kernel, by decide +kernel⟩, List.mem_of_getElem? (i := 596) (by decide +kernel), List.mem_of_getElem? (i := 717) (by decide +kernel), List.mem_of_getElem? (i := 718) (by decide +kernel)⟩
theorem lw_p38 : lw_okq (⟨"HintPlacerModel", "places", "(II)V"⟩, 21) := ⟨⟨by decide +kernel, by decide +kernel⟩, List.mem_of_getElem? (i := 596) (by decide +kernel), List.mem_of_getElem? (i := 721) (by decide +kernel), List.mem_of_getElem? (i := 722) (by decide +kernel)⟩
theorem lw_p39 : lw_okq (⟨"HintPlacerModel", "shift", "(IIIII)I"⟩, 21) := ⟨⟨by decide +kernel, by decide +kernel⟩, List.mem_of_getElem? (i := 596) (by decide +kernel), List.mem_of_getElem? (i := 728) (by decide +kernel), List.mem_of_getElem? (i := 729) (by decide +kernel)⟩
theorem lw_p40 : lw_okq (⟨"HintPlacerModel", "isGood", "(II)Z"⟩, 21) := ⟨⟨by decide +kernel, by decide +kernel⟩, List.mem_of_getElem? (i := 596) (by decide +kernel), List.mem_of_getElem? (i := 732) (by decide +kernel), List.mem_of_getElem? (i := 733) (by decide +kernel)⟩
theorem lw_p41 : lw_okq (⟨"HintPlacerModel", "isBarred", "(I)Z"⟩, 21) := ⟨⟨by decide +kernel, by decide +kernel⟩, List.mem_of_getElem? (i := 596) (by decide +kernel), List.mem_of_getElem? (i := 736) (by decide +kernel), List.mem_of_getElem? (i := 737) (by decide +kernel)⟩
theorem lw_p42 : lw_okq (⟨"HintPlacerModel", "canScroll", "(II)Z"⟩, 21) := ⟨⟨by decide +kernel, by decide +kernel⟩, List.mem_of_getElem? (i := 596) (by decide +kernel), List.mem_of_getElem? (i := 744) (by decide +kernel), List.mem_of_getElem? (i := 745) (by decide +kernel)⟩
theorem lw_p43 : lw_okq (⟨"HintPlacerModel", "isAnchor", "(I)Z"⟩, 21) := ⟨⟨by decide +kernel, by decide +kernel⟩, List.mem_of_getElem? (i := 596) (by decide +kernel), List.mem_of_getElem? (i := 756) (by decide +kernel), List.mem_of_getElem? (i := 757) (by decide +kernel)⟩
theorem lw_p44 : lw_okq (⟨"HintPlacerModel", "covered", "(Z)I"⟩, 21) := ⟨⟨by decide +kernel, by decide +kernel⟩, List.mem_of_getElem? (i := 596) (by decide +kernel), List.mem_of_getElem? (i := 775) (by decide +kernel), List.mem_of_getElem? (i := 776) (by decide +kernel)⟩
theorem lw_p45 : lw_okq (⟨"HintPlacerModel", "isHint", "(I)Z"⟩, 21) := ⟨⟨by decide +kernel, by decide +kernel⟩, List.mem_of_getElem? (i := 596) (by decide +kernel), List.mem_of_getElem? (i := 787) (by decide +kernel), List.mem_of_getElem? (i := 788) (by decide +kernel)⟩
theorem lw_p46 : lw_okq (⟨"HintPlacerModel", "isOf", "(II)Z"⟩, 21) := ⟨⟨by decide +kernel, by decide +kernel⟩, List.mem_of_getElem? (i := 596) (by decide +kernel), List.mem_of_getElem? (i := 791) (by decide +kernel), List.mem_of_getElem? (i := 792) (by decide +kernel)⟩
theorem lw_p47 : lw_okq (⟨"HintPlacerModel", "placeOf", "(I)I"⟩, 21) := ⟨⟨by decide +kernel, by decide +kernel⟩, List.mem_of_getElem? (i := 596) (by decide +kernel), List.mem_of_getElem? (i := 799) (by decide +kernel), List.mem_of_getElem? (i := 800) (by decide +kernel)⟩
def lw_privs_3 : List (MethodName × Nat) := [(⟨"HintPlacerModel", "isSeen", "(I)Z"⟩, 21), (⟨"HintPlacerModel", "ofAnchor", "(II)I"⟩, 21), (⟨"HintPlacerModel", "finds", "(I)V"⟩, 21), (⟨"HintPlacerModel", "lists", "(I)V"⟩, 21), (⟨"HintPlacerModel", "addTry", "(I)V"⟩, 21), (⟨"HintPlacerModel", "isIn", "(II)Z"⟩, 21), (⟨"HintPlacerModel", "places", "(II)V"⟩, 21), (⟨"HintPlacerModel", "shift", "(IIIII)I"⟩, 21), (⟨"HintPlacerModel", "isGood", "(II)Z"⟩, 21), (⟨"HintPlacerModel", "isBarred", "(I)Z"⟩, 21), (⟨"HintPlacerModel", "canScroll", "(II)Z"⟩, 21), (⟨"HintPlacerModel", "isAnchor", "(I)Z"⟩, 21), (⟨"HintPlacerModel", "covered", "(Z)I"⟩, 21), (⟨"HintPlacerModel", "isHint", "(I)Z"⟩, 21), (⟨"HintPlacerModel", "isOf", "(II)Z"⟩, 21), (⟨"HintPlacerModel", "placeOf", "(I)I"⟩, 21)]
theorem lw_r3 : ∀ q ∈ lw_privs_3, lw_okq q := List.forall_mem_cons.mpr ⟨lw_p32, List.forall_mem_cons.mpr ⟨lw_p33, List.forall_mem_cons.mpr ⟨lw_p34, List.forall_mem_cons.mpr ⟨lw_p35, List.forall_mem_cons.mpr ⟨lw_p36, List.forall_mem_cons.mpr ⟨lw_p37, List.forall_mem_cons.mpr ⟨lw_p38, List.forall_mem_cons.mpr ⟨lw_p39, List.forall_mem_cons.mpr ⟨lw_p40, List.forall_mem_cons.mpr ⟨lw_p41, List.forall_mem_cons.mpr ⟨lw_p42, List.forall_mem_cons.mpr ⟨lw_p43, List.forall_mem_cons.mpr ⟨lw_p44, List.forall_mem_cons.mpr ⟨lw_p45, List.forall_mem_cons.mpr ⟨lw_p46, List.forall_mem_cons.mpr ⟨lw_p47, fun _ h => absurd h List.not_mem_nil⟩⟩⟩⟩⟩⟩⟩⟩⟩⟩⟩⟩⟩⟩⟩⟩
theorem lw_p48 : lw_okq (⟨"HintPlacerModel", "opens", "(I)V"⟩, 21) := ⟨⟨by decide +kernel, by decide +kernel⟩, List.mem_of_getElem? (i := 596) (by decide +kernel), List.mem_of_getElem? (i := 803) (by decide +kernel), List.mem_of_getElem? (i := 804) (by decide +kernel)⟩
theorem lw_p49 : lw_okq (⟨"HintPlacerModel", "closes", "(I)V"⟩, 21) := ⟨⟨by decide +kernel, by decide +kernel⟩, List.mem_of_getElem? (i := 596) (by decide +kernel), List.mem_of_getElem? (i := 811) (by decide +kernel), List.mem_of_getElem? (i := 812) (by decide +kernel)⟩
theorem lw_p50 : lw_okq (⟨"HintPlacerModel", "settles", "()I"⟩, 21) := ⟨⟨by decide +kernel, by decide +kernel⟩, List.mem_of_getElem? (i := 596) (by decide +kernel), List.mem_of_getElem? (i := 819) (by decide +kernel), List.mem_of_getElem? (i := 820) (by decide +kernel)⟩
theorem lw_p51 : lw_okq (⟨"HintPlacerModel", "orderOf", "(I)I"⟩, 21) := ⟨⟨by decide +kernel, by decide +kernel⟩, List.mem_of_getElem? (i := 596) (by decide +kernel), List.mem_of_getElem? (i := 827) (by decide +kernel), List.mem_of_getElem? (i := 828) (by decide +kernel)⟩
theorem lw_p52 : lw_okq (⟨"HintPlacerModel", "faulty", "()I"⟩, 21) := ⟨⟨by decide +kernel, by decide +kernel⟩, List.mem_of_getElem? (i := 596) (by decide +kernel), List.mem_of_getElem? (i := 863) (by decide +kernel), List.mem_of_getElem? (i := 864) (by decide +kernel)⟩
theorem lw_p53 : lw_okq (⟨"HintPlacerModel", "readsOrder", "()Z"⟩, 21) := ⟨⟨by decide +kernel, by decide +kernel⟩, List.mem_of_getElem? (i := 596) (by decide +kernel), List.mem_of_getElem? (i := 867) (by decide +kernel), List.mem_of_getElem? (i := 868) (by decide +kernel)⟩
theorem lw_p54 : lw_okq (⟨"HintPlacerModel", "readsForm", "()Z"⟩, 21) := ⟨⟨by decide +kernel, by decide +kernel⟩, List.mem_of_getElem? (i := 596) (by decide +kernel), List.mem_of_getElem? (i := 871) (by decide +kernel), List.mem_of_getElem? (i := 872) (by decide +kernel)⟩
theorem lw_p55 : lw_okq (⟨"HintPlacerModel", "readsNumber", "(I)Z"⟩, 21) := ⟨⟨by decide +kernel, by decide +kernel⟩, List.mem_of_getElem? (i := 596) (by decide +kernel), List.mem_of_getElem? (i := 875) (by decide +kernel), List.mem_of_getElem? (i := 876) (by decide +kernel)⟩
theorem lw_p56 : lw_okq (⟨"HintPlacerModel", "readsSigned", "()Z"⟩, 21) := ⟨⟨by decide +kernel, by decide +kernel⟩, List.mem_of_getElem? (i := 596) (by decide +kernel), List.mem_of_getElem? (i := 879) (by decide +kernel), List.mem_of_getElem? (i := 880) (by decide +kernel)⟩
theorem lw_p57 : lw_okq (⟨"HintPlacerModel", "passes", "(C)Z"⟩, 21) := ⟨⟨by decide +kernel, by decide +kernel⟩, List.mem_of_getElem? (i := 596) (by decide +kernel), List.mem_of_getElem? (i := 883) (by decide +kernel), List.mem_of_getElem? (i := 884) (by decide +kernel)⟩
theorem lw_p58 : lw_okq (⟨"HintPlacerModel", "carries", "()Z"⟩, 21) := ⟨⟨by decide +kernel, by decide +kernel⟩, List.mem_of_getElem? (i := 596) (by decide +kernel), List.mem_of_getElem? (i := 891) (by decide +kernel), List.mem_of_getElem? (i := 892) (by decide +kernel)⟩
def lw_privs_4 : List (MethodName × Nat) := [(⟨"HintPlacerModel", "opens", "(I)V"⟩, 21), (⟨"HintPlacerModel", "closes", "(I)V"⟩, 21), (⟨"HintPlacerModel", "settles", "()I"⟩, 21), (⟨"HintPlacerModel", "orderOf", "(I)I"⟩, 21), (⟨"HintPlacerModel", "faulty", "()I"⟩, 21), (⟨"HintPlacerModel", "readsOrder", "()Z"⟩, 21), (⟨"HintPlacerModel", "readsForm", "()Z"⟩, 21), (⟨"HintPlacerModel", "readsNumber", "(I)Z"⟩, 21), (⟨"HintPlacerModel", "readsSigned", "()Z"⟩, 21), (⟨"HintPlacerModel", "passes", "(C)Z"⟩, 21), (⟨"HintPlacerModel", "carries", "()Z"⟩, 21)]
theorem lw_r4 : ∀ q ∈ lw_privs_4, lw_okq q := List.forall_mem_cons.mpr ⟨lw_p48, List.forall_mem_cons.mpr ⟨lw_p49, List.forall_mem_cons.mpr ⟨lw_p50, List.forall_mem_cons.mpr ⟨lw_p51, List.forall_mem_cons.mpr ⟨lw_p52, List.forall_mem_cons.mpr ⟨lw_p53, List.forall_mem_cons.mpr ⟨lw_p54, List.forall_mem_cons.mpr ⟨lw_p55, List.forall_mem_cons.mpr ⟨lw_p56, List.forall_mem_cons.mpr ⟨lw_p57, List.forall_mem_cons.mpr ⟨lw_p58, fun _ h => absurd h List.not_mem_nil⟩⟩⟩⟩⟩⟩⟩⟩⟩⟩⟩
def lw_privs : List (MethodName × Nat) := lw_privs_1 ++ (lw_privs_2 ++ (lw_privs_3 ++ (lw_privs_4)))
def lw_tbl : List Cond := k2_sels lw_privs ++ tables_1
theorem lw_privs_ok : ∀ q ∈ lw_privs, lw_okq q := by
  show ∀ q ∈ lw_privs_1 ++ (lw_privs_2 ++ (lw_privs_3 ++ (lw_privs_4))), lw_okq q
  exact List.forall_mem_append.mpr ⟨lw_r1, List.forall_mem_append.mpr ⟨lw_r2, List.forall_mem_append.mpr ⟨lw_r3, lw_r4⟩⟩⟩
-- ===== end of PART A; then your names; then what follows =====
def RX0 : String := "HintPlacer$History"
def TX0 : u_T := fun k => match k with
  | 0 => ("HintPlacer$History", "rows", "LHintPlacer$Row;", true)
  | 1 => ("HintPlacer$History", "oldest", "I", false)
  | _ => ("HintPlacer$History", "states", "I", false)
def tyX0 : Nat → FieldType := fun k => match k with
  | 0 => .object "HintPlacer$Row"
  | 1 => .int
  | _ => .int
abbrev wsX00 : List Cond := u_ws RX0 TX0 3
theorem nmX0 : ∀ a, a < 3 → ∀ b, b < 3 → a ≠ b → (TX0 a).2.1 ≠ (TX0 b).2.1 := by decide +kernel
theorem tyX0_ok : ∀ k, k < 3 → parseFieldDescriptor (TX0 k).2.2.1 = some (tyX0 k) := by decide +kernel
abbrev cX0_init : ByteArray := prog_2_method_1_code
def yX0_init : MethodName := ⟨RX0, "<init>", "()V"⟩
abbrev cX0_keep : ByteArray := prog_2_method_2_code
def yX0_keep : MethodName := ⟨RX0, "keep", "(LHintPlacer$State;)V"⟩
abbrev cX0_restore : ByteArray := prog_2_method_3_code
def yX0_restore : MethodName := ⟨RX0, "restore", "(LHintPlacer$State;)V"⟩
abbrev cX0_beginOf : ByteArray := prog_2_method_4_code
def yX0_beginOf : MethodName := ⟨RX0, "beginOf", "(I)I"⟩
def RX1 : String := "HintPlacer$Orders"
def TX1 : u_T := fun k => match k with
  | 0 => ("HintPlacer$Orders", "signs", "LHintPlacer$Row;", true)
  | 1 => ("HintPlacer$Orders", "length", "I", false)
  | 2 => ("HintPlacer$Orders", "begin", "I", false)
  | 3 => ("HintPlacer$Orders", "end", "I", false)
  | 4 => ("HintPlacer$Orders", "kind", "I", false)
  | 5 => ("HintPlacer$Orders", "first", "I", false)
  | 6 => ("HintPlacer$Orders", "second", "I", false)
  | _ => ("HintPlacer$Orders", "number", "I", false)
def tyX1 : Nat → FieldType := fun k => match k with
  | 0 => .object "HintPlacer$Row"
  | 1 => .int
  | 2 => .int
  | 3 => .int
  | 4 => .int
  | 5 => .int
  | 6 => .int
  | _ => .int
abbrev wsX10 : List Cond := u_ws RX1 TX1 8
theorem nmX1 : ∀ a, a < 8 → ∀ b, b < 8 → a ≠ b → (TX1 a).2.1 ≠ (TX1 b).2.1 := by decide +kernel
theorem tyX1_ok : ∀ k, k < 8 → parseFieldDescriptor (TX1 k).2.2.1 = some (tyX1 k) := by decide +kernel
abbrev cX1_init : ByteArray := prog_3_method_1_code
def yX1_init : MethodName := ⟨RX1, "<init>", "()V"⟩
abbrev cX1_append : ByteArray := prog_3_method_2_code
def yX1_append : MethodName := ⟨RX1, "append", "(I)V"⟩
abbrev cX1_findFault : ByteArray := prog_3_method_3_code
def yX1_findFault : MethodName := ⟨RX1, "findFault", "(I)I"⟩
abbrev cX1_read : ByteArray := prog_3_method_4_code
def yX1_read : MethodName := ⟨RX1, "read", "(I)Z"⟩
abbrev cX1_readHint : ByteArray := prog_3_method_5_code
def yX1_readHint : MethodName := ⟨RX1, "readHint", "()Z"⟩
abbrev cX1_readMove : ByteArray := prog_3_method_6_code
def yX1_readMove : MethodName := ⟨RX1, "readMove", "()Z"⟩
abbrev cX1_readSigned : ByteArray := prog_3_method_7_code
def yX1_readSigned : MethodName := ⟨RX1, "readSigned", "()Z"⟩
abbrev cX1_readDigits : ByteArray := prog_3_method_8_code
def yX1_readDigits : MethodName := ⟨RX1, "readDigits", "(I)Z"⟩
abbrev cX1_isDigit : ByteArray := prog_3_method_9_code
def yX1_isDigit : MethodName := ⟨RX1, "isDigit", "(I)Z"⟩
abbrev cX1_pass : ByteArray := prog_3_method_10_code
def yX1_pass : MethodName := ⟨RX1, "pass", "(C)Z"⟩
abbrev cX1_signAt : ByteArray := prog_3_method_11_code
def yX1_signAt : MethodName := ⟨RX1, "signAt", "(I)I"⟩
def RX2 : String := "HintPlacer$Place"
def TX2 : u_T := fun k => match k with
  | 0 => ("HintPlacer$Place", "x", "I", false)
  | 1 => ("HintPlacer$Place", "y", "I", false)
  | 2 => ("HintPlacer$Place", "shift", "I", false)
  | 3 => ("HintPlacer$Place", "arrow", "I", false)
  | 4 => ("HintPlacer$Place", "arrowGood", "Z", false)
  | _ => ("HintPlacer$Place", "inSight", "Z", false)
def tyX2 : Nat → FieldType := fun k => match k with
  | 0 => .int
  | 1 => .int
  | 2 => .int
  | 3 => .int
  | 4 => .boolean
  | _ => .boolean
abbrev wsX20 : List Cond := u_ws RX2 TX2 6
theorem nmX2 : ∀ a, a < 6 → ∀ b, b < 6 → a ≠ b → (TX2 a).2.1 ≠ (TX2 b).2.1 := by decide +kernel
theorem tyX2_ok : ∀ k, k < 6 → parseFieldDescriptor (TX2 k).2.2.1 = some (tyX2 k) := by decide +kernel
abbrev cX2_init : ByteArray := prog_4_method_1_code
def yX2_init : MethodName := ⟨RX2, "<init>", "()V"⟩
abbrev cX2_find : ByteArray := prog_4_method_2_code
def yX2_find : MethodName := ⟨RX2, "find", "(LHintPlacer$State;IIII)V"⟩
abbrev cX2_beginAlong : ByteArray := prog_4_method_3_code
def yX2_beginAlong : MethodName := ⟨RX2, "beginAlong", "(LHintPlacer$State;IZ)I"⟩
abbrev cX2_middleAlong : ByteArray := prog_4_method_4_code
def yX2_middleAlong : MethodName := ⟨RX2, "middleAlong", "(LHintPlacer$State;IZ)I"⟩
abbrev cX2_shiftInto : ByteArray := prog_4_method_5_code
def yX2_shiftInto : MethodName := ⟨RX2, "shiftInto", "(IIIIII)I"⟩
abbrev cX2_isGood : ByteArray := prog_4_method_6_code
def yX2_isGood : MethodName := ⟨RX2, "isGood", "(III)Z"⟩
def RX3 : String := "HintPlacer$Row"
def TX3 : u_T := fun k => match k with
  | _ => ("HintPlacer$Row", "cells", "[I", true)
def tyX3 : Nat → FieldType := fun k => match k with
  | _ => .array .int
abbrev wsX30 : List Cond := u_ws RX3 TX3 1
theorem nmX3 : ∀ a, a < 1 → ∀ b, b < 1 → a ≠ b → (TX3 a).2.1 ≠ (TX3 b).2.1 := by decide +kernel
theorem tyX3_ok : ∀ k, k < 1 → parseFieldDescriptor (TX3 k).2.2.1 = some (tyX3 k) := by decide +kernel
abbrev cX3_init : ByteArray := prog_5_method_1_code
def yX3_init : MethodName := ⟨RX3, "<init>", "(I)V"⟩
abbrev cX3_get : ByteArray := prog_5_method_2_code
def yX3_get : MethodName := ⟨RX3, "get", "(I)I"⟩
abbrev cX3_put : ByteArray := prog_5_method_3_code
def yX3_put : MethodName := ⟨RX3, "put", "(II)V"⟩
def RX4 : String := "HintPlacer$Showing"
def TX4 : u_T := fun k => match k with
  | 0 => ("HintPlacer$Showing", "reasons", "LHintPlacer$Row;", true)
  | 1 => ("HintPlacer$Showing", "sides", "LHintPlacer$Row;", true)
  | 2 => ("HintPlacer$Showing", "xs", "LHintPlacer$Row;", true)
  | 3 => ("HintPlacer$Showing", "ys", "LHintPlacer$Row;", true)
  | 4 => ("HintPlacer$Showing", "order", "LHintPlacer$Row;", true)
  | 5 => ("HintPlacer$Showing", "tries", "LHintPlacer$Tries;", true)
  | 6 => ("HintPlacer$Showing", "place", "LHintPlacer$Place;", true)
  | _ => ("HintPlacer$Showing", "shown", "I", false)
def tyX4 : Nat → FieldType := fun k => match k with
  | 0 => .object "HintPlacer$Row"
  | 1 => .object "HintPlacer$Row"
  | 2 => .object "HintPlacer$Row"
  | 3 => .object "HintPlacer$Row"
  | 4 => .object "HintPlacer$Row"
  | 5 => .object "HintPlacer$Tries"
  | 6 => .object "HintPlacer$Place"
  | _ => .int
abbrev wsX40 : List Cond := u_ws RX4 TX4 8
theorem nmX4 : ∀ a, a < 8 → ∀ b, b < 8 → a ≠ b → (TX4 a).2.1 ≠ (TX4 b).2.1 := by decide +kernel
theorem tyX4_ok : ∀ k, k < 8 → parseFieldDescriptor (TX4 k).2.2.1 = some (tyX4 k) := by decide +kernel
abbrev cX4_init : ByteArray := prog_6_method_1_code
def yX4_init : MethodName := ⟨RX4, "<init>", "()V"⟩
abbrev cX4_arrange : ByteArray := prog_6_method_2_code
def yX4_arrange : MethodName := ⟨RX4, "arrange", "(LHintPlacer$State;)I"⟩
abbrev cX4_orderOpenHints : ByteArray := prog_6_method_3_code
def yX4_orderOpenHints : MethodName := ⟨RX4, "orderOpenHints", "(LHintPlacer$State;)I"⟩
abbrev cX4_tryToShow : ByteArray := prog_6_method_4_code
def yX4_tryToShow : MethodName := ⟨RX4, "tryToShow", "(LHintPlacer$State;I)I"⟩
abbrev cX4_isFree : ByteArray := prog_6_method_5_code
def yX4_isFree : MethodName := ⟨RX4, "isFree", "(LHintPlacer$State;I)Z"⟩
abbrev cX4_shownThatMeets : ByteArray := prog_6_method_6_code
def yX4_shownThatMeets : MethodName := ⟨RX4, "shownThatMeets", "(LHintPlacer$State;IIII)I"⟩
def RX5 : String := "HintPlacer$State"
def TX5 : u_T := fun k => match k with
  | _ => ("HintPlacer$State", "row", "LHintPlacer$Row;", true)
def tyX5 : Nat → FieldType := fun k => match k with
  | _ => .object "HintPlacer$Row"
abbrev wsX50 : List Cond := u_ws RX5 TX5 1
theorem nmX5 : ∀ a, a < 1 → ∀ b, b < 1 → a ≠ b → (TX5 a).2.1 ≠ (TX5 b).2.1 := by decide +kernel
theorem tyX5_ok : ∀ k, k < 1 → parseFieldDescriptor (TX5 k).2.2.1 = some (tyX5 k) := by decide +kernel
abbrev cX5_init : ByteArray := prog_7_method_1_code
def yX5_init : MethodName := ⟨RX5, "<init>", "()V"⟩
abbrev cX5_get : ByteArray := prog_7_method_2_code
def yX5_get : MethodName := ⟨RX5, "get", "(I)I"⟩
abbrev cX5_put : ByteArray := prog_7_method_3_code
def yX5_put : MethodName := ⟨RX5, "put", "(II)V"⟩
abbrev cX5_setting : ByteArray := prog_7_method_4_code
def yX5_setting : MethodName := ⟨RX5, "setting", "(I)I"⟩
abbrev cX5_anchorValue : ByteArray := prog_7_method_5_code
def yX5_anchorValue : MethodName := ⟨RX5, "anchorValue", "(II)I"⟩
abbrev cX5_putAnchorValue : ByteArray := prog_7_method_6_code
def yX5_putAnchorValue : MethodName := ⟨RX5, "putAnchorValue", "(III)V"⟩
abbrev cX5_hintValue : ByteArray := prog_7_method_7_code
def yX5_hintValue : MethodName := ⟨RX5, "hintValue", "(II)I"⟩
abbrev cX5_putHintValue : ByteArray := prog_7_method_8_code
def yX5_putHintValue : MethodName := ⟨RX5, "putHintValue", "(III)V"⟩
abbrev cX5_isOpen : ByteArray := prog_7_method_9_code
def yX5_isOpen : MethodName := ⟨RX5, "isOpen", "(I)Z"⟩
abbrev cX5_isAnchorInSight : ByteArray := prog_7_method_10_code
def yX5_isAnchorInSight : MethodName := ⟨RX5, "isAnchorInSight", "(I)Z"⟩
abbrev cX5_anchorMeets : ByteArray := prog_7_method_11_code
def yX5_anchorMeets : MethodName := ⟨RX5, "anchorMeets", "(IIIII)Z"⟩
abbrev cX5_turn : ByteArray := prog_7_method_12_code
def yX5_turn : MethodName := ⟨RX5, "turn", "(I)I"⟩
abbrev cX5_goesBefore : ByteArray := prog_7_method_13_code
def yX5_goesBefore : MethodName := ⟨RX5, "goesBefore", "(II)Z"⟩
abbrev cX5_copyTo : ByteArray := prog_7_method_14_code
def yX5_copyTo : MethodName := ⟨RX5, "copyTo", "(LHintPlacer$Row;I)V"⟩
abbrev cX5_copyFrom : ByteArray := prog_7_method_15_code
def yX5_copyFrom : MethodName := ⟨RX5, "copyFrom", "(LHintPlacer$Row;I)V"⟩
def RX6 : String := "HintPlacer$Tries"
def TX6 : u_T := fun k => match k with
  | 0 => ("HintPlacer$Tries", "sides", "LHintPlacer$Row;", true)
  | _ => ("HintPlacer$Tries", "many", "I", false)
def tyX6 : Nat → FieldType := fun k => match k with
  | 0 => .object "HintPlacer$Row"
  | _ => .int
abbrev wsX60 : List Cond := u_ws RX6 TX6 2
theorem nmX6 : ∀ a, a < 2 → ∀ b, b < 2 → a ≠ b → (TX6 a).2.1 ≠ (TX6 b).2.1 := by decide +kernel
theorem tyX6_ok : ∀ k, k < 2 → parseFieldDescriptor (TX6 k).2.2.1 = some (tyX6 k) := by decide +kernel
abbrev cX6_init : ByteArray := prog_8_method_1_code
def yX6_init : MethodName := ⟨RX6, "<init>", "()V"⟩
abbrev cX6_list : ByteArray := prog_8_method_2_code
def yX6_list : MethodName := ⟨RX6, "list", "(LHintPlacer$State;I)V"⟩
abbrev cX6_add : ByteArray := prog_8_method_3_code
def yX6_add : MethodName := ⟨RX6, "add", "(I)V"⟩
def RX7 : String := "HintPlacer"
def TX7 : u_T := fun k => match k with
  | 0 => ("HintPlacer", "state", "LHintPlacer$State;", true)
  | 1 => ("HintPlacer", "history", "LHintPlacer$History;", true)
  | 2 => ("HintPlacer", "showing", "LHintPlacer$Showing;", true)
  | 3 => ("HintPlacer", "orders", "LHintPlacer$Orders;", true)
  | 4 => ("HintPlacer", "tries", "LHintPlacer$Tries;", true)
  | _ => ("HintPlacer", "place", "LHintPlacer$Place;", true)
def tyX7 : Nat → FieldType := fun k => match k with
  | 0 => .object "HintPlacer$State"
  | 1 => .object "HintPlacer$History"
  | 2 => .object "HintPlacer$Showing"
  | 3 => .object "HintPlacer$Orders"
  | 4 => .object "HintPlacer$Tries"
  | _ => .object "HintPlacer$Place"
abbrev wsX70 : List Cond := u_ws RX7 TX7 6
theorem nmX7 : ∀ a, a < 6 → ∀ b, b < 6 → a ≠ b → (TX7 a).2.1 ≠ (TX7 b).2.1 := by decide +kernel
theorem tyX7_ok : ∀ k, k < 6 → parseFieldDescriptor (TX7 k).2.2.1 = some (tyX7 k) := by decide +kernel
abbrev cX7_init : ByteArray := prog_1_method_1_code
def yX7_init : MethodName := ⟨RX7, "<init>", "()V"⟩
abbrev cX7_view : ByteArray := prog_1_method_2_code
def yX7_view : MethodName := ⟨RX7, "view", "(II)I"⟩
abbrev cX7_scroll : ByteArray := prog_1_method_3_code
def yX7_scroll : MethodName := ⟨RX7, "scroll", "(II)I"⟩
abbrev cX7_anchor : ByteArray := prog_1_method_4_code
def yX7_anchor : MethodName := ⟨RX7, "anchor", "(IIII)I"⟩
abbrev cX7_moveAnchor : ByteArray := prog_1_method_5_code
def yX7_moveAnchor : MethodName := ⟨RX7, "moveAnchor", "(III)I"⟩
abbrev cX7_anchorOf : ByteArray := prog_1_method_6_code
def yX7_anchorOf : MethodName := ⟨RX7, "anchorOf", "(II)I"⟩
abbrev cX7_set : ByteArray := prog_1_method_7_code
def yX7_set : MethodName := ⟨RX7, "set", "(II)I"⟩
abbrev cX7_count : ByteArray := prog_1_method_8_code
def yX7_count : MethodName := ⟨RX7, "count", "(I)I"⟩
abbrev cX7_hint : ByteArray := prog_1_method_9_code
def yX7_hint : MethodName := ⟨RX7, "hint", "(IIIII)I"⟩
abbrev cX7_alter : ByteArray := prog_1_method_10_code
def yX7_alter : MethodName := ⟨RX7, "alter", "(III)I"⟩
abbrev cX7_open : ByteArray := prog_1_method_11_code
def yX7_open : MethodName := ⟨RX7, "open", "(I)I"⟩
abbrev cX7_close : ByteArray := prog_1_method_12_code
def yX7_close : MethodName := ⟨RX7, "close", "(I)I"⟩
abbrev cX7_settle : ByteArray := prog_1_method_13_code
def yX7_settle : MethodName := ⟨RX7, "settle", "()I"⟩
abbrev cX7_hintOf : ByteArray := prog_1_method_14_code
def yX7_hintOf : MethodName := ⟨RX7, "hintOf", "(II)I"⟩
abbrev cX7_room : ByteArray := prog_1_method_15_code
def yX7_room : MethodName := ⟨RX7, "room", "(II)I"⟩
abbrev cX7_ifOn : ByteArray := prog_1_method_16_code
def yX7_ifOn : MethodName := ⟨RX7, "ifOn", "(III)I"⟩
abbrev cX7_at : ByteArray := prog_1_method_17_code
def yX7_at : MethodName := ⟨RX7, "at", "(II)I"⟩
abbrev cX7_sizeFor : ByteArray := prog_1_method_18_code
def yX7_sizeFor : MethodName := ⟨RX7, "sizeFor", "(II)I"⟩
abbrev cX7_undo : ByteArray := prog_1_method_19_code
def yX7_undo : MethodName := ⟨RX7, "undo", "()I"⟩
abbrev cX7_type : ByteArray := prog_1_method_20_code
def yX7_type : MethodName := ⟨RX7, "type", "(I)I"⟩
abbrev cX7_clearText : ByteArray := prog_1_method_21_code
def yX7_clearText : MethodName := ⟨RX7, "clearText", "()I"⟩
abbrev cX7_fault : ByteArray := prog_1_method_22_code
def yX7_fault : MethodName := ⟨RX7, "fault", "(I)I"⟩
abbrev cX7_carry : ByteArray := prog_1_method_23_code
def yX7_carry : MethodName := ⟨RX7, "carry", "()I"⟩
abbrev cX7_isWithin : ByteArray := prog_1_method_24_code
def yX7_isWithin : MethodName := ⟨RX7, "isWithin", "(II)Z"⟩
abbrev cX7_isSize : ByteArray := prog_1_method_25_code
def yX7_isSize : MethodName := ⟨RX7, "isSize", "(I)Z"⟩
abbrev cX7_isViewSize : ByteArray := prog_1_method_26_code
def yX7_isViewSize : MethodName := ⟨RX7, "isViewSize", "(I)Z"⟩
abbrev cX7_isSide : ByteArray := prog_1_method_27_code
def yX7_isSide : MethodName := ⟨RX7, "isSide", "(I)Z"⟩
abbrev cX7_isAnchor : ByteArray := prog_1_method_28_code
def yX7_isAnchor : MethodName := ⟨RX7, "isAnchor", "(I)Z"⟩
abbrev cX7_isHint : ByteArray := prog_1_method_29_code
def yX7_isHint : MethodName := ⟨RX7, "isHint", "(I)Z"⟩
abbrev cX7_lowestSetting : ByteArray := prog_1_method_30_code
def yX7_lowestSetting : MethodName := ⟨RX7, "lowestSetting", "(I)I"⟩
abbrev cX7_highestSetting : ByteArray := prog_1_method_31_code
def yX7_highestSetting : MethodName := ⟨RX7, "highestSetting", "(I)I"⟩
abbrev cX7_lowestValue : ByteArray := prog_1_method_32_code
def yX7_lowestValue : MethodName := ⟨RX7, "lowestValue", "(I)I"⟩
abbrev cX7_highestValue : ByteArray := prog_1_method_33_code
def yX7_highestValue : MethodName := ⟨RX7, "highestValue", "(I)I"⟩
abbrev cX7_canMoveView : ByteArray := prog_1_method_34_code
def yX7_canMoveView : MethodName := ⟨RX7, "canMoveView", "(II)Z"⟩
abbrev cX7_moveView : ByteArray := prog_1_method_35_code
def yX7_moveView : MethodName := ⟨RX7, "moveView", "(II)V"⟩
abbrev cX7_openHint : ByteArray := prog_1_method_36_code
def yX7_openHint : MethodName := ⟨RX7, "openHint", "(I)V"⟩
abbrev cX7_closeHint : ByteArray := prog_1_method_37_code
def yX7_closeHint : MethodName := ⟨RX7, "closeHint", "(I)V"⟩
abbrev cX7_rememberSides : ByteArray := prog_1_method_38_code
def yX7_rememberSides : MethodName := ⟨RX7, "rememberSides", "()I"⟩
abbrev cX7_carryOrder : ByteArray := prog_1_method_39_code
def yX7_carryOrder : MethodName := ⟨RX7, "carryOrder", "()Z"⟩
abbrev cX7_countHintsOf : ByteArray := prog_1_method_40_code
def yX7_countHintsOf : MethodName := ⟨RX7, "countHintsOf", "(IZ)I"⟩
abbrev cX7_countOpen : ByteArray := prog_1_method_41_code
def yX7_countOpen : MethodName := ⟨RX7, "countOpen", "()I"⟩
abbrev cX7_countRemembered : ByteArray := prog_1_method_42_code
def yX7_countRemembered : MethodName := ⟨RX7, "countRemembered", "()I"⟩
abbrev cX7_countCovered : ByteArray := prog_1_method_43_code
def yX7_countCovered : MethodName := ⟨RX7, "countCovered", "()I"⟩
abbrev cX7_shownValue : ByteArray := prog_1_method_44_code
def yX7_shownValue : MethodName := ⟨RX7, "shownValue", "(II)I"⟩
abbrev cX7_isInSightOnATry : ByteArray := prog_1_method_45_code
def yX7_isInSightOnATry : MethodName := ⟨RX7, "isInSightOnATry", "(III)Z"⟩
abbrev cX7_isLevel : ByteArray := prog_1_method_46_code
def yX7_isLevel : MethodName := ⟨RX7, "isLevel", "(I)Z"⟩
abbrev cX7_isBefore : ByteArray := prog_1_method_47_code
def yX7_isBefore : MethodName := ⟨RX7, "isBefore", "(I)Z"⟩
abbrev cX7_edgeBy : ByteArray := prog_1_method_48_code
def yX7_edgeBy : MethodName := ⟨RX7, "edgeBy", "(LHintPlacer$State;II)I"⟩
abbrev cX7_spansMeet : ByteArray := prog_1_method_49_code
def yX7_spansMeet : MethodName := ⟨RX7, "spansMeet", "(IIII)Z"⟩
abbrev cX7_spanLiesIn : ByteArray := prog_1_method_50_code
def yX7_spanLiesIn : MethodName := ⟨RX7, "spanLiesIn", "(IIII)Z"⟩
def RX8 : String := "HintPlacerModel"
def TX8 : u_T := fun k => match k with
  | 0 => ("HintPlacerModel", "d", "[I", true)
  | 1 => ("HintPlacerModel", "was", "[I", true)
  | 2 => ("HintPlacerModel", "states", "I", false)
  | 3 => ("HintPlacerModel", "text", "[C", true)
  | 4 => ("HintPlacerModel", "typed", "I", false)
  | 5 => ("HintPlacerModel", "at", "I", false)
  | 6 => ("HintPlacerModel", "sign", "I", false)
  | 7 => ("HintPlacerModel", "first", "I", false)
  | 8 => ("HintPlacerModel", "second", "I", false)
  | 9 => ("HintPlacerModel", "reason", "I", false)
  | 10 => ("HintPlacerModel", "left", "I", false)
  | 11 => ("HintPlacerModel", "top", "I", false)
  | 12 => ("HintPlacerModel", "shifted", "I", false)
  | 13 => ("HintPlacerModel", "arrow", "I", false)
  | 14 => ("HintPlacerModel", "good", "Z", false)
  | 15 => ("HintPlacerModel", "order", "[I", true)
  | 16 => ("HintPlacerModel", "why", "[I", true)
  | 17 => ("HintPlacerModel", "shownOn", "[I", true)
  | 18 => ("HintPlacerModel", "shown", "I", false)
  | 19 => ("HintPlacerModel", "tried", "[I", true)
  | _ => ("HintPlacerModel", "tries", "I", false)
def tyX8 : Nat → FieldType := fun k => match k with
  | 0 => .array .int
  | 1 => .array .int
  | 2 => .int
  | 3 => .array .char
  | 4 => .int
  | 5 => .int
  | 6 => .int
  | 7 => .int
  | 8 => .int
  | 9 => .int
  | 10 => .int
  | 11 => .int
  | 12 => .int
  | 13 => .int
  | 14 => .boolean
  | 15 => .array .int
  | 16 => .array .int
  | 17 => .array .int
  | 18 => .int
  | 19 => .array .int
  | _ => .int
abbrev wsX80 : List Cond := u_ws RX8 TX8 21
theorem nmX8 : ∀ a, a < 21 → ∀ b, b < 21 → a ≠ b → (TX8 a).2.1 ≠ (TX8 b).2.1 := by decide +kernel
theorem tyX8_ok : ∀ k, k < 21 → parseFieldDescriptor (TX8 k).2.2.1 = some (tyX8 k) := by decide +kernel
abbrev cX8_init : ByteArray := prog_10_method_1_code
def yX8_init : MethodName := ⟨RX8, "<init>", "()V"⟩
abbrev cX8_in : ByteArray := prog_10_method_2_code
def yX8_in : MethodName := ⟨RX8, "in", "(III)Z"⟩
abbrev cX8_half : ByteArray := prog_10_method_3_code
def yX8_half : MethodName := ⟨RX8, "half", "(I)I"⟩
abbrev cX8_isAnchor : ByteArray := prog_10_method_4_code
def yX8_isAnchor : MethodName := ⟨RX8, "isAnchor", "(I)Z"⟩
abbrev cX8_isHint : ByteArray := prog_10_method_5_code
def yX8_isHint : MethodName := ⟨RX8, "isHint", "(I)Z"⟩
abbrev cX8_ofAnchor : ByteArray := prog_10_method_6_code
def yX8_ofAnchor : MethodName := ⟨RX8, "ofAnchor", "(II)I"⟩
abbrev cX8_ofHint : ByteArray := prog_10_method_7_code
def yX8_ofHint : MethodName := ⟨RX8, "ofHint", "(II)I"⟩
abbrev cX8_records : ByteArray := prog_10_method_8_code
def yX8_records : MethodName := ⟨RX8, "records", "()V"⟩
abbrev cX8_meets : ByteArray := prog_10_method_9_code
def yX8_meets : MethodName := ⟨RX8, "meets", "(IIIIIIII)Z"⟩
abbrev cX8_isSeen : ByteArray := prog_10_method_10_code
def yX8_isSeen : MethodName := ⟨RX8, "isSeen", "(I)Z"⟩
abbrev cX8_isGood : ByteArray := prog_10_method_11_code
def yX8_isGood : MethodName := ⟨RX8, "isGood", "(II)Z"⟩
abbrev cX8_shift : ByteArray := prog_10_method_12_code
def yX8_shift : MethodName := ⟨RX8, "shift", "(IIIII)I"⟩
abbrev cX8_places : ByteArray := prog_10_method_13_code
def yX8_places : MethodName := ⟨RX8, "places", "(II)V"⟩
abbrev cX8_isIn : ByteArray := prog_10_method_14_code
def yX8_isIn : MethodName := ⟨RX8, "isIn", "(II)Z"⟩
abbrev cX8_addTry : ByteArray := prog_10_method_15_code
def yX8_addTry : MethodName := ⟨RX8, "addTry", "(I)V"⟩
abbrev cX8_lists : ByteArray := prog_10_method_16_code
def yX8_lists : MethodName := ⟨RX8, "lists", "(I)V"⟩
abbrev cX8_isBarred : ByteArray := prog_10_method_17_code
def yX8_isBarred : MethodName := ⟨RX8, "isBarred", "(I)Z"⟩
abbrev cX8_finds : ByteArray := prog_10_method_18_code
def yX8_finds : MethodName := ⟨RX8, "finds", "(I)V"⟩
abbrev cX8_sorts : ByteArray := prog_10_method_19_code
def yX8_sorts : MethodName := ⟨RX8, "sorts", "()V"⟩
abbrev cX8_shows : ByteArray := prog_10_method_20_code
def yX8_shows : MethodName := ⟨RX8, "shows", "()V"⟩
abbrev cX8_many : ByteArray := prog_10_method_21_code
def yX8_many : MethodName := ⟨RX8, "many", "()I"⟩
abbrev cX8_view : ByteArray := prog_10_method_22_code
def yX8_view : MethodName := ⟨RX8, "view", "(II)I"⟩
abbrev cX8_canScroll : ByteArray := prog_10_method_23_code
def yX8_canScroll : MethodName := ⟨RX8, "canScroll", "(II)Z"⟩
abbrev cX8_scroll : ByteArray := prog_10_method_24_code
def yX8_scroll : MethodName := ⟨RX8, "scroll", "(II)I"⟩
abbrev cX8_anchor : ByteArray := prog_10_method_25_code
def yX8_anchor : MethodName := ⟨RX8, "anchor", "(IIII)I"⟩
abbrev cX8_moveAnchor : ByteArray := prog_10_method_26_code
def yX8_moveAnchor : MethodName := ⟨RX8, "moveAnchor", "(III)I"⟩
abbrev cX8_anchorOf : ByteArray := prog_10_method_27_code
def yX8_anchorOf : MethodName := ⟨RX8, "anchorOf", "(II)I"⟩
abbrev cX8_isSetting : ByteArray := prog_10_method_28_code
def yX8_isSetting : MethodName := ⟨RX8, "isSetting", "(II)Z"⟩
abbrev cX8_set : ByteArray := prog_10_method_29_code
def yX8_set : MethodName := ⟨RX8, "set", "(II)I"⟩
abbrev cX8_covered : ByteArray := prog_10_method_30_code
def yX8_covered : MethodName := ⟨RX8, "covered", "(Z)I"⟩
abbrev cX8_count : ByteArray := prog_10_method_31_code
def yX8_count : MethodName := ⟨RX8, "count", "(I)I"⟩
abbrev cX8_hint : ByteArray := prog_10_method_32_code
def yX8_hint : MethodName := ⟨RX8, "hint", "(IIIII)I"⟩
abbrev cX8_isOf : ByteArray := prog_10_method_33_code
def yX8_isOf : MethodName := ⟨RX8, "isOf", "(II)Z"⟩
abbrev cX8_alter : ByteArray := prog_10_method_34_code
def yX8_alter : MethodName := ⟨RX8, "alter", "(III)I"⟩
abbrev cX8_placeOf : ByteArray := prog_10_method_35_code
def yX8_placeOf : MethodName := ⟨RX8, "placeOf", "(I)I"⟩
abbrev cX8_opens : ByteArray := prog_10_method_36_code
def yX8_opens : MethodName := ⟨RX8, "opens", "(I)V"⟩
abbrev cX8_closes : ByteArray := prog_10_method_37_code
def yX8_closes : MethodName := ⟨RX8, "closes", "(I)V"⟩
abbrev cX8_open : ByteArray := prog_10_method_38_code
def yX8_open : MethodName := ⟨RX8, "open", "(I)I"⟩
abbrev cX8_close : ByteArray := prog_10_method_39_code
def yX8_close : MethodName := ⟨RX8, "close", "(I)I"⟩
abbrev cX8_settles : ByteArray := prog_10_method_40_code
def yX8_settles : MethodName := ⟨RX8, "settles", "()I"⟩
abbrev cX8_settle : ByteArray := prog_10_method_41_code
def yX8_settle : MethodName := ⟨RX8, "settle", "()I"⟩
abbrev cX8_hintOf : ByteArray := prog_10_method_42_code
def yX8_hintOf : MethodName := ⟨RX8, "hintOf", "(II)I"⟩
abbrev cX8_orderOf : ByteArray := prog_10_method_43_code
def yX8_orderOf : MethodName := ⟨RX8, "orderOf", "(I)I"⟩
abbrev cX8_room : ByteArray := prog_10_method_44_code
def yX8_room : MethodName := ⟨RX8, "room", "(II)I"⟩
abbrev cX8_ifOn : ByteArray := prog_10_method_45_code
def yX8_ifOn : MethodName := ⟨RX8, "ifOn", "(III)I"⟩
abbrev cX8_at : ByteArray := prog_10_method_46_code
def yX8_at : MethodName := ⟨RX8, "at", "(II)I"⟩
abbrev cX8_sizeFor : ByteArray := prog_10_method_47_code
def yX8_sizeFor : MethodName := ⟨RX8, "sizeFor", "(II)I"⟩
abbrev cX8_undo : ByteArray := prog_10_method_48_code
def yX8_undo : MethodName := ⟨RX8, "undo", "()I"⟩
abbrev cX8_type : ByteArray := prog_10_method_49_code
def yX8_type : MethodName := ⟨RX8, "type", "(I)I"⟩
abbrev cX8_clearText : ByteArray := prog_10_method_50_code
def yX8_clearText : MethodName := ⟨RX8, "clearText", "()I"⟩
abbrev cX8_passes : ByteArray := prog_10_method_51_code
def yX8_passes : MethodName := ⟨RX8, "passes", "(C)Z"⟩
abbrev cX8_readsNumber : ByteArray := prog_10_method_52_code
def yX8_readsNumber : MethodName := ⟨RX8, "readsNumber", "(I)Z"⟩
abbrev cX8_readsSigned : ByteArray := prog_10_method_53_code
def yX8_readsSigned : MethodName := ⟨RX8, "readsSigned", "()Z"⟩
abbrev cX8_readsForm : ByteArray := prog_10_method_54_code
def yX8_readsForm : MethodName := ⟨RX8, "readsForm", "()Z"⟩
abbrev cX8_readsOrder : ByteArray := prog_10_method_55_code
def yX8_readsOrder : MethodName := ⟨RX8, "readsOrder", "()Z"⟩
abbrev cX8_faulty : ByteArray := prog_10_method_56_code
def yX8_faulty : MethodName := ⟨RX8, "faulty", "()I"⟩
abbrev cX8_fault : ByteArray := prog_10_method_57_code
def yX8_fault : MethodName := ⟨RX8, "fault", "(I)I"⟩
abbrev cX8_carries : ByteArray := prog_10_method_58_code
def yX8_carries : MethodName := ⟨RX8, "carries", "()Z"⟩
abbrev cX8_carry : ByteArray := prog_10_method_59_code
def yX8_carry : MethodName := ⟨RX8, "carry", "()I"⟩
def RJ9 : String := "java/lang/Math"
def TJ9 : u_T := fun k => match k with
  | _ => ("", "", "", false)
def tyJ9 : Nat → FieldType := fun k => match k with
  | _ => .int
abbrev wsJ90 : List Cond := u_ws RJ9 TJ9 0
theorem nmJ9 : ∀ a, a < 0 → ∀ b, b < 0 → a ≠ b → (TJ9 a).2.1 ≠ (TJ9 b).2.1 := by decide +kernel
theorem tyJ9_ok : ∀ k, k < 0 → parseFieldDescriptor (TJ9 k).2.2.1 = some (tyJ9 k) := by decide +kernel
abbrev cJ9_floorDiv_7cf53 : ByteArray := prog_11_method_47_code
def yJ9_floorDiv_7cf53 : MethodName := ⟨RJ9, "floorDiv", "(II)I"⟩
abbrev cJ9_max_7cf53 : ByteArray := prog_11_method_65_code
def yJ9_max_7cf53 : MethodName := ⟨RJ9, "max", "(II)I"⟩
abbrev cJ9_min_7cf53 : ByteArray := prog_11_method_69_code
def yJ9_min_7cf53 : MethodName := ⟨RJ9, "min", "(II)I"⟩
def RL : String := "HintPlacerLaw"
abbrev cL_law : ByteArray := code
def yL_law : MethodName := ⟨RL, "law", "([I)Z"⟩
abbrev vwCl : List vw_C := [(RX0, TX0, 3), (RX1, TX1, 8), (RX2, TX2, 6), (RX3, TX3, 1), (RX4, TX4, 8), (RX5, TX5, 1), (RX6, TX6, 2), (RX7, TX7, 6), (RX8, TX8, 21)]
end
section
theorem dX0_init_0 : decode cX0_init 0 = .ok (.aload_n 0, 1) := by decide +kernel
theorem dX0_init_1 : decode cX0_init 1 = .ok (.invokespecial 3, 3) := by decide +kernel
theorem dX0_init_4 : decode cX0_init 4 = .ok (.aload_n 0, 1) := by decide +kernel
theorem dX0_init_5 : decode cX0_init 5 = .ok (.new 9, 3) := by decide +kernel
theorem dX0_init_8 : decode cX0_init 8 = .ok (.dup, 1) := by decide +kernel
theorem dX0_init_9 : decode cX0_init 9 = .ok (.sipush 860, 3) := by decide +kernel
theorem dX0_init_12 : decode cX0_init 12 = .ok (.invokespecial 11, 3) := by decide +kernel
theorem dX0_init_15 : decode cX0_init 15 = .ok (.putfield 14, 3) := by decide +kernel
theorem dX0_init_18 : decode cX0_init 18 = .ok (.return_, 1) := by decide +kernel
theorem dX0_keep_0 : decode cX0_keep 0 = .ok (.aload_n 0, 1) := by decide +kernel
theorem dX0_keep_1 : decode cX0_keep 1 = .ok (.getfield 20, 3) := by decide +kernel
theorem dX0_keep_4 : decode cX0_keep 4 = .ok (.iconst 5, 1) := by decide +kernel
theorem dX0_keep_5 : decode cX0_keep 5 = .ok (.if_icmp .ne 25, 3) := by decide +kernel
theorem dX0_keep_8 : decode cX0_keep 8 = .ok (.aload_n 0, 1) := by decide +kernel
theorem dX0_keep_9 : decode cX0_keep 9 = .ok (.aload_n 0, 1) := by decide +kernel
theorem dX0_keep_10 : decode cX0_keep 10 = .ok (.getfield 24, 3) := by decide +kernel
theorem dX0_keep_13 : decode cX0_keep 13 = .ok (.iconst 1, 1) := by decide +kernel
theorem dX0_keep_14 : decode cX0_keep 14 = .ok (.iadd, 1) := by decide +kernel
theorem dX0_keep_15 : decode cX0_keep 15 = .ok (.iconst 5, 1) := by decide +kernel
theorem dX0_keep_16 : decode cX0_keep 16 = .ok (.irem, 1) := by decide +kernel
theorem dX0_keep_17 : decode cX0_keep 17 = .ok (.putfield 24, 3) := by decide +kernel
theorem dX0_keep_20 : decode cX0_keep 20 = .ok (.aload_n 0, 1) := by decide +kernel
theorem dX0_keep_21 : decode cX0_keep 21 = .ok (.dup, 1) := by decide +kernel
theorem dX0_keep_22 : decode cX0_keep 22 = .ok (.getfield 20, 3) := by decide +kernel
theorem dX0_keep_25 : decode cX0_keep 25 = .ok (.iconst 1, 1) := by decide +kernel
theorem dX0_keep_26 : decode cX0_keep 26 = .ok (.isub, 1) := by decide +kernel
theorem dX0_keep_27 : decode cX0_keep 27 = .ok (.putfield 20, 3) := by decide +kernel
theorem dX0_keep_30 : decode cX0_keep 30 = .ok (.aload_n 1, 1) := by decide +kernel
theorem dX0_keep_31 : decode cX0_keep 31 = .ok (.aload_n 0, 1) := by decide +kernel
theorem dX0_keep_32 : decode cX0_keep 32 = .ok (.getfield 14, 3) := by decide +kernel
theorem dX0_keep_35 : decode cX0_keep 35 = .ok (.aload_n 0, 1) := by decide +kernel
theorem dX0_keep_36 : decode cX0_keep 36 = .ok (.aload_n 0, 1) := by decide +kernel
theorem dX0_keep_37 : decode cX0_keep 37 = .ok (.getfield 20, 3) := by decide +kernel
theorem dX0_keep_40 : decode cX0_keep 40 = .ok (.invokevirtual 27, 3) := by decide +kernel
theorem dX0_keep_43 : decode cX0_keep 43 = .ok (.invokevirtual 31, 3) := by decide +kernel
theorem dX0_keep_46 : decode cX0_keep 46 = .ok (.aload_n 0, 1) := by decide +kernel
theorem dX0_keep_47 : decode cX0_keep 47 = .ok (.dup, 1) := by decide +kernel
theorem dX0_keep_48 : decode cX0_keep 48 = .ok (.getfield 20, 3) := by decide +kernel
theorem dX0_keep_51 : decode cX0_keep 51 = .ok (.iconst 1, 1) := by decide +kernel
theorem dX0_keep_52 : decode cX0_keep 52 = .ok (.iadd, 1) := by decide +kernel
theorem dX0_keep_53 : decode cX0_keep 53 = .ok (.putfield 20, 3) := by decide +kernel
theorem dX0_keep_56 : decode cX0_keep 56 = .ok (.return_, 1) := by decide +kernel
theorem dX0_restore_0 : decode cX0_restore 0 = .ok (.aload_n 0, 1) := by decide +kernel
theorem dX0_restore_1 : decode cX0_restore 1 = .ok (.getfield 20, 3) := by decide +kernel
theorem dX0_restore_4 : decode cX0_restore 4 = .ok (.ifCond .le 29, 3) := by decide +kernel
theorem dX0_restore_7 : decode cX0_restore 7 = .ok (.aload_n 0, 1) := by decide +kernel
theorem dX0_restore_8 : decode cX0_restore 8 = .ok (.dup, 1) := by decide +kernel
theorem dX0_restore_9 : decode cX0_restore 9 = .ok (.getfield 20, 3) := by decide +kernel
theorem dX0_restore_12 : decode cX0_restore 12 = .ok (.iconst 1, 1) := by decide +kernel
theorem dX0_restore_13 : decode cX0_restore 13 = .ok (.isub, 1) := by decide +kernel
theorem dX0_restore_14 : decode cX0_restore 14 = .ok (.putfield 20, 3) := by decide +kernel
theorem dX0_restore_17 : decode cX0_restore 17 = .ok (.aload_n 1, 1) := by decide +kernel
theorem dX0_restore_18 : decode cX0_restore 18 = .ok (.aload_n 0, 1) := by decide +kernel
theorem dX0_restore_19 : decode cX0_restore 19 = .ok (.getfield 14, 3) := by decide +kernel
theorem dX0_restore_22 : decode cX0_restore 22 = .ok (.aload_n 0, 1) := by decide +kernel
theorem dX0_restore_23 : decode cX0_restore 23 = .ok (.aload_n 0, 1) := by decide +kernel
theorem dX0_restore_24 : decode cX0_restore 24 = .ok (.getfield 20, 3) := by decide +kernel
theorem dX0_restore_27 : decode cX0_restore 27 = .ok (.invokevirtual 27, 3) := by decide +kernel
theorem dX0_restore_30 : decode cX0_restore 30 = .ok (.invokevirtual 37, 3) := by decide +kernel
theorem dX0_restore_33 : decode cX0_restore 33 = .ok (.return_, 1) := by decide +kernel
theorem dX0_beginOf_0 : decode cX0_beginOf 0 = .ok (.aload_n 0, 1) := by decide +kernel
theorem dX0_beginOf_1 : decode cX0_beginOf 1 = .ok (.getfield 24, 3) := by decide +kernel
theorem dX0_beginOf_4 : decode cX0_beginOf 4 = .ok (.iload_n 1, 1) := by decide +kernel
theorem dX0_beginOf_5 : decode cX0_beginOf 5 = .ok (.iadd, 1) := by decide +kernel
theorem dX0_beginOf_6 : decode cX0_beginOf 6 = .ok (.iconst 5, 1) := by decide +kernel
theorem dX0_beginOf_7 : decode cX0_beginOf 7 = .ok (.irem, 1) := by decide +kernel
theorem dX0_beginOf_8 : decode cX0_beginOf 8 = .ok (.sipush 172, 3) := by decide +kernel
theorem dX0_beginOf_11 : decode cX0_beginOf 11 = .ok (.imul, 1) := by decide +kernel
theorem dX0_beginOf_12 : decode cX0_beginOf 12 = .ok (.ireturn, 1) := by decide +kernel
theorem dX1_init_0 : decode cX1_init 0 = .ok (.aload_n 0, 1) := by decide +kernel
theorem dX1_init_1 : decode cX1_init 1 = .ok (.invokespecial 3, 3) := by decide +kernel
theorem dX1_init_4 : decode cX1_init 4 = .ok (.aload_n 0, 1) := by decide +kernel
theorem dX1_init_5 : decode cX1_init 5 = .ok (.new 9, 3) := by decide +kernel
theorem dX1_init_8 : decode cX1_init 8 = .ok (.dup, 1) := by decide +kernel
theorem dX1_init_9 : decode cX1_init 9 = .ok (.bipush 60, 2) := by decide +kernel
theorem dX1_init_11 : decode cX1_init 11 = .ok (.invokespecial 11, 3) := by decide +kernel
theorem dX1_init_14 : decode cX1_init 14 = .ok (.putfield 14, 3) := by decide +kernel
theorem dX1_init_17 : decode cX1_init 17 = .ok (.return_, 1) := by decide +kernel
theorem dX1_append_0 : decode cX1_append 0 = .ok (.aload_n 0, 1) := by decide +kernel
theorem dX1_append_1 : decode cX1_append 1 = .ok (.getfield 14, 3) := by decide +kernel
theorem dX1_append_4 : decode cX1_append 4 = .ok (.aload_n 0, 1) := by decide +kernel
theorem dX1_append_5 : decode cX1_append 5 = .ok (.getfield 20, 3) := by decide +kernel
theorem dX1_append_8 : decode cX1_append 8 = .ok (.iload_n 1, 1) := by decide +kernel
theorem dX1_append_9 : decode cX1_append 9 = .ok (.invokevirtual 24, 3) := by decide +kernel
theorem dX1_append_12 : decode cX1_append 12 = .ok (.aload_n 0, 1) := by decide +kernel
theorem dX1_append_13 : decode cX1_append 13 = .ok (.dup, 1) := by decide +kernel
theorem dX1_append_14 : decode cX1_append 14 = .ok (.getfield 20, 3) := by decide +kernel
theorem dX1_append_17 : decode cX1_append 17 = .ok (.iconst 1, 1) := by decide +kernel
theorem dX1_append_18 : decode cX1_append 18 = .ok (.iadd, 1) := by decide +kernel
theorem dX1_append_19 : decode cX1_append 19 = .ok (.putfield 20, 3) := by decide +kernel
theorem dX1_append_22 : decode cX1_append 22 = .ok (.return_, 1) := by decide +kernel
theorem dX1_findFault_0 : decode cX1_findFault 0 = .ok (.iconst 0, 1) := by decide +kernel
theorem dX1_findFault_1 : decode cX1_findFault 1 = .ok (.istore_n 2, 1) := by decide +kernel
theorem dX1_findFault_2 : decode cX1_findFault 2 = .ok (.iconst 0, 1) := by decide +kernel
theorem dX1_findFault_3 : decode cX1_findFault 3 = .ok (.istore_n 3, 1) := by decide +kernel
theorem dX1_findFault_4 : decode cX1_findFault 4 = .ok (.iload_n 3, 1) := by decide +kernel
theorem dX1_findFault_5 : decode cX1_findFault 5 = .ok (.bipush 60, 2) := by decide +kernel
theorem dX1_findFault_7 : decode cX1_findFault 7 = .ok (.if_icmp .ge 60, 3) := by decide +kernel
theorem dX1_findFault_10 : decode cX1_findFault 10 = .ok (.iload_n 2, 1) := by decide +kernel
theorem dX1_findFault_11 : decode cX1_findFault 11 = .ok (.aload_n 0, 1) := by decide +kernel
theorem dX1_findFault_12 : decode cX1_findFault 12 = .ok (.getfield 20, 3) := by decide +kernel
theorem dX1_findFault_15 : decode cX1_findFault 15 = .ok (.if_icmp .ge 52, 3) := by decide +kernel
theorem dX1_findFault_18 : decode cX1_findFault 18 = .ok (.aload_n 0, 1) := by decide +kernel
theorem dX1_findFault_19 : decode cX1_findFault 19 = .ok (.iload_n 2, 1) := by decide +kernel
theorem dX1_findFault_20 : decode cX1_findFault 20 = .ok (.invokevirtual 28, 3) := by decide +kernel
theorem dX1_findFault_23 : decode cX1_findFault 23 = .ok (.ifCond .ne 5, 3) := by decide +kernel
theorem dX1_findFault_26 : decode cX1_findFault 26 = .ok (.iconst 1, 1) := by decide +kernel
theorem dX1_findFault_27 : decode cX1_findFault 27 = .ok (.ireturn, 1) := by decide +kernel
theorem dX1_findFault_28 : decode cX1_findFault 28 = .ok (.aload_n 0, 1) := by decide +kernel
theorem dX1_findFault_29 : decode cX1_findFault 29 = .ok (.getfield 32, 3) := by decide +kernel
theorem dX1_findFault_32 : decode cX1_findFault 32 = .ok (.bipush 111, 2) := by decide +kernel
theorem dX1_findFault_34 : decode cX1_findFault 34 = .ok (.if_icmp .eq 12, 3) := by decide +kernel
theorem dX1_findFault_37 : decode cX1_findFault 37 = .ok (.aload_n 0, 1) := by decide +kernel
theorem dX1_findFault_38 : decode cX1_findFault 38 = .ok (.getfield 32, 3) := by decide +kernel
theorem dX1_findFault_41 : decode cX1_findFault 41 = .ok (.bipush 99, 2) := by decide +kernel
theorem dX1_findFault_43 : decode cX1_findFault 43 = .ok (.if_icmp .ne 13, 3) := by decide +kernel
theorem dX1_findFault_46 : decode cX1_findFault 46 = .ok (.aload_n 0, 1) := by decide +kernel
theorem dX1_findFault_47 : decode cX1_findFault 47 = .ok (.getfield 35, 3) := by decide +kernel
theorem dX1_findFault_50 : decode cX1_findFault 50 = .ok (.iload_n 1, 1) := by decide +kernel
theorem dX1_findFault_51 : decode cX1_findFault 51 = .ok (.if_icmp .lt 5, 3) := by decide +kernel
theorem dX1_findFault_54 : decode cX1_findFault 54 = .ok (.iconst 2, 1) := by decide +kernel
theorem dX1_findFault_55 : decode cX1_findFault 55 = .ok (.ireturn, 1) := by decide +kernel
theorem dX1_findFault_56 : decode cX1_findFault 56 = .ok (.aload_n 0, 1) := by decide +kernel
theorem dX1_findFault_57 : decode cX1_findFault 57 = .ok (.getfield 38, 3) := by decide +kernel
theorem dX1_findFault_60 : decode cX1_findFault 60 = .ok (.istore_n 2, 1) := by decide +kernel
theorem dX1_findFault_61 : decode cX1_findFault 61 = .ok (.iinc 3 1, 3) := by decide +kernel
theorem dX1_findFault_64 : decode cX1_findFault 64 = .ok (.goto (-60), 3) := by decide +kernel
theorem dX1_findFault_67 : decode cX1_findFault 67 = .ok (.iconst 0, 1) := by decide +kernel
theorem dX1_findFault_68 : decode cX1_findFault 68 = .ok (.ireturn, 1) := by decide +kernel
theorem dX1_read_0 : decode cX1_read 0 = .ok (.aload_n 0, 1) := by decide +kernel
theorem dX1_read_1 : decode cX1_read 1 = .ok (.iload_n 1, 1) := by decide +kernel
theorem dX1_read_2 : decode cX1_read 2 = .ok (.putfield 41, 3) := by decide +kernel
theorem dX1_read_5 : decode cX1_read 5 = .ok (.aload_n 0, 1) := by decide +kernel
theorem dX1_read_6 : decode cX1_read 6 = .ok (.aload_n 0, 1) := by decide +kernel
theorem dX1_read_7 : decode cX1_read 7 = .ok (.iload_n 1, 1) := by decide +kernel
theorem dX1_read_8 : decode cX1_read 8 = .ok (.invokevirtual 44, 3) := by decide +kernel
theorem dX1_read_11 : decode cX1_read 11 = .ok (.putfield 32, 3) := by decide +kernel
theorem dX1_read_14 : decode cX1_read 14 = .ok (.aload_n 0, 1) := by decide +kernel
theorem dX1_read_15 : decode cX1_read 15 = .ok (.iload_n 1, 1) := by decide +kernel
theorem dX1_read_16 : decode cX1_read 16 = .ok (.iconst 1, 1) := by decide +kernel
theorem dX1_read_17 : decode cX1_read 17 = .ok (.iadd, 1) := by decide +kernel
theorem dX1_read_18 : decode cX1_read 18 = .ok (.putfield 38, 3) := by decide +kernel
theorem dX1_read_21 : decode cX1_read 21 = .ok (.aload_n 0, 1) := by decide +kernel
theorem dX1_read_22 : decode cX1_read 22 = .ok (.getfield 32, 3) := by decide +kernel
theorem dX1_read_25 : decode cX1_read 25 = .ok (.lookupswitch 94 #[(99, 43), (111, 43), (116, 87), (118, 65)], 43) := by decide +kernel
theorem dX1_read_68 : decode cX1_read 68 = .ok (.aload_n 0, 1) := by decide +kernel
theorem dX1_read_69 : decode cX1_read 69 = .ok (.invokevirtual 48, 3) := by decide +kernel
theorem dX1_read_72 : decode cX1_read 72 = .ok (.ifCond .eq 16, 3) := by decide +kernel
theorem dX1_read_75 : decode cX1_read 75 = .ok (.aload_n 0, 1) := by decide +kernel
theorem dX1_read_76 : decode cX1_read 76 = .ok (.bipush 59, 2) := by decide +kernel
theorem dX1_read_78 : decode cX1_read 78 = .ok (.invokevirtual 52, 3) := by decide +kernel
theorem dX1_read_81 : decode cX1_read 81 = .ok (.ifCond .eq 7, 3) := by decide +kernel
theorem dX1_read_84 : decode cX1_read 84 = .ok (.iconst 1, 1) := by decide +kernel
theorem dX1_read_85 : decode cX1_read 85 = .ok (.goto 4, 3) := by decide +kernel
theorem dX1_read_88 : decode cX1_read 88 = .ok (.iconst 0, 1) := by decide +kernel
theorem dX1_read_89 : decode cX1_read 89 = .ok (.ireturn, 1) := by decide +kernel
theorem dX1_read_90 : decode cX1_read 90 = .ok (.aload_n 0, 1) := by decide +kernel
theorem dX1_read_91 : decode cX1_read 91 = .ok (.invokevirtual 56, 3) := by decide +kernel
theorem dX1_read_94 : decode cX1_read 94 = .ok (.ifCond .eq 16, 3) := by decide +kernel
theorem dX1_read_97 : decode cX1_read 97 = .ok (.aload_n 0, 1) := by decide +kernel
theorem dX1_read_98 : decode cX1_read 98 = .ok (.bipush 59, 2) := by decide +kernel
theorem dX1_read_100 : decode cX1_read 100 = .ok (.invokevirtual 52, 3) := by decide +kernel
theorem dX1_read_103 : decode cX1_read 103 = .ok (.ifCond .eq 7, 3) := by decide +kernel
theorem dX1_read_106 : decode cX1_read 106 = .ok (.iconst 1, 1) := by decide +kernel
theorem dX1_read_107 : decode cX1_read 107 = .ok (.goto 4, 3) := by decide +kernel
theorem dX1_read_110 : decode cX1_read 110 = .ok (.iconst 0, 1) := by decide +kernel
theorem dX1_read_111 : decode cX1_read 111 = .ok (.ireturn, 1) := by decide +kernel
theorem dX1_read_112 : decode cX1_read 112 = .ok (.aload_n 0, 1) := by decide +kernel
theorem dX1_read_113 : decode cX1_read 113 = .ok (.bipush 59, 2) := by decide +kernel
theorem dX1_read_115 : decode cX1_read 115 = .ok (.invokevirtual 52, 3) := by decide +kernel
theorem dX1_read_118 : decode cX1_read 118 = .ok (.ireturn, 1) := by decide +kernel
theorem dX1_read_119 : decode cX1_read 119 = .ok (.iconst 0, 1) := by decide +kernel
theorem dX1_read_120 : decode cX1_read 120 = .ok (.ireturn, 1) := by decide +kernel
theorem dX1_readHint_0 : decode cX1_readHint 0 = .ok (.aload_n 0, 1) := by decide +kernel
theorem dX1_readHint_1 : decode cX1_readHint 1 = .ok (.iconst 2, 1) := by decide +kernel
theorem dX1_readHint_2 : decode cX1_readHint 2 = .ok (.invokevirtual 59, 3) := by decide +kernel
theorem dX1_readHint_5 : decode cX1_readHint 5 = .ok (.istore_n 1, 1) := by decide +kernel
theorem dX1_readHint_6 : decode cX1_readHint 6 = .ok (.aload_n 0, 1) := by decide +kernel
theorem dX1_readHint_7 : decode cX1_readHint 7 = .ok (.aload_n 0, 1) := by decide +kernel
theorem dX1_readHint_8 : decode cX1_readHint 8 = .ok (.getfield 62, 3) := by decide +kernel
theorem dX1_readHint_11 : decode cX1_readHint 11 = .ok (.putfield 35, 3) := by decide +kernel
theorem dX1_readHint_14 : decode cX1_readHint 14 = .ok (.iload_n 1, 1) := by decide +kernel
theorem dX1_readHint_15 : decode cX1_readHint 15 = .ok (.ireturn, 1) := by decide +kernel
theorem dX1_readMove_0 : decode cX1_readMove 0 = .ok (.aload_n 0, 1) := by decide +kernel
theorem dX1_readMove_1 : decode cX1_readMove 1 = .ok (.invokevirtual 65, 3) := by decide +kernel
theorem dX1_readMove_4 : decode cX1_readMove 4 = .ok (.ifCond .ne 5, 3) := by decide +kernel
theorem dX1_readMove_7 : decode cX1_readMove 7 = .ok (.iconst 0, 1) := by decide +kernel
theorem dX1_readMove_8 : decode cX1_readMove 8 = .ok (.ireturn, 1) := by decide +kernel
theorem dX1_readMove_9 : decode cX1_readMove 9 = .ok (.aload_n 0, 1) := by decide +kernel
theorem dX1_readMove_10 : decode cX1_readMove 10 = .ok (.aload_n 0, 1) := by decide +kernel
theorem dX1_readMove_11 : decode cX1_readMove 11 = .ok (.getfield 62, 3) := by decide +kernel
theorem dX1_readMove_14 : decode cX1_readMove 14 = .ok (.putfield 35, 3) := by decide +kernel
theorem dX1_readMove_17 : decode cX1_readMove 17 = .ok (.aload_n 0, 1) := by decide +kernel
theorem dX1_readMove_18 : decode cX1_readMove 18 = .ok (.bipush 44, 2) := by decide +kernel
theorem dX1_readMove_20 : decode cX1_readMove 20 = .ok (.invokevirtual 52, 3) := by decide +kernel
theorem dX1_readMove_23 : decode cX1_readMove 23 = .ok (.ifCond .eq 10, 3) := by decide +kernel
theorem dX1_readMove_26 : decode cX1_readMove 26 = .ok (.aload_n 0, 1) := by decide +kernel
theorem dX1_readMove_27 : decode cX1_readMove 27 = .ok (.invokevirtual 65, 3) := by decide +kernel
theorem dX1_readMove_30 : decode cX1_readMove 30 = .ok (.ifCond .ne 5, 3) := by decide +kernel
theorem dX1_readMove_33 : decode cX1_readMove 33 = .ok (.iconst 0, 1) := by decide +kernel
theorem dX1_readMove_34 : decode cX1_readMove 34 = .ok (.ireturn, 1) := by decide +kernel
theorem dX1_readMove_35 : decode cX1_readMove 35 = .ok (.aload_n 0, 1) := by decide +kernel
theorem dX1_readMove_36 : decode cX1_readMove 36 = .ok (.aload_n 0, 1) := by decide +kernel
theorem dX1_readMove_37 : decode cX1_readMove 37 = .ok (.getfield 62, 3) := by decide +kernel
theorem dX1_readMove_40 : decode cX1_readMove 40 = .ok (.putfield 68, 3) := by decide +kernel
theorem dX1_readMove_43 : decode cX1_readMove 43 = .ok (.iconst 1, 1) := by decide +kernel
theorem dX1_readMove_44 : decode cX1_readMove 44 = .ok (.ireturn, 1) := by decide +kernel
theorem dX1_readSigned_0 : decode cX1_readSigned 0 = .ok (.aload_n 0, 1) := by decide +kernel
theorem dX1_readSigned_1 : decode cX1_readSigned 1 = .ok (.bipush 45, 2) := by decide +kernel
theorem dX1_readSigned_3 : decode cX1_readSigned 3 = .ok (.invokevirtual 52, 3) := by decide +kernel
theorem dX1_readSigned_6 : decode cX1_readSigned 6 = .ok (.istore_n 1, 1) := by decide +kernel
theorem dX1_readSigned_7 : decode cX1_readSigned 7 = .ok (.aload_n 0, 1) := by decide +kernel
theorem dX1_readSigned_8 : decode cX1_readSigned 8 = .ok (.iconst 3, 1) := by decide +kernel
theorem dX1_readSigned_9 : decode cX1_readSigned 9 = .ok (.invokevirtual 59, 3) := by decide +kernel
theorem dX1_readSigned_12 : decode cX1_readSigned 12 = .ok (.istore_n 2, 1) := by decide +kernel
theorem dX1_readSigned_13 : decode cX1_readSigned 13 = .ok (.iload_n 1, 1) := by decide +kernel
theorem dX1_readSigned_14 : decode cX1_readSigned 14 = .ok (.ifCond .eq 12, 3) := by decide +kernel
theorem dX1_readSigned_17 : decode cX1_readSigned 17 = .ok (.aload_n 0, 1) := by decide +kernel
theorem dX1_readSigned_18 : decode cX1_readSigned 18 = .ok (.aload_n 0, 1) := by decide +kernel
theorem dX1_readSigned_19 : decode cX1_readSigned 19 = .ok (.getfield 62, 3) := by decide +kernel
theorem dX1_readSigned_22 : decode cX1_readSigned 22 = .ok (.ineg, 1) := by decide +kernel
theorem dX1_readSigned_23 : decode cX1_readSigned 23 = .ok (.putfield 62, 3) := by decide +kernel
theorem dX1_readSigned_26 : decode cX1_readSigned 26 = .ok (.iload_n 2, 1) := by decide +kernel
theorem dX1_readSigned_27 : decode cX1_readSigned 27 = .ok (.ireturn, 1) := by decide +kernel
theorem dX1_readDigits_0 : decode cX1_readDigits 0 = .ok (.aload_n 0, 1) := by decide +kernel
theorem dX1_readDigits_1 : decode cX1_readDigits 1 = .ok (.iconst 0, 1) := by decide +kernel
theorem dX1_readDigits_2 : decode cX1_readDigits 2 = .ok (.putfield 62, 3) := by decide +kernel
theorem dX1_readDigits_5 : decode cX1_readDigits 5 = .ok (.iconst 0, 1) := by decide +kernel
theorem dX1_readDigits_6 : decode cX1_readDigits 6 = .ok (.istore_n 2, 1) := by decide +kernel
theorem dX1_readDigits_7 : decode cX1_readDigits 7 = .ok (.iload_n 2, 1) := by decide +kernel
theorem dX1_readDigits_8 : decode cX1_readDigits 8 = .ok (.iload_n 1, 1) := by decide +kernel
theorem dX1_readDigits_9 : decode cX1_readDigits 9 = .ok (.if_icmp .ge 56, 3) := by decide +kernel
theorem dX1_readDigits_12 : decode cX1_readDigits 12 = .ok (.aload_n 0, 1) := by decide +kernel
theorem dX1_readDigits_13 : decode cX1_readDigits 13 = .ok (.aload_n 0, 1) := by decide +kernel
theorem dX1_readDigits_14 : decode cX1_readDigits 14 = .ok (.getfield 38, 3) := by decide +kernel
theorem dX1_readDigits_17 : decode cX1_readDigits 17 = .ok (.invokevirtual 44, 3) := by decide +kernel
theorem dX1_readDigits_20 : decode cX1_readDigits 20 = .ok (.invokestatic 71, 3) := by decide +kernel
theorem dX1_readDigits_23 : decode cX1_readDigits 23 = .ok (.ifCond .eq 42, 3) := by decide +kernel
theorem dX1_readDigits_26 : decode cX1_readDigits 26 = .ok (.aload_n 0, 1) := by decide +kernel
theorem dX1_readDigits_27 : decode cX1_readDigits 27 = .ok (.aload_n 0, 1) := by decide +kernel
theorem dX1_readDigits_28 : decode cX1_readDigits 28 = .ok (.getfield 62, 3) := by decide +kernel
theorem dX1_readDigits_31 : decode cX1_readDigits 31 = .ok (.bipush 10, 2) := by decide +kernel
theorem dX1_readDigits_33 : decode cX1_readDigits 33 = .ok (.imul, 1) := by decide +kernel
theorem dX1_readDigits_34 : decode cX1_readDigits 34 = .ok (.aload_n 0, 1) := by decide +kernel
theorem dX1_readDigits_35 : decode cX1_readDigits 35 = .ok (.aload_n 0, 1) := by decide +kernel
theorem dX1_readDigits_36 : decode cX1_readDigits 36 = .ok (.getfield 38, 3) := by decide +kernel
theorem dX1_readDigits_39 : decode cX1_readDigits 39 = .ok (.invokevirtual 44, 3) := by decide +kernel
theorem dX1_readDigits_42 : decode cX1_readDigits 42 = .ok (.iadd, 1) := by decide +kernel
theorem dX1_readDigits_43 : decode cX1_readDigits 43 = .ok (.bipush 48, 2) := by decide +kernel
theorem dX1_readDigits_45 : decode cX1_readDigits 45 = .ok (.isub, 1) := by decide +kernel
theorem dX1_readDigits_46 : decode cX1_readDigits 46 = .ok (.putfield 62, 3) := by decide +kernel
theorem dX1_readDigits_49 : decode cX1_readDigits 49 = .ok (.aload_n 0, 1) := by decide +kernel
theorem dX1_readDigits_50 : decode cX1_readDigits 50 = .ok (.dup, 1) := by decide +kernel
theorem dX1_readDigits_51 : decode cX1_readDigits 51 = .ok (.getfield 38, 3) := by decide +kernel
theorem dX1_readDigits_54 : decode cX1_readDigits 54 = .ok (.iconst 1, 1) := by decide +kernel
theorem dX1_readDigits_55 : decode cX1_readDigits 55 = .ok (.iadd, 1) := by decide +kernel
theorem dX1_readDigits_56 : decode cX1_readDigits 56 = .ok (.putfield 38, 3) := by decide +kernel
theorem dX1_readDigits_59 : decode cX1_readDigits 59 = .ok (.iinc 2 1, 3) := by decide +kernel
theorem dX1_readDigits_62 : decode cX1_readDigits 62 = .ok (.goto (-55), 3) := by decide +kernel
theorem dX1_readDigits_65 : decode cX1_readDigits 65 = .ok (.iload_n 2, 1) := by decide +kernel
theorem dX1_readDigits_66 : decode cX1_readDigits 66 = .ok (.ifCond .le 7, 3) := by decide +kernel
theorem dX1_readDigits_69 : decode cX1_readDigits 69 = .ok (.iconst 1, 1) := by decide +kernel
theorem dX1_readDigits_70 : decode cX1_readDigits 70 = .ok (.goto 4, 3) := by decide +kernel
theorem dX1_readDigits_73 : decode cX1_readDigits 73 = .ok (.iconst 0, 1) := by decide +kernel
theorem dX1_readDigits_74 : decode cX1_readDigits 74 = .ok (.ireturn, 1) := by decide +kernel
theorem dX1_isDigit_0 : decode cX1_isDigit 0 = .ok (.iload_n 0, 1) := by decide +kernel
theorem dX1_isDigit_1 : decode cX1_isDigit 1 = .ok (.bipush 48, 2) := by decide +kernel
theorem dX1_isDigit_3 : decode cX1_isDigit 3 = .ok (.if_icmp .lt 13, 3) := by decide +kernel
theorem dX1_isDigit_6 : decode cX1_isDigit 6 = .ok (.iload_n 0, 1) := by decide +kernel
theorem dX1_isDigit_7 : decode cX1_isDigit 7 = .ok (.bipush 57, 2) := by decide +kernel
theorem dX1_isDigit_9 : decode cX1_isDigit 9 = .ok (.if_icmp .gt 7, 3) := by decide +kernel
theorem dX1_isDigit_12 : decode cX1_isDigit 12 = .ok (.iconst 1, 1) := by decide +kernel
theorem dX1_isDigit_13 : decode cX1_isDigit 13 = .ok (.goto 4, 3) := by decide +kernel
theorem dX1_isDigit_16 : decode cX1_isDigit 16 = .ok (.iconst 0, 1) := by decide +kernel
theorem dX1_isDigit_17 : decode cX1_isDigit 17 = .ok (.ireturn, 1) := by decide +kernel
theorem dX1_pass_0 : decode cX1_pass 0 = .ok (.aload_n 0, 1) := by decide +kernel
theorem dX1_pass_1 : decode cX1_pass 1 = .ok (.aload_n 0, 1) := by decide +kernel
theorem dX1_pass_2 : decode cX1_pass 2 = .ok (.getfield 38, 3) := by decide +kernel
theorem dX1_pass_5 : decode cX1_pass 5 = .ok (.invokevirtual 44, 3) := by decide +kernel
theorem dX1_pass_8 : decode cX1_pass 8 = .ok (.iload_n 1, 1) := by decide +kernel
theorem dX1_pass_9 : decode cX1_pass 9 = .ok (.if_icmp .eq 5, 3) := by decide +kernel
theorem dX1_pass_12 : decode cX1_pass 12 = .ok (.iconst 0, 1) := by decide +kernel
theorem dX1_pass_13 : decode cX1_pass 13 = .ok (.ireturn, 1) := by decide +kernel
theorem dX1_pass_14 : decode cX1_pass 14 = .ok (.aload_n 0, 1) := by decide +kernel
theorem dX1_pass_15 : decode cX1_pass 15 = .ok (.dup, 1) := by decide +kernel
theorem dX1_pass_16 : decode cX1_pass 16 = .ok (.getfield 38, 3) := by decide +kernel
theorem dX1_pass_19 : decode cX1_pass 19 = .ok (.iconst 1, 1) := by decide +kernel
theorem dX1_pass_20 : decode cX1_pass 20 = .ok (.iadd, 1) := by decide +kernel
theorem dX1_pass_21 : decode cX1_pass 21 = .ok (.putfield 38, 3) := by decide +kernel
theorem dX1_pass_24 : decode cX1_pass 24 = .ok (.iconst 1, 1) := by decide +kernel
theorem dX1_pass_25 : decode cX1_pass 25 = .ok (.ireturn, 1) := by decide +kernel
theorem dX1_signAt_0 : decode cX1_signAt 0 = .ok (.iload_n 1, 1) := by decide +kernel
theorem dX1_signAt_1 : decode cX1_signAt 1 = .ok (.aload_n 0, 1) := by decide +kernel
theorem dX1_signAt_2 : decode cX1_signAt 2 = .ok (.getfield 20, 3) := by decide +kernel
theorem dX1_signAt_5 : decode cX1_signAt 5 = .ok (.if_icmp .ge 14, 3) := by decide +kernel
theorem dX1_signAt_8 : decode cX1_signAt 8 = .ok (.aload_n 0, 1) := by decide +kernel
theorem dX1_signAt_9 : decode cX1_signAt 9 = .ok (.getfield 14, 3) := by decide +kernel
theorem dX1_signAt_12 : decode cX1_signAt 12 = .ok (.iload_n 1, 1) := by decide +kernel
theorem dX1_signAt_13 : decode cX1_signAt 13 = .ok (.invokevirtual 74, 3) := by decide +kernel
theorem dX1_signAt_16 : decode cX1_signAt 16 = .ok (.goto 4, 3) := by decide +kernel
theorem dX1_signAt_19 : decode cX1_signAt 19 = .ok (.iconst 0, 1) := by decide +kernel
theorem dX1_signAt_20 : decode cX1_signAt 20 = .ok (.ireturn, 1) := by decide +kernel
theorem dX2_init_0 : decode cX2_init 0 = .ok (.aload_n 0, 1) := by decide +kernel
theorem dX2_init_1 : decode cX2_init 1 = .ok (.invokespecial 3, 3) := by decide +kernel
theorem dX2_init_4 : decode cX2_init 4 = .ok (.return_, 1) := by decide +kernel
theorem dX2_find_0 : decode cX2_find 0 = .ok (.aload_n 1, 1) := by decide +kernel
theorem dX2_find_1 : decode cX2_find 1 = .ok (.iload_n 2, 1) := by decide +kernel
theorem dX2_find_2 : decode cX2_find 2 = .ok (.iconst 1, 1) := by decide +kernel
theorem dX2_find_3 : decode cX2_find 3 = .ok (.invokevirtual 9, 3) := by decide +kernel
theorem dX2_find_6 : decode cX2_find 6 = .ok (.istore 6, 2) := by decide +kernel
theorem dX2_find_8 : decode cX2_find 8 = .ok (.aload_n 1, 1) := by decide +kernel
theorem dX2_find_9 : decode cX2_find 9 = .ok (.iload_n 2, 1) := by decide +kernel
theorem dX2_find_10 : decode cX2_find 10 = .ok (.iconst 2, 1) := by decide +kernel
theorem dX2_find_11 : decode cX2_find 11 = .ok (.invokevirtual 9, 3) := by decide +kernel
theorem dX2_find_14 : decode cX2_find 14 = .ok (.istore 7, 2) := by decide +kernel
theorem dX2_find_16 : decode cX2_find 16 = .ok (.iload_n 3, 1) := by decide +kernel
theorem dX2_find_17 : decode cX2_find 17 = .ok (.invokestatic 15, 3) := by decide +kernel
theorem dX2_find_20 : decode cX2_find 20 = .ok (.istore 8, 2) := by decide +kernel
theorem dX2_find_22 : decode cX2_find 22 = .ok (.iload 8, 2) := by decide +kernel
theorem dX2_find_24 : decode cX2_find 24 = .ok (.ifCond .eq 8, 3) := by decide +kernel
theorem dX2_find_27 : decode cX2_find 27 = .ok (.iload 6, 2) := by decide +kernel
theorem dX2_find_29 : decode cX2_find 29 = .ok (.goto 5, 3) := by decide +kernel
theorem dX2_find_32 : decode cX2_find 32 = .ok (.iload 7, 2) := by decide +kernel
theorem dX2_find_34 : decode cX2_find 34 = .ok (.istore 9, 2) := by decide +kernel
theorem dX2_find_36 : decode cX2_find 36 = .ok (.aload_n 1, 1) := by decide +kernel
theorem dX2_find_37 : decode cX2_find 37 = .ok (.iload_n 2, 1) := by decide +kernel
theorem dX2_find_38 : decode cX2_find 38 = .ok (.iload 8, 2) := by decide +kernel
theorem dX2_find_40 : decode cX2_find 40 = .ok (.invokestatic 19, 3) := by decide +kernel
theorem dX2_find_43 : decode cX2_find 43 = .ok (.istore 10, 2) := by decide +kernel
theorem dX2_find_45 : decode cX2_find 45 = .ok (.aload_n 1, 1) := by decide +kernel
theorem dX2_find_46 : decode cX2_find 46 = .ok (.iload_n 2, 1) := by decide +kernel
theorem dX2_find_47 : decode cX2_find 47 = .ok (.iload 8, 2) := by decide +kernel
theorem dX2_find_49 : decode cX2_find 49 = .ok (.invokestatic 25, 3) := by decide +kernel
theorem dX2_find_52 : decode cX2_find 52 = .ok (.istore 11, 2) := by decide +kernel
theorem dX2_find_54 : decode cX2_find 54 = .ok (.aload_n 1, 1) := by decide +kernel
theorem dX2_find_55 : decode cX2_find 55 = .ok (.iconst 1, 1) := by decide +kernel
theorem dX2_find_56 : decode cX2_find 56 = .ok (.invokevirtual 28, 3) := by decide +kernel
theorem dX2_find_59 : decode cX2_find 59 = .ok (.istore 12, 2) := by decide +kernel
theorem dX2_find_61 : decode cX2_find 61 = .ok (.aload_n 0, 1) := by decide +kernel
theorem dX2_find_62 : decode cX2_find 62 = .ok (.iconst 0, 1) := by decide +kernel
theorem dX2_find_63 : decode cX2_find 63 = .ok (.putfield 32, 3) := by decide +kernel
theorem dX2_find_66 : decode cX2_find 66 = .ok (.aload_n 1, 1) := by decide +kernel
theorem dX2_find_67 : decode cX2_find 67 = .ok (.iload_n 2, 1) := by decide +kernel
theorem dX2_find_68 : decode cX2_find 68 = .ok (.bipush 6, 2) := by decide +kernel
theorem dX2_find_70 : decode cX2_find 70 = .ok (.invokevirtual 9, 3) := by decide +kernel
theorem dX2_find_73 : decode cX2_find 73 = .ok (.iconst 1, 1) := by decide +kernel
theorem dX2_find_74 : decode cX2_find 74 = .ok (.if_icmp .ne 51, 3) := by decide +kernel
theorem dX2_find_77 : decode cX2_find 77 = .ok (.aload_n 1, 1) := by decide +kernel
theorem dX2_find_78 : decode cX2_find 78 = .ok (.iload 8, 2) := by decide +kernel
theorem dX2_find_80 : decode cX2_find 80 = .ok (.ifCond .eq 7, 3) := by decide +kernel
theorem dX2_find_83 : decode cX2_find 83 = .ok (.iconst 0, 1) := by decide +kernel
theorem dX2_find_84 : decode cX2_find 84 = .ok (.goto 4, 3) := by decide +kernel
theorem dX2_find_87 : decode cX2_find 87 = .ok (.iconst 1, 1) := by decide +kernel
theorem dX2_find_88 : decode cX2_find 88 = .ok (.invokevirtual 36, 3) := by decide +kernel
theorem dX2_find_91 : decode cX2_find 91 = .ok (.istore 13, 2) := by decide +kernel
theorem dX2_find_93 : decode cX2_find 93 = .ok (.aload_n 0, 1) := by decide +kernel
theorem dX2_find_94 : decode cX2_find 94 = .ok (.iload 13, 2) := by decide +kernel
theorem dX2_find_96 : decode cX2_find 96 = .ok (.iload 8, 2) := by decide +kernel
theorem dX2_find_98 : decode cX2_find 98 = .ok (.ifCond .eq 8, 3) := by decide +kernel
theorem dX2_find_101 : decode cX2_find 101 = .ok (.iload 4, 2) := by decide +kernel
theorem dX2_find_103 : decode cX2_find 103 = .ok (.goto 5, 3) := by decide +kernel
theorem dX2_find_106 : decode cX2_find 106 = .ok (.iload 5, 2) := by decide +kernel
theorem dX2_find_108 : decode cX2_find 108 = .ok (.iload 10, 2) := by decide +kernel
theorem dX2_find_110 : decode cX2_find 110 = .ok (.iload 9, 2) := by decide +kernel
theorem dX2_find_112 : decode cX2_find 112 = .ok (.iload 11, 2) := by decide +kernel
theorem dX2_find_114 : decode cX2_find 114 = .ok (.iload 10, 2) := by decide +kernel
theorem dX2_find_116 : decode cX2_find 116 = .ok (.isub, 1) := by decide +kernel
theorem dX2_find_117 : decode cX2_find 117 = .ok (.iload 12, 2) := by decide +kernel
theorem dX2_find_119 : decode cX2_find 119 = .ok (.invokestatic 39, 3) := by decide +kernel
theorem dX2_find_122 : decode cX2_find 122 = .ok (.putfield 32, 3) := by decide +kernel
theorem dX2_find_125 : decode cX2_find 125 = .ok (.iload 10, 2) := by decide +kernel
theorem dX2_find_127 : decode cX2_find 127 = .ok (.aload_n 0, 1) := by decide +kernel
theorem dX2_find_128 : decode cX2_find 128 = .ok (.getfield 32, 3) := by decide +kernel
theorem dX2_find_131 : decode cX2_find 131 = .ok (.iadd, 1) := by decide +kernel
theorem dX2_find_132 : decode cX2_find 132 = .ok (.istore 10, 2) := by decide +kernel
theorem dX2_find_134 : decode cX2_find 134 = .ok (.aload_n 0, 1) := by decide +kernel
theorem dX2_find_135 : decode cX2_find 135 = .ok (.iload 11, 2) := by decide +kernel
theorem dX2_find_137 : decode cX2_find 137 = .ok (.iload 10, 2) := by decide +kernel
theorem dX2_find_139 : decode cX2_find 139 = .ok (.isub, 1) := by decide +kernel
theorem dX2_find_140 : decode cX2_find 140 = .ok (.putfield 43, 3) := by decide +kernel
theorem dX2_find_143 : decode cX2_find 143 = .ok (.aload_n 0, 1) := by decide +kernel
theorem dX2_find_144 : decode cX2_find 144 = .ok (.aload_n 0, 1) := by decide +kernel
theorem dX2_find_145 : decode cX2_find 145 = .ok (.getfield 43, 3) := by decide +kernel
theorem dX2_find_148 : decode cX2_find 148 = .ok (.iload 9, 2) := by decide +kernel
theorem dX2_find_150 : decode cX2_find 150 = .ok (.iload 12, 2) := by decide +kernel
theorem dX2_find_152 : decode cX2_find 152 = .ok (.invokestatic 46, 3) := by decide +kernel
theorem dX2_find_155 : decode cX2_find 155 = .ok (.putfield 50, 3) := by decide +kernel
theorem dX2_find_158 : decode cX2_find 158 = .ok (.aload_n 1, 1) := by decide +kernel
theorem dX2_find_159 : decode cX2_find 159 = .ok (.aload_n 1, 1) := by decide +kernel
theorem dX2_find_160 : decode cX2_find 160 = .ok (.iload_n 2, 1) := by decide +kernel
theorem dX2_find_161 : decode cX2_find 161 = .ok (.iconst 0, 1) := by decide +kernel
theorem dX2_find_162 : decode cX2_find 162 = .ok (.invokevirtual 9, 3) := by decide +kernel
theorem dX2_find_165 : decode cX2_find 165 = .ok (.iload_n 3, 1) := by decide +kernel
theorem dX2_find_166 : decode cX2_find 166 = .ok (.invokestatic 54, 3) := by decide +kernel
theorem dX2_find_169 : decode cX2_find 169 = .ok (.istore 13, 2) := by decide +kernel
theorem dX2_find_171 : decode cX2_find 171 = .ok (.iload_n 3, 1) := by decide +kernel
theorem dX2_find_172 : decode cX2_find 172 = .ok (.invokestatic 58, 3) := by decide +kernel
theorem dX2_find_175 : decode cX2_find 175 = .ok (.ifCond .eq 21, 3) := by decide +kernel
theorem dX2_find_178 : decode cX2_find 178 = .ok (.iload 13, 2) := by decide +kernel
theorem dX2_find_180 : decode cX2_find 180 = .ok (.iload 8, 2) := by decide +kernel
theorem dX2_find_182 : decode cX2_find 182 = .ok (.ifCond .eq 8, 3) := by decide +kernel
theorem dX2_find_185 : decode cX2_find 185 = .ok (.iload 7, 2) := by decide +kernel
theorem dX2_find_187 : decode cX2_find 187 = .ok (.goto 5, 3) := by decide +kernel
theorem dX2_find_190 : decode cX2_find 190 = .ok (.iload 6, 2) := by decide +kernel
theorem dX2_find_192 : decode cX2_find 192 = .ok (.isub, 1) := by decide +kernel
theorem dX2_find_193 : decode cX2_find 193 = .ok (.goto 5, 3) := by decide +kernel
theorem dX2_find_196 : decode cX2_find 196 = .ok (.iload 13, 2) := by decide +kernel
theorem dX2_find_198 : decode cX2_find 198 = .ok (.istore 14, 2) := by decide +kernel
theorem dX2_find_200 : decode cX2_find 200 = .ok (.aload_n 0, 1) := by decide +kernel
theorem dX2_find_201 : decode cX2_find 201 = .ok (.iload 8, 2) := by decide +kernel
theorem dX2_find_203 : decode cX2_find 203 = .ok (.ifCond .eq 8, 3) := by decide +kernel
theorem dX2_find_206 : decode cX2_find 206 = .ok (.iload 10, 2) := by decide +kernel
theorem dX2_find_208 : decode cX2_find 208 = .ok (.goto 5, 3) := by decide +kernel
theorem dX2_find_211 : decode cX2_find 211 = .ok (.iload 14, 2) := by decide +kernel
theorem dX2_find_213 : decode cX2_find 213 = .ok (.putfield 61, 3) := by decide +kernel
theorem dX2_find_216 : decode cX2_find 216 = .ok (.aload_n 0, 1) := by decide +kernel
theorem dX2_find_217 : decode cX2_find 217 = .ok (.iload 8, 2) := by decide +kernel
theorem dX2_find_219 : decode cX2_find 219 = .ok (.ifCond .eq 8, 3) := by decide +kernel
theorem dX2_find_222 : decode cX2_find 222 = .ok (.iload 14, 2) := by decide +kernel
theorem dX2_find_224 : decode cX2_find 224 = .ok (.goto 5, 3) := by decide +kernel
theorem dX2_find_227 : decode cX2_find 227 = .ok (.iload 10, 2) := by decide +kernel
theorem dX2_find_229 : decode cX2_find 229 = .ok (.putfield 64, 3) := by decide +kernel
theorem dX2_find_232 : decode cX2_find 232 = .ok (.aload_n 0, 1) := by decide +kernel
theorem dX2_find_233 : decode cX2_find 233 = .ok (.aload_n 0, 1) := by decide +kernel
theorem dX2_find_234 : decode cX2_find 234 = .ok (.getfield 61, 3) := by decide +kernel
theorem dX2_find_237 : decode cX2_find 237 = .ok (.iload 6, 2) := by decide +kernel
theorem dX2_find_239 : decode cX2_find 239 = .ok (.aload_n 1, 1) := by decide +kernel
theorem dX2_find_240 : decode cX2_find 240 = .ok (.iconst 0, 1) := by decide +kernel
theorem dX2_find_241 : decode cX2_find 241 = .ok (.invokevirtual 36, 3) := by decide +kernel
theorem dX2_find_244 : decode cX2_find 244 = .ok (.iload 4, 2) := by decide +kernel
theorem dX2_find_246 : decode cX2_find 246 = .ok (.invokestatic 67, 3) := by decide +kernel
theorem dX2_find_249 : decode cX2_find 249 = .ok (.ifCond .eq 26, 3) := by decide +kernel
theorem dX2_find_252 : decode cX2_find 252 = .ok (.aload_n 0, 1) := by decide +kernel
theorem dX2_find_253 : decode cX2_find 253 = .ok (.getfield 64, 3) := by decide +kernel
theorem dX2_find_256 : decode cX2_find 256 = .ok (.iload 7, 2) := by decide +kernel
theorem dX2_find_258 : decode cX2_find 258 = .ok (.aload_n 1, 1) := by decide +kernel
theorem dX2_find_259 : decode cX2_find 259 = .ok (.iconst 1, 1) := by decide +kernel
theorem dX2_find_260 : decode cX2_find 260 = .ok (.invokevirtual 36, 3) := by decide +kernel
theorem dX2_find_263 : decode cX2_find 263 = .ok (.iload 5, 2) := by decide +kernel
theorem dX2_find_265 : decode cX2_find 265 = .ok (.invokestatic 67, 3) := by decide +kernel
theorem dX2_find_268 : decode cX2_find 268 = .ok (.ifCond .eq 7, 3) := by decide +kernel
theorem dX2_find_271 : decode cX2_find 271 = .ok (.iconst 1, 1) := by decide +kernel
theorem dX2_find_272 : decode cX2_find 272 = .ok (.goto 4, 3) := by decide +kernel
theorem dX2_find_275 : decode cX2_find 275 = .ok (.iconst 0, 1) := by decide +kernel
theorem dX2_find_276 : decode cX2_find 276 = .ok (.putfield 71, 3) := by decide +kernel
theorem dX2_find_279 : decode cX2_find 279 = .ok (.return_, 1) := by decide +kernel
theorem dX2_beginAlong_0 : decode cX2_beginAlong 0 = .ok (.aload_n 0, 1) := by decide +kernel
theorem dX2_beginAlong_1 : decode cX2_beginAlong 1 = .ok (.iload_n 1, 1) := by decide +kernel
theorem dX2_beginAlong_2 : decode cX2_beginAlong 2 = .ok (.iconst 0, 1) := by decide +kernel
theorem dX2_beginAlong_3 : decode cX2_beginAlong 3 = .ok (.invokevirtual 9, 3) := by decide +kernel
theorem dX2_beginAlong_6 : decode cX2_beginAlong 6 = .ok (.istore_n 3, 1) := by decide +kernel
theorem dX2_beginAlong_7 : decode cX2_beginAlong 7 = .ok (.aload_n 0, 1) := by decide +kernel
theorem dX2_beginAlong_8 : decode cX2_beginAlong 8 = .ok (.iload_n 3, 1) := by decide +kernel
theorem dX2_beginAlong_9 : decode cX2_beginAlong 9 = .ok (.iload_n 2, 1) := by decide +kernel
theorem dX2_beginAlong_10 : decode cX2_beginAlong 10 = .ok (.ifCond .eq 7, 3) := by decide +kernel
theorem dX2_beginAlong_13 : decode cX2_beginAlong 13 = .ok (.iconst 0, 1) := by decide +kernel
theorem dX2_beginAlong_14 : decode cX2_beginAlong 14 = .ok (.goto 4, 3) := by decide +kernel
theorem dX2_beginAlong_17 : decode cX2_beginAlong 17 = .ok (.iconst 1, 1) := by decide +kernel
theorem dX2_beginAlong_18 : decode cX2_beginAlong 18 = .ok (.invokevirtual 74, 3) := by decide +kernel
theorem dX2_beginAlong_21 : decode cX2_beginAlong 21 = .ok (.istore 4, 2) := by decide +kernel
theorem dX2_beginAlong_23 : decode cX2_beginAlong 23 = .ok (.aload_n 0, 1) := by decide +kernel
theorem dX2_beginAlong_24 : decode cX2_beginAlong 24 = .ok (.iload_n 3, 1) := by decide +kernel
theorem dX2_beginAlong_25 : decode cX2_beginAlong 25 = .ok (.iload_n 2, 1) := by decide +kernel
theorem dX2_beginAlong_26 : decode cX2_beginAlong 26 = .ok (.ifCond .eq 7, 3) := by decide +kernel
theorem dX2_beginAlong_29 : decode cX2_beginAlong 29 = .ok (.iconst 2, 1) := by decide +kernel
theorem dX2_beginAlong_30 : decode cX2_beginAlong 30 = .ok (.goto 4, 3) := by decide +kernel
theorem dX2_beginAlong_33 : decode cX2_beginAlong 33 = .ok (.iconst 3, 1) := by decide +kernel
theorem dX2_beginAlong_34 : decode cX2_beginAlong 34 = .ok (.invokevirtual 74, 3) := by decide +kernel
theorem dX2_beginAlong_37 : decode cX2_beginAlong 37 = .ok (.aload_n 0, 1) := by decide +kernel
theorem dX2_beginAlong_38 : decode cX2_beginAlong 38 = .ok (.iload_n 1, 1) := by decide +kernel
theorem dX2_beginAlong_39 : decode cX2_beginAlong 39 = .ok (.iload_n 2, 1) := by decide +kernel
theorem dX2_beginAlong_40 : decode cX2_beginAlong 40 = .ok (.ifCond .eq 7, 3) := by decide +kernel
theorem dX2_beginAlong_43 : decode cX2_beginAlong 43 = .ok (.iconst 1, 1) := by decide +kernel
theorem dX2_beginAlong_44 : decode cX2_beginAlong 44 = .ok (.goto 4, 3) := by decide +kernel
theorem dX2_beginAlong_47 : decode cX2_beginAlong 47 = .ok (.iconst 2, 1) := by decide +kernel
theorem dX2_beginAlong_48 : decode cX2_beginAlong 48 = .ok (.invokevirtual 9, 3) := by decide +kernel
theorem dX2_beginAlong_51 : decode cX2_beginAlong 51 = .ok (.isub, 1) := by decide +kernel
theorem dX2_beginAlong_52 : decode cX2_beginAlong 52 = .ok (.istore 5, 2) := by decide +kernel
theorem dX2_beginAlong_54 : decode cX2_beginAlong 54 = .ok (.aload_n 0, 1) := by decide +kernel
theorem dX2_beginAlong_55 : decode cX2_beginAlong 55 = .ok (.iload_n 1, 1) := by decide +kernel
theorem dX2_beginAlong_56 : decode cX2_beginAlong 56 = .ok (.iconst 4, 1) := by decide +kernel
theorem dX2_beginAlong_57 : decode cX2_beginAlong 57 = .ok (.invokevirtual 9, 3) := by decide +kernel
theorem dX2_beginAlong_60 : decode cX2_beginAlong 60 = .ok (.lookupswitch 41 #[(0, 28), (1, 31)], 28) := by decide +kernel
theorem dX2_beginAlong_88 : decode cX2_beginAlong 88 = .ok (.iload 4, 2) := by decide +kernel
theorem dX2_beginAlong_90 : decode cX2_beginAlong 90 = .ok (.ireturn, 1) := by decide +kernel
theorem dX2_beginAlong_91 : decode cX2_beginAlong 91 = .ok (.iload 4, 2) := by decide +kernel
theorem dX2_beginAlong_93 : decode cX2_beginAlong 93 = .ok (.iload 5, 2) := by decide +kernel
theorem dX2_beginAlong_95 : decode cX2_beginAlong 95 = .ok (.iconst 2, 1) := by decide +kernel
theorem dX2_beginAlong_96 : decode cX2_beginAlong 96 = .ok (.invokestatic 77, 3) := by decide +kernel
theorem dX2_beginAlong_99 : decode cX2_beginAlong 99 = .ok (.iadd, 1) := by decide +kernel
theorem dX2_beginAlong_100 : decode cX2_beginAlong 100 = .ok (.ireturn, 1) := by decide +kernel
theorem dX2_beginAlong_101 : decode cX2_beginAlong 101 = .ok (.iload 4, 2) := by decide +kernel
theorem dX2_beginAlong_103 : decode cX2_beginAlong 103 = .ok (.iload 5, 2) := by decide +kernel
theorem dX2_beginAlong_105 : decode cX2_beginAlong 105 = .ok (.iadd, 1) := by decide +kernel
theorem dX2_beginAlong_106 : decode cX2_beginAlong 106 = .ok (.ireturn, 1) := by decide +kernel
theorem dX2_middleAlong_0 : decode cX2_middleAlong 0 = .ok (.aload_n 0, 1) := by decide +kernel
theorem dX2_middleAlong_1 : decode cX2_middleAlong 1 = .ok (.iload_n 1, 1) := by decide +kernel
theorem dX2_middleAlong_2 : decode cX2_middleAlong 2 = .ok (.iconst 0, 1) := by decide +kernel
theorem dX2_middleAlong_3 : decode cX2_middleAlong 3 = .ok (.invokevirtual 9, 3) := by decide +kernel
theorem dX2_middleAlong_6 : decode cX2_middleAlong 6 = .ok (.istore_n 3, 1) := by decide +kernel
theorem dX2_middleAlong_7 : decode cX2_middleAlong 7 = .ok (.aload_n 0, 1) := by decide +kernel
theorem dX2_middleAlong_8 : decode cX2_middleAlong 8 = .ok (.iload_n 3, 1) := by decide +kernel
theorem dX2_middleAlong_9 : decode cX2_middleAlong 9 = .ok (.iload_n 2, 1) := by decide +kernel
theorem dX2_middleAlong_10 : decode cX2_middleAlong 10 = .ok (.ifCond .eq 7, 3) := by decide +kernel
theorem dX2_middleAlong_13 : decode cX2_middleAlong 13 = .ok (.iconst 2, 1) := by decide +kernel
theorem dX2_middleAlong_14 : decode cX2_middleAlong 14 = .ok (.goto 4, 3) := by decide +kernel
theorem dX2_middleAlong_17 : decode cX2_middleAlong 17 = .ok (.iconst 3, 1) := by decide +kernel
theorem dX2_middleAlong_18 : decode cX2_middleAlong 18 = .ok (.invokevirtual 74, 3) := by decide +kernel
theorem dX2_middleAlong_21 : decode cX2_middleAlong 21 = .ok (.istore 4, 2) := by decide +kernel
theorem dX2_middleAlong_23 : decode cX2_middleAlong 23 = .ok (.aload_n 0, 1) := by decide +kernel
theorem dX2_middleAlong_24 : decode cX2_middleAlong 24 = .ok (.iload_n 3, 1) := by decide +kernel
theorem dX2_middleAlong_25 : decode cX2_middleAlong 25 = .ok (.iload_n 2, 1) := by decide +kernel
theorem dX2_middleAlong_26 : decode cX2_middleAlong 26 = .ok (.ifCond .eq 7, 3) := by decide +kernel
theorem dX2_middleAlong_29 : decode cX2_middleAlong 29 = .ok (.iconst 0, 1) := by decide +kernel
theorem dX2_middleAlong_30 : decode cX2_middleAlong 30 = .ok (.goto 4, 3) := by decide +kernel
theorem dX2_middleAlong_33 : decode cX2_middleAlong 33 = .ok (.iconst 1, 1) := by decide +kernel
theorem dX2_middleAlong_34 : decode cX2_middleAlong 34 = .ok (.invokevirtual 74, 3) := by decide +kernel
theorem dX2_middleAlong_37 : decode cX2_middleAlong 37 = .ok (.iload 4, 2) := by decide +kernel
theorem dX2_middleAlong_39 : decode cX2_middleAlong 39 = .ok (.iconst 2, 1) := by decide +kernel
theorem dX2_middleAlong_40 : decode cX2_middleAlong 40 = .ok (.invokestatic 77, 3) := by decide +kernel
theorem dX2_middleAlong_43 : decode cX2_middleAlong 43 = .ok (.iadd, 1) := by decide +kernel
theorem dX2_middleAlong_44 : decode cX2_middleAlong 44 = .ok (.ireturn, 1) := by decide +kernel
theorem dX2_shiftInto_0 : decode cX2_shiftInto 0 = .ok (.iload_n 3, 1) := by decide +kernel
theorem dX2_shiftInto_1 : decode cX2_shiftInto 1 = .ok (.iload_n 1, 1) := by decide +kernel
theorem dX2_shiftInto_2 : decode cX2_shiftInto 2 = .ok (.if_icmp .le 5, 3) := by decide +kernel
theorem dX2_shiftInto_5 : decode cX2_shiftInto 5 = .ok (.iconst 0, 1) := by decide +kernel
theorem dX2_shiftInto_6 : decode cX2_shiftInto 6 = .ok (.ireturn, 1) := by decide +kernel
theorem dX2_shiftInto_7 : decode cX2_shiftInto 7 = .ok (.iconst 0, 1) := by decide +kernel
theorem dX2_shiftInto_8 : decode cX2_shiftInto 8 = .ok (.iload_n 0, 1) := by decide +kernel
theorem dX2_shiftInto_9 : decode cX2_shiftInto 9 = .ok (.iload_n 2, 1) := by decide +kernel
theorem dX2_shiftInto_10 : decode cX2_shiftInto 10 = .ok (.isub, 1) := by decide +kernel
theorem dX2_shiftInto_11 : decode cX2_shiftInto 11 = .ok (.invokestatic 82, 3) := by decide +kernel
theorem dX2_shiftInto_14 : decode cX2_shiftInto 14 = .ok (.istore 6, 2) := by decide +kernel
theorem dX2_shiftInto_16 : decode cX2_shiftInto 16 = .ok (.iconst 0, 1) := by decide +kernel
theorem dX2_shiftInto_17 : decode cX2_shiftInto 17 = .ok (.iload_n 2, 1) := by decide +kernel
theorem dX2_shiftInto_18 : decode cX2_shiftInto 18 = .ok (.iload_n 3, 1) := by decide +kernel
theorem dX2_shiftInto_19 : decode cX2_shiftInto 19 = .ok (.iadd, 1) := by decide +kernel
theorem dX2_shiftInto_20 : decode cX2_shiftInto 20 = .ok (.iload_n 0, 1) := by decide +kernel
theorem dX2_shiftInto_21 : decode cX2_shiftInto 21 = .ok (.isub, 1) := by decide +kernel
theorem dX2_shiftInto_22 : decode cX2_shiftInto 22 = .ok (.iload_n 1, 1) := by decide +kernel
theorem dX2_shiftInto_23 : decode cX2_shiftInto 23 = .ok (.isub, 1) := by decide +kernel
theorem dX2_shiftInto_24 : decode cX2_shiftInto 24 = .ok (.invokestatic 82, 3) := by decide +kernel
theorem dX2_shiftInto_27 : decode cX2_shiftInto 27 = .ok (.istore 7, 2) := by decide +kernel
theorem dX2_shiftInto_29 : decode cX2_shiftInto 29 = .ok (.iload 4, 2) := by decide +kernel
theorem dX2_shiftInto_31 : decode cX2_shiftInto 31 = .ok (.iload_n 3, 1) := by decide +kernel
theorem dX2_shiftInto_32 : decode cX2_shiftInto 32 = .ok (.iload 5, 2) := by decide +kernel
theorem dX2_shiftInto_34 : decode cX2_shiftInto 34 = .ok (.invokestatic 46, 3) := by decide +kernel
theorem dX2_shiftInto_37 : decode cX2_shiftInto 37 = .ok (.ifCond .eq 31, 3) := by decide +kernel
theorem dX2_shiftInto_40 : decode cX2_shiftInto 40 = .ok (.iload 6, 2) := by decide +kernel
theorem dX2_shiftInto_42 : decode cX2_shiftInto 42 = .ok (.iload 4, 2) := by decide +kernel
theorem dX2_shiftInto_44 : decode cX2_shiftInto 44 = .ok (.iload 5, 2) := by decide +kernel
theorem dX2_shiftInto_46 : decode cX2_shiftInto 46 = .ok (.isub, 1) := by decide +kernel
theorem dX2_shiftInto_47 : decode cX2_shiftInto 47 = .ok (.invokestatic 85, 3) := by decide +kernel
theorem dX2_shiftInto_50 : decode cX2_shiftInto 50 = .ok (.istore 6, 2) := by decide +kernel
theorem dX2_shiftInto_52 : decode cX2_shiftInto 52 = .ok (.iload 7, 2) := by decide +kernel
theorem dX2_shiftInto_54 : decode cX2_shiftInto 54 = .ok (.iload_n 3, 1) := by decide +kernel
theorem dX2_shiftInto_55 : decode cX2_shiftInto 55 = .ok (.iconst 1, 1) := by decide +kernel
theorem dX2_shiftInto_56 : decode cX2_shiftInto 56 = .ok (.isub, 1) := by decide +kernel
theorem dX2_shiftInto_57 : decode cX2_shiftInto 57 = .ok (.iload 5, 2) := by decide +kernel
theorem dX2_shiftInto_59 : decode cX2_shiftInto 59 = .ok (.isub, 1) := by decide +kernel
theorem dX2_shiftInto_60 : decode cX2_shiftInto 60 = .ok (.iload 4, 2) := by decide +kernel
theorem dX2_shiftInto_62 : decode cX2_shiftInto 62 = .ok (.isub, 1) := by decide +kernel
theorem dX2_shiftInto_63 : decode cX2_shiftInto 63 = .ok (.invokestatic 85, 3) := by decide +kernel
theorem dX2_shiftInto_66 : decode cX2_shiftInto 66 = .ok (.istore 7, 2) := by decide +kernel
theorem dX2_shiftInto_68 : decode cX2_shiftInto 68 = .ok (.iload 6, 2) := by decide +kernel
theorem dX2_shiftInto_70 : decode cX2_shiftInto 70 = .ok (.iload 7, 2) := by decide +kernel
theorem dX2_shiftInto_72 : decode cX2_shiftInto 72 = .ok (.isub, 1) := by decide +kernel
theorem dX2_shiftInto_73 : decode cX2_shiftInto 73 = .ok (.ireturn, 1) := by decide +kernel
theorem dX2_isGood_0 : decode cX2_isGood 0 = .ok (.iload_n 0, 1) := by decide +kernel
theorem dX2_isGood_1 : decode cX2_isGood 1 = .ok (.iload_n 2, 1) := by decide +kernel
theorem dX2_isGood_2 : decode cX2_isGood 2 = .ok (.if_icmp .lt 16, 3) := by decide +kernel
theorem dX2_isGood_5 : decode cX2_isGood 5 = .ok (.iload_n 0, 1) := by decide +kernel
theorem dX2_isGood_6 : decode cX2_isGood 6 = .ok (.iload_n 1, 1) := by decide +kernel
theorem dX2_isGood_7 : decode cX2_isGood 7 = .ok (.iconst 1, 1) := by decide +kernel
theorem dX2_isGood_8 : decode cX2_isGood 8 = .ok (.isub, 1) := by decide +kernel
theorem dX2_isGood_9 : decode cX2_isGood 9 = .ok (.iload_n 2, 1) := by decide +kernel
theorem dX2_isGood_10 : decode cX2_isGood 10 = .ok (.isub, 1) := by decide +kernel
theorem dX2_isGood_11 : decode cX2_isGood 11 = .ok (.if_icmp .gt 7, 3) := by decide +kernel
theorem dX2_isGood_14 : decode cX2_isGood 14 = .ok (.iconst 1, 1) := by decide +kernel
theorem dX2_isGood_15 : decode cX2_isGood 15 = .ok (.goto 4, 3) := by decide +kernel
theorem dX2_isGood_18 : decode cX2_isGood 18 = .ok (.iconst 0, 1) := by decide +kernel
theorem dX2_isGood_19 : decode cX2_isGood 19 = .ok (.ireturn, 1) := by decide +kernel
theorem dX3_init_0 : decode cX3_init 0 = .ok (.aload_n 0, 1) := by decide +kernel
theorem dX3_init_1 : decode cX3_init 1 = .ok (.invokespecial 1, 3) := by decide +kernel
theorem dX3_init_4 : decode cX3_init 4 = .ok (.aload_n 0, 1) := by decide +kernel
theorem dX3_init_5 : decode cX3_init 5 = .ok (.iconst 0, 1) := by decide +kernel
theorem dX3_init_6 : decode cX3_init 6 = .ok (.iload_n 1, 1) := by decide +kernel
theorem dX3_init_7 : decode cX3_init 7 = .ok (.invokestatic 7, 3) := by decide +kernel
theorem dX3_init_10 : decode cX3_init 10 = .ok (.newarray .int, 2) := by decide +kernel
theorem dX3_init_12 : decode cX3_init 12 = .ok (.putfield 13, 3) := by decide +kernel
theorem dX3_init_15 : decode cX3_init 15 = .ok (.return_, 1) := by decide +kernel
theorem dX3_get_0 : decode cX3_get 0 = .ok (.iload_n 1, 1) := by decide +kernel
theorem dX3_get_1 : decode cX3_get 1 = .ok (.ifCond .lt 21, 3) := by decide +kernel
theorem dX3_get_4 : decode cX3_get 4 = .ok (.iload_n 1, 1) := by decide +kernel
theorem dX3_get_5 : decode cX3_get 5 = .ok (.aload_n 0, 1) := by decide +kernel
theorem dX3_get_6 : decode cX3_get 6 = .ok (.getfield 13, 3) := by decide +kernel
theorem dX3_get_9 : decode cX3_get 9 = .ok (.arraylength, 1) := by decide +kernel
theorem dX3_get_10 : decode cX3_get 10 = .ok (.if_icmp .ge 12, 3) := by decide +kernel
theorem dX3_get_13 : decode cX3_get 13 = .ok (.aload_n 0, 1) := by decide +kernel
theorem dX3_get_14 : decode cX3_get 14 = .ok (.getfield 13, 3) := by decide +kernel
theorem dX3_get_17 : decode cX3_get 17 = .ok (.iload_n 1, 1) := by decide +kernel
theorem dX3_get_18 : decode cX3_get 18 = .ok (.iaload, 1) := by decide +kernel
theorem dX3_get_19 : decode cX3_get 19 = .ok (.goto 4, 3) := by decide +kernel
theorem dX3_get_22 : decode cX3_get 22 = .ok (.iconst 0, 1) := by decide +kernel
theorem dX3_get_23 : decode cX3_get 23 = .ok (.ireturn, 1) := by decide +kernel
theorem dX3_put_0 : decode cX3_put 0 = .ok (.iload_n 1, 1) := by decide +kernel
theorem dX3_put_1 : decode cX3_put 1 = .ok (.ifCond .lt 19, 3) := by decide +kernel
theorem dX3_put_4 : decode cX3_put 4 = .ok (.iload_n 1, 1) := by decide +kernel
theorem dX3_put_5 : decode cX3_put 5 = .ok (.aload_n 0, 1) := by decide +kernel
theorem dX3_put_6 : decode cX3_put 6 = .ok (.getfield 13, 3) := by decide +kernel
theorem dX3_put_9 : decode cX3_put 9 = .ok (.arraylength, 1) := by decide +kernel
theorem dX3_put_10 : decode cX3_put 10 = .ok (.if_icmp .ge 10, 3) := by decide +kernel
theorem dX3_put_13 : decode cX3_put 13 = .ok (.aload_n 0, 1) := by decide +kernel
theorem dX3_put_14 : decode cX3_put 14 = .ok (.getfield 13, 3) := by decide +kernel
theorem dX3_put_17 : decode cX3_put 17 = .ok (.iload_n 1, 1) := by decide +kernel
theorem dX3_put_18 : decode cX3_put 18 = .ok (.iload_n 2, 1) := by decide +kernel
theorem dX3_put_19 : decode cX3_put 19 = .ok (.iastore, 1) := by decide +kernel
theorem dX3_put_20 : decode cX3_put 20 = .ok (.return_, 1) := by decide +kernel
theorem dX4_init_0 : decode cX4_init 0 = .ok (.aload_n 0, 1) := by decide +kernel
theorem dX4_init_1 : decode cX4_init 1 = .ok (.invokespecial 3, 3) := by decide +kernel
theorem dX4_init_4 : decode cX4_init 4 = .ok (.aload_n 0, 1) := by decide +kernel
theorem dX4_init_5 : decode cX4_init 5 = .ok (.new 9, 3) := by decide +kernel
theorem dX4_init_8 : decode cX4_init 8 = .ok (.dup, 1) := by decide +kernel
theorem dX4_init_9 : decode cX4_init 9 = .ok (.bipush 12, 2) := by decide +kernel
theorem dX4_init_11 : decode cX4_init 11 = .ok (.invokespecial 11, 3) := by decide +kernel
theorem dX4_init_14 : decode cX4_init 14 = .ok (.putfield 14, 3) := by decide +kernel
theorem dX4_init_17 : decode cX4_init 17 = .ok (.aload_n 0, 1) := by decide +kernel
theorem dX4_init_18 : decode cX4_init 18 = .ok (.new 9, 3) := by decide +kernel
theorem dX4_init_21 : decode cX4_init 21 = .ok (.dup, 1) := by decide +kernel
theorem dX4_init_22 : decode cX4_init 22 = .ok (.bipush 12, 2) := by decide +kernel
theorem dX4_init_24 : decode cX4_init 24 = .ok (.invokespecial 11, 3) := by decide +kernel
theorem dX4_init_27 : decode cX4_init 27 = .ok (.putfield 20, 3) := by decide +kernel
theorem dX4_init_30 : decode cX4_init 30 = .ok (.aload_n 0, 1) := by decide +kernel
theorem dX4_init_31 : decode cX4_init 31 = .ok (.new 9, 3) := by decide +kernel
theorem dX4_init_34 : decode cX4_init 34 = .ok (.dup, 1) := by decide +kernel
theorem dX4_init_35 : decode cX4_init 35 = .ok (.bipush 12, 2) := by decide +kernel
theorem dX4_init_37 : decode cX4_init 37 = .ok (.invokespecial 11, 3) := by decide +kernel
theorem dX4_init_40 : decode cX4_init 40 = .ok (.putfield 23, 3) := by decide +kernel
theorem dX4_init_43 : decode cX4_init 43 = .ok (.aload_n 0, 1) := by decide +kernel
theorem dX4_init_44 : decode cX4_init 44 = .ok (.new 9, 3) := by decide +kernel
theorem dX4_init_47 : decode cX4_init 47 = .ok (.dup, 1) := by decide +kernel
theorem dX4_init_48 : decode cX4_init 48 = .ok (.bipush 12, 2) := by decide +kernel
theorem dX4_init_50 : decode cX4_init 50 = .ok (.invokespecial 11, 3) := by decide +kernel
theorem dX4_init_53 : decode cX4_init 53 = .ok (.putfield 26, 3) := by decide +kernel
theorem dX4_init_56 : decode cX4_init 56 = .ok (.aload_n 0, 1) := by decide +kernel
theorem dX4_init_57 : decode cX4_init 57 = .ok (.new 9, 3) := by decide +kernel
theorem dX4_init_60 : decode cX4_init 60 = .ok (.dup, 1) := by decide +kernel
theorem dX4_init_61 : decode cX4_init 61 = .ok (.bipush 12, 2) := by decide +kernel
theorem dX4_init_63 : decode cX4_init 63 = .ok (.invokespecial 11, 3) := by decide +kernel
theorem dX4_init_66 : decode cX4_init 66 = .ok (.putfield 29, 3) := by decide +kernel
theorem dX4_init_69 : decode cX4_init 69 = .ok (.aload_n 0, 1) := by decide +kernel
theorem dX4_init_70 : decode cX4_init 70 = .ok (.new 32, 3) := by decide +kernel
theorem dX4_init_73 : decode cX4_init 73 = .ok (.dup, 1) := by decide +kernel
theorem dX4_init_74 : decode cX4_init 74 = .ok (.invokespecial 34, 3) := by decide +kernel
theorem dX4_init_77 : decode cX4_init 77 = .ok (.putfield 35, 3) := by decide +kernel
theorem dX4_init_80 : decode cX4_init 80 = .ok (.aload_n 0, 1) := by decide +kernel
theorem dX4_init_81 : decode cX4_init 81 = .ok (.new 39, 3) := by decide +kernel
theorem dX4_init_84 : decode cX4_init 84 = .ok (.dup, 1) := by decide +kernel
theorem dX4_init_85 : decode cX4_init 85 = .ok (.invokespecial 41, 3) := by decide +kernel
theorem dX4_init_88 : decode cX4_init 88 = .ok (.putfield 42, 3) := by decide +kernel
theorem dX4_init_91 : decode cX4_init 91 = .ok (.return_, 1) := by decide +kernel
theorem dX4_arrange_0 : decode cX4_arrange 0 = .ok (.aload_n 0, 1) := by decide +kernel
theorem dX4_arrange_1 : decode cX4_arrange 1 = .ok (.iconst 0, 1) := by decide +kernel
theorem dX4_arrange_2 : decode cX4_arrange 2 = .ok (.putfield 46, 3) := by decide +kernel
theorem dX4_arrange_5 : decode cX4_arrange 5 = .ok (.aload_n 0, 1) := by decide +kernel
theorem dX4_arrange_6 : decode cX4_arrange 6 = .ok (.aload_n 1, 1) := by decide +kernel
theorem dX4_arrange_7 : decode cX4_arrange 7 = .ok (.invokevirtual 50, 3) := by decide +kernel
theorem dX4_arrange_10 : decode cX4_arrange 10 = .ok (.istore_n 2, 1) := by decide +kernel
theorem dX4_arrange_11 : decode cX4_arrange 11 = .ok (.iconst 0, 1) := by decide +kernel
theorem dX4_arrange_12 : decode cX4_arrange 12 = .ok (.istore_n 3, 1) := by decide +kernel
theorem dX4_arrange_13 : decode cX4_arrange 13 = .ok (.iload_n 3, 1) := by decide +kernel
theorem dX4_arrange_14 : decode cX4_arrange 14 = .ok (.iload_n 2, 1) := by decide +kernel
theorem dX4_arrange_15 : decode cX4_arrange 15 = .ok (.if_icmp .ge 54, 3) := by decide +kernel
theorem dX4_arrange_18 : decode cX4_arrange 18 = .ok (.aload_n 0, 1) := by decide +kernel
theorem dX4_arrange_19 : decode cX4_arrange 19 = .ok (.getfield 29, 3) := by decide +kernel
theorem dX4_arrange_22 : decode cX4_arrange 22 = .ok (.iload_n 3, 1) := by decide +kernel
theorem dX4_arrange_23 : decode cX4_arrange 23 = .ok (.invokevirtual 54, 3) := by decide +kernel
theorem dX4_arrange_26 : decode cX4_arrange 26 = .ok (.istore 4, 2) := by decide +kernel
theorem dX4_arrange_28 : decode cX4_arrange 28 = .ok (.aload_n 0, 1) := by decide +kernel
theorem dX4_arrange_29 : decode cX4_arrange 29 = .ok (.aload_n 1, 1) := by decide +kernel
theorem dX4_arrange_30 : decode cX4_arrange 30 = .ok (.iload 4, 2) := by decide +kernel
theorem dX4_arrange_32 : decode cX4_arrange 32 = .ok (.invokevirtual 58, 3) := by decide +kernel
theorem dX4_arrange_35 : decode cX4_arrange 35 = .ok (.istore 5, 2) := by decide +kernel
theorem dX4_arrange_37 : decode cX4_arrange 37 = .ok (.aload_n 0, 1) := by decide +kernel
theorem dX4_arrange_38 : decode cX4_arrange 38 = .ok (.getfield 14, 3) := by decide +kernel
theorem dX4_arrange_41 : decode cX4_arrange 41 = .ok (.iload 4, 2) := by decide +kernel
theorem dX4_arrange_43 : decode cX4_arrange 43 = .ok (.iload 5, 2) := by decide +kernel
theorem dX4_arrange_45 : decode cX4_arrange 45 = .ok (.invokevirtual 62, 3) := by decide +kernel
theorem dX4_arrange_48 : decode cX4_arrange 48 = .ok (.iload 5, 2) := by decide +kernel
theorem dX4_arrange_50 : decode cX4_arrange 50 = .ok (.ifCond .ne 13, 3) := by decide +kernel
theorem dX4_arrange_53 : decode cX4_arrange 53 = .ok (.aload_n 0, 1) := by decide +kernel
theorem dX4_arrange_54 : decode cX4_arrange 54 = .ok (.dup, 1) := by decide +kernel
theorem dX4_arrange_55 : decode cX4_arrange 55 = .ok (.getfield 46, 3) := by decide +kernel
theorem dX4_arrange_58 : decode cX4_arrange 58 = .ok (.iconst 1, 1) := by decide +kernel
theorem dX4_arrange_59 : decode cX4_arrange 59 = .ok (.iadd, 1) := by decide +kernel
theorem dX4_arrange_60 : decode cX4_arrange 60 = .ok (.putfield 46, 3) := by decide +kernel
theorem dX4_arrange_63 : decode cX4_arrange 63 = .ok (.iinc 3 1, 3) := by decide +kernel
theorem dX4_arrange_66 : decode cX4_arrange 66 = .ok (.goto (-53), 3) := by decide +kernel
theorem dX4_arrange_69 : decode cX4_arrange 69 = .ok (.aload_n 0, 1) := by decide +kernel
theorem dX4_arrange_70 : decode cX4_arrange 70 = .ok (.getfield 46, 3) := by decide +kernel
theorem dX4_arrange_73 : decode cX4_arrange 73 = .ok (.ireturn, 1) := by decide +kernel
theorem dX4_orderOpenHints_0 : decode cX4_orderOpenHints 0 = .ok (.iconst 0, 1) := by decide +kernel
theorem dX4_orderOpenHints_1 : decode cX4_orderOpenHints 1 = .ok (.istore_n 2, 1) := by decide +kernel
theorem dX4_orderOpenHints_2 : decode cX4_orderOpenHints 2 = .ok (.iconst 0, 1) := by decide +kernel
theorem dX4_orderOpenHints_3 : decode cX4_orderOpenHints 3 = .ok (.istore_n 3, 1) := by decide +kernel
theorem dX4_orderOpenHints_4 : decode cX4_orderOpenHints 4 = .ok (.iload_n 3, 1) := by decide +kernel
theorem dX4_orderOpenHints_5 : decode cX4_orderOpenHints 5 = .ok (.aload_n 1, 1) := by decide +kernel
theorem dX4_orderOpenHints_6 : decode cX4_orderOpenHints 6 = .ok (.iconst 5, 1) := by decide +kernel
theorem dX4_orderOpenHints_7 : decode cX4_orderOpenHints 7 = .ok (.invokevirtual 66, 3) := by decide +kernel
theorem dX4_orderOpenHints_10 : decode cX4_orderOpenHints 10 = .ok (.if_icmp .ge 42, 3) := by decide +kernel
theorem dX4_orderOpenHints_13 : decode cX4_orderOpenHints 13 = .ok (.aload_n 0, 1) := by decide +kernel
theorem dX4_orderOpenHints_14 : decode cX4_orderOpenHints 14 = .ok (.getfield 14, 3) := by decide +kernel
theorem dX4_orderOpenHints_17 : decode cX4_orderOpenHints 17 = .ok (.iload_n 3, 1) := by decide +kernel
theorem dX4_orderOpenHints_18 : decode cX4_orderOpenHints 18 = .ok (.iconst 1, 1) := by decide +kernel
theorem dX4_orderOpenHints_19 : decode cX4_orderOpenHints 19 = .ok (.invokevirtual 62, 3) := by decide +kernel
theorem dX4_orderOpenHints_22 : decode cX4_orderOpenHints 22 = .ok (.aload_n 1, 1) := by decide +kernel
theorem dX4_orderOpenHints_23 : decode cX4_orderOpenHints 23 = .ok (.iload_n 3, 1) := by decide +kernel
theorem dX4_orderOpenHints_24 : decode cX4_orderOpenHints 24 = .ok (.invokevirtual 69, 3) := by decide +kernel
theorem dX4_orderOpenHints_27 : decode cX4_orderOpenHints 27 = .ok (.ifCond .eq 19, 3) := by decide +kernel
theorem dX4_orderOpenHints_30 : decode cX4_orderOpenHints 30 = .ok (.aload_n 0, 1) := by decide +kernel
theorem dX4_orderOpenHints_31 : decode cX4_orderOpenHints 31 = .ok (.getfield 29, 3) := by decide +kernel
theorem dX4_orderOpenHints_34 : decode cX4_orderOpenHints 34 = .ok (.aload_n 1, 1) := by decide +kernel
theorem dX4_orderOpenHints_35 : decode cX4_orderOpenHints 35 = .ok (.iload_n 3, 1) := by decide +kernel
theorem dX4_orderOpenHints_36 : decode cX4_orderOpenHints 36 = .ok (.invokevirtual 73, 3) := by decide +kernel
theorem dX4_orderOpenHints_39 : decode cX4_orderOpenHints 39 = .ok (.iload_n 3, 1) := by decide +kernel
theorem dX4_orderOpenHints_40 : decode cX4_orderOpenHints 40 = .ok (.invokevirtual 62, 3) := by decide +kernel
theorem dX4_orderOpenHints_43 : decode cX4_orderOpenHints 43 = .ok (.iinc 2 1, 3) := by decide +kernel
theorem dX4_orderOpenHints_46 : decode cX4_orderOpenHints 46 = .ok (.iinc 3 1, 3) := by decide +kernel
theorem dX4_orderOpenHints_49 : decode cX4_orderOpenHints 49 = .ok (.goto (-45), 3) := by decide +kernel
theorem dX4_orderOpenHints_52 : decode cX4_orderOpenHints 52 = .ok (.iload_n 2, 1) := by decide +kernel
theorem dX4_orderOpenHints_53 : decode cX4_orderOpenHints 53 = .ok (.ireturn, 1) := by decide +kernel
theorem dX4_tryToShow_0 : decode cX4_tryToShow 0 = .ok (.aload_n 1, 1) := by decide +kernel
theorem dX4_tryToShow_1 : decode cX4_tryToShow 1 = .ok (.aload_n 1, 1) := by decide +kernel
theorem dX4_tryToShow_2 : decode cX4_tryToShow 2 = .ok (.iload_n 2, 1) := by decide +kernel
theorem dX4_tryToShow_3 : decode cX4_tryToShow 3 = .ok (.iconst 0, 1) := by decide +kernel
theorem dX4_tryToShow_4 : decode cX4_tryToShow 4 = .ok (.invokevirtual 76, 3) := by decide +kernel
theorem dX4_tryToShow_7 : decode cX4_tryToShow 7 = .ok (.invokevirtual 80, 3) := by decide +kernel
theorem dX4_tryToShow_10 : decode cX4_tryToShow 10 = .ok (.ifCond .ne 5, 3) := by decide +kernel
theorem dX4_tryToShow_13 : decode cX4_tryToShow 13 = .ok (.iconst 2, 1) := by decide +kernel
theorem dX4_tryToShow_14 : decode cX4_tryToShow 14 = .ok (.ireturn, 1) := by decide +kernel
theorem dX4_tryToShow_15 : decode cX4_tryToShow 15 = .ok (.aload_n 0, 1) := by decide +kernel
theorem dX4_tryToShow_16 : decode cX4_tryToShow 16 = .ok (.getfield 46, 3) := by decide +kernel
theorem dX4_tryToShow_19 : decode cX4_tryToShow 19 = .ok (.aload_n 1, 1) := by decide +kernel
theorem dX4_tryToShow_20 : decode cX4_tryToShow 20 = .ok (.iconst 2, 1) := by decide +kernel
theorem dX4_tryToShow_21 : decode cX4_tryToShow 21 = .ok (.invokevirtual 83, 3) := by decide +kernel
theorem dX4_tryToShow_24 : decode cX4_tryToShow 24 = .ok (.if_icmp .lt 5, 3) := by decide +kernel
theorem dX4_tryToShow_27 : decode cX4_tryToShow 27 = .ok (.iconst 5, 1) := by decide +kernel
theorem dX4_tryToShow_28 : decode cX4_tryToShow 28 = .ok (.ireturn, 1) := by decide +kernel
theorem dX4_tryToShow_29 : decode cX4_tryToShow 29 = .ok (.iconst 3, 1) := by decide +kernel
theorem dX4_tryToShow_30 : decode cX4_tryToShow 30 = .ok (.istore_n 3, 1) := by decide +kernel
theorem dX4_tryToShow_31 : decode cX4_tryToShow 31 = .ok (.aload_n 0, 1) := by decide +kernel
theorem dX4_tryToShow_32 : decode cX4_tryToShow 32 = .ok (.getfield 35, 3) := by decide +kernel
theorem dX4_tryToShow_35 : decode cX4_tryToShow 35 = .ok (.aload_n 1, 1) := by decide +kernel
theorem dX4_tryToShow_36 : decode cX4_tryToShow 36 = .ok (.iload_n 2, 1) := by decide +kernel
theorem dX4_tryToShow_37 : decode cX4_tryToShow 37 = .ok (.invokevirtual 86, 3) := by decide +kernel
theorem dX4_tryToShow_40 : decode cX4_tryToShow 40 = .ok (.iconst 0, 1) := by decide +kernel
theorem dX4_tryToShow_41 : decode cX4_tryToShow 41 = .ok (.istore 4, 2) := by decide +kernel
theorem dX4_tryToShow_43 : decode cX4_tryToShow 43 = .ok (.iload 4, 2) := by decide +kernel
theorem dX4_tryToShow_45 : decode cX4_tryToShow 45 = .ok (.aload_n 0, 1) := by decide +kernel
theorem dX4_tryToShow_46 : decode cX4_tryToShow 46 = .ok (.getfield 35, 3) := by decide +kernel
theorem dX4_tryToShow_49 : decode cX4_tryToShow 49 = .ok (.getfield 90, 3) := by decide +kernel
theorem dX4_tryToShow_52 : decode cX4_tryToShow 52 = .ok (.if_icmp .ge 113, 3) := by decide +kernel
theorem dX4_tryToShow_55 : decode cX4_tryToShow 55 = .ok (.aload_n 0, 1) := by decide +kernel
theorem dX4_tryToShow_56 : decode cX4_tryToShow 56 = .ok (.getfield 42, 3) := by decide +kernel
theorem dX4_tryToShow_59 : decode cX4_tryToShow 59 = .ok (.aload_n 1, 1) := by decide +kernel
theorem dX4_tryToShow_60 : decode cX4_tryToShow 60 = .ok (.iload_n 2, 1) := by decide +kernel
theorem dX4_tryToShow_61 : decode cX4_tryToShow 61 = .ok (.aload_n 0, 1) := by decide +kernel
theorem dX4_tryToShow_62 : decode cX4_tryToShow 62 = .ok (.getfield 35, 3) := by decide +kernel
theorem dX4_tryToShow_65 : decode cX4_tryToShow 65 = .ok (.getfield 93, 3) := by decide +kernel
theorem dX4_tryToShow_68 : decode cX4_tryToShow 68 = .ok (.iload 4, 2) := by decide +kernel
theorem dX4_tryToShow_70 : decode cX4_tryToShow 70 = .ok (.invokevirtual 54, 3) := by decide +kernel
theorem dX4_tryToShow_73 : decode cX4_tryToShow 73 = .ok (.aload_n 1, 1) := by decide +kernel
theorem dX4_tryToShow_74 : decode cX4_tryToShow 74 = .ok (.iconst 2, 1) := by decide +kernel
theorem dX4_tryToShow_75 : decode cX4_tryToShow 75 = .ok (.invokevirtual 66, 3) := by decide +kernel
theorem dX4_tryToShow_78 : decode cX4_tryToShow 78 = .ok (.aload_n 1, 1) := by decide +kernel
theorem dX4_tryToShow_79 : decode cX4_tryToShow 79 = .ok (.iconst 3, 1) := by decide +kernel
theorem dX4_tryToShow_80 : decode cX4_tryToShow 80 = .ok (.invokevirtual 66, 3) := by decide +kernel
theorem dX4_tryToShow_83 : decode cX4_tryToShow 83 = .ok (.invokevirtual 94, 3) := by decide +kernel
theorem dX4_tryToShow_86 : decode cX4_tryToShow 86 = .ok (.aload_n 0, 1) := by decide +kernel
theorem dX4_tryToShow_87 : decode cX4_tryToShow 87 = .ok (.getfield 42, 3) := by decide +kernel
theorem dX4_tryToShow_90 : decode cX4_tryToShow 90 = .ok (.getfield 98, 3) := by decide +kernel
theorem dX4_tryToShow_93 : decode cX4_tryToShow 93 = .ok (.ifCond .eq 66, 3) := by decide +kernel
theorem dX4_tryToShow_96 : decode cX4_tryToShow 96 = .ok (.aload_n 0, 1) := by decide +kernel
theorem dX4_tryToShow_97 : decode cX4_tryToShow 97 = .ok (.aload_n 1, 1) := by decide +kernel
theorem dX4_tryToShow_98 : decode cX4_tryToShow 98 = .ok (.iload_n 2, 1) := by decide +kernel
theorem dX4_tryToShow_99 : decode cX4_tryToShow 99 = .ok (.invokevirtual 102, 3) := by decide +kernel
theorem dX4_tryToShow_102 : decode cX4_tryToShow 102 = .ok (.ifCond .eq 55, 3) := by decide +kernel
theorem dX4_tryToShow_105 : decode cX4_tryToShow 105 = .ok (.aload_n 0, 1) := by decide +kernel
theorem dX4_tryToShow_106 : decode cX4_tryToShow 106 = .ok (.getfield 20, 3) := by decide +kernel
theorem dX4_tryToShow_109 : decode cX4_tryToShow 109 = .ok (.iload_n 2, 1) := by decide +kernel
theorem dX4_tryToShow_110 : decode cX4_tryToShow 110 = .ok (.aload_n 0, 1) := by decide +kernel
theorem dX4_tryToShow_111 : decode cX4_tryToShow 111 = .ok (.getfield 35, 3) := by decide +kernel
theorem dX4_tryToShow_114 : decode cX4_tryToShow 114 = .ok (.getfield 93, 3) := by decide +kernel
theorem dX4_tryToShow_117 : decode cX4_tryToShow 117 = .ok (.iload 4, 2) := by decide +kernel
theorem dX4_tryToShow_119 : decode cX4_tryToShow 119 = .ok (.invokevirtual 54, 3) := by decide +kernel
theorem dX4_tryToShow_122 : decode cX4_tryToShow 122 = .ok (.invokevirtual 62, 3) := by decide +kernel
theorem dX4_tryToShow_125 : decode cX4_tryToShow 125 = .ok (.aload_n 0, 1) := by decide +kernel
theorem dX4_tryToShow_126 : decode cX4_tryToShow 126 = .ok (.getfield 23, 3) := by decide +kernel
theorem dX4_tryToShow_129 : decode cX4_tryToShow 129 = .ok (.iload_n 2, 1) := by decide +kernel
theorem dX4_tryToShow_130 : decode cX4_tryToShow 130 = .ok (.aload_n 0, 1) := by decide +kernel
theorem dX4_tryToShow_131 : decode cX4_tryToShow 131 = .ok (.getfield 42, 3) := by decide +kernel
theorem dX4_tryToShow_134 : decode cX4_tryToShow 134 = .ok (.getfield 106, 3) := by decide +kernel
theorem dX4_tryToShow_137 : decode cX4_tryToShow 137 = .ok (.invokevirtual 62, 3) := by decide +kernel
theorem dX4_tryToShow_140 : decode cX4_tryToShow 140 = .ok (.aload_n 0, 1) := by decide +kernel
theorem dX4_tryToShow_141 : decode cX4_tryToShow 141 = .ok (.getfield 26, 3) := by decide +kernel
theorem dX4_tryToShow_144 : decode cX4_tryToShow 144 = .ok (.iload_n 2, 1) := by decide +kernel
theorem dX4_tryToShow_145 : decode cX4_tryToShow 145 = .ok (.aload_n 0, 1) := by decide +kernel
theorem dX4_tryToShow_146 : decode cX4_tryToShow 146 = .ok (.getfield 42, 3) := by decide +kernel
theorem dX4_tryToShow_149 : decode cX4_tryToShow 149 = .ok (.getfield 109, 3) := by decide +kernel
theorem dX4_tryToShow_152 : decode cX4_tryToShow 152 = .ok (.invokevirtual 62, 3) := by decide +kernel
theorem dX4_tryToShow_155 : decode cX4_tryToShow 155 = .ok (.iconst 0, 1) := by decide +kernel
theorem dX4_tryToShow_156 : decode cX4_tryToShow 156 = .ok (.ireturn, 1) := by decide +kernel
theorem dX4_tryToShow_157 : decode cX4_tryToShow 157 = .ok (.iconst 4, 1) := by decide +kernel
theorem dX4_tryToShow_158 : decode cX4_tryToShow 158 = .ok (.istore_n 3, 1) := by decide +kernel
theorem dX4_tryToShow_159 : decode cX4_tryToShow 159 = .ok (.iinc 4 1, 3) := by decide +kernel
theorem dX4_tryToShow_162 : decode cX4_tryToShow 162 = .ok (.goto (-119), 3) := by decide +kernel
theorem dX4_tryToShow_165 : decode cX4_tryToShow 165 = .ok (.iload_n 3, 1) := by decide +kernel
theorem dX4_tryToShow_166 : decode cX4_tryToShow 166 = .ok (.ireturn, 1) := by decide +kernel
theorem dX4_isFree_0 : decode cX4_isFree 0 = .ok (.aload_n 1, 1) := by decide +kernel
theorem dX4_isFree_1 : decode cX4_isFree 1 = .ok (.iload_n 2, 1) := by decide +kernel
theorem dX4_isFree_2 : decode cX4_isFree 2 = .ok (.iconst 1, 1) := by decide +kernel
theorem dX4_isFree_3 : decode cX4_isFree 3 = .ok (.invokevirtual 76, 3) := by decide +kernel
theorem dX4_isFree_6 : decode cX4_isFree 6 = .ok (.istore_n 3, 1) := by decide +kernel
theorem dX4_isFree_7 : decode cX4_isFree 7 = .ok (.aload_n 1, 1) := by decide +kernel
theorem dX4_isFree_8 : decode cX4_isFree 8 = .ok (.iload_n 2, 1) := by decide +kernel
theorem dX4_isFree_9 : decode cX4_isFree 9 = .ok (.iconst 2, 1) := by decide +kernel
theorem dX4_isFree_10 : decode cX4_isFree 10 = .ok (.invokevirtual 76, 3) := by decide +kernel
theorem dX4_isFree_13 : decode cX4_isFree 13 = .ok (.istore 4, 2) := by decide +kernel
theorem dX4_isFree_15 : decode cX4_isFree 15 = .ok (.aload_n 0, 1) := by decide +kernel
theorem dX4_isFree_16 : decode cX4_isFree 16 = .ok (.aload_n 1, 1) := by decide +kernel
theorem dX4_isFree_17 : decode cX4_isFree 17 = .ok (.aload_n 0, 1) := by decide +kernel
theorem dX4_isFree_18 : decode cX4_isFree 18 = .ok (.getfield 42, 3) := by decide +kernel
theorem dX4_isFree_21 : decode cX4_isFree 21 = .ok (.getfield 106, 3) := by decide +kernel
theorem dX4_isFree_24 : decode cX4_isFree 24 = .ok (.aload_n 0, 1) := by decide +kernel
theorem dX4_isFree_25 : decode cX4_isFree 25 = .ok (.getfield 42, 3) := by decide +kernel
theorem dX4_isFree_28 : decode cX4_isFree 28 = .ok (.getfield 109, 3) := by decide +kernel
theorem dX4_isFree_31 : decode cX4_isFree 31 = .ok (.iload_n 3, 1) := by decide +kernel
theorem dX4_isFree_32 : decode cX4_isFree 32 = .ok (.iload 4, 2) := by decide +kernel
theorem dX4_isFree_34 : decode cX4_isFree 34 = .ok (.invokevirtual 112, 3) := by decide +kernel
theorem dX4_isFree_37 : decode cX4_isFree 37 = .ok (.ifCond .lt 5, 3) := by decide +kernel
theorem dX4_isFree_40 : decode cX4_isFree 40 = .ok (.iconst 0, 1) := by decide +kernel
theorem dX4_isFree_41 : decode cX4_isFree 41 = .ok (.ireturn, 1) := by decide +kernel
theorem dX4_isFree_42 : decode cX4_isFree 42 = .ok (.aload_n 1, 1) := by decide +kernel
theorem dX4_isFree_43 : decode cX4_isFree 43 = .ok (.iconst 4, 1) := by decide +kernel
theorem dX4_isFree_44 : decode cX4_isFree 44 = .ok (.invokevirtual 83, 3) := by decide +kernel
theorem dX4_isFree_47 : decode cX4_isFree 47 = .ok (.ifCond .ne 5, 3) := by decide +kernel
theorem dX4_isFree_50 : decode cX4_isFree 50 = .ok (.iconst 1, 1) := by decide +kernel
theorem dX4_isFree_51 : decode cX4_isFree 51 = .ok (.ireturn, 1) := by decide +kernel
theorem dX4_isFree_52 : decode cX4_isFree 52 = .ok (.iconst 0, 1) := by decide +kernel
theorem dX4_isFree_53 : decode cX4_isFree 53 = .ok (.istore 5, 2) := by decide +kernel
theorem dX4_isFree_55 : decode cX4_isFree 55 = .ok (.iload 5, 2) := by decide +kernel
theorem dX4_isFree_57 : decode cX4_isFree 57 = .ok (.aload_n 1, 1) := by decide +kernel
theorem dX4_isFree_58 : decode cX4_isFree 58 = .ok (.iconst 4, 1) := by decide +kernel
theorem dX4_isFree_59 : decode cX4_isFree 59 = .ok (.invokevirtual 66, 3) := by decide +kernel
theorem dX4_isFree_62 : decode cX4_isFree 62 = .ok (.if_icmp .ge 37, 3) := by decide +kernel
theorem dX4_isFree_65 : decode cX4_isFree 65 = .ok (.aload_n 1, 1) := by decide +kernel
theorem dX4_isFree_66 : decode cX4_isFree 66 = .ok (.iload 5, 2) := by decide +kernel
theorem dX4_isFree_68 : decode cX4_isFree 68 = .ok (.aload_n 0, 1) := by decide +kernel
theorem dX4_isFree_69 : decode cX4_isFree 69 = .ok (.getfield 42, 3) := by decide +kernel
theorem dX4_isFree_72 : decode cX4_isFree 72 = .ok (.getfield 106, 3) := by decide +kernel
theorem dX4_isFree_75 : decode cX4_isFree 75 = .ok (.aload_n 0, 1) := by decide +kernel
theorem dX4_isFree_76 : decode cX4_isFree 76 = .ok (.getfield 42, 3) := by decide +kernel
theorem dX4_isFree_79 : decode cX4_isFree 79 = .ok (.getfield 109, 3) := by decide +kernel
theorem dX4_isFree_82 : decode cX4_isFree 82 = .ok (.iload_n 3, 1) := by decide +kernel
theorem dX4_isFree_83 : decode cX4_isFree 83 = .ok (.iload 4, 2) := by decide +kernel
theorem dX4_isFree_85 : decode cX4_isFree 85 = .ok (.invokevirtual 116, 3) := by decide +kernel
theorem dX4_isFree_88 : decode cX4_isFree 88 = .ok (.ifCond .eq 5, 3) := by decide +kernel
theorem dX4_isFree_91 : decode cX4_isFree 91 = .ok (.iconst 0, 1) := by decide +kernel
theorem dX4_isFree_92 : decode cX4_isFree 92 = .ok (.ireturn, 1) := by decide +kernel
theorem dX4_isFree_93 : decode cX4_isFree 93 = .ok (.iinc 5 1, 3) := by decide +kernel
theorem dX4_isFree_96 : decode cX4_isFree 96 = .ok (.goto (-41), 3) := by decide +kernel
theorem dX4_isFree_99 : decode cX4_isFree 99 = .ok (.iconst 1, 1) := by decide +kernel
theorem dX4_isFree_100 : decode cX4_isFree 100 = .ok (.ireturn, 1) := by decide +kernel
theorem dX4_shownThatMeets_0 : decode cX4_shownThatMeets 0 = .ok (.iconst 0, 1) := by decide +kernel
theorem dX4_shownThatMeets_1 : decode cX4_shownThatMeets 1 = .ok (.istore 6, 2) := by decide +kernel
theorem dX4_shownThatMeets_3 : decode cX4_shownThatMeets 3 = .ok (.iload 6, 2) := by decide +kernel
theorem dX4_shownThatMeets_5 : decode cX4_shownThatMeets 5 = .ok (.aload_n 1, 1) := by decide +kernel
theorem dX4_shownThatMeets_6 : decode cX4_shownThatMeets 6 = .ok (.iconst 5, 1) := by decide +kernel
theorem dX4_shownThatMeets_7 : decode cX4_shownThatMeets 7 = .ok (.invokevirtual 66, 3) := by decide +kernel
theorem dX4_shownThatMeets_10 : decode cX4_shownThatMeets 10 = .ok (.if_icmp .ge 74, 3) := by decide +kernel
theorem dX4_shownThatMeets_13 : decode cX4_shownThatMeets 13 = .ok (.aload_n 0, 1) := by decide +kernel
theorem dX4_shownThatMeets_14 : decode cX4_shownThatMeets 14 = .ok (.getfield 14, 3) := by decide +kernel
theorem dX4_shownThatMeets_17 : decode cX4_shownThatMeets 17 = .ok (.iload 6, 2) := by decide +kernel
theorem dX4_shownThatMeets_19 : decode cX4_shownThatMeets 19 = .ok (.invokevirtual 54, 3) := by decide +kernel
theorem dX4_shownThatMeets_22 : decode cX4_shownThatMeets 22 = .ok (.ifCond .ne 56, 3) := by decide +kernel
theorem dX4_shownThatMeets_25 : decode cX4_shownThatMeets 25 = .ok (.aload_n 0, 1) := by decide +kernel
theorem dX4_shownThatMeets_26 : decode cX4_shownThatMeets 26 = .ok (.getfield 23, 3) := by decide +kernel
theorem dX4_shownThatMeets_29 : decode cX4_shownThatMeets 29 = .ok (.iload 6, 2) := by decide +kernel
theorem dX4_shownThatMeets_31 : decode cX4_shownThatMeets 31 = .ok (.invokevirtual 54, 3) := by decide +kernel
theorem dX4_shownThatMeets_34 : decode cX4_shownThatMeets 34 = .ok (.aload_n 1, 1) := by decide +kernel
theorem dX4_shownThatMeets_35 : decode cX4_shownThatMeets 35 = .ok (.iload 6, 2) := by decide +kernel
theorem dX4_shownThatMeets_37 : decode cX4_shownThatMeets 37 = .ok (.iconst 1, 1) := by decide +kernel
theorem dX4_shownThatMeets_38 : decode cX4_shownThatMeets 38 = .ok (.invokevirtual 76, 3) := by decide +kernel
theorem dX4_shownThatMeets_41 : decode cX4_shownThatMeets 41 = .ok (.iload_n 2, 1) := by decide +kernel
theorem dX4_shownThatMeets_42 : decode cX4_shownThatMeets 42 = .ok (.iload 4, 2) := by decide +kernel
theorem dX4_shownThatMeets_44 : decode cX4_shownThatMeets 44 = .ok (.invokestatic 120, 3) := by decide +kernel
theorem dX4_shownThatMeets_47 : decode cX4_shownThatMeets 47 = .ok (.ifCond .eq 31, 3) := by decide +kernel
theorem dX4_shownThatMeets_50 : decode cX4_shownThatMeets 50 = .ok (.aload_n 0, 1) := by decide +kernel
theorem dX4_shownThatMeets_51 : decode cX4_shownThatMeets 51 = .ok (.getfield 26, 3) := by decide +kernel
theorem dX4_shownThatMeets_54 : decode cX4_shownThatMeets 54 = .ok (.iload 6, 2) := by decide +kernel
theorem dX4_shownThatMeets_56 : decode cX4_shownThatMeets 56 = .ok (.invokevirtual 54, 3) := by decide +kernel
theorem dX4_shownThatMeets_59 : decode cX4_shownThatMeets 59 = .ok (.aload_n 1, 1) := by decide +kernel
theorem dX4_shownThatMeets_60 : decode cX4_shownThatMeets 60 = .ok (.iload 6, 2) := by decide +kernel
theorem dX4_shownThatMeets_62 : decode cX4_shownThatMeets 62 = .ok (.iconst 2, 1) := by decide +kernel
theorem dX4_shownThatMeets_63 : decode cX4_shownThatMeets 63 = .ok (.invokevirtual 76, 3) := by decide +kernel
theorem dX4_shownThatMeets_66 : decode cX4_shownThatMeets 66 = .ok (.iload_n 3, 1) := by decide +kernel
theorem dX4_shownThatMeets_67 : decode cX4_shownThatMeets 67 = .ok (.iload 5, 2) := by decide +kernel
theorem dX4_shownThatMeets_69 : decode cX4_shownThatMeets 69 = .ok (.invokestatic 120, 3) := by decide +kernel
theorem dX4_shownThatMeets_72 : decode cX4_shownThatMeets 72 = .ok (.ifCond .eq 6, 3) := by decide +kernel
theorem dX4_shownThatMeets_75 : decode cX4_shownThatMeets 75 = .ok (.iload 6, 2) := by decide +kernel
theorem dX4_shownThatMeets_77 : decode cX4_shownThatMeets 77 = .ok (.ireturn, 1) := by decide +kernel
theorem dX4_shownThatMeets_78 : decode cX4_shownThatMeets 78 = .ok (.iinc 6 1, 3) := by decide +kernel
theorem dX4_shownThatMeets_81 : decode cX4_shownThatMeets 81 = .ok (.goto (-78), 3) := by decide +kernel
theorem dX4_shownThatMeets_84 : decode cX4_shownThatMeets 84 = .ok (.iconst (-1), 1) := by decide +kernel
theorem dX4_shownThatMeets_85 : decode cX4_shownThatMeets 85 = .ok (.ireturn, 1) := by decide +kernel
theorem dX5_init_0 : decode cX5_init 0 = .ok (.aload_n 0, 1) := by decide +kernel
theorem dX5_init_1 : decode cX5_init 1 = .ok (.invokespecial 3, 3) := by decide +kernel
theorem dX5_init_4 : decode cX5_init 4 = .ok (.aload_n 0, 1) := by decide +kernel
theorem dX5_init_5 : decode cX5_init 5 = .ok (.new 9, 3) := by decide +kernel
theorem dX5_init_8 : decode cX5_init 8 = .ok (.dup, 1) := by decide +kernel
theorem dX5_init_9 : decode cX5_init 9 = .ok (.sipush 172, 3) := by decide +kernel
theorem dX5_init_12 : decode cX5_init 12 = .ok (.invokespecial 11, 3) := by decide +kernel
theorem dX5_init_15 : decode cX5_init 15 = .ok (.putfield 14, 3) := by decide +kernel
theorem dX5_init_18 : decode cX5_init 18 = .ok (.aload_n 0, 1) := by decide +kernel
theorem dX5_init_19 : decode cX5_init 19 = .ok (.getfield 14, 3) := by decide +kernel
theorem dX5_init_22 : decode cX5_init 22 = .ok (.iconst 2, 1) := by decide +kernel
theorem dX5_init_23 : decode cX5_init 23 = .ok (.sipush 200, 3) := by decide +kernel
theorem dX5_init_26 : decode cX5_init 26 = .ok (.invokevirtual 20, 3) := by decide +kernel
theorem dX5_init_29 : decode cX5_init 29 = .ok (.aload_n 0, 1) := by decide +kernel
theorem dX5_init_30 : decode cX5_init 30 = .ok (.getfield 14, 3) := by decide +kernel
theorem dX5_init_33 : decode cX5_init 33 = .ok (.iconst 3, 1) := by decide +kernel
theorem dX5_init_34 : decode cX5_init 34 = .ok (.bipush 120, 2) := by decide +kernel
theorem dX5_init_36 : decode cX5_init 36 = .ok (.invokevirtual 20, 3) := by decide +kernel
theorem dX5_init_39 : decode cX5_init 39 = .ok (.aload_n 0, 1) := by decide +kernel
theorem dX5_init_40 : decode cX5_init 40 = .ok (.getfield 14, 3) := by decide +kernel
theorem dX5_init_43 : decode cX5_init 43 = .ok (.bipush 7, 2) := by decide +kernel
theorem dX5_init_45 : decode cX5_init 45 = .ok (.iconst 4, 1) := by decide +kernel
theorem dX5_init_46 : decode cX5_init 46 = .ok (.invokevirtual 20, 3) := by decide +kernel
theorem dX5_init_49 : decode cX5_init 49 = .ok (.aload_n 0, 1) := by decide +kernel
theorem dX5_init_50 : decode cX5_init 50 = .ok (.getfield 14, 3) := by decide +kernel
theorem dX5_init_53 : decode cX5_init 53 = .ok (.bipush 8, 2) := by decide +kernel
theorem dX5_init_55 : decode cX5_init 55 = .ok (.bipush 6, 2) := by decide +kernel
theorem dX5_init_57 : decode cX5_init 57 = .ok (.invokevirtual 20, 3) := by decide +kernel
theorem dX5_init_60 : decode cX5_init 60 = .ok (.aload_n 0, 1) := by decide +kernel
theorem dX5_init_61 : decode cX5_init 61 = .ok (.getfield 14, 3) := by decide +kernel
theorem dX5_init_64 : decode cX5_init 64 = .ok (.bipush 9, 2) := by decide +kernel
theorem dX5_init_66 : decode cX5_init 66 = .ok (.iconst 3, 1) := by decide +kernel
theorem dX5_init_67 : decode cX5_init 67 = .ok (.invokevirtual 20, 3) := by decide +kernel
theorem dX5_init_70 : decode cX5_init 70 = .ok (.aload_n 0, 1) := by decide +kernel
theorem dX5_init_71 : decode cX5_init 71 = .ok (.getfield 14, 3) := by decide +kernel
theorem dX5_init_74 : decode cX5_init 74 = .ok (.bipush 10, 2) := by decide +kernel
theorem dX5_init_76 : decode cX5_init 76 = .ok (.iconst 1, 1) := by decide +kernel
theorem dX5_init_77 : decode cX5_init 77 = .ok (.invokevirtual 20, 3) := by decide +kernel
theorem dX5_init_80 : decode cX5_init 80 = .ok (.return_, 1) := by decide +kernel
theorem dX5_get_0 : decode cX5_get 0 = .ok (.aload_n 0, 1) := by decide +kernel
theorem dX5_get_1 : decode cX5_get 1 = .ok (.getfield 14, 3) := by decide +kernel
theorem dX5_get_4 : decode cX5_get 4 = .ok (.iload_n 1, 1) := by decide +kernel
theorem dX5_get_5 : decode cX5_get 5 = .ok (.invokevirtual 24, 3) := by decide +kernel
theorem dX5_get_8 : decode cX5_get 8 = .ok (.ireturn, 1) := by decide +kernel
theorem dX5_put_0 : decode cX5_put 0 = .ok (.aload_n 0, 1) := by decide +kernel
theorem dX5_put_1 : decode cX5_put 1 = .ok (.getfield 14, 3) := by decide +kernel
theorem dX5_put_4 : decode cX5_put 4 = .ok (.iload_n 1, 1) := by decide +kernel
theorem dX5_put_5 : decode cX5_put 5 = .ok (.iload_n 2, 1) := by decide +kernel
theorem dX5_put_6 : decode cX5_put 6 = .ok (.invokevirtual 20, 3) := by decide +kernel
theorem dX5_put_9 : decode cX5_put 9 = .ok (.return_, 1) := by decide +kernel
theorem dX5_setting_0 : decode cX5_setting 0 = .ok (.aload_n 0, 1) := by decide +kernel
theorem dX5_setting_1 : decode cX5_setting 1 = .ok (.getfield 14, 3) := by decide +kernel
theorem dX5_setting_4 : decode cX5_setting 4 = .ok (.bipush 7, 2) := by decide +kernel
theorem dX5_setting_6 : decode cX5_setting 6 = .ok (.iload_n 1, 1) := by decide +kernel
theorem dX5_setting_7 : decode cX5_setting 7 = .ok (.iadd, 1) := by decide +kernel
theorem dX5_setting_8 : decode cX5_setting 8 = .ok (.invokevirtual 24, 3) := by decide +kernel
theorem dX5_setting_11 : decode cX5_setting 11 = .ok (.ireturn, 1) := by decide +kernel
theorem dX5_anchorValue_0 : decode cX5_anchorValue 0 = .ok (.aload_n 0, 1) := by decide +kernel
theorem dX5_anchorValue_1 : decode cX5_anchorValue 1 = .ok (.getfield 14, 3) := by decide +kernel
theorem dX5_anchorValue_4 : decode cX5_anchorValue 4 = .ok (.bipush 12, 2) := by decide +kernel
theorem dX5_anchorValue_6 : decode cX5_anchorValue 6 = .ok (.iload_n 1, 1) := by decide +kernel
theorem dX5_anchorValue_7 : decode cX5_anchorValue 7 = .ok (.iconst 4, 1) := by decide +kernel
theorem dX5_anchorValue_8 : decode cX5_anchorValue 8 = .ok (.imul, 1) := by decide +kernel
theorem dX5_anchorValue_9 : decode cX5_anchorValue 9 = .ok (.iadd, 1) := by decide +kernel
theorem dX5_anchorValue_10 : decode cX5_anchorValue 10 = .ok (.iload_n 2, 1) := by decide +kernel
theorem dX5_anchorValue_11 : decode cX5_anchorValue 11 = .ok (.iadd, 1) := by decide +kernel
theorem dX5_anchorValue_12 : decode cX5_anchorValue 12 = .ok (.invokevirtual 24, 3) := by decide +kernel
theorem dX5_anchorValue_15 : decode cX5_anchorValue 15 = .ok (.ireturn, 1) := by decide +kernel
theorem dX5_putAnchorValue_0 : decode cX5_putAnchorValue 0 = .ok (.aload_n 0, 1) := by decide +kernel
theorem dX5_putAnchorValue_1 : decode cX5_putAnchorValue 1 = .ok (.getfield 14, 3) := by decide +kernel
theorem dX5_putAnchorValue_4 : decode cX5_putAnchorValue 4 = .ok (.bipush 12, 2) := by decide +kernel
theorem dX5_putAnchorValue_6 : decode cX5_putAnchorValue 6 = .ok (.iload_n 1, 1) := by decide +kernel
theorem dX5_putAnchorValue_7 : decode cX5_putAnchorValue 7 = .ok (.iconst 4, 1) := by decide +kernel
theorem dX5_putAnchorValue_8 : decode cX5_putAnchorValue 8 = .ok (.imul, 1) := by decide +kernel
theorem dX5_putAnchorValue_9 : decode cX5_putAnchorValue 9 = .ok (.iadd, 1) := by decide +kernel
theorem dX5_putAnchorValue_10 : decode cX5_putAnchorValue 10 = .ok (.iload_n 2, 1) := by decide +kernel
theorem dX5_putAnchorValue_11 : decode cX5_putAnchorValue 11 = .ok (.iadd, 1) := by decide +kernel
theorem dX5_putAnchorValue_12 : decode cX5_putAnchorValue 12 = .ok (.iload_n 3, 1) := by decide +kernel
theorem dX5_putAnchorValue_13 : decode cX5_putAnchorValue 13 = .ok (.invokevirtual 20, 3) := by decide +kernel
theorem dX5_putAnchorValue_16 : decode cX5_putAnchorValue 16 = .ok (.return_, 1) := by decide +kernel
theorem dX5_hintValue_0 : decode cX5_hintValue 0 = .ok (.aload_n 0, 1) := by decide +kernel
theorem dX5_hintValue_1 : decode cX5_hintValue 1 = .ok (.getfield 14, 3) := by decide +kernel
theorem dX5_hintValue_4 : decode cX5_hintValue 4 = .ok (.bipush 52, 2) := by decide +kernel
theorem dX5_hintValue_6 : decode cX5_hintValue 6 = .ok (.iload_n 1, 1) := by decide +kernel
theorem dX5_hintValue_7 : decode cX5_hintValue 7 = .ok (.bipush 10, 2) := by decide +kernel
theorem dX5_hintValue_9 : decode cX5_hintValue 9 = .ok (.imul, 1) := by decide +kernel
theorem dX5_hintValue_10 : decode cX5_hintValue 10 = .ok (.iadd, 1) := by decide +kernel
theorem dX5_hintValue_11 : decode cX5_hintValue 11 = .ok (.iload_n 2, 1) := by decide +kernel
theorem dX5_hintValue_12 : decode cX5_hintValue 12 = .ok (.iadd, 1) := by decide +kernel
theorem dX5_hintValue_13 : decode cX5_hintValue 13 = .ok (.invokevirtual 24, 3) := by decide +kernel
theorem dX5_hintValue_16 : decode cX5_hintValue 16 = .ok (.ireturn, 1) := by decide +kernel
theorem dX5_putHintValue_0 : decode cX5_putHintValue 0 = .ok (.aload_n 0, 1) := by decide +kernel
theorem dX5_putHintValue_1 : decode cX5_putHintValue 1 = .ok (.getfield 14, 3) := by decide +kernel
theorem dX5_putHintValue_4 : decode cX5_putHintValue 4 = .ok (.bipush 52, 2) := by decide +kernel
theorem dX5_putHintValue_6 : decode cX5_putHintValue 6 = .ok (.iload_n 1, 1) := by decide +kernel
theorem dX5_putHintValue_7 : decode cX5_putHintValue 7 = .ok (.bipush 10, 2) := by decide +kernel
theorem dX5_putHintValue_9 : decode cX5_putHintValue 9 = .ok (.imul, 1) := by decide +kernel
theorem dX5_putHintValue_10 : decode cX5_putHintValue 10 = .ok (.iadd, 1) := by decide +kernel
theorem dX5_putHintValue_11 : decode cX5_putHintValue 11 = .ok (.iload_n 2, 1) := by decide +kernel
theorem dX5_putHintValue_12 : decode cX5_putHintValue 12 = .ok (.iadd, 1) := by decide +kernel
theorem dX5_putHintValue_13 : decode cX5_putHintValue 13 = .ok (.iload_n 3, 1) := by decide +kernel
theorem dX5_putHintValue_14 : decode cX5_putHintValue 14 = .ok (.invokevirtual 20, 3) := by decide +kernel
theorem dX5_putHintValue_17 : decode cX5_putHintValue 17 = .ok (.return_, 1) := by decide +kernel
theorem dX5_isOpen_0 : decode cX5_isOpen 0 = .ok (.aload_n 0, 1) := by decide +kernel
theorem dX5_isOpen_1 : decode cX5_isOpen 1 = .ok (.iload_n 1, 1) := by decide +kernel
theorem dX5_isOpen_2 : decode cX5_isOpen 2 = .ok (.bipush 8, 2) := by decide +kernel
theorem dX5_isOpen_4 : decode cX5_isOpen 4 = .ok (.invokevirtual 28, 3) := by decide +kernel
theorem dX5_isOpen_7 : decode cX5_isOpen 7 = .ok (.ifCond .eq 7, 3) := by decide +kernel
theorem dX5_isOpen_10 : decode cX5_isOpen 10 = .ok (.iconst 1, 1) := by decide +kernel
theorem dX5_isOpen_11 : decode cX5_isOpen 11 = .ok (.goto 4, 3) := by decide +kernel
theorem dX5_isOpen_14 : decode cX5_isOpen 14 = .ok (.iconst 0, 1) := by decide +kernel
theorem dX5_isOpen_15 : decode cX5_isOpen 15 = .ok (.ireturn, 1) := by decide +kernel
theorem dX5_isAnchorInSight_0 : decode cX5_isAnchorInSight 0 = .ok (.aload_n 0, 1) := by decide +kernel
theorem dX5_isAnchorInSight_1 : decode cX5_isAnchorInSight 1 = .ok (.iload_n 1, 1) := by decide +kernel
theorem dX5_isAnchorInSight_2 : decode cX5_isAnchorInSight 2 = .ok (.aload_n 0, 1) := by decide +kernel
theorem dX5_isAnchorInSight_3 : decode cX5_isAnchorInSight 3 = .ok (.iconst 0, 1) := by decide +kernel
theorem dX5_isAnchorInSight_4 : decode cX5_isAnchorInSight 4 = .ok (.invokevirtual 32, 3) := by decide +kernel
theorem dX5_isAnchorInSight_7 : decode cX5_isAnchorInSight 7 = .ok (.aload_n 0, 1) := by decide +kernel
theorem dX5_isAnchorInSight_8 : decode cX5_isAnchorInSight 8 = .ok (.iconst 1, 1) := by decide +kernel
theorem dX5_isAnchorInSight_9 : decode cX5_isAnchorInSight 9 = .ok (.invokevirtual 32, 3) := by decide +kernel
theorem dX5_isAnchorInSight_12 : decode cX5_isAnchorInSight 12 = .ok (.aload_n 0, 1) := by decide +kernel
theorem dX5_isAnchorInSight_13 : decode cX5_isAnchorInSight 13 = .ok (.iconst 2, 1) := by decide +kernel
theorem dX5_isAnchorInSight_14 : decode cX5_isAnchorInSight 14 = .ok (.invokevirtual 32, 3) := by decide +kernel
theorem dX5_isAnchorInSight_17 : decode cX5_isAnchorInSight 17 = .ok (.aload_n 0, 1) := by decide +kernel
theorem dX5_isAnchorInSight_18 : decode cX5_isAnchorInSight 18 = .ok (.iconst 3, 1) := by decide +kernel
theorem dX5_isAnchorInSight_19 : decode cX5_isAnchorInSight 19 = .ok (.invokevirtual 32, 3) := by decide +kernel
theorem dX5_isAnchorInSight_22 : decode cX5_isAnchorInSight 22 = .ok (.invokevirtual 33, 3) := by decide +kernel
theorem dX5_isAnchorInSight_25 : decode cX5_isAnchorInSight 25 = .ok (.ireturn, 1) := by decide +kernel
theorem dX5_anchorMeets_0 : decode cX5_anchorMeets 0 = .ok (.aload_n 0, 1) := by decide +kernel
theorem dX5_anchorMeets_1 : decode cX5_anchorMeets 1 = .ok (.iload_n 1, 1) := by decide +kernel
theorem dX5_anchorMeets_2 : decode cX5_anchorMeets 2 = .ok (.iconst 0, 1) := by decide +kernel
theorem dX5_anchorMeets_3 : decode cX5_anchorMeets 3 = .ok (.invokevirtual 37, 3) := by decide +kernel
theorem dX5_anchorMeets_6 : decode cX5_anchorMeets 6 = .ok (.aload_n 0, 1) := by decide +kernel
theorem dX5_anchorMeets_7 : decode cX5_anchorMeets 7 = .ok (.iload_n 1, 1) := by decide +kernel
theorem dX5_anchorMeets_8 : decode cX5_anchorMeets 8 = .ok (.iconst 2, 1) := by decide +kernel
theorem dX5_anchorMeets_9 : decode cX5_anchorMeets 9 = .ok (.invokevirtual 37, 3) := by decide +kernel
theorem dX5_anchorMeets_12 : decode cX5_anchorMeets 12 = .ok (.iload_n 2, 1) := by decide +kernel
theorem dX5_anchorMeets_13 : decode cX5_anchorMeets 13 = .ok (.iload 4, 2) := by decide +kernel
theorem dX5_anchorMeets_15 : decode cX5_anchorMeets 15 = .ok (.invokestatic 40, 3) := by decide +kernel
theorem dX5_anchorMeets_18 : decode cX5_anchorMeets 18 = .ok (.ifCond .eq 28, 3) := by decide +kernel
theorem dX5_anchorMeets_21 : decode cX5_anchorMeets 21 = .ok (.aload_n 0, 1) := by decide +kernel
theorem dX5_anchorMeets_22 : decode cX5_anchorMeets 22 = .ok (.iload_n 1, 1) := by decide +kernel
theorem dX5_anchorMeets_23 : decode cX5_anchorMeets 23 = .ok (.iconst 1, 1) := by decide +kernel
theorem dX5_anchorMeets_24 : decode cX5_anchorMeets 24 = .ok (.invokevirtual 37, 3) := by decide +kernel
theorem dX5_anchorMeets_27 : decode cX5_anchorMeets 27 = .ok (.aload_n 0, 1) := by decide +kernel
theorem dX5_anchorMeets_28 : decode cX5_anchorMeets 28 = .ok (.iload_n 1, 1) := by decide +kernel
theorem dX5_anchorMeets_29 : decode cX5_anchorMeets 29 = .ok (.iconst 3, 1) := by decide +kernel
theorem dX5_anchorMeets_30 : decode cX5_anchorMeets 30 = .ok (.invokevirtual 37, 3) := by decide +kernel
theorem dX5_anchorMeets_33 : decode cX5_anchorMeets 33 = .ok (.iload_n 3, 1) := by decide +kernel
theorem dX5_anchorMeets_34 : decode cX5_anchorMeets 34 = .ok (.iload 5, 2) := by decide +kernel
theorem dX5_anchorMeets_36 : decode cX5_anchorMeets 36 = .ok (.invokestatic 40, 3) := by decide +kernel
theorem dX5_anchorMeets_39 : decode cX5_anchorMeets 39 = .ok (.ifCond .eq 7, 3) := by decide +kernel
theorem dX5_anchorMeets_42 : decode cX5_anchorMeets 42 = .ok (.iconst 1, 1) := by decide +kernel
theorem dX5_anchorMeets_43 : decode cX5_anchorMeets 43 = .ok (.goto 4, 3) := by decide +kernel
theorem dX5_anchorMeets_46 : decode cX5_anchorMeets 46 = .ok (.iconst 0, 1) := by decide +kernel
theorem dX5_anchorMeets_47 : decode cX5_anchorMeets 47 = .ok (.ireturn, 1) := by decide +kernel
theorem dX5_turn_0 : decode cX5_turn 0 = .ok (.iconst 0, 1) := by decide +kernel
theorem dX5_turn_1 : decode cX5_turn 1 = .ok (.istore_n 2, 1) := by decide +kernel
theorem dX5_turn_2 : decode cX5_turn 2 = .ok (.iconst 0, 1) := by decide +kernel
theorem dX5_turn_3 : decode cX5_turn 3 = .ok (.istore_n 3, 1) := by decide +kernel
theorem dX5_turn_4 : decode cX5_turn 4 = .ok (.iload_n 3, 1) := by decide +kernel
theorem dX5_turn_5 : decode cX5_turn 5 = .ok (.aload_n 0, 1) := by decide +kernel
theorem dX5_turn_6 : decode cX5_turn 6 = .ok (.iconst 5, 1) := by decide +kernel
theorem dX5_turn_7 : decode cX5_turn 7 = .ok (.invokevirtual 32, 3) := by decide +kernel
theorem dX5_turn_10 : decode cX5_turn 10 = .ok (.if_icmp .ge 29, 3) := by decide +kernel
theorem dX5_turn_13 : decode cX5_turn 13 = .ok (.aload_n 0, 1) := by decide +kernel
theorem dX5_turn_14 : decode cX5_turn 14 = .ok (.iload_n 3, 1) := by decide +kernel
theorem dX5_turn_15 : decode cX5_turn 15 = .ok (.invokevirtual 44, 3) := by decide +kernel
theorem dX5_turn_18 : decode cX5_turn 18 = .ok (.ifCond .eq 15, 3) := by decide +kernel
theorem dX5_turn_21 : decode cX5_turn 21 = .ok (.aload_n 0, 1) := by decide +kernel
theorem dX5_turn_22 : decode cX5_turn 22 = .ok (.iload_n 3, 1) := by decide +kernel
theorem dX5_turn_23 : decode cX5_turn 23 = .ok (.iload_n 1, 1) := by decide +kernel
theorem dX5_turn_24 : decode cX5_turn 24 = .ok (.invokevirtual 48, 3) := by decide +kernel
theorem dX5_turn_27 : decode cX5_turn 27 = .ok (.ifCond .eq 6, 3) := by decide +kernel
theorem dX5_turn_30 : decode cX5_turn 30 = .ok (.iinc 2 1, 3) := by decide +kernel
theorem dX5_turn_33 : decode cX5_turn 33 = .ok (.iinc 3 1, 3) := by decide +kernel
theorem dX5_turn_36 : decode cX5_turn 36 = .ok (.goto (-32), 3) := by decide +kernel
theorem dX5_turn_39 : decode cX5_turn 39 = .ok (.iload_n 2, 1) := by decide +kernel
theorem dX5_turn_40 : decode cX5_turn 40 = .ok (.ireturn, 1) := by decide +kernel
theorem dX5_goesBefore_0 : decode cX5_goesBefore 0 = .ok (.aload_n 0, 1) := by decide +kernel
theorem dX5_goesBefore_1 : decode cX5_goesBefore 1 = .ok (.iload_n 1, 1) := by decide +kernel
theorem dX5_goesBefore_2 : decode cX5_goesBefore 2 = .ok (.bipush 7, 2) := by decide +kernel
theorem dX5_goesBefore_4 : decode cX5_goesBefore 4 = .ok (.invokevirtual 28, 3) := by decide +kernel
theorem dX5_goesBefore_7 : decode cX5_goesBefore 7 = .ok (.istore_n 3, 1) := by decide +kernel
theorem dX5_goesBefore_8 : decode cX5_goesBefore 8 = .ok (.aload_n 0, 1) := by decide +kernel
theorem dX5_goesBefore_9 : decode cX5_goesBefore 9 = .ok (.iload_n 2, 1) := by decide +kernel
theorem dX5_goesBefore_10 : decode cX5_goesBefore 10 = .ok (.bipush 7, 2) := by decide +kernel
theorem dX5_goesBefore_12 : decode cX5_goesBefore 12 = .ok (.invokevirtual 28, 3) := by decide +kernel
theorem dX5_goesBefore_15 : decode cX5_goesBefore 15 = .ok (.istore 4, 2) := by decide +kernel
theorem dX5_goesBefore_17 : decode cX5_goesBefore 17 = .ok (.iload_n 3, 1) := by decide +kernel
theorem dX5_goesBefore_18 : decode cX5_goesBefore 18 = .ok (.iload 4, 2) := by decide +kernel
theorem dX5_goesBefore_20 : decode cX5_goesBefore 20 = .ok (.if_icmp .eq 15, 3) := by decide +kernel
theorem dX5_goesBefore_23 : decode cX5_goesBefore 23 = .ok (.iload_n 3, 1) := by decide +kernel
theorem dX5_goesBefore_24 : decode cX5_goesBefore 24 = .ok (.iload 4, 2) := by decide +kernel
theorem dX5_goesBefore_26 : decode cX5_goesBefore 26 = .ok (.if_icmp .le 7, 3) := by decide +kernel
theorem dX5_goesBefore_29 : decode cX5_goesBefore 29 = .ok (.iconst 1, 1) := by decide +kernel
theorem dX5_goesBefore_30 : decode cX5_goesBefore 30 = .ok (.goto 4, 3) := by decide +kernel
theorem dX5_goesBefore_33 : decode cX5_goesBefore 33 = .ok (.iconst 0, 1) := by decide +kernel
theorem dX5_goesBefore_34 : decode cX5_goesBefore 34 = .ok (.ireturn, 1) := by decide +kernel
theorem dX5_goesBefore_35 : decode cX5_goesBefore 35 = .ok (.aload_n 0, 1) := by decide +kernel
theorem dX5_goesBefore_36 : decode cX5_goesBefore 36 = .ok (.iload_n 1, 1) := by decide +kernel
theorem dX5_goesBefore_37 : decode cX5_goesBefore 37 = .ok (.bipush 8, 2) := by decide +kernel
theorem dX5_goesBefore_39 : decode cX5_goesBefore 39 = .ok (.invokevirtual 28, 3) := by decide +kernel
theorem dX5_goesBefore_42 : decode cX5_goesBefore 42 = .ok (.aload_n 0, 1) := by decide +kernel
theorem dX5_goesBefore_43 : decode cX5_goesBefore 43 = .ok (.iload_n 2, 1) := by decide +kernel
theorem dX5_goesBefore_44 : decode cX5_goesBefore 44 = .ok (.bipush 8, 2) := by decide +kernel
theorem dX5_goesBefore_46 : decode cX5_goesBefore 46 = .ok (.invokevirtual 28, 3) := by decide +kernel
theorem dX5_goesBefore_49 : decode cX5_goesBefore 49 = .ok (.if_icmp .ge 7, 3) := by decide +kernel
theorem dX5_goesBefore_52 : decode cX5_goesBefore 52 = .ok (.iconst 1, 1) := by decide +kernel
theorem dX5_goesBefore_53 : decode cX5_goesBefore 53 = .ok (.goto 4, 3) := by decide +kernel
theorem dX5_goesBefore_56 : decode cX5_goesBefore 56 = .ok (.iconst 0, 1) := by decide +kernel
theorem dX5_goesBefore_57 : decode cX5_goesBefore 57 = .ok (.ireturn, 1) := by decide +kernel
theorem dX5_copyTo_0 : decode cX5_copyTo 0 = .ok (.iconst 0, 1) := by decide +kernel
theorem dX5_copyTo_1 : decode cX5_copyTo 1 = .ok (.istore_n 3, 1) := by decide +kernel
theorem dX5_copyTo_2 : decode cX5_copyTo 2 = .ok (.iload_n 3, 1) := by decide +kernel
theorem dX5_copyTo_3 : decode cX5_copyTo 3 = .ok (.sipush 172, 3) := by decide +kernel
theorem dX5_copyTo_6 : decode cX5_copyTo 6 = .ok (.if_icmp .ge 24, 3) := by decide +kernel
theorem dX5_copyTo_9 : decode cX5_copyTo 9 = .ok (.aload_n 1, 1) := by decide +kernel
theorem dX5_copyTo_10 : decode cX5_copyTo 10 = .ok (.iload_n 2, 1) := by decide +kernel
theorem dX5_copyTo_11 : decode cX5_copyTo 11 = .ok (.iload_n 3, 1) := by decide +kernel
theorem dX5_copyTo_12 : decode cX5_copyTo 12 = .ok (.iadd, 1) := by decide +kernel
theorem dX5_copyTo_13 : decode cX5_copyTo 13 = .ok (.aload_n 0, 1) := by decide +kernel
theorem dX5_copyTo_14 : decode cX5_copyTo 14 = .ok (.getfield 14, 3) := by decide +kernel
theorem dX5_copyTo_17 : decode cX5_copyTo 17 = .ok (.iload_n 3, 1) := by decide +kernel
theorem dX5_copyTo_18 : decode cX5_copyTo 18 = .ok (.invokevirtual 24, 3) := by decide +kernel
theorem dX5_copyTo_21 : decode cX5_copyTo 21 = .ok (.invokevirtual 20, 3) := by decide +kernel
theorem dX5_copyTo_24 : decode cX5_copyTo 24 = .ok (.iinc 3 1, 3) := by decide +kernel
theorem dX5_copyTo_27 : decode cX5_copyTo 27 = .ok (.goto (-25), 3) := by decide +kernel
theorem dX5_copyTo_30 : decode cX5_copyTo 30 = .ok (.return_, 1) := by decide +kernel
theorem dX5_copyFrom_0 : decode cX5_copyFrom 0 = .ok (.iconst 0, 1) := by decide +kernel
theorem dX5_copyFrom_1 : decode cX5_copyFrom 1 = .ok (.istore_n 3, 1) := by decide +kernel
theorem dX5_copyFrom_2 : decode cX5_copyFrom 2 = .ok (.iload_n 3, 1) := by decide +kernel
theorem dX5_copyFrom_3 : decode cX5_copyFrom 3 = .ok (.sipush 172, 3) := by decide +kernel
theorem dX5_copyFrom_6 : decode cX5_copyFrom 6 = .ok (.if_icmp .ge 24, 3) := by decide +kernel
theorem dX5_copyFrom_9 : decode cX5_copyFrom 9 = .ok (.aload_n 0, 1) := by decide +kernel
theorem dX5_copyFrom_10 : decode cX5_copyFrom 10 = .ok (.getfield 14, 3) := by decide +kernel
theorem dX5_copyFrom_13 : decode cX5_copyFrom 13 = .ok (.iload_n 3, 1) := by decide +kernel
theorem dX5_copyFrom_14 : decode cX5_copyFrom 14 = .ok (.aload_n 1, 1) := by decide +kernel
theorem dX5_copyFrom_15 : decode cX5_copyFrom 15 = .ok (.iload_n 2, 1) := by decide +kernel
theorem dX5_copyFrom_16 : decode cX5_copyFrom 16 = .ok (.iload_n 3, 1) := by decide +kernel
theorem dX5_copyFrom_17 : decode cX5_copyFrom 17 = .ok (.iadd, 1) := by decide +kernel
theorem dX5_copyFrom_18 : decode cX5_copyFrom 18 = .ok (.invokevirtual 24, 3) := by decide +kernel
theorem dX5_copyFrom_21 : decode cX5_copyFrom 21 = .ok (.invokevirtual 20, 3) := by decide +kernel
theorem dX5_copyFrom_24 : decode cX5_copyFrom 24 = .ok (.iinc 3 1, 3) := by decide +kernel
theorem dX5_copyFrom_27 : decode cX5_copyFrom 27 = .ok (.goto (-25), 3) := by decide +kernel
theorem dX5_copyFrom_30 : decode cX5_copyFrom 30 = .ok (.return_, 1) := by decide +kernel
theorem dX6_init_0 : decode cX6_init 0 = .ok (.aload_n 0, 1) := by decide +kernel
theorem dX6_init_1 : decode cX6_init 1 = .ok (.invokespecial 3, 3) := by decide +kernel
theorem dX6_init_4 : decode cX6_init 4 = .ok (.aload_n 0, 1) := by decide +kernel
theorem dX6_init_5 : decode cX6_init 5 = .ok (.new 9, 3) := by decide +kernel
theorem dX6_init_8 : decode cX6_init 8 = .ok (.dup, 1) := by decide +kernel
theorem dX6_init_9 : decode cX6_init 9 = .ok (.iconst 4, 1) := by decide +kernel
theorem dX6_init_10 : decode cX6_init 10 = .ok (.invokespecial 11, 3) := by decide +kernel
theorem dX6_init_13 : decode cX6_init 13 = .ok (.putfield 14, 3) := by decide +kernel
theorem dX6_init_16 : decode cX6_init 16 = .ok (.return_, 1) := by decide +kernel
theorem dX6_list_0 : decode cX6_list 0 = .ok (.aload_n 0, 1) := by decide +kernel
theorem dX6_list_1 : decode cX6_list 1 = .ok (.iconst 0, 1) := by decide +kernel
theorem dX6_list_2 : decode cX6_list 2 = .ok (.putfield 20, 3) := by decide +kernel
theorem dX6_list_5 : decode cX6_list 5 = .ok (.aload_n 1, 1) := by decide +kernel
theorem dX6_list_6 : decode cX6_list 6 = .ok (.iload_n 2, 1) := by decide +kernel
theorem dX6_list_7 : decode cX6_list 7 = .ok (.bipush 9, 2) := by decide +kernel
theorem dX6_list_9 : decode cX6_list 9 = .ok (.invokevirtual 24, 3) := by decide +kernel
theorem dX6_list_12 : decode cX6_list 12 = .ok (.istore_n 3, 1) := by decide +kernel
theorem dX6_list_13 : decode cX6_list 13 = .ok (.aload_n 1, 1) := by decide +kernel
theorem dX6_list_14 : decode cX6_list 14 = .ok (.iconst 3, 1) := by decide +kernel
theorem dX6_list_15 : decode cX6_list 15 = .ok (.invokevirtual 30, 3) := by decide +kernel
theorem dX6_list_18 : decode cX6_list 18 = .ok (.iconst 1, 1) := by decide +kernel
theorem dX6_list_19 : decode cX6_list 19 = .ok (.if_icmp .ne 13, 3) := by decide +kernel
theorem dX6_list_22 : decode cX6_list 22 = .ok (.iload_n 3, 1) := by decide +kernel
theorem dX6_list_23 : decode cX6_list 23 = .ok (.iconst (-1), 1) := by decide +kernel
theorem dX6_list_24 : decode cX6_list 24 = .ok (.if_icmp .eq 8, 3) := by decide +kernel
theorem dX6_list_27 : decode cX6_list 27 = .ok (.aload_n 0, 1) := by decide +kernel
theorem dX6_list_28 : decode cX6_list 28 = .ok (.iload_n 3, 1) := by decide +kernel
theorem dX6_list_29 : decode cX6_list 29 = .ok (.invokevirtual 34, 3) := by decide +kernel
theorem dX6_list_32 : decode cX6_list 32 = .ok (.aload_n 1, 1) := by decide +kernel
theorem dX6_list_33 : decode cX6_list 33 = .ok (.iload_n 2, 1) := by decide +kernel
theorem dX6_list_34 : decode cX6_list 34 = .ok (.iconst 3, 1) := by decide +kernel
theorem dX6_list_35 : decode cX6_list 35 = .ok (.invokevirtual 24, 3) := by decide +kernel
theorem dX6_list_38 : decode cX6_list 38 = .ok (.istore 4, 2) := by decide +kernel
theorem dX6_list_40 : decode cX6_list 40 = .ok (.aload_n 1, 1) := by decide +kernel
theorem dX6_list_41 : decode cX6_list 41 = .ok (.iload_n 2, 1) := by decide +kernel
theorem dX6_list_42 : decode cX6_list 42 = .ok (.iconst 5, 1) := by decide +kernel
theorem dX6_list_43 : decode cX6_list 43 = .ok (.invokevirtual 24, 3) := by decide +kernel
theorem dX6_list_46 : decode cX6_list 46 = .ok (.istore 5, 2) := by decide +kernel
theorem dX6_list_48 : decode cX6_list 48 = .ok (.aload_n 0, 1) := by decide +kernel
theorem dX6_list_49 : decode cX6_list 49 = .ok (.iload 4, 2) := by decide +kernel
theorem dX6_list_51 : decode cX6_list 51 = .ok (.invokevirtual 34, 3) := by decide +kernel
theorem dX6_list_54 : decode cX6_list 54 = .ok (.iload 5, 2) := by decide +kernel
theorem dX6_list_56 : decode cX6_list 56 = .ok (.iconst 1, 1) := by decide +kernel
theorem dX6_list_57 : decode cX6_list 57 = .ok (.if_icmp .lt 13, 3) := by decide +kernel
theorem dX6_list_60 : decode cX6_list 60 = .ok (.aload_n 0, 1) := by decide +kernel
theorem dX6_list_61 : decode cX6_list 61 = .ok (.iload 4, 2) := by decide +kernel
theorem dX6_list_63 : decode cX6_list 63 = .ok (.iconst 2, 1) := by decide +kernel
theorem dX6_list_64 : decode cX6_list 64 = .ok (.iadd, 1) := by decide +kernel
theorem dX6_list_65 : decode cX6_list 65 = .ok (.iconst 4, 1) := by decide +kernel
theorem dX6_list_66 : decode cX6_list 66 = .ok (.irem, 1) := by decide +kernel
theorem dX6_list_67 : decode cX6_list 67 = .ok (.invokevirtual 34, 3) := by decide +kernel
theorem dX6_list_70 : decode cX6_list 70 = .ok (.iload 5, 2) := by decide +kernel
theorem dX6_list_72 : decode cX6_list 72 = .ok (.iconst 2, 1) := by decide +kernel
theorem dX6_list_73 : decode cX6_list 73 = .ok (.if_icmp .ne 25, 3) := by decide +kernel
theorem dX6_list_76 : decode cX6_list 76 = .ok (.aload_n 0, 1) := by decide +kernel
theorem dX6_list_77 : decode cX6_list 77 = .ok (.iload 4, 2) := by decide +kernel
theorem dX6_list_79 : decode cX6_list 79 = .ok (.iconst 1, 1) := by decide +kernel
theorem dX6_list_80 : decode cX6_list 80 = .ok (.iadd, 1) := by decide +kernel
theorem dX6_list_81 : decode cX6_list 81 = .ok (.iconst 4, 1) := by decide +kernel
theorem dX6_list_82 : decode cX6_list 82 = .ok (.irem, 1) := by decide +kernel
theorem dX6_list_83 : decode cX6_list 83 = .ok (.invokevirtual 34, 3) := by decide +kernel
theorem dX6_list_86 : decode cX6_list 86 = .ok (.aload_n 0, 1) := by decide +kernel
theorem dX6_list_87 : decode cX6_list 87 = .ok (.iload 4, 2) := by decide +kernel
theorem dX6_list_89 : decode cX6_list 89 = .ok (.iconst 4, 1) := by decide +kernel
theorem dX6_list_90 : decode cX6_list 90 = .ok (.iadd, 1) := by decide +kernel
theorem dX6_list_91 : decode cX6_list 91 = .ok (.iconst 1, 1) := by decide +kernel
theorem dX6_list_92 : decode cX6_list 92 = .ok (.isub, 1) := by decide +kernel
theorem dX6_list_93 : decode cX6_list 93 = .ok (.iconst 4, 1) := by decide +kernel
theorem dX6_list_94 : decode cX6_list 94 = .ok (.irem, 1) := by decide +kernel
theorem dX6_list_95 : decode cX6_list 95 = .ok (.invokevirtual 34, 3) := by decide +kernel
theorem dX6_list_98 : decode cX6_list 98 = .ok (.return_, 1) := by decide +kernel
theorem dX6_add_0 : decode cX6_add 0 = .ok (.iconst 0, 1) := by decide +kernel
theorem dX6_add_1 : decode cX6_add 1 = .ok (.istore_n 2, 1) := by decide +kernel
theorem dX6_add_2 : decode cX6_add 2 = .ok (.iload_n 2, 1) := by decide +kernel
theorem dX6_add_3 : decode cX6_add 3 = .ok (.aload_n 0, 1) := by decide +kernel
theorem dX6_add_4 : decode cX6_add 4 = .ok (.getfield 20, 3) := by decide +kernel
theorem dX6_add_7 : decode cX6_add 7 = .ok (.if_icmp .ge 22, 3) := by decide +kernel
theorem dX6_add_10 : decode cX6_add 10 = .ok (.aload_n 0, 1) := by decide +kernel
theorem dX6_add_11 : decode cX6_add 11 = .ok (.getfield 14, 3) := by decide +kernel
theorem dX6_add_14 : decode cX6_add 14 = .ok (.iload_n 2, 1) := by decide +kernel
theorem dX6_add_15 : decode cX6_add 15 = .ok (.invokevirtual 37, 3) := by decide +kernel
theorem dX6_add_18 : decode cX6_add 18 = .ok (.iload_n 1, 1) := by decide +kernel
theorem dX6_add_19 : decode cX6_add 19 = .ok (.if_icmp .ne 4, 3) := by decide +kernel
theorem dX6_add_22 : decode cX6_add 22 = .ok (.return_, 1) := by decide +kernel
theorem dX6_add_23 : decode cX6_add 23 = .ok (.iinc 2 1, 3) := by decide +kernel
theorem dX6_add_26 : decode cX6_add 26 = .ok (.goto (-24), 3) := by decide +kernel
theorem dX6_add_29 : decode cX6_add 29 = .ok (.aload_n 0, 1) := by decide +kernel
theorem dX6_add_30 : decode cX6_add 30 = .ok (.getfield 14, 3) := by decide +kernel
theorem dX6_add_33 : decode cX6_add 33 = .ok (.aload_n 0, 1) := by decide +kernel
theorem dX6_add_34 : decode cX6_add 34 = .ok (.getfield 20, 3) := by decide +kernel
theorem dX6_add_37 : decode cX6_add 37 = .ok (.iload_n 1, 1) := by decide +kernel
theorem dX6_add_38 : decode cX6_add 38 = .ok (.invokevirtual 40, 3) := by decide +kernel
theorem dX6_add_41 : decode cX6_add 41 = .ok (.aload_n 0, 1) := by decide +kernel
theorem dX6_add_42 : decode cX6_add 42 = .ok (.dup, 1) := by decide +kernel
theorem dX6_add_43 : decode cX6_add 43 = .ok (.getfield 20, 3) := by decide +kernel
theorem dX6_add_46 : decode cX6_add 46 = .ok (.iconst 1, 1) := by decide +kernel
theorem dX6_add_47 : decode cX6_add 47 = .ok (.iadd, 1) := by decide +kernel
theorem dX6_add_48 : decode cX6_add 48 = .ok (.putfield 20, 3) := by decide +kernel
theorem dX6_add_51 : decode cX6_add 51 = .ok (.return_, 1) := by decide +kernel
theorem dX7_init_0 : decode cX7_init 0 = .ok (.aload_n 0, 1) := by decide +kernel
theorem dX7_init_1 : decode cX7_init 1 = .ok (.invokespecial 3, 3) := by decide +kernel
theorem dX7_init_4 : decode cX7_init 4 = .ok (.aload_n 0, 1) := by decide +kernel
theorem dX7_init_5 : decode cX7_init 5 = .ok (.new 9, 3) := by decide +kernel
theorem dX7_init_8 : decode cX7_init 8 = .ok (.dup, 1) := by decide +kernel
theorem dX7_init_9 : decode cX7_init 9 = .ok (.invokespecial 11, 3) := by decide +kernel
theorem dX7_init_12 : decode cX7_init 12 = .ok (.putfield 12, 3) := by decide +kernel
theorem dX7_init_15 : decode cX7_init 15 = .ok (.aload_n 0, 1) := by decide +kernel
theorem dX7_init_16 : decode cX7_init 16 = .ok (.new 16, 3) := by decide +kernel
theorem dX7_init_19 : decode cX7_init 19 = .ok (.dup, 1) := by decide +kernel
theorem dX7_init_20 : decode cX7_init 20 = .ok (.invokespecial 18, 3) := by decide +kernel
theorem dX7_init_23 : decode cX7_init 23 = .ok (.putfield 19, 3) := by decide +kernel
theorem dX7_init_26 : decode cX7_init 26 = .ok (.aload_n 0, 1) := by decide +kernel
theorem dX7_init_27 : decode cX7_init 27 = .ok (.new 23, 3) := by decide +kernel
theorem dX7_init_30 : decode cX7_init 30 = .ok (.dup, 1) := by decide +kernel
theorem dX7_init_31 : decode cX7_init 31 = .ok (.invokespecial 25, 3) := by decide +kernel
theorem dX7_init_34 : decode cX7_init 34 = .ok (.putfield 26, 3) := by decide +kernel
theorem dX7_init_37 : decode cX7_init 37 = .ok (.aload_n 0, 1) := by decide +kernel
theorem dX7_init_38 : decode cX7_init 38 = .ok (.new 30, 3) := by decide +kernel
theorem dX7_init_41 : decode cX7_init 41 = .ok (.dup, 1) := by decide +kernel
theorem dX7_init_42 : decode cX7_init 42 = .ok (.invokespecial 32, 3) := by decide +kernel
theorem dX7_init_45 : decode cX7_init 45 = .ok (.putfield 33, 3) := by decide +kernel
theorem dX7_init_48 : decode cX7_init 48 = .ok (.aload_n 0, 1) := by decide +kernel
theorem dX7_init_49 : decode cX7_init 49 = .ok (.new 37, 3) := by decide +kernel
theorem dX7_init_52 : decode cX7_init 52 = .ok (.dup, 1) := by decide +kernel
theorem dX7_init_53 : decode cX7_init 53 = .ok (.invokespecial 39, 3) := by decide +kernel
theorem dX7_init_56 : decode cX7_init 56 = .ok (.putfield 40, 3) := by decide +kernel
theorem dX7_init_59 : decode cX7_init 59 = .ok (.aload_n 0, 1) := by decide +kernel
theorem dX7_init_60 : decode cX7_init 60 = .ok (.new 44, 3) := by decide +kernel
theorem dX7_init_63 : decode cX7_init 63 = .ok (.dup, 1) := by decide +kernel
theorem dX7_init_64 : decode cX7_init 64 = .ok (.invokespecial 46, 3) := by decide +kernel
theorem dX7_init_67 : decode cX7_init 67 = .ok (.putfield 47, 3) := by decide +kernel
theorem dX7_init_70 : decode cX7_init 70 = .ok (.return_, 1) := by decide +kernel
theorem dX7_view_0 : decode cX7_view 0 = .ok (.iload_n 1, 1) := by decide +kernel
theorem dX7_view_1 : decode cX7_view 1 = .ok (.invokestatic 51, 3) := by decide +kernel
theorem dX7_view_4 : decode cX7_view 4 = .ok (.ifCond .eq 10, 3) := by decide +kernel
theorem dX7_view_7 : decode cX7_view 7 = .ok (.iload_n 2, 1) := by decide +kernel
theorem dX7_view_8 : decode cX7_view 8 = .ok (.invokestatic 51, 3) := by decide +kernel
theorem dX7_view_11 : decode cX7_view 11 = .ok (.ifCond .ne 7, 3) := by decide +kernel
theorem dX7_view_14 : decode cX7_view 14 = .ok (.sipush (-10001), 3) := by decide +kernel
theorem dX7_view_17 : decode cX7_view 17 = .ok (.ireturn, 1) := by decide +kernel
theorem dX7_view_18 : decode cX7_view 18 = .ok (.aload_n 0, 1) := by decide +kernel
theorem dX7_view_19 : decode cX7_view 19 = .ok (.getfield 19, 3) := by decide +kernel
theorem dX7_view_22 : decode cX7_view 22 = .ok (.aload_n 0, 1) := by decide +kernel
theorem dX7_view_23 : decode cX7_view 23 = .ok (.getfield 12, 3) := by decide +kernel
theorem dX7_view_26 : decode cX7_view 26 = .ok (.invokevirtual 55, 3) := by decide +kernel
theorem dX7_view_29 : decode cX7_view 29 = .ok (.aload_n 0, 1) := by decide +kernel
theorem dX7_view_30 : decode cX7_view 30 = .ok (.getfield 12, 3) := by decide +kernel
theorem dX7_view_33 : decode cX7_view 33 = .ok (.iconst 2, 1) := by decide +kernel
theorem dX7_view_34 : decode cX7_view 34 = .ok (.iload_n 1, 1) := by decide +kernel
theorem dX7_view_35 : decode cX7_view 35 = .ok (.invokevirtual 59, 3) := by decide +kernel
theorem dX7_view_38 : decode cX7_view 38 = .ok (.aload_n 0, 1) := by decide +kernel
theorem dX7_view_39 : decode cX7_view 39 = .ok (.getfield 12, 3) := by decide +kernel
theorem dX7_view_42 : decode cX7_view 42 = .ok (.iconst 3, 1) := by decide +kernel
theorem dX7_view_43 : decode cX7_view 43 = .ok (.iload_n 2, 1) := by decide +kernel
theorem dX7_view_44 : decode cX7_view 44 = .ok (.invokevirtual 59, 3) := by decide +kernel
theorem dX7_view_47 : decode cX7_view 47 = .ok (.aload_n 0, 1) := by decide +kernel
theorem dX7_view_48 : decode cX7_view 48 = .ok (.getfield 26, 3) := by decide +kernel
theorem dX7_view_51 : decode cX7_view 51 = .ok (.aload_n 0, 1) := by decide +kernel
theorem dX7_view_52 : decode cX7_view 52 = .ok (.getfield 12, 3) := by decide +kernel
theorem dX7_view_55 : decode cX7_view 55 = .ok (.invokevirtual 63, 3) := by decide +kernel
theorem dX7_view_58 : decode cX7_view 58 = .ok (.ireturn, 1) := by decide +kernel
theorem dX7_scroll_0 : decode cX7_scroll 0 = .ok (.iload_n 1, 1) := by decide +kernel
theorem dX7_scroll_1 : decode cX7_scroll 1 = .ok (.sipush 1000, 3) := by decide +kernel
theorem dX7_scroll_4 : decode cX7_scroll 4 = .ok (.invokestatic 67, 3) := by decide +kernel
theorem dX7_scroll_7 : decode cX7_scroll 7 = .ok (.ifCond .eq 13, 3) := by decide +kernel
theorem dX7_scroll_10 : decode cX7_scroll 10 = .ok (.iload_n 2, 1) := by decide +kernel
theorem dX7_scroll_11 : decode cX7_scroll 11 = .ok (.sipush 1000, 3) := by decide +kernel
theorem dX7_scroll_14 : decode cX7_scroll 14 = .ok (.invokestatic 67, 3) := by decide +kernel
theorem dX7_scroll_17 : decode cX7_scroll 17 = .ok (.ifCond .ne 7, 3) := by decide +kernel
theorem dX7_scroll_20 : decode cX7_scroll 20 = .ok (.sipush (-10001), 3) := by decide +kernel
theorem dX7_scroll_23 : decode cX7_scroll 23 = .ok (.ireturn, 1) := by decide +kernel
theorem dX7_scroll_24 : decode cX7_scroll 24 = .ok (.aload_n 0, 1) := by decide +kernel
theorem dX7_scroll_25 : decode cX7_scroll 25 = .ok (.iload_n 1, 1) := by decide +kernel
theorem dX7_scroll_26 : decode cX7_scroll 26 = .ok (.iload_n 2, 1) := by decide +kernel
theorem dX7_scroll_27 : decode cX7_scroll 27 = .ok (.invokevirtual 71, 3) := by decide +kernel
theorem dX7_scroll_30 : decode cX7_scroll 30 = .ok (.ifCond .ne 7, 3) := by decide +kernel
theorem dX7_scroll_33 : decode cX7_scroll 33 = .ok (.sipush (-10002), 3) := by decide +kernel
theorem dX7_scroll_36 : decode cX7_scroll 36 = .ok (.ireturn, 1) := by decide +kernel
theorem dX7_scroll_37 : decode cX7_scroll 37 = .ok (.aload_n 0, 1) := by decide +kernel
theorem dX7_scroll_38 : decode cX7_scroll 38 = .ok (.getfield 19, 3) := by decide +kernel
theorem dX7_scroll_41 : decode cX7_scroll 41 = .ok (.aload_n 0, 1) := by decide +kernel
theorem dX7_scroll_42 : decode cX7_scroll 42 = .ok (.getfield 12, 3) := by decide +kernel
theorem dX7_scroll_45 : decode cX7_scroll 45 = .ok (.invokevirtual 55, 3) := by decide +kernel
theorem dX7_scroll_48 : decode cX7_scroll 48 = .ok (.aload_n 0, 1) := by decide +kernel
theorem dX7_scroll_49 : decode cX7_scroll 49 = .ok (.iload_n 1, 1) := by decide +kernel
theorem dX7_scroll_50 : decode cX7_scroll 50 = .ok (.iload_n 2, 1) := by decide +kernel
theorem dX7_scroll_51 : decode cX7_scroll 51 = .ok (.invokevirtual 74, 3) := by decide +kernel
theorem dX7_scroll_54 : decode cX7_scroll 54 = .ok (.aload_n 0, 1) := by decide +kernel
theorem dX7_scroll_55 : decode cX7_scroll 55 = .ok (.getfield 26, 3) := by decide +kernel
theorem dX7_scroll_58 : decode cX7_scroll 58 = .ok (.aload_n 0, 1) := by decide +kernel
theorem dX7_scroll_59 : decode cX7_scroll 59 = .ok (.getfield 12, 3) := by decide +kernel
theorem dX7_scroll_62 : decode cX7_scroll 62 = .ok (.invokevirtual 63, 3) := by decide +kernel
theorem dX7_scroll_65 : decode cX7_scroll 65 = .ok (.ireturn, 1) := by decide +kernel
theorem dX7_anchor_0 : decode cX7_anchor 0 = .ok (.iload_n 1, 1) := by decide +kernel
theorem dX7_anchor_1 : decode cX7_anchor 1 = .ok (.sipush 1000, 3) := by decide +kernel
theorem dX7_anchor_4 : decode cX7_anchor 4 = .ok (.invokestatic 67, 3) := by decide +kernel
theorem dX7_anchor_7 : decode cX7_anchor 7 = .ok (.ifCond .eq 13, 3) := by decide +kernel
theorem dX7_anchor_10 : decode cX7_anchor 10 = .ok (.iload_n 2, 1) := by decide +kernel
theorem dX7_anchor_11 : decode cX7_anchor 11 = .ok (.sipush 1000, 3) := by decide +kernel
theorem dX7_anchor_14 : decode cX7_anchor 14 = .ok (.invokestatic 67, 3) := by decide +kernel
theorem dX7_anchor_17 : decode cX7_anchor 17 = .ok (.ifCond .ne 7, 3) := by decide +kernel
theorem dX7_anchor_20 : decode cX7_anchor 20 = .ok (.sipush (-10001), 3) := by decide +kernel
theorem dX7_anchor_23 : decode cX7_anchor 23 = .ok (.ireturn, 1) := by decide +kernel
theorem dX7_anchor_24 : decode cX7_anchor 24 = .ok (.iload_n 3, 1) := by decide +kernel
theorem dX7_anchor_25 : decode cX7_anchor 25 = .ok (.invokestatic 77, 3) := by decide +kernel
theorem dX7_anchor_28 : decode cX7_anchor 28 = .ok (.ifCond .eq 11, 3) := by decide +kernel
theorem dX7_anchor_31 : decode cX7_anchor 31 = .ok (.iload 4, 2) := by decide +kernel
theorem dX7_anchor_33 : decode cX7_anchor 33 = .ok (.invokestatic 77, 3) := by decide +kernel
theorem dX7_anchor_36 : decode cX7_anchor 36 = .ok (.ifCond .ne 7, 3) := by decide +kernel
theorem dX7_anchor_39 : decode cX7_anchor 39 = .ok (.sipush (-10001), 3) := by decide +kernel
theorem dX7_anchor_42 : decode cX7_anchor 42 = .ok (.ireturn, 1) := by decide +kernel
theorem dX7_anchor_43 : decode cX7_anchor 43 = .ok (.aload_n 0, 1) := by decide +kernel
theorem dX7_anchor_44 : decode cX7_anchor 44 = .ok (.getfield 12, 3) := by decide +kernel
theorem dX7_anchor_47 : decode cX7_anchor 47 = .ok (.iconst 4, 1) := by decide +kernel
theorem dX7_anchor_48 : decode cX7_anchor 48 = .ok (.invokevirtual 80, 3) := by decide +kernel
theorem dX7_anchor_51 : decode cX7_anchor 51 = .ok (.istore 5, 2) := by decide +kernel
theorem dX7_anchor_53 : decode cX7_anchor 53 = .ok (.iload 5, 2) := by decide +kernel
theorem dX7_anchor_55 : decode cX7_anchor 55 = .ok (.bipush 10, 2) := by decide +kernel
theorem dX7_anchor_57 : decode cX7_anchor 57 = .ok (.if_icmp .lt 7, 3) := by decide +kernel
theorem dX7_anchor_60 : decode cX7_anchor 60 = .ok (.sipush (-10003), 3) := by decide +kernel
theorem dX7_anchor_63 : decode cX7_anchor 63 = .ok (.ireturn, 1) := by decide +kernel
theorem dX7_anchor_64 : decode cX7_anchor 64 = .ok (.aload_n 0, 1) := by decide +kernel
theorem dX7_anchor_65 : decode cX7_anchor 65 = .ok (.getfield 19, 3) := by decide +kernel
theorem dX7_anchor_68 : decode cX7_anchor 68 = .ok (.aload_n 0, 1) := by decide +kernel
theorem dX7_anchor_69 : decode cX7_anchor 69 = .ok (.getfield 12, 3) := by decide +kernel
theorem dX7_anchor_72 : decode cX7_anchor 72 = .ok (.invokevirtual 55, 3) := by decide +kernel
theorem dX7_anchor_75 : decode cX7_anchor 75 = .ok (.aload_n 0, 1) := by decide +kernel
theorem dX7_anchor_76 : decode cX7_anchor 76 = .ok (.getfield 12, 3) := by decide +kernel
theorem dX7_anchor_79 : decode cX7_anchor 79 = .ok (.iconst 4, 1) := by decide +kernel
theorem dX7_anchor_80 : decode cX7_anchor 80 = .ok (.iload 5, 2) := by decide +kernel
theorem dX7_anchor_82 : decode cX7_anchor 82 = .ok (.iconst 1, 1) := by decide +kernel
theorem dX7_anchor_83 : decode cX7_anchor 83 = .ok (.iadd, 1) := by decide +kernel
theorem dX7_anchor_84 : decode cX7_anchor 84 = .ok (.invokevirtual 59, 3) := by decide +kernel
theorem dX7_anchor_87 : decode cX7_anchor 87 = .ok (.aload_n 0, 1) := by decide +kernel
theorem dX7_anchor_88 : decode cX7_anchor 88 = .ok (.getfield 12, 3) := by decide +kernel
theorem dX7_anchor_91 : decode cX7_anchor 91 = .ok (.iload 5, 2) := by decide +kernel
theorem dX7_anchor_93 : decode cX7_anchor 93 = .ok (.iconst 0, 1) := by decide +kernel
theorem dX7_anchor_94 : decode cX7_anchor 94 = .ok (.iload_n 1, 1) := by decide +kernel
theorem dX7_anchor_95 : decode cX7_anchor 95 = .ok (.invokevirtual 84, 3) := by decide +kernel
theorem dX7_anchor_98 : decode cX7_anchor 98 = .ok (.aload_n 0, 1) := by decide +kernel
theorem dX7_anchor_99 : decode cX7_anchor 99 = .ok (.getfield 12, 3) := by decide +kernel
theorem dX7_anchor_102 : decode cX7_anchor 102 = .ok (.iload 5, 2) := by decide +kernel
theorem dX7_anchor_104 : decode cX7_anchor 104 = .ok (.iconst 1, 1) := by decide +kernel
theorem dX7_anchor_105 : decode cX7_anchor 105 = .ok (.iload_n 2, 1) := by decide +kernel
theorem dX7_anchor_106 : decode cX7_anchor 106 = .ok (.invokevirtual 84, 3) := by decide +kernel
theorem dX7_anchor_109 : decode cX7_anchor 109 = .ok (.aload_n 0, 1) := by decide +kernel
theorem dX7_anchor_110 : decode cX7_anchor 110 = .ok (.getfield 12, 3) := by decide +kernel
theorem dX7_anchor_113 : decode cX7_anchor 113 = .ok (.iload 5, 2) := by decide +kernel
theorem dX7_anchor_115 : decode cX7_anchor 115 = .ok (.iconst 2, 1) := by decide +kernel
theorem dX7_anchor_116 : decode cX7_anchor 116 = .ok (.iload_n 3, 1) := by decide +kernel
theorem dX7_anchor_117 : decode cX7_anchor 117 = .ok (.invokevirtual 84, 3) := by decide +kernel
theorem dX7_anchor_120 : decode cX7_anchor 120 = .ok (.aload_n 0, 1) := by decide +kernel
theorem dX7_anchor_121 : decode cX7_anchor 121 = .ok (.getfield 12, 3) := by decide +kernel
theorem dX7_anchor_124 : decode cX7_anchor 124 = .ok (.iload 5, 2) := by decide +kernel
theorem dX7_anchor_126 : decode cX7_anchor 126 = .ok (.iconst 3, 1) := by decide +kernel
theorem dX7_anchor_127 : decode cX7_anchor 127 = .ok (.iload 4, 2) := by decide +kernel
theorem dX7_anchor_129 : decode cX7_anchor 129 = .ok (.invokevirtual 84, 3) := by decide +kernel
theorem dX7_anchor_132 : decode cX7_anchor 132 = .ok (.aload_n 0, 1) := by decide +kernel
theorem dX7_anchor_133 : decode cX7_anchor 133 = .ok (.getfield 26, 3) := by decide +kernel
theorem dX7_anchor_136 : decode cX7_anchor 136 = .ok (.aload_n 0, 1) := by decide +kernel
theorem dX7_anchor_137 : decode cX7_anchor 137 = .ok (.getfield 12, 3) := by decide +kernel
theorem dX7_anchor_140 : decode cX7_anchor 140 = .ok (.invokevirtual 63, 3) := by decide +kernel
theorem dX7_anchor_143 : decode cX7_anchor 143 = .ok (.pop, 1) := by decide +kernel
theorem dX7_anchor_144 : decode cX7_anchor 144 = .ok (.iload 5, 2) := by decide +kernel
theorem dX7_anchor_146 : decode cX7_anchor 146 = .ok (.ireturn, 1) := by decide +kernel
theorem dX7_moveAnchor_0 : decode cX7_moveAnchor 0 = .ok (.aload_n 0, 1) := by decide +kernel
theorem dX7_moveAnchor_1 : decode cX7_moveAnchor 1 = .ok (.iload_n 1, 1) := by decide +kernel
theorem dX7_moveAnchor_2 : decode cX7_moveAnchor 2 = .ok (.invokevirtual 88, 3) := by decide +kernel
theorem dX7_moveAnchor_5 : decode cX7_moveAnchor 5 = .ok (.ifCond .eq 23, 3) := by decide +kernel
theorem dX7_moveAnchor_8 : decode cX7_moveAnchor 8 = .ok (.iload_n 2, 1) := by decide +kernel
theorem dX7_moveAnchor_9 : decode cX7_moveAnchor 9 = .ok (.sipush 1000, 3) := by decide +kernel
theorem dX7_moveAnchor_12 : decode cX7_moveAnchor 12 = .ok (.invokestatic 67, 3) := by decide +kernel
theorem dX7_moveAnchor_15 : decode cX7_moveAnchor 15 = .ok (.ifCond .eq 13, 3) := by decide +kernel
theorem dX7_moveAnchor_18 : decode cX7_moveAnchor 18 = .ok (.iload_n 3, 1) := by decide +kernel
theorem dX7_moveAnchor_19 : decode cX7_moveAnchor 19 = .ok (.sipush 1000, 3) := by decide +kernel
theorem dX7_moveAnchor_22 : decode cX7_moveAnchor 22 = .ok (.invokestatic 67, 3) := by decide +kernel
theorem dX7_moveAnchor_25 : decode cX7_moveAnchor 25 = .ok (.ifCond .ne 7, 3) := by decide +kernel
theorem dX7_moveAnchor_28 : decode cX7_moveAnchor 28 = .ok (.sipush (-10001), 3) := by decide +kernel
theorem dX7_moveAnchor_31 : decode cX7_moveAnchor 31 = .ok (.ireturn, 1) := by decide +kernel
theorem dX7_moveAnchor_32 : decode cX7_moveAnchor 32 = .ok (.aload_n 0, 1) := by decide +kernel
theorem dX7_moveAnchor_33 : decode cX7_moveAnchor 33 = .ok (.getfield 19, 3) := by decide +kernel
theorem dX7_moveAnchor_36 : decode cX7_moveAnchor 36 = .ok (.aload_n 0, 1) := by decide +kernel
theorem dX7_moveAnchor_37 : decode cX7_moveAnchor 37 = .ok (.getfield 12, 3) := by decide +kernel
theorem dX7_moveAnchor_40 : decode cX7_moveAnchor 40 = .ok (.invokevirtual 55, 3) := by decide +kernel
theorem dX7_moveAnchor_43 : decode cX7_moveAnchor 43 = .ok (.aload_n 0, 1) := by decide +kernel
theorem dX7_moveAnchor_44 : decode cX7_moveAnchor 44 = .ok (.getfield 12, 3) := by decide +kernel
theorem dX7_moveAnchor_47 : decode cX7_moveAnchor 47 = .ok (.iload_n 1, 1) := by decide +kernel
theorem dX7_moveAnchor_48 : decode cX7_moveAnchor 48 = .ok (.iconst 0, 1) := by decide +kernel
theorem dX7_moveAnchor_49 : decode cX7_moveAnchor 49 = .ok (.iload_n 2, 1) := by decide +kernel
theorem dX7_moveAnchor_50 : decode cX7_moveAnchor 50 = .ok (.invokevirtual 84, 3) := by decide +kernel
theorem dX7_moveAnchor_53 : decode cX7_moveAnchor 53 = .ok (.aload_n 0, 1) := by decide +kernel
theorem dX7_moveAnchor_54 : decode cX7_moveAnchor 54 = .ok (.getfield 12, 3) := by decide +kernel
theorem dX7_moveAnchor_57 : decode cX7_moveAnchor 57 = .ok (.iload_n 1, 1) := by decide +kernel
theorem dX7_moveAnchor_58 : decode cX7_moveAnchor 58 = .ok (.iconst 1, 1) := by decide +kernel
theorem dX7_moveAnchor_59 : decode cX7_moveAnchor 59 = .ok (.iload_n 3, 1) := by decide +kernel
theorem dX7_moveAnchor_60 : decode cX7_moveAnchor 60 = .ok (.invokevirtual 84, 3) := by decide +kernel
theorem dX7_moveAnchor_63 : decode cX7_moveAnchor 63 = .ok (.aload_n 0, 1) := by decide +kernel
theorem dX7_moveAnchor_64 : decode cX7_moveAnchor 64 = .ok (.getfield 26, 3) := by decide +kernel
theorem dX7_moveAnchor_67 : decode cX7_moveAnchor 67 = .ok (.aload_n 0, 1) := by decide +kernel
theorem dX7_moveAnchor_68 : decode cX7_moveAnchor 68 = .ok (.getfield 12, 3) := by decide +kernel
theorem dX7_moveAnchor_71 : decode cX7_moveAnchor 71 = .ok (.invokevirtual 63, 3) := by decide +kernel
theorem dX7_moveAnchor_74 : decode cX7_moveAnchor 74 = .ok (.ireturn, 1) := by decide +kernel
theorem dX7_anchorOf_0 : decode cX7_anchorOf 0 = .ok (.aload_n 0, 1) := by decide +kernel
theorem dX7_anchorOf_1 : decode cX7_anchorOf 1 = .ok (.iload_n 1, 1) := by decide +kernel
theorem dX7_anchorOf_2 : decode cX7_anchorOf 2 = .ok (.invokevirtual 88, 3) := by decide +kernel
theorem dX7_anchorOf_5 : decode cX7_anchorOf 5 = .ok (.ifCond .ne 7, 3) := by decide +kernel
theorem dX7_anchorOf_8 : decode cX7_anchorOf 8 = .ok (.sipush (-10001), 3) := by decide +kernel
theorem dX7_anchorOf_11 : decode cX7_anchorOf 11 = .ok (.ireturn, 1) := by decide +kernel
theorem dX7_anchorOf_12 : decode cX7_anchorOf 12 = .ok (.iload_n 2, 1) := by decide +kernel
theorem dX7_anchorOf_13 : decode cX7_anchorOf 13 = .ok (.tableswitch 84 0 6 #[43, 43, 43, 43, 53, 70, 77], 43) := by decide +kernel
theorem dX7_anchorOf_56 : decode cX7_anchorOf 56 = .ok (.aload_n 0, 1) := by decide +kernel
theorem dX7_anchorOf_57 : decode cX7_anchorOf 57 = .ok (.getfield 12, 3) := by decide +kernel
theorem dX7_anchorOf_60 : decode cX7_anchorOf 60 = .ok (.iload_n 1, 1) := by decide +kernel
theorem dX7_anchorOf_61 : decode cX7_anchorOf 61 = .ok (.iload_n 2, 1) := by decide +kernel
theorem dX7_anchorOf_62 : decode cX7_anchorOf 62 = .ok (.invokevirtual 91, 3) := by decide +kernel
theorem dX7_anchorOf_65 : decode cX7_anchorOf 65 = .ok (.ireturn, 1) := by decide +kernel
theorem dX7_anchorOf_66 : decode cX7_anchorOf 66 = .ok (.aload_n 0, 1) := by decide +kernel
theorem dX7_anchorOf_67 : decode cX7_anchorOf 67 = .ok (.getfield 12, 3) := by decide +kernel
theorem dX7_anchorOf_70 : decode cX7_anchorOf 70 = .ok (.iload_n 1, 1) := by decide +kernel
theorem dX7_anchorOf_71 : decode cX7_anchorOf 71 = .ok (.invokevirtual 95, 3) := by decide +kernel
theorem dX7_anchorOf_74 : decode cX7_anchorOf 74 = .ok (.ifCond .eq 7, 3) := by decide +kernel
theorem dX7_anchorOf_77 : decode cX7_anchorOf 77 = .ok (.iconst 1, 1) := by decide +kernel
theorem dX7_anchorOf_78 : decode cX7_anchorOf 78 = .ok (.goto 4, 3) := by decide +kernel
theorem dX7_anchorOf_81 : decode cX7_anchorOf 81 = .ok (.iconst 0, 1) := by decide +kernel
theorem dX7_anchorOf_82 : decode cX7_anchorOf 82 = .ok (.ireturn, 1) := by decide +kernel
theorem dX7_anchorOf_83 : decode cX7_anchorOf 83 = .ok (.aload_n 0, 1) := by decide +kernel
theorem dX7_anchorOf_84 : decode cX7_anchorOf 84 = .ok (.iload_n 1, 1) := by decide +kernel
theorem dX7_anchorOf_85 : decode cX7_anchorOf 85 = .ok (.iconst 0, 1) := by decide +kernel
theorem dX7_anchorOf_86 : decode cX7_anchorOf 86 = .ok (.invokevirtual 98, 3) := by decide +kernel
theorem dX7_anchorOf_89 : decode cX7_anchorOf 89 = .ok (.ireturn, 1) := by decide +kernel
theorem dX7_anchorOf_90 : decode cX7_anchorOf 90 = .ok (.aload_n 0, 1) := by decide +kernel
theorem dX7_anchorOf_91 : decode cX7_anchorOf 91 = .ok (.iload_n 1, 1) := by decide +kernel
theorem dX7_anchorOf_92 : decode cX7_anchorOf 92 = .ok (.iconst 1, 1) := by decide +kernel
theorem dX7_anchorOf_93 : decode cX7_anchorOf 93 = .ok (.invokevirtual 98, 3) := by decide +kernel
theorem dX7_anchorOf_96 : decode cX7_anchorOf 96 = .ok (.ireturn, 1) := by decide +kernel
theorem dX7_anchorOf_97 : decode cX7_anchorOf 97 = .ok (.sipush (-10001), 3) := by decide +kernel
theorem dX7_anchorOf_100 : decode cX7_anchorOf 100 = .ok (.ireturn, 1) := by decide +kernel
theorem dX7_set_0 : decode cX7_set 0 = .ok (.iload_n 1, 1) := by decide +kernel
theorem dX7_set_1 : decode cX7_set 1 = .ok (.ifCond .lt 24, 3) := by decide +kernel
theorem dX7_set_4 : decode cX7_set 4 = .ok (.iload_n 1, 1) := by decide +kernel
theorem dX7_set_5 : decode cX7_set 5 = .ok (.iconst 5, 1) := by decide +kernel
theorem dX7_set_6 : decode cX7_set 6 = .ok (.if_icmp .ge 19, 3) := by decide +kernel
theorem dX7_set_9 : decode cX7_set 9 = .ok (.iload_n 2, 1) := by decide +kernel
theorem dX7_set_10 : decode cX7_set 10 = .ok (.iload_n 1, 1) := by decide +kernel
theorem dX7_set_11 : decode cX7_set 11 = .ok (.invokestatic 102, 3) := by decide +kernel
theorem dX7_set_14 : decode cX7_set 14 = .ok (.if_icmp .lt 11, 3) := by decide +kernel
theorem dX7_set_17 : decode cX7_set 17 = .ok (.iload_n 2, 1) := by decide +kernel
theorem dX7_set_18 : decode cX7_set 18 = .ok (.iload_n 1, 1) := by decide +kernel
theorem dX7_set_19 : decode cX7_set 19 = .ok (.invokestatic 105, 3) := by decide +kernel
theorem dX7_set_22 : decode cX7_set 22 = .ok (.if_icmp .le 7, 3) := by decide +kernel
theorem dX7_set_25 : decode cX7_set 25 = .ok (.sipush (-10001), 3) := by decide +kernel
theorem dX7_set_28 : decode cX7_set 28 = .ok (.ireturn, 1) := by decide +kernel
theorem dX7_set_29 : decode cX7_set 29 = .ok (.aload_n 0, 1) := by decide +kernel
theorem dX7_set_30 : decode cX7_set 30 = .ok (.getfield 12, 3) := by decide +kernel
theorem dX7_set_33 : decode cX7_set 33 = .ok (.iload_n 1, 1) := by decide +kernel
theorem dX7_set_34 : decode cX7_set 34 = .ok (.invokevirtual 108, 3) := by decide +kernel
theorem dX7_set_37 : decode cX7_set 37 = .ok (.istore_n 3, 1) := by decide +kernel
theorem dX7_set_38 : decode cX7_set 38 = .ok (.aload_n 0, 1) := by decide +kernel
theorem dX7_set_39 : decode cX7_set 39 = .ok (.getfield 19, 3) := by decide +kernel
theorem dX7_set_42 : decode cX7_set 42 = .ok (.aload_n 0, 1) := by decide +kernel
theorem dX7_set_43 : decode cX7_set 43 = .ok (.getfield 12, 3) := by decide +kernel
theorem dX7_set_46 : decode cX7_set 46 = .ok (.invokevirtual 55, 3) := by decide +kernel
theorem dX7_set_49 : decode cX7_set 49 = .ok (.aload_n 0, 1) := by decide +kernel
theorem dX7_set_50 : decode cX7_set 50 = .ok (.getfield 12, 3) := by decide +kernel
theorem dX7_set_53 : decode cX7_set 53 = .ok (.bipush 7, 2) := by decide +kernel
theorem dX7_set_55 : decode cX7_set 55 = .ok (.iload_n 1, 1) := by decide +kernel
theorem dX7_set_56 : decode cX7_set 56 = .ok (.iadd, 1) := by decide +kernel
theorem dX7_set_57 : decode cX7_set 57 = .ok (.iload_n 2, 1) := by decide +kernel
theorem dX7_set_58 : decode cX7_set 58 = .ok (.invokevirtual 59, 3) := by decide +kernel
theorem dX7_set_61 : decode cX7_set 61 = .ok (.aload_n 0, 1) := by decide +kernel
theorem dX7_set_62 : decode cX7_set 62 = .ok (.getfield 26, 3) := by decide +kernel
theorem dX7_set_65 : decode cX7_set 65 = .ok (.aload_n 0, 1) := by decide +kernel
theorem dX7_set_66 : decode cX7_set 66 = .ok (.getfield 12, 3) := by decide +kernel
theorem dX7_set_69 : decode cX7_set 69 = .ok (.invokevirtual 63, 3) := by decide +kernel
theorem dX7_set_72 : decode cX7_set 72 = .ok (.pop, 1) := by decide +kernel
theorem dX7_set_73 : decode cX7_set 73 = .ok (.iload_n 3, 1) := by decide +kernel
theorem dX7_set_74 : decode cX7_set 74 = .ok (.ireturn, 1) := by decide +kernel
theorem dX7_count_0 : decode cX7_count 0 = .ok (.iload_n 1, 1) := by decide +kernel
theorem dX7_count_1 : decode cX7_count 1 = .ok (.bipush 11, 2) := by decide +kernel
theorem dX7_count_3 : decode cX7_count 3 = .ok (.if_icmp .lt 21, 3) := by decide +kernel
theorem dX7_count_6 : decode cX7_count 6 = .ok (.iload_n 1, 1) := by decide +kernel
theorem dX7_count_7 : decode cX7_count 7 = .ok (.bipush 16, 2) := by decide +kernel
theorem dX7_count_9 : decode cX7_count 9 = .ok (.if_icmp .ge 15, 3) := by decide +kernel
theorem dX7_count_12 : decode cX7_count 12 = .ok (.aload_n 0, 1) := by decide +kernel
theorem dX7_count_13 : decode cX7_count 13 = .ok (.getfield 12, 3) := by decide +kernel
theorem dX7_count_16 : decode cX7_count 16 = .ok (.iload_n 1, 1) := by decide +kernel
theorem dX7_count_17 : decode cX7_count 17 = .ok (.bipush 11, 2) := by decide +kernel
theorem dX7_count_19 : decode cX7_count 19 = .ok (.isub, 1) := by decide +kernel
theorem dX7_count_20 : decode cX7_count 20 = .ok (.invokevirtual 108, 3) := by decide +kernel
theorem dX7_count_23 : decode cX7_count 23 = .ok (.ireturn, 1) := by decide +kernel
theorem dX7_count_24 : decode cX7_count 24 = .ok (.iload_n 1, 1) := by decide +kernel
theorem dX7_count_25 : decode cX7_count 25 = .ok (.tableswitch 188 0 17 #[87, 96, 105, 114, 123, 132, 141, 146, 154, 159, 167, 188, 188, 188, 188, 188, 175, 180], 87) := by decide +kernel
theorem dX7_count_112 : decode cX7_count 112 = .ok (.aload_n 0, 1) := by decide +kernel
theorem dX7_count_113 : decode cX7_count 113 = .ok (.getfield 12, 3) := by decide +kernel
theorem dX7_count_116 : decode cX7_count 116 = .ok (.iconst 0, 1) := by decide +kernel
theorem dX7_count_117 : decode cX7_count 117 = .ok (.invokevirtual 80, 3) := by decide +kernel
theorem dX7_count_120 : decode cX7_count 120 = .ok (.ireturn, 1) := by decide +kernel
theorem dX7_count_121 : decode cX7_count 121 = .ok (.aload_n 0, 1) := by decide +kernel
theorem dX7_count_122 : decode cX7_count 122 = .ok (.getfield 12, 3) := by decide +kernel
theorem dX7_count_125 : decode cX7_count 125 = .ok (.iconst 1, 1) := by decide +kernel
theorem dX7_count_126 : decode cX7_count 126 = .ok (.invokevirtual 80, 3) := by decide +kernel
theorem dX7_count_129 : decode cX7_count 129 = .ok (.ireturn, 1) := by decide +kernel
theorem dX7_count_130 : decode cX7_count 130 = .ok (.aload_n 0, 1) := by decide +kernel
theorem dX7_count_131 : decode cX7_count 131 = .ok (.getfield 12, 3) := by decide +kernel
theorem dX7_count_134 : decode cX7_count 134 = .ok (.iconst 2, 1) := by decide +kernel
theorem dX7_count_135 : decode cX7_count 135 = .ok (.invokevirtual 80, 3) := by decide +kernel
theorem dX7_count_138 : decode cX7_count 138 = .ok (.ireturn, 1) := by decide +kernel
theorem dX7_count_139 : decode cX7_count 139 = .ok (.aload_n 0, 1) := by decide +kernel
theorem dX7_count_140 : decode cX7_count 140 = .ok (.getfield 12, 3) := by decide +kernel
theorem dX7_count_143 : decode cX7_count 143 = .ok (.iconst 3, 1) := by decide +kernel
theorem dX7_count_144 : decode cX7_count 144 = .ok (.invokevirtual 80, 3) := by decide +kernel
theorem dX7_count_147 : decode cX7_count 147 = .ok (.ireturn, 1) := by decide +kernel
theorem dX7_count_148 : decode cX7_count 148 = .ok (.aload_n 0, 1) := by decide +kernel
theorem dX7_count_149 : decode cX7_count 149 = .ok (.getfield 12, 3) := by decide +kernel
theorem dX7_count_152 : decode cX7_count 152 = .ok (.iconst 4, 1) := by decide +kernel
theorem dX7_count_153 : decode cX7_count 153 = .ok (.invokevirtual 80, 3) := by decide +kernel
theorem dX7_count_156 : decode cX7_count 156 = .ok (.ireturn, 1) := by decide +kernel
theorem dX7_count_157 : decode cX7_count 157 = .ok (.aload_n 0, 1) := by decide +kernel
theorem dX7_count_158 : decode cX7_count 158 = .ok (.getfield 12, 3) := by decide +kernel
theorem dX7_count_161 : decode cX7_count 161 = .ok (.iconst 5, 1) := by decide +kernel
theorem dX7_count_162 : decode cX7_count 162 = .ok (.invokevirtual 80, 3) := by decide +kernel
theorem dX7_count_165 : decode cX7_count 165 = .ok (.ireturn, 1) := by decide +kernel
theorem dX7_count_166 : decode cX7_count 166 = .ok (.aload_n 0, 1) := by decide +kernel
theorem dX7_count_167 : decode cX7_count 167 = .ok (.invokevirtual 111, 3) := by decide +kernel
theorem dX7_count_170 : decode cX7_count 170 = .ok (.ireturn, 1) := by decide +kernel
theorem dX7_count_171 : decode cX7_count 171 = .ok (.aload_n 0, 1) := by decide +kernel
theorem dX7_count_172 : decode cX7_count 172 = .ok (.getfield 26, 3) := by decide +kernel
theorem dX7_count_175 : decode cX7_count 175 = .ok (.getfield 115, 3) := by decide +kernel
theorem dX7_count_178 : decode cX7_count 178 = .ok (.ireturn, 1) := by decide +kernel
theorem dX7_count_179 : decode cX7_count 179 = .ok (.aload_n 0, 1) := by decide +kernel
theorem dX7_count_180 : decode cX7_count 180 = .ok (.invokevirtual 119, 3) := by decide +kernel
theorem dX7_count_183 : decode cX7_count 183 = .ok (.ireturn, 1) := by decide +kernel
theorem dX7_count_184 : decode cX7_count 184 = .ok (.aload_n 0, 1) := by decide +kernel
theorem dX7_count_185 : decode cX7_count 185 = .ok (.getfield 19, 3) := by decide +kernel
theorem dX7_count_188 : decode cX7_count 188 = .ok (.getfield 122, 3) := by decide +kernel
theorem dX7_count_191 : decode cX7_count 191 = .ok (.ireturn, 1) := by decide +kernel
theorem dX7_count_192 : decode cX7_count 192 = .ok (.aload_n 0, 1) := by decide +kernel
theorem dX7_count_193 : decode cX7_count 193 = .ok (.getfield 33, 3) := by decide +kernel
theorem dX7_count_196 : decode cX7_count 196 = .ok (.getfield 125, 3) := by decide +kernel
theorem dX7_count_199 : decode cX7_count 199 = .ok (.ireturn, 1) := by decide +kernel
theorem dX7_count_200 : decode cX7_count 200 = .ok (.aload_n 0, 1) := by decide +kernel
theorem dX7_count_201 : decode cX7_count 201 = .ok (.invokevirtual 128, 3) := by decide +kernel
theorem dX7_count_204 : decode cX7_count 204 = .ok (.ireturn, 1) := by decide +kernel
theorem dX7_count_205 : decode cX7_count 205 = .ok (.aload_n 0, 1) := by decide +kernel
theorem dX7_count_206 : decode cX7_count 206 = .ok (.getfield 26, 3) := by decide +kernel
theorem dX7_count_209 : decode cX7_count 209 = .ok (.getfield 115, 3) := by decide +kernel
theorem dX7_count_212 : decode cX7_count 212 = .ok (.ireturn, 1) := by decide +kernel
theorem dX7_count_213 : decode cX7_count 213 = .ok (.sipush (-10001), 3) := by decide +kernel
theorem dX7_count_216 : decode cX7_count 216 = .ok (.ireturn, 1) := by decide +kernel
theorem dX7_hint_0 : decode cX7_hint 0 = .ok (.aload_n 0, 1) := by decide +kernel
theorem dX7_hint_1 : decode cX7_hint 1 = .ok (.iload_n 1, 1) := by decide +kernel
theorem dX7_hint_2 : decode cX7_hint 2 = .ok (.invokevirtual 88, 3) := by decide +kernel
theorem dX7_hint_5 : decode cX7_hint 5 = .ok (.ifCond .eq 17, 3) := by decide +kernel
theorem dX7_hint_8 : decode cX7_hint 8 = .ok (.iload_n 2, 1) := by decide +kernel
theorem dX7_hint_9 : decode cX7_hint 9 = .ok (.invokestatic 77, 3) := by decide +kernel
theorem dX7_hint_12 : decode cX7_hint 12 = .ok (.ifCond .eq 10, 3) := by decide +kernel
theorem dX7_hint_15 : decode cX7_hint 15 = .ok (.iload_n 3, 1) := by decide +kernel
theorem dX7_hint_16 : decode cX7_hint 16 = .ok (.invokestatic 77, 3) := by decide +kernel
theorem dX7_hint_19 : decode cX7_hint 19 = .ok (.ifCond .ne 7, 3) := by decide +kernel
theorem dX7_hint_22 : decode cX7_hint 22 = .ok (.sipush (-10001), 3) := by decide +kernel
theorem dX7_hint_25 : decode cX7_hint 25 = .ok (.ireturn, 1) := by decide +kernel
theorem dX7_hint_26 : decode cX7_hint 26 = .ok (.iload 4, 2) := by decide +kernel
theorem dX7_hint_28 : decode cX7_hint 28 = .ok (.invokestatic 131, 3) := by decide +kernel
theorem dX7_hint_31 : decode cX7_hint 31 = .ok (.ifCond .eq 18, 3) := by decide +kernel
theorem dX7_hint_34 : decode cX7_hint 34 = .ok (.iload 5, 2) := by decide +kernel
theorem dX7_hint_36 : decode cX7_hint 36 = .ok (.ifCond .lt 13, 3) := by decide +kernel
theorem dX7_hint_39 : decode cX7_hint 39 = .ok (.iload 5, 2) := by decide +kernel
theorem dX7_hint_41 : decode cX7_hint 41 = .ok (.aload_n 0, 1) := by decide +kernel
theorem dX7_hint_42 : decode cX7_hint 42 = .ok (.iconst 4, 1) := by decide +kernel
theorem dX7_hint_43 : decode cX7_hint 43 = .ok (.invokevirtual 134, 3) := by decide +kernel
theorem dX7_hint_46 : decode cX7_hint 46 = .ok (.if_icmp .le 7, 3) := by decide +kernel
theorem dX7_hint_49 : decode cX7_hint 49 = .ok (.sipush (-10001), 3) := by decide +kernel
theorem dX7_hint_52 : decode cX7_hint 52 = .ok (.ireturn, 1) := by decide +kernel
theorem dX7_hint_53 : decode cX7_hint 53 = .ok (.aload_n 0, 1) := by decide +kernel
theorem dX7_hint_54 : decode cX7_hint 54 = .ok (.getfield 12, 3) := by decide +kernel
theorem dX7_hint_57 : decode cX7_hint 57 = .ok (.iconst 5, 1) := by decide +kernel
theorem dX7_hint_58 : decode cX7_hint 58 = .ok (.invokevirtual 80, 3) := by decide +kernel
theorem dX7_hint_61 : decode cX7_hint 61 = .ok (.istore 6, 2) := by decide +kernel
theorem dX7_hint_63 : decode cX7_hint 63 = .ok (.iload 6, 2) := by decide +kernel
theorem dX7_hint_65 : decode cX7_hint 65 = .ok (.bipush 12, 2) := by decide +kernel
theorem dX7_hint_67 : decode cX7_hint 67 = .ok (.if_icmp .lt 7, 3) := by decide +kernel
theorem dX7_hint_70 : decode cX7_hint 70 = .ok (.sipush (-10003), 3) := by decide +kernel
theorem dX7_hint_73 : decode cX7_hint 73 = .ok (.ireturn, 1) := by decide +kernel
theorem dX7_hint_74 : decode cX7_hint 74 = .ok (.aload_n 0, 1) := by decide +kernel
theorem dX7_hint_75 : decode cX7_hint 75 = .ok (.getfield 19, 3) := by decide +kernel
theorem dX7_hint_78 : decode cX7_hint 78 = .ok (.aload_n 0, 1) := by decide +kernel
theorem dX7_hint_79 : decode cX7_hint 79 = .ok (.getfield 12, 3) := by decide +kernel
theorem dX7_hint_82 : decode cX7_hint 82 = .ok (.invokevirtual 55, 3) := by decide +kernel
theorem dX7_hint_85 : decode cX7_hint 85 = .ok (.aload_n 0, 1) := by decide +kernel
theorem dX7_hint_86 : decode cX7_hint 86 = .ok (.getfield 12, 3) := by decide +kernel
theorem dX7_hint_89 : decode cX7_hint 89 = .ok (.iconst 5, 1) := by decide +kernel
theorem dX7_hint_90 : decode cX7_hint 90 = .ok (.iload 6, 2) := by decide +kernel
theorem dX7_hint_92 : decode cX7_hint 92 = .ok (.iconst 1, 1) := by decide +kernel
theorem dX7_hint_93 : decode cX7_hint 93 = .ok (.iadd, 1) := by decide +kernel
theorem dX7_hint_94 : decode cX7_hint 94 = .ok (.invokevirtual 59, 3) := by decide +kernel
theorem dX7_hint_97 : decode cX7_hint 97 = .ok (.aload_n 0, 1) := by decide +kernel
theorem dX7_hint_98 : decode cX7_hint 98 = .ok (.getfield 12, 3) := by decide +kernel
theorem dX7_hint_101 : decode cX7_hint 101 = .ok (.iload 6, 2) := by decide +kernel
theorem dX7_hint_103 : decode cX7_hint 103 = .ok (.iconst 0, 1) := by decide +kernel
theorem dX7_hint_104 : decode cX7_hint 104 = .ok (.iload_n 1, 1) := by decide +kernel
theorem dX7_hint_105 : decode cX7_hint 105 = .ok (.invokevirtual 137, 3) := by decide +kernel
theorem dX7_hint_108 : decode cX7_hint 108 = .ok (.aload_n 0, 1) := by decide +kernel
theorem dX7_hint_109 : decode cX7_hint 109 = .ok (.getfield 12, 3) := by decide +kernel
theorem dX7_hint_112 : decode cX7_hint 112 = .ok (.iload 6, 2) := by decide +kernel
theorem dX7_hint_114 : decode cX7_hint 114 = .ok (.iconst 1, 1) := by decide +kernel
theorem dX7_hint_115 : decode cX7_hint 115 = .ok (.iload_n 2, 1) := by decide +kernel
theorem dX7_hint_116 : decode cX7_hint 116 = .ok (.invokevirtual 137, 3) := by decide +kernel
theorem dX7_hint_119 : decode cX7_hint 119 = .ok (.aload_n 0, 1) := by decide +kernel
theorem dX7_hint_120 : decode cX7_hint 120 = .ok (.getfield 12, 3) := by decide +kernel
theorem dX7_hint_123 : decode cX7_hint 123 = .ok (.iload 6, 2) := by decide +kernel
theorem dX7_hint_125 : decode cX7_hint 125 = .ok (.iconst 2, 1) := by decide +kernel
theorem dX7_hint_126 : decode cX7_hint 126 = .ok (.iload_n 3, 1) := by decide +kernel
theorem dX7_hint_127 : decode cX7_hint 127 = .ok (.invokevirtual 137, 3) := by decide +kernel
theorem dX7_hint_130 : decode cX7_hint 130 = .ok (.aload_n 0, 1) := by decide +kernel
theorem dX7_hint_131 : decode cX7_hint 131 = .ok (.getfield 12, 3) := by decide +kernel
theorem dX7_hint_134 : decode cX7_hint 134 = .ok (.iload 6, 2) := by decide +kernel
theorem dX7_hint_136 : decode cX7_hint 136 = .ok (.iconst 3, 1) := by decide +kernel
theorem dX7_hint_137 : decode cX7_hint 137 = .ok (.iload 4, 2) := by decide +kernel
theorem dX7_hint_139 : decode cX7_hint 139 = .ok (.invokevirtual 137, 3) := by decide +kernel
theorem dX7_hint_142 : decode cX7_hint 142 = .ok (.aload_n 0, 1) := by decide +kernel
theorem dX7_hint_143 : decode cX7_hint 143 = .ok (.getfield 12, 3) := by decide +kernel
theorem dX7_hint_146 : decode cX7_hint 146 = .ok (.iload 6, 2) := by decide +kernel
theorem dX7_hint_148 : decode cX7_hint 148 = .ok (.iconst 4, 1) := by decide +kernel
theorem dX7_hint_149 : decode cX7_hint 149 = .ok (.iload 5, 2) := by decide +kernel
theorem dX7_hint_151 : decode cX7_hint 151 = .ok (.invokevirtual 137, 3) := by decide +kernel
theorem dX7_hint_154 : decode cX7_hint 154 = .ok (.aload_n 0, 1) := by decide +kernel
theorem dX7_hint_155 : decode cX7_hint 155 = .ok (.getfield 12, 3) := by decide +kernel
theorem dX7_hint_158 : decode cX7_hint 158 = .ok (.iload 6, 2) := by decide +kernel
theorem dX7_hint_160 : decode cX7_hint 160 = .ok (.iconst 5, 1) := by decide +kernel
theorem dX7_hint_161 : decode cX7_hint 161 = .ok (.iconst 0, 1) := by decide +kernel
theorem dX7_hint_162 : decode cX7_hint 162 = .ok (.invokevirtual 137, 3) := by decide +kernel
theorem dX7_hint_165 : decode cX7_hint 165 = .ok (.aload_n 0, 1) := by decide +kernel
theorem dX7_hint_166 : decode cX7_hint 166 = .ok (.getfield 12, 3) := by decide +kernel
theorem dX7_hint_169 : decode cX7_hint 169 = .ok (.iload 6, 2) := by decide +kernel
theorem dX7_hint_171 : decode cX7_hint 171 = .ok (.bipush 6, 2) := by decide +kernel
theorem dX7_hint_173 : decode cX7_hint 173 = .ok (.iconst 0, 1) := by decide +kernel
theorem dX7_hint_174 : decode cX7_hint 174 = .ok (.invokevirtual 137, 3) := by decide +kernel
theorem dX7_hint_177 : decode cX7_hint 177 = .ok (.aload_n 0, 1) := by decide +kernel
theorem dX7_hint_178 : decode cX7_hint 178 = .ok (.getfield 12, 3) := by decide +kernel
theorem dX7_hint_181 : decode cX7_hint 181 = .ok (.iload 6, 2) := by decide +kernel
theorem dX7_hint_183 : decode cX7_hint 183 = .ok (.bipush 7, 2) := by decide +kernel
theorem dX7_hint_185 : decode cX7_hint 185 = .ok (.iconst 0, 1) := by decide +kernel
theorem dX7_hint_186 : decode cX7_hint 186 = .ok (.invokevirtual 137, 3) := by decide +kernel
theorem dX7_hint_189 : decode cX7_hint 189 = .ok (.aload_n 0, 1) := by decide +kernel
theorem dX7_hint_190 : decode cX7_hint 190 = .ok (.getfield 12, 3) := by decide +kernel
theorem dX7_hint_193 : decode cX7_hint 193 = .ok (.iload 6, 2) := by decide +kernel
theorem dX7_hint_195 : decode cX7_hint 195 = .ok (.bipush 8, 2) := by decide +kernel
theorem dX7_hint_197 : decode cX7_hint 197 = .ok (.iconst 0, 1) := by decide +kernel
theorem dX7_hint_198 : decode cX7_hint 198 = .ok (.invokevirtual 137, 3) := by decide +kernel
theorem dX7_hint_201 : decode cX7_hint 201 = .ok (.aload_n 0, 1) := by decide +kernel
theorem dX7_hint_202 : decode cX7_hint 202 = .ok (.getfield 12, 3) := by decide +kernel
theorem dX7_hint_205 : decode cX7_hint 205 = .ok (.iload 6, 2) := by decide +kernel
theorem dX7_hint_207 : decode cX7_hint 207 = .ok (.bipush 9, 2) := by decide +kernel
theorem dX7_hint_209 : decode cX7_hint 209 = .ok (.iconst (-1), 1) := by decide +kernel
theorem dX7_hint_210 : decode cX7_hint 210 = .ok (.invokevirtual 137, 3) := by decide +kernel
theorem dX7_hint_213 : decode cX7_hint 213 = .ok (.aload_n 0, 1) := by decide +kernel
theorem dX7_hint_214 : decode cX7_hint 214 = .ok (.getfield 26, 3) := by decide +kernel
theorem dX7_hint_217 : decode cX7_hint 217 = .ok (.aload_n 0, 1) := by decide +kernel
theorem dX7_hint_218 : decode cX7_hint 218 = .ok (.getfield 12, 3) := by decide +kernel
theorem dX7_hint_221 : decode cX7_hint 221 = .ok (.invokevirtual 63, 3) := by decide +kernel
theorem dX7_hint_224 : decode cX7_hint 224 = .ok (.pop, 1) := by decide +kernel
theorem dX7_hint_225 : decode cX7_hint 225 = .ok (.iload 6, 2) := by decide +kernel
theorem dX7_hint_227 : decode cX7_hint 227 = .ok (.ireturn, 1) := by decide +kernel
theorem dX7_alter_0 : decode cX7_alter 0 = .ok (.aload_n 0, 1) := by decide +kernel
theorem dX7_alter_1 : decode cX7_alter 1 = .ok (.iload_n 1, 1) := by decide +kernel
theorem dX7_alter_2 : decode cX7_alter 2 = .ok (.invokevirtual 140, 3) := by decide +kernel
theorem dX7_alter_5 : decode cX7_alter 5 = .ok (.ifCond .eq 13, 3) := by decide +kernel
theorem dX7_alter_8 : decode cX7_alter 8 = .ok (.iload_n 2, 1) := by decide +kernel
theorem dX7_alter_9 : decode cX7_alter 9 = .ok (.ifCond .lt 9, 3) := by decide +kernel
theorem dX7_alter_12 : decode cX7_alter 12 = .ok (.iload_n 2, 1) := by decide +kernel
theorem dX7_alter_13 : decode cX7_alter 13 = .ok (.bipush 8, 2) := by decide +kernel
theorem dX7_alter_15 : decode cX7_alter 15 = .ok (.if_icmp .lt 7, 3) := by decide +kernel
theorem dX7_alter_18 : decode cX7_alter 18 = .ok (.sipush (-10001), 3) := by decide +kernel
theorem dX7_alter_21 : decode cX7_alter 21 = .ok (.ireturn, 1) := by decide +kernel
theorem dX7_alter_22 : decode cX7_alter 22 = .ok (.iload_n 3, 1) := by decide +kernel
theorem dX7_alter_23 : decode cX7_alter 23 = .ok (.iload_n 2, 1) := by decide +kernel
theorem dX7_alter_24 : decode cX7_alter 24 = .ok (.invokestatic 143, 3) := by decide +kernel
theorem dX7_alter_27 : decode cX7_alter 27 = .ok (.if_icmp .lt 12, 3) := by decide +kernel
theorem dX7_alter_30 : decode cX7_alter 30 = .ok (.iload_n 3, 1) := by decide +kernel
theorem dX7_alter_31 : decode cX7_alter 31 = .ok (.aload_n 0, 1) := by decide +kernel
theorem dX7_alter_32 : decode cX7_alter 32 = .ok (.iload_n 2, 1) := by decide +kernel
theorem dX7_alter_33 : decode cX7_alter 33 = .ok (.invokevirtual 134, 3) := by decide +kernel
theorem dX7_alter_36 : decode cX7_alter 36 = .ok (.if_icmp .le 7, 3) := by decide +kernel
theorem dX7_alter_39 : decode cX7_alter 39 = .ok (.sipush (-10001), 3) := by decide +kernel
theorem dX7_alter_42 : decode cX7_alter 42 = .ok (.ireturn, 1) := by decide +kernel
theorem dX7_alter_43 : decode cX7_alter 43 = .ok (.aload_n 0, 1) := by decide +kernel
theorem dX7_alter_44 : decode cX7_alter 44 = .ok (.getfield 12, 3) := by decide +kernel
theorem dX7_alter_47 : decode cX7_alter 47 = .ok (.iload_n 1, 1) := by decide +kernel
theorem dX7_alter_48 : decode cX7_alter 48 = .ok (.iload_n 2, 1) := by decide +kernel
theorem dX7_alter_49 : decode cX7_alter 49 = .ok (.invokevirtual 146, 3) := by decide +kernel
theorem dX7_alter_52 : decode cX7_alter 52 = .ok (.istore 4, 2) := by decide +kernel
theorem dX7_alter_54 : decode cX7_alter 54 = .ok (.aload_n 0, 1) := by decide +kernel
theorem dX7_alter_55 : decode cX7_alter 55 = .ok (.getfield 19, 3) := by decide +kernel
theorem dX7_alter_58 : decode cX7_alter 58 = .ok (.aload_n 0, 1) := by decide +kernel
theorem dX7_alter_59 : decode cX7_alter 59 = .ok (.getfield 12, 3) := by decide +kernel
theorem dX7_alter_62 : decode cX7_alter 62 = .ok (.invokevirtual 55, 3) := by decide +kernel
theorem dX7_alter_65 : decode cX7_alter 65 = .ok (.aload_n 0, 1) := by decide +kernel
theorem dX7_alter_66 : decode cX7_alter 66 = .ok (.getfield 12, 3) := by decide +kernel
theorem dX7_alter_69 : decode cX7_alter 69 = .ok (.iload_n 1, 1) := by decide +kernel
theorem dX7_alter_70 : decode cX7_alter 70 = .ok (.iload_n 2, 1) := by decide +kernel
theorem dX7_alter_71 : decode cX7_alter 71 = .ok (.iload_n 3, 1) := by decide +kernel
theorem dX7_alter_72 : decode cX7_alter 72 = .ok (.invokevirtual 137, 3) := by decide +kernel
theorem dX7_alter_75 : decode cX7_alter 75 = .ok (.iload_n 2, 1) := by decide +kernel
theorem dX7_alter_76 : decode cX7_alter 76 = .ok (.ifCond .eq 8, 3) := by decide +kernel
theorem dX7_alter_79 : decode cX7_alter 79 = .ok (.iload_n 2, 1) := by decide +kernel
theorem dX7_alter_80 : decode cX7_alter 80 = .ok (.iconst 3, 1) := by decide +kernel
theorem dX7_alter_81 : decode cX7_alter 81 = .ok (.if_icmp .ne 14, 3) := by decide +kernel
theorem dX7_alter_84 : decode cX7_alter 84 = .ok (.aload_n 0, 1) := by decide +kernel
theorem dX7_alter_85 : decode cX7_alter 85 = .ok (.getfield 12, 3) := by decide +kernel
theorem dX7_alter_88 : decode cX7_alter 88 = .ok (.iload_n 1, 1) := by decide +kernel
theorem dX7_alter_89 : decode cX7_alter 89 = .ok (.bipush 9, 2) := by decide +kernel
theorem dX7_alter_91 : decode cX7_alter 91 = .ok (.iconst (-1), 1) := by decide +kernel
theorem dX7_alter_92 : decode cX7_alter 92 = .ok (.invokevirtual 137, 3) := by decide +kernel
theorem dX7_alter_95 : decode cX7_alter 95 = .ok (.aload_n 0, 1) := by decide +kernel
theorem dX7_alter_96 : decode cX7_alter 96 = .ok (.getfield 26, 3) := by decide +kernel
theorem dX7_alter_99 : decode cX7_alter 99 = .ok (.aload_n 0, 1) := by decide +kernel
theorem dX7_alter_100 : decode cX7_alter 100 = .ok (.getfield 12, 3) := by decide +kernel
theorem dX7_alter_103 : decode cX7_alter 103 = .ok (.invokevirtual 63, 3) := by decide +kernel
theorem dX7_alter_106 : decode cX7_alter 106 = .ok (.pop, 1) := by decide +kernel
theorem dX7_alter_107 : decode cX7_alter 107 = .ok (.iload 4, 2) := by decide +kernel
theorem dX7_alter_109 : decode cX7_alter 109 = .ok (.ireturn, 1) := by decide +kernel
theorem dX7_open_0 : decode cX7_open 0 = .ok (.aload_n 0, 1) := by decide +kernel
theorem dX7_open_1 : decode cX7_open 1 = .ok (.iload_n 1, 1) := by decide +kernel
theorem dX7_open_2 : decode cX7_open 2 = .ok (.invokevirtual 140, 3) := by decide +kernel
theorem dX7_open_5 : decode cX7_open 5 = .ok (.ifCond .ne 7, 3) := by decide +kernel
theorem dX7_open_8 : decode cX7_open 8 = .ok (.sipush (-10001), 3) := by decide +kernel
theorem dX7_open_11 : decode cX7_open 11 = .ok (.ireturn, 1) := by decide +kernel
theorem dX7_open_12 : decode cX7_open 12 = .ok (.aload_n 0, 1) := by decide +kernel
theorem dX7_open_13 : decode cX7_open 13 = .ok (.getfield 12, 3) := by decide +kernel
theorem dX7_open_16 : decode cX7_open 16 = .ok (.iload_n 1, 1) := by decide +kernel
theorem dX7_open_17 : decode cX7_open 17 = .ok (.invokevirtual 149, 3) := by decide +kernel
theorem dX7_open_20 : decode cX7_open 20 = .ok (.ifCond .eq 7, 3) := by decide +kernel
theorem dX7_open_23 : decode cX7_open 23 = .ok (.sipush (-10002), 3) := by decide +kernel
theorem dX7_open_26 : decode cX7_open 26 = .ok (.ireturn, 1) := by decide +kernel
theorem dX7_open_27 : decode cX7_open 27 = .ok (.aload_n 0, 1) := by decide +kernel
theorem dX7_open_28 : decode cX7_open 28 = .ok (.getfield 19, 3) := by decide +kernel
theorem dX7_open_31 : decode cX7_open 31 = .ok (.aload_n 0, 1) := by decide +kernel
theorem dX7_open_32 : decode cX7_open 32 = .ok (.getfield 12, 3) := by decide +kernel
theorem dX7_open_35 : decode cX7_open 35 = .ok (.invokevirtual 55, 3) := by decide +kernel
theorem dX7_open_38 : decode cX7_open 38 = .ok (.aload_n 0, 1) := by decide +kernel
theorem dX7_open_39 : decode cX7_open 39 = .ok (.iload_n 1, 1) := by decide +kernel
theorem dX7_open_40 : decode cX7_open 40 = .ok (.invokevirtual 152, 3) := by decide +kernel
theorem dX7_open_43 : decode cX7_open 43 = .ok (.aload_n 0, 1) := by decide +kernel
theorem dX7_open_44 : decode cX7_open 44 = .ok (.getfield 26, 3) := by decide +kernel
theorem dX7_open_47 : decode cX7_open 47 = .ok (.aload_n 0, 1) := by decide +kernel
theorem dX7_open_48 : decode cX7_open 48 = .ok (.getfield 12, 3) := by decide +kernel
theorem dX7_open_51 : decode cX7_open 51 = .ok (.invokevirtual 63, 3) := by decide +kernel
theorem dX7_open_54 : decode cX7_open 54 = .ok (.pop, 1) := by decide +kernel
theorem dX7_open_55 : decode cX7_open 55 = .ok (.aload_n 0, 1) := by decide +kernel
theorem dX7_open_56 : decode cX7_open 56 = .ok (.getfield 26, 3) := by decide +kernel
theorem dX7_open_59 : decode cX7_open 59 = .ok (.getfield 156, 3) := by decide +kernel
theorem dX7_open_62 : decode cX7_open 62 = .ok (.iload_n 1, 1) := by decide +kernel
theorem dX7_open_63 : decode cX7_open 63 = .ok (.invokevirtual 160, 3) := by decide +kernel
theorem dX7_open_66 : decode cX7_open 66 = .ok (.ireturn, 1) := by decide +kernel
theorem dX7_close_0 : decode cX7_close 0 = .ok (.aload_n 0, 1) := by decide +kernel
theorem dX7_close_1 : decode cX7_close 1 = .ok (.iload_n 1, 1) := by decide +kernel
theorem dX7_close_2 : decode cX7_close 2 = .ok (.invokevirtual 140, 3) := by decide +kernel
theorem dX7_close_5 : decode cX7_close 5 = .ok (.ifCond .ne 7, 3) := by decide +kernel
theorem dX7_close_8 : decode cX7_close 8 = .ok (.sipush (-10001), 3) := by decide +kernel
theorem dX7_close_11 : decode cX7_close 11 = .ok (.ireturn, 1) := by decide +kernel
theorem dX7_close_12 : decode cX7_close 12 = .ok (.aload_n 0, 1) := by decide +kernel
theorem dX7_close_13 : decode cX7_close 13 = .ok (.getfield 12, 3) := by decide +kernel
theorem dX7_close_16 : decode cX7_close 16 = .ok (.iload_n 1, 1) := by decide +kernel
theorem dX7_close_17 : decode cX7_close 17 = .ok (.invokevirtual 149, 3) := by decide +kernel
theorem dX7_close_20 : decode cX7_close 20 = .ok (.ifCond .ne 7, 3) := by decide +kernel
theorem dX7_close_23 : decode cX7_close 23 = .ok (.sipush (-10002), 3) := by decide +kernel
theorem dX7_close_26 : decode cX7_close 26 = .ok (.ireturn, 1) := by decide +kernel
theorem dX7_close_27 : decode cX7_close 27 = .ok (.aload_n 0, 1) := by decide +kernel
theorem dX7_close_28 : decode cX7_close 28 = .ok (.getfield 19, 3) := by decide +kernel
theorem dX7_close_31 : decode cX7_close 31 = .ok (.aload_n 0, 1) := by decide +kernel
theorem dX7_close_32 : decode cX7_close 32 = .ok (.getfield 12, 3) := by decide +kernel
theorem dX7_close_35 : decode cX7_close 35 = .ok (.invokevirtual 55, 3) := by decide +kernel
theorem dX7_close_38 : decode cX7_close 38 = .ok (.aload_n 0, 1) := by decide +kernel
theorem dX7_close_39 : decode cX7_close 39 = .ok (.iload_n 1, 1) := by decide +kernel
theorem dX7_close_40 : decode cX7_close 40 = .ok (.invokevirtual 163, 3) := by decide +kernel
theorem dX7_close_43 : decode cX7_close 43 = .ok (.aload_n 0, 1) := by decide +kernel
theorem dX7_close_44 : decode cX7_close 44 = .ok (.getfield 26, 3) := by decide +kernel
theorem dX7_close_47 : decode cX7_close 47 = .ok (.aload_n 0, 1) := by decide +kernel
theorem dX7_close_48 : decode cX7_close 48 = .ok (.getfield 12, 3) := by decide +kernel
theorem dX7_close_51 : decode cX7_close 51 = .ok (.invokevirtual 63, 3) := by decide +kernel
theorem dX7_close_54 : decode cX7_close 54 = .ok (.ireturn, 1) := by decide +kernel
theorem dX7_settle_0 : decode cX7_settle 0 = .ok (.aload_n 0, 1) := by decide +kernel
theorem dX7_settle_1 : decode cX7_settle 1 = .ok (.getfield 19, 3) := by decide +kernel
theorem dX7_settle_4 : decode cX7_settle 4 = .ok (.aload_n 0, 1) := by decide +kernel
theorem dX7_settle_5 : decode cX7_settle 5 = .ok (.getfield 12, 3) := by decide +kernel
theorem dX7_settle_8 : decode cX7_settle 8 = .ok (.invokevirtual 55, 3) := by decide +kernel
theorem dX7_settle_11 : decode cX7_settle 11 = .ok (.aload_n 0, 1) := by decide +kernel
theorem dX7_settle_12 : decode cX7_settle 12 = .ok (.invokevirtual 166, 3) := by decide +kernel
theorem dX7_settle_15 : decode cX7_settle 15 = .ok (.istore_n 1, 1) := by decide +kernel
theorem dX7_settle_16 : decode cX7_settle 16 = .ok (.aload_n 0, 1) := by decide +kernel
theorem dX7_settle_17 : decode cX7_settle 17 = .ok (.getfield 26, 3) := by decide +kernel
theorem dX7_settle_20 : decode cX7_settle 20 = .ok (.aload_n 0, 1) := by decide +kernel
theorem dX7_settle_21 : decode cX7_settle 21 = .ok (.getfield 12, 3) := by decide +kernel
theorem dX7_settle_24 : decode cX7_settle 24 = .ok (.invokevirtual 63, 3) := by decide +kernel
theorem dX7_settle_27 : decode cX7_settle 27 = .ok (.pop, 1) := by decide +kernel
theorem dX7_settle_28 : decode cX7_settle 28 = .ok (.iload_n 1, 1) := by decide +kernel
theorem dX7_settle_29 : decode cX7_settle 29 = .ok (.ireturn, 1) := by decide +kernel
theorem dX7_hintOf_0 : decode cX7_hintOf 0 = .ok (.aload_n 0, 1) := by decide +kernel
theorem dX7_hintOf_1 : decode cX7_hintOf 1 = .ok (.iload_n 1, 1) := by decide +kernel
theorem dX7_hintOf_2 : decode cX7_hintOf 2 = .ok (.invokevirtual 140, 3) := by decide +kernel
theorem dX7_hintOf_5 : decode cX7_hintOf 5 = .ok (.ifCond .eq 13, 3) := by decide +kernel
theorem dX7_hintOf_8 : decode cX7_hintOf 8 = .ok (.iload_n 2, 1) := by decide +kernel
theorem dX7_hintOf_9 : decode cX7_hintOf 9 = .ok (.ifCond .lt 9, 3) := by decide +kernel
theorem dX7_hintOf_12 : decode cX7_hintOf 12 = .ok (.iload_n 2, 1) := by decide +kernel
theorem dX7_hintOf_13 : decode cX7_hintOf 13 = .ok (.bipush 16, 2) := by decide +kernel
theorem dX7_hintOf_15 : decode cX7_hintOf 15 = .ok (.if_icmp .le 7, 3) := by decide +kernel
theorem dX7_hintOf_18 : decode cX7_hintOf 18 = .ok (.sipush (-10001), 3) := by decide +kernel
theorem dX7_hintOf_21 : decode cX7_hintOf 21 = .ok (.ireturn, 1) := by decide +kernel
theorem dX7_hintOf_22 : decode cX7_hintOf 22 = .ok (.iload_n 2, 1) := by decide +kernel
theorem dX7_hintOf_23 : decode cX7_hintOf 23 = .ok (.bipush 8, 2) := by decide +kernel
theorem dX7_hintOf_25 : decode cX7_hintOf 25 = .ok (.if_icmp .ge 13, 3) := by decide +kernel
theorem dX7_hintOf_28 : decode cX7_hintOf 28 = .ok (.aload_n 0, 1) := by decide +kernel
theorem dX7_hintOf_29 : decode cX7_hintOf 29 = .ok (.getfield 12, 3) := by decide +kernel
theorem dX7_hintOf_32 : decode cX7_hintOf 32 = .ok (.iload_n 1, 1) := by decide +kernel
theorem dX7_hintOf_33 : decode cX7_hintOf 33 = .ok (.iload_n 2, 1) := by decide +kernel
theorem dX7_hintOf_34 : decode cX7_hintOf 34 = .ok (.invokevirtual 146, 3) := by decide +kernel
theorem dX7_hintOf_37 : decode cX7_hintOf 37 = .ok (.ireturn, 1) := by decide +kernel
theorem dX7_hintOf_38 : decode cX7_hintOf 38 = .ok (.iload_n 2, 1) := by decide +kernel
theorem dX7_hintOf_39 : decode cX7_hintOf 39 = .ok (.bipush 8, 2) := by decide +kernel
theorem dX7_hintOf_41 : decode cX7_hintOf 41 = .ok (.if_icmp .ne 15, 3) := by decide +kernel
theorem dX7_hintOf_44 : decode cX7_hintOf 44 = .ok (.aload_n 0, 1) := by decide +kernel
theorem dX7_hintOf_45 : decode cX7_hintOf 45 = .ok (.getfield 26, 3) := by decide +kernel
theorem dX7_hintOf_48 : decode cX7_hintOf 48 = .ok (.getfield 156, 3) := by decide +kernel
theorem dX7_hintOf_51 : decode cX7_hintOf 51 = .ok (.iload_n 1, 1) := by decide +kernel
theorem dX7_hintOf_52 : decode cX7_hintOf 52 = .ok (.invokevirtual 160, 3) := by decide +kernel
theorem dX7_hintOf_55 : decode cX7_hintOf 55 = .ok (.ireturn, 1) := by decide +kernel
theorem dX7_hintOf_56 : decode cX7_hintOf 56 = .ok (.iload_n 2, 1) := by decide +kernel
theorem dX7_hintOf_57 : decode cX7_hintOf 57 = .ok (.bipush 15, 2) := by decide +kernel
theorem dX7_hintOf_59 : decode cX7_hintOf 59 = .ok (.if_icmp .ne 27, 3) := by decide +kernel
theorem dX7_hintOf_62 : decode cX7_hintOf 62 = .ok (.aload_n 0, 1) := by decide +kernel
theorem dX7_hintOf_63 : decode cX7_hintOf 63 = .ok (.getfield 12, 3) := by decide +kernel
theorem dX7_hintOf_66 : decode cX7_hintOf 66 = .ok (.iload_n 1, 1) := by decide +kernel
theorem dX7_hintOf_67 : decode cX7_hintOf 67 = .ok (.bipush 9, 2) := by decide +kernel
theorem dX7_hintOf_69 : decode cX7_hintOf 69 = .ok (.invokevirtual 146, 3) := by decide +kernel
theorem dX7_hintOf_72 : decode cX7_hintOf 72 = .ok (.istore_n 3, 1) := by decide +kernel
theorem dX7_hintOf_73 : decode cX7_hintOf 73 = .ok (.iload_n 3, 1) := by decide +kernel
theorem dX7_hintOf_74 : decode cX7_hintOf 74 = .ok (.iconst (-1), 1) := by decide +kernel
theorem dX7_hintOf_75 : decode cX7_hintOf 75 = .ok (.if_icmp .ne 9, 3) := by decide +kernel
theorem dX7_hintOf_78 : decode cX7_hintOf 78 = .ok (.sipush (-10004), 3) := by decide +kernel
theorem dX7_hintOf_81 : decode cX7_hintOf 81 = .ok (.goto 4, 3) := by decide +kernel
theorem dX7_hintOf_84 : decode cX7_hintOf 84 = .ok (.iload_n 3, 1) := by decide +kernel
theorem dX7_hintOf_85 : decode cX7_hintOf 85 = .ok (.ireturn, 1) := by decide +kernel
theorem dX7_hintOf_86 : decode cX7_hintOf 86 = .ok (.iload_n 2, 1) := by decide +kernel
theorem dX7_hintOf_87 : decode cX7_hintOf 87 = .ok (.bipush 16, 2) := by decide +kernel
theorem dX7_hintOf_89 : decode cX7_hintOf 89 = .ok (.if_icmp .ne 29, 3) := by decide +kernel
theorem dX7_hintOf_92 : decode cX7_hintOf 92 = .ok (.aload_n 0, 1) := by decide +kernel
theorem dX7_hintOf_93 : decode cX7_hintOf 93 = .ok (.getfield 12, 3) := by decide +kernel
theorem dX7_hintOf_96 : decode cX7_hintOf 96 = .ok (.iload_n 1, 1) := by decide +kernel
theorem dX7_hintOf_97 : decode cX7_hintOf 97 = .ok (.invokevirtual 149, 3) := by decide +kernel
theorem dX7_hintOf_100 : decode cX7_hintOf 100 = .ok (.ifCond .eq 14, 3) := by decide +kernel
theorem dX7_hintOf_103 : decode cX7_hintOf 103 = .ok (.aload_n 0, 1) := by decide +kernel
theorem dX7_hintOf_104 : decode cX7_hintOf 104 = .ok (.getfield 12, 3) := by decide +kernel
theorem dX7_hintOf_107 : decode cX7_hintOf 107 = .ok (.iload_n 1, 1) := by decide +kernel
theorem dX7_hintOf_108 : decode cX7_hintOf 108 = .ok (.invokevirtual 169, 3) := by decide +kernel
theorem dX7_hintOf_111 : decode cX7_hintOf 111 = .ok (.goto 6, 3) := by decide +kernel
theorem dX7_hintOf_114 : decode cX7_hintOf 114 = .ok (.sipush (-10004), 3) := by decide +kernel
theorem dX7_hintOf_117 : decode cX7_hintOf 117 = .ok (.ireturn, 1) := by decide +kernel
theorem dX7_hintOf_118 : decode cX7_hintOf 118 = .ok (.aload_n 0, 1) := by decide +kernel
theorem dX7_hintOf_119 : decode cX7_hintOf 119 = .ok (.getfield 26, 3) := by decide +kernel
theorem dX7_hintOf_122 : decode cX7_hintOf 122 = .ok (.getfield 156, 3) := by decide +kernel
theorem dX7_hintOf_125 : decode cX7_hintOf 125 = .ok (.iload_n 1, 1) := by decide +kernel
theorem dX7_hintOf_126 : decode cX7_hintOf 126 = .ok (.invokevirtual 160, 3) := by decide +kernel
theorem dX7_hintOf_129 : decode cX7_hintOf 129 = .ok (.ifCond .ne 12, 3) := by decide +kernel
theorem dX7_hintOf_132 : decode cX7_hintOf 132 = .ok (.aload_n 0, 1) := by decide +kernel
theorem dX7_hintOf_133 : decode cX7_hintOf 133 = .ok (.iload_n 1, 1) := by decide +kernel
theorem dX7_hintOf_134 : decode cX7_hintOf 134 = .ok (.iload_n 2, 1) := by decide +kernel
theorem dX7_hintOf_135 : decode cX7_hintOf 135 = .ok (.invokevirtual 172, 3) := by decide +kernel
theorem dX7_hintOf_138 : decode cX7_hintOf 138 = .ok (.goto 6, 3) := by decide +kernel
theorem dX7_hintOf_141 : decode cX7_hintOf 141 = .ok (.sipush (-10004), 3) := by decide +kernel
theorem dX7_hintOf_144 : decode cX7_hintOf 144 = .ok (.ireturn, 1) := by decide +kernel
theorem dX7_room_0 : decode cX7_room 0 = .ok (.aload_n 0, 1) := by decide +kernel
theorem dX7_room_1 : decode cX7_room 1 = .ok (.iload_n 1, 1) := by decide +kernel
theorem dX7_room_2 : decode cX7_room 2 = .ok (.invokevirtual 140, 3) := by decide +kernel
theorem dX7_room_5 : decode cX7_room 5 = .ok (.ifCond .eq 10, 3) := by decide +kernel
theorem dX7_room_8 : decode cX7_room 8 = .ok (.iload_n 2, 1) := by decide +kernel
theorem dX7_room_9 : decode cX7_room 9 = .ok (.invokestatic 131, 3) := by decide +kernel
theorem dX7_room_12 : decode cX7_room 12 = .ok (.ifCond .ne 7, 3) := by decide +kernel
theorem dX7_room_15 : decode cX7_room 15 = .ok (.sipush (-10001), 3) := by decide +kernel
theorem dX7_room_18 : decode cX7_room 18 = .ok (.ireturn, 1) := by decide +kernel
theorem dX7_room_19 : decode cX7_room 19 = .ok (.iload_n 2, 1) := by decide +kernel
theorem dX7_room_20 : decode cX7_room 20 = .ok (.invokestatic 175, 3) := by decide +kernel
theorem dX7_room_23 : decode cX7_room 23 = .ok (.istore_n 3, 1) := by decide +kernel
theorem dX7_room_24 : decode cX7_room 24 = .ok (.aload_n 0, 1) := by decide +kernel
theorem dX7_room_25 : decode cX7_room 25 = .ok (.getfield 12, 3) := by decide +kernel
theorem dX7_room_28 : decode cX7_room 28 = .ok (.iload_n 3, 1) := by decide +kernel
theorem dX7_room_29 : decode cX7_room 29 = .ok (.ifCond .eq 7, 3) := by decide +kernel
theorem dX7_room_32 : decode cX7_room 32 = .ok (.iconst 1, 1) := by decide +kernel
theorem dX7_room_33 : decode cX7_room 33 = .ok (.goto 4, 3) := by decide +kernel
theorem dX7_room_36 : decode cX7_room 36 = .ok (.iconst 0, 1) := by decide +kernel
theorem dX7_room_37 : decode cX7_room 37 = .ok (.invokevirtual 80, 3) := by decide +kernel
theorem dX7_room_40 : decode cX7_room 40 = .ok (.istore 4, 2) := by decide +kernel
theorem dX7_room_42 : decode cX7_room 42 = .ok (.aload_n 0, 1) := by decide +kernel
theorem dX7_room_43 : decode cX7_room 43 = .ok (.getfield 12, 3) := by decide +kernel
theorem dX7_room_46 : decode cX7_room 46 = .ok (.iload_n 3, 1) := by decide +kernel
theorem dX7_room_47 : decode cX7_room 47 = .ok (.ifCond .eq 7, 3) := by decide +kernel
theorem dX7_room_50 : decode cX7_room 50 = .ok (.iconst 3, 1) := by decide +kernel
theorem dX7_room_51 : decode cX7_room 51 = .ok (.goto 4, 3) := by decide +kernel
theorem dX7_room_54 : decode cX7_room 54 = .ok (.iconst 2, 1) := by decide +kernel
theorem dX7_room_55 : decode cX7_room 55 = .ok (.invokevirtual 80, 3) := by decide +kernel
theorem dX7_room_58 : decode cX7_room 58 = .ok (.istore 5, 2) := by decide +kernel
theorem dX7_room_60 : decode cX7_room 60 = .ok (.aload_n 0, 1) := by decide +kernel
theorem dX7_room_61 : decode cX7_room 61 = .ok (.getfield 12, 3) := by decide +kernel
theorem dX7_room_64 : decode cX7_room 64 = .ok (.aload_n 0, 1) := by decide +kernel
theorem dX7_room_65 : decode cX7_room 65 = .ok (.getfield 12, 3) := by decide +kernel
theorem dX7_room_68 : decode cX7_room 68 = .ok (.iload_n 1, 1) := by decide +kernel
theorem dX7_room_69 : decode cX7_room 69 = .ok (.iconst 0, 1) := by decide +kernel
theorem dX7_room_70 : decode cX7_room 70 = .ok (.invokevirtual 146, 3) := by decide +kernel
theorem dX7_room_73 : decode cX7_room 73 = .ok (.iload_n 2, 1) := by decide +kernel
theorem dX7_room_74 : decode cX7_room 74 = .ok (.invokestatic 178, 3) := by decide +kernel
theorem dX7_room_77 : decode cX7_room 77 = .ok (.istore 6, 2) := by decide +kernel
theorem dX7_room_79 : decode cX7_room 79 = .ok (.iload_n 2, 1) := by decide +kernel
theorem dX7_room_80 : decode cX7_room 80 = .ok (.invokestatic 182, 3) := by decide +kernel
theorem dX7_room_83 : decode cX7_room 83 = .ok (.ifCond .eq 11, 3) := by decide +kernel
theorem dX7_room_86 : decode cX7_room 86 = .ok (.iload 6, 2) := by decide +kernel
theorem dX7_room_88 : decode cX7_room 88 = .ok (.iload 4, 2) := by decide +kernel
theorem dX7_room_90 : decode cX7_room 90 = .ok (.isub, 1) := by decide +kernel
theorem dX7_room_91 : decode cX7_room 91 = .ok (.goto 11, 3) := by decide +kernel
theorem dX7_room_94 : decode cX7_room 94 = .ok (.iload 4, 2) := by decide +kernel
theorem dX7_room_96 : decode cX7_room 96 = .ok (.iload 5, 2) := by decide +kernel
theorem dX7_room_98 : decode cX7_room 98 = .ok (.iadd, 1) := by decide +kernel
theorem dX7_room_99 : decode cX7_room 99 = .ok (.iload 6, 2) := by decide +kernel
theorem dX7_room_101 : decode cX7_room 101 = .ok (.isub, 1) := by decide +kernel
theorem dX7_room_102 : decode cX7_room 102 = .ok (.ireturn, 1) := by decide +kernel
theorem dX7_ifOn_0 : decode cX7_ifOn 0 = .ok (.aload_n 0, 1) := by decide +kernel
theorem dX7_ifOn_1 : decode cX7_ifOn 1 = .ok (.iload_n 1, 1) := by decide +kernel
theorem dX7_ifOn_2 : decode cX7_ifOn 2 = .ok (.invokevirtual 140, 3) := by decide +kernel
theorem dX7_ifOn_5 : decode cX7_ifOn 5 = .ok (.ifCond .eq 10, 3) := by decide +kernel
theorem dX7_ifOn_8 : decode cX7_ifOn 8 = .ok (.iload_n 2, 1) := by decide +kernel
theorem dX7_ifOn_9 : decode cX7_ifOn 9 = .ok (.invokestatic 131, 3) := by decide +kernel
theorem dX7_ifOn_12 : decode cX7_ifOn 12 = .ok (.ifCond .ne 7, 3) := by decide +kernel
theorem dX7_ifOn_15 : decode cX7_ifOn 15 = .ok (.sipush (-10001), 3) := by decide +kernel
theorem dX7_ifOn_18 : decode cX7_ifOn 18 = .ok (.ireturn, 1) := by decide +kernel
theorem dX7_ifOn_19 : decode cX7_ifOn 19 = .ok (.aload_n 0, 1) := by decide +kernel
theorem dX7_ifOn_20 : decode cX7_ifOn 20 = .ok (.getfield 47, 3) := by decide +kernel
theorem dX7_ifOn_23 : decode cX7_ifOn 23 = .ok (.aload_n 0, 1) := by decide +kernel
theorem dX7_ifOn_24 : decode cX7_ifOn 24 = .ok (.getfield 12, 3) := by decide +kernel
theorem dX7_ifOn_27 : decode cX7_ifOn 27 = .ok (.iload_n 1, 1) := by decide +kernel
theorem dX7_ifOn_28 : decode cX7_ifOn 28 = .ok (.iload_n 2, 1) := by decide +kernel
theorem dX7_ifOn_29 : decode cX7_ifOn 29 = .ok (.aload_n 0, 1) := by decide +kernel
theorem dX7_ifOn_30 : decode cX7_ifOn 30 = .ok (.getfield 12, 3) := by decide +kernel
theorem dX7_ifOn_33 : decode cX7_ifOn 33 = .ok (.iconst 2, 1) := by decide +kernel
theorem dX7_ifOn_34 : decode cX7_ifOn 34 = .ok (.invokevirtual 80, 3) := by decide +kernel
theorem dX7_ifOn_37 : decode cX7_ifOn 37 = .ok (.aload_n 0, 1) := by decide +kernel
theorem dX7_ifOn_38 : decode cX7_ifOn 38 = .ok (.getfield 12, 3) := by decide +kernel
theorem dX7_ifOn_41 : decode cX7_ifOn 41 = .ok (.iconst 3, 1) := by decide +kernel
theorem dX7_ifOn_42 : decode cX7_ifOn 42 = .ok (.invokevirtual 80, 3) := by decide +kernel
theorem dX7_ifOn_45 : decode cX7_ifOn 45 = .ok (.invokevirtual 185, 3) := by decide +kernel
theorem dX7_ifOn_48 : decode cX7_ifOn 48 = .ok (.iload_n 3, 1) := by decide +kernel
theorem dX7_ifOn_49 : decode cX7_ifOn 49 = .ok (.tableswitch 83 0 4 #[35, 51, 59, 67, 75], 35) := by decide +kernel
theorem dX7_ifOn_84 : decode cX7_ifOn 84 = .ok (.aload_n 0, 1) := by decide +kernel
theorem dX7_ifOn_85 : decode cX7_ifOn 85 = .ok (.getfield 47, 3) := by decide +kernel
theorem dX7_ifOn_88 : decode cX7_ifOn 88 = .ok (.getfield 189, 3) := by decide +kernel
theorem dX7_ifOn_91 : decode cX7_ifOn 91 = .ok (.ifCond .eq 7, 3) := by decide +kernel
theorem dX7_ifOn_94 : decode cX7_ifOn 94 = .ok (.iconst 1, 1) := by decide +kernel
theorem dX7_ifOn_95 : decode cX7_ifOn 95 = .ok (.goto 4, 3) := by decide +kernel
theorem dX7_ifOn_98 : decode cX7_ifOn 98 = .ok (.iconst 0, 1) := by decide +kernel
theorem dX7_ifOn_99 : decode cX7_ifOn 99 = .ok (.ireturn, 1) := by decide +kernel
theorem dX7_ifOn_100 : decode cX7_ifOn 100 = .ok (.aload_n 0, 1) := by decide +kernel
theorem dX7_ifOn_101 : decode cX7_ifOn 101 = .ok (.getfield 47, 3) := by decide +kernel
theorem dX7_ifOn_104 : decode cX7_ifOn 104 = .ok (.getfield 193, 3) := by decide +kernel
theorem dX7_ifOn_107 : decode cX7_ifOn 107 = .ok (.ireturn, 1) := by decide +kernel
theorem dX7_ifOn_108 : decode cX7_ifOn 108 = .ok (.aload_n 0, 1) := by decide +kernel
theorem dX7_ifOn_109 : decode cX7_ifOn 109 = .ok (.getfield 47, 3) := by decide +kernel
theorem dX7_ifOn_112 : decode cX7_ifOn 112 = .ok (.getfield 196, 3) := by decide +kernel
theorem dX7_ifOn_115 : decode cX7_ifOn 115 = .ok (.ireturn, 1) := by decide +kernel
theorem dX7_ifOn_116 : decode cX7_ifOn 116 = .ok (.aload_n 0, 1) := by decide +kernel
theorem dX7_ifOn_117 : decode cX7_ifOn 117 = .ok (.getfield 47, 3) := by decide +kernel
theorem dX7_ifOn_120 : decode cX7_ifOn 120 = .ok (.getfield 199, 3) := by decide +kernel
theorem dX7_ifOn_123 : decode cX7_ifOn 123 = .ok (.ireturn, 1) := by decide +kernel
theorem dX7_ifOn_124 : decode cX7_ifOn 124 = .ok (.aload_n 0, 1) := by decide +kernel
theorem dX7_ifOn_125 : decode cX7_ifOn 125 = .ok (.getfield 47, 3) := by decide +kernel
theorem dX7_ifOn_128 : decode cX7_ifOn 128 = .ok (.getfield 202, 3) := by decide +kernel
theorem dX7_ifOn_131 : decode cX7_ifOn 131 = .ok (.ireturn, 1) := by decide +kernel
theorem dX7_ifOn_132 : decode cX7_ifOn 132 = .ok (.sipush (-10001), 3) := by decide +kernel
theorem dX7_ifOn_135 : decode cX7_ifOn 135 = .ok (.ireturn, 1) := by decide +kernel
theorem dX7_at_0 : decode cX7_at 0 = .ok (.iload_n 1, 1) := by decide +kernel
theorem dX7_at_1 : decode cX7_at 1 = .ok (.sipush 3000, 3) := by decide +kernel
theorem dX7_at_4 : decode cX7_at 4 = .ok (.invokestatic 67, 3) := by decide +kernel
theorem dX7_at_7 : decode cX7_at 7 = .ok (.ifCond .eq 13, 3) := by decide +kernel
theorem dX7_at_10 : decode cX7_at 10 = .ok (.iload_n 2, 1) := by decide +kernel
theorem dX7_at_11 : decode cX7_at 11 = .ok (.sipush 3000, 3) := by decide +kernel
theorem dX7_at_14 : decode cX7_at 14 = .ok (.invokestatic 67, 3) := by decide +kernel
theorem dX7_at_17 : decode cX7_at 17 = .ok (.ifCond .ne 7, 3) := by decide +kernel
theorem dX7_at_20 : decode cX7_at 20 = .ok (.sipush (-10001), 3) := by decide +kernel
theorem dX7_at_23 : decode cX7_at 23 = .ok (.ireturn, 1) := by decide +kernel
theorem dX7_at_24 : decode cX7_at 24 = .ok (.aload_n 0, 1) := by decide +kernel
theorem dX7_at_25 : decode cX7_at 25 = .ok (.getfield 26, 3) := by decide +kernel
theorem dX7_at_28 : decode cX7_at 28 = .ok (.aload_n 0, 1) := by decide +kernel
theorem dX7_at_29 : decode cX7_at 29 = .ok (.getfield 12, 3) := by decide +kernel
theorem dX7_at_32 : decode cX7_at 32 = .ok (.iload_n 1, 1) := by decide +kernel
theorem dX7_at_33 : decode cX7_at 33 = .ok (.iload_n 2, 1) := by decide +kernel
theorem dX7_at_34 : decode cX7_at 34 = .ok (.iconst 1, 1) := by decide +kernel
theorem dX7_at_35 : decode cX7_at 35 = .ok (.iconst 1, 1) := by decide +kernel
theorem dX7_at_36 : decode cX7_at 36 = .ok (.invokevirtual 205, 3) := by decide +kernel
theorem dX7_at_39 : decode cX7_at 39 = .ok (.istore_n 3, 1) := by decide +kernel
theorem dX7_at_40 : decode cX7_at 40 = .ok (.iload_n 3, 1) := by decide +kernel
theorem dX7_at_41 : decode cX7_at 41 = .ok (.ifCond .ge 9, 3) := by decide +kernel
theorem dX7_at_44 : decode cX7_at 44 = .ok (.sipush (-10004), 3) := by decide +kernel
theorem dX7_at_47 : decode cX7_at 47 = .ok (.goto 4, 3) := by decide +kernel
theorem dX7_at_50 : decode cX7_at 50 = .ok (.iload_n 3, 1) := by decide +kernel
theorem dX7_at_51 : decode cX7_at 51 = .ok (.ireturn, 1) := by decide +kernel
theorem dX7_sizeFor_0 : decode cX7_sizeFor 0 = .ok (.aload_n 0, 1) := by decide +kernel
theorem dX7_sizeFor_1 : decode cX7_sizeFor 1 = .ok (.iload_n 1, 1) := by decide +kernel
theorem dX7_sizeFor_2 : decode cX7_sizeFor 2 = .ok (.invokevirtual 140, 3) := by decide +kernel
theorem dX7_sizeFor_5 : decode cX7_sizeFor 5 = .ok (.ifCond .eq 12, 3) := by decide +kernel
theorem dX7_sizeFor_8 : decode cX7_sizeFor 8 = .ok (.iload_n 2, 1) := by decide +kernel
theorem dX7_sizeFor_9 : decode cX7_sizeFor 9 = .ok (.ifCond .lt 8, 3) := by decide +kernel
theorem dX7_sizeFor_12 : decode cX7_sizeFor 12 = .ok (.iload_n 2, 1) := by decide +kernel
theorem dX7_sizeFor_13 : decode cX7_sizeFor 13 = .ok (.iconst 1, 1) := by decide +kernel
theorem dX7_sizeFor_14 : decode cX7_sizeFor 14 = .ok (.if_icmp .le 7, 3) := by decide +kernel
theorem dX7_sizeFor_17 : decode cX7_sizeFor 17 = .ok (.sipush (-10001), 3) := by decide +kernel
theorem dX7_sizeFor_20 : decode cX7_sizeFor 20 = .ok (.ireturn, 1) := by decide +kernel
theorem dX7_sizeFor_21 : decode cX7_sizeFor 21 = .ok (.aload_n 0, 1) := by decide +kernel
theorem dX7_sizeFor_22 : decode cX7_sizeFor 22 = .ok (.getfield 40, 3) := by decide +kernel
theorem dX7_sizeFor_25 : decode cX7_sizeFor 25 = .ok (.aload_n 0, 1) := by decide +kernel
theorem dX7_sizeFor_26 : decode cX7_sizeFor 26 = .ok (.getfield 12, 3) := by decide +kernel
theorem dX7_sizeFor_29 : decode cX7_sizeFor 29 = .ok (.iload_n 1, 1) := by decide +kernel
theorem dX7_sizeFor_30 : decode cX7_sizeFor 30 = .ok (.invokevirtual 209, 3) := by decide +kernel
theorem dX7_sizeFor_33 : decode cX7_sizeFor 33 = .ok (.bipush 20, 2) := by decide +kernel
theorem dX7_sizeFor_35 : decode cX7_sizeFor 35 = .ok (.istore_n 3, 1) := by decide +kernel
theorem dX7_sizeFor_36 : decode cX7_sizeFor 36 = .ok (.iload_n 3, 1) := by decide +kernel
theorem dX7_sizeFor_37 : decode cX7_sizeFor 37 = .ok (.sipush 400, 3) := by decide +kernel
theorem dX7_sizeFor_40 : decode cX7_sizeFor 40 = .ok (.if_icmp .gt 60, 3) := by decide +kernel
theorem dX7_sizeFor_43 : decode cX7_sizeFor 43 = .ok (.iload_n 2, 1) := by decide +kernel
theorem dX7_sizeFor_44 : decode cX7_sizeFor 44 = .ok (.ifCond .ne 7, 3) := by decide +kernel
theorem dX7_sizeFor_47 : decode cX7_sizeFor 47 = .ok (.iload_n 3, 1) := by decide +kernel
theorem dX7_sizeFor_48 : decode cX7_sizeFor 48 = .ok (.goto 11, 3) := by decide +kernel
theorem dX7_sizeFor_51 : decode cX7_sizeFor 51 = .ok (.aload_n 0, 1) := by decide +kernel
theorem dX7_sizeFor_52 : decode cX7_sizeFor 52 = .ok (.getfield 12, 3) := by decide +kernel
theorem dX7_sizeFor_55 : decode cX7_sizeFor 55 = .ok (.iconst 2, 1) := by decide +kernel
theorem dX7_sizeFor_56 : decode cX7_sizeFor 56 = .ok (.invokevirtual 80, 3) := by decide +kernel
theorem dX7_sizeFor_59 : decode cX7_sizeFor 59 = .ok (.istore 4, 2) := by decide +kernel
theorem dX7_sizeFor_61 : decode cX7_sizeFor 61 = .ok (.iload_n 2, 1) := by decide +kernel
theorem dX7_sizeFor_62 : decode cX7_sizeFor 62 = .ok (.iconst 1, 1) := by decide +kernel
theorem dX7_sizeFor_63 : decode cX7_sizeFor 63 = .ok (.if_icmp .ne 7, 3) := by decide +kernel
theorem dX7_sizeFor_66 : decode cX7_sizeFor 66 = .ok (.iload_n 3, 1) := by decide +kernel
theorem dX7_sizeFor_67 : decode cX7_sizeFor 67 = .ok (.goto 11, 3) := by decide +kernel
theorem dX7_sizeFor_70 : decode cX7_sizeFor 70 = .ok (.aload_n 0, 1) := by decide +kernel
theorem dX7_sizeFor_71 : decode cX7_sizeFor 71 = .ok (.getfield 12, 3) := by decide +kernel
theorem dX7_sizeFor_74 : decode cX7_sizeFor 74 = .ok (.iconst 3, 1) := by decide +kernel
theorem dX7_sizeFor_75 : decode cX7_sizeFor 75 = .ok (.invokevirtual 80, 3) := by decide +kernel
theorem dX7_sizeFor_78 : decode cX7_sizeFor 78 = .ok (.istore 5, 2) := by decide +kernel
theorem dX7_sizeFor_80 : decode cX7_sizeFor 80 = .ok (.aload_n 0, 1) := by decide +kernel
theorem dX7_sizeFor_81 : decode cX7_sizeFor 81 = .ok (.iload_n 1, 1) := by decide +kernel
theorem dX7_sizeFor_82 : decode cX7_sizeFor 82 = .ok (.iload 4, 2) := by decide +kernel
theorem dX7_sizeFor_84 : decode cX7_sizeFor 84 = .ok (.iload 5, 2) := by decide +kernel
theorem dX7_sizeFor_86 : decode cX7_sizeFor 86 = .ok (.invokevirtual 213, 3) := by decide +kernel
theorem dX7_sizeFor_89 : decode cX7_sizeFor 89 = .ok (.ifCond .eq 5, 3) := by decide +kernel
theorem dX7_sizeFor_92 : decode cX7_sizeFor 92 = .ok (.iload_n 3, 1) := by decide +kernel
theorem dX7_sizeFor_93 : decode cX7_sizeFor 93 = .ok (.ireturn, 1) := by decide +kernel
theorem dX7_sizeFor_94 : decode cX7_sizeFor 94 = .ok (.iinc 3 1, 3) := by decide +kernel
theorem dX7_sizeFor_97 : decode cX7_sizeFor 97 = .ok (.goto (-61), 3) := by decide +kernel
theorem dX7_sizeFor_100 : decode cX7_sizeFor 100 = .ok (.sipush (-10004), 3) := by decide +kernel
theorem dX7_sizeFor_103 : decode cX7_sizeFor 103 = .ok (.ireturn, 1) := by decide +kernel
theorem dX7_undo_0 : decode cX7_undo 0 = .ok (.aload_n 0, 1) := by decide +kernel
theorem dX7_undo_1 : decode cX7_undo 1 = .ok (.getfield 19, 3) := by decide +kernel
theorem dX7_undo_4 : decode cX7_undo 4 = .ok (.getfield 122, 3) := by decide +kernel
theorem dX7_undo_7 : decode cX7_undo 7 = .ok (.ifCond .ne 7, 3) := by decide +kernel
theorem dX7_undo_10 : decode cX7_undo 10 = .ok (.sipush (-10002), 3) := by decide +kernel
theorem dX7_undo_13 : decode cX7_undo 13 = .ok (.ireturn, 1) := by decide +kernel
theorem dX7_undo_14 : decode cX7_undo 14 = .ok (.aload_n 0, 1) := by decide +kernel
theorem dX7_undo_15 : decode cX7_undo 15 = .ok (.getfield 19, 3) := by decide +kernel
theorem dX7_undo_18 : decode cX7_undo 18 = .ok (.aload_n 0, 1) := by decide +kernel
theorem dX7_undo_19 : decode cX7_undo 19 = .ok (.getfield 12, 3) := by decide +kernel
theorem dX7_undo_22 : decode cX7_undo 22 = .ok (.invokevirtual 217, 3) := by decide +kernel
theorem dX7_undo_25 : decode cX7_undo 25 = .ok (.aload_n 0, 1) := by decide +kernel
theorem dX7_undo_26 : decode cX7_undo 26 = .ok (.getfield 26, 3) := by decide +kernel
theorem dX7_undo_29 : decode cX7_undo 29 = .ok (.aload_n 0, 1) := by decide +kernel
theorem dX7_undo_30 : decode cX7_undo 30 = .ok (.getfield 12, 3) := by decide +kernel
theorem dX7_undo_33 : decode cX7_undo 33 = .ok (.invokevirtual 63, 3) := by decide +kernel
theorem dX7_undo_36 : decode cX7_undo 36 = .ok (.pop, 1) := by decide +kernel
theorem dX7_undo_37 : decode cX7_undo 37 = .ok (.aload_n 0, 1) := by decide +kernel
theorem dX7_undo_38 : decode cX7_undo 38 = .ok (.getfield 19, 3) := by decide +kernel
theorem dX7_undo_41 : decode cX7_undo 41 = .ok (.getfield 122, 3) := by decide +kernel
theorem dX7_undo_44 : decode cX7_undo 44 = .ok (.ireturn, 1) := by decide +kernel
theorem dX7_type_0 : decode cX7_type 0 = .ok (.iload_n 1, 1) := by decide +kernel
theorem dX7_type_1 : decode cX7_type 1 = .ok (.bipush 32, 2) := by decide +kernel
theorem dX7_type_3 : decode cX7_type 3 = .ok (.if_icmp .lt 9, 3) := by decide +kernel
theorem dX7_type_6 : decode cX7_type 6 = .ok (.iload_n 1, 1) := by decide +kernel
theorem dX7_type_7 : decode cX7_type 7 = .ok (.bipush 126, 2) := by decide +kernel
theorem dX7_type_9 : decode cX7_type 9 = .ok (.if_icmp .le 7, 3) := by decide +kernel
theorem dX7_type_12 : decode cX7_type 12 = .ok (.sipush (-10001), 3) := by decide +kernel
theorem dX7_type_15 : decode cX7_type 15 = .ok (.ireturn, 1) := by decide +kernel
theorem dX7_type_16 : decode cX7_type 16 = .ok (.aload_n 0, 1) := by decide +kernel
theorem dX7_type_17 : decode cX7_type 17 = .ok (.getfield 33, 3) := by decide +kernel
theorem dX7_type_20 : decode cX7_type 20 = .ok (.getfield 125, 3) := by decide +kernel
theorem dX7_type_23 : decode cX7_type 23 = .ok (.bipush 60, 2) := by decide +kernel
theorem dX7_type_25 : decode cX7_type 25 = .ok (.if_icmp .lt 7, 3) := by decide +kernel
theorem dX7_type_28 : decode cX7_type 28 = .ok (.sipush (-10003), 3) := by decide +kernel
theorem dX7_type_31 : decode cX7_type 31 = .ok (.ireturn, 1) := by decide +kernel
theorem dX7_type_32 : decode cX7_type 32 = .ok (.aload_n 0, 1) := by decide +kernel
theorem dX7_type_33 : decode cX7_type 33 = .ok (.getfield 33, 3) := by decide +kernel
theorem dX7_type_36 : decode cX7_type 36 = .ok (.iload_n 1, 1) := by decide +kernel
theorem dX7_type_37 : decode cX7_type 37 = .ok (.invokevirtual 220, 3) := by decide +kernel
theorem dX7_type_40 : decode cX7_type 40 = .ok (.aload_n 0, 1) := by decide +kernel
theorem dX7_type_41 : decode cX7_type 41 = .ok (.getfield 33, 3) := by decide +kernel
theorem dX7_type_44 : decode cX7_type 44 = .ok (.getfield 125, 3) := by decide +kernel
theorem dX7_type_47 : decode cX7_type 47 = .ok (.ireturn, 1) := by decide +kernel
theorem dX7_clearText_0 : decode cX7_clearText 0 = .ok (.aload_n 0, 1) := by decide +kernel
theorem dX7_clearText_1 : decode cX7_clearText 1 = .ok (.getfield 33, 3) := by decide +kernel
theorem dX7_clearText_4 : decode cX7_clearText 4 = .ok (.getfield 125, 3) := by decide +kernel
theorem dX7_clearText_7 : decode cX7_clearText 7 = .ok (.istore_n 1, 1) := by decide +kernel
theorem dX7_clearText_8 : decode cX7_clearText 8 = .ok (.aload_n 0, 1) := by decide +kernel
theorem dX7_clearText_9 : decode cX7_clearText 9 = .ok (.getfield 33, 3) := by decide +kernel
theorem dX7_clearText_12 : decode cX7_clearText 12 = .ok (.iconst 0, 1) := by decide +kernel
theorem dX7_clearText_13 : decode cX7_clearText 13 = .ok (.putfield 125, 3) := by decide +kernel
theorem dX7_clearText_16 : decode cX7_clearText 16 = .ok (.iload_n 1, 1) := by decide +kernel
theorem dX7_clearText_17 : decode cX7_clearText 17 = .ok (.ireturn, 1) := by decide +kernel
theorem dX7_fault_0 : decode cX7_fault 0 = .ok (.iload_n 1, 1) := by decide +kernel
theorem dX7_fault_1 : decode cX7_fault 1 = .ok (.ifCond .lt 8, 3) := by decide +kernel
theorem dX7_fault_4 : decode cX7_fault 4 = .ok (.iload_n 1, 1) := by decide +kernel
theorem dX7_fault_5 : decode cX7_fault 5 = .ok (.iconst 1, 1) := by decide +kernel
theorem dX7_fault_6 : decode cX7_fault 6 = .ok (.if_icmp .le 7, 3) := by decide +kernel
theorem dX7_fault_9 : decode cX7_fault 9 = .ok (.sipush (-10001), 3) := by decide +kernel
theorem dX7_fault_12 : decode cX7_fault 12 = .ok (.ireturn, 1) := by decide +kernel
theorem dX7_fault_13 : decode cX7_fault 13 = .ok (.aload_n 0, 1) := by decide +kernel
theorem dX7_fault_14 : decode cX7_fault 14 = .ok (.getfield 33, 3) := by decide +kernel
theorem dX7_fault_17 : decode cX7_fault 17 = .ok (.aload_n 0, 1) := by decide +kernel
theorem dX7_fault_18 : decode cX7_fault 18 = .ok (.getfield 12, 3) := by decide +kernel
theorem dX7_fault_21 : decode cX7_fault 21 = .ok (.iconst 5, 1) := by decide +kernel
theorem dX7_fault_22 : decode cX7_fault 22 = .ok (.invokevirtual 80, 3) := by decide +kernel
theorem dX7_fault_25 : decode cX7_fault 25 = .ok (.invokevirtual 223, 3) := by decide +kernel
theorem dX7_fault_28 : decode cX7_fault 28 = .ok (.istore_n 2, 1) := by decide +kernel
theorem dX7_fault_29 : decode cX7_fault 29 = .ok (.iload_n 2, 1) := by decide +kernel
theorem dX7_fault_30 : decode cX7_fault 30 = .ok (.ifCond .ne 7, 3) := by decide +kernel
theorem dX7_fault_33 : decode cX7_fault 33 = .ok (.sipush (-10004), 3) := by decide +kernel
theorem dX7_fault_36 : decode cX7_fault 36 = .ok (.ireturn, 1) := by decide +kernel
theorem dX7_fault_37 : decode cX7_fault 37 = .ok (.iload_n 1, 1) := by decide +kernel
theorem dX7_fault_38 : decode cX7_fault 38 = .ok (.ifCond .ne 13, 3) := by decide +kernel
theorem dX7_fault_41 : decode cX7_fault 41 = .ok (.aload_n 0, 1) := by decide +kernel
theorem dX7_fault_42 : decode cX7_fault 42 = .ok (.getfield 33, 3) := by decide +kernel
theorem dX7_fault_45 : decode cX7_fault 45 = .ok (.getfield 226, 3) := by decide +kernel
theorem dX7_fault_48 : decode cX7_fault 48 = .ok (.goto 4, 3) := by decide +kernel
theorem dX7_fault_51 : decode cX7_fault 51 = .ok (.iload_n 2, 1) := by decide +kernel
theorem dX7_fault_52 : decode cX7_fault 52 = .ok (.ireturn, 1) := by decide +kernel
theorem dX7_carry_0 : decode cX7_carry 0 = .ok (.aload_n 0, 1) := by decide +kernel
theorem dX7_carry_1 : decode cX7_carry 1 = .ok (.getfield 33, 3) := by decide +kernel
theorem dX7_carry_4 : decode cX7_carry 4 = .ok (.aload_n 0, 1) := by decide +kernel
theorem dX7_carry_5 : decode cX7_carry 5 = .ok (.getfield 12, 3) := by decide +kernel
theorem dX7_carry_8 : decode cX7_carry 8 = .ok (.iconst 5, 1) := by decide +kernel
theorem dX7_carry_9 : decode cX7_carry 9 = .ok (.invokevirtual 80, 3) := by decide +kernel
theorem dX7_carry_12 : decode cX7_carry 12 = .ok (.invokevirtual 223, 3) := by decide +kernel
theorem dX7_carry_15 : decode cX7_carry 15 = .ok (.ifCond .eq 7, 3) := by decide +kernel
theorem dX7_carry_18 : decode cX7_carry 18 = .ok (.sipush (-10002), 3) := by decide +kernel
theorem dX7_carry_21 : decode cX7_carry 21 = .ok (.ireturn, 1) := by decide +kernel
theorem dX7_carry_22 : decode cX7_carry 22 = .ok (.aload_n 0, 1) := by decide +kernel
theorem dX7_carry_23 : decode cX7_carry 23 = .ok (.getfield 19, 3) := by decide +kernel
theorem dX7_carry_26 : decode cX7_carry 26 = .ok (.aload_n 0, 1) := by decide +kernel
theorem dX7_carry_27 : decode cX7_carry 27 = .ok (.getfield 12, 3) := by decide +kernel
theorem dX7_carry_30 : decode cX7_carry 30 = .ok (.invokevirtual 55, 3) := by decide +kernel
theorem dX7_carry_33 : decode cX7_carry 33 = .ok (.iconst 0, 1) := by decide +kernel
theorem dX7_carry_34 : decode cX7_carry 34 = .ok (.istore_n 1, 1) := by decide +kernel
theorem dX7_carry_35 : decode cX7_carry 35 = .ok (.iconst 0, 1) := by decide +kernel
theorem dX7_carry_36 : decode cX7_carry 36 = .ok (.istore_n 2, 1) := by decide +kernel
theorem dX7_carry_37 : decode cX7_carry 37 = .ok (.iload_n 1, 1) := by decide +kernel
theorem dX7_carry_38 : decode cX7_carry 38 = .ok (.bipush 60, 2) := by decide +kernel
theorem dX7_carry_40 : decode cX7_carry 40 = .ok (.if_icmp .ge 61, 3) := by decide +kernel
theorem dX7_carry_43 : decode cX7_carry 43 = .ok (.iload_n 2, 1) := by decide +kernel
theorem dX7_carry_44 : decode cX7_carry 44 = .ok (.aload_n 0, 1) := by decide +kernel
theorem dX7_carry_45 : decode cX7_carry 45 = .ok (.getfield 33, 3) := by decide +kernel
theorem dX7_carry_48 : decode cX7_carry 48 = .ok (.getfield 125, 3) := by decide +kernel
theorem dX7_carry_51 : decode cX7_carry 51 = .ok (.if_icmp .ge 50, 3) := by decide +kernel
theorem dX7_carry_54 : decode cX7_carry 54 = .ok (.aload_n 0, 1) := by decide +kernel
theorem dX7_carry_55 : decode cX7_carry 55 = .ok (.getfield 33, 3) := by decide +kernel
theorem dX7_carry_58 : decode cX7_carry 58 = .ok (.iload_n 2, 1) := by decide +kernel
theorem dX7_carry_59 : decode cX7_carry 59 = .ok (.invokevirtual 229, 3) := by decide +kernel
theorem dX7_carry_62 : decode cX7_carry 62 = .ok (.ifCond .eq 39, 3) := by decide +kernel
theorem dX7_carry_65 : decode cX7_carry 65 = .ok (.aload_n 0, 1) := by decide +kernel
theorem dX7_carry_66 : decode cX7_carry 66 = .ok (.invokevirtual 232, 3) := by decide +kernel
theorem dX7_carry_69 : decode cX7_carry 69 = .ok (.ifCond .ne 6, 3) := by decide +kernel
theorem dX7_carry_72 : decode cX7_carry 72 = .ok (.goto 29, 3) := by decide +kernel
theorem dX7_carry_75 : decode cX7_carry 75 = .ok (.aload_n 0, 1) := by decide +kernel
theorem dX7_carry_76 : decode cX7_carry 76 = .ok (.getfield 26, 3) := by decide +kernel
theorem dX7_carry_79 : decode cX7_carry 79 = .ok (.aload_n 0, 1) := by decide +kernel
theorem dX7_carry_80 : decode cX7_carry 80 = .ok (.getfield 12, 3) := by decide +kernel
theorem dX7_carry_83 : decode cX7_carry 83 = .ok (.invokevirtual 63, 3) := by decide +kernel
theorem dX7_carry_86 : decode cX7_carry 86 = .ok (.pop, 1) := by decide +kernel
theorem dX7_carry_87 : decode cX7_carry 87 = .ok (.aload_n 0, 1) := by decide +kernel
theorem dX7_carry_88 : decode cX7_carry 88 = .ok (.getfield 33, 3) := by decide +kernel
theorem dX7_carry_91 : decode cX7_carry 91 = .ok (.getfield 236, 3) := by decide +kernel
theorem dX7_carry_94 : decode cX7_carry 94 = .ok (.istore_n 2, 1) := by decide +kernel
theorem dX7_carry_95 : decode cX7_carry 95 = .ok (.iinc 1 1, 3) := by decide +kernel
theorem dX7_carry_98 : decode cX7_carry 98 = .ok (.goto (-61), 3) := by decide +kernel
theorem dX7_carry_101 : decode cX7_carry 101 = .ok (.iload_n 1, 1) := by decide +kernel
theorem dX7_carry_102 : decode cX7_carry 102 = .ok (.ireturn, 1) := by decide +kernel
theorem dX7_isWithin_0 : decode cX7_isWithin 0 = .ok (.iload_n 0, 1) := by decide +kernel
theorem dX7_isWithin_1 : decode cX7_isWithin 1 = .ok (.iload_n 1, 1) := by decide +kernel
theorem dX7_isWithin_2 : decode cX7_isWithin 2 = .ok (.ineg, 1) := by decide +kernel
theorem dX7_isWithin_3 : decode cX7_isWithin 3 = .ok (.if_icmp .lt 12, 3) := by decide +kernel
theorem dX7_isWithin_6 : decode cX7_isWithin 6 = .ok (.iload_n 0, 1) := by decide +kernel
theorem dX7_isWithin_7 : decode cX7_isWithin 7 = .ok (.iload_n 1, 1) := by decide +kernel
theorem dX7_isWithin_8 : decode cX7_isWithin 8 = .ok (.if_icmp .gt 7, 3) := by decide +kernel
theorem dX7_isWithin_11 : decode cX7_isWithin 11 = .ok (.iconst 1, 1) := by decide +kernel
theorem dX7_isWithin_12 : decode cX7_isWithin 12 = .ok (.goto 4, 3) := by decide +kernel
theorem dX7_isWithin_15 : decode cX7_isWithin 15 = .ok (.iconst 0, 1) := by decide +kernel
theorem dX7_isWithin_16 : decode cX7_isWithin 16 = .ok (.ireturn, 1) := by decide +kernel
theorem dX7_isSize_0 : decode cX7_isSize 0 = .ok (.iload_n 0, 1) := by decide +kernel
theorem dX7_isSize_1 : decode cX7_isSize 1 = .ok (.iconst 1, 1) := by decide +kernel
theorem dX7_isSize_2 : decode cX7_isSize 2 = .ok (.if_icmp .lt 14, 3) := by decide +kernel
theorem dX7_isSize_5 : decode cX7_isSize 5 = .ok (.iload_n 0, 1) := by decide +kernel
theorem dX7_isSize_6 : decode cX7_isSize 6 = .ok (.sipush 200, 3) := by decide +kernel
theorem dX7_isSize_9 : decode cX7_isSize 9 = .ok (.if_icmp .gt 7, 3) := by decide +kernel
theorem dX7_isSize_12 : decode cX7_isSize 12 = .ok (.iconst 1, 1) := by decide +kernel
theorem dX7_isSize_13 : decode cX7_isSize 13 = .ok (.goto 4, 3) := by decide +kernel
theorem dX7_isSize_16 : decode cX7_isSize 16 = .ok (.iconst 0, 1) := by decide +kernel
theorem dX7_isSize_17 : decode cX7_isSize 17 = .ok (.ireturn, 1) := by decide +kernel
theorem dX7_isViewSize_0 : decode cX7_isViewSize 0 = .ok (.iload_n 0, 1) := by decide +kernel
theorem dX7_isViewSize_1 : decode cX7_isViewSize 1 = .ok (.bipush 20, 2) := by decide +kernel
theorem dX7_isViewSize_3 : decode cX7_isViewSize 3 = .ok (.if_icmp .lt 14, 3) := by decide +kernel
theorem dX7_isViewSize_6 : decode cX7_isViewSize 6 = .ok (.iload_n 0, 1) := by decide +kernel
theorem dX7_isViewSize_7 : decode cX7_isViewSize 7 = .ok (.sipush 400, 3) := by decide +kernel
theorem dX7_isViewSize_10 : decode cX7_isViewSize 10 = .ok (.if_icmp .gt 7, 3) := by decide +kernel
theorem dX7_isViewSize_13 : decode cX7_isViewSize 13 = .ok (.iconst 1, 1) := by decide +kernel
theorem dX7_isViewSize_14 : decode cX7_isViewSize 14 = .ok (.goto 4, 3) := by decide +kernel
theorem dX7_isViewSize_17 : decode cX7_isViewSize 17 = .ok (.iconst 0, 1) := by decide +kernel
theorem dX7_isViewSize_18 : decode cX7_isViewSize 18 = .ok (.ireturn, 1) := by decide +kernel
theorem dX7_isSide_0 : decode cX7_isSide 0 = .ok (.iload_n 0, 1) := by decide +kernel
theorem dX7_isSide_1 : decode cX7_isSide 1 = .ok (.ifCond .lt 12, 3) := by decide +kernel
theorem dX7_isSide_4 : decode cX7_isSide 4 = .ok (.iload_n 0, 1) := by decide +kernel
theorem dX7_isSide_5 : decode cX7_isSide 5 = .ok (.iconst 4, 1) := by decide +kernel
theorem dX7_isSide_6 : decode cX7_isSide 6 = .ok (.if_icmp .ge 7, 3) := by decide +kernel
theorem dX7_isSide_9 : decode cX7_isSide 9 = .ok (.iconst 1, 1) := by decide +kernel
theorem dX7_isSide_10 : decode cX7_isSide 10 = .ok (.goto 4, 3) := by decide +kernel
theorem dX7_isSide_13 : decode cX7_isSide 13 = .ok (.iconst 0, 1) := by decide +kernel
theorem dX7_isSide_14 : decode cX7_isSide 14 = .ok (.ireturn, 1) := by decide +kernel
theorem dX7_isAnchor_0 : decode cX7_isAnchor 0 = .ok (.iload_n 1, 1) := by decide +kernel
theorem dX7_isAnchor_1 : decode cX7_isAnchor 1 = .ok (.ifCond .lt 19, 3) := by decide +kernel
theorem dX7_isAnchor_4 : decode cX7_isAnchor 4 = .ok (.iload_n 1, 1) := by decide +kernel
theorem dX7_isAnchor_5 : decode cX7_isAnchor 5 = .ok (.aload_n 0, 1) := by decide +kernel
theorem dX7_isAnchor_6 : decode cX7_isAnchor 6 = .ok (.getfield 12, 3) := by decide +kernel
theorem dX7_isAnchor_9 : decode cX7_isAnchor 9 = .ok (.iconst 4, 1) := by decide +kernel
theorem dX7_isAnchor_10 : decode cX7_isAnchor 10 = .ok (.invokevirtual 80, 3) := by decide +kernel
theorem dX7_isAnchor_13 : decode cX7_isAnchor 13 = .ok (.if_icmp .ge 7, 3) := by decide +kernel
theorem dX7_isAnchor_16 : decode cX7_isAnchor 16 = .ok (.iconst 1, 1) := by decide +kernel
theorem dX7_isAnchor_17 : decode cX7_isAnchor 17 = .ok (.goto 4, 3) := by decide +kernel
theorem dX7_isAnchor_20 : decode cX7_isAnchor 20 = .ok (.iconst 0, 1) := by decide +kernel
theorem dX7_isAnchor_21 : decode cX7_isAnchor 21 = .ok (.ireturn, 1) := by decide +kernel
theorem dX7_isHint_0 : decode cX7_isHint 0 = .ok (.iload_n 1, 1) := by decide +kernel
theorem dX7_isHint_1 : decode cX7_isHint 1 = .ok (.ifCond .lt 19, 3) := by decide +kernel
theorem dX7_isHint_4 : decode cX7_isHint 4 = .ok (.iload_n 1, 1) := by decide +kernel
theorem dX7_isHint_5 : decode cX7_isHint 5 = .ok (.aload_n 0, 1) := by decide +kernel
theorem dX7_isHint_6 : decode cX7_isHint 6 = .ok (.getfield 12, 3) := by decide +kernel
theorem dX7_isHint_9 : decode cX7_isHint 9 = .ok (.iconst 5, 1) := by decide +kernel
theorem dX7_isHint_10 : decode cX7_isHint 10 = .ok (.invokevirtual 80, 3) := by decide +kernel
theorem dX7_isHint_13 : decode cX7_isHint 13 = .ok (.if_icmp .ge 7, 3) := by decide +kernel
theorem dX7_isHint_16 : decode cX7_isHint 16 = .ok (.iconst 1, 1) := by decide +kernel
theorem dX7_isHint_17 : decode cX7_isHint 17 = .ok (.goto 4, 3) := by decide +kernel
theorem dX7_isHint_20 : decode cX7_isHint 20 = .ok (.iconst 0, 1) := by decide +kernel
theorem dX7_isHint_21 : decode cX7_isHint 21 = .ok (.ireturn, 1) := by decide +kernel
theorem dX7_lowestSetting_0 : decode cX7_lowestSetting 0 = .ok (.iload_n 0, 1) := by decide +kernel
theorem dX7_lowestSetting_1 : decode cX7_lowestSetting 1 = .ok (.iconst 2, 1) := by decide +kernel
theorem dX7_lowestSetting_2 : decode cX7_lowestSetting 2 = .ok (.if_icmp .ne 7, 3) := by decide +kernel
theorem dX7_lowestSetting_5 : decode cX7_lowestSetting 5 = .ok (.iconst 1, 1) := by decide +kernel
theorem dX7_lowestSetting_6 : decode cX7_lowestSetting 6 = .ok (.goto 4, 3) := by decide +kernel
theorem dX7_lowestSetting_9 : decode cX7_lowestSetting 9 = .ok (.iconst 0, 1) := by decide +kernel
theorem dX7_lowestSetting_10 : decode cX7_lowestSetting 10 = .ok (.ireturn, 1) := by decide +kernel
theorem dX7_highestSetting_0 : decode cX7_highestSetting 0 = .ok (.iload_n 0, 1) := by decide +kernel
theorem dX7_highestSetting_1 : decode cX7_highestSetting 1 = .ok (.tableswitch 36 0 2 #[27, 30, 33], 27) := by decide +kernel
theorem dX7_highestSetting_28 : decode cX7_highestSetting 28 = .ok (.bipush 30, 2) := by decide +kernel
theorem dX7_highestSetting_30 : decode cX7_highestSetting 30 = .ok (.ireturn, 1) := by decide +kernel
theorem dX7_highestSetting_31 : decode cX7_highestSetting 31 = .ok (.bipush 20, 2) := by decide +kernel
theorem dX7_highestSetting_33 : decode cX7_highestSetting 33 = .ok (.ireturn, 1) := by decide +kernel
theorem dX7_highestSetting_34 : decode cX7_highestSetting 34 = .ok (.bipush 6, 2) := by decide +kernel
theorem dX7_highestSetting_36 : decode cX7_highestSetting 36 = .ok (.ireturn, 1) := by decide +kernel
theorem dX7_highestSetting_37 : decode cX7_highestSetting 37 = .ok (.iconst 1, 1) := by decide +kernel
theorem dX7_highestSetting_38 : decode cX7_highestSetting 38 = .ok (.ireturn, 1) := by decide +kernel
theorem dX7_lowestValue_0 : decode cX7_lowestValue 0 = .ok (.iload_n 0, 1) := by decide +kernel
theorem dX7_lowestValue_1 : decode cX7_lowestValue 1 = .ok (.iconst 1, 1) := by decide +kernel
theorem dX7_lowestValue_2 : decode cX7_lowestValue 2 = .ok (.if_icmp .eq 8, 3) := by decide +kernel
theorem dX7_lowestValue_5 : decode cX7_lowestValue 5 = .ok (.iload_n 0, 1) := by decide +kernel
theorem dX7_lowestValue_6 : decode cX7_lowestValue 6 = .ok (.iconst 2, 1) := by decide +kernel
theorem dX7_lowestValue_7 : decode cX7_lowestValue 7 = .ok (.if_icmp .ne 7, 3) := by decide +kernel
theorem dX7_lowestValue_10 : decode cX7_lowestValue 10 = .ok (.iconst 1, 1) := by decide +kernel
theorem dX7_lowestValue_11 : decode cX7_lowestValue 11 = .ok (.goto 4, 3) := by decide +kernel
theorem dX7_lowestValue_14 : decode cX7_lowestValue 14 = .ok (.iconst 0, 1) := by decide +kernel
theorem dX7_lowestValue_15 : decode cX7_lowestValue 15 = .ok (.ireturn, 1) := by decide +kernel
theorem dX7_highestValue_0 : decode cX7_highestValue 0 = .ok (.iload_n 1, 1) := by decide +kernel
theorem dX7_highestValue_1 : decode cX7_highestValue 1 = .ok (.tableswitch 64 0 6 #[43, 54, 54, 58, 60, 60, 62], 43) := by decide +kernel
theorem dX7_highestValue_44 : decode cX7_highestValue 44 = .ok (.aload_n 0, 1) := by decide +kernel
theorem dX7_highestValue_45 : decode cX7_highestValue 45 = .ok (.getfield 12, 3) := by decide +kernel
theorem dX7_highestValue_48 : decode cX7_highestValue 48 = .ok (.iconst 4, 1) := by decide +kernel
theorem dX7_highestValue_49 : decode cX7_highestValue 49 = .ok (.invokevirtual 80, 3) := by decide +kernel
theorem dX7_highestValue_52 : decode cX7_highestValue 52 = .ok (.iconst 1, 1) := by decide +kernel
theorem dX7_highestValue_53 : decode cX7_highestValue 53 = .ok (.isub, 1) := by decide +kernel
theorem dX7_highestValue_54 : decode cX7_highestValue 54 = .ok (.ireturn, 1) := by decide +kernel
theorem dX7_highestValue_55 : decode cX7_highestValue 55 = .ok (.sipush 200, 3) := by decide +kernel
theorem dX7_highestValue_58 : decode cX7_highestValue 58 = .ok (.ireturn, 1) := by decide +kernel
theorem dX7_highestValue_59 : decode cX7_highestValue 59 = .ok (.iconst 3, 1) := by decide +kernel
theorem dX7_highestValue_60 : decode cX7_highestValue 60 = .ok (.ireturn, 1) := by decide +kernel
theorem dX7_highestValue_61 : decode cX7_highestValue 61 = .ok (.iconst 2, 1) := by decide +kernel
theorem dX7_highestValue_62 : decode cX7_highestValue 62 = .ok (.ireturn, 1) := by decide +kernel
theorem dX7_highestValue_63 : decode cX7_highestValue 63 = .ok (.iconst 1, 1) := by decide +kernel
theorem dX7_highestValue_64 : decode cX7_highestValue 64 = .ok (.ireturn, 1) := by decide +kernel
theorem dX7_highestValue_65 : decode cX7_highestValue 65 = .ok (.bipush 9, 2) := by decide +kernel
theorem dX7_highestValue_67 : decode cX7_highestValue 67 = .ok (.ireturn, 1) := by decide +kernel
theorem dX7_canMoveView_0 : decode cX7_canMoveView 0 = .ok (.aload_n 0, 1) := by decide +kernel
theorem dX7_canMoveView_1 : decode cX7_canMoveView 1 = .ok (.getfield 12, 3) := by decide +kernel
theorem dX7_canMoveView_4 : decode cX7_canMoveView 4 = .ok (.iconst 0, 1) := by decide +kernel
theorem dX7_canMoveView_5 : decode cX7_canMoveView 5 = .ok (.invokevirtual 80, 3) := by decide +kernel
theorem dX7_canMoveView_8 : decode cX7_canMoveView 8 = .ok (.iload_n 1, 1) := by decide +kernel
theorem dX7_canMoveView_9 : decode cX7_canMoveView 9 = .ok (.iadd, 1) := by decide +kernel
theorem dX7_canMoveView_10 : decode cX7_canMoveView 10 = .ok (.sipush 2000, 3) := by decide +kernel
theorem dX7_canMoveView_13 : decode cX7_canMoveView 13 = .ok (.invokestatic 67, 3) := by decide +kernel
theorem dX7_canMoveView_16 : decode cX7_canMoveView 16 = .ok (.ifCond .eq 26, 3) := by decide +kernel
theorem dX7_canMoveView_19 : decode cX7_canMoveView 19 = .ok (.aload_n 0, 1) := by decide +kernel
theorem dX7_canMoveView_20 : decode cX7_canMoveView 20 = .ok (.getfield 12, 3) := by decide +kernel
theorem dX7_canMoveView_23 : decode cX7_canMoveView 23 = .ok (.iconst 1, 1) := by decide +kernel
theorem dX7_canMoveView_24 : decode cX7_canMoveView 24 = .ok (.invokevirtual 80, 3) := by decide +kernel
theorem dX7_canMoveView_27 : decode cX7_canMoveView 27 = .ok (.iload_n 2, 1) := by decide +kernel
theorem dX7_canMoveView_28 : decode cX7_canMoveView 28 = .ok (.iadd, 1) := by decide +kernel
theorem dX7_canMoveView_29 : decode cX7_canMoveView 29 = .ok (.sipush 2000, 3) := by decide +kernel
theorem dX7_canMoveView_32 : decode cX7_canMoveView 32 = .ok (.invokestatic 67, 3) := by decide +kernel
theorem dX7_canMoveView_35 : decode cX7_canMoveView 35 = .ok (.ifCond .eq 7, 3) := by decide +kernel
theorem dX7_canMoveView_38 : decode cX7_canMoveView 38 = .ok (.iconst 1, 1) := by decide +kernel
theorem dX7_canMoveView_39 : decode cX7_canMoveView 39 = .ok (.goto 4, 3) := by decide +kernel
theorem dX7_canMoveView_42 : decode cX7_canMoveView 42 = .ok (.iconst 0, 1) := by decide +kernel
theorem dX7_canMoveView_43 : decode cX7_canMoveView 43 = .ok (.ireturn, 1) := by decide +kernel
theorem dX7_moveView_0 : decode cX7_moveView 0 = .ok (.aload_n 0, 1) := by decide +kernel
theorem dX7_moveView_1 : decode cX7_moveView 1 = .ok (.getfield 12, 3) := by decide +kernel
theorem dX7_moveView_4 : decode cX7_moveView 4 = .ok (.iconst 0, 1) := by decide +kernel
theorem dX7_moveView_5 : decode cX7_moveView 5 = .ok (.aload_n 0, 1) := by decide +kernel
theorem dX7_moveView_6 : decode cX7_moveView 6 = .ok (.getfield 12, 3) := by decide +kernel
theorem dX7_moveView_9 : decode cX7_moveView 9 = .ok (.iconst 0, 1) := by decide +kernel
theorem dX7_moveView_10 : decode cX7_moveView 10 = .ok (.invokevirtual 80, 3) := by decide +kernel
theorem dX7_moveView_13 : decode cX7_moveView 13 = .ok (.iload_n 1, 1) := by decide +kernel
theorem dX7_moveView_14 : decode cX7_moveView 14 = .ok (.iadd, 1) := by decide +kernel
theorem dX7_moveView_15 : decode cX7_moveView 15 = .ok (.invokevirtual 59, 3) := by decide +kernel
theorem dX7_moveView_18 : decode cX7_moveView 18 = .ok (.aload_n 0, 1) := by decide +kernel
theorem dX7_moveView_19 : decode cX7_moveView 19 = .ok (.getfield 12, 3) := by decide +kernel
theorem dX7_moveView_22 : decode cX7_moveView 22 = .ok (.iconst 1, 1) := by decide +kernel
theorem dX7_moveView_23 : decode cX7_moveView 23 = .ok (.aload_n 0, 1) := by decide +kernel
theorem dX7_moveView_24 : decode cX7_moveView 24 = .ok (.getfield 12, 3) := by decide +kernel
theorem dX7_moveView_27 : decode cX7_moveView 27 = .ok (.iconst 1, 1) := by decide +kernel
theorem dX7_moveView_28 : decode cX7_moveView 28 = .ok (.invokevirtual 80, 3) := by decide +kernel
theorem dX7_moveView_31 : decode cX7_moveView 31 = .ok (.iload_n 2, 1) := by decide +kernel
theorem dX7_moveView_32 : decode cX7_moveView 32 = .ok (.iadd, 1) := by decide +kernel
theorem dX7_moveView_33 : decode cX7_moveView 33 = .ok (.invokevirtual 59, 3) := by decide +kernel
theorem dX7_moveView_36 : decode cX7_moveView 36 = .ok (.return_, 1) := by decide +kernel
theorem dX7_openHint_0 : decode cX7_openHint 0 = .ok (.aload_n 0, 1) := by decide +kernel
theorem dX7_openHint_1 : decode cX7_openHint 1 = .ok (.getfield 12, 3) := by decide +kernel
theorem dX7_openHint_4 : decode cX7_openHint 4 = .ok (.bipush 6, 2) := by decide +kernel
theorem dX7_openHint_6 : decode cX7_openHint 6 = .ok (.invokevirtual 80, 3) := by decide +kernel
theorem dX7_openHint_9 : decode cX7_openHint 9 = .ok (.iconst 1, 1) := by decide +kernel
theorem dX7_openHint_10 : decode cX7_openHint 10 = .ok (.iadd, 1) := by decide +kernel
theorem dX7_openHint_11 : decode cX7_openHint 11 = .ok (.istore_n 2, 1) := by decide +kernel
theorem dX7_openHint_12 : decode cX7_openHint 12 = .ok (.aload_n 0, 1) := by decide +kernel
theorem dX7_openHint_13 : decode cX7_openHint 13 = .ok (.getfield 12, 3) := by decide +kernel
theorem dX7_openHint_16 : decode cX7_openHint 16 = .ok (.bipush 6, 2) := by decide +kernel
theorem dX7_openHint_18 : decode cX7_openHint 18 = .ok (.iload_n 2, 1) := by decide +kernel
theorem dX7_openHint_19 : decode cX7_openHint 19 = .ok (.invokevirtual 59, 3) := by decide +kernel
theorem dX7_openHint_22 : decode cX7_openHint 22 = .ok (.aload_n 0, 1) := by decide +kernel
theorem dX7_openHint_23 : decode cX7_openHint 23 = .ok (.getfield 12, 3) := by decide +kernel
theorem dX7_openHint_26 : decode cX7_openHint 26 = .ok (.iload_n 1, 1) := by decide +kernel
theorem dX7_openHint_27 : decode cX7_openHint 27 = .ok (.bipush 8, 2) := by decide +kernel
theorem dX7_openHint_29 : decode cX7_openHint 29 = .ok (.iload_n 2, 1) := by decide +kernel
theorem dX7_openHint_30 : decode cX7_openHint 30 = .ok (.invokevirtual 137, 3) := by decide +kernel
theorem dX7_openHint_33 : decode cX7_openHint 33 = .ok (.return_, 1) := by decide +kernel
theorem dX7_closeHint_0 : decode cX7_closeHint 0 = .ok (.aload_n 0, 1) := by decide +kernel
theorem dX7_closeHint_1 : decode cX7_closeHint 1 = .ok (.getfield 12, 3) := by decide +kernel
theorem dX7_closeHint_4 : decode cX7_closeHint 4 = .ok (.iload_n 1, 1) := by decide +kernel
theorem dX7_closeHint_5 : decode cX7_closeHint 5 = .ok (.bipush 8, 2) := by decide +kernel
theorem dX7_closeHint_7 : decode cX7_closeHint 7 = .ok (.iconst 0, 1) := by decide +kernel
theorem dX7_closeHint_8 : decode cX7_closeHint 8 = .ok (.invokevirtual 137, 3) := by decide +kernel
theorem dX7_closeHint_11 : decode cX7_closeHint 11 = .ok (.aload_n 0, 1) := by decide +kernel
theorem dX7_closeHint_12 : decode cX7_closeHint 12 = .ok (.getfield 12, 3) := by decide +kernel
theorem dX7_closeHint_15 : decode cX7_closeHint 15 = .ok (.iload_n 1, 1) := by decide +kernel
theorem dX7_closeHint_16 : decode cX7_closeHint 16 = .ok (.bipush 9, 2) := by decide +kernel
theorem dX7_closeHint_18 : decode cX7_closeHint 18 = .ok (.iconst (-1), 1) := by decide +kernel
theorem dX7_closeHint_19 : decode cX7_closeHint 19 = .ok (.invokevirtual 137, 3) := by decide +kernel
theorem dX7_closeHint_22 : decode cX7_closeHint 22 = .ok (.return_, 1) := by decide +kernel
theorem dX7_rememberSides_0 : decode cX7_rememberSides 0 = .ok (.iconst 0, 1) := by decide +kernel
theorem dX7_rememberSides_1 : decode cX7_rememberSides 1 = .ok (.istore_n 1, 1) := by decide +kernel
theorem dX7_rememberSides_2 : decode cX7_rememberSides 2 = .ok (.iconst 0, 1) := by decide +kernel
theorem dX7_rememberSides_3 : decode cX7_rememberSides 3 = .ok (.istore_n 2, 1) := by decide +kernel
theorem dX7_rememberSides_4 : decode cX7_rememberSides 4 = .ok (.iload_n 2, 1) := by decide +kernel
theorem dX7_rememberSides_5 : decode cX7_rememberSides 5 = .ok (.aload_n 0, 1) := by decide +kernel
theorem dX7_rememberSides_6 : decode cX7_rememberSides 6 = .ok (.getfield 12, 3) := by decide +kernel
theorem dX7_rememberSides_9 : decode cX7_rememberSides 9 = .ok (.iconst 5, 1) := by decide +kernel
theorem dX7_rememberSides_10 : decode cX7_rememberSides 10 = .ok (.invokevirtual 80, 3) := by decide +kernel
theorem dX7_rememberSides_13 : decode cX7_rememberSides 13 = .ok (.if_icmp .ge 71, 3) := by decide +kernel
theorem dX7_rememberSides_16 : decode cX7_rememberSides 16 = .ok (.aload_n 0, 1) := by decide +kernel
theorem dX7_rememberSides_17 : decode cX7_rememberSides 17 = .ok (.getfield 26, 3) := by decide +kernel
theorem dX7_rememberSides_20 : decode cX7_rememberSides 20 = .ok (.getfield 156, 3) := by decide +kernel
theorem dX7_rememberSides_23 : decode cX7_rememberSides 23 = .ok (.iload_n 2, 1) := by decide +kernel
theorem dX7_rememberSides_24 : decode cX7_rememberSides 24 = .ok (.invokevirtual 160, 3) := by decide +kernel
theorem dX7_rememberSides_27 : decode cX7_rememberSides 27 = .ok (.ifCond .ne 51, 3) := by decide +kernel
theorem dX7_rememberSides_30 : decode cX7_rememberSides 30 = .ok (.aload_n 0, 1) := by decide +kernel
theorem dX7_rememberSides_31 : decode cX7_rememberSides 31 = .ok (.getfield 12, 3) := by decide +kernel
theorem dX7_rememberSides_34 : decode cX7_rememberSides 34 = .ok (.iload_n 2, 1) := by decide +kernel
theorem dX7_rememberSides_35 : decode cX7_rememberSides 35 = .ok (.bipush 9, 2) := by decide +kernel
theorem dX7_rememberSides_37 : decode cX7_rememberSides 37 = .ok (.invokevirtual 146, 3) := by decide +kernel
theorem dX7_rememberSides_40 : decode cX7_rememberSides 40 = .ok (.aload_n 0, 1) := by decide +kernel
theorem dX7_rememberSides_41 : decode cX7_rememberSides 41 = .ok (.getfield 26, 3) := by decide +kernel
theorem dX7_rememberSides_44 : decode cX7_rememberSides 44 = .ok (.getfield 239, 3) := by decide +kernel
theorem dX7_rememberSides_47 : decode cX7_rememberSides 47 = .ok (.iload_n 2, 1) := by decide +kernel
theorem dX7_rememberSides_48 : decode cX7_rememberSides 48 = .ok (.invokevirtual 160, 3) := by decide +kernel
theorem dX7_rememberSides_51 : decode cX7_rememberSides 51 = .ok (.if_icmp .eq 6, 3) := by decide +kernel
theorem dX7_rememberSides_54 : decode cX7_rememberSides 54 = .ok (.iinc 1 1, 3) := by decide +kernel
theorem dX7_rememberSides_57 : decode cX7_rememberSides 57 = .ok (.aload_n 0, 1) := by decide +kernel
theorem dX7_rememberSides_58 : decode cX7_rememberSides 58 = .ok (.getfield 12, 3) := by decide +kernel
theorem dX7_rememberSides_61 : decode cX7_rememberSides 61 = .ok (.iload_n 2, 1) := by decide +kernel
theorem dX7_rememberSides_62 : decode cX7_rememberSides 62 = .ok (.bipush 9, 2) := by decide +kernel
theorem dX7_rememberSides_64 : decode cX7_rememberSides 64 = .ok (.aload_n 0, 1) := by decide +kernel
theorem dX7_rememberSides_65 : decode cX7_rememberSides 65 = .ok (.getfield 26, 3) := by decide +kernel
theorem dX7_rememberSides_68 : decode cX7_rememberSides 68 = .ok (.getfield 239, 3) := by decide +kernel
theorem dX7_rememberSides_71 : decode cX7_rememberSides 71 = .ok (.iload_n 2, 1) := by decide +kernel
theorem dX7_rememberSides_72 : decode cX7_rememberSides 72 = .ok (.invokevirtual 160, 3) := by decide +kernel
theorem dX7_rememberSides_75 : decode cX7_rememberSides 75 = .ok (.invokevirtual 137, 3) := by decide +kernel
theorem dX7_rememberSides_78 : decode cX7_rememberSides 78 = .ok (.iinc 2 1, 3) := by decide +kernel
theorem dX7_rememberSides_81 : decode cX7_rememberSides 81 = .ok (.goto (-77), 3) := by decide +kernel
theorem dX7_rememberSides_84 : decode cX7_rememberSides 84 = .ok (.iload_n 1, 1) := by decide +kernel
theorem dX7_rememberSides_85 : decode cX7_rememberSides 85 = .ok (.ireturn, 1) := by decide +kernel
theorem dX7_carryOrder_0 : decode cX7_carryOrder 0 = .ok (.aload_n 0, 1) := by decide +kernel
theorem dX7_carryOrder_1 : decode cX7_carryOrder 1 = .ok (.getfield 33, 3) := by decide +kernel
theorem dX7_carryOrder_4 : decode cX7_carryOrder 4 = .ok (.getfield 242, 3) := by decide +kernel
theorem dX7_carryOrder_7 : decode cX7_carryOrder 7 = .ok (.lookupswitch 168 #[(99, 79), (111, 33), (118, 125)], 33) := by decide +kernel
theorem dX7_carryOrder_40 : decode cX7_carryOrder 40 = .ok (.aload_n 0, 1) := by decide +kernel
theorem dX7_carryOrder_41 : decode cX7_carryOrder 41 = .ok (.aload_n 0, 1) := by decide +kernel
theorem dX7_carryOrder_42 : decode cX7_carryOrder 42 = .ok (.getfield 33, 3) := by decide +kernel
theorem dX7_carryOrder_45 : decode cX7_carryOrder 45 = .ok (.getfield 245, 3) := by decide +kernel
theorem dX7_carryOrder_48 : decode cX7_carryOrder 48 = .ok (.invokevirtual 140, 3) := by decide +kernel
theorem dX7_carryOrder_51 : decode cX7_carryOrder 51 = .ok (.ifCond .eq 20, 3) := by decide +kernel
theorem dX7_carryOrder_54 : decode cX7_carryOrder 54 = .ok (.aload_n 0, 1) := by decide +kernel
theorem dX7_carryOrder_55 : decode cX7_carryOrder 55 = .ok (.getfield 12, 3) := by decide +kernel
theorem dX7_carryOrder_58 : decode cX7_carryOrder 58 = .ok (.aload_n 0, 1) := by decide +kernel
theorem dX7_carryOrder_59 : decode cX7_carryOrder 59 = .ok (.getfield 33, 3) := by decide +kernel
theorem dX7_carryOrder_62 : decode cX7_carryOrder 62 = .ok (.getfield 245, 3) := by decide +kernel
theorem dX7_carryOrder_65 : decode cX7_carryOrder 65 = .ok (.invokevirtual 149, 3) := by decide +kernel
theorem dX7_carryOrder_68 : decode cX7_carryOrder 68 = .ok (.ifCond .eq 5, 3) := by decide +kernel
theorem dX7_carryOrder_71 : decode cX7_carryOrder 71 = .ok (.iconst 0, 1) := by decide +kernel
theorem dX7_carryOrder_72 : decode cX7_carryOrder 72 = .ok (.ireturn, 1) := by decide +kernel
theorem dX7_carryOrder_73 : decode cX7_carryOrder 73 = .ok (.aload_n 0, 1) := by decide +kernel
theorem dX7_carryOrder_74 : decode cX7_carryOrder 74 = .ok (.aload_n 0, 1) := by decide +kernel
theorem dX7_carryOrder_75 : decode cX7_carryOrder 75 = .ok (.getfield 33, 3) := by decide +kernel
theorem dX7_carryOrder_78 : decode cX7_carryOrder 78 = .ok (.getfield 245, 3) := by decide +kernel
theorem dX7_carryOrder_81 : decode cX7_carryOrder 81 = .ok (.invokevirtual 152, 3) := by decide +kernel
theorem dX7_carryOrder_84 : decode cX7_carryOrder 84 = .ok (.iconst 1, 1) := by decide +kernel
theorem dX7_carryOrder_85 : decode cX7_carryOrder 85 = .ok (.ireturn, 1) := by decide +kernel
theorem dX7_carryOrder_86 : decode cX7_carryOrder 86 = .ok (.aload_n 0, 1) := by decide +kernel
theorem dX7_carryOrder_87 : decode cX7_carryOrder 87 = .ok (.aload_n 0, 1) := by decide +kernel
theorem dX7_carryOrder_88 : decode cX7_carryOrder 88 = .ok (.getfield 33, 3) := by decide +kernel
theorem dX7_carryOrder_91 : decode cX7_carryOrder 91 = .ok (.getfield 245, 3) := by decide +kernel
theorem dX7_carryOrder_94 : decode cX7_carryOrder 94 = .ok (.invokevirtual 140, 3) := by decide +kernel
theorem dX7_carryOrder_97 : decode cX7_carryOrder 97 = .ok (.ifCond .eq 20, 3) := by decide +kernel
theorem dX7_carryOrder_100 : decode cX7_carryOrder 100 = .ok (.aload_n 0, 1) := by decide +kernel
theorem dX7_carryOrder_101 : decode cX7_carryOrder 101 = .ok (.getfield 12, 3) := by decide +kernel
theorem dX7_carryOrder_104 : decode cX7_carryOrder 104 = .ok (.aload_n 0, 1) := by decide +kernel
theorem dX7_carryOrder_105 : decode cX7_carryOrder 105 = .ok (.getfield 33, 3) := by decide +kernel
theorem dX7_carryOrder_108 : decode cX7_carryOrder 108 = .ok (.getfield 245, 3) := by decide +kernel
theorem dX7_carryOrder_111 : decode cX7_carryOrder 111 = .ok (.invokevirtual 149, 3) := by decide +kernel
theorem dX7_carryOrder_114 : decode cX7_carryOrder 114 = .ok (.ifCond .ne 5, 3) := by decide +kernel
theorem dX7_carryOrder_117 : decode cX7_carryOrder 117 = .ok (.iconst 0, 1) := by decide +kernel
theorem dX7_carryOrder_118 : decode cX7_carryOrder 118 = .ok (.ireturn, 1) := by decide +kernel
theorem dX7_carryOrder_119 : decode cX7_carryOrder 119 = .ok (.aload_n 0, 1) := by decide +kernel
theorem dX7_carryOrder_120 : decode cX7_carryOrder 120 = .ok (.aload_n 0, 1) := by decide +kernel
theorem dX7_carryOrder_121 : decode cX7_carryOrder 121 = .ok (.getfield 33, 3) := by decide +kernel
theorem dX7_carryOrder_124 : decode cX7_carryOrder 124 = .ok (.getfield 245, 3) := by decide +kernel
theorem dX7_carryOrder_127 : decode cX7_carryOrder 127 = .ok (.invokevirtual 163, 3) := by decide +kernel
theorem dX7_carryOrder_130 : decode cX7_carryOrder 130 = .ok (.iconst 1, 1) := by decide +kernel
theorem dX7_carryOrder_131 : decode cX7_carryOrder 131 = .ok (.ireturn, 1) := by decide +kernel
theorem dX7_carryOrder_132 : decode cX7_carryOrder 132 = .ok (.aload_n 0, 1) := by decide +kernel
theorem dX7_carryOrder_133 : decode cX7_carryOrder 133 = .ok (.aload_n 0, 1) := by decide +kernel
theorem dX7_carryOrder_134 : decode cX7_carryOrder 134 = .ok (.getfield 33, 3) := by decide +kernel
theorem dX7_carryOrder_137 : decode cX7_carryOrder 137 = .ok (.getfield 245, 3) := by decide +kernel
theorem dX7_carryOrder_140 : decode cX7_carryOrder 140 = .ok (.aload_n 0, 1) := by decide +kernel
theorem dX7_carryOrder_141 : decode cX7_carryOrder 141 = .ok (.getfield 33, 3) := by decide +kernel
theorem dX7_carryOrder_144 : decode cX7_carryOrder 144 = .ok (.getfield 248, 3) := by decide +kernel
theorem dX7_carryOrder_147 : decode cX7_carryOrder 147 = .ok (.invokevirtual 71, 3) := by decide +kernel
theorem dX7_carryOrder_150 : decode cX7_carryOrder 150 = .ok (.ifCond .ne 5, 3) := by decide +kernel
theorem dX7_carryOrder_153 : decode cX7_carryOrder 153 = .ok (.iconst 0, 1) := by decide +kernel
theorem dX7_carryOrder_154 : decode cX7_carryOrder 154 = .ok (.ireturn, 1) := by decide +kernel
theorem dX7_carryOrder_155 : decode cX7_carryOrder 155 = .ok (.aload_n 0, 1) := by decide +kernel
theorem dX7_carryOrder_156 : decode cX7_carryOrder 156 = .ok (.aload_n 0, 1) := by decide +kernel
theorem dX7_carryOrder_157 : decode cX7_carryOrder 157 = .ok (.getfield 33, 3) := by decide +kernel
theorem dX7_carryOrder_160 : decode cX7_carryOrder 160 = .ok (.getfield 245, 3) := by decide +kernel
theorem dX7_carryOrder_163 : decode cX7_carryOrder 163 = .ok (.aload_n 0, 1) := by decide +kernel
theorem dX7_carryOrder_164 : decode cX7_carryOrder 164 = .ok (.getfield 33, 3) := by decide +kernel
theorem dX7_carryOrder_167 : decode cX7_carryOrder 167 = .ok (.getfield 248, 3) := by decide +kernel
theorem dX7_carryOrder_170 : decode cX7_carryOrder 170 = .ok (.invokevirtual 74, 3) := by decide +kernel
theorem dX7_carryOrder_173 : decode cX7_carryOrder 173 = .ok (.iconst 1, 1) := by decide +kernel
theorem dX7_carryOrder_174 : decode cX7_carryOrder 174 = .ok (.ireturn, 1) := by decide +kernel
theorem dX7_carryOrder_175 : decode cX7_carryOrder 175 = .ok (.aload_n 0, 1) := by decide +kernel
theorem dX7_carryOrder_176 : decode cX7_carryOrder 176 = .ok (.invokevirtual 166, 3) := by decide +kernel
theorem dX7_carryOrder_179 : decode cX7_carryOrder 179 = .ok (.pop, 1) := by decide +kernel
theorem dX7_carryOrder_180 : decode cX7_carryOrder 180 = .ok (.iconst 1, 1) := by decide +kernel
theorem dX7_carryOrder_181 : decode cX7_carryOrder 181 = .ok (.ireturn, 1) := by decide +kernel
theorem dX7_countHintsOf_0 : decode cX7_countHintsOf 0 = .ok (.iconst 0, 1) := by decide +kernel
theorem dX7_countHintsOf_1 : decode cX7_countHintsOf 1 = .ok (.istore_n 3, 1) := by decide +kernel
theorem dX7_countHintsOf_2 : decode cX7_countHintsOf 2 = .ok (.iconst 0, 1) := by decide +kernel
theorem dX7_countHintsOf_3 : decode cX7_countHintsOf 3 = .ok (.istore 4, 2) := by decide +kernel
theorem dX7_countHintsOf_5 : decode cX7_countHintsOf 5 = .ok (.iload 4, 2) := by decide +kernel
theorem dX7_countHintsOf_7 : decode cX7_countHintsOf 7 = .ok (.aload_n 0, 1) := by decide +kernel
theorem dX7_countHintsOf_8 : decode cX7_countHintsOf 8 = .ok (.getfield 12, 3) := by decide +kernel
theorem dX7_countHintsOf_11 : decode cX7_countHintsOf 11 = .ok (.iconst 5, 1) := by decide +kernel
theorem dX7_countHintsOf_12 : decode cX7_countHintsOf 12 = .ok (.invokevirtual 80, 3) := by decide +kernel
theorem dX7_countHintsOf_15 : decode cX7_countHintsOf 15 = .ok (.if_icmp .ge 57, 3) := by decide +kernel
theorem dX7_countHintsOf_18 : decode cX7_countHintsOf 18 = .ok (.iload_n 2, 1) := by decide +kernel
theorem dX7_countHintsOf_19 : decode cX7_countHintsOf 19 = .ok (.ifCond .eq 18, 3) := by decide +kernel
theorem dX7_countHintsOf_22 : decode cX7_countHintsOf 22 = .ok (.aload_n 0, 1) := by decide +kernel
theorem dX7_countHintsOf_23 : decode cX7_countHintsOf 23 = .ok (.getfield 26, 3) := by decide +kernel
theorem dX7_countHintsOf_26 : decode cX7_countHintsOf 26 = .ok (.getfield 156, 3) := by decide +kernel
theorem dX7_countHintsOf_29 : decode cX7_countHintsOf 29 = .ok (.iload 4, 2) := by decide +kernel
theorem dX7_countHintsOf_31 : decode cX7_countHintsOf 31 = .ok (.invokevirtual 160, 3) := by decide +kernel
theorem dX7_countHintsOf_34 : decode cX7_countHintsOf 34 = .ok (.ifCond .ne 7, 3) := by decide +kernel
theorem dX7_countHintsOf_37 : decode cX7_countHintsOf 37 = .ok (.iconst 1, 1) := by decide +kernel
theorem dX7_countHintsOf_38 : decode cX7_countHintsOf 38 = .ok (.goto 4, 3) := by decide +kernel
theorem dX7_countHintsOf_41 : decode cX7_countHintsOf 41 = .ok (.iconst 0, 1) := by decide +kernel
theorem dX7_countHintsOf_42 : decode cX7_countHintsOf 42 = .ok (.istore 5, 2) := by decide +kernel
theorem dX7_countHintsOf_44 : decode cX7_countHintsOf 44 = .ok (.iload 5, 2) := by decide +kernel
theorem dX7_countHintsOf_46 : decode cX7_countHintsOf 46 = .ok (.ifCond .eq 20, 3) := by decide +kernel
theorem dX7_countHintsOf_49 : decode cX7_countHintsOf 49 = .ok (.aload_n 0, 1) := by decide +kernel
theorem dX7_countHintsOf_50 : decode cX7_countHintsOf 50 = .ok (.getfield 12, 3) := by decide +kernel
theorem dX7_countHintsOf_53 : decode cX7_countHintsOf 53 = .ok (.iload 4, 2) := by decide +kernel
theorem dX7_countHintsOf_55 : decode cX7_countHintsOf 55 = .ok (.iconst 0, 1) := by decide +kernel
theorem dX7_countHintsOf_56 : decode cX7_countHintsOf 56 = .ok (.invokevirtual 146, 3) := by decide +kernel
theorem dX7_countHintsOf_59 : decode cX7_countHintsOf 59 = .ok (.iload_n 1, 1) := by decide +kernel
theorem dX7_countHintsOf_60 : decode cX7_countHintsOf 60 = .ok (.if_icmp .ne 6, 3) := by decide +kernel
theorem dX7_countHintsOf_63 : decode cX7_countHintsOf 63 = .ok (.iinc 3 1, 3) := by decide +kernel
theorem dX7_countHintsOf_66 : decode cX7_countHintsOf 66 = .ok (.iinc 4 1, 3) := by decide +kernel
theorem dX7_countHintsOf_69 : decode cX7_countHintsOf 69 = .ok (.goto (-64), 3) := by decide +kernel
theorem dX7_countHintsOf_72 : decode cX7_countHintsOf 72 = .ok (.iload_n 3, 1) := by decide +kernel
theorem dX7_countHintsOf_73 : decode cX7_countHintsOf 73 = .ok (.ireturn, 1) := by decide +kernel
theorem dX7_countOpen_0 : decode cX7_countOpen 0 = .ok (.iconst 0, 1) := by decide +kernel
theorem dX7_countOpen_1 : decode cX7_countOpen 1 = .ok (.istore_n 1, 1) := by decide +kernel
theorem dX7_countOpen_2 : decode cX7_countOpen 2 = .ok (.iconst 0, 1) := by decide +kernel
theorem dX7_countOpen_3 : decode cX7_countOpen 3 = .ok (.istore_n 2, 1) := by decide +kernel
theorem dX7_countOpen_4 : decode cX7_countOpen 4 = .ok (.iload_n 2, 1) := by decide +kernel
theorem dX7_countOpen_5 : decode cX7_countOpen 5 = .ok (.aload_n 0, 1) := by decide +kernel
theorem dX7_countOpen_6 : decode cX7_countOpen 6 = .ok (.getfield 12, 3) := by decide +kernel
theorem dX7_countOpen_9 : decode cX7_countOpen 9 = .ok (.iconst 5, 1) := by decide +kernel
theorem dX7_countOpen_10 : decode cX7_countOpen 10 = .ok (.invokevirtual 80, 3) := by decide +kernel
theorem dX7_countOpen_13 : decode cX7_countOpen 13 = .ok (.if_icmp .ge 23, 3) := by decide +kernel
theorem dX7_countOpen_16 : decode cX7_countOpen 16 = .ok (.aload_n 0, 1) := by decide +kernel
theorem dX7_countOpen_17 : decode cX7_countOpen 17 = .ok (.getfield 12, 3) := by decide +kernel
theorem dX7_countOpen_20 : decode cX7_countOpen 20 = .ok (.iload_n 2, 1) := by decide +kernel
theorem dX7_countOpen_21 : decode cX7_countOpen 21 = .ok (.invokevirtual 149, 3) := by decide +kernel
theorem dX7_countOpen_24 : decode cX7_countOpen 24 = .ok (.ifCond .eq 6, 3) := by decide +kernel
theorem dX7_countOpen_27 : decode cX7_countOpen 27 = .ok (.iinc 1 1, 3) := by decide +kernel
theorem dX7_countOpen_30 : decode cX7_countOpen 30 = .ok (.iinc 2 1, 3) := by decide +kernel
theorem dX7_countOpen_33 : decode cX7_countOpen 33 = .ok (.goto (-29), 3) := by decide +kernel
theorem dX7_countOpen_36 : decode cX7_countOpen 36 = .ok (.iload_n 1, 1) := by decide +kernel
theorem dX7_countOpen_37 : decode cX7_countOpen 37 = .ok (.ireturn, 1) := by decide +kernel
theorem dX7_countRemembered_0 : decode cX7_countRemembered 0 = .ok (.iconst 0, 1) := by decide +kernel
theorem dX7_countRemembered_1 : decode cX7_countRemembered 1 = .ok (.istore_n 1, 1) := by decide +kernel
theorem dX7_countRemembered_2 : decode cX7_countRemembered 2 = .ok (.iconst 0, 1) := by decide +kernel
theorem dX7_countRemembered_3 : decode cX7_countRemembered 3 = .ok (.istore_n 2, 1) := by decide +kernel
theorem dX7_countRemembered_4 : decode cX7_countRemembered 4 = .ok (.iload_n 2, 1) := by decide +kernel
theorem dX7_countRemembered_5 : decode cX7_countRemembered 5 = .ok (.aload_n 0, 1) := by decide +kernel
theorem dX7_countRemembered_6 : decode cX7_countRemembered 6 = .ok (.getfield 12, 3) := by decide +kernel
theorem dX7_countRemembered_9 : decode cX7_countRemembered 9 = .ok (.iconst 5, 1) := by decide +kernel
theorem dX7_countRemembered_10 : decode cX7_countRemembered 10 = .ok (.invokevirtual 80, 3) := by decide +kernel
theorem dX7_countRemembered_13 : decode cX7_countRemembered 13 = .ok (.if_icmp .ge 26, 3) := by decide +kernel
theorem dX7_countRemembered_16 : decode cX7_countRemembered 16 = .ok (.aload_n 0, 1) := by decide +kernel
theorem dX7_countRemembered_17 : decode cX7_countRemembered 17 = .ok (.getfield 12, 3) := by decide +kernel
theorem dX7_countRemembered_20 : decode cX7_countRemembered 20 = .ok (.iload_n 2, 1) := by decide +kernel
theorem dX7_countRemembered_21 : decode cX7_countRemembered 21 = .ok (.bipush 9, 2) := by decide +kernel
theorem dX7_countRemembered_23 : decode cX7_countRemembered 23 = .ok (.invokevirtual 146, 3) := by decide +kernel
theorem dX7_countRemembered_26 : decode cX7_countRemembered 26 = .ok (.iconst (-1), 1) := by decide +kernel
theorem dX7_countRemembered_27 : decode cX7_countRemembered 27 = .ok (.if_icmp .eq 6, 3) := by decide +kernel
theorem dX7_countRemembered_30 : decode cX7_countRemembered 30 = .ok (.iinc 1 1, 3) := by decide +kernel
theorem dX7_countRemembered_33 : decode cX7_countRemembered 33 = .ok (.iinc 2 1, 3) := by decide +kernel
theorem dX7_countRemembered_36 : decode cX7_countRemembered 36 = .ok (.goto (-32), 3) := by decide +kernel
theorem dX7_countRemembered_39 : decode cX7_countRemembered 39 = .ok (.iload_n 1, 1) := by decide +kernel
theorem dX7_countRemembered_40 : decode cX7_countRemembered 40 = .ok (.ireturn, 1) := by decide +kernel
theorem dX7_countCovered_0 : decode cX7_countCovered 0 = .ok (.iconst 0, 1) := by decide +kernel
theorem dX7_countCovered_1 : decode cX7_countCovered 1 = .ok (.istore_n 1, 1) := by decide +kernel
theorem dX7_countCovered_2 : decode cX7_countCovered 2 = .ok (.iconst 0, 1) := by decide +kernel
theorem dX7_countCovered_3 : decode cX7_countCovered 3 = .ok (.istore_n 2, 1) := by decide +kernel
theorem dX7_countCovered_4 : decode cX7_countCovered 4 = .ok (.iload_n 2, 1) := by decide +kernel
theorem dX7_countCovered_5 : decode cX7_countCovered 5 = .ok (.aload_n 0, 1) := by decide +kernel
theorem dX7_countCovered_6 : decode cX7_countCovered 6 = .ok (.getfield 12, 3) := by decide +kernel
theorem dX7_countCovered_9 : decode cX7_countCovered 9 = .ok (.iconst 5, 1) := by decide +kernel
theorem dX7_countCovered_10 : decode cX7_countCovered 10 = .ok (.invokevirtual 80, 3) := by decide +kernel
theorem dX7_countCovered_13 : decode cX7_countCovered 13 = .ok (.if_icmp .ge 45, 3) := by decide +kernel
theorem dX7_countCovered_16 : decode cX7_countCovered 16 = .ok (.aload_n 0, 1) := by decide +kernel
theorem dX7_countCovered_17 : decode cX7_countCovered 17 = .ok (.getfield 26, 3) := by decide +kernel
theorem dX7_countCovered_20 : decode cX7_countCovered 20 = .ok (.getfield 156, 3) := by decide +kernel
theorem dX7_countCovered_23 : decode cX7_countCovered 23 = .ok (.iload_n 2, 1) := by decide +kernel
theorem dX7_countCovered_24 : decode cX7_countCovered 24 = .ok (.invokevirtual 160, 3) := by decide +kernel
theorem dX7_countCovered_27 : decode cX7_countCovered 27 = .ok (.ifCond .ne 25, 3) := by decide +kernel
theorem dX7_countCovered_30 : decode cX7_countCovered 30 = .ok (.iload_n 1, 1) := by decide +kernel
theorem dX7_countCovered_31 : decode cX7_countCovered 31 = .ok (.aload_n 0, 1) := by decide +kernel
theorem dX7_countCovered_32 : decode cX7_countCovered 32 = .ok (.getfield 12, 3) := by decide +kernel
theorem dX7_countCovered_35 : decode cX7_countCovered 35 = .ok (.iload_n 2, 1) := by decide +kernel
theorem dX7_countCovered_36 : decode cX7_countCovered 36 = .ok (.iconst 1, 1) := by decide +kernel
theorem dX7_countCovered_37 : decode cX7_countCovered 37 = .ok (.invokevirtual 146, 3) := by decide +kernel
theorem dX7_countCovered_40 : decode cX7_countCovered 40 = .ok (.aload_n 0, 1) := by decide +kernel
theorem dX7_countCovered_41 : decode cX7_countCovered 41 = .ok (.getfield 12, 3) := by decide +kernel
theorem dX7_countCovered_44 : decode cX7_countCovered 44 = .ok (.iload_n 2, 1) := by decide +kernel
theorem dX7_countCovered_45 : decode cX7_countCovered 45 = .ok (.iconst 2, 1) := by decide +kernel
theorem dX7_countCovered_46 : decode cX7_countCovered 46 = .ok (.invokevirtual 146, 3) := by decide +kernel
theorem dX7_countCovered_49 : decode cX7_countCovered 49 = .ok (.imul, 1) := by decide +kernel
theorem dX7_countCovered_50 : decode cX7_countCovered 50 = .ok (.iadd, 1) := by decide +kernel
theorem dX7_countCovered_51 : decode cX7_countCovered 51 = .ok (.istore_n 1, 1) := by decide +kernel
theorem dX7_countCovered_52 : decode cX7_countCovered 52 = .ok (.iinc 2 1, 3) := by decide +kernel
theorem dX7_countCovered_55 : decode cX7_countCovered 55 = .ok (.goto (-51), 3) := by decide +kernel
theorem dX7_countCovered_58 : decode cX7_countCovered 58 = .ok (.iload_n 1, 1) := by decide +kernel
theorem dX7_countCovered_59 : decode cX7_countCovered 59 = .ok (.ireturn, 1) := by decide +kernel
theorem dX7_shownValue_0 : decode cX7_shownValue 0 = .ok (.aload_n 0, 1) := by decide +kernel
theorem dX7_shownValue_1 : decode cX7_shownValue 1 = .ok (.getfield 26, 3) := by decide +kernel
theorem dX7_shownValue_4 : decode cX7_shownValue 4 = .ok (.getfield 239, 3) := by decide +kernel
theorem dX7_shownValue_7 : decode cX7_shownValue 7 = .ok (.iload_n 1, 1) := by decide +kernel
theorem dX7_shownValue_8 : decode cX7_shownValue 8 = .ok (.invokevirtual 160, 3) := by decide +kernel
theorem dX7_shownValue_11 : decode cX7_shownValue 11 = .ok (.istore_n 3, 1) := by decide +kernel
theorem dX7_shownValue_12 : decode cX7_shownValue 12 = .ok (.aload_n 0, 1) := by decide +kernel
theorem dX7_shownValue_13 : decode cX7_shownValue 13 = .ok (.getfield 47, 3) := by decide +kernel
theorem dX7_shownValue_16 : decode cX7_shownValue 16 = .ok (.aload_n 0, 1) := by decide +kernel
theorem dX7_shownValue_17 : decode cX7_shownValue 17 = .ok (.getfield 12, 3) := by decide +kernel
theorem dX7_shownValue_20 : decode cX7_shownValue 20 = .ok (.iload_n 1, 1) := by decide +kernel
theorem dX7_shownValue_21 : decode cX7_shownValue 21 = .ok (.iload_n 3, 1) := by decide +kernel
theorem dX7_shownValue_22 : decode cX7_shownValue 22 = .ok (.aload_n 0, 1) := by decide +kernel
theorem dX7_shownValue_23 : decode cX7_shownValue 23 = .ok (.getfield 12, 3) := by decide +kernel
theorem dX7_shownValue_26 : decode cX7_shownValue 26 = .ok (.iconst 2, 1) := by decide +kernel
theorem dX7_shownValue_27 : decode cX7_shownValue 27 = .ok (.invokevirtual 80, 3) := by decide +kernel
theorem dX7_shownValue_30 : decode cX7_shownValue 30 = .ok (.aload_n 0, 1) := by decide +kernel
theorem dX7_shownValue_31 : decode cX7_shownValue 31 = .ok (.getfield 12, 3) := by decide +kernel
theorem dX7_shownValue_34 : decode cX7_shownValue 34 = .ok (.iconst 3, 1) := by decide +kernel
theorem dX7_shownValue_35 : decode cX7_shownValue 35 = .ok (.invokevirtual 80, 3) := by decide +kernel
theorem dX7_shownValue_38 : decode cX7_shownValue 38 = .ok (.invokevirtual 185, 3) := by decide +kernel
theorem dX7_shownValue_41 : decode cX7_shownValue 41 = .ok (.iload_n 2, 1) := by decide +kernel
theorem dX7_shownValue_42 : decode cX7_shownValue 42 = .ok (.tableswitch 76 9 13 #[34, 36, 44, 52, 60], 34) := by decide +kernel
theorem dX7_shownValue_76 : decode cX7_shownValue 76 = .ok (.iload_n 3, 1) := by decide +kernel
theorem dX7_shownValue_77 : decode cX7_shownValue 77 = .ok (.ireturn, 1) := by decide +kernel
theorem dX7_shownValue_78 : decode cX7_shownValue 78 = .ok (.aload_n 0, 1) := by decide +kernel
theorem dX7_shownValue_79 : decode cX7_shownValue 79 = .ok (.getfield 47, 3) := by decide +kernel
theorem dX7_shownValue_82 : decode cX7_shownValue 82 = .ok (.getfield 193, 3) := by decide +kernel
theorem dX7_shownValue_85 : decode cX7_shownValue 85 = .ok (.ireturn, 1) := by decide +kernel
theorem dX7_shownValue_86 : decode cX7_shownValue 86 = .ok (.aload_n 0, 1) := by decide +kernel
theorem dX7_shownValue_87 : decode cX7_shownValue 87 = .ok (.getfield 47, 3) := by decide +kernel
theorem dX7_shownValue_90 : decode cX7_shownValue 90 = .ok (.getfield 196, 3) := by decide +kernel
theorem dX7_shownValue_93 : decode cX7_shownValue 93 = .ok (.ireturn, 1) := by decide +kernel
theorem dX7_shownValue_94 : decode cX7_shownValue 94 = .ok (.aload_n 0, 1) := by decide +kernel
theorem dX7_shownValue_95 : decode cX7_shownValue 95 = .ok (.getfield 47, 3) := by decide +kernel
theorem dX7_shownValue_98 : decode cX7_shownValue 98 = .ok (.getfield 202, 3) := by decide +kernel
theorem dX7_shownValue_101 : decode cX7_shownValue 101 = .ok (.ireturn, 1) := by decide +kernel
theorem dX7_shownValue_102 : decode cX7_shownValue 102 = .ok (.aload_n 0, 1) := by decide +kernel
theorem dX7_shownValue_103 : decode cX7_shownValue 103 = .ok (.getfield 47, 3) := by decide +kernel
theorem dX7_shownValue_106 : decode cX7_shownValue 106 = .ok (.getfield 251, 3) := by decide +kernel
theorem dX7_shownValue_109 : decode cX7_shownValue 109 = .ok (.ifCond .eq 7, 3) := by decide +kernel
theorem dX7_shownValue_112 : decode cX7_shownValue 112 = .ok (.iconst 1, 1) := by decide +kernel
theorem dX7_shownValue_113 : decode cX7_shownValue 113 = .ok (.goto 4, 3) := by decide +kernel
theorem dX7_shownValue_116 : decode cX7_shownValue 116 = .ok (.iconst 0, 1) := by decide +kernel
theorem dX7_shownValue_117 : decode cX7_shownValue 117 = .ok (.ireturn, 1) := by decide +kernel
theorem dX7_shownValue_118 : decode cX7_shownValue 118 = .ok (.aload_n 0, 1) := by decide +kernel
theorem dX7_shownValue_119 : decode cX7_shownValue 119 = .ok (.getfield 47, 3) := by decide +kernel
theorem dX7_shownValue_122 : decode cX7_shownValue 122 = .ok (.getfield 199, 3) := by decide +kernel
theorem dX7_shownValue_125 : decode cX7_shownValue 125 = .ok (.ireturn, 1) := by decide +kernel
theorem dX7_isInSightOnATry_0 : decode cX7_isInSightOnATry 0 = .ok (.iconst 0, 1) := by decide +kernel
theorem dX7_isInSightOnATry_1 : decode cX7_isInSightOnATry 1 = .ok (.istore 4, 2) := by decide +kernel
theorem dX7_isInSightOnATry_3 : decode cX7_isInSightOnATry 3 = .ok (.iload 4, 2) := by decide +kernel
theorem dX7_isInSightOnATry_5 : decode cX7_isInSightOnATry 5 = .ok (.aload_n 0, 1) := by decide +kernel
theorem dX7_isInSightOnATry_6 : decode cX7_isInSightOnATry 6 = .ok (.getfield 40, 3) := by decide +kernel
theorem dX7_isInSightOnATry_9 : decode cX7_isInSightOnATry 9 = .ok (.getfield 254, 3) := by decide +kernel
theorem dX7_isInSightOnATry_12 : decode cX7_isInSightOnATry 12 = .ok (.if_icmp .ge 47, 3) := by decide +kernel
theorem dX7_isInSightOnATry_15 : decode cX7_isInSightOnATry 15 = .ok (.aload_n 0, 1) := by decide +kernel
theorem dX7_isInSightOnATry_16 : decode cX7_isInSightOnATry 16 = .ok (.getfield 47, 3) := by decide +kernel
theorem dX7_isInSightOnATry_19 : decode cX7_isInSightOnATry 19 = .ok (.aload_n 0, 1) := by decide +kernel
theorem dX7_isInSightOnATry_20 : decode cX7_isInSightOnATry 20 = .ok (.getfield 12, 3) := by decide +kernel
theorem dX7_isInSightOnATry_23 : decode cX7_isInSightOnATry 23 = .ok (.iload_n 1, 1) := by decide +kernel
theorem dX7_isInSightOnATry_24 : decode cX7_isInSightOnATry 24 = .ok (.aload_n 0, 1) := by decide +kernel
theorem dX7_isInSightOnATry_25 : decode cX7_isInSightOnATry 25 = .ok (.getfield 40, 3) := by decide +kernel
theorem dX7_isInSightOnATry_28 : decode cX7_isInSightOnATry 28 = .ok (.getfield 257, 3) := by decide +kernel
theorem dX7_isInSightOnATry_31 : decode cX7_isInSightOnATry 31 = .ok (.iload 4, 2) := by decide +kernel
theorem dX7_isInSightOnATry_33 : decode cX7_isInSightOnATry 33 = .ok (.invokevirtual 160, 3) := by decide +kernel
theorem dX7_isInSightOnATry_36 : decode cX7_isInSightOnATry 36 = .ok (.iload_n 2, 1) := by decide +kernel
theorem dX7_isInSightOnATry_37 : decode cX7_isInSightOnATry 37 = .ok (.iload_n 3, 1) := by decide +kernel
theorem dX7_isInSightOnATry_38 : decode cX7_isInSightOnATry 38 = .ok (.invokevirtual 185, 3) := by decide +kernel
theorem dX7_isInSightOnATry_41 : decode cX7_isInSightOnATry 41 = .ok (.aload_n 0, 1) := by decide +kernel
theorem dX7_isInSightOnATry_42 : decode cX7_isInSightOnATry 42 = .ok (.getfield 47, 3) := by decide +kernel
theorem dX7_isInSightOnATry_45 : decode cX7_isInSightOnATry 45 = .ok (.getfield 189, 3) := by decide +kernel
theorem dX7_isInSightOnATry_48 : decode cX7_isInSightOnATry 48 = .ok (.ifCond .eq 5, 3) := by decide +kernel
theorem dX7_isInSightOnATry_51 : decode cX7_isInSightOnATry 51 = .ok (.iconst 1, 1) := by decide +kernel
theorem dX7_isInSightOnATry_52 : decode cX7_isInSightOnATry 52 = .ok (.ireturn, 1) := by decide +kernel
theorem dX7_isInSightOnATry_53 : decode cX7_isInSightOnATry 53 = .ok (.iinc 4 1, 3) := by decide +kernel
theorem dX7_isInSightOnATry_56 : decode cX7_isInSightOnATry 56 = .ok (.goto (-53), 3) := by decide +kernel
theorem dX7_isInSightOnATry_59 : decode cX7_isInSightOnATry 59 = .ok (.iconst 0, 1) := by decide +kernel
theorem dX7_isInSightOnATry_60 : decode cX7_isInSightOnATry 60 = .ok (.ireturn, 1) := by decide +kernel
theorem dX7_isLevel_0 : decode cX7_isLevel 0 = .ok (.iload_n 0, 1) := by decide +kernel
theorem dX7_isLevel_1 : decode cX7_isLevel 1 = .ok (.ifCond .eq 8, 3) := by decide +kernel
theorem dX7_isLevel_4 : decode cX7_isLevel 4 = .ok (.iload_n 0, 1) := by decide +kernel
theorem dX7_isLevel_5 : decode cX7_isLevel 5 = .ok (.iconst 2, 1) := by decide +kernel
theorem dX7_isLevel_6 : decode cX7_isLevel 6 = .ok (.if_icmp .ne 7, 3) := by decide +kernel
theorem dX7_isLevel_9 : decode cX7_isLevel 9 = .ok (.iconst 1, 1) := by decide +kernel
theorem dX7_isLevel_10 : decode cX7_isLevel 10 = .ok (.goto 4, 3) := by decide +kernel
theorem dX7_isLevel_13 : decode cX7_isLevel 13 = .ok (.iconst 0, 1) := by decide +kernel
theorem dX7_isLevel_14 : decode cX7_isLevel 14 = .ok (.ireturn, 1) := by decide +kernel
theorem dX7_isBefore_0 : decode cX7_isBefore 0 = .ok (.iload_n 0, 1) := by decide +kernel
theorem dX7_isBefore_1 : decode cX7_isBefore 1 = .ok (.ifCond .eq 8, 3) := by decide +kernel
theorem dX7_isBefore_4 : decode cX7_isBefore 4 = .ok (.iload_n 0, 1) := by decide +kernel
theorem dX7_isBefore_5 : decode cX7_isBefore 5 = .ok (.iconst 3, 1) := by decide +kernel
theorem dX7_isBefore_6 : decode cX7_isBefore 6 = .ok (.if_icmp .ne 7, 3) := by decide +kernel
theorem dX7_isBefore_9 : decode cX7_isBefore 9 = .ok (.iconst 1, 1) := by decide +kernel
theorem dX7_isBefore_10 : decode cX7_isBefore 10 = .ok (.goto 4, 3) := by decide +kernel
theorem dX7_isBefore_13 : decode cX7_isBefore 13 = .ok (.iconst 0, 1) := by decide +kernel
theorem dX7_isBefore_14 : decode cX7_isBefore 14 = .ok (.ireturn, 1) := by decide +kernel
theorem dX7_edgeBy_0 : decode cX7_edgeBy 0 = .ok (.iload_n 2, 1) := by decide +kernel
theorem dX7_edgeBy_1 : decode cX7_edgeBy 1 = .ok (.invokestatic 175, 3) := by decide +kernel
theorem dX7_edgeBy_4 : decode cX7_edgeBy 4 = .ok (.istore_n 3, 1) := by decide +kernel
theorem dX7_edgeBy_5 : decode cX7_edgeBy 5 = .ok (.aload_n 0, 1) := by decide +kernel
theorem dX7_edgeBy_6 : decode cX7_edgeBy 6 = .ok (.iload_n 1, 1) := by decide +kernel
theorem dX7_edgeBy_7 : decode cX7_edgeBy 7 = .ok (.iload_n 3, 1) := by decide +kernel
theorem dX7_edgeBy_8 : decode cX7_edgeBy 8 = .ok (.ifCond .eq 7, 3) := by decide +kernel
theorem dX7_edgeBy_11 : decode cX7_edgeBy 11 = .ok (.iconst 1, 1) := by decide +kernel
theorem dX7_edgeBy_12 : decode cX7_edgeBy 12 = .ok (.goto 4, 3) := by decide +kernel
theorem dX7_edgeBy_15 : decode cX7_edgeBy 15 = .ok (.iconst 0, 1) := by decide +kernel
theorem dX7_edgeBy_16 : decode cX7_edgeBy 16 = .ok (.invokevirtual 91, 3) := by decide +kernel
theorem dX7_edgeBy_19 : decode cX7_edgeBy 19 = .ok (.istore 4, 2) := by decide +kernel
theorem dX7_edgeBy_21 : decode cX7_edgeBy 21 = .ok (.aload_n 0, 1) := by decide +kernel
theorem dX7_edgeBy_22 : decode cX7_edgeBy 22 = .ok (.iconst 0, 1) := by decide +kernel
theorem dX7_edgeBy_23 : decode cX7_edgeBy 23 = .ok (.invokevirtual 108, 3) := by decide +kernel
theorem dX7_edgeBy_26 : decode cX7_edgeBy 26 = .ok (.istore 5, 2) := by decide +kernel
theorem dX7_edgeBy_28 : decode cX7_edgeBy 28 = .ok (.iload_n 2, 1) := by decide +kernel
theorem dX7_edgeBy_29 : decode cX7_edgeBy 29 = .ok (.invokestatic 182, 3) := by decide +kernel
theorem dX7_edgeBy_32 : decode cX7_edgeBy 32 = .ok (.ifCond .eq 9, 3) := by decide +kernel
theorem dX7_edgeBy_35 : decode cX7_edgeBy 35 = .ok (.iload 4, 2) := by decide +kernel
theorem dX7_edgeBy_37 : decode cX7_edgeBy 37 = .ok (.iload 5, 2) := by decide +kernel
theorem dX7_edgeBy_39 : decode cX7_edgeBy 39 = .ok (.isub, 1) := by decide +kernel
theorem dX7_edgeBy_40 : decode cX7_edgeBy 40 = .ok (.ireturn, 1) := by decide +kernel
theorem dX7_edgeBy_41 : decode cX7_edgeBy 41 = .ok (.iload 4, 2) := by decide +kernel
theorem dX7_edgeBy_43 : decode cX7_edgeBy 43 = .ok (.aload_n 0, 1) := by decide +kernel
theorem dX7_edgeBy_44 : decode cX7_edgeBy 44 = .ok (.iload_n 1, 1) := by decide +kernel
theorem dX7_edgeBy_45 : decode cX7_edgeBy 45 = .ok (.iload_n 3, 1) := by decide +kernel
theorem dX7_edgeBy_46 : decode cX7_edgeBy 46 = .ok (.ifCond .eq 7, 3) := by decide +kernel
theorem dX7_edgeBy_49 : decode cX7_edgeBy 49 = .ok (.iconst 3, 1) := by decide +kernel
theorem dX7_edgeBy_50 : decode cX7_edgeBy 50 = .ok (.goto 4, 3) := by decide +kernel
theorem dX7_edgeBy_53 : decode cX7_edgeBy 53 = .ok (.iconst 2, 1) := by decide +kernel
theorem dX7_edgeBy_54 : decode cX7_edgeBy 54 = .ok (.invokevirtual 91, 3) := by decide +kernel
theorem dX7_edgeBy_57 : decode cX7_edgeBy 57 = .ok (.iadd, 1) := by decide +kernel
theorem dX7_edgeBy_58 : decode cX7_edgeBy 58 = .ok (.iload 5, 2) := by decide +kernel
theorem dX7_edgeBy_60 : decode cX7_edgeBy 60 = .ok (.iadd, 1) := by decide +kernel
theorem dX7_edgeBy_61 : decode cX7_edgeBy 61 = .ok (.ireturn, 1) := by decide +kernel
theorem dX7_spansMeet_0 : decode cX7_spansMeet 0 = .ok (.iload_n 0, 1) := by decide +kernel
theorem dX7_spansMeet_1 : decode cX7_spansMeet 1 = .ok (.iload_n 2, 1) := by decide +kernel
theorem dX7_spansMeet_2 : decode cX7_spansMeet 2 = .ok (.iload_n 3, 1) := by decide +kernel
theorem dX7_spansMeet_3 : decode cX7_spansMeet 3 = .ok (.iadd, 1) := by decide +kernel
theorem dX7_spansMeet_4 : decode cX7_spansMeet 4 = .ok (.if_icmp .ge 14, 3) := by decide +kernel
theorem dX7_spansMeet_7 : decode cX7_spansMeet 7 = .ok (.iload_n 2, 1) := by decide +kernel
theorem dX7_spansMeet_8 : decode cX7_spansMeet 8 = .ok (.iload_n 0, 1) := by decide +kernel
theorem dX7_spansMeet_9 : decode cX7_spansMeet 9 = .ok (.iload_n 1, 1) := by decide +kernel
theorem dX7_spansMeet_10 : decode cX7_spansMeet 10 = .ok (.iadd, 1) := by decide +kernel
theorem dX7_spansMeet_11 : decode cX7_spansMeet 11 = .ok (.if_icmp .ge 7, 3) := by decide +kernel
theorem dX7_spansMeet_14 : decode cX7_spansMeet 14 = .ok (.iconst 1, 1) := by decide +kernel
theorem dX7_spansMeet_15 : decode cX7_spansMeet 15 = .ok (.goto 4, 3) := by decide +kernel
theorem dX7_spansMeet_18 : decode cX7_spansMeet 18 = .ok (.iconst 0, 1) := by decide +kernel
theorem dX7_spansMeet_19 : decode cX7_spansMeet 19 = .ok (.ireturn, 1) := by decide +kernel
theorem dX7_spanLiesIn_0 : decode cX7_spanLiesIn 0 = .ok (.iload_n 0, 1) := by decide +kernel
theorem dX7_spanLiesIn_1 : decode cX7_spanLiesIn 1 = .ok (.iload_n 2, 1) := by decide +kernel
theorem dX7_spanLiesIn_2 : decode cX7_spanLiesIn 2 = .ok (.if_icmp .lt 16, 3) := by decide +kernel
theorem dX7_spanLiesIn_5 : decode cX7_spanLiesIn 5 = .ok (.iload_n 0, 1) := by decide +kernel
theorem dX7_spanLiesIn_6 : decode cX7_spanLiesIn 6 = .ok (.iload_n 1, 1) := by decide +kernel
theorem dX7_spanLiesIn_7 : decode cX7_spanLiesIn 7 = .ok (.iadd, 1) := by decide +kernel
theorem dX7_spanLiesIn_8 : decode cX7_spanLiesIn 8 = .ok (.iload_n 2, 1) := by decide +kernel
theorem dX7_spanLiesIn_9 : decode cX7_spanLiesIn 9 = .ok (.iload_n 3, 1) := by decide +kernel
theorem dX7_spanLiesIn_10 : decode cX7_spanLiesIn 10 = .ok (.iadd, 1) := by decide +kernel
theorem dX7_spanLiesIn_11 : decode cX7_spanLiesIn 11 = .ok (.if_icmp .gt 7, 3) := by decide +kernel
theorem dX7_spanLiesIn_14 : decode cX7_spanLiesIn 14 = .ok (.iconst 1, 1) := by decide +kernel
theorem dX7_spanLiesIn_15 : decode cX7_spanLiesIn 15 = .ok (.goto 4, 3) := by decide +kernel
theorem dX7_spanLiesIn_18 : decode cX7_spanLiesIn 18 = .ok (.iconst 0, 1) := by decide +kernel
theorem dX7_spanLiesIn_19 : decode cX7_spanLiesIn 19 = .ok (.ireturn, 1) := by decide +kernel
theorem dJ9_floorDiv_7cf53_0 : decode cJ9_floorDiv_7cf53 0 = .ok (.iload_n 0, 1) := by decide +kernel
theorem dJ9_floorDiv_7cf53_1 : decode cJ9_floorDiv_7cf53 1 = .ok (.iload_n 1, 1) := by decide +kernel
theorem dJ9_floorDiv_7cf53_2 : decode cJ9_floorDiv_7cf53 2 = .ok (.idiv, 1) := by decide +kernel
theorem dJ9_floorDiv_7cf53_3 : decode cJ9_floorDiv_7cf53 3 = .ok (.istore_n 2, 1) := by decide +kernel
theorem dJ9_floorDiv_7cf53_4 : decode cJ9_floorDiv_7cf53 4 = .ok (.iload_n 0, 1) := by decide +kernel
theorem dJ9_floorDiv_7cf53_5 : decode cJ9_floorDiv_7cf53 5 = .ok (.iload_n 1, 1) := by decide +kernel
theorem dJ9_floorDiv_7cf53_6 : decode cJ9_floorDiv_7cf53 6 = .ok (.ixor, 1) := by decide +kernel
theorem dJ9_floorDiv_7cf53_7 : decode cJ9_floorDiv_7cf53 7 = .ok (.ifCond .ge 14, 3) := by decide +kernel
theorem dJ9_floorDiv_7cf53_10 : decode cJ9_floorDiv_7cf53 10 = .ok (.iload_n 2, 1) := by decide +kernel
theorem dJ9_floorDiv_7cf53_11 : decode cJ9_floorDiv_7cf53 11 = .ok (.iload_n 1, 1) := by decide +kernel
theorem dJ9_floorDiv_7cf53_12 : decode cJ9_floorDiv_7cf53 12 = .ok (.imul, 1) := by decide +kernel
theorem dJ9_floorDiv_7cf53_13 : decode cJ9_floorDiv_7cf53 13 = .ok (.iload_n 0, 1) := by decide +kernel
theorem dJ9_floorDiv_7cf53_14 : decode cJ9_floorDiv_7cf53 14 = .ok (.if_icmp .eq 7, 3) := by decide +kernel
theorem dJ9_floorDiv_7cf53_17 : decode cJ9_floorDiv_7cf53 17 = .ok (.iload_n 2, 1) := by decide +kernel
theorem dJ9_floorDiv_7cf53_18 : decode cJ9_floorDiv_7cf53 18 = .ok (.iconst 1, 1) := by decide +kernel
theorem dJ9_floorDiv_7cf53_19 : decode cJ9_floorDiv_7cf53 19 = .ok (.isub, 1) := by decide +kernel
theorem dJ9_floorDiv_7cf53_20 : decode cJ9_floorDiv_7cf53 20 = .ok (.ireturn, 1) := by decide +kernel
theorem dJ9_floorDiv_7cf53_21 : decode cJ9_floorDiv_7cf53 21 = .ok (.iload_n 2, 1) := by decide +kernel
theorem dJ9_floorDiv_7cf53_22 : decode cJ9_floorDiv_7cf53 22 = .ok (.ireturn, 1) := by decide +kernel
theorem dJ9_max_7cf53_0 : decode cJ9_max_7cf53 0 = .ok (.iload_n 0, 1) := by decide +kernel
theorem dJ9_max_7cf53_1 : decode cJ9_max_7cf53 1 = .ok (.iload_n 1, 1) := by decide +kernel
theorem dJ9_max_7cf53_2 : decode cJ9_max_7cf53 2 = .ok (.if_icmp .lt 7, 3) := by decide +kernel
theorem dJ9_max_7cf53_5 : decode cJ9_max_7cf53 5 = .ok (.iload_n 0, 1) := by decide +kernel
theorem dJ9_max_7cf53_6 : decode cJ9_max_7cf53 6 = .ok (.goto 4, 3) := by decide +kernel
theorem dJ9_max_7cf53_9 : decode cJ9_max_7cf53 9 = .ok (.iload_n 1, 1) := by decide +kernel
theorem dJ9_max_7cf53_10 : decode cJ9_max_7cf53 10 = .ok (.ireturn, 1) := by decide +kernel
theorem dJ9_min_7cf53_0 : decode cJ9_min_7cf53 0 = .ok (.iload_n 0, 1) := by decide +kernel
theorem dJ9_min_7cf53_1 : decode cJ9_min_7cf53 1 = .ok (.iload_n 1, 1) := by decide +kernel
theorem dJ9_min_7cf53_2 : decode cJ9_min_7cf53 2 = .ok (.if_icmp .gt 7, 3) := by decide +kernel
theorem dJ9_min_7cf53_5 : decode cJ9_min_7cf53 5 = .ok (.iload_n 0, 1) := by decide +kernel
theorem dJ9_min_7cf53_6 : decode cJ9_min_7cf53 6 = .ok (.goto 4, 3) := by decide +kernel
theorem dJ9_min_7cf53_9 : decode cJ9_min_7cf53 9 = .ok (.iload_n 1, 1) := by decide +kernel
theorem dJ9_min_7cf53_10 : decode cJ9_min_7cf53 10 = .ok (.ireturn, 1) := by decide +kernel
end
section
theorem dX8_init_0 : decode cX8_init 0 = .ok (.aload_n 0, 1) := by decide +kernel
theorem dX8_init_1 : decode cX8_init 1 = .ok (.invokespecial 1, 3) := by decide +kernel
theorem dX8_init_4 : decode cX8_init 4 = .ok (.aload_n 0, 1) := by decide +kernel
theorem dX8_init_5 : decode cX8_init 5 = .ok (.sipush 172, 3) := by decide +kernel
theorem dX8_init_8 : decode cX8_init 8 = .ok (.newarray .int, 2) := by decide +kernel
theorem dX8_init_10 : decode cX8_init 10 = .ok (.putfield 7, 3) := by decide +kernel
theorem dX8_init_13 : decode cX8_init 13 = .ok (.aload_n 0, 1) := by decide +kernel
theorem dX8_init_14 : decode cX8_init 14 = .ok (.sipush 860, 3) := by decide +kernel
theorem dX8_init_17 : decode cX8_init 17 = .ok (.newarray .int, 2) := by decide +kernel
theorem dX8_init_19 : decode cX8_init 19 = .ok (.putfield 13, 3) := by decide +kernel
theorem dX8_init_22 : decode cX8_init 22 = .ok (.aload_n 0, 1) := by decide +kernel
theorem dX8_init_23 : decode cX8_init 23 = .ok (.bipush 60, 2) := by decide +kernel
theorem dX8_init_25 : decode cX8_init 25 = .ok (.newarray .char, 2) := by decide +kernel
theorem dX8_init_27 : decode cX8_init 27 = .ok (.putfield 16, 3) := by decide +kernel
theorem dX8_init_30 : decode cX8_init 30 = .ok (.aload_n 0, 1) := by decide +kernel
theorem dX8_init_31 : decode cX8_init 31 = .ok (.bipush 12, 2) := by decide +kernel
theorem dX8_init_33 : decode cX8_init 33 = .ok (.newarray .int, 2) := by decide +kernel
theorem dX8_init_35 : decode cX8_init 35 = .ok (.putfield 20, 3) := by decide +kernel
theorem dX8_init_38 : decode cX8_init 38 = .ok (.aload_n 0, 1) := by decide +kernel
theorem dX8_init_39 : decode cX8_init 39 = .ok (.bipush 12, 2) := by decide +kernel
theorem dX8_init_41 : decode cX8_init 41 = .ok (.newarray .int, 2) := by decide +kernel
theorem dX8_init_43 : decode cX8_init 43 = .ok (.putfield 23, 3) := by decide +kernel
theorem dX8_init_46 : decode cX8_init 46 = .ok (.aload_n 0, 1) := by decide +kernel
theorem dX8_init_47 : decode cX8_init 47 = .ok (.bipush 12, 2) := by decide +kernel
theorem dX8_init_49 : decode cX8_init 49 = .ok (.newarray .int, 2) := by decide +kernel
theorem dX8_init_51 : decode cX8_init 51 = .ok (.putfield 26, 3) := by decide +kernel
theorem dX8_init_54 : decode cX8_init 54 = .ok (.aload_n 0, 1) := by decide +kernel
theorem dX8_init_55 : decode cX8_init 55 = .ok (.iconst 5, 1) := by decide +kernel
theorem dX8_init_56 : decode cX8_init 56 = .ok (.newarray .int, 2) := by decide +kernel
theorem dX8_init_58 : decode cX8_init 58 = .ok (.putfield 29, 3) := by decide +kernel
theorem dX8_init_61 : decode cX8_init 61 = .ok (.aload_n 0, 1) := by decide +kernel
theorem dX8_init_62 : decode cX8_init 62 = .ok (.getfield 7, 3) := by decide +kernel
theorem dX8_init_65 : decode cX8_init 65 = .ok (.iconst 2, 1) := by decide +kernel
theorem dX8_init_66 : decode cX8_init 66 = .ok (.sipush 200, 3) := by decide +kernel
theorem dX8_init_69 : decode cX8_init 69 = .ok (.iastore, 1) := by decide +kernel
theorem dX8_init_70 : decode cX8_init 70 = .ok (.aload_n 0, 1) := by decide +kernel
theorem dX8_init_71 : decode cX8_init 71 = .ok (.getfield 7, 3) := by decide +kernel
theorem dX8_init_74 : decode cX8_init 74 = .ok (.iconst 3, 1) := by decide +kernel
theorem dX8_init_75 : decode cX8_init 75 = .ok (.bipush 120, 2) := by decide +kernel
theorem dX8_init_77 : decode cX8_init 77 = .ok (.iastore, 1) := by decide +kernel
theorem dX8_init_78 : decode cX8_init 78 = .ok (.aload_n 0, 1) := by decide +kernel
theorem dX8_init_79 : decode cX8_init 79 = .ok (.getfield 7, 3) := by decide +kernel
theorem dX8_init_82 : decode cX8_init 82 = .ok (.iconst 4, 1) := by decide +kernel
theorem dX8_init_83 : decode cX8_init 83 = .ok (.iconst 4, 1) := by decide +kernel
theorem dX8_init_84 : decode cX8_init 84 = .ok (.iastore, 1) := by decide +kernel
theorem dX8_init_85 : decode cX8_init 85 = .ok (.aload_n 0, 1) := by decide +kernel
theorem dX8_init_86 : decode cX8_init 86 = .ok (.getfield 7, 3) := by decide +kernel
theorem dX8_init_89 : decode cX8_init 89 = .ok (.iconst 5, 1) := by decide +kernel
theorem dX8_init_90 : decode cX8_init 90 = .ok (.bipush 6, 2) := by decide +kernel
theorem dX8_init_92 : decode cX8_init 92 = .ok (.iastore, 1) := by decide +kernel
theorem dX8_init_93 : decode cX8_init 93 = .ok (.aload_n 0, 1) := by decide +kernel
theorem dX8_init_94 : decode cX8_init 94 = .ok (.getfield 7, 3) := by decide +kernel
theorem dX8_init_97 : decode cX8_init 97 = .ok (.bipush 6, 2) := by decide +kernel
theorem dX8_init_99 : decode cX8_init 99 = .ok (.iconst 3, 1) := by decide +kernel
theorem dX8_init_100 : decode cX8_init 100 = .ok (.iastore, 1) := by decide +kernel
theorem dX8_init_101 : decode cX8_init 101 = .ok (.aload_n 0, 1) := by decide +kernel
theorem dX8_init_102 : decode cX8_init 102 = .ok (.getfield 7, 3) := by decide +kernel
theorem dX8_init_105 : decode cX8_init 105 = .ok (.bipush 7, 2) := by decide +kernel
theorem dX8_init_107 : decode cX8_init 107 = .ok (.iconst 1, 1) := by decide +kernel
theorem dX8_init_108 : decode cX8_init 108 = .ok (.iastore, 1) := by decide +kernel
theorem dX8_init_109 : decode cX8_init 109 = .ok (.return_, 1) := by decide +kernel
theorem dX8_in_0 : decode cX8_in 0 = .ok (.iload_n 0, 1) := by decide +kernel
theorem dX8_in_1 : decode cX8_in 1 = .ok (.iload_n 1, 1) := by decide +kernel
theorem dX8_in_2 : decode cX8_in 2 = .ok (.if_icmp .lt 12, 3) := by decide +kernel
theorem dX8_in_5 : decode cX8_in 5 = .ok (.iload_n 0, 1) := by decide +kernel
theorem dX8_in_6 : decode cX8_in 6 = .ok (.iload_n 2, 1) := by decide +kernel
theorem dX8_in_7 : decode cX8_in 7 = .ok (.if_icmp .gt 7, 3) := by decide +kernel
theorem dX8_in_10 : decode cX8_in 10 = .ok (.iconst 1, 1) := by decide +kernel
theorem dX8_in_11 : decode cX8_in 11 = .ok (.goto 4, 3) := by decide +kernel
theorem dX8_in_14 : decode cX8_in 14 = .ok (.iconst 0, 1) := by decide +kernel
theorem dX8_in_15 : decode cX8_in 15 = .ok (.ireturn, 1) := by decide +kernel
theorem dX8_half_0 : decode cX8_half 0 = .ok (.iload_n 0, 1) := by decide +kernel
theorem dX8_half_1 : decode cX8_half 1 = .ok (.ifCond .lt 9, 3) := by decide +kernel
theorem dX8_half_4 : decode cX8_half 4 = .ok (.iload_n 0, 1) := by decide +kernel
theorem dX8_half_5 : decode cX8_half 5 = .ok (.iconst 2, 1) := by decide +kernel
theorem dX8_half_6 : decode cX8_half 6 = .ok (.idiv, 1) := by decide +kernel
theorem dX8_half_7 : decode cX8_half 7 = .ok (.goto 9, 3) := by decide +kernel
theorem dX8_half_10 : decode cX8_half 10 = .ok (.iconst 1, 1) := by decide +kernel
theorem dX8_half_11 : decode cX8_half 11 = .ok (.iload_n 0, 1) := by decide +kernel
theorem dX8_half_12 : decode cX8_half 12 = .ok (.isub, 1) := by decide +kernel
theorem dX8_half_13 : decode cX8_half 13 = .ok (.iconst 2, 1) := by decide +kernel
theorem dX8_half_14 : decode cX8_half 14 = .ok (.idiv, 1) := by decide +kernel
theorem dX8_half_15 : decode cX8_half 15 = .ok (.ineg, 1) := by decide +kernel
theorem dX8_half_16 : decode cX8_half 16 = .ok (.ireturn, 1) := by decide +kernel
theorem dX8_isAnchor_0 : decode cX8_isAnchor 0 = .ok (.iload_n 1, 1) := by decide +kernel
theorem dX8_isAnchor_1 : decode cX8_isAnchor 1 = .ok (.iconst 0, 1) := by decide +kernel
theorem dX8_isAnchor_2 : decode cX8_isAnchor 2 = .ok (.aload_n 0, 1) := by decide +kernel
theorem dX8_isAnchor_3 : decode cX8_isAnchor 3 = .ok (.getfield 7, 3) := by decide +kernel
theorem dX8_isAnchor_6 : decode cX8_isAnchor 6 = .ok (.bipush 9, 2) := by decide +kernel
theorem dX8_isAnchor_8 : decode cX8_isAnchor 8 = .ok (.iaload, 1) := by decide +kernel
theorem dX8_isAnchor_9 : decode cX8_isAnchor 9 = .ok (.iconst 1, 1) := by decide +kernel
theorem dX8_isAnchor_10 : decode cX8_isAnchor 10 = .ok (.isub, 1) := by decide +kernel
theorem dX8_isAnchor_11 : decode cX8_isAnchor 11 = .ok (.invokestatic 32, 3) := by decide +kernel
theorem dX8_isAnchor_14 : decode cX8_isAnchor 14 = .ok (.ireturn, 1) := by decide +kernel
theorem dX8_isHint_0 : decode cX8_isHint 0 = .ok (.iload_n 1, 1) := by decide +kernel
theorem dX8_isHint_1 : decode cX8_isHint 1 = .ok (.iconst 0, 1) := by decide +kernel
theorem dX8_isHint_2 : decode cX8_isHint 2 = .ok (.aload_n 0, 1) := by decide +kernel
theorem dX8_isHint_3 : decode cX8_isHint 3 = .ok (.getfield 7, 3) := by decide +kernel
theorem dX8_isHint_6 : decode cX8_isHint 6 = .ok (.bipush 50, 2) := by decide +kernel
theorem dX8_isHint_8 : decode cX8_isHint 8 = .ok (.iaload, 1) := by decide +kernel
theorem dX8_isHint_9 : decode cX8_isHint 9 = .ok (.iconst 1, 1) := by decide +kernel
theorem dX8_isHint_10 : decode cX8_isHint 10 = .ok (.isub, 1) := by decide +kernel
theorem dX8_isHint_11 : decode cX8_isHint 11 = .ok (.invokestatic 32, 3) := by decide +kernel
theorem dX8_isHint_14 : decode cX8_isHint 14 = .ok (.ireturn, 1) := by decide +kernel
theorem dX8_ofAnchor_0 : decode cX8_ofAnchor 0 = .ok (.aload_n 0, 1) := by decide +kernel
theorem dX8_ofAnchor_1 : decode cX8_ofAnchor 1 = .ok (.getfield 7, 3) := by decide +kernel
theorem dX8_ofAnchor_4 : decode cX8_ofAnchor 4 = .ok (.bipush 10, 2) := by decide +kernel
theorem dX8_ofAnchor_6 : decode cX8_ofAnchor 6 = .ok (.bipush 10, 2) := by decide +kernel
theorem dX8_ofAnchor_8 : decode cX8_ofAnchor 8 = .ok (.iload_n 2, 1) := by decide +kernel
theorem dX8_ofAnchor_9 : decode cX8_ofAnchor 9 = .ok (.imul, 1) := by decide +kernel
theorem dX8_ofAnchor_10 : decode cX8_ofAnchor 10 = .ok (.iadd, 1) := by decide +kernel
theorem dX8_ofAnchor_11 : decode cX8_ofAnchor 11 = .ok (.iload_n 1, 1) := by decide +kernel
theorem dX8_ofAnchor_12 : decode cX8_ofAnchor 12 = .ok (.iadd, 1) := by decide +kernel
theorem dX8_ofAnchor_13 : decode cX8_ofAnchor 13 = .ok (.iaload, 1) := by decide +kernel
theorem dX8_ofAnchor_14 : decode cX8_ofAnchor 14 = .ok (.ireturn, 1) := by decide +kernel
theorem dX8_ofHint_0 : decode cX8_ofHint 0 = .ok (.aload_n 0, 1) := by decide +kernel
theorem dX8_ofHint_1 : decode cX8_ofHint 1 = .ok (.getfield 7, 3) := by decide +kernel
theorem dX8_ofHint_4 : decode cX8_ofHint 4 = .ok (.bipush 51, 2) := by decide +kernel
theorem dX8_ofHint_6 : decode cX8_ofHint 6 = .ok (.bipush 12, 2) := by decide +kernel
theorem dX8_ofHint_8 : decode cX8_ofHint 8 = .ok (.iload_n 2, 1) := by decide +kernel
theorem dX8_ofHint_9 : decode cX8_ofHint 9 = .ok (.imul, 1) := by decide +kernel
theorem dX8_ofHint_10 : decode cX8_ofHint 10 = .ok (.iadd, 1) := by decide +kernel
theorem dX8_ofHint_11 : decode cX8_ofHint 11 = .ok (.iload_n 1, 1) := by decide +kernel
theorem dX8_ofHint_12 : decode cX8_ofHint 12 = .ok (.iadd, 1) := by decide +kernel
theorem dX8_ofHint_13 : decode cX8_ofHint 13 = .ok (.iaload, 1) := by decide +kernel
theorem dX8_ofHint_14 : decode cX8_ofHint 14 = .ok (.ireturn, 1) := by decide +kernel
theorem dX8_records_0 : decode cX8_records 0 = .ok (.aload_n 0, 1) := by decide +kernel
theorem dX8_records_1 : decode cX8_records 1 = .ok (.getfield 36, 3) := by decide +kernel
theorem dX8_records_4 : decode cX8_records 4 = .ok (.iconst 5, 1) := by decide +kernel
theorem dX8_records_5 : decode cX8_records 5 = .ok (.if_icmp .ne 44, 3) := by decide +kernel
theorem dX8_records_8 : decode cX8_records 8 = .ok (.iconst 0, 1) := by decide +kernel
theorem dX8_records_9 : decode cX8_records 9 = .ok (.istore_n 1, 1) := by decide +kernel
theorem dX8_records_10 : decode cX8_records 10 = .ok (.iload_n 1, 1) := by decide +kernel
theorem dX8_records_11 : decode cX8_records 11 = .ok (.sipush 688, 3) := by decide +kernel
theorem dX8_records_14 : decode cX8_records 14 = .ok (.if_icmp .ge 25, 3) := by decide +kernel
theorem dX8_records_17 : decode cX8_records 17 = .ok (.aload_n 0, 1) := by decide +kernel
theorem dX8_records_18 : decode cX8_records 18 = .ok (.getfield 13, 3) := by decide +kernel
theorem dX8_records_21 : decode cX8_records 21 = .ok (.iload_n 1, 1) := by decide +kernel
theorem dX8_records_22 : decode cX8_records 22 = .ok (.aload_n 0, 1) := by decide +kernel
theorem dX8_records_23 : decode cX8_records 23 = .ok (.getfield 13, 3) := by decide +kernel
theorem dX8_records_26 : decode cX8_records 26 = .ok (.iload_n 1, 1) := by decide +kernel
theorem dX8_records_27 : decode cX8_records 27 = .ok (.sipush 172, 3) := by decide +kernel
theorem dX8_records_30 : decode cX8_records 30 = .ok (.iadd, 1) := by decide +kernel
theorem dX8_records_31 : decode cX8_records 31 = .ok (.iaload, 1) := by decide +kernel
theorem dX8_records_32 : decode cX8_records 32 = .ok (.iastore, 1) := by decide +kernel
theorem dX8_records_33 : decode cX8_records 33 = .ok (.iinc 1 1, 3) := by decide +kernel
theorem dX8_records_36 : decode cX8_records 36 = .ok (.goto (-26), 3) := by decide +kernel
theorem dX8_records_39 : decode cX8_records 39 = .ok (.aload_n 0, 1) := by decide +kernel
theorem dX8_records_40 : decode cX8_records 40 = .ok (.dup, 1) := by decide +kernel
theorem dX8_records_41 : decode cX8_records 41 = .ok (.getfield 36, 3) := by decide +kernel
theorem dX8_records_44 : decode cX8_records 44 = .ok (.iconst 1, 1) := by decide +kernel
theorem dX8_records_45 : decode cX8_records 45 = .ok (.isub, 1) := by decide +kernel
theorem dX8_records_46 : decode cX8_records 46 = .ok (.putfield 36, 3) := by decide +kernel
theorem dX8_records_49 : decode cX8_records 49 = .ok (.iconst 0, 1) := by decide +kernel
theorem dX8_records_50 : decode cX8_records 50 = .ok (.istore_n 1, 1) := by decide +kernel
theorem dX8_records_51 : decode cX8_records 51 = .ok (.iload_n 1, 1) := by decide +kernel
theorem dX8_records_52 : decode cX8_records 52 = .ok (.sipush 172, 3) := by decide +kernel
theorem dX8_records_55 : decode cX8_records 55 = .ok (.if_icmp .ge 30, 3) := by decide +kernel
theorem dX8_records_58 : decode cX8_records 58 = .ok (.aload_n 0, 1) := by decide +kernel
theorem dX8_records_59 : decode cX8_records 59 = .ok (.getfield 13, 3) := by decide +kernel
theorem dX8_records_62 : decode cX8_records 62 = .ok (.sipush 172, 3) := by decide +kernel
theorem dX8_records_65 : decode cX8_records 65 = .ok (.aload_n 0, 1) := by decide +kernel
theorem dX8_records_66 : decode cX8_records 66 = .ok (.getfield 36, 3) := by decide +kernel
theorem dX8_records_69 : decode cX8_records 69 = .ok (.imul, 1) := by decide +kernel
theorem dX8_records_70 : decode cX8_records 70 = .ok (.iload_n 1, 1) := by decide +kernel
theorem dX8_records_71 : decode cX8_records 71 = .ok (.iadd, 1) := by decide +kernel
theorem dX8_records_72 : decode cX8_records 72 = .ok (.aload_n 0, 1) := by decide +kernel
theorem dX8_records_73 : decode cX8_records 73 = .ok (.getfield 7, 3) := by decide +kernel
theorem dX8_records_76 : decode cX8_records 76 = .ok (.iload_n 1, 1) := by decide +kernel
theorem dX8_records_77 : decode cX8_records 77 = .ok (.iaload, 1) := by decide +kernel
theorem dX8_records_78 : decode cX8_records 78 = .ok (.iastore, 1) := by decide +kernel
theorem dX8_records_79 : decode cX8_records 79 = .ok (.iinc 1 1, 3) := by decide +kernel
theorem dX8_records_82 : decode cX8_records 82 = .ok (.goto (-31), 3) := by decide +kernel
theorem dX8_records_85 : decode cX8_records 85 = .ok (.aload_n 0, 1) := by decide +kernel
theorem dX8_records_86 : decode cX8_records 86 = .ok (.dup, 1) := by decide +kernel
theorem dX8_records_87 : decode cX8_records 87 = .ok (.getfield 36, 3) := by decide +kernel
theorem dX8_records_90 : decode cX8_records 90 = .ok (.iconst 1, 1) := by decide +kernel
theorem dX8_records_91 : decode cX8_records 91 = .ok (.iadd, 1) := by decide +kernel
theorem dX8_records_92 : decode cX8_records 92 = .ok (.putfield 36, 3) := by decide +kernel
theorem dX8_records_95 : decode cX8_records 95 = .ok (.return_, 1) := by decide +kernel
theorem dX8_meets_0 : decode cX8_meets 0 = .ok (.iload_n 0, 1) := by decide +kernel
theorem dX8_meets_1 : decode cX8_meets 1 = .ok (.iload 4, 2) := by decide +kernel
theorem dX8_meets_3 : decode cX8_meets 3 = .ok (.iload 6, 2) := by decide +kernel
theorem dX8_meets_5 : decode cX8_meets 5 = .ok (.iadd, 1) := by decide +kernel
theorem dX8_meets_6 : decode cX8_meets 6 = .ok (.if_icmp .ge 32, 3) := by decide +kernel
theorem dX8_meets_9 : decode cX8_meets 9 = .ok (.iload 4, 2) := by decide +kernel
theorem dX8_meets_11 : decode cX8_meets 11 = .ok (.iload_n 0, 1) := by decide +kernel
theorem dX8_meets_12 : decode cX8_meets 12 = .ok (.iload_n 2, 1) := by decide +kernel
theorem dX8_meets_13 : decode cX8_meets 13 = .ok (.iadd, 1) := by decide +kernel
theorem dX8_meets_14 : decode cX8_meets 14 = .ok (.if_icmp .ge 24, 3) := by decide +kernel
theorem dX8_meets_17 : decode cX8_meets 17 = .ok (.iload_n 1, 1) := by decide +kernel
theorem dX8_meets_18 : decode cX8_meets 18 = .ok (.iload 5, 2) := by decide +kernel
theorem dX8_meets_20 : decode cX8_meets 20 = .ok (.iload 7, 2) := by decide +kernel
theorem dX8_meets_22 : decode cX8_meets 22 = .ok (.iadd, 1) := by decide +kernel
theorem dX8_meets_23 : decode cX8_meets 23 = .ok (.if_icmp .ge 15, 3) := by decide +kernel
theorem dX8_meets_26 : decode cX8_meets 26 = .ok (.iload 5, 2) := by decide +kernel
theorem dX8_meets_28 : decode cX8_meets 28 = .ok (.iload_n 1, 1) := by decide +kernel
theorem dX8_meets_29 : decode cX8_meets 29 = .ok (.iload_n 3, 1) := by decide +kernel
theorem dX8_meets_30 : decode cX8_meets 30 = .ok (.iadd, 1) := by decide +kernel
theorem dX8_meets_31 : decode cX8_meets 31 = .ok (.if_icmp .ge 7, 3) := by decide +kernel
theorem dX8_meets_34 : decode cX8_meets 34 = .ok (.iconst 1, 1) := by decide +kernel
theorem dX8_meets_35 : decode cX8_meets 35 = .ok (.goto 4, 3) := by decide +kernel
theorem dX8_meets_38 : decode cX8_meets 38 = .ok (.iconst 0, 1) := by decide +kernel
theorem dX8_meets_39 : decode cX8_meets 39 = .ok (.ireturn, 1) := by decide +kernel
theorem dX8_isSeen_0 : decode cX8_isSeen 0 = .ok (.aload_n 0, 1) := by decide +kernel
theorem dX8_isSeen_1 : decode cX8_isSeen 1 = .ok (.iload_n 1, 1) := by decide +kernel
theorem dX8_isSeen_2 : decode cX8_isSeen 2 = .ok (.iconst 0, 1) := by decide +kernel
theorem dX8_isSeen_3 : decode cX8_isSeen 3 = .ok (.invokevirtual 40, 3) := by decide +kernel
theorem dX8_isSeen_6 : decode cX8_isSeen 6 = .ok (.aload_n 0, 1) := by decide +kernel
theorem dX8_isSeen_7 : decode cX8_isSeen 7 = .ok (.iload_n 1, 1) := by decide +kernel
theorem dX8_isSeen_8 : decode cX8_isSeen 8 = .ok (.iconst 1, 1) := by decide +kernel
theorem dX8_isSeen_9 : decode cX8_isSeen 9 = .ok (.invokevirtual 40, 3) := by decide +kernel
theorem dX8_isSeen_12 : decode cX8_isSeen 12 = .ok (.aload_n 0, 1) := by decide +kernel
theorem dX8_isSeen_13 : decode cX8_isSeen 13 = .ok (.iload_n 1, 1) := by decide +kernel
theorem dX8_isSeen_14 : decode cX8_isSeen 14 = .ok (.iconst 2, 1) := by decide +kernel
theorem dX8_isSeen_15 : decode cX8_isSeen 15 = .ok (.invokevirtual 40, 3) := by decide +kernel
theorem dX8_isSeen_18 : decode cX8_isSeen 18 = .ok (.aload_n 0, 1) := by decide +kernel
theorem dX8_isSeen_19 : decode cX8_isSeen 19 = .ok (.iload_n 1, 1) := by decide +kernel
theorem dX8_isSeen_20 : decode cX8_isSeen 20 = .ok (.iconst 3, 1) := by decide +kernel
theorem dX8_isSeen_21 : decode cX8_isSeen 21 = .ok (.invokevirtual 40, 3) := by decide +kernel
theorem dX8_isSeen_24 : decode cX8_isSeen 24 = .ok (.aload_n 0, 1) := by decide +kernel
theorem dX8_isSeen_25 : decode cX8_isSeen 25 = .ok (.getfield 7, 3) := by decide +kernel
theorem dX8_isSeen_28 : decode cX8_isSeen 28 = .ok (.iconst 0, 1) := by decide +kernel
theorem dX8_isSeen_29 : decode cX8_isSeen 29 = .ok (.iaload, 1) := by decide +kernel
theorem dX8_isSeen_30 : decode cX8_isSeen 30 = .ok (.aload_n 0, 1) := by decide +kernel
theorem dX8_isSeen_31 : decode cX8_isSeen 31 = .ok (.getfield 7, 3) := by decide +kernel
theorem dX8_isSeen_34 : decode cX8_isSeen 34 = .ok (.iconst 1, 1) := by decide +kernel
theorem dX8_isSeen_35 : decode cX8_isSeen 35 = .ok (.iaload, 1) := by decide +kernel
theorem dX8_isSeen_36 : decode cX8_isSeen 36 = .ok (.aload_n 0, 1) := by decide +kernel
theorem dX8_isSeen_37 : decode cX8_isSeen 37 = .ok (.getfield 7, 3) := by decide +kernel
theorem dX8_isSeen_40 : decode cX8_isSeen 40 = .ok (.iconst 2, 1) := by decide +kernel
theorem dX8_isSeen_41 : decode cX8_isSeen 41 = .ok (.iaload, 1) := by decide +kernel
theorem dX8_isSeen_42 : decode cX8_isSeen 42 = .ok (.aload_n 0, 1) := by decide +kernel
theorem dX8_isSeen_43 : decode cX8_isSeen 43 = .ok (.getfield 7, 3) := by decide +kernel
theorem dX8_isSeen_46 : decode cX8_isSeen 46 = .ok (.iconst 3, 1) := by decide +kernel
theorem dX8_isSeen_47 : decode cX8_isSeen 47 = .ok (.iaload, 1) := by decide +kernel
theorem dX8_isSeen_48 : decode cX8_isSeen 48 = .ok (.invokestatic 44, 3) := by decide +kernel
theorem dX8_isSeen_51 : decode cX8_isSeen 51 = .ok (.ireturn, 1) := by decide +kernel
theorem dX8_isGood_0 : decode cX8_isGood 0 = .ok (.iload_n 1, 1) := by decide +kernel
theorem dX8_isGood_1 : decode cX8_isGood 1 = .ok (.aload_n 0, 1) := by decide +kernel
theorem dX8_isGood_2 : decode cX8_isGood 2 = .ok (.getfield 7, 3) := by decide +kernel
theorem dX8_isGood_5 : decode cX8_isGood 5 = .ok (.iconst 5, 1) := by decide +kernel
theorem dX8_isGood_6 : decode cX8_isGood 6 = .ok (.iaload, 1) := by decide +kernel
theorem dX8_isGood_7 : decode cX8_isGood 7 = .ok (.iload_n 2, 1) := by decide +kernel
theorem dX8_isGood_8 : decode cX8_isGood 8 = .ok (.iconst 1, 1) := by decide +kernel
theorem dX8_isGood_9 : decode cX8_isGood 9 = .ok (.isub, 1) := by decide +kernel
theorem dX8_isGood_10 : decode cX8_isGood 10 = .ok (.aload_n 0, 1) := by decide +kernel
theorem dX8_isGood_11 : decode cX8_isGood 11 = .ok (.getfield 7, 3) := by decide +kernel
theorem dX8_isGood_14 : decode cX8_isGood 14 = .ok (.iconst 5, 1) := by decide +kernel
theorem dX8_isGood_15 : decode cX8_isGood 15 = .ok (.iaload, 1) := by decide +kernel
theorem dX8_isGood_16 : decode cX8_isGood 16 = .ok (.isub, 1) := by decide +kernel
theorem dX8_isGood_17 : decode cX8_isGood 17 = .ok (.invokestatic 32, 3) := by decide +kernel
theorem dX8_isGood_20 : decode cX8_isGood 20 = .ok (.ireturn, 1) := by decide +kernel
theorem dX8_shift_0 : decode cX8_shift 0 = .ok (.iload_n 2, 1) := by decide +kernel
theorem dX8_shift_1 : decode cX8_shift 1 = .ok (.iload 5, 2) := by decide +kernel
theorem dX8_shift_3 : decode cX8_shift 3 = .ok (.if_icmp .le 5, 3) := by decide +kernel
theorem dX8_shift_6 : decode cX8_shift 6 = .ok (.iconst 0, 1) := by decide +kernel
theorem dX8_shift_7 : decode cX8_shift 7 = .ok (.ireturn, 1) := by decide +kernel
theorem dX8_shift_8 : decode cX8_shift 8 = .ok (.iload_n 1, 1) := by decide +kernel
theorem dX8_shift_9 : decode cX8_shift 9 = .ok (.iload 4, 2) := by decide +kernel
theorem dX8_shift_11 : decode cX8_shift 11 = .ok (.if_icmp .ge 10, 3) := by decide +kernel
theorem dX8_shift_14 : decode cX8_shift 14 = .ok (.iload 4, 2) := by decide +kernel
theorem dX8_shift_16 : decode cX8_shift 16 = .ok (.iload_n 1, 1) := by decide +kernel
theorem dX8_shift_17 : decode cX8_shift 17 = .ok (.isub, 1) := by decide +kernel
theorem dX8_shift_18 : decode cX8_shift 18 = .ok (.goto 27, 3) := by decide +kernel
theorem dX8_shift_21 : decode cX8_shift 21 = .ok (.iload_n 1, 1) := by decide +kernel
theorem dX8_shift_22 : decode cX8_shift 22 = .ok (.iload_n 2, 1) := by decide +kernel
theorem dX8_shift_23 : decode cX8_shift 23 = .ok (.iadd, 1) := by decide +kernel
theorem dX8_shift_24 : decode cX8_shift 24 = .ok (.iload 4, 2) := by decide +kernel
theorem dX8_shift_26 : decode cX8_shift 26 = .ok (.iload 5, 2) := by decide +kernel
theorem dX8_shift_28 : decode cX8_shift 28 = .ok (.iadd, 1) := by decide +kernel
theorem dX8_shift_29 : decode cX8_shift 29 = .ok (.if_icmp .le 15, 3) := by decide +kernel
theorem dX8_shift_32 : decode cX8_shift 32 = .ok (.iload 4, 2) := by decide +kernel
theorem dX8_shift_34 : decode cX8_shift 34 = .ok (.iload 5, 2) := by decide +kernel
theorem dX8_shift_36 : decode cX8_shift 36 = .ok (.iadd, 1) := by decide +kernel
theorem dX8_shift_37 : decode cX8_shift 37 = .ok (.iload_n 2, 1) := by decide +kernel
theorem dX8_shift_38 : decode cX8_shift 38 = .ok (.isub, 1) := by decide +kernel
theorem dX8_shift_39 : decode cX8_shift 39 = .ok (.iload_n 1, 1) := by decide +kernel
theorem dX8_shift_40 : decode cX8_shift 40 = .ok (.isub, 1) := by decide +kernel
theorem dX8_shift_41 : decode cX8_shift 41 = .ok (.goto 4, 3) := by decide +kernel
theorem dX8_shift_44 : decode cX8_shift 44 = .ok (.iconst 0, 1) := by decide +kernel
theorem dX8_shift_45 : decode cX8_shift 45 = .ok (.istore 6, 2) := by decide +kernel
theorem dX8_shift_47 : decode cX8_shift 47 = .ok (.aload_n 0, 1) := by decide +kernel
theorem dX8_shift_48 : decode cX8_shift 48 = .ok (.iload_n 3, 1) := by decide +kernel
theorem dX8_shift_49 : decode cX8_shift 49 = .ok (.iload_n 2, 1) := by decide +kernel
theorem dX8_shift_50 : decode cX8_shift 50 = .ok (.invokevirtual 48, 3) := by decide +kernel
theorem dX8_shift_53 : decode cX8_shift 53 = .ok (.ifCond .eq 55, 3) := by decide +kernel
theorem dX8_shift_56 : decode cX8_shift 56 = .ok (.iload_n 3, 1) := by decide +kernel
theorem dX8_shift_57 : decode cX8_shift 57 = .ok (.aload_n 0, 1) := by decide +kernel
theorem dX8_shift_58 : decode cX8_shift 58 = .ok (.getfield 7, 3) := by decide +kernel
theorem dX8_shift_61 : decode cX8_shift 61 = .ok (.iconst 5, 1) := by decide +kernel
theorem dX8_shift_62 : decode cX8_shift 62 = .ok (.iaload, 1) := by decide +kernel
theorem dX8_shift_63 : decode cX8_shift 63 = .ok (.isub, 1) := by decide +kernel
theorem dX8_shift_64 : decode cX8_shift 64 = .ok (.istore 7, 2) := by decide +kernel
theorem dX8_shift_66 : decode cX8_shift 66 = .ok (.iload_n 3, 1) := by decide +kernel
theorem dX8_shift_67 : decode cX8_shift 67 = .ok (.iload_n 2, 1) := by decide +kernel
theorem dX8_shift_68 : decode cX8_shift 68 = .ok (.iconst 1, 1) := by decide +kernel
theorem dX8_shift_69 : decode cX8_shift 69 = .ok (.isub, 1) := by decide +kernel
theorem dX8_shift_70 : decode cX8_shift 70 = .ok (.aload_n 0, 1) := by decide +kernel
theorem dX8_shift_71 : decode cX8_shift 71 = .ok (.getfield 7, 3) := by decide +kernel
theorem dX8_shift_74 : decode cX8_shift 74 = .ok (.iconst 5, 1) := by decide +kernel
theorem dX8_shift_75 : decode cX8_shift 75 = .ok (.iaload, 1) := by decide +kernel
theorem dX8_shift_76 : decode cX8_shift 76 = .ok (.isub, 1) := by decide +kernel
theorem dX8_shift_77 : decode cX8_shift 77 = .ok (.isub, 1) := by decide +kernel
theorem dX8_shift_78 : decode cX8_shift 78 = .ok (.istore 8, 2) := by decide +kernel
theorem dX8_shift_80 : decode cX8_shift 80 = .ok (.iload 6, 2) := by decide +kernel
theorem dX8_shift_82 : decode cX8_shift 82 = .ok (.iload 7, 2) := by decide +kernel
theorem dX8_shift_84 : decode cX8_shift 84 = .ok (.if_icmp .le 8, 3) := by decide +kernel
theorem dX8_shift_87 : decode cX8_shift 87 = .ok (.iload 7, 2) := by decide +kernel
theorem dX8_shift_89 : decode cX8_shift 89 = .ok (.goto 17, 3) := by decide +kernel
theorem dX8_shift_92 : decode cX8_shift 92 = .ok (.iload 6, 2) := by decide +kernel
theorem dX8_shift_94 : decode cX8_shift 94 = .ok (.iload 8, 2) := by decide +kernel
theorem dX8_shift_96 : decode cX8_shift 96 = .ok (.if_icmp .ge 8, 3) := by decide +kernel
theorem dX8_shift_99 : decode cX8_shift 99 = .ok (.iload 8, 2) := by decide +kernel
theorem dX8_shift_101 : decode cX8_shift 101 = .ok (.goto 5, 3) := by decide +kernel
theorem dX8_shift_104 : decode cX8_shift 104 = .ok (.iload 6, 2) := by decide +kernel
theorem dX8_shift_106 : decode cX8_shift 106 = .ok (.istore 6, 2) := by decide +kernel
theorem dX8_shift_108 : decode cX8_shift 108 = .ok (.iload 6, 2) := by decide +kernel
theorem dX8_shift_110 : decode cX8_shift 110 = .ok (.ireturn, 1) := by decide +kernel
theorem dX8_places_0 : decode cX8_places 0 = .ok (.aload_n 0, 1) := by decide +kernel
theorem dX8_places_1 : decode cX8_places 1 = .ok (.iload_n 1, 1) := by decide +kernel
theorem dX8_places_2 : decode cX8_places 2 = .ok (.iconst 0, 1) := by decide +kernel
theorem dX8_places_3 : decode cX8_places 3 = .ok (.invokevirtual 52, 3) := by decide +kernel
theorem dX8_places_6 : decode cX8_places 6 = .ok (.istore_n 3, 1) := by decide +kernel
theorem dX8_places_7 : decode cX8_places 7 = .ok (.iload_n 2, 1) := by decide +kernel
theorem dX8_places_8 : decode cX8_places 8 = .ok (.iconst 2, 1) := by decide +kernel
theorem dX8_places_9 : decode cX8_places 9 = .ok (.irem, 1) := by decide +kernel
theorem dX8_places_10 : decode cX8_places 10 = .ok (.ifCond .ne 7, 3) := by decide +kernel
theorem dX8_places_13 : decode cX8_places 13 = .ok (.iconst 1, 1) := by decide +kernel
theorem dX8_places_14 : decode cX8_places 14 = .ok (.goto 4, 3) := by decide +kernel
theorem dX8_places_17 : decode cX8_places 17 = .ok (.iconst 0, 1) := by decide +kernel
theorem dX8_places_18 : decode cX8_places 18 = .ok (.istore 4, 2) := by decide +kernel
theorem dX8_places_20 : decode cX8_places 20 = .ok (.aload_n 0, 1) := by decide +kernel
theorem dX8_places_21 : decode cX8_places 21 = .ok (.iload_n 3, 1) := by decide +kernel
theorem dX8_places_22 : decode cX8_places 22 = .ok (.iconst 0, 1) := by decide +kernel
theorem dX8_places_23 : decode cX8_places 23 = .ok (.invokevirtual 40, 3) := by decide +kernel
theorem dX8_places_26 : decode cX8_places 26 = .ok (.istore 5, 2) := by decide +kernel
theorem dX8_places_28 : decode cX8_places 28 = .ok (.aload_n 0, 1) := by decide +kernel
theorem dX8_places_29 : decode cX8_places 29 = .ok (.iload_n 3, 1) := by decide +kernel
theorem dX8_places_30 : decode cX8_places 30 = .ok (.iconst 1, 1) := by decide +kernel
theorem dX8_places_31 : decode cX8_places 31 = .ok (.invokevirtual 40, 3) := by decide +kernel
theorem dX8_places_34 : decode cX8_places 34 = .ok (.istore 6, 2) := by decide +kernel
theorem dX8_places_36 : decode cX8_places 36 = .ok (.aload_n 0, 1) := by decide +kernel
theorem dX8_places_37 : decode cX8_places 37 = .ok (.iload_n 1, 1) := by decide +kernel
theorem dX8_places_38 : decode cX8_places 38 = .ok (.iconst 1, 1) := by decide +kernel
theorem dX8_places_39 : decode cX8_places 39 = .ok (.invokevirtual 52, 3) := by decide +kernel
theorem dX8_places_42 : decode cX8_places 42 = .ok (.istore 7, 2) := by decide +kernel
theorem dX8_places_44 : decode cX8_places 44 = .ok (.aload_n 0, 1) := by decide +kernel
theorem dX8_places_45 : decode cX8_places 45 = .ok (.iload_n 1, 1) := by decide +kernel
theorem dX8_places_46 : decode cX8_places 46 = .ok (.iconst 2, 1) := by decide +kernel
theorem dX8_places_47 : decode cX8_places 47 = .ok (.invokevirtual 52, 3) := by decide +kernel
theorem dX8_places_50 : decode cX8_places 50 = .ok (.istore 8, 2) := by decide +kernel
theorem dX8_places_52 : decode cX8_places 52 = .ok (.iload 4, 2) := by decide +kernel
theorem dX8_places_54 : decode cX8_places 54 = .ok (.ifCond .eq 8, 3) := by decide +kernel
theorem dX8_places_57 : decode cX8_places 57 = .ok (.iload 5, 2) := by decide +kernel
theorem dX8_places_59 : decode cX8_places 59 = .ok (.goto 5, 3) := by decide +kernel
theorem dX8_places_62 : decode cX8_places 62 = .ok (.iload 6, 2) := by decide +kernel
theorem dX8_places_64 : decode cX8_places 64 = .ok (.istore 9, 2) := by decide +kernel
theorem dX8_places_66 : decode cX8_places 66 = .ok (.iload 4, 2) := by decide +kernel
theorem dX8_places_68 : decode cX8_places 68 = .ok (.ifCond .eq 12, 3) := by decide +kernel
theorem dX8_places_71 : decode cX8_places 71 = .ok (.aload_n 0, 1) := by decide +kernel
theorem dX8_places_72 : decode cX8_places 72 = .ok (.iload_n 3, 1) := by decide +kernel
theorem dX8_places_73 : decode cX8_places 73 = .ok (.iconst 2, 1) := by decide +kernel
theorem dX8_places_74 : decode cX8_places 74 = .ok (.invokevirtual 40, 3) := by decide +kernel
theorem dX8_places_77 : decode cX8_places 77 = .ok (.goto 9, 3) := by decide +kernel
theorem dX8_places_80 : decode cX8_places 80 = .ok (.aload_n 0, 1) := by decide +kernel
theorem dX8_places_81 : decode cX8_places 81 = .ok (.iload_n 3, 1) := by decide +kernel
theorem dX8_places_82 : decode cX8_places 82 = .ok (.iconst 3, 1) := by decide +kernel
theorem dX8_places_83 : decode cX8_places 83 = .ok (.invokevirtual 40, 3) := by decide +kernel
theorem dX8_places_86 : decode cX8_places 86 = .ok (.istore 10, 2) := by decide +kernel
theorem dX8_places_88 : decode cX8_places 88 = .ok (.iload 4, 2) := by decide +kernel
theorem dX8_places_90 : decode cX8_places 90 = .ok (.ifCond .eq 8, 3) := by decide +kernel
theorem dX8_places_93 : decode cX8_places 93 = .ok (.iload 7, 2) := by decide +kernel
theorem dX8_places_95 : decode cX8_places 95 = .ok (.goto 5, 3) := by decide +kernel
theorem dX8_places_98 : decode cX8_places 98 = .ok (.iload 8, 2) := by decide +kernel
theorem dX8_places_100 : decode cX8_places 100 = .ok (.istore 11, 2) := by decide +kernel
theorem dX8_places_102 : decode cX8_places 102 = .ok (.aload_n 0, 1) := by decide +kernel
theorem dX8_places_103 : decode cX8_places 103 = .ok (.iload_n 1, 1) := by decide +kernel
theorem dX8_places_104 : decode cX8_places 104 = .ok (.iconst 4, 1) := by decide +kernel
theorem dX8_places_105 : decode cX8_places 105 = .ok (.invokevirtual 52, 3) := by decide +kernel
theorem dX8_places_108 : decode cX8_places 108 = .ok (.istore 12, 2) := by decide +kernel
theorem dX8_places_110 : decode cX8_places 110 = .ok (.iload 9, 2) := by decide +kernel
theorem dX8_places_112 : decode cX8_places 112 = .ok (.iload 10, 2) := by decide +kernel
theorem dX8_places_114 : decode cX8_places 114 = .ok (.iconst 2, 1) := by decide +kernel
theorem dX8_places_115 : decode cX8_places 115 = .ok (.idiv, 1) := by decide +kernel
theorem dX8_places_116 : decode cX8_places 116 = .ok (.iadd, 1) := by decide +kernel
theorem dX8_places_117 : decode cX8_places 117 = .ok (.istore 13, 2) := by decide +kernel
theorem dX8_places_119 : decode cX8_places 119 = .ok (.iload 12, 2) := by decide +kernel
theorem dX8_places_121 : decode cX8_places 121 = .ok (.ifCond .ne 8, 3) := by decide +kernel
theorem dX8_places_124 : decode cX8_places 124 = .ok (.iload 9, 2) := by decide +kernel
theorem dX8_places_126 : decode cX8_places 126 = .ok (.goto 31, 3) := by decide +kernel
theorem dX8_places_129 : decode cX8_places 129 = .ok (.iload 12, 2) := by decide +kernel
theorem dX8_places_131 : decode cX8_places 131 = .ok (.iconst 1, 1) := by decide +kernel
theorem dX8_places_132 : decode cX8_places 132 = .ok (.if_icmp .ne 17, 3) := by decide +kernel
theorem dX8_places_135 : decode cX8_places 135 = .ok (.iload 9, 2) := by decide +kernel
theorem dX8_places_137 : decode cX8_places 137 = .ok (.iload 10, 2) := by decide +kernel
theorem dX8_places_139 : decode cX8_places 139 = .ok (.iload 11, 2) := by decide +kernel
theorem dX8_places_141 : decode cX8_places 141 = .ok (.isub, 1) := by decide +kernel
theorem dX8_places_142 : decode cX8_places 142 = .ok (.invokestatic 55, 3) := by decide +kernel
theorem dX8_places_145 : decode cX8_places 145 = .ok (.iadd, 1) := by decide +kernel
theorem dX8_places_146 : decode cX8_places 146 = .ok (.goto 11, 3) := by decide +kernel
theorem dX8_places_149 : decode cX8_places 149 = .ok (.iload 9, 2) := by decide +kernel
theorem dX8_places_151 : decode cX8_places 151 = .ok (.iload 10, 2) := by decide +kernel
theorem dX8_places_153 : decode cX8_places 153 = .ok (.iadd, 1) := by decide +kernel
theorem dX8_places_154 : decode cX8_places 154 = .ok (.iload 11, 2) := by decide +kernel
theorem dX8_places_156 : decode cX8_places 156 = .ok (.isub, 1) := by decide +kernel
theorem dX8_places_157 : decode cX8_places 157 = .ok (.istore 14, 2) := by decide +kernel
theorem dX8_places_159 : decode cX8_places 159 = .ok (.aload_n 0, 1) := by decide +kernel
theorem dX8_places_160 : decode cX8_places 160 = .ok (.iload 13, 2) := by decide +kernel
theorem dX8_places_162 : decode cX8_places 162 = .ok (.iload 14, 2) := by decide +kernel
theorem dX8_places_164 : decode cX8_places 164 = .ok (.isub, 1) := by decide +kernel
theorem dX8_places_165 : decode cX8_places 165 = .ok (.putfield 59, 3) := by decide +kernel
theorem dX8_places_168 : decode cX8_places 168 = .ok (.aload_n 0, 1) := by decide +kernel
theorem dX8_places_169 : decode cX8_places 169 = .ok (.aload_n 0, 1) := by decide +kernel
theorem dX8_places_170 : decode cX8_places 170 = .ok (.iload_n 1, 1) := by decide +kernel
theorem dX8_places_171 : decode cX8_places 171 = .ok (.bipush 6, 2) := by decide +kernel
theorem dX8_places_173 : decode cX8_places 173 = .ok (.invokevirtual 52, 3) := by decide +kernel
theorem dX8_places_176 : decode cX8_places 176 = .ok (.iconst 1, 1) := by decide +kernel
theorem dX8_places_177 : decode cX8_places 177 = .ok (.if_icmp .ne 58, 3) := by decide +kernel
theorem dX8_places_180 : decode cX8_places 180 = .ok (.aload_n 0, 1) := by decide +kernel
theorem dX8_places_181 : decode cX8_places 181 = .ok (.iload 14, 2) := by decide +kernel
theorem dX8_places_183 : decode cX8_places 183 = .ok (.iload 11, 2) := by decide +kernel
theorem dX8_places_185 : decode cX8_places 185 = .ok (.aload_n 0, 1) := by decide +kernel
theorem dX8_places_186 : decode cX8_places 186 = .ok (.getfield 59, 3) := by decide +kernel
theorem dX8_places_189 : decode cX8_places 189 = .ok (.iload 4, 2) := by decide +kernel
theorem dX8_places_191 : decode cX8_places 191 = .ok (.ifCond .eq 12, 3) := by decide +kernel
theorem dX8_places_194 : decode cX8_places 194 = .ok (.aload_n 0, 1) := by decide +kernel
theorem dX8_places_195 : decode cX8_places 195 = .ok (.getfield 7, 3) := by decide +kernel
theorem dX8_places_198 : decode cX8_places 198 = .ok (.iconst 0, 1) := by decide +kernel
theorem dX8_places_199 : decode cX8_places 199 = .ok (.iaload, 1) := by decide +kernel
theorem dX8_places_200 : decode cX8_places 200 = .ok (.goto 9, 3) := by decide +kernel
theorem dX8_places_203 : decode cX8_places 203 = .ok (.aload_n 0, 1) := by decide +kernel
theorem dX8_places_204 : decode cX8_places 204 = .ok (.getfield 7, 3) := by decide +kernel
theorem dX8_places_207 : decode cX8_places 207 = .ok (.iconst 1, 1) := by decide +kernel
theorem dX8_places_208 : decode cX8_places 208 = .ok (.iaload, 1) := by decide +kernel
theorem dX8_places_209 : decode cX8_places 209 = .ok (.iload 4, 2) := by decide +kernel
theorem dX8_places_211 : decode cX8_places 211 = .ok (.ifCond .eq 12, 3) := by decide +kernel
theorem dX8_places_214 : decode cX8_places 214 = .ok (.aload_n 0, 1) := by decide +kernel
theorem dX8_places_215 : decode cX8_places 215 = .ok (.getfield 7, 3) := by decide +kernel
theorem dX8_places_218 : decode cX8_places 218 = .ok (.iconst 2, 1) := by decide +kernel
theorem dX8_places_219 : decode cX8_places 219 = .ok (.iaload, 1) := by decide +kernel
theorem dX8_places_220 : decode cX8_places 220 = .ok (.goto 9, 3) := by decide +kernel
theorem dX8_places_223 : decode cX8_places 223 = .ok (.aload_n 0, 1) := by decide +kernel
theorem dX8_places_224 : decode cX8_places 224 = .ok (.getfield 7, 3) := by decide +kernel
theorem dX8_places_227 : decode cX8_places 227 = .ok (.iconst 3, 1) := by decide +kernel
theorem dX8_places_228 : decode cX8_places 228 = .ok (.iaload, 1) := by decide +kernel
theorem dX8_places_229 : decode cX8_places 229 = .ok (.invokevirtual 62, 3) := by decide +kernel
theorem dX8_places_232 : decode cX8_places 232 = .ok (.goto 4, 3) := by decide +kernel
theorem dX8_places_235 : decode cX8_places 235 = .ok (.iconst 0, 1) := by decide +kernel
theorem dX8_places_236 : decode cX8_places 236 = .ok (.putfield 66, 3) := by decide +kernel
theorem dX8_places_239 : decode cX8_places 239 = .ok (.aload_n 0, 1) := by decide +kernel
theorem dX8_places_240 : decode cX8_places 240 = .ok (.dup, 1) := by decide +kernel
theorem dX8_places_241 : decode cX8_places 241 = .ok (.getfield 59, 3) := by decide +kernel
theorem dX8_places_244 : decode cX8_places 244 = .ok (.aload_n 0, 1) := by decide +kernel
theorem dX8_places_245 : decode cX8_places 245 = .ok (.getfield 66, 3) := by decide +kernel
theorem dX8_places_248 : decode cX8_places 248 = .ok (.isub, 1) := by decide +kernel
theorem dX8_places_249 : decode cX8_places 249 = .ok (.putfield 59, 3) := by decide +kernel
theorem dX8_places_252 : decode cX8_places 252 = .ok (.aload_n 0, 1) := by decide +kernel
theorem dX8_places_253 : decode cX8_places 253 = .ok (.aload_n 0, 1) := by decide +kernel
theorem dX8_places_254 : decode cX8_places 254 = .ok (.aload_n 0, 1) := by decide +kernel
theorem dX8_places_255 : decode cX8_places 255 = .ok (.getfield 59, 3) := by decide +kernel
theorem dX8_places_258 : decode cX8_places 258 = .ok (.iload 11, 2) := by decide +kernel
theorem dX8_places_260 : decode cX8_places 260 = .ok (.invokevirtual 48, 3) := by decide +kernel
theorem dX8_places_263 : decode cX8_places 263 = .ok (.putfield 69, 3) := by decide +kernel
theorem dX8_places_266 : decode cX8_places 266 = .ok (.iload 14, 2) := by decide +kernel
theorem dX8_places_268 : decode cX8_places 268 = .ok (.aload_n 0, 1) := by decide +kernel
theorem dX8_places_269 : decode cX8_places 269 = .ok (.getfield 66, 3) := by decide +kernel
theorem dX8_places_272 : decode cX8_places 272 = .ok (.iadd, 1) := by decide +kernel
theorem dX8_places_273 : decode cX8_places 273 = .ok (.istore 14, 2) := by decide +kernel
theorem dX8_places_275 : decode cX8_places 275 = .ok (.aload_n 0, 1) := by decide +kernel
theorem dX8_places_276 : decode cX8_places 276 = .ok (.iload 4, 2) := by decide +kernel
theorem dX8_places_278 : decode cX8_places 278 = .ok (.ifCond .eq 8, 3) := by decide +kernel
theorem dX8_places_281 : decode cX8_places 281 = .ok (.iload 14, 2) := by decide +kernel
theorem dX8_places_283 : decode cX8_places 283 = .ok (.goto 39, 3) := by decide +kernel
theorem dX8_places_286 : decode cX8_places 286 = .ok (.iload_n 2, 1) := by decide +kernel
theorem dX8_places_287 : decode cX8_places 287 = .ok (.iconst 1, 1) := by decide +kernel
theorem dX8_places_288 : decode cX8_places 288 = .ok (.if_icmp .ne 22, 3) := by decide +kernel
theorem dX8_places_291 : decode cX8_places 291 = .ok (.iload 5, 2) := by decide +kernel
theorem dX8_places_293 : decode cX8_places 293 = .ok (.aload_n 0, 1) := by decide +kernel
theorem dX8_places_294 : decode cX8_places 294 = .ok (.iload_n 3, 1) := by decide +kernel
theorem dX8_places_295 : decode cX8_places 295 = .ok (.iconst 2, 1) := by decide +kernel
theorem dX8_places_296 : decode cX8_places 296 = .ok (.invokevirtual 40, 3) := by decide +kernel
theorem dX8_places_299 : decode cX8_places 299 = .ok (.iadd, 1) := by decide +kernel
theorem dX8_places_300 : decode cX8_places 300 = .ok (.aload_n 0, 1) := by decide +kernel
theorem dX8_places_301 : decode cX8_places 301 = .ok (.getfield 7, 3) := by decide +kernel
theorem dX8_places_304 : decode cX8_places 304 = .ok (.iconst 4, 1) := by decide +kernel
theorem dX8_places_305 : decode cX8_places 305 = .ok (.iaload, 1) := by decide +kernel
theorem dX8_places_306 : decode cX8_places 306 = .ok (.iadd, 1) := by decide +kernel
theorem dX8_places_307 : decode cX8_places 307 = .ok (.goto 15, 3) := by decide +kernel
theorem dX8_places_310 : decode cX8_places 310 = .ok (.iload 5, 2) := by decide +kernel
theorem dX8_places_312 : decode cX8_places 312 = .ok (.aload_n 0, 1) := by decide +kernel
theorem dX8_places_313 : decode cX8_places 313 = .ok (.getfield 7, 3) := by decide +kernel
theorem dX8_places_316 : decode cX8_places 316 = .ok (.iconst 4, 1) := by decide +kernel
theorem dX8_places_317 : decode cX8_places 317 = .ok (.iaload, 1) := by decide +kernel
theorem dX8_places_318 : decode cX8_places 318 = .ok (.isub, 1) := by decide +kernel
theorem dX8_places_319 : decode cX8_places 319 = .ok (.iload 7, 2) := by decide +kernel
theorem dX8_places_321 : decode cX8_places 321 = .ok (.isub, 1) := by decide +kernel
theorem dX8_places_322 : decode cX8_places 322 = .ok (.putfield 73, 3) := by decide +kernel
theorem dX8_places_325 : decode cX8_places 325 = .ok (.aload_n 0, 1) := by decide +kernel
theorem dX8_places_326 : decode cX8_places 326 = .ok (.iload 4, 2) := by decide +kernel
theorem dX8_places_328 : decode cX8_places 328 = .ok (.ifCond .ne 8, 3) := by decide +kernel
theorem dX8_places_331 : decode cX8_places 331 = .ok (.iload 14, 2) := by decide +kernel
theorem dX8_places_333 : decode cX8_places 333 = .ok (.goto 39, 3) := by decide +kernel
theorem dX8_places_336 : decode cX8_places 336 = .ok (.iload_n 2, 1) := by decide +kernel
theorem dX8_places_337 : decode cX8_places 337 = .ok (.iconst 2, 1) := by decide +kernel
theorem dX8_places_338 : decode cX8_places 338 = .ok (.if_icmp .ne 22, 3) := by decide +kernel
theorem dX8_places_341 : decode cX8_places 341 = .ok (.iload 6, 2) := by decide +kernel
theorem dX8_places_343 : decode cX8_places 343 = .ok (.aload_n 0, 1) := by decide +kernel
theorem dX8_places_344 : decode cX8_places 344 = .ok (.iload_n 3, 1) := by decide +kernel
theorem dX8_places_345 : decode cX8_places 345 = .ok (.iconst 3, 1) := by decide +kernel
theorem dX8_places_346 : decode cX8_places 346 = .ok (.invokevirtual 40, 3) := by decide +kernel
theorem dX8_places_349 : decode cX8_places 349 = .ok (.iadd, 1) := by decide +kernel
theorem dX8_places_350 : decode cX8_places 350 = .ok (.aload_n 0, 1) := by decide +kernel
theorem dX8_places_351 : decode cX8_places 351 = .ok (.getfield 7, 3) := by decide +kernel
theorem dX8_places_354 : decode cX8_places 354 = .ok (.iconst 4, 1) := by decide +kernel
theorem dX8_places_355 : decode cX8_places 355 = .ok (.iaload, 1) := by decide +kernel
theorem dX8_places_356 : decode cX8_places 356 = .ok (.iadd, 1) := by decide +kernel
theorem dX8_places_357 : decode cX8_places 357 = .ok (.goto 15, 3) := by decide +kernel
theorem dX8_places_360 : decode cX8_places 360 = .ok (.iload 6, 2) := by decide +kernel
theorem dX8_places_362 : decode cX8_places 362 = .ok (.aload_n 0, 1) := by decide +kernel
theorem dX8_places_363 : decode cX8_places 363 = .ok (.getfield 7, 3) := by decide +kernel
theorem dX8_places_366 : decode cX8_places 366 = .ok (.iconst 4, 1) := by decide +kernel
theorem dX8_places_367 : decode cX8_places 367 = .ok (.iaload, 1) := by decide +kernel
theorem dX8_places_368 : decode cX8_places 368 = .ok (.isub, 1) := by decide +kernel
theorem dX8_places_369 : decode cX8_places 369 = .ok (.iload 8, 2) := by decide +kernel
theorem dX8_places_371 : decode cX8_places 371 = .ok (.isub, 1) := by decide +kernel
theorem dX8_places_372 : decode cX8_places 372 = .ok (.putfield 76, 3) := by decide +kernel
theorem dX8_places_375 : decode cX8_places 375 = .ok (.return_, 1) := by decide +kernel
theorem dX8_isIn_0 : decode cX8_isIn 0 = .ok (.aload_n 0, 1) := by decide +kernel
theorem dX8_isIn_1 : decode cX8_isIn 1 = .ok (.iload_n 1, 1) := by decide +kernel
theorem dX8_isIn_2 : decode cX8_isIn 2 = .ok (.iload_n 2, 1) := by decide +kernel
theorem dX8_isIn_3 : decode cX8_isIn 3 = .ok (.invokevirtual 79, 3) := by decide +kernel
theorem dX8_isIn_6 : decode cX8_isIn 6 = .ok (.aload_n 0, 1) := by decide +kernel
theorem dX8_isIn_7 : decode cX8_isIn 7 = .ok (.getfield 73, 3) := by decide +kernel
theorem dX8_isIn_10 : decode cX8_isIn 10 = .ok (.aload_n 0, 1) := by decide +kernel
theorem dX8_isIn_11 : decode cX8_isIn 11 = .ok (.getfield 7, 3) := by decide +kernel
theorem dX8_isIn_14 : decode cX8_isIn 14 = .ok (.iconst 0, 1) := by decide +kernel
theorem dX8_isIn_15 : decode cX8_isIn 15 = .ok (.iaload, 1) := by decide +kernel
theorem dX8_isIn_16 : decode cX8_isIn 16 = .ok (.if_icmp .lt 74, 3) := by decide +kernel
theorem dX8_isIn_19 : decode cX8_isIn 19 = .ok (.aload_n 0, 1) := by decide +kernel
theorem dX8_isIn_20 : decode cX8_isIn 20 = .ok (.getfield 73, 3) := by decide +kernel
theorem dX8_isIn_23 : decode cX8_isIn 23 = .ok (.aload_n 0, 1) := by decide +kernel
theorem dX8_isIn_24 : decode cX8_isIn 24 = .ok (.iload_n 1, 1) := by decide +kernel
theorem dX8_isIn_25 : decode cX8_isIn 25 = .ok (.iconst 1, 1) := by decide +kernel
theorem dX8_isIn_26 : decode cX8_isIn 26 = .ok (.invokevirtual 52, 3) := by decide +kernel
theorem dX8_isIn_29 : decode cX8_isIn 29 = .ok (.iadd, 1) := by decide +kernel
theorem dX8_isIn_30 : decode cX8_isIn 30 = .ok (.aload_n 0, 1) := by decide +kernel
theorem dX8_isIn_31 : decode cX8_isIn 31 = .ok (.getfield 7, 3) := by decide +kernel
theorem dX8_isIn_34 : decode cX8_isIn 34 = .ok (.iconst 0, 1) := by decide +kernel
theorem dX8_isIn_35 : decode cX8_isIn 35 = .ok (.iaload, 1) := by decide +kernel
theorem dX8_isIn_36 : decode cX8_isIn 36 = .ok (.aload_n 0, 1) := by decide +kernel
theorem dX8_isIn_37 : decode cX8_isIn 37 = .ok (.getfield 7, 3) := by decide +kernel
theorem dX8_isIn_40 : decode cX8_isIn 40 = .ok (.iconst 2, 1) := by decide +kernel
theorem dX8_isIn_41 : decode cX8_isIn 41 = .ok (.iaload, 1) := by decide +kernel
theorem dX8_isIn_42 : decode cX8_isIn 42 = .ok (.iadd, 1) := by decide +kernel
theorem dX8_isIn_43 : decode cX8_isIn 43 = .ok (.if_icmp .gt 47, 3) := by decide +kernel
theorem dX8_isIn_46 : decode cX8_isIn 46 = .ok (.aload_n 0, 1) := by decide +kernel
theorem dX8_isIn_47 : decode cX8_isIn 47 = .ok (.getfield 76, 3) := by decide +kernel
theorem dX8_isIn_50 : decode cX8_isIn 50 = .ok (.aload_n 0, 1) := by decide +kernel
theorem dX8_isIn_51 : decode cX8_isIn 51 = .ok (.getfield 7, 3) := by decide +kernel
theorem dX8_isIn_54 : decode cX8_isIn 54 = .ok (.iconst 1, 1) := by decide +kernel
theorem dX8_isIn_55 : decode cX8_isIn 55 = .ok (.iaload, 1) := by decide +kernel
theorem dX8_isIn_56 : decode cX8_isIn 56 = .ok (.if_icmp .lt 34, 3) := by decide +kernel
theorem dX8_isIn_59 : decode cX8_isIn 59 = .ok (.aload_n 0, 1) := by decide +kernel
theorem dX8_isIn_60 : decode cX8_isIn 60 = .ok (.getfield 76, 3) := by decide +kernel
theorem dX8_isIn_63 : decode cX8_isIn 63 = .ok (.aload_n 0, 1) := by decide +kernel
theorem dX8_isIn_64 : decode cX8_isIn 64 = .ok (.iload_n 1, 1) := by decide +kernel
theorem dX8_isIn_65 : decode cX8_isIn 65 = .ok (.iconst 2, 1) := by decide +kernel
theorem dX8_isIn_66 : decode cX8_isIn 66 = .ok (.invokevirtual 52, 3) := by decide +kernel
theorem dX8_isIn_69 : decode cX8_isIn 69 = .ok (.iadd, 1) := by decide +kernel
theorem dX8_isIn_70 : decode cX8_isIn 70 = .ok (.aload_n 0, 1) := by decide +kernel
theorem dX8_isIn_71 : decode cX8_isIn 71 = .ok (.getfield 7, 3) := by decide +kernel
theorem dX8_isIn_74 : decode cX8_isIn 74 = .ok (.iconst 1, 1) := by decide +kernel
theorem dX8_isIn_75 : decode cX8_isIn 75 = .ok (.iaload, 1) := by decide +kernel
theorem dX8_isIn_76 : decode cX8_isIn 76 = .ok (.aload_n 0, 1) := by decide +kernel
theorem dX8_isIn_77 : decode cX8_isIn 77 = .ok (.getfield 7, 3) := by decide +kernel
theorem dX8_isIn_80 : decode cX8_isIn 80 = .ok (.iconst 3, 1) := by decide +kernel
theorem dX8_isIn_81 : decode cX8_isIn 81 = .ok (.iaload, 1) := by decide +kernel
theorem dX8_isIn_82 : decode cX8_isIn 82 = .ok (.iadd, 1) := by decide +kernel
theorem dX8_isIn_83 : decode cX8_isIn 83 = .ok (.if_icmp .gt 7, 3) := by decide +kernel
theorem dX8_isIn_86 : decode cX8_isIn 86 = .ok (.iconst 1, 1) := by decide +kernel
theorem dX8_isIn_87 : decode cX8_isIn 87 = .ok (.goto 4, 3) := by decide +kernel
theorem dX8_isIn_90 : decode cX8_isIn 90 = .ok (.iconst 0, 1) := by decide +kernel
theorem dX8_isIn_91 : decode cX8_isIn 91 = .ok (.ireturn, 1) := by decide +kernel
theorem dX8_addTry_0 : decode cX8_addTry 0 = .ok (.iconst 0, 1) := by decide +kernel
theorem dX8_addTry_1 : decode cX8_addTry 1 = .ok (.istore_n 2, 1) := by decide +kernel
theorem dX8_addTry_2 : decode cX8_addTry 2 = .ok (.iconst 0, 1) := by decide +kernel
theorem dX8_addTry_3 : decode cX8_addTry 3 = .ok (.istore_n 3, 1) := by decide +kernel
theorem dX8_addTry_4 : decode cX8_addTry 4 = .ok (.iload_n 3, 1) := by decide +kernel
theorem dX8_addTry_5 : decode cX8_addTry 5 = .ok (.aload_n 0, 1) := by decide +kernel
theorem dX8_addTry_6 : decode cX8_addTry 6 = .ok (.getfield 83, 3) := by decide +kernel
theorem dX8_addTry_9 : decode cX8_addTry 9 = .ok (.if_icmp .ge 29, 3) := by decide +kernel
theorem dX8_addTry_12 : decode cX8_addTry 12 = .ok (.iload_n 2, 1) := by decide +kernel
theorem dX8_addTry_13 : decode cX8_addTry 13 = .ok (.ifCond .ne 13, 3) := by decide +kernel
theorem dX8_addTry_16 : decode cX8_addTry 16 = .ok (.aload_n 0, 1) := by decide +kernel
theorem dX8_addTry_17 : decode cX8_addTry 17 = .ok (.getfield 29, 3) := by decide +kernel
theorem dX8_addTry_20 : decode cX8_addTry 20 = .ok (.iload_n 3, 1) := by decide +kernel
theorem dX8_addTry_21 : decode cX8_addTry 21 = .ok (.iaload, 1) := by decide +kernel
theorem dX8_addTry_22 : decode cX8_addTry 22 = .ok (.iload_n 1, 1) := by decide +kernel
theorem dX8_addTry_23 : decode cX8_addTry 23 = .ok (.if_icmp .ne 7, 3) := by decide +kernel
theorem dX8_addTry_26 : decode cX8_addTry 26 = .ok (.iconst 1, 1) := by decide +kernel
theorem dX8_addTry_27 : decode cX8_addTry 27 = .ok (.goto 4, 3) := by decide +kernel
theorem dX8_addTry_30 : decode cX8_addTry 30 = .ok (.iconst 0, 1) := by decide +kernel
theorem dX8_addTry_31 : decode cX8_addTry 31 = .ok (.istore_n 2, 1) := by decide +kernel
theorem dX8_addTry_32 : decode cX8_addTry 32 = .ok (.iinc 3 1, 3) := by decide +kernel
theorem dX8_addTry_35 : decode cX8_addTry 35 = .ok (.goto (-31), 3) := by decide +kernel
theorem dX8_addTry_38 : decode cX8_addTry 38 = .ok (.iload_n 2, 1) := by decide +kernel
theorem dX8_addTry_39 : decode cX8_addTry 39 = .ok (.ifCond .ne 23, 3) := by decide +kernel
theorem dX8_addTry_42 : decode cX8_addTry 42 = .ok (.aload_n 0, 1) := by decide +kernel
theorem dX8_addTry_43 : decode cX8_addTry 43 = .ok (.getfield 29, 3) := by decide +kernel
theorem dX8_addTry_46 : decode cX8_addTry 46 = .ok (.aload_n 0, 1) := by decide +kernel
theorem dX8_addTry_47 : decode cX8_addTry 47 = .ok (.getfield 83, 3) := by decide +kernel
theorem dX8_addTry_50 : decode cX8_addTry 50 = .ok (.iload_n 1, 1) := by decide +kernel
theorem dX8_addTry_51 : decode cX8_addTry 51 = .ok (.iastore, 1) := by decide +kernel
theorem dX8_addTry_52 : decode cX8_addTry 52 = .ok (.aload_n 0, 1) := by decide +kernel
theorem dX8_addTry_53 : decode cX8_addTry 53 = .ok (.dup, 1) := by decide +kernel
theorem dX8_addTry_54 : decode cX8_addTry 54 = .ok (.getfield 83, 3) := by decide +kernel
theorem dX8_addTry_57 : decode cX8_addTry 57 = .ok (.iconst 1, 1) := by decide +kernel
theorem dX8_addTry_58 : decode cX8_addTry 58 = .ok (.iadd, 1) := by decide +kernel
theorem dX8_addTry_59 : decode cX8_addTry 59 = .ok (.putfield 83, 3) := by decide +kernel
theorem dX8_addTry_62 : decode cX8_addTry 62 = .ok (.return_, 1) := by decide +kernel
theorem dX8_lists_0 : decode cX8_lists 0 = .ok (.aload_n 0, 1) := by decide +kernel
theorem dX8_lists_1 : decode cX8_lists 1 = .ok (.iconst 0, 1) := by decide +kernel
theorem dX8_lists_2 : decode cX8_lists 2 = .ok (.putfield 83, 3) := by decide +kernel
theorem dX8_lists_5 : decode cX8_lists 5 = .ok (.aload_n 0, 1) := by decide +kernel
theorem dX8_lists_6 : decode cX8_lists 6 = .ok (.getfield 7, 3) := by decide +kernel
theorem dX8_lists_9 : decode cX8_lists 9 = .ok (.bipush 7, 2) := by decide +kernel
theorem dX8_lists_11 : decode cX8_lists 11 = .ok (.iaload, 1) := by decide +kernel
theorem dX8_lists_12 : decode cX8_lists 12 = .ok (.iconst 1, 1) := by decide +kernel
theorem dX8_lists_13 : decode cX8_lists 13 = .ok (.if_icmp .ne 31, 3) := by decide +kernel
theorem dX8_lists_16 : decode cX8_lists 16 = .ok (.aload_n 0, 1) := by decide +kernel
theorem dX8_lists_17 : decode cX8_lists 17 = .ok (.getfield 7, 3) := by decide +kernel
theorem dX8_lists_20 : decode cX8_lists 20 = .ok (.sipush 160, 3) := by decide +kernel
theorem dX8_lists_23 : decode cX8_lists 23 = .ok (.iload_n 1, 1) := by decide +kernel
theorem dX8_lists_24 : decode cX8_lists 24 = .ok (.iadd, 1) := by decide +kernel
theorem dX8_lists_25 : decode cX8_lists 25 = .ok (.iaload, 1) := by decide +kernel
theorem dX8_lists_26 : decode cX8_lists 26 = .ok (.iconst (-1), 1) := by decide +kernel
theorem dX8_lists_27 : decode cX8_lists 27 = .ok (.if_icmp .eq 17, 3) := by decide +kernel
theorem dX8_lists_30 : decode cX8_lists 30 = .ok (.aload_n 0, 1) := by decide +kernel
theorem dX8_lists_31 : decode cX8_lists 31 = .ok (.aload_n 0, 1) := by decide +kernel
theorem dX8_lists_32 : decode cX8_lists 32 = .ok (.getfield 7, 3) := by decide +kernel
theorem dX8_lists_35 : decode cX8_lists 35 = .ok (.sipush 160, 3) := by decide +kernel
theorem dX8_lists_38 : decode cX8_lists 38 = .ok (.iload_n 1, 1) := by decide +kernel
theorem dX8_lists_39 : decode cX8_lists 39 = .ok (.iadd, 1) := by decide +kernel
theorem dX8_lists_40 : decode cX8_lists 40 = .ok (.iaload, 1) := by decide +kernel
theorem dX8_lists_41 : decode cX8_lists 41 = .ok (.invokevirtual 86, 3) := by decide +kernel
theorem dX8_lists_44 : decode cX8_lists 44 = .ok (.aload_n 0, 1) := by decide +kernel
theorem dX8_lists_45 : decode cX8_lists 45 = .ok (.iload_n 1, 1) := by decide +kernel
theorem dX8_lists_46 : decode cX8_lists 46 = .ok (.iconst 3, 1) := by decide +kernel
theorem dX8_lists_47 : decode cX8_lists 47 = .ok (.invokevirtual 52, 3) := by decide +kernel
theorem dX8_lists_50 : decode cX8_lists 50 = .ok (.istore_n 2, 1) := by decide +kernel
theorem dX8_lists_51 : decode cX8_lists 51 = .ok (.aload_n 0, 1) := by decide +kernel
theorem dX8_lists_52 : decode cX8_lists 52 = .ok (.iload_n 2, 1) := by decide +kernel
theorem dX8_lists_53 : decode cX8_lists 53 = .ok (.invokevirtual 86, 3) := by decide +kernel
theorem dX8_lists_56 : decode cX8_lists 56 = .ok (.aload_n 0, 1) := by decide +kernel
theorem dX8_lists_57 : decode cX8_lists 57 = .ok (.iload_n 1, 1) := by decide +kernel
theorem dX8_lists_58 : decode cX8_lists 58 = .ok (.iconst 5, 1) := by decide +kernel
theorem dX8_lists_59 : decode cX8_lists 59 = .ok (.invokevirtual 52, 3) := by decide +kernel
theorem dX8_lists_62 : decode cX8_lists 62 = .ok (.ifCond .le 12, 3) := by decide +kernel
theorem dX8_lists_65 : decode cX8_lists 65 = .ok (.aload_n 0, 1) := by decide +kernel
theorem dX8_lists_66 : decode cX8_lists 66 = .ok (.iload_n 2, 1) := by decide +kernel
theorem dX8_lists_67 : decode cX8_lists 67 = .ok (.iconst 2, 1) := by decide +kernel
theorem dX8_lists_68 : decode cX8_lists 68 = .ok (.iadd, 1) := by decide +kernel
theorem dX8_lists_69 : decode cX8_lists 69 = .ok (.iconst 4, 1) := by decide +kernel
theorem dX8_lists_70 : decode cX8_lists 70 = .ok (.irem, 1) := by decide +kernel
theorem dX8_lists_71 : decode cX8_lists 71 = .ok (.invokevirtual 86, 3) := by decide +kernel
theorem dX8_lists_74 : decode cX8_lists 74 = .ok (.aload_n 0, 1) := by decide +kernel
theorem dX8_lists_75 : decode cX8_lists 75 = .ok (.iload_n 1, 1) := by decide +kernel
theorem dX8_lists_76 : decode cX8_lists 76 = .ok (.iconst 5, 1) := by decide +kernel
theorem dX8_lists_77 : decode cX8_lists 77 = .ok (.invokevirtual 52, 3) := by decide +kernel
theorem dX8_lists_80 : decode cX8_lists 80 = .ok (.iconst 2, 1) := by decide +kernel
theorem dX8_lists_81 : decode cX8_lists 81 = .ok (.if_icmp .ne 21, 3) := by decide +kernel
theorem dX8_lists_84 : decode cX8_lists 84 = .ok (.aload_n 0, 1) := by decide +kernel
theorem dX8_lists_85 : decode cX8_lists 85 = .ok (.iload_n 2, 1) := by decide +kernel
theorem dX8_lists_86 : decode cX8_lists 86 = .ok (.iconst 1, 1) := by decide +kernel
theorem dX8_lists_87 : decode cX8_lists 87 = .ok (.iadd, 1) := by decide +kernel
theorem dX8_lists_88 : decode cX8_lists 88 = .ok (.iconst 4, 1) := by decide +kernel
theorem dX8_lists_89 : decode cX8_lists 89 = .ok (.irem, 1) := by decide +kernel
theorem dX8_lists_90 : decode cX8_lists 90 = .ok (.invokevirtual 86, 3) := by decide +kernel
theorem dX8_lists_93 : decode cX8_lists 93 = .ok (.aload_n 0, 1) := by decide +kernel
theorem dX8_lists_94 : decode cX8_lists 94 = .ok (.iload_n 2, 1) := by decide +kernel
theorem dX8_lists_95 : decode cX8_lists 95 = .ok (.iconst 3, 1) := by decide +kernel
theorem dX8_lists_96 : decode cX8_lists 96 = .ok (.iadd, 1) := by decide +kernel
theorem dX8_lists_97 : decode cX8_lists 97 = .ok (.iconst 4, 1) := by decide +kernel
theorem dX8_lists_98 : decode cX8_lists 98 = .ok (.irem, 1) := by decide +kernel
theorem dX8_lists_99 : decode cX8_lists 99 = .ok (.invokevirtual 86, 3) := by decide +kernel
theorem dX8_lists_102 : decode cX8_lists 102 = .ok (.return_, 1) := by decide +kernel
theorem dX8_isBarred_0 : decode cX8_isBarred 0 = .ok (.aload_n 0, 1) := by decide +kernel
theorem dX8_isBarred_1 : decode cX8_isBarred 1 = .ok (.getfield 73, 3) := by decide +kernel
theorem dX8_isBarred_4 : decode cX8_isBarred 4 = .ok (.istore_n 2, 1) := by decide +kernel
theorem dX8_isBarred_5 : decode cX8_isBarred 5 = .ok (.aload_n 0, 1) := by decide +kernel
theorem dX8_isBarred_6 : decode cX8_isBarred 6 = .ok (.getfield 76, 3) := by decide +kernel
theorem dX8_isBarred_9 : decode cX8_isBarred 9 = .ok (.istore_n 3, 1) := by decide +kernel
theorem dX8_isBarred_10 : decode cX8_isBarred 10 = .ok (.aload_n 0, 1) := by decide +kernel
theorem dX8_isBarred_11 : decode cX8_isBarred 11 = .ok (.iload_n 1, 1) := by decide +kernel
theorem dX8_isBarred_12 : decode cX8_isBarred 12 = .ok (.iconst 1, 1) := by decide +kernel
theorem dX8_isBarred_13 : decode cX8_isBarred 13 = .ok (.invokevirtual 52, 3) := by decide +kernel
theorem dX8_isBarred_16 : decode cX8_isBarred 16 = .ok (.istore 4, 2) := by decide +kernel
theorem dX8_isBarred_18 : decode cX8_isBarred 18 = .ok (.aload_n 0, 1) := by decide +kernel
theorem dX8_isBarred_19 : decode cX8_isBarred 19 = .ok (.iload_n 1, 1) := by decide +kernel
theorem dX8_isBarred_20 : decode cX8_isBarred 20 = .ok (.iconst 2, 1) := by decide +kernel
theorem dX8_isBarred_21 : decode cX8_isBarred 21 = .ok (.invokevirtual 52, 3) := by decide +kernel
theorem dX8_isBarred_24 : decode cX8_isBarred 24 = .ok (.istore 5, 2) := by decide +kernel
theorem dX8_isBarred_26 : decode cX8_isBarred 26 = .ok (.iconst 0, 1) := by decide +kernel
theorem dX8_isBarred_27 : decode cX8_isBarred 27 = .ok (.istore 6, 2) := by decide +kernel
theorem dX8_isBarred_29 : decode cX8_isBarred 29 = .ok (.iconst 0, 1) := by decide +kernel
theorem dX8_isBarred_30 : decode cX8_isBarred 30 = .ok (.istore 7, 2) := by decide +kernel
theorem dX8_isBarred_32 : decode cX8_isBarred 32 = .ok (.iload 7, 2) := by decide +kernel
theorem dX8_isBarred_34 : decode cX8_isBarred 34 = .ok (.aload_n 0, 1) := by decide +kernel
theorem dX8_isBarred_35 : decode cX8_isBarred 35 = .ok (.getfield 7, 3) := by decide +kernel
theorem dX8_isBarred_38 : decode cX8_isBarred 38 = .ok (.bipush 9, 2) := by decide +kernel
theorem dX8_isBarred_40 : decode cX8_isBarred 40 = .ok (.iaload, 1) := by decide +kernel
theorem dX8_isBarred_41 : decode cX8_isBarred 41 = .ok (.if_icmp .ge 72, 3) := by decide +kernel
theorem dX8_isBarred_44 : decode cX8_isBarred 44 = .ok (.iload 6, 2) := by decide +kernel
theorem dX8_isBarred_46 : decode cX8_isBarred 46 = .ok (.ifCond .ne 54, 3) := by decide +kernel
theorem dX8_isBarred_49 : decode cX8_isBarred 49 = .ok (.aload_n 0, 1) := by decide +kernel
theorem dX8_isBarred_50 : decode cX8_isBarred 50 = .ok (.getfield 7, 3) := by decide +kernel
theorem dX8_isBarred_53 : decode cX8_isBarred 53 = .ok (.bipush 8, 2) := by decide +kernel
theorem dX8_isBarred_55 : decode cX8_isBarred 55 = .ok (.iaload, 1) := by decide +kernel
theorem dX8_isBarred_56 : decode cX8_isBarred 56 = .ok (.iconst 1, 1) := by decide +kernel
theorem dX8_isBarred_57 : decode cX8_isBarred 57 = .ok (.if_icmp .ne 47, 3) := by decide +kernel
theorem dX8_isBarred_60 : decode cX8_isBarred 60 = .ok (.iload_n 2, 1) := by decide +kernel
theorem dX8_isBarred_61 : decode cX8_isBarred 61 = .ok (.iload_n 3, 1) := by decide +kernel
theorem dX8_isBarred_62 : decode cX8_isBarred 62 = .ok (.iload 4, 2) := by decide +kernel
theorem dX8_isBarred_64 : decode cX8_isBarred 64 = .ok (.iload 5, 2) := by decide +kernel
theorem dX8_isBarred_66 : decode cX8_isBarred 66 = .ok (.aload_n 0, 1) := by decide +kernel
theorem dX8_isBarred_67 : decode cX8_isBarred 67 = .ok (.iload 7, 2) := by decide +kernel
theorem dX8_isBarred_69 : decode cX8_isBarred 69 = .ok (.iconst 0, 1) := by decide +kernel
theorem dX8_isBarred_70 : decode cX8_isBarred 70 = .ok (.invokevirtual 40, 3) := by decide +kernel
theorem dX8_isBarred_73 : decode cX8_isBarred 73 = .ok (.aload_n 0, 1) := by decide +kernel
theorem dX8_isBarred_74 : decode cX8_isBarred 74 = .ok (.iload 7, 2) := by decide +kernel
theorem dX8_isBarred_76 : decode cX8_isBarred 76 = .ok (.iconst 1, 1) := by decide +kernel
theorem dX8_isBarred_77 : decode cX8_isBarred 77 = .ok (.invokevirtual 40, 3) := by decide +kernel
theorem dX8_isBarred_80 : decode cX8_isBarred 80 = .ok (.aload_n 0, 1) := by decide +kernel
theorem dX8_isBarred_81 : decode cX8_isBarred 81 = .ok (.iload 7, 2) := by decide +kernel
theorem dX8_isBarred_83 : decode cX8_isBarred 83 = .ok (.iconst 2, 1) := by decide +kernel
theorem dX8_isBarred_84 : decode cX8_isBarred 84 = .ok (.invokevirtual 40, 3) := by decide +kernel
theorem dX8_isBarred_87 : decode cX8_isBarred 87 = .ok (.aload_n 0, 1) := by decide +kernel
theorem dX8_isBarred_88 : decode cX8_isBarred 88 = .ok (.iload 7, 2) := by decide +kernel
theorem dX8_isBarred_90 : decode cX8_isBarred 90 = .ok (.iconst 3, 1) := by decide +kernel
theorem dX8_isBarred_91 : decode cX8_isBarred 91 = .ok (.invokevirtual 40, 3) := by decide +kernel
theorem dX8_isBarred_94 : decode cX8_isBarred 94 = .ok (.invokestatic 44, 3) := by decide +kernel
theorem dX8_isBarred_97 : decode cX8_isBarred 97 = .ok (.ifCond .eq 7, 3) := by decide +kernel
theorem dX8_isBarred_100 : decode cX8_isBarred 100 = .ok (.iconst 1, 1) := by decide +kernel
theorem dX8_isBarred_101 : decode cX8_isBarred 101 = .ok (.goto 4, 3) := by decide +kernel
theorem dX8_isBarred_104 : decode cX8_isBarred 104 = .ok (.iconst 0, 1) := by decide +kernel
theorem dX8_isBarred_105 : decode cX8_isBarred 105 = .ok (.istore 6, 2) := by decide +kernel
theorem dX8_isBarred_107 : decode cX8_isBarred 107 = .ok (.iinc 7 1, 3) := by decide +kernel
theorem dX8_isBarred_110 : decode cX8_isBarred 110 = .ok (.goto (-78), 3) := by decide +kernel
theorem dX8_isBarred_113 : decode cX8_isBarred 113 = .ok (.iconst 0, 1) := by decide +kernel
theorem dX8_isBarred_114 : decode cX8_isBarred 114 = .ok (.istore 7, 2) := by decide +kernel
theorem dX8_isBarred_116 : decode cX8_isBarred 116 = .ok (.iload 7, 2) := by decide +kernel
theorem dX8_isBarred_118 : decode cX8_isBarred 118 = .ok (.aload_n 0, 1) := by decide +kernel
theorem dX8_isBarred_119 : decode cX8_isBarred 119 = .ok (.getfield 7, 3) := by decide +kernel
theorem dX8_isBarred_122 : decode cX8_isBarred 122 = .ok (.bipush 50, 2) := by decide +kernel
theorem dX8_isBarred_124 : decode cX8_isBarred 124 = .ok (.iaload, 1) := by decide +kernel
theorem dX8_isBarred_125 : decode cX8_isBarred 125 = .ok (.if_icmp .ge 79, 3) := by decide +kernel
theorem dX8_isBarred_128 : decode cX8_isBarred 128 = .ok (.aload_n 0, 1) := by decide +kernel
theorem dX8_isBarred_129 : decode cX8_isBarred 129 = .ok (.getfield 26, 3) := by decide +kernel
theorem dX8_isBarred_132 : decode cX8_isBarred 132 = .ok (.iload 7, 2) := by decide +kernel
theorem dX8_isBarred_134 : decode cX8_isBarred 134 = .ok (.iaload, 1) := by decide +kernel
theorem dX8_isBarred_135 : decode cX8_isBarred 135 = .ok (.iconst (-1), 1) := by decide +kernel
theorem dX8_isBarred_136 : decode cX8_isBarred 136 = .ok (.if_icmp .eq 62, 3) := by decide +kernel
theorem dX8_isBarred_139 : decode cX8_isBarred 139 = .ok (.aload_n 0, 1) := by decide +kernel
theorem dX8_isBarred_140 : decode cX8_isBarred 140 = .ok (.iload 7, 2) := by decide +kernel
theorem dX8_isBarred_142 : decode cX8_isBarred 142 = .ok (.aload_n 0, 1) := by decide +kernel
theorem dX8_isBarred_143 : decode cX8_isBarred 143 = .ok (.getfield 26, 3) := by decide +kernel
theorem dX8_isBarred_146 : decode cX8_isBarred 146 = .ok (.iload 7, 2) := by decide +kernel
theorem dX8_isBarred_148 : decode cX8_isBarred 148 = .ok (.iaload, 1) := by decide +kernel
theorem dX8_isBarred_149 : decode cX8_isBarred 149 = .ok (.invokevirtual 79, 3) := by decide +kernel
theorem dX8_isBarred_152 : decode cX8_isBarred 152 = .ok (.iload 6, 2) := by decide +kernel
theorem dX8_isBarred_154 : decode cX8_isBarred 154 = .ok (.ifCond .ne 37, 3) := by decide +kernel
theorem dX8_isBarred_157 : decode cX8_isBarred 157 = .ok (.iload_n 2, 1) := by decide +kernel
theorem dX8_isBarred_158 : decode cX8_isBarred 158 = .ok (.iload_n 3, 1) := by decide +kernel
theorem dX8_isBarred_159 : decode cX8_isBarred 159 = .ok (.iload 4, 2) := by decide +kernel
theorem dX8_isBarred_161 : decode cX8_isBarred 161 = .ok (.iload 5, 2) := by decide +kernel
theorem dX8_isBarred_163 : decode cX8_isBarred 163 = .ok (.aload_n 0, 1) := by decide +kernel
theorem dX8_isBarred_164 : decode cX8_isBarred 164 = .ok (.getfield 73, 3) := by decide +kernel
theorem dX8_isBarred_167 : decode cX8_isBarred 167 = .ok (.aload_n 0, 1) := by decide +kernel
theorem dX8_isBarred_168 : decode cX8_isBarred 168 = .ok (.getfield 76, 3) := by decide +kernel
theorem dX8_isBarred_171 : decode cX8_isBarred 171 = .ok (.aload_n 0, 1) := by decide +kernel
theorem dX8_isBarred_172 : decode cX8_isBarred 172 = .ok (.iload 7, 2) := by decide +kernel
theorem dX8_isBarred_174 : decode cX8_isBarred 174 = .ok (.iconst 1, 1) := by decide +kernel
theorem dX8_isBarred_175 : decode cX8_isBarred 175 = .ok (.invokevirtual 52, 3) := by decide +kernel
theorem dX8_isBarred_178 : decode cX8_isBarred 178 = .ok (.aload_n 0, 1) := by decide +kernel
theorem dX8_isBarred_179 : decode cX8_isBarred 179 = .ok (.iload 7, 2) := by decide +kernel
theorem dX8_isBarred_181 : decode cX8_isBarred 181 = .ok (.iconst 2, 1) := by decide +kernel
theorem dX8_isBarred_182 : decode cX8_isBarred 182 = .ok (.invokevirtual 52, 3) := by decide +kernel
theorem dX8_isBarred_185 : decode cX8_isBarred 185 = .ok (.invokestatic 44, 3) := by decide +kernel
theorem dX8_isBarred_188 : decode cX8_isBarred 188 = .ok (.ifCond .eq 7, 3) := by decide +kernel
theorem dX8_isBarred_191 : decode cX8_isBarred 191 = .ok (.iconst 1, 1) := by decide +kernel
theorem dX8_isBarred_192 : decode cX8_isBarred 192 = .ok (.goto 4, 3) := by decide +kernel
theorem dX8_isBarred_195 : decode cX8_isBarred 195 = .ok (.iconst 0, 1) := by decide +kernel
theorem dX8_isBarred_196 : decode cX8_isBarred 196 = .ok (.istore 6, 2) := by decide +kernel
theorem dX8_isBarred_198 : decode cX8_isBarred 198 = .ok (.iinc 7 1, 3) := by decide +kernel
theorem dX8_isBarred_201 : decode cX8_isBarred 201 = .ok (.goto (-85), 3) := by decide +kernel
theorem dX8_isBarred_204 : decode cX8_isBarred 204 = .ok (.iload 6, 2) := by decide +kernel
theorem dX8_isBarred_206 : decode cX8_isBarred 206 = .ok (.ireturn, 1) := by decide +kernel
theorem dX8_finds_0 : decode cX8_finds 0 = .ok (.aload_n 0, 1) := by decide +kernel
theorem dX8_finds_1 : decode cX8_finds 1 = .ok (.iload_n 1, 1) := by decide +kernel
theorem dX8_finds_2 : decode cX8_finds 2 = .ok (.invokevirtual 90, 3) := by decide +kernel
theorem dX8_finds_5 : decode cX8_finds 5 = .ok (.aload_n 0, 1) := by decide +kernel
theorem dX8_finds_6 : decode cX8_finds 6 = .ok (.getfield 23, 3) := by decide +kernel
theorem dX8_finds_9 : decode cX8_finds 9 = .ok (.iload_n 1, 1) := by decide +kernel
theorem dX8_finds_10 : decode cX8_finds 10 = .ok (.iconst 3, 1) := by decide +kernel
theorem dX8_finds_11 : decode cX8_finds 11 = .ok (.iastore, 1) := by decide +kernel
theorem dX8_finds_12 : decode cX8_finds 12 = .ok (.iconst 0, 1) := by decide +kernel
theorem dX8_finds_13 : decode cX8_finds 13 = .ok (.istore_n 2, 1) := by decide +kernel
theorem dX8_finds_14 : decode cX8_finds 14 = .ok (.iload_n 2, 1) := by decide +kernel
theorem dX8_finds_15 : decode cX8_finds 15 = .ok (.aload_n 0, 1) := by decide +kernel
theorem dX8_finds_16 : decode cX8_finds 16 = .ok (.getfield 83, 3) := by decide +kernel
theorem dX8_finds_19 : decode cX8_finds 19 = .ok (.if_icmp .ge 74, 3) := by decide +kernel
theorem dX8_finds_22 : decode cX8_finds 22 = .ok (.aload_n 0, 1) := by decide +kernel
theorem dX8_finds_23 : decode cX8_finds 23 = .ok (.getfield 26, 3) := by decide +kernel
theorem dX8_finds_26 : decode cX8_finds 26 = .ok (.iload_n 1, 1) := by decide +kernel
theorem dX8_finds_27 : decode cX8_finds 27 = .ok (.iaload, 1) := by decide +kernel
theorem dX8_finds_28 : decode cX8_finds 28 = .ok (.iconst (-1), 1) := by decide +kernel
theorem dX8_finds_29 : decode cX8_finds 29 = .ok (.if_icmp .ne 64, 3) := by decide +kernel
theorem dX8_finds_32 : decode cX8_finds 32 = .ok (.aload_n 0, 1) := by decide +kernel
theorem dX8_finds_33 : decode cX8_finds 33 = .ok (.iload_n 1, 1) := by decide +kernel
theorem dX8_finds_34 : decode cX8_finds 34 = .ok (.aload_n 0, 1) := by decide +kernel
theorem dX8_finds_35 : decode cX8_finds 35 = .ok (.getfield 29, 3) := by decide +kernel
theorem dX8_finds_38 : decode cX8_finds 38 = .ok (.iload_n 2, 1) := by decide +kernel
theorem dX8_finds_39 : decode cX8_finds 39 = .ok (.iaload, 1) := by decide +kernel
theorem dX8_finds_40 : decode cX8_finds 40 = .ok (.invokevirtual 93, 3) := by decide +kernel
theorem dX8_finds_43 : decode cX8_finds 43 = .ok (.ifCond .eq 44, 3) := by decide +kernel
theorem dX8_finds_46 : decode cX8_finds 46 = .ok (.aload_n 0, 1) := by decide +kernel
theorem dX8_finds_47 : decode cX8_finds 47 = .ok (.iload_n 1, 1) := by decide +kernel
theorem dX8_finds_48 : decode cX8_finds 48 = .ok (.invokevirtual 96, 3) := by decide +kernel
theorem dX8_finds_51 : decode cX8_finds 51 = .ok (.istore_n 3, 1) := by decide +kernel
theorem dX8_finds_52 : decode cX8_finds 52 = .ok (.aload_n 0, 1) := by decide +kernel
theorem dX8_finds_53 : decode cX8_finds 53 = .ok (.getfield 23, 3) := by decide +kernel
theorem dX8_finds_56 : decode cX8_finds 56 = .ok (.iload_n 1, 1) := by decide +kernel
theorem dX8_finds_57 : decode cX8_finds 57 = .ok (.iload_n 3, 1) := by decide +kernel
theorem dX8_finds_58 : decode cX8_finds 58 = .ok (.ifCond .eq 7, 3) := by decide +kernel
theorem dX8_finds_61 : decode cX8_finds 61 = .ok (.iconst 4, 1) := by decide +kernel
theorem dX8_finds_62 : decode cX8_finds 62 = .ok (.goto 4, 3) := by decide +kernel
theorem dX8_finds_65 : decode cX8_finds 65 = .ok (.iconst 0, 1) := by decide +kernel
theorem dX8_finds_66 : decode cX8_finds 66 = .ok (.iastore, 1) := by decide +kernel
theorem dX8_finds_67 : decode cX8_finds 67 = .ok (.aload_n 0, 1) := by decide +kernel
theorem dX8_finds_68 : decode cX8_finds 68 = .ok (.getfield 26, 3) := by decide +kernel
theorem dX8_finds_71 : decode cX8_finds 71 = .ok (.iload_n 1, 1) := by decide +kernel
theorem dX8_finds_72 : decode cX8_finds 72 = .ok (.iload_n 3, 1) := by decide +kernel
theorem dX8_finds_73 : decode cX8_finds 73 = .ok (.ifCond .eq 7, 3) := by decide +kernel
theorem dX8_finds_76 : decode cX8_finds 76 = .ok (.iconst (-1), 1) := by decide +kernel
theorem dX8_finds_77 : decode cX8_finds 77 = .ok (.goto 9, 3) := by decide +kernel
theorem dX8_finds_80 : decode cX8_finds 80 = .ok (.aload_n 0, 1) := by decide +kernel
theorem dX8_finds_81 : decode cX8_finds 81 = .ok (.getfield 29, 3) := by decide +kernel
theorem dX8_finds_84 : decode cX8_finds 84 = .ok (.iload_n 2, 1) := by decide +kernel
theorem dX8_finds_85 : decode cX8_finds 85 = .ok (.iaload, 1) := by decide +kernel
theorem dX8_finds_86 : decode cX8_finds 86 = .ok (.iastore, 1) := by decide +kernel
theorem dX8_finds_87 : decode cX8_finds 87 = .ok (.iinc 2 1, 3) := by decide +kernel
theorem dX8_finds_90 : decode cX8_finds 90 = .ok (.goto (-76), 3) := by decide +kernel
theorem dX8_finds_93 : decode cX8_finds 93 = .ok (.return_, 1) := by decide +kernel
theorem dX8_sorts_0 : decode cX8_sorts 0 = .ok (.iconst 0, 1) := by decide +kernel
theorem dX8_sorts_1 : decode cX8_sorts 1 = .ok (.istore_n 1, 1) := by decide +kernel
theorem dX8_sorts_2 : decode cX8_sorts 2 = .ok (.iload_n 1, 1) := by decide +kernel
theorem dX8_sorts_3 : decode cX8_sorts 3 = .ok (.aload_n 0, 1) := by decide +kernel
theorem dX8_sorts_4 : decode cX8_sorts 4 = .ok (.getfield 7, 3) := by decide +kernel
theorem dX8_sorts_7 : decode cX8_sorts 7 = .ok (.sipush 147, 3) := by decide +kernel
theorem dX8_sorts_10 : decode cX8_sorts 10 = .ok (.iaload, 1) := by decide +kernel
theorem dX8_sorts_11 : decode cX8_sorts 11 = .ok (.if_icmp .ge 77, 3) := by decide +kernel
theorem dX8_sorts_14 : decode cX8_sorts 14 = .ok (.aload_n 0, 1) := by decide +kernel
theorem dX8_sorts_15 : decode cX8_sorts 15 = .ok (.getfield 7, 3) := by decide +kernel
theorem dX8_sorts_18 : decode cX8_sorts 18 = .ok (.sipush 148, 3) := by decide +kernel
theorem dX8_sorts_21 : decode cX8_sorts 21 = .ok (.iload_n 1, 1) := by decide +kernel
theorem dX8_sorts_22 : decode cX8_sorts 22 = .ok (.iadd, 1) := by decide +kernel
theorem dX8_sorts_23 : decode cX8_sorts 23 = .ok (.iaload, 1) := by decide +kernel
theorem dX8_sorts_24 : decode cX8_sorts 24 = .ok (.istore_n 2, 1) := by decide +kernel
theorem dX8_sorts_25 : decode cX8_sorts 25 = .ok (.iload_n 1, 1) := by decide +kernel
theorem dX8_sorts_26 : decode cX8_sorts 26 = .ok (.istore_n 3, 1) := by decide +kernel
theorem dX8_sorts_27 : decode cX8_sorts 27 = .ok (.iload_n 3, 1) := by decide +kernel
theorem dX8_sorts_28 : decode cX8_sorts 28 = .ok (.ifCond .le 47, 3) := by decide +kernel
theorem dX8_sorts_31 : decode cX8_sorts 31 = .ok (.aload_n 0, 1) := by decide +kernel
theorem dX8_sorts_32 : decode cX8_sorts 32 = .ok (.aload_n 0, 1) := by decide +kernel
theorem dX8_sorts_33 : decode cX8_sorts 33 = .ok (.getfield 20, 3) := by decide +kernel
theorem dX8_sorts_36 : decode cX8_sorts 36 = .ok (.iload_n 3, 1) := by decide +kernel
theorem dX8_sorts_37 : decode cX8_sorts 37 = .ok (.iconst 1, 1) := by decide +kernel
theorem dX8_sorts_38 : decode cX8_sorts 38 = .ok (.isub, 1) := by decide +kernel
theorem dX8_sorts_39 : decode cX8_sorts 39 = .ok (.iaload, 1) := by decide +kernel
theorem dX8_sorts_40 : decode cX8_sorts 40 = .ok (.bipush 7, 2) := by decide +kernel
theorem dX8_sorts_42 : decode cX8_sorts 42 = .ok (.invokevirtual 52, 3) := by decide +kernel
theorem dX8_sorts_45 : decode cX8_sorts 45 = .ok (.aload_n 0, 1) := by decide +kernel
theorem dX8_sorts_46 : decode cX8_sorts 46 = .ok (.iload_n 2, 1) := by decide +kernel
theorem dX8_sorts_47 : decode cX8_sorts 47 = .ok (.bipush 7, 2) := by decide +kernel
theorem dX8_sorts_49 : decode cX8_sorts 49 = .ok (.invokevirtual 52, 3) := by decide +kernel
theorem dX8_sorts_52 : decode cX8_sorts 52 = .ok (.if_icmp .ge 23, 3) := by decide +kernel
theorem dX8_sorts_55 : decode cX8_sorts 55 = .ok (.aload_n 0, 1) := by decide +kernel
theorem dX8_sorts_56 : decode cX8_sorts 56 = .ok (.getfield 20, 3) := by decide +kernel
theorem dX8_sorts_59 : decode cX8_sorts 59 = .ok (.iload_n 3, 1) := by decide +kernel
theorem dX8_sorts_60 : decode cX8_sorts 60 = .ok (.aload_n 0, 1) := by decide +kernel
theorem dX8_sorts_61 : decode cX8_sorts 61 = .ok (.getfield 20, 3) := by decide +kernel
theorem dX8_sorts_64 : decode cX8_sorts 64 = .ok (.iload_n 3, 1) := by decide +kernel
theorem dX8_sorts_65 : decode cX8_sorts 65 = .ok (.iconst 1, 1) := by decide +kernel
theorem dX8_sorts_66 : decode cX8_sorts 66 = .ok (.isub, 1) := by decide +kernel
theorem dX8_sorts_67 : decode cX8_sorts 67 = .ok (.iaload, 1) := by decide +kernel
theorem dX8_sorts_68 : decode cX8_sorts 68 = .ok (.iastore, 1) := by decide +kernel
theorem dX8_sorts_69 : decode cX8_sorts 69 = .ok (.iinc 3 (-1), 3) := by decide +kernel
theorem dX8_sorts_72 : decode cX8_sorts 72 = .ok (.goto (-45), 3) := by decide +kernel
theorem dX8_sorts_75 : decode cX8_sorts 75 = .ok (.aload_n 0, 1) := by decide +kernel
theorem dX8_sorts_76 : decode cX8_sorts 76 = .ok (.getfield 20, 3) := by decide +kernel
theorem dX8_sorts_79 : decode cX8_sorts 79 = .ok (.iload_n 3, 1) := by decide +kernel
theorem dX8_sorts_80 : decode cX8_sorts 80 = .ok (.iload_n 2, 1) := by decide +kernel
theorem dX8_sorts_81 : decode cX8_sorts 81 = .ok (.iastore, 1) := by decide +kernel
theorem dX8_sorts_82 : decode cX8_sorts 82 = .ok (.iinc 1 1, 3) := by decide +kernel
theorem dX8_sorts_85 : decode cX8_sorts 85 = .ok (.goto (-83), 3) := by decide +kernel
theorem dX8_sorts_88 : decode cX8_sorts 88 = .ok (.return_, 1) := by decide +kernel
theorem dX8_shows_0 : decode cX8_shows 0 = .ok (.iconst 0, 1) := by decide +kernel
theorem dX8_shows_1 : decode cX8_shows 1 = .ok (.istore_n 1, 1) := by decide +kernel
theorem dX8_shows_2 : decode cX8_shows 2 = .ok (.iload_n 1, 1) := by decide +kernel
theorem dX8_shows_3 : decode cX8_shows 3 = .ok (.bipush 12, 2) := by decide +kernel
theorem dX8_shows_5 : decode cX8_shows 5 = .ok (.if_icmp .ge 23, 3) := by decide +kernel
theorem dX8_shows_8 : decode cX8_shows 8 = .ok (.aload_n 0, 1) := by decide +kernel
theorem dX8_shows_9 : decode cX8_shows 9 = .ok (.getfield 23, 3) := by decide +kernel
theorem dX8_shows_12 : decode cX8_shows 12 = .ok (.iload_n 1, 1) := by decide +kernel
theorem dX8_shows_13 : decode cX8_shows 13 = .ok (.iconst 1, 1) := by decide +kernel
theorem dX8_shows_14 : decode cX8_shows 14 = .ok (.iastore, 1) := by decide +kernel
theorem dX8_shows_15 : decode cX8_shows 15 = .ok (.aload_n 0, 1) := by decide +kernel
theorem dX8_shows_16 : decode cX8_shows 16 = .ok (.getfield 26, 3) := by decide +kernel
theorem dX8_shows_19 : decode cX8_shows 19 = .ok (.iload_n 1, 1) := by decide +kernel
theorem dX8_shows_20 : decode cX8_shows 20 = .ok (.iconst (-1), 1) := by decide +kernel
theorem dX8_shows_21 : decode cX8_shows 21 = .ok (.iastore, 1) := by decide +kernel
theorem dX8_shows_22 : decode cX8_shows 22 = .ok (.iinc 1 1, 3) := by decide +kernel
theorem dX8_shows_25 : decode cX8_shows 25 = .ok (.goto (-23), 3) := by decide +kernel
theorem dX8_shows_28 : decode cX8_shows 28 = .ok (.aload_n 0, 1) := by decide +kernel
theorem dX8_shows_29 : decode cX8_shows 29 = .ok (.iconst 0, 1) := by decide +kernel
theorem dX8_shows_30 : decode cX8_shows 30 = .ok (.putfield 100, 3) := by decide +kernel
theorem dX8_shows_33 : decode cX8_shows 33 = .ok (.aload_n 0, 1) := by decide +kernel
theorem dX8_shows_34 : decode cX8_shows 34 = .ok (.invokevirtual 103, 3) := by decide +kernel
theorem dX8_shows_37 : decode cX8_shows 37 = .ok (.iconst 0, 1) := by decide +kernel
theorem dX8_shows_38 : decode cX8_shows 38 = .ok (.istore_n 1, 1) := by decide +kernel
theorem dX8_shows_39 : decode cX8_shows 39 = .ok (.iload_n 1, 1) := by decide +kernel
theorem dX8_shows_40 : decode cX8_shows 40 = .ok (.aload_n 0, 1) := by decide +kernel
theorem dX8_shows_41 : decode cX8_shows 41 = .ok (.getfield 7, 3) := by decide +kernel
theorem dX8_shows_44 : decode cX8_shows 44 = .ok (.sipush 147, 3) := by decide +kernel
theorem dX8_shows_47 : decode cX8_shows 47 = .ok (.iaload, 1) := by decide +kernel
theorem dX8_shows_48 : decode cX8_shows 48 = .ok (.if_icmp .ge 92, 3) := by decide +kernel
theorem dX8_shows_51 : decode cX8_shows 51 = .ok (.aload_n 0, 1) := by decide +kernel
theorem dX8_shows_52 : decode cX8_shows 52 = .ok (.getfield 20, 3) := by decide +kernel
theorem dX8_shows_55 : decode cX8_shows 55 = .ok (.iload_n 1, 1) := by decide +kernel
theorem dX8_shows_56 : decode cX8_shows 56 = .ok (.iaload, 1) := by decide +kernel
theorem dX8_shows_57 : decode cX8_shows 57 = .ok (.istore_n 2, 1) := by decide +kernel
theorem dX8_shows_58 : decode cX8_shows 58 = .ok (.aload_n 0, 1) := by decide +kernel
theorem dX8_shows_59 : decode cX8_shows 59 = .ok (.aload_n 0, 1) := by decide +kernel
theorem dX8_shows_60 : decode cX8_shows 60 = .ok (.iload_n 2, 1) := by decide +kernel
theorem dX8_shows_61 : decode cX8_shows 61 = .ok (.iconst 0, 1) := by decide +kernel
theorem dX8_shows_62 : decode cX8_shows 62 = .ok (.invokevirtual 52, 3) := by decide +kernel
theorem dX8_shows_65 : decode cX8_shows 65 = .ok (.invokevirtual 106, 3) := by decide +kernel
theorem dX8_shows_68 : decode cX8_shows 68 = .ok (.ifCond .ne 13, 3) := by decide +kernel
theorem dX8_shows_71 : decode cX8_shows 71 = .ok (.aload_n 0, 1) := by decide +kernel
theorem dX8_shows_72 : decode cX8_shows 72 = .ok (.getfield 23, 3) := by decide +kernel
theorem dX8_shows_75 : decode cX8_shows 75 = .ok (.iload_n 2, 1) := by decide +kernel
theorem dX8_shows_76 : decode cX8_shows 76 = .ok (.iconst 2, 1) := by decide +kernel
theorem dX8_shows_77 : decode cX8_shows 77 = .ok (.iastore, 1) := by decide +kernel
theorem dX8_shows_78 : decode cX8_shows 78 = .ok (.goto 56, 3) := by decide +kernel
theorem dX8_shows_81 : decode cX8_shows 81 = .ok (.aload_n 0, 1) := by decide +kernel
theorem dX8_shows_82 : decode cX8_shows 82 = .ok (.getfield 100, 3) := by decide +kernel
theorem dX8_shows_85 : decode cX8_shows 85 = .ok (.aload_n 0, 1) := by decide +kernel
theorem dX8_shows_86 : decode cX8_shows 86 = .ok (.getfield 7, 3) := by decide +kernel
theorem dX8_shows_89 : decode cX8_shows 89 = .ok (.bipush 6, 2) := by decide +kernel
theorem dX8_shows_91 : decode cX8_shows 91 = .ok (.iaload, 1) := by decide +kernel
theorem dX8_shows_92 : decode cX8_shows 92 = .ok (.if_icmp .lt 13, 3) := by decide +kernel
theorem dX8_shows_95 : decode cX8_shows 95 = .ok (.aload_n 0, 1) := by decide +kernel
theorem dX8_shows_96 : decode cX8_shows 96 = .ok (.getfield 23, 3) := by decide +kernel
theorem dX8_shows_99 : decode cX8_shows 99 = .ok (.iload_n 2, 1) := by decide +kernel
theorem dX8_shows_100 : decode cX8_shows 100 = .ok (.iconst 5, 1) := by decide +kernel
theorem dX8_shows_101 : decode cX8_shows 101 = .ok (.iastore, 1) := by decide +kernel
theorem dX8_shows_102 : decode cX8_shows 102 = .ok (.goto 32, 3) := by decide +kernel
theorem dX8_shows_105 : decode cX8_shows 105 = .ok (.aload_n 0, 1) := by decide +kernel
theorem dX8_shows_106 : decode cX8_shows 106 = .ok (.iload_n 2, 1) := by decide +kernel
theorem dX8_shows_107 : decode cX8_shows 107 = .ok (.invokevirtual 109, 3) := by decide +kernel
theorem dX8_shows_110 : decode cX8_shows 110 = .ok (.aload_n 0, 1) := by decide +kernel
theorem dX8_shows_111 : decode cX8_shows 111 = .ok (.dup, 1) := by decide +kernel
theorem dX8_shows_112 : decode cX8_shows 112 = .ok (.getfield 100, 3) := by decide +kernel
theorem dX8_shows_115 : decode cX8_shows 115 = .ok (.aload_n 0, 1) := by decide +kernel
theorem dX8_shows_116 : decode cX8_shows 116 = .ok (.getfield 26, 3) := by decide +kernel
theorem dX8_shows_119 : decode cX8_shows 119 = .ok (.iload_n 2, 1) := by decide +kernel
theorem dX8_shows_120 : decode cX8_shows 120 = .ok (.iaload, 1) := by decide +kernel
theorem dX8_shows_121 : decode cX8_shows 121 = .ok (.iconst (-1), 1) := by decide +kernel
theorem dX8_shows_122 : decode cX8_shows 122 = .ok (.if_icmp .ne 7, 3) := by decide +kernel
theorem dX8_shows_125 : decode cX8_shows 125 = .ok (.iconst 0, 1) := by decide +kernel
theorem dX8_shows_126 : decode cX8_shows 126 = .ok (.goto 4, 3) := by decide +kernel
theorem dX8_shows_129 : decode cX8_shows 129 = .ok (.iconst 1, 1) := by decide +kernel
theorem dX8_shows_130 : decode cX8_shows 130 = .ok (.iadd, 1) := by decide +kernel
theorem dX8_shows_131 : decode cX8_shows 131 = .ok (.putfield 100, 3) := by decide +kernel
theorem dX8_shows_134 : decode cX8_shows 134 = .ok (.iinc 1 1, 3) := by decide +kernel
theorem dX8_shows_137 : decode cX8_shows 137 = .ok (.goto (-98), 3) := by decide +kernel
theorem dX8_shows_140 : decode cX8_shows 140 = .ok (.return_, 1) := by decide +kernel
theorem dX8_many_0 : decode cX8_many 0 = .ok (.aload_n 0, 1) := by decide +kernel
theorem dX8_many_1 : decode cX8_many 1 = .ok (.invokevirtual 112, 3) := by decide +kernel
theorem dX8_many_4 : decode cX8_many 4 = .ok (.aload_n 0, 1) := by decide +kernel
theorem dX8_many_5 : decode cX8_many 5 = .ok (.getfield 100, 3) := by decide +kernel
theorem dX8_many_8 : decode cX8_many 8 = .ok (.ireturn, 1) := by decide +kernel
theorem dX8_view_0 : decode cX8_view 0 = .ok (.iload_n 1, 1) := by decide +kernel
theorem dX8_view_1 : decode cX8_view 1 = .ok (.bipush 20, 2) := by decide +kernel
theorem dX8_view_3 : decode cX8_view 3 = .ok (.sipush 400, 3) := by decide +kernel
theorem dX8_view_6 : decode cX8_view 6 = .ok (.invokestatic 32, 3) := by decide +kernel
theorem dX8_view_9 : decode cX8_view 9 = .ok (.ifCond .eq 15, 3) := by decide +kernel
theorem dX8_view_12 : decode cX8_view 12 = .ok (.iload_n 2, 1) := by decide +kernel
theorem dX8_view_13 : decode cX8_view 13 = .ok (.bipush 20, 2) := by decide +kernel
theorem dX8_view_15 : decode cX8_view 15 = .ok (.sipush 400, 3) := by decide +kernel
theorem dX8_view_18 : decode cX8_view 18 = .ok (.invokestatic 32, 3) := by decide +kernel
theorem dX8_view_21 : decode cX8_view 21 = .ok (.ifCond .ne 7, 3) := by decide +kernel
theorem dX8_view_24 : decode cX8_view 24 = .ok (.sipush (-10001), 3) := by decide +kernel
theorem dX8_view_27 : decode cX8_view 27 = .ok (.ireturn, 1) := by decide +kernel
theorem dX8_view_28 : decode cX8_view 28 = .ok (.aload_n 0, 1) := by decide +kernel
theorem dX8_view_29 : decode cX8_view 29 = .ok (.invokevirtual 115, 3) := by decide +kernel
theorem dX8_view_32 : decode cX8_view 32 = .ok (.aload_n 0, 1) := by decide +kernel
theorem dX8_view_33 : decode cX8_view 33 = .ok (.getfield 7, 3) := by decide +kernel
theorem dX8_view_36 : decode cX8_view 36 = .ok (.iconst 2, 1) := by decide +kernel
theorem dX8_view_37 : decode cX8_view 37 = .ok (.iload_n 1, 1) := by decide +kernel
theorem dX8_view_38 : decode cX8_view 38 = .ok (.iastore, 1) := by decide +kernel
theorem dX8_view_39 : decode cX8_view 39 = .ok (.aload_n 0, 1) := by decide +kernel
theorem dX8_view_40 : decode cX8_view 40 = .ok (.getfield 7, 3) := by decide +kernel
theorem dX8_view_43 : decode cX8_view 43 = .ok (.iconst 3, 1) := by decide +kernel
theorem dX8_view_44 : decode cX8_view 44 = .ok (.iload_n 2, 1) := by decide +kernel
theorem dX8_view_45 : decode cX8_view 45 = .ok (.iastore, 1) := by decide +kernel
theorem dX8_view_46 : decode cX8_view 46 = .ok (.aload_n 0, 1) := by decide +kernel
theorem dX8_view_47 : decode cX8_view 47 = .ok (.invokevirtual 118, 3) := by decide +kernel
theorem dX8_view_50 : decode cX8_view 50 = .ok (.ireturn, 1) := by decide +kernel
theorem dX8_canScroll_0 : decode cX8_canScroll 0 = .ok (.aload_n 0, 1) := by decide +kernel
theorem dX8_canScroll_1 : decode cX8_canScroll 1 = .ok (.getfield 7, 3) := by decide +kernel
theorem dX8_canScroll_4 : decode cX8_canScroll 4 = .ok (.iconst 0, 1) := by decide +kernel
theorem dX8_canScroll_5 : decode cX8_canScroll 5 = .ok (.iaload, 1) := by decide +kernel
theorem dX8_canScroll_6 : decode cX8_canScroll 6 = .ok (.iload_n 1, 1) := by decide +kernel
theorem dX8_canScroll_7 : decode cX8_canScroll 7 = .ok (.iadd, 1) := by decide +kernel
theorem dX8_canScroll_8 : decode cX8_canScroll 8 = .ok (.sipush (-2000), 3) := by decide +kernel
theorem dX8_canScroll_11 : decode cX8_canScroll 11 = .ok (.sipush 2000, 3) := by decide +kernel
theorem dX8_canScroll_14 : decode cX8_canScroll 14 = .ok (.invokestatic 32, 3) := by decide +kernel
theorem dX8_canScroll_17 : decode cX8_canScroll 17 = .ok (.ifCond .eq 27, 3) := by decide +kernel
theorem dX8_canScroll_20 : decode cX8_canScroll 20 = .ok (.aload_n 0, 1) := by decide +kernel
theorem dX8_canScroll_21 : decode cX8_canScroll 21 = .ok (.getfield 7, 3) := by decide +kernel
theorem dX8_canScroll_24 : decode cX8_canScroll 24 = .ok (.iconst 1, 1) := by decide +kernel
theorem dX8_canScroll_25 : decode cX8_canScroll 25 = .ok (.iaload, 1) := by decide +kernel
theorem dX8_canScroll_26 : decode cX8_canScroll 26 = .ok (.iload_n 2, 1) := by decide +kernel
theorem dX8_canScroll_27 : decode cX8_canScroll 27 = .ok (.iadd, 1) := by decide +kernel
theorem dX8_canScroll_28 : decode cX8_canScroll 28 = .ok (.sipush (-2000), 3) := by decide +kernel
theorem dX8_canScroll_31 : decode cX8_canScroll 31 = .ok (.sipush 2000, 3) := by decide +kernel
theorem dX8_canScroll_34 : decode cX8_canScroll 34 = .ok (.invokestatic 32, 3) := by decide +kernel
theorem dX8_canScroll_37 : decode cX8_canScroll 37 = .ok (.ifCond .eq 7, 3) := by decide +kernel
theorem dX8_canScroll_40 : decode cX8_canScroll 40 = .ok (.iconst 1, 1) := by decide +kernel
theorem dX8_canScroll_41 : decode cX8_canScroll 41 = .ok (.goto 4, 3) := by decide +kernel
theorem dX8_canScroll_44 : decode cX8_canScroll 44 = .ok (.iconst 0, 1) := by decide +kernel
theorem dX8_canScroll_45 : decode cX8_canScroll 45 = .ok (.ireturn, 1) := by decide +kernel
theorem dX8_scroll_0 : decode cX8_scroll 0 = .ok (.iload_n 1, 1) := by decide +kernel
theorem dX8_scroll_1 : decode cX8_scroll 1 = .ok (.sipush (-1000), 3) := by decide +kernel
theorem dX8_scroll_4 : decode cX8_scroll 4 = .ok (.sipush 1000, 3) := by decide +kernel
theorem dX8_scroll_7 : decode cX8_scroll 7 = .ok (.invokestatic 32, 3) := by decide +kernel
theorem dX8_scroll_10 : decode cX8_scroll 10 = .ok (.ifCond .eq 16, 3) := by decide +kernel
theorem dX8_scroll_13 : decode cX8_scroll 13 = .ok (.iload_n 2, 1) := by decide +kernel
theorem dX8_scroll_14 : decode cX8_scroll 14 = .ok (.sipush (-1000), 3) := by decide +kernel
theorem dX8_scroll_17 : decode cX8_scroll 17 = .ok (.sipush 1000, 3) := by decide +kernel
theorem dX8_scroll_20 : decode cX8_scroll 20 = .ok (.invokestatic 32, 3) := by decide +kernel
theorem dX8_scroll_23 : decode cX8_scroll 23 = .ok (.ifCond .ne 7, 3) := by decide +kernel
theorem dX8_scroll_26 : decode cX8_scroll 26 = .ok (.sipush (-10001), 3) := by decide +kernel
theorem dX8_scroll_29 : decode cX8_scroll 29 = .ok (.ireturn, 1) := by decide +kernel
theorem dX8_scroll_30 : decode cX8_scroll 30 = .ok (.aload_n 0, 1) := by decide +kernel
theorem dX8_scroll_31 : decode cX8_scroll 31 = .ok (.iload_n 1, 1) := by decide +kernel
theorem dX8_scroll_32 : decode cX8_scroll 32 = .ok (.iload_n 2, 1) := by decide +kernel
theorem dX8_scroll_33 : decode cX8_scroll 33 = .ok (.invokevirtual 122, 3) := by decide +kernel
theorem dX8_scroll_36 : decode cX8_scroll 36 = .ok (.ifCond .ne 7, 3) := by decide +kernel
theorem dX8_scroll_39 : decode cX8_scroll 39 = .ok (.sipush (-10002), 3) := by decide +kernel
theorem dX8_scroll_42 : decode cX8_scroll 42 = .ok (.ireturn, 1) := by decide +kernel
theorem dX8_scroll_43 : decode cX8_scroll 43 = .ok (.aload_n 0, 1) := by decide +kernel
theorem dX8_scroll_44 : decode cX8_scroll 44 = .ok (.invokevirtual 115, 3) := by decide +kernel
theorem dX8_scroll_47 : decode cX8_scroll 47 = .ok (.aload_n 0, 1) := by decide +kernel
theorem dX8_scroll_48 : decode cX8_scroll 48 = .ok (.getfield 7, 3) := by decide +kernel
theorem dX8_scroll_51 : decode cX8_scroll 51 = .ok (.iconst 0, 1) := by decide +kernel
theorem dX8_scroll_52 : decode cX8_scroll 52 = .ok (.dup2, 1) := by decide +kernel
theorem dX8_scroll_53 : decode cX8_scroll 53 = .ok (.iaload, 1) := by decide +kernel
theorem dX8_scroll_54 : decode cX8_scroll 54 = .ok (.iload_n 1, 1) := by decide +kernel
theorem dX8_scroll_55 : decode cX8_scroll 55 = .ok (.iadd, 1) := by decide +kernel
theorem dX8_scroll_56 : decode cX8_scroll 56 = .ok (.iastore, 1) := by decide +kernel
theorem dX8_scroll_57 : decode cX8_scroll 57 = .ok (.aload_n 0, 1) := by decide +kernel
theorem dX8_scroll_58 : decode cX8_scroll 58 = .ok (.getfield 7, 3) := by decide +kernel
theorem dX8_scroll_61 : decode cX8_scroll 61 = .ok (.iconst 1, 1) := by decide +kernel
theorem dX8_scroll_62 : decode cX8_scroll 62 = .ok (.dup2, 1) := by decide +kernel
theorem dX8_scroll_63 : decode cX8_scroll 63 = .ok (.iaload, 1) := by decide +kernel
theorem dX8_scroll_64 : decode cX8_scroll 64 = .ok (.iload_n 2, 1) := by decide +kernel
theorem dX8_scroll_65 : decode cX8_scroll 65 = .ok (.iadd, 1) := by decide +kernel
theorem dX8_scroll_66 : decode cX8_scroll 66 = .ok (.iastore, 1) := by decide +kernel
theorem dX8_scroll_67 : decode cX8_scroll 67 = .ok (.aload_n 0, 1) := by decide +kernel
theorem dX8_scroll_68 : decode cX8_scroll 68 = .ok (.invokevirtual 118, 3) := by decide +kernel
theorem dX8_scroll_71 : decode cX8_scroll 71 = .ok (.ireturn, 1) := by decide +kernel
theorem dX8_anchor_0 : decode cX8_anchor 0 = .ok (.iload_n 1, 1) := by decide +kernel
theorem dX8_anchor_1 : decode cX8_anchor 1 = .ok (.sipush (-1000), 3) := by decide +kernel
theorem dX8_anchor_4 : decode cX8_anchor 4 = .ok (.sipush 1000, 3) := by decide +kernel
theorem dX8_anchor_7 : decode cX8_anchor 7 = .ok (.invokestatic 32, 3) := by decide +kernel
theorem dX8_anchor_10 : decode cX8_anchor 10 = .ok (.ifCond .eq 39, 3) := by decide +kernel
theorem dX8_anchor_13 : decode cX8_anchor 13 = .ok (.iload_n 2, 1) := by decide +kernel
theorem dX8_anchor_14 : decode cX8_anchor 14 = .ok (.sipush (-1000), 3) := by decide +kernel
theorem dX8_anchor_17 : decode cX8_anchor 17 = .ok (.sipush 1000, 3) := by decide +kernel
theorem dX8_anchor_20 : decode cX8_anchor 20 = .ok (.invokestatic 32, 3) := by decide +kernel
theorem dX8_anchor_23 : decode cX8_anchor 23 = .ok (.ifCond .eq 26, 3) := by decide +kernel
theorem dX8_anchor_26 : decode cX8_anchor 26 = .ok (.iload_n 3, 1) := by decide +kernel
theorem dX8_anchor_27 : decode cX8_anchor 27 = .ok (.iconst 1, 1) := by decide +kernel
theorem dX8_anchor_28 : decode cX8_anchor 28 = .ok (.sipush 200, 3) := by decide +kernel
theorem dX8_anchor_31 : decode cX8_anchor 31 = .ok (.invokestatic 32, 3) := by decide +kernel
theorem dX8_anchor_34 : decode cX8_anchor 34 = .ok (.ifCond .eq 15, 3) := by decide +kernel
theorem dX8_anchor_37 : decode cX8_anchor 37 = .ok (.iload 4, 2) := by decide +kernel
theorem dX8_anchor_39 : decode cX8_anchor 39 = .ok (.iconst 1, 1) := by decide +kernel
theorem dX8_anchor_40 : decode cX8_anchor 40 = .ok (.sipush 200, 3) := by decide +kernel
theorem dX8_anchor_43 : decode cX8_anchor 43 = .ok (.invokestatic 32, 3) := by decide +kernel
theorem dX8_anchor_46 : decode cX8_anchor 46 = .ok (.ifCond .ne 7, 3) := by decide +kernel
theorem dX8_anchor_49 : decode cX8_anchor 49 = .ok (.sipush (-10001), 3) := by decide +kernel
theorem dX8_anchor_52 : decode cX8_anchor 52 = .ok (.ireturn, 1) := by decide +kernel
theorem dX8_anchor_53 : decode cX8_anchor 53 = .ok (.aload_n 0, 1) := by decide +kernel
theorem dX8_anchor_54 : decode cX8_anchor 54 = .ok (.getfield 7, 3) := by decide +kernel
theorem dX8_anchor_57 : decode cX8_anchor 57 = .ok (.bipush 9, 2) := by decide +kernel
theorem dX8_anchor_59 : decode cX8_anchor 59 = .ok (.iaload, 1) := by decide +kernel
theorem dX8_anchor_60 : decode cX8_anchor 60 = .ok (.istore 5, 2) := by decide +kernel
theorem dX8_anchor_62 : decode cX8_anchor 62 = .ok (.iload 5, 2) := by decide +kernel
theorem dX8_anchor_64 : decode cX8_anchor 64 = .ok (.bipush 10, 2) := by decide +kernel
theorem dX8_anchor_66 : decode cX8_anchor 66 = .ok (.if_icmp .ne 7, 3) := by decide +kernel
theorem dX8_anchor_69 : decode cX8_anchor 69 = .ok (.sipush (-10003), 3) := by decide +kernel
theorem dX8_anchor_72 : decode cX8_anchor 72 = .ok (.ireturn, 1) := by decide +kernel
theorem dX8_anchor_73 : decode cX8_anchor 73 = .ok (.aload_n 0, 1) := by decide +kernel
theorem dX8_anchor_74 : decode cX8_anchor 74 = .ok (.invokevirtual 115, 3) := by decide +kernel
theorem dX8_anchor_77 : decode cX8_anchor 77 = .ok (.aload_n 0, 1) := by decide +kernel
theorem dX8_anchor_78 : decode cX8_anchor 78 = .ok (.getfield 7, 3) := by decide +kernel
theorem dX8_anchor_81 : decode cX8_anchor 81 = .ok (.bipush 10, 2) := by decide +kernel
theorem dX8_anchor_83 : decode cX8_anchor 83 = .ok (.iload 5, 2) := by decide +kernel
theorem dX8_anchor_85 : decode cX8_anchor 85 = .ok (.iadd, 1) := by decide +kernel
theorem dX8_anchor_86 : decode cX8_anchor 86 = .ok (.iload_n 1, 1) := by decide +kernel
theorem dX8_anchor_87 : decode cX8_anchor 87 = .ok (.iastore, 1) := by decide +kernel
theorem dX8_anchor_88 : decode cX8_anchor 88 = .ok (.aload_n 0, 1) := by decide +kernel
theorem dX8_anchor_89 : decode cX8_anchor 89 = .ok (.getfield 7, 3) := by decide +kernel
theorem dX8_anchor_92 : decode cX8_anchor 92 = .ok (.bipush 20, 2) := by decide +kernel
theorem dX8_anchor_94 : decode cX8_anchor 94 = .ok (.iload 5, 2) := by decide +kernel
theorem dX8_anchor_96 : decode cX8_anchor 96 = .ok (.iadd, 1) := by decide +kernel
theorem dX8_anchor_97 : decode cX8_anchor 97 = .ok (.iload_n 2, 1) := by decide +kernel
theorem dX8_anchor_98 : decode cX8_anchor 98 = .ok (.iastore, 1) := by decide +kernel
theorem dX8_anchor_99 : decode cX8_anchor 99 = .ok (.aload_n 0, 1) := by decide +kernel
theorem dX8_anchor_100 : decode cX8_anchor 100 = .ok (.getfield 7, 3) := by decide +kernel
theorem dX8_anchor_103 : decode cX8_anchor 103 = .ok (.bipush 30, 2) := by decide +kernel
theorem dX8_anchor_105 : decode cX8_anchor 105 = .ok (.iload 5, 2) := by decide +kernel
theorem dX8_anchor_107 : decode cX8_anchor 107 = .ok (.iadd, 1) := by decide +kernel
theorem dX8_anchor_108 : decode cX8_anchor 108 = .ok (.iload_n 3, 1) := by decide +kernel
theorem dX8_anchor_109 : decode cX8_anchor 109 = .ok (.iastore, 1) := by decide +kernel
theorem dX8_anchor_110 : decode cX8_anchor 110 = .ok (.aload_n 0, 1) := by decide +kernel
theorem dX8_anchor_111 : decode cX8_anchor 111 = .ok (.getfield 7, 3) := by decide +kernel
theorem dX8_anchor_114 : decode cX8_anchor 114 = .ok (.bipush 40, 2) := by decide +kernel
theorem dX8_anchor_116 : decode cX8_anchor 116 = .ok (.iload 5, 2) := by decide +kernel
theorem dX8_anchor_118 : decode cX8_anchor 118 = .ok (.iadd, 1) := by decide +kernel
theorem dX8_anchor_119 : decode cX8_anchor 119 = .ok (.iload 4, 2) := by decide +kernel
theorem dX8_anchor_121 : decode cX8_anchor 121 = .ok (.iastore, 1) := by decide +kernel
theorem dX8_anchor_122 : decode cX8_anchor 122 = .ok (.aload_n 0, 1) := by decide +kernel
theorem dX8_anchor_123 : decode cX8_anchor 123 = .ok (.getfield 7, 3) := by decide +kernel
theorem dX8_anchor_126 : decode cX8_anchor 126 = .ok (.bipush 9, 2) := by decide +kernel
theorem dX8_anchor_128 : decode cX8_anchor 128 = .ok (.dup2, 1) := by decide +kernel
theorem dX8_anchor_129 : decode cX8_anchor 129 = .ok (.iaload, 1) := by decide +kernel
theorem dX8_anchor_130 : decode cX8_anchor 130 = .ok (.iconst 1, 1) := by decide +kernel
theorem dX8_anchor_131 : decode cX8_anchor 131 = .ok (.iadd, 1) := by decide +kernel
theorem dX8_anchor_132 : decode cX8_anchor 132 = .ok (.iastore, 1) := by decide +kernel
theorem dX8_anchor_133 : decode cX8_anchor 133 = .ok (.iload 5, 2) := by decide +kernel
theorem dX8_anchor_135 : decode cX8_anchor 135 = .ok (.ireturn, 1) := by decide +kernel
theorem dX8_moveAnchor_0 : decode cX8_moveAnchor 0 = .ok (.aload_n 0, 1) := by decide +kernel
theorem dX8_moveAnchor_1 : decode cX8_moveAnchor 1 = .ok (.iload_n 1, 1) := by decide +kernel
theorem dX8_moveAnchor_2 : decode cX8_moveAnchor 2 = .ok (.invokevirtual 125, 3) := by decide +kernel
theorem dX8_moveAnchor_5 : decode cX8_moveAnchor 5 = .ok (.ifCond .eq 29, 3) := by decide +kernel
theorem dX8_moveAnchor_8 : decode cX8_moveAnchor 8 = .ok (.iload_n 2, 1) := by decide +kernel
theorem dX8_moveAnchor_9 : decode cX8_moveAnchor 9 = .ok (.sipush (-1000), 3) := by decide +kernel
theorem dX8_moveAnchor_12 : decode cX8_moveAnchor 12 = .ok (.sipush 1000, 3) := by decide +kernel
theorem dX8_moveAnchor_15 : decode cX8_moveAnchor 15 = .ok (.invokestatic 32, 3) := by decide +kernel
theorem dX8_moveAnchor_18 : decode cX8_moveAnchor 18 = .ok (.ifCond .eq 16, 3) := by decide +kernel
theorem dX8_moveAnchor_21 : decode cX8_moveAnchor 21 = .ok (.iload_n 3, 1) := by decide +kernel
theorem dX8_moveAnchor_22 : decode cX8_moveAnchor 22 = .ok (.sipush (-1000), 3) := by decide +kernel
theorem dX8_moveAnchor_25 : decode cX8_moveAnchor 25 = .ok (.sipush 1000, 3) := by decide +kernel
theorem dX8_moveAnchor_28 : decode cX8_moveAnchor 28 = .ok (.invokestatic 32, 3) := by decide +kernel
theorem dX8_moveAnchor_31 : decode cX8_moveAnchor 31 = .ok (.ifCond .ne 7, 3) := by decide +kernel
theorem dX8_moveAnchor_34 : decode cX8_moveAnchor 34 = .ok (.sipush (-10001), 3) := by decide +kernel
theorem dX8_moveAnchor_37 : decode cX8_moveAnchor 37 = .ok (.ireturn, 1) := by decide +kernel
theorem dX8_moveAnchor_38 : decode cX8_moveAnchor 38 = .ok (.aload_n 0, 1) := by decide +kernel
theorem dX8_moveAnchor_39 : decode cX8_moveAnchor 39 = .ok (.invokevirtual 115, 3) := by decide +kernel
theorem dX8_moveAnchor_42 : decode cX8_moveAnchor 42 = .ok (.aload_n 0, 1) := by decide +kernel
theorem dX8_moveAnchor_43 : decode cX8_moveAnchor 43 = .ok (.getfield 7, 3) := by decide +kernel
theorem dX8_moveAnchor_46 : decode cX8_moveAnchor 46 = .ok (.bipush 10, 2) := by decide +kernel
theorem dX8_moveAnchor_48 : decode cX8_moveAnchor 48 = .ok (.iload_n 1, 1) := by decide +kernel
theorem dX8_moveAnchor_49 : decode cX8_moveAnchor 49 = .ok (.iadd, 1) := by decide +kernel
theorem dX8_moveAnchor_50 : decode cX8_moveAnchor 50 = .ok (.iload_n 2, 1) := by decide +kernel
theorem dX8_moveAnchor_51 : decode cX8_moveAnchor 51 = .ok (.iastore, 1) := by decide +kernel
theorem dX8_moveAnchor_52 : decode cX8_moveAnchor 52 = .ok (.aload_n 0, 1) := by decide +kernel
theorem dX8_moveAnchor_53 : decode cX8_moveAnchor 53 = .ok (.getfield 7, 3) := by decide +kernel
theorem dX8_moveAnchor_56 : decode cX8_moveAnchor 56 = .ok (.bipush 20, 2) := by decide +kernel
theorem dX8_moveAnchor_58 : decode cX8_moveAnchor 58 = .ok (.iload_n 1, 1) := by decide +kernel
theorem dX8_moveAnchor_59 : decode cX8_moveAnchor 59 = .ok (.iadd, 1) := by decide +kernel
theorem dX8_moveAnchor_60 : decode cX8_moveAnchor 60 = .ok (.iload_n 3, 1) := by decide +kernel
theorem dX8_moveAnchor_61 : decode cX8_moveAnchor 61 = .ok (.iastore, 1) := by decide +kernel
theorem dX8_moveAnchor_62 : decode cX8_moveAnchor 62 = .ok (.aload_n 0, 1) := by decide +kernel
theorem dX8_moveAnchor_63 : decode cX8_moveAnchor 63 = .ok (.invokevirtual 118, 3) := by decide +kernel
theorem dX8_moveAnchor_66 : decode cX8_moveAnchor 66 = .ok (.ireturn, 1) := by decide +kernel
theorem dX8_anchorOf_0 : decode cX8_anchorOf 0 = .ok (.aload_n 0, 1) := by decide +kernel
theorem dX8_anchorOf_1 : decode cX8_anchorOf 1 = .ok (.iload_n 1, 1) := by decide +kernel
theorem dX8_anchorOf_2 : decode cX8_anchorOf 2 = .ok (.invokevirtual 125, 3) := by decide +kernel
theorem dX8_anchorOf_5 : decode cX8_anchorOf 5 = .ok (.ifCond .eq 13, 3) := by decide +kernel
theorem dX8_anchorOf_8 : decode cX8_anchorOf 8 = .ok (.iload_n 2, 1) := by decide +kernel
theorem dX8_anchorOf_9 : decode cX8_anchorOf 9 = .ok (.iconst 0, 1) := by decide +kernel
theorem dX8_anchorOf_10 : decode cX8_anchorOf 10 = .ok (.bipush 6, 2) := by decide +kernel
theorem dX8_anchorOf_12 : decode cX8_anchorOf 12 = .ok (.invokestatic 32, 3) := by decide +kernel
theorem dX8_anchorOf_15 : decode cX8_anchorOf 15 = .ok (.ifCond .ne 7, 3) := by decide +kernel
theorem dX8_anchorOf_18 : decode cX8_anchorOf 18 = .ok (.sipush (-10001), 3) := by decide +kernel
theorem dX8_anchorOf_21 : decode cX8_anchorOf 21 = .ok (.ireturn, 1) := by decide +kernel
theorem dX8_anchorOf_22 : decode cX8_anchorOf 22 = .ok (.iload_n 2, 1) := by decide +kernel
theorem dX8_anchorOf_23 : decode cX8_anchorOf 23 = .ok (.iconst 4, 1) := by decide +kernel
theorem dX8_anchorOf_24 : decode cX8_anchorOf 24 = .ok (.if_icmp .ge 10, 3) := by decide +kernel
theorem dX8_anchorOf_27 : decode cX8_anchorOf 27 = .ok (.aload_n 0, 1) := by decide +kernel
theorem dX8_anchorOf_28 : decode cX8_anchorOf 28 = .ok (.iload_n 1, 1) := by decide +kernel
theorem dX8_anchorOf_29 : decode cX8_anchorOf 29 = .ok (.iload_n 2, 1) := by decide +kernel
theorem dX8_anchorOf_30 : decode cX8_anchorOf 30 = .ok (.invokevirtual 40, 3) := by decide +kernel
theorem dX8_anchorOf_33 : decode cX8_anchorOf 33 = .ok (.ireturn, 1) := by decide +kernel
theorem dX8_anchorOf_34 : decode cX8_anchorOf 34 = .ok (.iload_n 2, 1) := by decide +kernel
theorem dX8_anchorOf_35 : decode cX8_anchorOf 35 = .ok (.iconst 4, 1) := by decide +kernel
theorem dX8_anchorOf_36 : decode cX8_anchorOf 36 = .ok (.if_icmp .ne 17, 3) := by decide +kernel
theorem dX8_anchorOf_39 : decode cX8_anchorOf 39 = .ok (.aload_n 0, 1) := by decide +kernel
theorem dX8_anchorOf_40 : decode cX8_anchorOf 40 = .ok (.iload_n 1, 1) := by decide +kernel
theorem dX8_anchorOf_41 : decode cX8_anchorOf 41 = .ok (.invokevirtual 106, 3) := by decide +kernel
theorem dX8_anchorOf_44 : decode cX8_anchorOf 44 = .ok (.ifCond .eq 7, 3) := by decide +kernel
theorem dX8_anchorOf_47 : decode cX8_anchorOf 47 = .ok (.iconst 1, 1) := by decide +kernel
theorem dX8_anchorOf_48 : decode cX8_anchorOf 48 = .ok (.goto 4, 3) := by decide +kernel
theorem dX8_anchorOf_51 : decode cX8_anchorOf 51 = .ok (.iconst 0, 1) := by decide +kernel
theorem dX8_anchorOf_52 : decode cX8_anchorOf 52 = .ok (.ireturn, 1) := by decide +kernel
theorem dX8_anchorOf_53 : decode cX8_anchorOf 53 = .ok (.aload_n 0, 1) := by decide +kernel
theorem dX8_anchorOf_54 : decode cX8_anchorOf 54 = .ok (.invokevirtual 112, 3) := by decide +kernel
theorem dX8_anchorOf_57 : decode cX8_anchorOf 57 = .ok (.iconst 0, 1) := by decide +kernel
theorem dX8_anchorOf_58 : decode cX8_anchorOf 58 = .ok (.istore_n 3, 1) := by decide +kernel
theorem dX8_anchorOf_59 : decode cX8_anchorOf 59 = .ok (.iconst 0, 1) := by decide +kernel
theorem dX8_anchorOf_60 : decode cX8_anchorOf 60 = .ok (.istore 4, 2) := by decide +kernel
theorem dX8_anchorOf_62 : decode cX8_anchorOf 62 = .ok (.iload 4, 2) := by decide +kernel
theorem dX8_anchorOf_64 : decode cX8_anchorOf 64 = .ok (.aload_n 0, 1) := by decide +kernel
theorem dX8_anchorOf_65 : decode cX8_anchorOf 65 = .ok (.getfield 7, 3) := by decide +kernel
theorem dX8_anchorOf_68 : decode cX8_anchorOf 68 = .ok (.bipush 50, 2) := by decide +kernel
theorem dX8_anchorOf_70 : decode cX8_anchorOf 70 = .ok (.iaload, 1) := by decide +kernel
theorem dX8_anchorOf_71 : decode cX8_anchorOf 71 = .ok (.if_icmp .ge 44, 3) := by decide +kernel
theorem dX8_anchorOf_74 : decode cX8_anchorOf 74 = .ok (.iload_n 3, 1) := by decide +kernel
theorem dX8_anchorOf_75 : decode cX8_anchorOf 75 = .ok (.aload_n 0, 1) := by decide +kernel
theorem dX8_anchorOf_76 : decode cX8_anchorOf 76 = .ok (.iload 4, 2) := by decide +kernel
theorem dX8_anchorOf_78 : decode cX8_anchorOf 78 = .ok (.iconst 0, 1) := by decide +kernel
theorem dX8_anchorOf_79 : decode cX8_anchorOf 79 = .ok (.invokevirtual 52, 3) := by decide +kernel
theorem dX8_anchorOf_82 : decode cX8_anchorOf 82 = .ok (.iload_n 1, 1) := by decide +kernel
theorem dX8_anchorOf_83 : decode cX8_anchorOf 83 = .ok (.if_icmp .ne 23, 3) := by decide +kernel
theorem dX8_anchorOf_86 : decode cX8_anchorOf 86 = .ok (.iload_n 2, 1) := by decide +kernel
theorem dX8_anchorOf_87 : decode cX8_anchorOf 87 = .ok (.iconst 5, 1) := by decide +kernel
theorem dX8_anchorOf_88 : decode cX8_anchorOf 88 = .ok (.if_icmp .eq 14, 3) := by decide +kernel
theorem dX8_anchorOf_91 : decode cX8_anchorOf 91 = .ok (.aload_n 0, 1) := by decide +kernel
theorem dX8_anchorOf_92 : decode cX8_anchorOf 92 = .ok (.getfield 26, 3) := by decide +kernel
theorem dX8_anchorOf_95 : decode cX8_anchorOf 95 = .ok (.iload 4, 2) := by decide +kernel
theorem dX8_anchorOf_97 : decode cX8_anchorOf 97 = .ok (.iaload, 1) := by decide +kernel
theorem dX8_anchorOf_98 : decode cX8_anchorOf 98 = .ok (.iconst (-1), 1) := by decide +kernel
theorem dX8_anchorOf_99 : decode cX8_anchorOf 99 = .ok (.if_icmp .eq 7, 3) := by decide +kernel
theorem dX8_anchorOf_102 : decode cX8_anchorOf 102 = .ok (.iconst 1, 1) := by decide +kernel
theorem dX8_anchorOf_103 : decode cX8_anchorOf 103 = .ok (.goto 4, 3) := by decide +kernel
theorem dX8_anchorOf_106 : decode cX8_anchorOf 106 = .ok (.iconst 0, 1) := by decide +kernel
theorem dX8_anchorOf_107 : decode cX8_anchorOf 107 = .ok (.iadd, 1) := by decide +kernel
theorem dX8_anchorOf_108 : decode cX8_anchorOf 108 = .ok (.istore_n 3, 1) := by decide +kernel
theorem dX8_anchorOf_109 : decode cX8_anchorOf 109 = .ok (.iinc 4 1, 3) := by decide +kernel
theorem dX8_anchorOf_112 : decode cX8_anchorOf 112 = .ok (.goto (-50), 3) := by decide +kernel
theorem dX8_anchorOf_115 : decode cX8_anchorOf 115 = .ok (.iload_n 3, 1) := by decide +kernel
theorem dX8_anchorOf_116 : decode cX8_anchorOf 116 = .ok (.ireturn, 1) := by decide +kernel
theorem dX8_isSetting_0 : decode cX8_isSetting 0 = .ok (.iload_n 0, 1) := by decide +kernel
theorem dX8_isSetting_1 : decode cX8_isSetting 1 = .ok (.tableswitch 66 0 4 #[35, 43, 51, 59, 59], 35) := by decide +kernel
theorem dX8_isSetting_36 : decode cX8_isSetting 36 = .ok (.iload_n 1, 1) := by decide +kernel
theorem dX8_isSetting_37 : decode cX8_isSetting 37 = .ok (.iconst 0, 1) := by decide +kernel
theorem dX8_isSetting_38 : decode cX8_isSetting 38 = .ok (.bipush 30, 2) := by decide +kernel
theorem dX8_isSetting_40 : decode cX8_isSetting 40 = .ok (.invokestatic 32, 3) := by decide +kernel
theorem dX8_isSetting_43 : decode cX8_isSetting 43 = .ok (.ireturn, 1) := by decide +kernel
theorem dX8_isSetting_44 : decode cX8_isSetting 44 = .ok (.iload_n 1, 1) := by decide +kernel
theorem dX8_isSetting_45 : decode cX8_isSetting 45 = .ok (.iconst 0, 1) := by decide +kernel
theorem dX8_isSetting_46 : decode cX8_isSetting 46 = .ok (.bipush 20, 2) := by decide +kernel
theorem dX8_isSetting_48 : decode cX8_isSetting 48 = .ok (.invokestatic 32, 3) := by decide +kernel
theorem dX8_isSetting_51 : decode cX8_isSetting 51 = .ok (.ireturn, 1) := by decide +kernel
theorem dX8_isSetting_52 : decode cX8_isSetting 52 = .ok (.iload_n 1, 1) := by decide +kernel
theorem dX8_isSetting_53 : decode cX8_isSetting 53 = .ok (.iconst 1, 1) := by decide +kernel
theorem dX8_isSetting_54 : decode cX8_isSetting 54 = .ok (.bipush 6, 2) := by decide +kernel
theorem dX8_isSetting_56 : decode cX8_isSetting 56 = .ok (.invokestatic 32, 3) := by decide +kernel
theorem dX8_isSetting_59 : decode cX8_isSetting 59 = .ok (.ireturn, 1) := by decide +kernel
theorem dX8_isSetting_60 : decode cX8_isSetting 60 = .ok (.iload_n 1, 1) := by decide +kernel
theorem dX8_isSetting_61 : decode cX8_isSetting 61 = .ok (.iconst 0, 1) := by decide +kernel
theorem dX8_isSetting_62 : decode cX8_isSetting 62 = .ok (.iconst 1, 1) := by decide +kernel
theorem dX8_isSetting_63 : decode cX8_isSetting 63 = .ok (.invokestatic 32, 3) := by decide +kernel
theorem dX8_isSetting_66 : decode cX8_isSetting 66 = .ok (.ireturn, 1) := by decide +kernel
theorem dX8_isSetting_67 : decode cX8_isSetting 67 = .ok (.iconst 0, 1) := by decide +kernel
theorem dX8_isSetting_68 : decode cX8_isSetting 68 = .ok (.ireturn, 1) := by decide +kernel
theorem dX8_set_0 : decode cX8_set 0 = .ok (.iload_n 1, 1) := by decide +kernel
theorem dX8_set_1 : decode cX8_set 1 = .ok (.iload_n 2, 1) := by decide +kernel
theorem dX8_set_2 : decode cX8_set 2 = .ok (.invokestatic 128, 3) := by decide +kernel
theorem dX8_set_5 : decode cX8_set 5 = .ok (.ifCond .ne 7, 3) := by decide +kernel
theorem dX8_set_8 : decode cX8_set 8 = .ok (.sipush (-10001), 3) := by decide +kernel
theorem dX8_set_11 : decode cX8_set 11 = .ok (.ireturn, 1) := by decide +kernel
theorem dX8_set_12 : decode cX8_set 12 = .ok (.aload_n 0, 1) := by decide +kernel
theorem dX8_set_13 : decode cX8_set 13 = .ok (.invokevirtual 115, 3) := by decide +kernel
theorem dX8_set_16 : decode cX8_set 16 = .ok (.aload_n 0, 1) := by decide +kernel
theorem dX8_set_17 : decode cX8_set 17 = .ok (.getfield 7, 3) := by decide +kernel
theorem dX8_set_20 : decode cX8_set 20 = .ok (.iconst 4, 1) := by decide +kernel
theorem dX8_set_21 : decode cX8_set 21 = .ok (.iload_n 1, 1) := by decide +kernel
theorem dX8_set_22 : decode cX8_set 22 = .ok (.iadd, 1) := by decide +kernel
theorem dX8_set_23 : decode cX8_set 23 = .ok (.iaload, 1) := by decide +kernel
theorem dX8_set_24 : decode cX8_set 24 = .ok (.istore_n 3, 1) := by decide +kernel
theorem dX8_set_25 : decode cX8_set 25 = .ok (.aload_n 0, 1) := by decide +kernel
theorem dX8_set_26 : decode cX8_set 26 = .ok (.getfield 7, 3) := by decide +kernel
theorem dX8_set_29 : decode cX8_set 29 = .ok (.iconst 4, 1) := by decide +kernel
theorem dX8_set_30 : decode cX8_set 30 = .ok (.iload_n 1, 1) := by decide +kernel
theorem dX8_set_31 : decode cX8_set 31 = .ok (.iadd, 1) := by decide +kernel
theorem dX8_set_32 : decode cX8_set 32 = .ok (.iload_n 2, 1) := by decide +kernel
theorem dX8_set_33 : decode cX8_set 33 = .ok (.iastore, 1) := by decide +kernel
theorem dX8_set_34 : decode cX8_set 34 = .ok (.iload_n 3, 1) := by decide +kernel
theorem dX8_set_35 : decode cX8_set 35 = .ok (.ireturn, 1) := by decide +kernel
theorem dX8_covered_0 : decode cX8_covered 0 = .ok (.iconst 0, 1) := by decide +kernel
theorem dX8_covered_1 : decode cX8_covered 1 = .ok (.istore_n 2, 1) := by decide +kernel
theorem dX8_covered_2 : decode cX8_covered 2 = .ok (.iconst 0, 1) := by decide +kernel
theorem dX8_covered_3 : decode cX8_covered 3 = .ok (.istore_n 3, 1) := by decide +kernel
theorem dX8_covered_4 : decode cX8_covered 4 = .ok (.iload_n 3, 1) := by decide +kernel
theorem dX8_covered_5 : decode cX8_covered 5 = .ok (.aload_n 0, 1) := by decide +kernel
theorem dX8_covered_6 : decode cX8_covered 6 = .ok (.getfield 7, 3) := by decide +kernel
theorem dX8_covered_9 : decode cX8_covered 9 = .ok (.bipush 50, 2) := by decide +kernel
theorem dX8_covered_11 : decode cX8_covered 11 = .ok (.iaload, 1) := by decide +kernel
theorem dX8_covered_12 : decode cX8_covered 12 = .ok (.if_icmp .ge 47, 3) := by decide +kernel
theorem dX8_covered_15 : decode cX8_covered 15 = .ok (.iload_n 2, 1) := by decide +kernel
theorem dX8_covered_16 : decode cX8_covered 16 = .ok (.aload_n 0, 1) := by decide +kernel
theorem dX8_covered_17 : decode cX8_covered 17 = .ok (.getfield 26, 3) := by decide +kernel
theorem dX8_covered_20 : decode cX8_covered 20 = .ok (.iload_n 3, 1) := by decide +kernel
theorem dX8_covered_21 : decode cX8_covered 21 = .ok (.iaload, 1) := by decide +kernel
theorem dX8_covered_22 : decode cX8_covered 22 = .ok (.iconst (-1), 1) := by decide +kernel
theorem dX8_covered_23 : decode cX8_covered 23 = .ok (.if_icmp .ne 7, 3) := by decide +kernel
theorem dX8_covered_26 : decode cX8_covered 26 = .ok (.iconst 0, 1) := by decide +kernel
theorem dX8_covered_27 : decode cX8_covered 27 = .ok (.goto 24, 3) := by decide +kernel
theorem dX8_covered_30 : decode cX8_covered 30 = .ok (.iload_n 1, 1) := by decide +kernel
theorem dX8_covered_31 : decode cX8_covered 31 = .ok (.ifCond .eq 7, 3) := by decide +kernel
theorem dX8_covered_34 : decode cX8_covered 34 = .ok (.iconst 1, 1) := by decide +kernel
theorem dX8_covered_35 : decode cX8_covered 35 = .ok (.goto 16, 3) := by decide +kernel
theorem dX8_covered_38 : decode cX8_covered 38 = .ok (.aload_n 0, 1) := by decide +kernel
theorem dX8_covered_39 : decode cX8_covered 39 = .ok (.iload_n 3, 1) := by decide +kernel
theorem dX8_covered_40 : decode cX8_covered 40 = .ok (.iconst 1, 1) := by decide +kernel
theorem dX8_covered_41 : decode cX8_covered 41 = .ok (.invokevirtual 52, 3) := by decide +kernel
theorem dX8_covered_44 : decode cX8_covered 44 = .ok (.aload_n 0, 1) := by decide +kernel
theorem dX8_covered_45 : decode cX8_covered 45 = .ok (.iload_n 3, 1) := by decide +kernel
theorem dX8_covered_46 : decode cX8_covered 46 = .ok (.iconst 2, 1) := by decide +kernel
theorem dX8_covered_47 : decode cX8_covered 47 = .ok (.invokevirtual 52, 3) := by decide +kernel
theorem dX8_covered_50 : decode cX8_covered 50 = .ok (.imul, 1) := by decide +kernel
theorem dX8_covered_51 : decode cX8_covered 51 = .ok (.iadd, 1) := by decide +kernel
theorem dX8_covered_52 : decode cX8_covered 52 = .ok (.istore_n 2, 1) := by decide +kernel
theorem dX8_covered_53 : decode cX8_covered 53 = .ok (.iinc 3 1, 3) := by decide +kernel
theorem dX8_covered_56 : decode cX8_covered 56 = .ok (.goto (-52), 3) := by decide +kernel
theorem dX8_covered_59 : decode cX8_covered 59 = .ok (.iload_n 2, 1) := by decide +kernel
theorem dX8_covered_60 : decode cX8_covered 60 = .ok (.ireturn, 1) := by decide +kernel
theorem dX8_count_0 : decode cX8_count 0 = .ok (.aload_n 0, 1) := by decide +kernel
theorem dX8_count_1 : decode cX8_count 1 = .ok (.invokevirtual 112, 3) := by decide +kernel
theorem dX8_count_4 : decode cX8_count 4 = .ok (.iconst 0, 1) := by decide +kernel
theorem dX8_count_5 : decode cX8_count 5 = .ok (.istore_n 2, 1) := by decide +kernel
theorem dX8_count_6 : decode cX8_count 6 = .ok (.iconst 0, 1) := by decide +kernel
theorem dX8_count_7 : decode cX8_count 7 = .ok (.istore_n 3, 1) := by decide +kernel
theorem dX8_count_8 : decode cX8_count 8 = .ok (.iload_n 3, 1) := by decide +kernel
theorem dX8_count_9 : decode cX8_count 9 = .ok (.aload_n 0, 1) := by decide +kernel
theorem dX8_count_10 : decode cX8_count 10 = .ok (.getfield 7, 3) := by decide +kernel
theorem dX8_count_13 : decode cX8_count 13 = .ok (.bipush 50, 2) := by decide +kernel
theorem dX8_count_15 : decode cX8_count 15 = .ok (.iaload, 1) := by decide +kernel
theorem dX8_count_16 : decode cX8_count 16 = .ok (.if_icmp .ge 31, 3) := by decide +kernel
theorem dX8_count_19 : decode cX8_count 19 = .ok (.iload_n 2, 1) := by decide +kernel
theorem dX8_count_20 : decode cX8_count 20 = .ok (.aload_n 0, 1) := by decide +kernel
theorem dX8_count_21 : decode cX8_count 21 = .ok (.getfield 7, 3) := by decide +kernel
theorem dX8_count_24 : decode cX8_count 24 = .ok (.sipush 160, 3) := by decide +kernel
theorem dX8_count_27 : decode cX8_count 27 = .ok (.iload_n 3, 1) := by decide +kernel
theorem dX8_count_28 : decode cX8_count 28 = .ok (.iadd, 1) := by decide +kernel
theorem dX8_count_29 : decode cX8_count 29 = .ok (.iaload, 1) := by decide +kernel
theorem dX8_count_30 : decode cX8_count 30 = .ok (.iconst (-1), 1) := by decide +kernel
theorem dX8_count_31 : decode cX8_count 31 = .ok (.if_icmp .ne 7, 3) := by decide +kernel
theorem dX8_count_34 : decode cX8_count 34 = .ok (.iconst 0, 1) := by decide +kernel
theorem dX8_count_35 : decode cX8_count 35 = .ok (.goto 4, 3) := by decide +kernel
theorem dX8_count_38 : decode cX8_count 38 = .ok (.iconst 1, 1) := by decide +kernel
theorem dX8_count_39 : decode cX8_count 39 = .ok (.iadd, 1) := by decide +kernel
theorem dX8_count_40 : decode cX8_count 40 = .ok (.istore_n 2, 1) := by decide +kernel
theorem dX8_count_41 : decode cX8_count 41 = .ok (.iinc 3 1, 3) := by decide +kernel
theorem dX8_count_44 : decode cX8_count 44 = .ok (.goto (-36), 3) := by decide +kernel
theorem dX8_count_47 : decode cX8_count 47 = .ok (.iload_n 1, 1) := by decide +kernel
theorem dX8_count_48 : decode cX8_count 48 = .ok (.tableswitch 163 0 17 #[88, 88, 88, 88, 95, 103, 111, 120, 125, 127, 132, 137, 137, 137, 137, 137, 147, 147], 88) := by decide +kernel
theorem dX8_count_136 : decode cX8_count 136 = .ok (.aload_n 0, 1) := by decide +kernel
theorem dX8_count_137 : decode cX8_count 137 = .ok (.getfield 7, 3) := by decide +kernel
theorem dX8_count_140 : decode cX8_count 140 = .ok (.iload_n 1, 1) := by decide +kernel
theorem dX8_count_141 : decode cX8_count 141 = .ok (.iaload, 1) := by decide +kernel
theorem dX8_count_142 : decode cX8_count 142 = .ok (.ireturn, 1) := by decide +kernel
theorem dX8_count_143 : decode cX8_count 143 = .ok (.aload_n 0, 1) := by decide +kernel
theorem dX8_count_144 : decode cX8_count 144 = .ok (.getfield 7, 3) := by decide +kernel
theorem dX8_count_147 : decode cX8_count 147 = .ok (.bipush 9, 2) := by decide +kernel
theorem dX8_count_149 : decode cX8_count 149 = .ok (.iaload, 1) := by decide +kernel
theorem dX8_count_150 : decode cX8_count 150 = .ok (.ireturn, 1) := by decide +kernel
theorem dX8_count_151 : decode cX8_count 151 = .ok (.aload_n 0, 1) := by decide +kernel
theorem dX8_count_152 : decode cX8_count 152 = .ok (.getfield 7, 3) := by decide +kernel
theorem dX8_count_155 : decode cX8_count 155 = .ok (.bipush 50, 2) := by decide +kernel
theorem dX8_count_157 : decode cX8_count 157 = .ok (.iaload, 1) := by decide +kernel
theorem dX8_count_158 : decode cX8_count 158 = .ok (.ireturn, 1) := by decide +kernel
theorem dX8_count_159 : decode cX8_count 159 = .ok (.aload_n 0, 1) := by decide +kernel
theorem dX8_count_160 : decode cX8_count 160 = .ok (.getfield 7, 3) := by decide +kernel
theorem dX8_count_163 : decode cX8_count 163 = .ok (.sipush 147, 3) := by decide +kernel
theorem dX8_count_166 : decode cX8_count 166 = .ok (.iaload, 1) := by decide +kernel
theorem dX8_count_167 : decode cX8_count 167 = .ok (.ireturn, 1) := by decide +kernel
theorem dX8_count_168 : decode cX8_count 168 = .ok (.aload_n 0, 1) := by decide +kernel
theorem dX8_count_169 : decode cX8_count 169 = .ok (.getfield 100, 3) := by decide +kernel
theorem dX8_count_172 : decode cX8_count 172 = .ok (.ireturn, 1) := by decide +kernel
theorem dX8_count_173 : decode cX8_count 173 = .ok (.iload_n 2, 1) := by decide +kernel
theorem dX8_count_174 : decode cX8_count 174 = .ok (.ireturn, 1) := by decide +kernel
theorem dX8_count_175 : decode cX8_count 175 = .ok (.aload_n 0, 1) := by decide +kernel
theorem dX8_count_176 : decode cX8_count 176 = .ok (.getfield 36, 3) := by decide +kernel
theorem dX8_count_179 : decode cX8_count 179 = .ok (.ireturn, 1) := by decide +kernel
theorem dX8_count_180 : decode cX8_count 180 = .ok (.aload_n 0, 1) := by decide +kernel
theorem dX8_count_181 : decode cX8_count 181 = .ok (.getfield 131, 3) := by decide +kernel
theorem dX8_count_184 : decode cX8_count 184 = .ok (.ireturn, 1) := by decide +kernel
theorem dX8_count_185 : decode cX8_count 185 = .ok (.aload_n 0, 1) := by decide +kernel
theorem dX8_count_186 : decode cX8_count 186 = .ok (.getfield 7, 3) := by decide +kernel
theorem dX8_count_189 : decode cX8_count 189 = .ok (.iload_n 1, 1) := by decide +kernel
theorem dX8_count_190 : decode cX8_count 190 = .ok (.bipush 7, 2) := by decide +kernel
theorem dX8_count_192 : decode cX8_count 192 = .ok (.isub, 1) := by decide +kernel
theorem dX8_count_193 : decode cX8_count 193 = .ok (.iaload, 1) := by decide +kernel
theorem dX8_count_194 : decode cX8_count 194 = .ok (.ireturn, 1) := by decide +kernel
theorem dX8_count_195 : decode cX8_count 195 = .ok (.aload_n 0, 1) := by decide +kernel
theorem dX8_count_196 : decode cX8_count 196 = .ok (.iload_n 1, 1) := by decide +kernel
theorem dX8_count_197 : decode cX8_count 197 = .ok (.bipush 17, 2) := by decide +kernel
theorem dX8_count_199 : decode cX8_count 199 = .ok (.if_icmp .ne 7, 3) := by decide +kernel
theorem dX8_count_202 : decode cX8_count 202 = .ok (.iconst 1, 1) := by decide +kernel
theorem dX8_count_203 : decode cX8_count 203 = .ok (.goto 4, 3) := by decide +kernel
theorem dX8_count_206 : decode cX8_count 206 = .ok (.iconst 0, 1) := by decide +kernel
theorem dX8_count_207 : decode cX8_count 207 = .ok (.invokevirtual 134, 3) := by decide +kernel
theorem dX8_count_210 : decode cX8_count 210 = .ok (.ireturn, 1) := by decide +kernel
theorem dX8_count_211 : decode cX8_count 211 = .ok (.sipush (-10001), 3) := by decide +kernel
theorem dX8_count_214 : decode cX8_count 214 = .ok (.ireturn, 1) := by decide +kernel
theorem dX8_hint_0 : decode cX8_hint 0 = .ok (.aload_n 0, 1) := by decide +kernel
theorem dX8_hint_1 : decode cX8_hint 1 = .ok (.iload_n 1, 1) := by decide +kernel
theorem dX8_hint_2 : decode cX8_hint 2 = .ok (.invokevirtual 125, 3) := by decide +kernel
theorem dX8_hint_5 : decode cX8_hint 5 = .ok (.ifCond .eq 45, 3) := by decide +kernel
theorem dX8_hint_8 : decode cX8_hint 8 = .ok (.iload_n 2, 1) := by decide +kernel
theorem dX8_hint_9 : decode cX8_hint 9 = .ok (.iconst 1, 1) := by decide +kernel
theorem dX8_hint_10 : decode cX8_hint 10 = .ok (.sipush 200, 3) := by decide +kernel
theorem dX8_hint_13 : decode cX8_hint 13 = .ok (.invokestatic 32, 3) := by decide +kernel
theorem dX8_hint_16 : decode cX8_hint 16 = .ok (.ifCond .eq 34, 3) := by decide +kernel
theorem dX8_hint_19 : decode cX8_hint 19 = .ok (.iload_n 3, 1) := by decide +kernel
theorem dX8_hint_20 : decode cX8_hint 20 = .ok (.iconst 1, 1) := by decide +kernel
theorem dX8_hint_21 : decode cX8_hint 21 = .ok (.sipush 200, 3) := by decide +kernel
theorem dX8_hint_24 : decode cX8_hint 24 = .ok (.invokestatic 32, 3) := by decide +kernel
theorem dX8_hint_27 : decode cX8_hint 27 = .ok (.ifCond .eq 23, 3) := by decide +kernel
theorem dX8_hint_30 : decode cX8_hint 30 = .ok (.iload 4, 2) := by decide +kernel
theorem dX8_hint_32 : decode cX8_hint 32 = .ok (.iconst 0, 1) := by decide +kernel
theorem dX8_hint_33 : decode cX8_hint 33 = .ok (.iconst 3, 1) := by decide +kernel
theorem dX8_hint_34 : decode cX8_hint 34 = .ok (.invokestatic 32, 3) := by decide +kernel
theorem dX8_hint_37 : decode cX8_hint 37 = .ok (.ifCond .eq 13, 3) := by decide +kernel
theorem dX8_hint_40 : decode cX8_hint 40 = .ok (.iload 5, 2) := by decide +kernel
theorem dX8_hint_42 : decode cX8_hint 42 = .ok (.iconst 0, 1) := by decide +kernel
theorem dX8_hint_43 : decode cX8_hint 43 = .ok (.iconst 2, 1) := by decide +kernel
theorem dX8_hint_44 : decode cX8_hint 44 = .ok (.invokestatic 32, 3) := by decide +kernel
theorem dX8_hint_47 : decode cX8_hint 47 = .ok (.ifCond .ne 7, 3) := by decide +kernel
theorem dX8_hint_50 : decode cX8_hint 50 = .ok (.sipush (-10001), 3) := by decide +kernel
theorem dX8_hint_53 : decode cX8_hint 53 = .ok (.ireturn, 1) := by decide +kernel
theorem dX8_hint_54 : decode cX8_hint 54 = .ok (.aload_n 0, 1) := by decide +kernel
theorem dX8_hint_55 : decode cX8_hint 55 = .ok (.getfield 7, 3) := by decide +kernel
theorem dX8_hint_58 : decode cX8_hint 58 = .ok (.bipush 50, 2) := by decide +kernel
theorem dX8_hint_60 : decode cX8_hint 60 = .ok (.iaload, 1) := by decide +kernel
theorem dX8_hint_61 : decode cX8_hint 61 = .ok (.istore 6, 2) := by decide +kernel
theorem dX8_hint_63 : decode cX8_hint 63 = .ok (.iload 6, 2) := by decide +kernel
theorem dX8_hint_65 : decode cX8_hint 65 = .ok (.bipush 12, 2) := by decide +kernel
theorem dX8_hint_67 : decode cX8_hint 67 = .ok (.if_icmp .ne 7, 3) := by decide +kernel
theorem dX8_hint_70 : decode cX8_hint 70 = .ok (.sipush (-10003), 3) := by decide +kernel
theorem dX8_hint_73 : decode cX8_hint 73 = .ok (.ireturn, 1) := by decide +kernel
theorem dX8_hint_74 : decode cX8_hint 74 = .ok (.aload_n 0, 1) := by decide +kernel
theorem dX8_hint_75 : decode cX8_hint 75 = .ok (.invokevirtual 115, 3) := by decide +kernel
theorem dX8_hint_78 : decode cX8_hint 78 = .ok (.aload_n 0, 1) := by decide +kernel
theorem dX8_hint_79 : decode cX8_hint 79 = .ok (.getfield 7, 3) := by decide +kernel
theorem dX8_hint_82 : decode cX8_hint 82 = .ok (.bipush 51, 2) := by decide +kernel
theorem dX8_hint_84 : decode cX8_hint 84 = .ok (.iload 6, 2) := by decide +kernel
theorem dX8_hint_86 : decode cX8_hint 86 = .ok (.iadd, 1) := by decide +kernel
theorem dX8_hint_87 : decode cX8_hint 87 = .ok (.iload_n 1, 1) := by decide +kernel
theorem dX8_hint_88 : decode cX8_hint 88 = .ok (.iastore, 1) := by decide +kernel
theorem dX8_hint_89 : decode cX8_hint 89 = .ok (.aload_n 0, 1) := by decide +kernel
theorem dX8_hint_90 : decode cX8_hint 90 = .ok (.getfield 7, 3) := by decide +kernel
theorem dX8_hint_93 : decode cX8_hint 93 = .ok (.bipush 63, 2) := by decide +kernel
theorem dX8_hint_95 : decode cX8_hint 95 = .ok (.iload 6, 2) := by decide +kernel
theorem dX8_hint_97 : decode cX8_hint 97 = .ok (.iadd, 1) := by decide +kernel
theorem dX8_hint_98 : decode cX8_hint 98 = .ok (.iload_n 2, 1) := by decide +kernel
theorem dX8_hint_99 : decode cX8_hint 99 = .ok (.iastore, 1) := by decide +kernel
theorem dX8_hint_100 : decode cX8_hint 100 = .ok (.aload_n 0, 1) := by decide +kernel
theorem dX8_hint_101 : decode cX8_hint 101 = .ok (.getfield 7, 3) := by decide +kernel
theorem dX8_hint_104 : decode cX8_hint 104 = .ok (.bipush 75, 2) := by decide +kernel
theorem dX8_hint_106 : decode cX8_hint 106 = .ok (.iload 6, 2) := by decide +kernel
theorem dX8_hint_108 : decode cX8_hint 108 = .ok (.iadd, 1) := by decide +kernel
theorem dX8_hint_109 : decode cX8_hint 109 = .ok (.iload_n 3, 1) := by decide +kernel
theorem dX8_hint_110 : decode cX8_hint 110 = .ok (.iastore, 1) := by decide +kernel
theorem dX8_hint_111 : decode cX8_hint 111 = .ok (.aload_n 0, 1) := by decide +kernel
theorem dX8_hint_112 : decode cX8_hint 112 = .ok (.getfield 7, 3) := by decide +kernel
theorem dX8_hint_115 : decode cX8_hint 115 = .ok (.bipush 87, 2) := by decide +kernel
theorem dX8_hint_117 : decode cX8_hint 117 = .ok (.iload 6, 2) := by decide +kernel
theorem dX8_hint_119 : decode cX8_hint 119 = .ok (.iadd, 1) := by decide +kernel
theorem dX8_hint_120 : decode cX8_hint 120 = .ok (.iload 4, 2) := by decide +kernel
theorem dX8_hint_122 : decode cX8_hint 122 = .ok (.iastore, 1) := by decide +kernel
theorem dX8_hint_123 : decode cX8_hint 123 = .ok (.aload_n 0, 1) := by decide +kernel
theorem dX8_hint_124 : decode cX8_hint 124 = .ok (.getfield 7, 3) := by decide +kernel
theorem dX8_hint_127 : decode cX8_hint 127 = .ok (.bipush 99, 2) := by decide +kernel
theorem dX8_hint_129 : decode cX8_hint 129 = .ok (.iload 6, 2) := by decide +kernel
theorem dX8_hint_131 : decode cX8_hint 131 = .ok (.iadd, 1) := by decide +kernel
theorem dX8_hint_132 : decode cX8_hint 132 = .ok (.iload 5, 2) := by decide +kernel
theorem dX8_hint_134 : decode cX8_hint 134 = .ok (.iastore, 1) := by decide +kernel
theorem dX8_hint_135 : decode cX8_hint 135 = .ok (.iconst 5, 1) := by decide +kernel
theorem dX8_hint_136 : decode cX8_hint 136 = .ok (.istore 7, 2) := by decide +kernel
theorem dX8_hint_138 : decode cX8_hint 138 = .ok (.iload 7, 2) := by decide +kernel
theorem dX8_hint_140 : decode cX8_hint 140 = .ok (.bipush 8, 2) := by decide +kernel
theorem dX8_hint_142 : decode cX8_hint 142 = .ok (.if_icmp .ge 26, 3) := by decide +kernel
theorem dX8_hint_145 : decode cX8_hint 145 = .ok (.aload_n 0, 1) := by decide +kernel
theorem dX8_hint_146 : decode cX8_hint 146 = .ok (.getfield 7, 3) := by decide +kernel
theorem dX8_hint_149 : decode cX8_hint 149 = .ok (.bipush 51, 2) := by decide +kernel
theorem dX8_hint_151 : decode cX8_hint 151 = .ok (.bipush 12, 2) := by decide +kernel
theorem dX8_hint_153 : decode cX8_hint 153 = .ok (.iload 7, 2) := by decide +kernel
theorem dX8_hint_155 : decode cX8_hint 155 = .ok (.imul, 1) := by decide +kernel
theorem dX8_hint_156 : decode cX8_hint 156 = .ok (.iadd, 1) := by decide +kernel
theorem dX8_hint_157 : decode cX8_hint 157 = .ok (.iload 6, 2) := by decide +kernel
theorem dX8_hint_159 : decode cX8_hint 159 = .ok (.iadd, 1) := by decide +kernel
theorem dX8_hint_160 : decode cX8_hint 160 = .ok (.iconst 0, 1) := by decide +kernel
theorem dX8_hint_161 : decode cX8_hint 161 = .ok (.iastore, 1) := by decide +kernel
theorem dX8_hint_162 : decode cX8_hint 162 = .ok (.iinc 7 1, 3) := by decide +kernel
theorem dX8_hint_165 : decode cX8_hint 165 = .ok (.goto (-27), 3) := by decide +kernel
theorem dX8_hint_168 : decode cX8_hint 168 = .ok (.aload_n 0, 1) := by decide +kernel
theorem dX8_hint_169 : decode cX8_hint 169 = .ok (.getfield 7, 3) := by decide +kernel
theorem dX8_hint_172 : decode cX8_hint 172 = .ok (.sipush 160, 3) := by decide +kernel
theorem dX8_hint_175 : decode cX8_hint 175 = .ok (.iload 6, 2) := by decide +kernel
theorem dX8_hint_177 : decode cX8_hint 177 = .ok (.iadd, 1) := by decide +kernel
theorem dX8_hint_178 : decode cX8_hint 178 = .ok (.iconst (-1), 1) := by decide +kernel
theorem dX8_hint_179 : decode cX8_hint 179 = .ok (.iastore, 1) := by decide +kernel
theorem dX8_hint_180 : decode cX8_hint 180 = .ok (.aload_n 0, 1) := by decide +kernel
theorem dX8_hint_181 : decode cX8_hint 181 = .ok (.getfield 7, 3) := by decide +kernel
theorem dX8_hint_184 : decode cX8_hint 184 = .ok (.bipush 50, 2) := by decide +kernel
theorem dX8_hint_186 : decode cX8_hint 186 = .ok (.dup2, 1) := by decide +kernel
theorem dX8_hint_187 : decode cX8_hint 187 = .ok (.iaload, 1) := by decide +kernel
theorem dX8_hint_188 : decode cX8_hint 188 = .ok (.iconst 1, 1) := by decide +kernel
theorem dX8_hint_189 : decode cX8_hint 189 = .ok (.iadd, 1) := by decide +kernel
theorem dX8_hint_190 : decode cX8_hint 190 = .ok (.iastore, 1) := by decide +kernel
theorem dX8_hint_191 : decode cX8_hint 191 = .ok (.iload 6, 2) := by decide +kernel
theorem dX8_hint_193 : decode cX8_hint 193 = .ok (.ireturn, 1) := by decide +kernel
theorem dX8_isOf_0 : decode cX8_isOf 0 = .ok (.iload_n 1, 1) := by decide +kernel
theorem dX8_isOf_1 : decode cX8_isOf 1 = .ok (.tableswitch 91 0 7 #[47, 53, 53, 62, 69, 69, 76, 83], 47) := by decide +kernel
theorem dX8_isOf_48 : decode cX8_isOf 48 = .ok (.aload_n 0, 1) := by decide +kernel
theorem dX8_isOf_49 : decode cX8_isOf 49 = .ok (.iload_n 2, 1) := by decide +kernel
theorem dX8_isOf_50 : decode cX8_isOf 50 = .ok (.invokevirtual 125, 3) := by decide +kernel
theorem dX8_isOf_53 : decode cX8_isOf 53 = .ok (.ireturn, 1) := by decide +kernel
theorem dX8_isOf_54 : decode cX8_isOf 54 = .ok (.iload_n 2, 1) := by decide +kernel
theorem dX8_isOf_55 : decode cX8_isOf 55 = .ok (.iconst 1, 1) := by decide +kernel
theorem dX8_isOf_56 : decode cX8_isOf 56 = .ok (.sipush 200, 3) := by decide +kernel
theorem dX8_isOf_59 : decode cX8_isOf 59 = .ok (.invokestatic 32, 3) := by decide +kernel
theorem dX8_isOf_62 : decode cX8_isOf 62 = .ok (.ireturn, 1) := by decide +kernel
theorem dX8_isOf_63 : decode cX8_isOf 63 = .ok (.iload_n 2, 1) := by decide +kernel
theorem dX8_isOf_64 : decode cX8_isOf 64 = .ok (.iconst 0, 1) := by decide +kernel
theorem dX8_isOf_65 : decode cX8_isOf 65 = .ok (.iconst 3, 1) := by decide +kernel
theorem dX8_isOf_66 : decode cX8_isOf 66 = .ok (.invokestatic 32, 3) := by decide +kernel
theorem dX8_isOf_69 : decode cX8_isOf 69 = .ok (.ireturn, 1) := by decide +kernel
theorem dX8_isOf_70 : decode cX8_isOf 70 = .ok (.iload_n 2, 1) := by decide +kernel
theorem dX8_isOf_71 : decode cX8_isOf 71 = .ok (.iconst 0, 1) := by decide +kernel
theorem dX8_isOf_72 : decode cX8_isOf 72 = .ok (.iconst 2, 1) := by decide +kernel
theorem dX8_isOf_73 : decode cX8_isOf 73 = .ok (.invokestatic 32, 3) := by decide +kernel
theorem dX8_isOf_76 : decode cX8_isOf 76 = .ok (.ireturn, 1) := by decide +kernel
theorem dX8_isOf_77 : decode cX8_isOf 77 = .ok (.iload_n 2, 1) := by decide +kernel
theorem dX8_isOf_78 : decode cX8_isOf 78 = .ok (.iconst 0, 1) := by decide +kernel
theorem dX8_isOf_79 : decode cX8_isOf 79 = .ok (.iconst 1, 1) := by decide +kernel
theorem dX8_isOf_80 : decode cX8_isOf 80 = .ok (.invokestatic 32, 3) := by decide +kernel
theorem dX8_isOf_83 : decode cX8_isOf 83 = .ok (.ireturn, 1) := by decide +kernel
theorem dX8_isOf_84 : decode cX8_isOf 84 = .ok (.iload_n 2, 1) := by decide +kernel
theorem dX8_isOf_85 : decode cX8_isOf 85 = .ok (.iconst 0, 1) := by decide +kernel
theorem dX8_isOf_86 : decode cX8_isOf 86 = .ok (.bipush 9, 2) := by decide +kernel
theorem dX8_isOf_88 : decode cX8_isOf 88 = .ok (.invokestatic 32, 3) := by decide +kernel
theorem dX8_isOf_91 : decode cX8_isOf 91 = .ok (.ireturn, 1) := by decide +kernel
theorem dX8_isOf_92 : decode cX8_isOf 92 = .ok (.iconst 0, 1) := by decide +kernel
theorem dX8_isOf_93 : decode cX8_isOf 93 = .ok (.ireturn, 1) := by decide +kernel
theorem dX8_alter_0 : decode cX8_alter 0 = .ok (.aload_n 0, 1) := by decide +kernel
theorem dX8_alter_1 : decode cX8_alter 1 = .ok (.iload_n 1, 1) := by decide +kernel
theorem dX8_alter_2 : decode cX8_alter 2 = .ok (.invokevirtual 138, 3) := by decide +kernel
theorem dX8_alter_5 : decode cX8_alter 5 = .ok (.ifCond .eq 12, 3) := by decide +kernel
theorem dX8_alter_8 : decode cX8_alter 8 = .ok (.aload_n 0, 1) := by decide +kernel
theorem dX8_alter_9 : decode cX8_alter 9 = .ok (.iload_n 2, 1) := by decide +kernel
theorem dX8_alter_10 : decode cX8_alter 10 = .ok (.iload_n 3, 1) := by decide +kernel
theorem dX8_alter_11 : decode cX8_alter 11 = .ok (.invokevirtual 141, 3) := by decide +kernel
theorem dX8_alter_14 : decode cX8_alter 14 = .ok (.ifCond .ne 7, 3) := by decide +kernel
theorem dX8_alter_17 : decode cX8_alter 17 = .ok (.sipush (-10001), 3) := by decide +kernel
theorem dX8_alter_20 : decode cX8_alter 20 = .ok (.ireturn, 1) := by decide +kernel
theorem dX8_alter_21 : decode cX8_alter 21 = .ok (.aload_n 0, 1) := by decide +kernel
theorem dX8_alter_22 : decode cX8_alter 22 = .ok (.invokevirtual 115, 3) := by decide +kernel
theorem dX8_alter_25 : decode cX8_alter 25 = .ok (.aload_n 0, 1) := by decide +kernel
theorem dX8_alter_26 : decode cX8_alter 26 = .ok (.iload_n 1, 1) := by decide +kernel
theorem dX8_alter_27 : decode cX8_alter 27 = .ok (.iload_n 2, 1) := by decide +kernel
theorem dX8_alter_28 : decode cX8_alter 28 = .ok (.invokevirtual 52, 3) := by decide +kernel
theorem dX8_alter_31 : decode cX8_alter 31 = .ok (.istore 4, 2) := by decide +kernel
theorem dX8_alter_33 : decode cX8_alter 33 = .ok (.aload_n 0, 1) := by decide +kernel
theorem dX8_alter_34 : decode cX8_alter 34 = .ok (.getfield 7, 3) := by decide +kernel
theorem dX8_alter_37 : decode cX8_alter 37 = .ok (.bipush 51, 2) := by decide +kernel
theorem dX8_alter_39 : decode cX8_alter 39 = .ok (.bipush 12, 2) := by decide +kernel
theorem dX8_alter_41 : decode cX8_alter 41 = .ok (.iload_n 2, 1) := by decide +kernel
theorem dX8_alter_42 : decode cX8_alter 42 = .ok (.imul, 1) := by decide +kernel
theorem dX8_alter_43 : decode cX8_alter 43 = .ok (.iadd, 1) := by decide +kernel
theorem dX8_alter_44 : decode cX8_alter 44 = .ok (.iload_n 1, 1) := by decide +kernel
theorem dX8_alter_45 : decode cX8_alter 45 = .ok (.iadd, 1) := by decide +kernel
theorem dX8_alter_46 : decode cX8_alter 46 = .ok (.iload_n 3, 1) := by decide +kernel
theorem dX8_alter_47 : decode cX8_alter 47 = .ok (.iastore, 1) := by decide +kernel
theorem dX8_alter_48 : decode cX8_alter 48 = .ok (.aload_n 0, 1) := by decide +kernel
theorem dX8_alter_49 : decode cX8_alter 49 = .ok (.getfield 7, 3) := by decide +kernel
theorem dX8_alter_52 : decode cX8_alter 52 = .ok (.sipush 160, 3) := by decide +kernel
theorem dX8_alter_55 : decode cX8_alter 55 = .ok (.iload_n 1, 1) := by decide +kernel
theorem dX8_alter_56 : decode cX8_alter 56 = .ok (.iadd, 1) := by decide +kernel
theorem dX8_alter_57 : decode cX8_alter 57 = .ok (.iload_n 2, 1) := by decide +kernel
theorem dX8_alter_58 : decode cX8_alter 58 = .ok (.ifCond .eq 8, 3) := by decide +kernel
theorem dX8_alter_61 : decode cX8_alter 61 = .ok (.iload_n 2, 1) := by decide +kernel
theorem dX8_alter_62 : decode cX8_alter 62 = .ok (.iconst 3, 1) := by decide +kernel
theorem dX8_alter_63 : decode cX8_alter 63 = .ok (.if_icmp .ne 7, 3) := by decide +kernel
theorem dX8_alter_66 : decode cX8_alter 66 = .ok (.iconst (-1), 1) := by decide +kernel
theorem dX8_alter_67 : decode cX8_alter 67 = .ok (.goto 13, 3) := by decide +kernel
theorem dX8_alter_70 : decode cX8_alter 70 = .ok (.aload_n 0, 1) := by decide +kernel
theorem dX8_alter_71 : decode cX8_alter 71 = .ok (.getfield 7, 3) := by decide +kernel
theorem dX8_alter_74 : decode cX8_alter 74 = .ok (.sipush 160, 3) := by decide +kernel
theorem dX8_alter_77 : decode cX8_alter 77 = .ok (.iload_n 1, 1) := by decide +kernel
theorem dX8_alter_78 : decode cX8_alter 78 = .ok (.iadd, 1) := by decide +kernel
theorem dX8_alter_79 : decode cX8_alter 79 = .ok (.iaload, 1) := by decide +kernel
theorem dX8_alter_80 : decode cX8_alter 80 = .ok (.iastore, 1) := by decide +kernel
theorem dX8_alter_81 : decode cX8_alter 81 = .ok (.iload 4, 2) := by decide +kernel
theorem dX8_alter_83 : decode cX8_alter 83 = .ok (.ireturn, 1) := by decide +kernel
theorem dX8_placeOf_0 : decode cX8_placeOf 0 = .ok (.iconst 0, 1) := by decide +kernel
theorem dX8_placeOf_1 : decode cX8_placeOf 1 = .ok (.istore_n 2, 1) := by decide +kernel
theorem dX8_placeOf_2 : decode cX8_placeOf 2 = .ok (.iload_n 2, 1) := by decide +kernel
theorem dX8_placeOf_3 : decode cX8_placeOf 3 = .ok (.aload_n 0, 1) := by decide +kernel
theorem dX8_placeOf_4 : decode cX8_placeOf 4 = .ok (.getfield 7, 3) := by decide +kernel
theorem dX8_placeOf_7 : decode cX8_placeOf 7 = .ok (.sipush 147, 3) := by decide +kernel
theorem dX8_placeOf_10 : decode cX8_placeOf 10 = .ok (.iaload, 1) := by decide +kernel
theorem dX8_placeOf_11 : decode cX8_placeOf 11 = .ok (.if_icmp .ge 25, 3) := by decide +kernel
theorem dX8_placeOf_14 : decode cX8_placeOf 14 = .ok (.aload_n 0, 1) := by decide +kernel
theorem dX8_placeOf_15 : decode cX8_placeOf 15 = .ok (.getfield 7, 3) := by decide +kernel
theorem dX8_placeOf_18 : decode cX8_placeOf 18 = .ok (.sipush 148, 3) := by decide +kernel
theorem dX8_placeOf_21 : decode cX8_placeOf 21 = .ok (.iload_n 2, 1) := by decide +kernel
theorem dX8_placeOf_22 : decode cX8_placeOf 22 = .ok (.iadd, 1) := by decide +kernel
theorem dX8_placeOf_23 : decode cX8_placeOf 23 = .ok (.iaload, 1) := by decide +kernel
theorem dX8_placeOf_24 : decode cX8_placeOf 24 = .ok (.iload_n 1, 1) := by decide +kernel
theorem dX8_placeOf_25 : decode cX8_placeOf 25 = .ok (.if_icmp .ne 5, 3) := by decide +kernel
theorem dX8_placeOf_28 : decode cX8_placeOf 28 = .ok (.iload_n 2, 1) := by decide +kernel
theorem dX8_placeOf_29 : decode cX8_placeOf 29 = .ok (.ireturn, 1) := by decide +kernel
theorem dX8_placeOf_30 : decode cX8_placeOf 30 = .ok (.iinc 2 1, 3) := by decide +kernel
theorem dX8_placeOf_33 : decode cX8_placeOf 33 = .ok (.goto (-31), 3) := by decide +kernel
theorem dX8_placeOf_36 : decode cX8_placeOf 36 = .ok (.iconst (-1), 1) := by decide +kernel
theorem dX8_placeOf_37 : decode cX8_placeOf 37 = .ok (.ireturn, 1) := by decide +kernel
theorem dX8_opens_0 : decode cX8_opens 0 = .ok (.aload_n 0, 1) := by decide +kernel
theorem dX8_opens_1 : decode cX8_opens 1 = .ok (.getfield 7, 3) := by decide +kernel
theorem dX8_opens_4 : decode cX8_opens 4 = .ok (.sipush 148, 3) := by decide +kernel
theorem dX8_opens_7 : decode cX8_opens 7 = .ok (.aload_n 0, 1) := by decide +kernel
theorem dX8_opens_8 : decode cX8_opens 8 = .ok (.getfield 7, 3) := by decide +kernel
theorem dX8_opens_11 : decode cX8_opens 11 = .ok (.sipush 147, 3) := by decide +kernel
theorem dX8_opens_14 : decode cX8_opens 14 = .ok (.iaload, 1) := by decide +kernel
theorem dX8_opens_15 : decode cX8_opens 15 = .ok (.iadd, 1) := by decide +kernel
theorem dX8_opens_16 : decode cX8_opens 16 = .ok (.iload_n 1, 1) := by decide +kernel
theorem dX8_opens_17 : decode cX8_opens 17 = .ok (.iastore, 1) := by decide +kernel
theorem dX8_opens_18 : decode cX8_opens 18 = .ok (.aload_n 0, 1) := by decide +kernel
theorem dX8_opens_19 : decode cX8_opens 19 = .ok (.getfield 7, 3) := by decide +kernel
theorem dX8_opens_22 : decode cX8_opens 22 = .ok (.sipush 147, 3) := by decide +kernel
theorem dX8_opens_25 : decode cX8_opens 25 = .ok (.dup2, 1) := by decide +kernel
theorem dX8_opens_26 : decode cX8_opens 26 = .ok (.iaload, 1) := by decide +kernel
theorem dX8_opens_27 : decode cX8_opens 27 = .ok (.iconst 1, 1) := by decide +kernel
theorem dX8_opens_28 : decode cX8_opens 28 = .ok (.iadd, 1) := by decide +kernel
theorem dX8_opens_29 : decode cX8_opens 29 = .ok (.iastore, 1) := by decide +kernel
theorem dX8_opens_30 : decode cX8_opens 30 = .ok (.return_, 1) := by decide +kernel
theorem dX8_closes_0 : decode cX8_closes 0 = .ok (.aload_n 0, 1) := by decide +kernel
theorem dX8_closes_1 : decode cX8_closes 1 = .ok (.iload_n 1, 1) := by decide +kernel
theorem dX8_closes_2 : decode cX8_closes 2 = .ok (.invokevirtual 144, 3) := by decide +kernel
theorem dX8_closes_5 : decode cX8_closes 5 = .ok (.istore_n 2, 1) := by decide +kernel
theorem dX8_closes_6 : decode cX8_closes 6 = .ok (.aload_n 0, 1) := by decide +kernel
theorem dX8_closes_7 : decode cX8_closes 7 = .ok (.getfield 7, 3) := by decide +kernel
theorem dX8_closes_10 : decode cX8_closes 10 = .ok (.sipush 147, 3) := by decide +kernel
theorem dX8_closes_13 : decode cX8_closes 13 = .ok (.dup2, 1) := by decide +kernel
theorem dX8_closes_14 : decode cX8_closes 14 = .ok (.iaload, 1) := by decide +kernel
theorem dX8_closes_15 : decode cX8_closes 15 = .ok (.iconst 1, 1) := by decide +kernel
theorem dX8_closes_16 : decode cX8_closes 16 = .ok (.isub, 1) := by decide +kernel
theorem dX8_closes_17 : decode cX8_closes 17 = .ok (.iastore, 1) := by decide +kernel
theorem dX8_closes_18 : decode cX8_closes 18 = .ok (.iload_n 2, 1) := by decide +kernel
theorem dX8_closes_19 : decode cX8_closes 19 = .ok (.istore_n 3, 1) := by decide +kernel
theorem dX8_closes_20 : decode cX8_closes 20 = .ok (.iload_n 3, 1) := by decide +kernel
theorem dX8_closes_21 : decode cX8_closes 21 = .ok (.aload_n 0, 1) := by decide +kernel
theorem dX8_closes_22 : decode cX8_closes 22 = .ok (.getfield 7, 3) := by decide +kernel
theorem dX8_closes_25 : decode cX8_closes 25 = .ok (.sipush 147, 3) := by decide +kernel
theorem dX8_closes_28 : decode cX8_closes 28 = .ok (.iaload, 1) := by decide +kernel
theorem dX8_closes_29 : decode cX8_closes 29 = .ok (.if_icmp .ge 31, 3) := by decide +kernel
theorem dX8_closes_32 : decode cX8_closes 32 = .ok (.aload_n 0, 1) := by decide +kernel
theorem dX8_closes_33 : decode cX8_closes 33 = .ok (.getfield 7, 3) := by decide +kernel
theorem dX8_closes_36 : decode cX8_closes 36 = .ok (.sipush 148, 3) := by decide +kernel
theorem dX8_closes_39 : decode cX8_closes 39 = .ok (.iload_n 3, 1) := by decide +kernel
theorem dX8_closes_40 : decode cX8_closes 40 = .ok (.iadd, 1) := by decide +kernel
theorem dX8_closes_41 : decode cX8_closes 41 = .ok (.aload_n 0, 1) := by decide +kernel
theorem dX8_closes_42 : decode cX8_closes 42 = .ok (.getfield 7, 3) := by decide +kernel
theorem dX8_closes_45 : decode cX8_closes 45 = .ok (.sipush 148, 3) := by decide +kernel
theorem dX8_closes_48 : decode cX8_closes 48 = .ok (.iload_n 3, 1) := by decide +kernel
theorem dX8_closes_49 : decode cX8_closes 49 = .ok (.iadd, 1) := by decide +kernel
theorem dX8_closes_50 : decode cX8_closes 50 = .ok (.iconst 1, 1) := by decide +kernel
theorem dX8_closes_51 : decode cX8_closes 51 = .ok (.iadd, 1) := by decide +kernel
theorem dX8_closes_52 : decode cX8_closes 52 = .ok (.iaload, 1) := by decide +kernel
theorem dX8_closes_53 : decode cX8_closes 53 = .ok (.iastore, 1) := by decide +kernel
theorem dX8_closes_54 : decode cX8_closes 54 = .ok (.iinc 3 1, 3) := by decide +kernel
theorem dX8_closes_57 : decode cX8_closes 57 = .ok (.goto (-37), 3) := by decide +kernel
theorem dX8_closes_60 : decode cX8_closes 60 = .ok (.aload_n 0, 1) := by decide +kernel
theorem dX8_closes_61 : decode cX8_closes 61 = .ok (.getfield 7, 3) := by decide +kernel
theorem dX8_closes_64 : decode cX8_closes 64 = .ok (.sipush 160, 3) := by decide +kernel
theorem dX8_closes_67 : decode cX8_closes 67 = .ok (.iload_n 1, 1) := by decide +kernel
theorem dX8_closes_68 : decode cX8_closes 68 = .ok (.iadd, 1) := by decide +kernel
theorem dX8_closes_69 : decode cX8_closes 69 = .ok (.iconst (-1), 1) := by decide +kernel
theorem dX8_closes_70 : decode cX8_closes 70 = .ok (.iastore, 1) := by decide +kernel
theorem dX8_closes_71 : decode cX8_closes 71 = .ok (.return_, 1) := by decide +kernel
theorem dX8_open_0 : decode cX8_open 0 = .ok (.aload_n 0, 1) := by decide +kernel
theorem dX8_open_1 : decode cX8_open 1 = .ok (.iload_n 1, 1) := by decide +kernel
theorem dX8_open_2 : decode cX8_open 2 = .ok (.invokevirtual 138, 3) := by decide +kernel
theorem dX8_open_5 : decode cX8_open 5 = .ok (.ifCond .ne 7, 3) := by decide +kernel
theorem dX8_open_8 : decode cX8_open 8 = .ok (.sipush (-10001), 3) := by decide +kernel
theorem dX8_open_11 : decode cX8_open 11 = .ok (.ireturn, 1) := by decide +kernel
theorem dX8_open_12 : decode cX8_open 12 = .ok (.aload_n 0, 1) := by decide +kernel
theorem dX8_open_13 : decode cX8_open 13 = .ok (.iload_n 1, 1) := by decide +kernel
theorem dX8_open_14 : decode cX8_open 14 = .ok (.invokevirtual 144, 3) := by decide +kernel
theorem dX8_open_17 : decode cX8_open 17 = .ok (.iconst (-1), 1) := by decide +kernel
theorem dX8_open_18 : decode cX8_open 18 = .ok (.if_icmp .eq 7, 3) := by decide +kernel
theorem dX8_open_21 : decode cX8_open 21 = .ok (.sipush (-10002), 3) := by decide +kernel
theorem dX8_open_24 : decode cX8_open 24 = .ok (.ireturn, 1) := by decide +kernel
theorem dX8_open_25 : decode cX8_open 25 = .ok (.aload_n 0, 1) := by decide +kernel
theorem dX8_open_26 : decode cX8_open 26 = .ok (.invokevirtual 115, 3) := by decide +kernel
theorem dX8_open_29 : decode cX8_open 29 = .ok (.aload_n 0, 1) := by decide +kernel
theorem dX8_open_30 : decode cX8_open 30 = .ok (.iload_n 1, 1) := by decide +kernel
theorem dX8_open_31 : decode cX8_open 31 = .ok (.invokevirtual 147, 3) := by decide +kernel
theorem dX8_open_34 : decode cX8_open 34 = .ok (.aload_n 0, 1) := by decide +kernel
theorem dX8_open_35 : decode cX8_open 35 = .ok (.invokevirtual 112, 3) := by decide +kernel
theorem dX8_open_38 : decode cX8_open 38 = .ok (.aload_n 0, 1) := by decide +kernel
theorem dX8_open_39 : decode cX8_open 39 = .ok (.getfield 23, 3) := by decide +kernel
theorem dX8_open_42 : decode cX8_open 42 = .ok (.iload_n 1, 1) := by decide +kernel
theorem dX8_open_43 : decode cX8_open 43 = .ok (.iaload, 1) := by decide +kernel
theorem dX8_open_44 : decode cX8_open 44 = .ok (.ireturn, 1) := by decide +kernel
theorem dX8_close_0 : decode cX8_close 0 = .ok (.aload_n 0, 1) := by decide +kernel
theorem dX8_close_1 : decode cX8_close 1 = .ok (.iload_n 1, 1) := by decide +kernel
theorem dX8_close_2 : decode cX8_close 2 = .ok (.invokevirtual 138, 3) := by decide +kernel
theorem dX8_close_5 : decode cX8_close 5 = .ok (.ifCond .ne 7, 3) := by decide +kernel
theorem dX8_close_8 : decode cX8_close 8 = .ok (.sipush (-10001), 3) := by decide +kernel
theorem dX8_close_11 : decode cX8_close 11 = .ok (.ireturn, 1) := by decide +kernel
theorem dX8_close_12 : decode cX8_close 12 = .ok (.aload_n 0, 1) := by decide +kernel
theorem dX8_close_13 : decode cX8_close 13 = .ok (.iload_n 1, 1) := by decide +kernel
theorem dX8_close_14 : decode cX8_close 14 = .ok (.invokevirtual 144, 3) := by decide +kernel
theorem dX8_close_17 : decode cX8_close 17 = .ok (.istore_n 2, 1) := by decide +kernel
theorem dX8_close_18 : decode cX8_close 18 = .ok (.iload_n 2, 1) := by decide +kernel
theorem dX8_close_19 : decode cX8_close 19 = .ok (.iconst (-1), 1) := by decide +kernel
theorem dX8_close_20 : decode cX8_close 20 = .ok (.if_icmp .ne 7, 3) := by decide +kernel
theorem dX8_close_23 : decode cX8_close 23 = .ok (.sipush (-10002), 3) := by decide +kernel
theorem dX8_close_26 : decode cX8_close 26 = .ok (.ireturn, 1) := by decide +kernel
theorem dX8_close_27 : decode cX8_close 27 = .ok (.aload_n 0, 1) := by decide +kernel
theorem dX8_close_28 : decode cX8_close 28 = .ok (.invokevirtual 115, 3) := by decide +kernel
theorem dX8_close_31 : decode cX8_close 31 = .ok (.aload_n 0, 1) := by decide +kernel
theorem dX8_close_32 : decode cX8_close 32 = .ok (.iload_n 1, 1) := by decide +kernel
theorem dX8_close_33 : decode cX8_close 33 = .ok (.invokevirtual 150, 3) := by decide +kernel
theorem dX8_close_36 : decode cX8_close 36 = .ok (.aload_n 0, 1) := by decide +kernel
theorem dX8_close_37 : decode cX8_close 37 = .ok (.invokevirtual 118, 3) := by decide +kernel
theorem dX8_close_40 : decode cX8_close 40 = .ok (.ireturn, 1) := by decide +kernel
theorem dX8_settles_0 : decode cX8_settles 0 = .ok (.aload_n 0, 1) := by decide +kernel
theorem dX8_settles_1 : decode cX8_settles 1 = .ok (.invokevirtual 112, 3) := by decide +kernel
theorem dX8_settles_4 : decode cX8_settles 4 = .ok (.iconst 0, 1) := by decide +kernel
theorem dX8_settles_5 : decode cX8_settles 5 = .ok (.istore_n 1, 1) := by decide +kernel
theorem dX8_settles_6 : decode cX8_settles 6 = .ok (.iconst 0, 1) := by decide +kernel
theorem dX8_settles_7 : decode cX8_settles 7 = .ok (.istore_n 2, 1) := by decide +kernel
theorem dX8_settles_8 : decode cX8_settles 8 = .ok (.iload_n 2, 1) := by decide +kernel
theorem dX8_settles_9 : decode cX8_settles 9 = .ok (.aload_n 0, 1) := by decide +kernel
theorem dX8_settles_10 : decode cX8_settles 10 = .ok (.getfield 7, 3) := by decide +kernel
theorem dX8_settles_13 : decode cX8_settles 13 = .ok (.bipush 50, 2) := by decide +kernel
theorem dX8_settles_15 : decode cX8_settles 15 = .ok (.iaload, 1) := by decide +kernel
theorem dX8_settles_16 : decode cX8_settles 16 = .ok (.if_icmp .ge 62, 3) := by decide +kernel
theorem dX8_settles_19 : decode cX8_settles 19 = .ok (.aload_n 0, 1) := by decide +kernel
theorem dX8_settles_20 : decode cX8_settles 20 = .ok (.getfield 26, 3) := by decide +kernel
theorem dX8_settles_23 : decode cX8_settles 23 = .ok (.iload_n 2, 1) := by decide +kernel
theorem dX8_settles_24 : decode cX8_settles 24 = .ok (.iaload, 1) := by decide +kernel
theorem dX8_settles_25 : decode cX8_settles 25 = .ok (.iconst (-1), 1) := by decide +kernel
theorem dX8_settles_26 : decode cX8_settles 26 = .ok (.if_icmp .eq 46, 3) := by decide +kernel
theorem dX8_settles_29 : decode cX8_settles 29 = .ok (.iload_n 1, 1) := by decide +kernel
theorem dX8_settles_30 : decode cX8_settles 30 = .ok (.aload_n 0, 1) := by decide +kernel
theorem dX8_settles_31 : decode cX8_settles 31 = .ok (.getfield 7, 3) := by decide +kernel
theorem dX8_settles_34 : decode cX8_settles 34 = .ok (.sipush 160, 3) := by decide +kernel
theorem dX8_settles_37 : decode cX8_settles 37 = .ok (.iload_n 2, 1) := by decide +kernel
theorem dX8_settles_38 : decode cX8_settles 38 = .ok (.iadd, 1) := by decide +kernel
theorem dX8_settles_39 : decode cX8_settles 39 = .ok (.iaload, 1) := by decide +kernel
theorem dX8_settles_40 : decode cX8_settles 40 = .ok (.aload_n 0, 1) := by decide +kernel
theorem dX8_settles_41 : decode cX8_settles 41 = .ok (.getfield 26, 3) := by decide +kernel
theorem dX8_settles_44 : decode cX8_settles 44 = .ok (.iload_n 2, 1) := by decide +kernel
theorem dX8_settles_45 : decode cX8_settles 45 = .ok (.iaload, 1) := by decide +kernel
theorem dX8_settles_46 : decode cX8_settles 46 = .ok (.if_icmp .ne 7, 3) := by decide +kernel
theorem dX8_settles_49 : decode cX8_settles 49 = .ok (.iconst 0, 1) := by decide +kernel
theorem dX8_settles_50 : decode cX8_settles 50 = .ok (.goto 4, 3) := by decide +kernel
theorem dX8_settles_53 : decode cX8_settles 53 = .ok (.iconst 1, 1) := by decide +kernel
theorem dX8_settles_54 : decode cX8_settles 54 = .ok (.iadd, 1) := by decide +kernel
theorem dX8_settles_55 : decode cX8_settles 55 = .ok (.istore_n 1, 1) := by decide +kernel
theorem dX8_settles_56 : decode cX8_settles 56 = .ok (.aload_n 0, 1) := by decide +kernel
theorem dX8_settles_57 : decode cX8_settles 57 = .ok (.getfield 7, 3) := by decide +kernel
theorem dX8_settles_60 : decode cX8_settles 60 = .ok (.sipush 160, 3) := by decide +kernel
theorem dX8_settles_63 : decode cX8_settles 63 = .ok (.iload_n 2, 1) := by decide +kernel
theorem dX8_settles_64 : decode cX8_settles 64 = .ok (.iadd, 1) := by decide +kernel
theorem dX8_settles_65 : decode cX8_settles 65 = .ok (.aload_n 0, 1) := by decide +kernel
theorem dX8_settles_66 : decode cX8_settles 66 = .ok (.getfield 26, 3) := by decide +kernel
theorem dX8_settles_69 : decode cX8_settles 69 = .ok (.iload_n 2, 1) := by decide +kernel
theorem dX8_settles_70 : decode cX8_settles 70 = .ok (.iaload, 1) := by decide +kernel
theorem dX8_settles_71 : decode cX8_settles 71 = .ok (.iastore, 1) := by decide +kernel
theorem dX8_settles_72 : decode cX8_settles 72 = .ok (.iinc 2 1, 3) := by decide +kernel
theorem dX8_settles_75 : decode cX8_settles 75 = .ok (.goto (-67), 3) := by decide +kernel
theorem dX8_settles_78 : decode cX8_settles 78 = .ok (.iload_n 1, 1) := by decide +kernel
theorem dX8_settles_79 : decode cX8_settles 79 = .ok (.ireturn, 1) := by decide +kernel
theorem dX8_settle_0 : decode cX8_settle 0 = .ok (.aload_n 0, 1) := by decide +kernel
theorem dX8_settle_1 : decode cX8_settle 1 = .ok (.invokevirtual 115, 3) := by decide +kernel
theorem dX8_settle_4 : decode cX8_settle 4 = .ok (.aload_n 0, 1) := by decide +kernel
theorem dX8_settle_5 : decode cX8_settle 5 = .ok (.invokevirtual 153, 3) := by decide +kernel
theorem dX8_settle_8 : decode cX8_settle 8 = .ok (.ireturn, 1) := by decide +kernel
theorem dX8_hintOf_0 : decode cX8_hintOf 0 = .ok (.aload_n 0, 1) := by decide +kernel
theorem dX8_hintOf_1 : decode cX8_hintOf 1 = .ok (.iload_n 1, 1) := by decide +kernel
theorem dX8_hintOf_2 : decode cX8_hintOf 2 = .ok (.invokevirtual 138, 3) := by decide +kernel
theorem dX8_hintOf_5 : decode cX8_hintOf 5 = .ok (.ifCond .eq 13, 3) := by decide +kernel
theorem dX8_hintOf_8 : decode cX8_hintOf 8 = .ok (.iload_n 2, 1) := by decide +kernel
theorem dX8_hintOf_9 : decode cX8_hintOf 9 = .ok (.iconst 0, 1) := by decide +kernel
theorem dX8_hintOf_10 : decode cX8_hintOf 10 = .ok (.bipush 16, 2) := by decide +kernel
theorem dX8_hintOf_12 : decode cX8_hintOf 12 = .ok (.invokestatic 32, 3) := by decide +kernel
theorem dX8_hintOf_15 : decode cX8_hintOf 15 = .ok (.ifCond .ne 7, 3) := by decide +kernel
theorem dX8_hintOf_18 : decode cX8_hintOf 18 = .ok (.sipush (-10001), 3) := by decide +kernel
theorem dX8_hintOf_21 : decode cX8_hintOf 21 = .ok (.ireturn, 1) := by decide +kernel
theorem dX8_hintOf_22 : decode cX8_hintOf 22 = .ok (.iload_n 2, 1) := by decide +kernel
theorem dX8_hintOf_23 : decode cX8_hintOf 23 = .ok (.bipush 8, 2) := by decide +kernel
theorem dX8_hintOf_25 : decode cX8_hintOf 25 = .ok (.if_icmp .ge 10, 3) := by decide +kernel
theorem dX8_hintOf_28 : decode cX8_hintOf 28 = .ok (.aload_n 0, 1) := by decide +kernel
theorem dX8_hintOf_29 : decode cX8_hintOf 29 = .ok (.iload_n 1, 1) := by decide +kernel
theorem dX8_hintOf_30 : decode cX8_hintOf 30 = .ok (.iload_n 2, 1) := by decide +kernel
theorem dX8_hintOf_31 : decode cX8_hintOf 31 = .ok (.invokevirtual 52, 3) := by decide +kernel
theorem dX8_hintOf_34 : decode cX8_hintOf 34 = .ok (.ireturn, 1) := by decide +kernel
theorem dX8_hintOf_35 : decode cX8_hintOf 35 = .ok (.aload_n 0, 1) := by decide +kernel
theorem dX8_hintOf_36 : decode cX8_hintOf 36 = .ok (.invokevirtual 112, 3) := by decide +kernel
theorem dX8_hintOf_39 : decode cX8_hintOf 39 = .ok (.iload_n 2, 1) := by decide +kernel
theorem dX8_hintOf_40 : decode cX8_hintOf 40 = .ok (.bipush 8, 2) := by decide +kernel
theorem dX8_hintOf_42 : decode cX8_hintOf 42 = .ok (.if_icmp .ne 10, 3) := by decide +kernel
theorem dX8_hintOf_45 : decode cX8_hintOf 45 = .ok (.aload_n 0, 1) := by decide +kernel
theorem dX8_hintOf_46 : decode cX8_hintOf 46 = .ok (.getfield 23, 3) := by decide +kernel
theorem dX8_hintOf_49 : decode cX8_hintOf 49 = .ok (.iload_n 1, 1) := by decide +kernel
theorem dX8_hintOf_50 : decode cX8_hintOf 50 = .ok (.iaload, 1) := by decide +kernel
theorem dX8_hintOf_51 : decode cX8_hintOf 51 = .ok (.ireturn, 1) := by decide +kernel
theorem dX8_hintOf_52 : decode cX8_hintOf 52 = .ok (.iload_n 2, 1) := by decide +kernel
theorem dX8_hintOf_53 : decode cX8_hintOf 53 = .ok (.bipush 15, 2) := by decide +kernel
theorem dX8_hintOf_55 : decode cX8_hintOf 55 = .ok (.if_icmp .ne 34, 3) := by decide +kernel
theorem dX8_hintOf_58 : decode cX8_hintOf 58 = .ok (.aload_n 0, 1) := by decide +kernel
theorem dX8_hintOf_59 : decode cX8_hintOf 59 = .ok (.getfield 7, 3) := by decide +kernel
theorem dX8_hintOf_62 : decode cX8_hintOf 62 = .ok (.sipush 160, 3) := by decide +kernel
theorem dX8_hintOf_65 : decode cX8_hintOf 65 = .ok (.iload_n 1, 1) := by decide +kernel
theorem dX8_hintOf_66 : decode cX8_hintOf 66 = .ok (.iadd, 1) := by decide +kernel
theorem dX8_hintOf_67 : decode cX8_hintOf 67 = .ok (.iaload, 1) := by decide +kernel
theorem dX8_hintOf_68 : decode cX8_hintOf 68 = .ok (.iconst (-1), 1) := by decide +kernel
theorem dX8_hintOf_69 : decode cX8_hintOf 69 = .ok (.if_icmp .ne 9, 3) := by decide +kernel
theorem dX8_hintOf_72 : decode cX8_hintOf 72 = .ok (.sipush (-10004), 3) := by decide +kernel
theorem dX8_hintOf_75 : decode cX8_hintOf 75 = .ok (.goto 13, 3) := by decide +kernel
theorem dX8_hintOf_78 : decode cX8_hintOf 78 = .ok (.aload_n 0, 1) := by decide +kernel
theorem dX8_hintOf_79 : decode cX8_hintOf 79 = .ok (.getfield 7, 3) := by decide +kernel
theorem dX8_hintOf_82 : decode cX8_hintOf 82 = .ok (.sipush 160, 3) := by decide +kernel
theorem dX8_hintOf_85 : decode cX8_hintOf 85 = .ok (.iload_n 1, 1) := by decide +kernel
theorem dX8_hintOf_86 : decode cX8_hintOf 86 = .ok (.iadd, 1) := by decide +kernel
theorem dX8_hintOf_87 : decode cX8_hintOf 87 = .ok (.iaload, 1) := by decide +kernel
theorem dX8_hintOf_88 : decode cX8_hintOf 88 = .ok (.ireturn, 1) := by decide +kernel
theorem dX8_hintOf_89 : decode cX8_hintOf 89 = .ok (.iload_n 2, 1) := by decide +kernel
theorem dX8_hintOf_90 : decode cX8_hintOf 90 = .ok (.bipush 16, 2) := by decide +kernel
theorem dX8_hintOf_92 : decode cX8_hintOf 92 = .ok (.if_icmp .ne 9, 3) := by decide +kernel
theorem dX8_hintOf_95 : decode cX8_hintOf 95 = .ok (.aload_n 0, 1) := by decide +kernel
theorem dX8_hintOf_96 : decode cX8_hintOf 96 = .ok (.iload_n 1, 1) := by decide +kernel
theorem dX8_hintOf_97 : decode cX8_hintOf 97 = .ok (.invokevirtual 156, 3) := by decide +kernel
theorem dX8_hintOf_100 : decode cX8_hintOf 100 = .ok (.ireturn, 1) := by decide +kernel
theorem dX8_hintOf_101 : decode cX8_hintOf 101 = .ok (.aload_n 0, 1) := by decide +kernel
theorem dX8_hintOf_102 : decode cX8_hintOf 102 = .ok (.getfield 26, 3) := by decide +kernel
theorem dX8_hintOf_105 : decode cX8_hintOf 105 = .ok (.iload_n 1, 1) := by decide +kernel
theorem dX8_hintOf_106 : decode cX8_hintOf 106 = .ok (.iaload, 1) := by decide +kernel
theorem dX8_hintOf_107 : decode cX8_hintOf 107 = .ok (.iconst (-1), 1) := by decide +kernel
theorem dX8_hintOf_108 : decode cX8_hintOf 108 = .ok (.if_icmp .ne 7, 3) := by decide +kernel
theorem dX8_hintOf_111 : decode cX8_hintOf 111 = .ok (.sipush (-10004), 3) := by decide +kernel
theorem dX8_hintOf_114 : decode cX8_hintOf 114 = .ok (.ireturn, 1) := by decide +kernel
theorem dX8_hintOf_115 : decode cX8_hintOf 115 = .ok (.aload_n 0, 1) := by decide +kernel
theorem dX8_hintOf_116 : decode cX8_hintOf 116 = .ok (.iload_n 1, 1) := by decide +kernel
theorem dX8_hintOf_117 : decode cX8_hintOf 117 = .ok (.aload_n 0, 1) := by decide +kernel
theorem dX8_hintOf_118 : decode cX8_hintOf 118 = .ok (.getfield 26, 3) := by decide +kernel
theorem dX8_hintOf_121 : decode cX8_hintOf 121 = .ok (.iload_n 1, 1) := by decide +kernel
theorem dX8_hintOf_122 : decode cX8_hintOf 122 = .ok (.iaload, 1) := by decide +kernel
theorem dX8_hintOf_123 : decode cX8_hintOf 123 = .ok (.invokevirtual 79, 3) := by decide +kernel
theorem dX8_hintOf_126 : decode cX8_hintOf 126 = .ok (.iload_n 2, 1) := by decide +kernel
theorem dX8_hintOf_127 : decode cX8_hintOf 127 = .ok (.tableswitch 68 9 13 #[33, 40, 45, 50, 55], 33) := by decide +kernel
theorem dX8_hintOf_160 : decode cX8_hintOf 160 = .ok (.aload_n 0, 1) := by decide +kernel
theorem dX8_hintOf_161 : decode cX8_hintOf 161 = .ok (.getfield 26, 3) := by decide +kernel
theorem dX8_hintOf_164 : decode cX8_hintOf 164 = .ok (.iload_n 1, 1) := by decide +kernel
theorem dX8_hintOf_165 : decode cX8_hintOf 165 = .ok (.iaload, 1) := by decide +kernel
theorem dX8_hintOf_166 : decode cX8_hintOf 166 = .ok (.ireturn, 1) := by decide +kernel
theorem dX8_hintOf_167 : decode cX8_hintOf 167 = .ok (.aload_n 0, 1) := by decide +kernel
theorem dX8_hintOf_168 : decode cX8_hintOf 168 = .ok (.getfield 73, 3) := by decide +kernel
theorem dX8_hintOf_171 : decode cX8_hintOf 171 = .ok (.ireturn, 1) := by decide +kernel
theorem dX8_hintOf_172 : decode cX8_hintOf 172 = .ok (.aload_n 0, 1) := by decide +kernel
theorem dX8_hintOf_173 : decode cX8_hintOf 173 = .ok (.getfield 76, 3) := by decide +kernel
theorem dX8_hintOf_176 : decode cX8_hintOf 176 = .ok (.ireturn, 1) := by decide +kernel
theorem dX8_hintOf_177 : decode cX8_hintOf 177 = .ok (.aload_n 0, 1) := by decide +kernel
theorem dX8_hintOf_178 : decode cX8_hintOf 178 = .ok (.getfield 59, 3) := by decide +kernel
theorem dX8_hintOf_181 : decode cX8_hintOf 181 = .ok (.ireturn, 1) := by decide +kernel
theorem dX8_hintOf_182 : decode cX8_hintOf 182 = .ok (.aload_n 0, 1) := by decide +kernel
theorem dX8_hintOf_183 : decode cX8_hintOf 183 = .ok (.getfield 69, 3) := by decide +kernel
theorem dX8_hintOf_186 : decode cX8_hintOf 186 = .ok (.ifCond .eq 7, 3) := by decide +kernel
theorem dX8_hintOf_189 : decode cX8_hintOf 189 = .ok (.iconst 1, 1) := by decide +kernel
theorem dX8_hintOf_190 : decode cX8_hintOf 190 = .ok (.goto 4, 3) := by decide +kernel
theorem dX8_hintOf_193 : decode cX8_hintOf 193 = .ok (.iconst 0, 1) := by decide +kernel
theorem dX8_hintOf_194 : decode cX8_hintOf 194 = .ok (.ireturn, 1) := by decide +kernel
theorem dX8_hintOf_195 : decode cX8_hintOf 195 = .ok (.aload_n 0, 1) := by decide +kernel
theorem dX8_hintOf_196 : decode cX8_hintOf 196 = .ok (.getfield 66, 3) := by decide +kernel
theorem dX8_hintOf_199 : decode cX8_hintOf 199 = .ok (.ireturn, 1) := by decide +kernel
theorem dX8_orderOf_0 : decode cX8_orderOf 0 = .ok (.iconst 0, 1) := by decide +kernel
theorem dX8_orderOf_1 : decode cX8_orderOf 1 = .ok (.istore_n 2, 1) := by decide +kernel
theorem dX8_orderOf_2 : decode cX8_orderOf 2 = .ok (.iload_n 2, 1) := by decide +kernel
theorem dX8_orderOf_3 : decode cX8_orderOf 3 = .ok (.aload_n 0, 1) := by decide +kernel
theorem dX8_orderOf_4 : decode cX8_orderOf 4 = .ok (.getfield 7, 3) := by decide +kernel
theorem dX8_orderOf_7 : decode cX8_orderOf 7 = .ok (.sipush 147, 3) := by decide +kernel
theorem dX8_orderOf_10 : decode cX8_orderOf 10 = .ok (.iaload, 1) := by decide +kernel
theorem dX8_orderOf_11 : decode cX8_orderOf 11 = .ok (.if_icmp .ge 21, 3) := by decide +kernel
theorem dX8_orderOf_14 : decode cX8_orderOf 14 = .ok (.aload_n 0, 1) := by decide +kernel
theorem dX8_orderOf_15 : decode cX8_orderOf 15 = .ok (.getfield 20, 3) := by decide +kernel
theorem dX8_orderOf_18 : decode cX8_orderOf 18 = .ok (.iload_n 2, 1) := by decide +kernel
theorem dX8_orderOf_19 : decode cX8_orderOf 19 = .ok (.iaload, 1) := by decide +kernel
theorem dX8_orderOf_20 : decode cX8_orderOf 20 = .ok (.iload_n 1, 1) := by decide +kernel
theorem dX8_orderOf_21 : decode cX8_orderOf 21 = .ok (.if_icmp .ne 5, 3) := by decide +kernel
theorem dX8_orderOf_24 : decode cX8_orderOf 24 = .ok (.iload_n 2, 1) := by decide +kernel
theorem dX8_orderOf_25 : decode cX8_orderOf 25 = .ok (.ireturn, 1) := by decide +kernel
theorem dX8_orderOf_26 : decode cX8_orderOf 26 = .ok (.iinc 2 1, 3) := by decide +kernel
theorem dX8_orderOf_29 : decode cX8_orderOf 29 = .ok (.goto (-27), 3) := by decide +kernel
theorem dX8_orderOf_32 : decode cX8_orderOf 32 = .ok (.sipush (-10004), 3) := by decide +kernel
theorem dX8_orderOf_35 : decode cX8_orderOf 35 = .ok (.ireturn, 1) := by decide +kernel
theorem dX8_room_0 : decode cX8_room 0 = .ok (.aload_n 0, 1) := by decide +kernel
theorem dX8_room_1 : decode cX8_room 1 = .ok (.iload_n 1, 1) := by decide +kernel
theorem dX8_room_2 : decode cX8_room 2 = .ok (.invokevirtual 138, 3) := by decide +kernel
theorem dX8_room_5 : decode cX8_room 5 = .ok (.ifCond .eq 12, 3) := by decide +kernel
theorem dX8_room_8 : decode cX8_room 8 = .ok (.iload_n 2, 1) := by decide +kernel
theorem dX8_room_9 : decode cX8_room 9 = .ok (.iconst 0, 1) := by decide +kernel
theorem dX8_room_10 : decode cX8_room 10 = .ok (.iconst 3, 1) := by decide +kernel
theorem dX8_room_11 : decode cX8_room 11 = .ok (.invokestatic 32, 3) := by decide +kernel
theorem dX8_room_14 : decode cX8_room 14 = .ok (.ifCond .ne 7, 3) := by decide +kernel
theorem dX8_room_17 : decode cX8_room 17 = .ok (.sipush (-10001), 3) := by decide +kernel
theorem dX8_room_20 : decode cX8_room 20 = .ok (.ireturn, 1) := by decide +kernel
theorem dX8_room_21 : decode cX8_room 21 = .ok (.aload_n 0, 1) := by decide +kernel
theorem dX8_room_22 : decode cX8_room 22 = .ok (.iload_n 1, 1) := by decide +kernel
theorem dX8_room_23 : decode cX8_room 23 = .ok (.iconst 0, 1) := by decide +kernel
theorem dX8_room_24 : decode cX8_room 24 = .ok (.invokevirtual 52, 3) := by decide +kernel
theorem dX8_room_27 : decode cX8_room 27 = .ok (.istore_n 3, 1) := by decide +kernel
theorem dX8_room_28 : decode cX8_room 28 = .ok (.iload_n 2, 1) := by decide +kernel
theorem dX8_room_29 : decode cX8_room 29 = .ok (.tableswitch 118 0 2 #[27, 48, 83], 27) := by decide +kernel
theorem dX8_room_56 : decode cX8_room 56 = .ok (.aload_n 0, 1) := by decide +kernel
theorem dX8_room_57 : decode cX8_room 57 = .ok (.iload_n 3, 1) := by decide +kernel
theorem dX8_room_58 : decode cX8_room 58 = .ok (.iconst 1, 1) := by decide +kernel
theorem dX8_room_59 : decode cX8_room 59 = .ok (.invokevirtual 40, 3) := by decide +kernel
theorem dX8_room_62 : decode cX8_room 62 = .ok (.aload_n 0, 1) := by decide +kernel
theorem dX8_room_63 : decode cX8_room 63 = .ok (.getfield 7, 3) := by decide +kernel
theorem dX8_room_66 : decode cX8_room 66 = .ok (.iconst 4, 1) := by decide +kernel
theorem dX8_room_67 : decode cX8_room 67 = .ok (.iaload, 1) := by decide +kernel
theorem dX8_room_68 : decode cX8_room 68 = .ok (.isub, 1) := by decide +kernel
theorem dX8_room_69 : decode cX8_room 69 = .ok (.aload_n 0, 1) := by decide +kernel
theorem dX8_room_70 : decode cX8_room 70 = .ok (.getfield 7, 3) := by decide +kernel
theorem dX8_room_73 : decode cX8_room 73 = .ok (.iconst 1, 1) := by decide +kernel
theorem dX8_room_74 : decode cX8_room 74 = .ok (.iaload, 1) := by decide +kernel
theorem dX8_room_75 : decode cX8_room 75 = .ok (.isub, 1) := by decide +kernel
theorem dX8_room_76 : decode cX8_room 76 = .ok (.ireturn, 1) := by decide +kernel
theorem dX8_room_77 : decode cX8_room 77 = .ok (.aload_n 0, 1) := by decide +kernel
theorem dX8_room_78 : decode cX8_room 78 = .ok (.getfield 7, 3) := by decide +kernel
theorem dX8_room_81 : decode cX8_room 81 = .ok (.iconst 0, 1) := by decide +kernel
theorem dX8_room_82 : decode cX8_room 82 = .ok (.iaload, 1) := by decide +kernel
theorem dX8_room_83 : decode cX8_room 83 = .ok (.aload_n 0, 1) := by decide +kernel
theorem dX8_room_84 : decode cX8_room 84 = .ok (.getfield 7, 3) := by decide +kernel
theorem dX8_room_87 : decode cX8_room 87 = .ok (.iconst 2, 1) := by decide +kernel
theorem dX8_room_88 : decode cX8_room 88 = .ok (.iaload, 1) := by decide +kernel
theorem dX8_room_89 : decode cX8_room 89 = .ok (.iadd, 1) := by decide +kernel
theorem dX8_room_90 : decode cX8_room 90 = .ok (.aload_n 0, 1) := by decide +kernel
theorem dX8_room_91 : decode cX8_room 91 = .ok (.iload_n 3, 1) := by decide +kernel
theorem dX8_room_92 : decode cX8_room 92 = .ok (.iconst 0, 1) := by decide +kernel
theorem dX8_room_93 : decode cX8_room 93 = .ok (.invokevirtual 40, 3) := by decide +kernel
theorem dX8_room_96 : decode cX8_room 96 = .ok (.isub, 1) := by decide +kernel
theorem dX8_room_97 : decode cX8_room 97 = .ok (.aload_n 0, 1) := by decide +kernel
theorem dX8_room_98 : decode cX8_room 98 = .ok (.iload_n 3, 1) := by decide +kernel
theorem dX8_room_99 : decode cX8_room 99 = .ok (.iconst 2, 1) := by decide +kernel
theorem dX8_room_100 : decode cX8_room 100 = .ok (.invokevirtual 40, 3) := by decide +kernel
theorem dX8_room_103 : decode cX8_room 103 = .ok (.isub, 1) := by decide +kernel
theorem dX8_room_104 : decode cX8_room 104 = .ok (.aload_n 0, 1) := by decide +kernel
theorem dX8_room_105 : decode cX8_room 105 = .ok (.getfield 7, 3) := by decide +kernel
theorem dX8_room_108 : decode cX8_room 108 = .ok (.iconst 4, 1) := by decide +kernel
theorem dX8_room_109 : decode cX8_room 109 = .ok (.iaload, 1) := by decide +kernel
theorem dX8_room_110 : decode cX8_room 110 = .ok (.isub, 1) := by decide +kernel
theorem dX8_room_111 : decode cX8_room 111 = .ok (.ireturn, 1) := by decide +kernel
theorem dX8_room_112 : decode cX8_room 112 = .ok (.aload_n 0, 1) := by decide +kernel
theorem dX8_room_113 : decode cX8_room 113 = .ok (.getfield 7, 3) := by decide +kernel
theorem dX8_room_116 : decode cX8_room 116 = .ok (.iconst 1, 1) := by decide +kernel
theorem dX8_room_117 : decode cX8_room 117 = .ok (.iaload, 1) := by decide +kernel
theorem dX8_room_118 : decode cX8_room 118 = .ok (.aload_n 0, 1) := by decide +kernel
theorem dX8_room_119 : decode cX8_room 119 = .ok (.getfield 7, 3) := by decide +kernel
theorem dX8_room_122 : decode cX8_room 122 = .ok (.iconst 3, 1) := by decide +kernel
theorem dX8_room_123 : decode cX8_room 123 = .ok (.iaload, 1) := by decide +kernel
theorem dX8_room_124 : decode cX8_room 124 = .ok (.iadd, 1) := by decide +kernel
theorem dX8_room_125 : decode cX8_room 125 = .ok (.aload_n 0, 1) := by decide +kernel
theorem dX8_room_126 : decode cX8_room 126 = .ok (.iload_n 3, 1) := by decide +kernel
theorem dX8_room_127 : decode cX8_room 127 = .ok (.iconst 1, 1) := by decide +kernel
theorem dX8_room_128 : decode cX8_room 128 = .ok (.invokevirtual 40, 3) := by decide +kernel
theorem dX8_room_131 : decode cX8_room 131 = .ok (.isub, 1) := by decide +kernel
theorem dX8_room_132 : decode cX8_room 132 = .ok (.aload_n 0, 1) := by decide +kernel
theorem dX8_room_133 : decode cX8_room 133 = .ok (.iload_n 3, 1) := by decide +kernel
theorem dX8_room_134 : decode cX8_room 134 = .ok (.iconst 3, 1) := by decide +kernel
theorem dX8_room_135 : decode cX8_room 135 = .ok (.invokevirtual 40, 3) := by decide +kernel
theorem dX8_room_138 : decode cX8_room 138 = .ok (.isub, 1) := by decide +kernel
theorem dX8_room_139 : decode cX8_room 139 = .ok (.aload_n 0, 1) := by decide +kernel
theorem dX8_room_140 : decode cX8_room 140 = .ok (.getfield 7, 3) := by decide +kernel
theorem dX8_room_143 : decode cX8_room 143 = .ok (.iconst 4, 1) := by decide +kernel
theorem dX8_room_144 : decode cX8_room 144 = .ok (.iaload, 1) := by decide +kernel
theorem dX8_room_145 : decode cX8_room 145 = .ok (.isub, 1) := by decide +kernel
theorem dX8_room_146 : decode cX8_room 146 = .ok (.ireturn, 1) := by decide +kernel
theorem dX8_room_147 : decode cX8_room 147 = .ok (.aload_n 0, 1) := by decide +kernel
theorem dX8_room_148 : decode cX8_room 148 = .ok (.iload_n 3, 1) := by decide +kernel
theorem dX8_room_149 : decode cX8_room 149 = .ok (.iconst 0, 1) := by decide +kernel
theorem dX8_room_150 : decode cX8_room 150 = .ok (.invokevirtual 40, 3) := by decide +kernel
theorem dX8_room_153 : decode cX8_room 153 = .ok (.aload_n 0, 1) := by decide +kernel
theorem dX8_room_154 : decode cX8_room 154 = .ok (.getfield 7, 3) := by decide +kernel
theorem dX8_room_157 : decode cX8_room 157 = .ok (.iconst 4, 1) := by decide +kernel
theorem dX8_room_158 : decode cX8_room 158 = .ok (.iaload, 1) := by decide +kernel
theorem dX8_room_159 : decode cX8_room 159 = .ok (.isub, 1) := by decide +kernel
theorem dX8_room_160 : decode cX8_room 160 = .ok (.aload_n 0, 1) := by decide +kernel
theorem dX8_room_161 : decode cX8_room 161 = .ok (.getfield 7, 3) := by decide +kernel
theorem dX8_room_164 : decode cX8_room 164 = .ok (.iconst 0, 1) := by decide +kernel
theorem dX8_room_165 : decode cX8_room 165 = .ok (.iaload, 1) := by decide +kernel
theorem dX8_room_166 : decode cX8_room 166 = .ok (.isub, 1) := by decide +kernel
theorem dX8_room_167 : decode cX8_room 167 = .ok (.ireturn, 1) := by decide +kernel
theorem dX8_ifOn_0 : decode cX8_ifOn 0 = .ok (.aload_n 0, 1) := by decide +kernel
theorem dX8_ifOn_1 : decode cX8_ifOn 1 = .ok (.iload_n 1, 1) := by decide +kernel
theorem dX8_ifOn_2 : decode cX8_ifOn 2 = .ok (.invokevirtual 138, 3) := by decide +kernel
theorem dX8_ifOn_5 : decode cX8_ifOn 5 = .ok (.ifCond .eq 21, 3) := by decide +kernel
theorem dX8_ifOn_8 : decode cX8_ifOn 8 = .ok (.iload_n 2, 1) := by decide +kernel
theorem dX8_ifOn_9 : decode cX8_ifOn 9 = .ok (.iconst 0, 1) := by decide +kernel
theorem dX8_ifOn_10 : decode cX8_ifOn 10 = .ok (.iconst 3, 1) := by decide +kernel
theorem dX8_ifOn_11 : decode cX8_ifOn 11 = .ok (.invokestatic 32, 3) := by decide +kernel
theorem dX8_ifOn_14 : decode cX8_ifOn 14 = .ok (.ifCond .eq 12, 3) := by decide +kernel
theorem dX8_ifOn_17 : decode cX8_ifOn 17 = .ok (.iload_n 3, 1) := by decide +kernel
theorem dX8_ifOn_18 : decode cX8_ifOn 18 = .ok (.iconst 0, 1) := by decide +kernel
theorem dX8_ifOn_19 : decode cX8_ifOn 19 = .ok (.iconst 4, 1) := by decide +kernel
theorem dX8_ifOn_20 : decode cX8_ifOn 20 = .ok (.invokestatic 32, 3) := by decide +kernel
theorem dX8_ifOn_23 : decode cX8_ifOn 23 = .ok (.ifCond .ne 7, 3) := by decide +kernel
theorem dX8_ifOn_26 : decode cX8_ifOn 26 = .ok (.sipush (-10001), 3) := by decide +kernel
theorem dX8_ifOn_29 : decode cX8_ifOn 29 = .ok (.ireturn, 1) := by decide +kernel
theorem dX8_ifOn_30 : decode cX8_ifOn 30 = .ok (.aload_n 0, 1) := by decide +kernel
theorem dX8_ifOn_31 : decode cX8_ifOn 31 = .ok (.iload_n 1, 1) := by decide +kernel
theorem dX8_ifOn_32 : decode cX8_ifOn 32 = .ok (.iload_n 2, 1) := by decide +kernel
theorem dX8_ifOn_33 : decode cX8_ifOn 33 = .ok (.invokevirtual 93, 3) := by decide +kernel
theorem dX8_ifOn_36 : decode cX8_ifOn 36 = .ok (.istore 4, 2) := by decide +kernel
theorem dX8_ifOn_38 : decode cX8_ifOn 38 = .ok (.iload_n 3, 1) := by decide +kernel
theorem dX8_ifOn_39 : decode cX8_ifOn 39 = .ok (.tableswitch 55 0 3 #[29, 40, 45, 50], 29) := by decide +kernel
theorem dX8_ifOn_68 : decode cX8_ifOn 68 = .ok (.iload 4, 2) := by decide +kernel
theorem dX8_ifOn_70 : decode cX8_ifOn 70 = .ok (.ifCond .eq 7, 3) := by decide +kernel
theorem dX8_ifOn_73 : decode cX8_ifOn 73 = .ok (.iconst 1, 1) := by decide +kernel
theorem dX8_ifOn_74 : decode cX8_ifOn 74 = .ok (.goto 4, 3) := by decide +kernel
theorem dX8_ifOn_77 : decode cX8_ifOn 77 = .ok (.iconst 0, 1) := by decide +kernel
theorem dX8_ifOn_78 : decode cX8_ifOn 78 = .ok (.ireturn, 1) := by decide +kernel
theorem dX8_ifOn_79 : decode cX8_ifOn 79 = .ok (.aload_n 0, 1) := by decide +kernel
theorem dX8_ifOn_80 : decode cX8_ifOn 80 = .ok (.getfield 73, 3) := by decide +kernel
theorem dX8_ifOn_83 : decode cX8_ifOn 83 = .ok (.ireturn, 1) := by decide +kernel
theorem dX8_ifOn_84 : decode cX8_ifOn 84 = .ok (.aload_n 0, 1) := by decide +kernel
theorem dX8_ifOn_85 : decode cX8_ifOn 85 = .ok (.getfield 76, 3) := by decide +kernel
theorem dX8_ifOn_88 : decode cX8_ifOn 88 = .ok (.ireturn, 1) := by decide +kernel
theorem dX8_ifOn_89 : decode cX8_ifOn 89 = .ok (.aload_n 0, 1) := by decide +kernel
theorem dX8_ifOn_90 : decode cX8_ifOn 90 = .ok (.getfield 66, 3) := by decide +kernel
theorem dX8_ifOn_93 : decode cX8_ifOn 93 = .ok (.ireturn, 1) := by decide +kernel
theorem dX8_ifOn_94 : decode cX8_ifOn 94 = .ok (.aload_n 0, 1) := by decide +kernel
theorem dX8_ifOn_95 : decode cX8_ifOn 95 = .ok (.getfield 59, 3) := by decide +kernel
theorem dX8_ifOn_98 : decode cX8_ifOn 98 = .ok (.ireturn, 1) := by decide +kernel
theorem dX8_at_0 : decode cX8_at 0 = .ok (.iload_n 1, 1) := by decide +kernel
theorem dX8_at_1 : decode cX8_at 1 = .ok (.sipush (-3000), 3) := by decide +kernel
theorem dX8_at_4 : decode cX8_at 4 = .ok (.sipush 3000, 3) := by decide +kernel
theorem dX8_at_7 : decode cX8_at 7 = .ok (.invokestatic 32, 3) := by decide +kernel
theorem dX8_at_10 : decode cX8_at 10 = .ok (.ifCond .eq 16, 3) := by decide +kernel
theorem dX8_at_13 : decode cX8_at 13 = .ok (.iload_n 2, 1) := by decide +kernel
theorem dX8_at_14 : decode cX8_at 14 = .ok (.sipush (-3000), 3) := by decide +kernel
theorem dX8_at_17 : decode cX8_at 17 = .ok (.sipush 3000, 3) := by decide +kernel
theorem dX8_at_20 : decode cX8_at 20 = .ok (.invokestatic 32, 3) := by decide +kernel
theorem dX8_at_23 : decode cX8_at 23 = .ok (.ifCond .ne 7, 3) := by decide +kernel
theorem dX8_at_26 : decode cX8_at 26 = .ok (.sipush (-10001), 3) := by decide +kernel
theorem dX8_at_29 : decode cX8_at 29 = .ok (.ireturn, 1) := by decide +kernel
theorem dX8_at_30 : decode cX8_at 30 = .ok (.aload_n 0, 1) := by decide +kernel
theorem dX8_at_31 : decode cX8_at 31 = .ok (.invokevirtual 112, 3) := by decide +kernel
theorem dX8_at_34 : decode cX8_at 34 = .ok (.iconst 0, 1) := by decide +kernel
theorem dX8_at_35 : decode cX8_at 35 = .ok (.istore_n 3, 1) := by decide +kernel
theorem dX8_at_36 : decode cX8_at 36 = .ok (.iload_n 3, 1) := by decide +kernel
theorem dX8_at_37 : decode cX8_at 37 = .ok (.aload_n 0, 1) := by decide +kernel
theorem dX8_at_38 : decode cX8_at 38 = .ok (.getfield 7, 3) := by decide +kernel
theorem dX8_at_41 : decode cX8_at 41 = .ok (.bipush 50, 2) := by decide +kernel
theorem dX8_at_43 : decode cX8_at 43 = .ok (.iaload, 1) := by decide +kernel
theorem dX8_at_44 : decode cX8_at 44 = .ok (.if_icmp .ge 62, 3) := by decide +kernel
theorem dX8_at_47 : decode cX8_at 47 = .ok (.aload_n 0, 1) := by decide +kernel
theorem dX8_at_48 : decode cX8_at 48 = .ok (.getfield 26, 3) := by decide +kernel
theorem dX8_at_51 : decode cX8_at 51 = .ok (.iload_n 3, 1) := by decide +kernel
theorem dX8_at_52 : decode cX8_at 52 = .ok (.iaload, 1) := by decide +kernel
theorem dX8_at_53 : decode cX8_at 53 = .ok (.iconst (-1), 1) := by decide +kernel
theorem dX8_at_54 : decode cX8_at 54 = .ok (.if_icmp .eq 46, 3) := by decide +kernel
theorem dX8_at_57 : decode cX8_at 57 = .ok (.aload_n 0, 1) := by decide +kernel
theorem dX8_at_58 : decode cX8_at 58 = .ok (.iload_n 3, 1) := by decide +kernel
theorem dX8_at_59 : decode cX8_at 59 = .ok (.aload_n 0, 1) := by decide +kernel
theorem dX8_at_60 : decode cX8_at 60 = .ok (.getfield 26, 3) := by decide +kernel
theorem dX8_at_63 : decode cX8_at 63 = .ok (.iload_n 3, 1) := by decide +kernel
theorem dX8_at_64 : decode cX8_at 64 = .ok (.iaload, 1) := by decide +kernel
theorem dX8_at_65 : decode cX8_at 65 = .ok (.invokevirtual 79, 3) := by decide +kernel
theorem dX8_at_68 : decode cX8_at 68 = .ok (.iload_n 1, 1) := by decide +kernel
theorem dX8_at_69 : decode cX8_at 69 = .ok (.iload_n 2, 1) := by decide +kernel
theorem dX8_at_70 : decode cX8_at 70 = .ok (.iconst 1, 1) := by decide +kernel
theorem dX8_at_71 : decode cX8_at 71 = .ok (.iconst 1, 1) := by decide +kernel
theorem dX8_at_72 : decode cX8_at 72 = .ok (.aload_n 0, 1) := by decide +kernel
theorem dX8_at_73 : decode cX8_at 73 = .ok (.getfield 73, 3) := by decide +kernel
theorem dX8_at_76 : decode cX8_at 76 = .ok (.aload_n 0, 1) := by decide +kernel
theorem dX8_at_77 : decode cX8_at 77 = .ok (.getfield 76, 3) := by decide +kernel
theorem dX8_at_80 : decode cX8_at 80 = .ok (.aload_n 0, 1) := by decide +kernel
theorem dX8_at_81 : decode cX8_at 81 = .ok (.iload_n 3, 1) := by decide +kernel
theorem dX8_at_82 : decode cX8_at 82 = .ok (.iconst 1, 1) := by decide +kernel
theorem dX8_at_83 : decode cX8_at 83 = .ok (.invokevirtual 52, 3) := by decide +kernel
theorem dX8_at_86 : decode cX8_at 86 = .ok (.aload_n 0, 1) := by decide +kernel
theorem dX8_at_87 : decode cX8_at 87 = .ok (.iload_n 3, 1) := by decide +kernel
theorem dX8_at_88 : decode cX8_at 88 = .ok (.iconst 2, 1) := by decide +kernel
theorem dX8_at_89 : decode cX8_at 89 = .ok (.invokevirtual 52, 3) := by decide +kernel
theorem dX8_at_92 : decode cX8_at 92 = .ok (.invokestatic 44, 3) := by decide +kernel
theorem dX8_at_95 : decode cX8_at 95 = .ok (.ifCond .eq 5, 3) := by decide +kernel
theorem dX8_at_98 : decode cX8_at 98 = .ok (.iload_n 3, 1) := by decide +kernel
theorem dX8_at_99 : decode cX8_at 99 = .ok (.ireturn, 1) := by decide +kernel
theorem dX8_at_100 : decode cX8_at 100 = .ok (.iinc 3 1, 3) := by decide +kernel
theorem dX8_at_103 : decode cX8_at 103 = .ok (.goto (-67), 3) := by decide +kernel
theorem dX8_at_106 : decode cX8_at 106 = .ok (.sipush (-10004), 3) := by decide +kernel
theorem dX8_at_109 : decode cX8_at 109 = .ok (.ireturn, 1) := by decide +kernel
theorem dX8_sizeFor_0 : decode cX8_sizeFor 0 = .ok (.aload_n 0, 1) := by decide +kernel
theorem dX8_sizeFor_1 : decode cX8_sizeFor 1 = .ok (.iload_n 1, 1) := by decide +kernel
theorem dX8_sizeFor_2 : decode cX8_sizeFor 2 = .ok (.invokevirtual 138, 3) := by decide +kernel
theorem dX8_sizeFor_5 : decode cX8_sizeFor 5 = .ok (.ifCond .eq 12, 3) := by decide +kernel
theorem dX8_sizeFor_8 : decode cX8_sizeFor 8 = .ok (.iload_n 2, 1) := by decide +kernel
theorem dX8_sizeFor_9 : decode cX8_sizeFor 9 = .ok (.iconst 0, 1) := by decide +kernel
theorem dX8_sizeFor_10 : decode cX8_sizeFor 10 = .ok (.iconst 1, 1) := by decide +kernel
theorem dX8_sizeFor_11 : decode cX8_sizeFor 11 = .ok (.invokestatic 32, 3) := by decide +kernel
theorem dX8_sizeFor_14 : decode cX8_sizeFor 14 = .ok (.ifCond .ne 7, 3) := by decide +kernel
theorem dX8_sizeFor_17 : decode cX8_sizeFor 17 = .ok (.sipush (-10001), 3) := by decide +kernel
theorem dX8_sizeFor_20 : decode cX8_sizeFor 20 = .ok (.ireturn, 1) := by decide +kernel
theorem dX8_sizeFor_21 : decode cX8_sizeFor 21 = .ok (.aload_n 0, 1) := by decide +kernel
theorem dX8_sizeFor_22 : decode cX8_sizeFor 22 = .ok (.iload_n 1, 1) := by decide +kernel
theorem dX8_sizeFor_23 : decode cX8_sizeFor 23 = .ok (.invokevirtual 90, 3) := by decide +kernel
theorem dX8_sizeFor_26 : decode cX8_sizeFor 26 = .ok (.aload_n 0, 1) := by decide +kernel
theorem dX8_sizeFor_27 : decode cX8_sizeFor 27 = .ok (.getfield 7, 3) := by decide +kernel
theorem dX8_sizeFor_30 : decode cX8_sizeFor 30 = .ok (.iconst 2, 1) := by decide +kernel
theorem dX8_sizeFor_31 : decode cX8_sizeFor 31 = .ok (.iload_n 2, 1) := by decide +kernel
theorem dX8_sizeFor_32 : decode cX8_sizeFor 32 = .ok (.iadd, 1) := by decide +kernel
theorem dX8_sizeFor_33 : decode cX8_sizeFor 33 = .ok (.iaload, 1) := by decide +kernel
theorem dX8_sizeFor_34 : decode cX8_sizeFor 34 = .ok (.istore_n 3, 1) := by decide +kernel
theorem dX8_sizeFor_35 : decode cX8_sizeFor 35 = .ok (.sipush (-10004), 3) := by decide +kernel
theorem dX8_sizeFor_38 : decode cX8_sizeFor 38 = .ok (.istore 4, 2) := by decide +kernel
theorem dX8_sizeFor_40 : decode cX8_sizeFor 40 = .ok (.bipush 20, 2) := by decide +kernel
theorem dX8_sizeFor_42 : decode cX8_sizeFor 42 = .ok (.istore 5, 2) := by decide +kernel
theorem dX8_sizeFor_44 : decode cX8_sizeFor 44 = .ok (.iload 5, 2) := by decide +kernel
theorem dX8_sizeFor_46 : decode cX8_sizeFor 46 = .ok (.sipush 400, 3) := by decide +kernel
theorem dX8_sizeFor_49 : decode cX8_sizeFor 49 = .ok (.if_icmp .gt 69, 3) := by decide +kernel
theorem dX8_sizeFor_52 : decode cX8_sizeFor 52 = .ok (.iload 4, 2) := by decide +kernel
theorem dX8_sizeFor_54 : decode cX8_sizeFor 54 = .ok (.sipush (-10004), 3) := by decide +kernel
theorem dX8_sizeFor_57 : decode cX8_sizeFor 57 = .ok (.if_icmp .ne 61, 3) := by decide +kernel
theorem dX8_sizeFor_60 : decode cX8_sizeFor 60 = .ok (.aload_n 0, 1) := by decide +kernel
theorem dX8_sizeFor_61 : decode cX8_sizeFor 61 = .ok (.getfield 7, 3) := by decide +kernel
theorem dX8_sizeFor_64 : decode cX8_sizeFor 64 = .ok (.iconst 2, 1) := by decide +kernel
theorem dX8_sizeFor_65 : decode cX8_sizeFor 65 = .ok (.iload_n 2, 1) := by decide +kernel
theorem dX8_sizeFor_66 : decode cX8_sizeFor 66 = .ok (.iadd, 1) := by decide +kernel
theorem dX8_sizeFor_67 : decode cX8_sizeFor 67 = .ok (.iload 5, 2) := by decide +kernel
theorem dX8_sizeFor_69 : decode cX8_sizeFor 69 = .ok (.iastore, 1) := by decide +kernel
theorem dX8_sizeFor_70 : decode cX8_sizeFor 70 = .ok (.iconst 0, 1) := by decide +kernel
theorem dX8_sizeFor_71 : decode cX8_sizeFor 71 = .ok (.istore 6, 2) := by decide +kernel
theorem dX8_sizeFor_73 : decode cX8_sizeFor 73 = .ok (.iload 6, 2) := by decide +kernel
theorem dX8_sizeFor_75 : decode cX8_sizeFor 75 = .ok (.aload_n 0, 1) := by decide +kernel
theorem dX8_sizeFor_76 : decode cX8_sizeFor 76 = .ok (.getfield 83, 3) := by decide +kernel
theorem dX8_sizeFor_79 : decode cX8_sizeFor 79 = .ok (.if_icmp .ge 33, 3) := by decide +kernel
theorem dX8_sizeFor_82 : decode cX8_sizeFor 82 = .ok (.aload_n 0, 1) := by decide +kernel
theorem dX8_sizeFor_83 : decode cX8_sizeFor 83 = .ok (.iload_n 1, 1) := by decide +kernel
theorem dX8_sizeFor_84 : decode cX8_sizeFor 84 = .ok (.aload_n 0, 1) := by decide +kernel
theorem dX8_sizeFor_85 : decode cX8_sizeFor 85 = .ok (.getfield 29, 3) := by decide +kernel
theorem dX8_sizeFor_88 : decode cX8_sizeFor 88 = .ok (.iload 6, 2) := by decide +kernel
theorem dX8_sizeFor_90 : decode cX8_sizeFor 90 = .ok (.iaload, 1) := by decide +kernel
theorem dX8_sizeFor_91 : decode cX8_sizeFor 91 = .ok (.invokevirtual 93, 3) := by decide +kernel
theorem dX8_sizeFor_94 : decode cX8_sizeFor 94 = .ok (.ifCond .eq 8, 3) := by decide +kernel
theorem dX8_sizeFor_97 : decode cX8_sizeFor 97 = .ok (.iload 5, 2) := by decide +kernel
theorem dX8_sizeFor_99 : decode cX8_sizeFor 99 = .ok (.goto 5, 3) := by decide +kernel
theorem dX8_sizeFor_102 : decode cX8_sizeFor 102 = .ok (.iload 4, 2) := by decide +kernel
theorem dX8_sizeFor_104 : decode cX8_sizeFor 104 = .ok (.istore 4, 2) := by decide +kernel
theorem dX8_sizeFor_106 : decode cX8_sizeFor 106 = .ok (.iinc 6 1, 3) := by decide +kernel
theorem dX8_sizeFor_109 : decode cX8_sizeFor 109 = .ok (.goto (-36), 3) := by decide +kernel
theorem dX8_sizeFor_112 : decode cX8_sizeFor 112 = .ok (.iinc 5 1, 3) := by decide +kernel
theorem dX8_sizeFor_115 : decode cX8_sizeFor 115 = .ok (.goto (-71), 3) := by decide +kernel
theorem dX8_sizeFor_118 : decode cX8_sizeFor 118 = .ok (.aload_n 0, 1) := by decide +kernel
theorem dX8_sizeFor_119 : decode cX8_sizeFor 119 = .ok (.getfield 7, 3) := by decide +kernel
theorem dX8_sizeFor_122 : decode cX8_sizeFor 122 = .ok (.iconst 2, 1) := by decide +kernel
theorem dX8_sizeFor_123 : decode cX8_sizeFor 123 = .ok (.iload_n 2, 1) := by decide +kernel
theorem dX8_sizeFor_124 : decode cX8_sizeFor 124 = .ok (.iadd, 1) := by decide +kernel
theorem dX8_sizeFor_125 : decode cX8_sizeFor 125 = .ok (.iload_n 3, 1) := by decide +kernel
theorem dX8_sizeFor_126 : decode cX8_sizeFor 126 = .ok (.iastore, 1) := by decide +kernel
theorem dX8_sizeFor_127 : decode cX8_sizeFor 127 = .ok (.iload 4, 2) := by decide +kernel
theorem dX8_sizeFor_129 : decode cX8_sizeFor 129 = .ok (.ireturn, 1) := by decide +kernel
theorem dX8_undo_0 : decode cX8_undo 0 = .ok (.aload_n 0, 1) := by decide +kernel
theorem dX8_undo_1 : decode cX8_undo 1 = .ok (.getfield 36, 3) := by decide +kernel
theorem dX8_undo_4 : decode cX8_undo 4 = .ok (.ifCond .ne 7, 3) := by decide +kernel
theorem dX8_undo_7 : decode cX8_undo 7 = .ok (.sipush (-10002), 3) := by decide +kernel
theorem dX8_undo_10 : decode cX8_undo 10 = .ok (.ireturn, 1) := by decide +kernel
theorem dX8_undo_11 : decode cX8_undo 11 = .ok (.aload_n 0, 1) := by decide +kernel
theorem dX8_undo_12 : decode cX8_undo 12 = .ok (.dup, 1) := by decide +kernel
theorem dX8_undo_13 : decode cX8_undo 13 = .ok (.getfield 36, 3) := by decide +kernel
theorem dX8_undo_16 : decode cX8_undo 16 = .ok (.iconst 1, 1) := by decide +kernel
theorem dX8_undo_17 : decode cX8_undo 17 = .ok (.isub, 1) := by decide +kernel
theorem dX8_undo_18 : decode cX8_undo 18 = .ok (.putfield 36, 3) := by decide +kernel
theorem dX8_undo_21 : decode cX8_undo 21 = .ok (.iconst 0, 1) := by decide +kernel
theorem dX8_undo_22 : decode cX8_undo 22 = .ok (.istore_n 1, 1) := by decide +kernel
theorem dX8_undo_23 : decode cX8_undo 23 = .ok (.iload_n 1, 1) := by decide +kernel
theorem dX8_undo_24 : decode cX8_undo 24 = .ok (.sipush 172, 3) := by decide +kernel
theorem dX8_undo_27 : decode cX8_undo 27 = .ok (.if_icmp .ge 30, 3) := by decide +kernel
theorem dX8_undo_30 : decode cX8_undo 30 = .ok (.aload_n 0, 1) := by decide +kernel
theorem dX8_undo_31 : decode cX8_undo 31 = .ok (.getfield 7, 3) := by decide +kernel
theorem dX8_undo_34 : decode cX8_undo 34 = .ok (.iload_n 1, 1) := by decide +kernel
theorem dX8_undo_35 : decode cX8_undo 35 = .ok (.aload_n 0, 1) := by decide +kernel
theorem dX8_undo_36 : decode cX8_undo 36 = .ok (.getfield 13, 3) := by decide +kernel
theorem dX8_undo_39 : decode cX8_undo 39 = .ok (.sipush 172, 3) := by decide +kernel
theorem dX8_undo_42 : decode cX8_undo 42 = .ok (.aload_n 0, 1) := by decide +kernel
theorem dX8_undo_43 : decode cX8_undo 43 = .ok (.getfield 36, 3) := by decide +kernel
theorem dX8_undo_46 : decode cX8_undo 46 = .ok (.imul, 1) := by decide +kernel
theorem dX8_undo_47 : decode cX8_undo 47 = .ok (.iload_n 1, 1) := by decide +kernel
theorem dX8_undo_48 : decode cX8_undo 48 = .ok (.iadd, 1) := by decide +kernel
theorem dX8_undo_49 : decode cX8_undo 49 = .ok (.iaload, 1) := by decide +kernel
theorem dX8_undo_50 : decode cX8_undo 50 = .ok (.iastore, 1) := by decide +kernel
theorem dX8_undo_51 : decode cX8_undo 51 = .ok (.iinc 1 1, 3) := by decide +kernel
theorem dX8_undo_54 : decode cX8_undo 54 = .ok (.goto (-31), 3) := by decide +kernel
theorem dX8_undo_57 : decode cX8_undo 57 = .ok (.aload_n 0, 1) := by decide +kernel
theorem dX8_undo_58 : decode cX8_undo 58 = .ok (.getfield 36, 3) := by decide +kernel
theorem dX8_undo_61 : decode cX8_undo 61 = .ok (.ireturn, 1) := by decide +kernel
theorem dX8_type_0 : decode cX8_type 0 = .ok (.iload_n 1, 1) := by decide +kernel
theorem dX8_type_1 : decode cX8_type 1 = .ok (.bipush 32, 2) := by decide +kernel
theorem dX8_type_3 : decode cX8_type 3 = .ok (.bipush 126, 2) := by decide +kernel
theorem dX8_type_5 : decode cX8_type 5 = .ok (.invokestatic 32, 3) := by decide +kernel
theorem dX8_type_8 : decode cX8_type 8 = .ok (.ifCond .ne 7, 3) := by decide +kernel
theorem dX8_type_11 : decode cX8_type 11 = .ok (.sipush (-10001), 3) := by decide +kernel
theorem dX8_type_14 : decode cX8_type 14 = .ok (.ireturn, 1) := by decide +kernel
theorem dX8_type_15 : decode cX8_type 15 = .ok (.aload_n 0, 1) := by decide +kernel
theorem dX8_type_16 : decode cX8_type 16 = .ok (.getfield 131, 3) := by decide +kernel
theorem dX8_type_19 : decode cX8_type 19 = .ok (.bipush 60, 2) := by decide +kernel
theorem dX8_type_21 : decode cX8_type 21 = .ok (.if_icmp .ne 7, 3) := by decide +kernel
theorem dX8_type_24 : decode cX8_type 24 = .ok (.sipush (-10003), 3) := by decide +kernel
theorem dX8_type_27 : decode cX8_type 27 = .ok (.ireturn, 1) := by decide +kernel
theorem dX8_type_28 : decode cX8_type 28 = .ok (.aload_n 0, 1) := by decide +kernel
theorem dX8_type_29 : decode cX8_type 29 = .ok (.getfield 16, 3) := by decide +kernel
theorem dX8_type_32 : decode cX8_type 32 = .ok (.aload_n 0, 1) := by decide +kernel
theorem dX8_type_33 : decode cX8_type 33 = .ok (.getfield 131, 3) := by decide +kernel
theorem dX8_type_36 : decode cX8_type 36 = .ok (.iload_n 1, 1) := by decide +kernel
theorem dX8_type_37 : decode cX8_type 37 = .ok (.i2c, 1) := by decide +kernel
theorem dX8_type_38 : decode cX8_type 38 = .ok (.castore, 1) := by decide +kernel
theorem dX8_type_39 : decode cX8_type 39 = .ok (.aload_n 0, 1) := by decide +kernel
theorem dX8_type_40 : decode cX8_type 40 = .ok (.dup, 1) := by decide +kernel
theorem dX8_type_41 : decode cX8_type 41 = .ok (.getfield 131, 3) := by decide +kernel
theorem dX8_type_44 : decode cX8_type 44 = .ok (.iconst 1, 1) := by decide +kernel
theorem dX8_type_45 : decode cX8_type 45 = .ok (.iadd, 1) := by decide +kernel
theorem dX8_type_46 : decode cX8_type 46 = .ok (.putfield 131, 3) := by decide +kernel
theorem dX8_type_49 : decode cX8_type 49 = .ok (.aload_n 0, 1) := by decide +kernel
theorem dX8_type_50 : decode cX8_type 50 = .ok (.getfield 131, 3) := by decide +kernel
theorem dX8_type_53 : decode cX8_type 53 = .ok (.ireturn, 1) := by decide +kernel
theorem dX8_clearText_0 : decode cX8_clearText 0 = .ok (.aload_n 0, 1) := by decide +kernel
theorem dX8_clearText_1 : decode cX8_clearText 1 = .ok (.getfield 131, 3) := by decide +kernel
theorem dX8_clearText_4 : decode cX8_clearText 4 = .ok (.istore_n 1, 1) := by decide +kernel
theorem dX8_clearText_5 : decode cX8_clearText 5 = .ok (.aload_n 0, 1) := by decide +kernel
theorem dX8_clearText_6 : decode cX8_clearText 6 = .ok (.iconst 0, 1) := by decide +kernel
theorem dX8_clearText_7 : decode cX8_clearText 7 = .ok (.putfield 131, 3) := by decide +kernel
theorem dX8_clearText_10 : decode cX8_clearText 10 = .ok (.iload_n 1, 1) := by decide +kernel
theorem dX8_clearText_11 : decode cX8_clearText 11 = .ok (.ireturn, 1) := by decide +kernel
theorem dX8_passes_0 : decode cX8_passes 0 = .ok (.aload_n 0, 1) := by decide +kernel
theorem dX8_passes_1 : decode cX8_passes 1 = .ok (.getfield 159, 3) := by decide +kernel
theorem dX8_passes_4 : decode cX8_passes 4 = .ok (.aload_n 0, 1) := by decide +kernel
theorem dX8_passes_5 : decode cX8_passes 5 = .ok (.getfield 131, 3) := by decide +kernel
theorem dX8_passes_8 : decode cX8_passes 8 = .ok (.if_icmp .ge 20, 3) := by decide +kernel
theorem dX8_passes_11 : decode cX8_passes 11 = .ok (.aload_n 0, 1) := by decide +kernel
theorem dX8_passes_12 : decode cX8_passes 12 = .ok (.getfield 16, 3) := by decide +kernel
theorem dX8_passes_15 : decode cX8_passes 15 = .ok (.aload_n 0, 1) := by decide +kernel
theorem dX8_passes_16 : decode cX8_passes 16 = .ok (.getfield 159, 3) := by decide +kernel
theorem dX8_passes_19 : decode cX8_passes 19 = .ok (.caload, 1) := by decide +kernel
theorem dX8_passes_20 : decode cX8_passes 20 = .ok (.iload_n 1, 1) := by decide +kernel
theorem dX8_passes_21 : decode cX8_passes 21 = .ok (.if_icmp .ne 7, 3) := by decide +kernel
theorem dX8_passes_24 : decode cX8_passes 24 = .ok (.iconst 1, 1) := by decide +kernel
theorem dX8_passes_25 : decode cX8_passes 25 = .ok (.goto 4, 3) := by decide +kernel
theorem dX8_passes_28 : decode cX8_passes 28 = .ok (.iconst 0, 1) := by decide +kernel
theorem dX8_passes_29 : decode cX8_passes 29 = .ok (.istore_n 2, 1) := by decide +kernel
theorem dX8_passes_30 : decode cX8_passes 30 = .ok (.aload_n 0, 1) := by decide +kernel
theorem dX8_passes_31 : decode cX8_passes 31 = .ok (.dup, 1) := by decide +kernel
theorem dX8_passes_32 : decode cX8_passes 32 = .ok (.getfield 159, 3) := by decide +kernel
theorem dX8_passes_35 : decode cX8_passes 35 = .ok (.iload_n 2, 1) := by decide +kernel
theorem dX8_passes_36 : decode cX8_passes 36 = .ok (.ifCond .eq 7, 3) := by decide +kernel
theorem dX8_passes_39 : decode cX8_passes 39 = .ok (.iconst 1, 1) := by decide +kernel
theorem dX8_passes_40 : decode cX8_passes 40 = .ok (.goto 4, 3) := by decide +kernel
theorem dX8_passes_43 : decode cX8_passes 43 = .ok (.iconst 0, 1) := by decide +kernel
theorem dX8_passes_44 : decode cX8_passes 44 = .ok (.iadd, 1) := by decide +kernel
theorem dX8_passes_45 : decode cX8_passes 45 = .ok (.putfield 159, 3) := by decide +kernel
theorem dX8_passes_48 : decode cX8_passes 48 = .ok (.iload_n 2, 1) := by decide +kernel
theorem dX8_passes_49 : decode cX8_passes 49 = .ok (.ireturn, 1) := by decide +kernel
theorem dX8_readsNumber_0 : decode cX8_readsNumber 0 = .ok (.aload_n 0, 1) := by decide +kernel
theorem dX8_readsNumber_1 : decode cX8_readsNumber 1 = .ok (.getfield 159, 3) := by decide +kernel
theorem dX8_readsNumber_4 : decode cX8_readsNumber 4 = .ok (.istore_n 2, 1) := by decide +kernel
theorem dX8_readsNumber_5 : decode cX8_readsNumber 5 = .ok (.aload_n 0, 1) := by decide +kernel
theorem dX8_readsNumber_6 : decode cX8_readsNumber 6 = .ok (.iconst 0, 1) := by decide +kernel
theorem dX8_readsNumber_7 : decode cX8_readsNumber 7 = .ok (.putfield 162, 3) := by decide +kernel
theorem dX8_readsNumber_10 : decode cX8_readsNumber 10 = .ok (.aload_n 0, 1) := by decide +kernel
theorem dX8_readsNumber_11 : decode cX8_readsNumber 11 = .ok (.getfield 159, 3) := by decide +kernel
theorem dX8_readsNumber_14 : decode cX8_readsNumber 14 = .ok (.aload_n 0, 1) := by decide +kernel
theorem dX8_readsNumber_15 : decode cX8_readsNumber 15 = .ok (.getfield 131, 3) := by decide +kernel
theorem dX8_readsNumber_18 : decode cX8_readsNumber 18 = .ok (.if_icmp .ge 69, 3) := by decide +kernel
theorem dX8_readsNumber_21 : decode cX8_readsNumber 21 = .ok (.aload_n 0, 1) := by decide +kernel
theorem dX8_readsNumber_22 : decode cX8_readsNumber 22 = .ok (.getfield 159, 3) := by decide +kernel
theorem dX8_readsNumber_25 : decode cX8_readsNumber 25 = .ok (.iload_n 2, 1) := by decide +kernel
theorem dX8_readsNumber_26 : decode cX8_readsNumber 26 = .ok (.iload_n 1, 1) := by decide +kernel
theorem dX8_readsNumber_27 : decode cX8_readsNumber 27 = .ok (.iadd, 1) := by decide +kernel
theorem dX8_readsNumber_28 : decode cX8_readsNumber 28 = .ok (.if_icmp .ge 59, 3) := by decide +kernel
theorem dX8_readsNumber_31 : decode cX8_readsNumber 31 = .ok (.aload_n 0, 1) := by decide +kernel
theorem dX8_readsNumber_32 : decode cX8_readsNumber 32 = .ok (.getfield 16, 3) := by decide +kernel
theorem dX8_readsNumber_35 : decode cX8_readsNumber 35 = .ok (.aload_n 0, 1) := by decide +kernel
theorem dX8_readsNumber_36 : decode cX8_readsNumber 36 = .ok (.getfield 159, 3) := by decide +kernel
theorem dX8_readsNumber_39 : decode cX8_readsNumber 39 = .ok (.caload, 1) := by decide +kernel
theorem dX8_readsNumber_40 : decode cX8_readsNumber 40 = .ok (.bipush 48, 2) := by decide +kernel
theorem dX8_readsNumber_42 : decode cX8_readsNumber 42 = .ok (.bipush 57, 2) := by decide +kernel
theorem dX8_readsNumber_44 : decode cX8_readsNumber 44 = .ok (.invokestatic 32, 3) := by decide +kernel
theorem dX8_readsNumber_47 : decode cX8_readsNumber 47 = .ok (.ifCond .eq 40, 3) := by decide +kernel
theorem dX8_readsNumber_50 : decode cX8_readsNumber 50 = .ok (.aload_n 0, 1) := by decide +kernel
theorem dX8_readsNumber_51 : decode cX8_readsNumber 51 = .ok (.bipush 10, 2) := by decide +kernel
theorem dX8_readsNumber_53 : decode cX8_readsNumber 53 = .ok (.aload_n 0, 1) := by decide +kernel
theorem dX8_readsNumber_54 : decode cX8_readsNumber 54 = .ok (.getfield 162, 3) := by decide +kernel
theorem dX8_readsNumber_57 : decode cX8_readsNumber 57 = .ok (.imul, 1) := by decide +kernel
theorem dX8_readsNumber_58 : decode cX8_readsNumber 58 = .ok (.aload_n 0, 1) := by decide +kernel
theorem dX8_readsNumber_59 : decode cX8_readsNumber 59 = .ok (.getfield 16, 3) := by decide +kernel
theorem dX8_readsNumber_62 : decode cX8_readsNumber 62 = .ok (.aload_n 0, 1) := by decide +kernel
theorem dX8_readsNumber_63 : decode cX8_readsNumber 63 = .ok (.getfield 159, 3) := by decide +kernel
theorem dX8_readsNumber_66 : decode cX8_readsNumber 66 = .ok (.caload, 1) := by decide +kernel
theorem dX8_readsNumber_67 : decode cX8_readsNumber 67 = .ok (.iadd, 1) := by decide +kernel
theorem dX8_readsNumber_68 : decode cX8_readsNumber 68 = .ok (.bipush 48, 2) := by decide +kernel
theorem dX8_readsNumber_70 : decode cX8_readsNumber 70 = .ok (.isub, 1) := by decide +kernel
theorem dX8_readsNumber_71 : decode cX8_readsNumber 71 = .ok (.putfield 162, 3) := by decide +kernel
theorem dX8_readsNumber_74 : decode cX8_readsNumber 74 = .ok (.aload_n 0, 1) := by decide +kernel
theorem dX8_readsNumber_75 : decode cX8_readsNumber 75 = .ok (.dup, 1) := by decide +kernel
theorem dX8_readsNumber_76 : decode cX8_readsNumber 76 = .ok (.getfield 159, 3) := by decide +kernel
theorem dX8_readsNumber_79 : decode cX8_readsNumber 79 = .ok (.iconst 1, 1) := by decide +kernel
theorem dX8_readsNumber_80 : decode cX8_readsNumber 80 = .ok (.iadd, 1) := by decide +kernel
theorem dX8_readsNumber_81 : decode cX8_readsNumber 81 = .ok (.putfield 159, 3) := by decide +kernel
theorem dX8_readsNumber_84 : decode cX8_readsNumber 84 = .ok (.goto (-74), 3) := by decide +kernel
theorem dX8_readsNumber_87 : decode cX8_readsNumber 87 = .ok (.aload_n 0, 1) := by decide +kernel
theorem dX8_readsNumber_88 : decode cX8_readsNumber 88 = .ok (.getfield 159, 3) := by decide +kernel
theorem dX8_readsNumber_91 : decode cX8_readsNumber 91 = .ok (.iload_n 2, 1) := by decide +kernel
theorem dX8_readsNumber_92 : decode cX8_readsNumber 92 = .ok (.if_icmp .le 7, 3) := by decide +kernel
theorem dX8_readsNumber_95 : decode cX8_readsNumber 95 = .ok (.iconst 1, 1) := by decide +kernel
theorem dX8_readsNumber_96 : decode cX8_readsNumber 96 = .ok (.goto 4, 3) := by decide +kernel
theorem dX8_readsNumber_99 : decode cX8_readsNumber 99 = .ok (.iconst 0, 1) := by decide +kernel
theorem dX8_readsNumber_100 : decode cX8_readsNumber 100 = .ok (.ireturn, 1) := by decide +kernel
theorem dX8_readsSigned_0 : decode cX8_readsSigned 0 = .ok (.aload_n 0, 1) := by decide +kernel
theorem dX8_readsSigned_1 : decode cX8_readsSigned 1 = .ok (.bipush 45, 2) := by decide +kernel
theorem dX8_readsSigned_3 : decode cX8_readsSigned 3 = .ok (.invokevirtual 165, 3) := by decide +kernel
theorem dX8_readsSigned_6 : decode cX8_readsSigned 6 = .ok (.istore_n 1, 1) := by decide +kernel
theorem dX8_readsSigned_7 : decode cX8_readsSigned 7 = .ok (.aload_n 0, 1) := by decide +kernel
theorem dX8_readsSigned_8 : decode cX8_readsSigned 8 = .ok (.iconst 3, 1) := by decide +kernel
theorem dX8_readsSigned_9 : decode cX8_readsSigned 9 = .ok (.invokevirtual 169, 3) := by decide +kernel
theorem dX8_readsSigned_12 : decode cX8_readsSigned 12 = .ok (.istore_n 2, 1) := by decide +kernel
theorem dX8_readsSigned_13 : decode cX8_readsSigned 13 = .ok (.aload_n 0, 1) := by decide +kernel
theorem dX8_readsSigned_14 : decode cX8_readsSigned 14 = .ok (.iload_n 1, 1) := by decide +kernel
theorem dX8_readsSigned_15 : decode cX8_readsSigned 15 = .ok (.ifCond .eq 11, 3) := by decide +kernel
theorem dX8_readsSigned_18 : decode cX8_readsSigned 18 = .ok (.aload_n 0, 1) := by decide +kernel
theorem dX8_readsSigned_19 : decode cX8_readsSigned 19 = .ok (.getfield 162, 3) := by decide +kernel
theorem dX8_readsSigned_22 : decode cX8_readsSigned 22 = .ok (.ineg, 1) := by decide +kernel
theorem dX8_readsSigned_23 : decode cX8_readsSigned 23 = .ok (.goto 7, 3) := by decide +kernel
theorem dX8_readsSigned_26 : decode cX8_readsSigned 26 = .ok (.aload_n 0, 1) := by decide +kernel
theorem dX8_readsSigned_27 : decode cX8_readsSigned 27 = .ok (.getfield 162, 3) := by decide +kernel
theorem dX8_readsSigned_30 : decode cX8_readsSigned 30 = .ok (.putfield 162, 3) := by decide +kernel
theorem dX8_readsSigned_33 : decode cX8_readsSigned 33 = .ok (.iload_n 2, 1) := by decide +kernel
theorem dX8_readsSigned_34 : decode cX8_readsSigned 34 = .ok (.ireturn, 1) := by decide +kernel
theorem dX8_readsForm_0 : decode cX8_readsForm 0 = .ok (.aload_n 0, 1) := by decide +kernel
theorem dX8_readsForm_1 : decode cX8_readsForm 1 = .ok (.aload_n 0, 1) := by decide +kernel
theorem dX8_readsForm_2 : decode cX8_readsForm 2 = .ok (.getfield 16, 3) := by decide +kernel
theorem dX8_readsForm_5 : decode cX8_readsForm 5 = .ok (.aload_n 0, 1) := by decide +kernel
theorem dX8_readsForm_6 : decode cX8_readsForm 6 = .ok (.getfield 159, 3) := by decide +kernel
theorem dX8_readsForm_9 : decode cX8_readsForm 9 = .ok (.caload, 1) := by decide +kernel
theorem dX8_readsForm_10 : decode cX8_readsForm 10 = .ok (.putfield 172, 3) := by decide +kernel
theorem dX8_readsForm_13 : decode cX8_readsForm 13 = .ok (.aload_n 0, 1) := by decide +kernel
theorem dX8_readsForm_14 : decode cX8_readsForm 14 = .ok (.dup, 1) := by decide +kernel
theorem dX8_readsForm_15 : decode cX8_readsForm 15 = .ok (.getfield 159, 3) := by decide +kernel
theorem dX8_readsForm_18 : decode cX8_readsForm 18 = .ok (.iconst 1, 1) := by decide +kernel
theorem dX8_readsForm_19 : decode cX8_readsForm 19 = .ok (.iadd, 1) := by decide +kernel
theorem dX8_readsForm_20 : decode cX8_readsForm 20 = .ok (.putfield 159, 3) := by decide +kernel
theorem dX8_readsForm_23 : decode cX8_readsForm 23 = .ok (.aload_n 0, 1) := by decide +kernel
theorem dX8_readsForm_24 : decode cX8_readsForm 24 = .ok (.getfield 172, 3) := by decide +kernel
theorem dX8_readsForm_27 : decode cX8_readsForm 27 = .ok (.bipush 116, 2) := by decide +kernel
theorem dX8_readsForm_29 : decode cX8_readsForm 29 = .ok (.if_icmp .ne 7, 3) := by decide +kernel
theorem dX8_readsForm_32 : decode cX8_readsForm 32 = .ok (.iconst 1, 1) := by decide +kernel
theorem dX8_readsForm_33 : decode cX8_readsForm 33 = .ok (.goto 4, 3) := by decide +kernel
theorem dX8_readsForm_36 : decode cX8_readsForm 36 = .ok (.iconst 0, 1) := by decide +kernel
theorem dX8_readsForm_37 : decode cX8_readsForm 37 = .ok (.istore_n 1, 1) := by decide +kernel
theorem dX8_readsForm_38 : decode cX8_readsForm 38 = .ok (.aload_n 0, 1) := by decide +kernel
theorem dX8_readsForm_39 : decode cX8_readsForm 39 = .ok (.getfield 172, 3) := by decide +kernel
theorem dX8_readsForm_42 : decode cX8_readsForm 42 = .ok (.bipush 111, 2) := by decide +kernel
theorem dX8_readsForm_44 : decode cX8_readsForm 44 = .ok (.if_icmp .eq 12, 3) := by decide +kernel
theorem dX8_readsForm_47 : decode cX8_readsForm 47 = .ok (.aload_n 0, 1) := by decide +kernel
theorem dX8_readsForm_48 : decode cX8_readsForm 48 = .ok (.getfield 172, 3) := by decide +kernel
theorem dX8_readsForm_51 : decode cX8_readsForm 51 = .ok (.bipush 99, 2) := by decide +kernel
theorem dX8_readsForm_53 : decode cX8_readsForm 53 = .ok (.if_icmp .ne 12, 3) := by decide +kernel
theorem dX8_readsForm_56 : decode cX8_readsForm 56 = .ok (.aload_n 0, 1) := by decide +kernel
theorem dX8_readsForm_57 : decode cX8_readsForm 57 = .ok (.iconst 2, 1) := by decide +kernel
theorem dX8_readsForm_58 : decode cX8_readsForm 58 = .ok (.invokevirtual 169, 3) := by decide +kernel
theorem dX8_readsForm_61 : decode cX8_readsForm 61 = .ok (.istore_n 1, 1) := by decide +kernel
theorem dX8_readsForm_62 : decode cX8_readsForm 62 = .ok (.goto 51, 3) := by decide +kernel
theorem dX8_readsForm_65 : decode cX8_readsForm 65 = .ok (.aload_n 0, 1) := by decide +kernel
theorem dX8_readsForm_66 : decode cX8_readsForm 66 = .ok (.getfield 172, 3) := by decide +kernel
theorem dX8_readsForm_69 : decode cX8_readsForm 69 = .ok (.bipush 118, 2) := by decide +kernel
theorem dX8_readsForm_71 : decode cX8_readsForm 71 = .ok (.if_icmp .ne 42, 3) := by decide +kernel
theorem dX8_readsForm_74 : decode cX8_readsForm 74 = .ok (.aload_n 0, 1) := by decide +kernel
theorem dX8_readsForm_75 : decode cX8_readsForm 75 = .ok (.invokevirtual 175, 3) := by decide +kernel
theorem dX8_readsForm_78 : decode cX8_readsForm 78 = .ok (.istore_n 1, 1) := by decide +kernel
theorem dX8_readsForm_79 : decode cX8_readsForm 79 = .ok (.aload_n 0, 1) := by decide +kernel
theorem dX8_readsForm_80 : decode cX8_readsForm 80 = .ok (.aload_n 0, 1) := by decide +kernel
theorem dX8_readsForm_81 : decode cX8_readsForm 81 = .ok (.getfield 162, 3) := by decide +kernel
theorem dX8_readsForm_84 : decode cX8_readsForm 84 = .ok (.putfield 179, 3) := by decide +kernel
theorem dX8_readsForm_87 : decode cX8_readsForm 87 = .ok (.iload_n 1, 1) := by decide +kernel
theorem dX8_readsForm_88 : decode cX8_readsForm 88 = .ok (.ifCond .eq 23, 3) := by decide +kernel
theorem dX8_readsForm_91 : decode cX8_readsForm 91 = .ok (.aload_n 0, 1) := by decide +kernel
theorem dX8_readsForm_92 : decode cX8_readsForm 92 = .ok (.bipush 44, 2) := by decide +kernel
theorem dX8_readsForm_94 : decode cX8_readsForm 94 = .ok (.invokevirtual 165, 3) := by decide +kernel
theorem dX8_readsForm_97 : decode cX8_readsForm 97 = .ok (.ifCond .eq 14, 3) := by decide +kernel
theorem dX8_readsForm_100 : decode cX8_readsForm 100 = .ok (.aload_n 0, 1) := by decide +kernel
theorem dX8_readsForm_101 : decode cX8_readsForm 101 = .ok (.invokevirtual 175, 3) := by decide +kernel
theorem dX8_readsForm_104 : decode cX8_readsForm 104 = .ok (.ifCond .eq 7, 3) := by decide +kernel
theorem dX8_readsForm_107 : decode cX8_readsForm 107 = .ok (.iconst 1, 1) := by decide +kernel
theorem dX8_readsForm_108 : decode cX8_readsForm 108 = .ok (.goto 4, 3) := by decide +kernel
theorem dX8_readsForm_111 : decode cX8_readsForm 111 = .ok (.iconst 0, 1) := by decide +kernel
theorem dX8_readsForm_112 : decode cX8_readsForm 112 = .ok (.istore_n 1, 1) := by decide +kernel
theorem dX8_readsForm_113 : decode cX8_readsForm 113 = .ok (.iload_n 1, 1) := by decide +kernel
theorem dX8_readsForm_114 : decode cX8_readsForm 114 = .ok (.ifCond .eq 16, 3) := by decide +kernel
theorem dX8_readsForm_117 : decode cX8_readsForm 117 = .ok (.aload_n 0, 1) := by decide +kernel
theorem dX8_readsForm_118 : decode cX8_readsForm 118 = .ok (.bipush 59, 2) := by decide +kernel
theorem dX8_readsForm_120 : decode cX8_readsForm 120 = .ok (.invokevirtual 165, 3) := by decide +kernel
theorem dX8_readsForm_123 : decode cX8_readsForm 123 = .ok (.ifCond .eq 7, 3) := by decide +kernel
theorem dX8_readsForm_126 : decode cX8_readsForm 126 = .ok (.iconst 1, 1) := by decide +kernel
theorem dX8_readsForm_127 : decode cX8_readsForm 127 = .ok (.goto 4, 3) := by decide +kernel
theorem dX8_readsForm_130 : decode cX8_readsForm 130 = .ok (.iconst 0, 1) := by decide +kernel
theorem dX8_readsForm_131 : decode cX8_readsForm 131 = .ok (.ireturn, 1) := by decide +kernel
theorem dX8_readsOrder_0 : decode cX8_readsOrder 0 = .ok (.aload_n 0, 1) := by decide +kernel
theorem dX8_readsOrder_1 : decode cX8_readsOrder 1 = .ok (.aload_n 0, 1) := by decide +kernel
theorem dX8_readsOrder_2 : decode cX8_readsOrder 2 = .ok (.invokevirtual 182, 3) := by decide +kernel
theorem dX8_readsOrder_5 : decode cX8_readsOrder 5 = .ok (.ifCond .eq 7, 3) := by decide +kernel
theorem dX8_readsOrder_8 : decode cX8_readsOrder 8 = .ok (.iconst 0, 1) := by decide +kernel
theorem dX8_readsOrder_9 : decode cX8_readsOrder 9 = .ok (.goto 4, 3) := by decide +kernel
theorem dX8_readsOrder_12 : decode cX8_readsOrder 12 = .ok (.iconst 1, 1) := by decide +kernel
theorem dX8_readsOrder_13 : decode cX8_readsOrder 13 = .ok (.putfield 185, 3) := by decide +kernel
theorem dX8_readsOrder_16 : decode cX8_readsOrder 16 = .ok (.aload_n 0, 1) := by decide +kernel
theorem dX8_readsOrder_17 : decode cX8_readsOrder 17 = .ok (.getfield 185, 3) := by decide +kernel
theorem dX8_readsOrder_20 : decode cX8_readsOrder 20 = .ok (.ifCond .ne 37, 3) := by decide +kernel
theorem dX8_readsOrder_23 : decode cX8_readsOrder 23 = .ok (.aload_n 0, 1) := by decide +kernel
theorem dX8_readsOrder_24 : decode cX8_readsOrder 24 = .ok (.getfield 172, 3) := by decide +kernel
theorem dX8_readsOrder_27 : decode cX8_readsOrder 27 = .ok (.bipush 111, 2) := by decide +kernel
theorem dX8_readsOrder_29 : decode cX8_readsOrder 29 = .ok (.if_icmp .eq 12, 3) := by decide +kernel
theorem dX8_readsOrder_32 : decode cX8_readsOrder 32 = .ok (.aload_n 0, 1) := by decide +kernel
theorem dX8_readsOrder_33 : decode cX8_readsOrder 33 = .ok (.getfield 172, 3) := by decide +kernel
theorem dX8_readsOrder_36 : decode cX8_readsOrder 36 = .ok (.bipush 99, 2) := by decide +kernel
theorem dX8_readsOrder_38 : decode cX8_readsOrder 38 = .ok (.if_icmp .ne 19, 3) := by decide +kernel
theorem dX8_readsOrder_41 : decode cX8_readsOrder 41 = .ok (.aload_n 0, 1) := by decide +kernel
theorem dX8_readsOrder_42 : decode cX8_readsOrder 42 = .ok (.aload_n 0, 1) := by decide +kernel
theorem dX8_readsOrder_43 : decode cX8_readsOrder 43 = .ok (.getfield 162, 3) := by decide +kernel
theorem dX8_readsOrder_46 : decode cX8_readsOrder 46 = .ok (.invokevirtual 138, 3) := by decide +kernel
theorem dX8_readsOrder_49 : decode cX8_readsOrder 49 = .ok (.ifCond .ne 8, 3) := by decide +kernel
theorem dX8_readsOrder_52 : decode cX8_readsOrder 52 = .ok (.aload_n 0, 1) := by decide +kernel
theorem dX8_readsOrder_53 : decode cX8_readsOrder 53 = .ok (.iconst 2, 1) := by decide +kernel
theorem dX8_readsOrder_54 : decode cX8_readsOrder 54 = .ok (.putfield 185, 3) := by decide +kernel
theorem dX8_readsOrder_57 : decode cX8_readsOrder 57 = .ok (.aload_n 0, 1) := by decide +kernel
theorem dX8_readsOrder_58 : decode cX8_readsOrder 58 = .ok (.getfield 185, 3) := by decide +kernel
theorem dX8_readsOrder_61 : decode cX8_readsOrder 61 = .ok (.ifCond .ne 7, 3) := by decide +kernel
theorem dX8_readsOrder_64 : decode cX8_readsOrder 64 = .ok (.iconst 1, 1) := by decide +kernel
theorem dX8_readsOrder_65 : decode cX8_readsOrder 65 = .ok (.goto 4, 3) := by decide +kernel
theorem dX8_readsOrder_68 : decode cX8_readsOrder 68 = .ok (.iconst 0, 1) := by decide +kernel
theorem dX8_readsOrder_69 : decode cX8_readsOrder 69 = .ok (.ireturn, 1) := by decide +kernel
theorem dX8_faulty_0 : decode cX8_faulty 0 = .ok (.aload_n 0, 1) := by decide +kernel
theorem dX8_faulty_1 : decode cX8_faulty 1 = .ok (.iconst 0, 1) := by decide +kernel
theorem dX8_faulty_2 : decode cX8_faulty 2 = .ok (.putfield 159, 3) := by decide +kernel
theorem dX8_faulty_5 : decode cX8_faulty 5 = .ok (.aload_n 0, 1) := by decide +kernel
theorem dX8_faulty_6 : decode cX8_faulty 6 = .ok (.getfield 159, 3) := by decide +kernel
theorem dX8_faulty_9 : decode cX8_faulty 9 = .ok (.aload_n 0, 1) := by decide +kernel
theorem dX8_faulty_10 : decode cX8_faulty 10 = .ok (.getfield 131, 3) := by decide +kernel
theorem dX8_faulty_13 : decode cX8_faulty 13 = .ok (.if_icmp .ge 20, 3) := by decide +kernel
theorem dX8_faulty_16 : decode cX8_faulty 16 = .ok (.aload_n 0, 1) := by decide +kernel
theorem dX8_faulty_17 : decode cX8_faulty 17 = .ok (.getfield 159, 3) := by decide +kernel
theorem dX8_faulty_20 : decode cX8_faulty 20 = .ok (.istore_n 1, 1) := by decide +kernel
theorem dX8_faulty_21 : decode cX8_faulty 21 = .ok (.aload_n 0, 1) := by decide +kernel
theorem dX8_faulty_22 : decode cX8_faulty 22 = .ok (.invokevirtual 188, 3) := by decide +kernel
theorem dX8_faulty_25 : decode cX8_faulty 25 = .ok (.ifCond .ne 5, 3) := by decide +kernel
theorem dX8_faulty_28 : decode cX8_faulty 28 = .ok (.iload_n 1, 1) := by decide +kernel
theorem dX8_faulty_29 : decode cX8_faulty 29 = .ok (.ireturn, 1) := by decide +kernel
theorem dX8_faulty_30 : decode cX8_faulty 30 = .ok (.goto (-25), 3) := by decide +kernel
theorem dX8_faulty_33 : decode cX8_faulty 33 = .ok (.sipush (-10004), 3) := by decide +kernel
theorem dX8_faulty_36 : decode cX8_faulty 36 = .ok (.ireturn, 1) := by decide +kernel
theorem dX8_fault_0 : decode cX8_fault 0 = .ok (.iload_n 1, 1) := by decide +kernel
theorem dX8_fault_1 : decode cX8_fault 1 = .ok (.iconst 0, 1) := by decide +kernel
theorem dX8_fault_2 : decode cX8_fault 2 = .ok (.iconst 1, 1) := by decide +kernel
theorem dX8_fault_3 : decode cX8_fault 3 = .ok (.invokestatic 32, 3) := by decide +kernel
theorem dX8_fault_6 : decode cX8_fault 6 = .ok (.ifCond .ne 7, 3) := by decide +kernel
theorem dX8_fault_9 : decode cX8_fault 9 = .ok (.sipush (-10001), 3) := by decide +kernel
theorem dX8_fault_12 : decode cX8_fault 12 = .ok (.ireturn, 1) := by decide +kernel
theorem dX8_fault_13 : decode cX8_fault 13 = .ok (.aload_n 0, 1) := by decide +kernel
theorem dX8_fault_14 : decode cX8_fault 14 = .ok (.invokevirtual 191, 3) := by decide +kernel
theorem dX8_fault_17 : decode cX8_fault 17 = .ok (.istore_n 2, 1) := by decide +kernel
theorem dX8_fault_18 : decode cX8_fault 18 = .ok (.iload_n 2, 1) := by decide +kernel
theorem dX8_fault_19 : decode cX8_fault 19 = .ok (.sipush (-10004), 3) := by decide +kernel
theorem dX8_fault_22 : decode cX8_fault 22 = .ok (.if_icmp .eq 7, 3) := by decide +kernel
theorem dX8_fault_25 : decode cX8_fault 25 = .ok (.iload_n 1, 1) := by decide +kernel
theorem dX8_fault_26 : decode cX8_fault 26 = .ok (.ifCond .ne 7, 3) := by decide +kernel
theorem dX8_fault_29 : decode cX8_fault 29 = .ok (.iload_n 2, 1) := by decide +kernel
theorem dX8_fault_30 : decode cX8_fault 30 = .ok (.goto 7, 3) := by decide +kernel
theorem dX8_fault_33 : decode cX8_fault 33 = .ok (.aload_n 0, 1) := by decide +kernel
theorem dX8_fault_34 : decode cX8_fault 34 = .ok (.getfield 185, 3) := by decide +kernel
theorem dX8_fault_37 : decode cX8_fault 37 = .ok (.ireturn, 1) := by decide +kernel
theorem dX8_carries_0 : decode cX8_carries 0 = .ok (.aload_n 0, 1) := by decide +kernel
theorem dX8_carries_1 : decode cX8_carries 1 = .ok (.getfield 172, 3) := by decide +kernel
theorem dX8_carries_4 : decode cX8_carries 4 = .ok (.bipush 111, 2) := by decide +kernel
theorem dX8_carries_6 : decode cX8_carries 6 = .ok (.if_icmp .eq 12, 3) := by decide +kernel
theorem dX8_carries_9 : decode cX8_carries 9 = .ok (.aload_n 0, 1) := by decide +kernel
theorem dX8_carries_10 : decode cX8_carries 10 = .ok (.getfield 172, 3) := by decide +kernel
theorem dX8_carries_13 : decode cX8_carries 13 = .ok (.bipush 99, 2) := by decide +kernel
theorem dX8_carries_15 : decode cX8_carries 15 = .ok (.if_icmp .ne 14, 3) := by decide +kernel
theorem dX8_carries_18 : decode cX8_carries 18 = .ok (.aload_n 0, 1) := by decide +kernel
theorem dX8_carries_19 : decode cX8_carries 19 = .ok (.aload_n 0, 1) := by decide +kernel
theorem dX8_carries_20 : decode cX8_carries 20 = .ok (.getfield 162, 3) := by decide +kernel
theorem dX8_carries_23 : decode cX8_carries 23 = .ok (.invokevirtual 144, 3) := by decide +kernel
theorem dX8_carries_26 : decode cX8_carries 26 = .ok (.goto 4, 3) := by decide +kernel
theorem dX8_carries_29 : decode cX8_carries 29 = .ok (.iconst (-1), 1) := by decide +kernel
theorem dX8_carries_30 : decode cX8_carries 30 = .ok (.istore_n 1, 1) := by decide +kernel
theorem dX8_carries_31 : decode cX8_carries 31 = .ok (.aload_n 0, 1) := by decide +kernel
theorem dX8_carries_32 : decode cX8_carries 32 = .ok (.getfield 172, 3) := by decide +kernel
theorem dX8_carries_35 : decode cX8_carries 35 = .ok (.lookupswitch 112 #[(99, 50), (111, 33), (118, 67)], 33) := by decide +kernel
theorem dX8_carries_68 : decode cX8_carries 68 = .ok (.iload_n 1, 1) := by decide +kernel
theorem dX8_carries_69 : decode cX8_carries 69 = .ok (.iconst (-1), 1) := by decide +kernel
theorem dX8_carries_70 : decode cX8_carries 70 = .ok (.if_icmp .eq 5, 3) := by decide +kernel
theorem dX8_carries_73 : decode cX8_carries 73 = .ok (.iconst 0, 1) := by decide +kernel
theorem dX8_carries_74 : decode cX8_carries 74 = .ok (.ireturn, 1) := by decide +kernel
theorem dX8_carries_75 : decode cX8_carries 75 = .ok (.aload_n 0, 1) := by decide +kernel
theorem dX8_carries_76 : decode cX8_carries 76 = .ok (.aload_n 0, 1) := by decide +kernel
theorem dX8_carries_77 : decode cX8_carries 77 = .ok (.getfield 162, 3) := by decide +kernel
theorem dX8_carries_80 : decode cX8_carries 80 = .ok (.invokevirtual 147, 3) := by decide +kernel
theorem dX8_carries_83 : decode cX8_carries 83 = .ok (.iconst 1, 1) := by decide +kernel
theorem dX8_carries_84 : decode cX8_carries 84 = .ok (.ireturn, 1) := by decide +kernel
theorem dX8_carries_85 : decode cX8_carries 85 = .ok (.iload_n 1, 1) := by decide +kernel
theorem dX8_carries_86 : decode cX8_carries 86 = .ok (.iconst (-1), 1) := by decide +kernel
theorem dX8_carries_87 : decode cX8_carries 87 = .ok (.if_icmp .ne 5, 3) := by decide +kernel
theorem dX8_carries_90 : decode cX8_carries 90 = .ok (.iconst 0, 1) := by decide +kernel
theorem dX8_carries_91 : decode cX8_carries 91 = .ok (.ireturn, 1) := by decide +kernel
theorem dX8_carries_92 : decode cX8_carries 92 = .ok (.aload_n 0, 1) := by decide +kernel
theorem dX8_carries_93 : decode cX8_carries 93 = .ok (.aload_n 0, 1) := by decide +kernel
theorem dX8_carries_94 : decode cX8_carries 94 = .ok (.getfield 162, 3) := by decide +kernel
theorem dX8_carries_97 : decode cX8_carries 97 = .ok (.invokevirtual 150, 3) := by decide +kernel
theorem dX8_carries_100 : decode cX8_carries 100 = .ok (.iconst 1, 1) := by decide +kernel
theorem dX8_carries_101 : decode cX8_carries 101 = .ok (.ireturn, 1) := by decide +kernel
theorem dX8_carries_102 : decode cX8_carries 102 = .ok (.aload_n 0, 1) := by decide +kernel
theorem dX8_carries_103 : decode cX8_carries 103 = .ok (.aload_n 0, 1) := by decide +kernel
theorem dX8_carries_104 : decode cX8_carries 104 = .ok (.getfield 179, 3) := by decide +kernel
theorem dX8_carries_107 : decode cX8_carries 107 = .ok (.aload_n 0, 1) := by decide +kernel
theorem dX8_carries_108 : decode cX8_carries 108 = .ok (.getfield 162, 3) := by decide +kernel
theorem dX8_carries_111 : decode cX8_carries 111 = .ok (.invokevirtual 122, 3) := by decide +kernel
theorem dX8_carries_114 : decode cX8_carries 114 = .ok (.ifCond .ne 5, 3) := by decide +kernel
theorem dX8_carries_117 : decode cX8_carries 117 = .ok (.iconst 0, 1) := by decide +kernel
theorem dX8_carries_118 : decode cX8_carries 118 = .ok (.ireturn, 1) := by decide +kernel
theorem dX8_carries_119 : decode cX8_carries 119 = .ok (.aload_n 0, 1) := by decide +kernel
theorem dX8_carries_120 : decode cX8_carries 120 = .ok (.getfield 7, 3) := by decide +kernel
theorem dX8_carries_123 : decode cX8_carries 123 = .ok (.iconst 0, 1) := by decide +kernel
theorem dX8_carries_124 : decode cX8_carries 124 = .ok (.dup2, 1) := by decide +kernel
theorem dX8_carries_125 : decode cX8_carries 125 = .ok (.iaload, 1) := by decide +kernel
theorem dX8_carries_126 : decode cX8_carries 126 = .ok (.aload_n 0, 1) := by decide +kernel
theorem dX8_carries_127 : decode cX8_carries 127 = .ok (.getfield 179, 3) := by decide +kernel
theorem dX8_carries_130 : decode cX8_carries 130 = .ok (.iadd, 1) := by decide +kernel
theorem dX8_carries_131 : decode cX8_carries 131 = .ok (.iastore, 1) := by decide +kernel
theorem dX8_carries_132 : decode cX8_carries 132 = .ok (.aload_n 0, 1) := by decide +kernel
theorem dX8_carries_133 : decode cX8_carries 133 = .ok (.getfield 7, 3) := by decide +kernel
theorem dX8_carries_136 : decode cX8_carries 136 = .ok (.iconst 1, 1) := by decide +kernel
theorem dX8_carries_137 : decode cX8_carries 137 = .ok (.dup2, 1) := by decide +kernel
theorem dX8_carries_138 : decode cX8_carries 138 = .ok (.iaload, 1) := by decide +kernel
theorem dX8_carries_139 : decode cX8_carries 139 = .ok (.aload_n 0, 1) := by decide +kernel
theorem dX8_carries_140 : decode cX8_carries 140 = .ok (.getfield 162, 3) := by decide +kernel
theorem dX8_carries_143 : decode cX8_carries 143 = .ok (.iadd, 1) := by decide +kernel
theorem dX8_carries_144 : decode cX8_carries 144 = .ok (.iastore, 1) := by decide +kernel
theorem dX8_carries_145 : decode cX8_carries 145 = .ok (.iconst 1, 1) := by decide +kernel
theorem dX8_carries_146 : decode cX8_carries 146 = .ok (.ireturn, 1) := by decide +kernel
theorem dX8_carries_147 : decode cX8_carries 147 = .ok (.aload_n 0, 1) := by decide +kernel
theorem dX8_carries_148 : decode cX8_carries 148 = .ok (.invokevirtual 153, 3) := by decide +kernel
theorem dX8_carries_151 : decode cX8_carries 151 = .ok (.pop, 1) := by decide +kernel
theorem dX8_carries_152 : decode cX8_carries 152 = .ok (.iconst 1, 1) := by decide +kernel
theorem dX8_carries_153 : decode cX8_carries 153 = .ok (.ireturn, 1) := by decide +kernel
theorem dX8_carry_0 : decode cX8_carry 0 = .ok (.aload_n 0, 1) := by decide +kernel
theorem dX8_carry_1 : decode cX8_carry 1 = .ok (.invokevirtual 191, 3) := by decide +kernel
theorem dX8_carry_4 : decode cX8_carry 4 = .ok (.sipush (-10004), 3) := by decide +kernel
theorem dX8_carry_7 : decode cX8_carry 7 = .ok (.if_icmp .eq 7, 3) := by decide +kernel
theorem dX8_carry_10 : decode cX8_carry 10 = .ok (.sipush (-10002), 3) := by decide +kernel
theorem dX8_carry_13 : decode cX8_carry 13 = .ok (.ireturn, 1) := by decide +kernel
theorem dX8_carry_14 : decode cX8_carry 14 = .ok (.aload_n 0, 1) := by decide +kernel
theorem dX8_carry_15 : decode cX8_carry 15 = .ok (.invokevirtual 115, 3) := by decide +kernel
theorem dX8_carry_18 : decode cX8_carry 18 = .ok (.iconst 0, 1) := by decide +kernel
theorem dX8_carry_19 : decode cX8_carry 19 = .ok (.istore_n 1, 1) := by decide +kernel
theorem dX8_carry_20 : decode cX8_carry 20 = .ok (.iconst 1, 1) := by decide +kernel
theorem dX8_carry_21 : decode cX8_carry 21 = .ok (.istore_n 2, 1) := by decide +kernel
theorem dX8_carry_22 : decode cX8_carry 22 = .ok (.aload_n 0, 1) := by decide +kernel
theorem dX8_carry_23 : decode cX8_carry 23 = .ok (.iconst 0, 1) := by decide +kernel
theorem dX8_carry_24 : decode cX8_carry 24 = .ok (.putfield 159, 3) := by decide +kernel
theorem dX8_carry_27 : decode cX8_carry 27 = .ok (.iload_n 2, 1) := by decide +kernel
theorem dX8_carry_28 : decode cX8_carry 28 = .ok (.ifCond .eq 39, 3) := by decide +kernel
theorem dX8_carry_31 : decode cX8_carry 31 = .ok (.aload_n 0, 1) := by decide +kernel
theorem dX8_carry_32 : decode cX8_carry 32 = .ok (.getfield 159, 3) := by decide +kernel
theorem dX8_carry_35 : decode cX8_carry 35 = .ok (.aload_n 0, 1) := by decide +kernel
theorem dX8_carry_36 : decode cX8_carry 36 = .ok (.getfield 131, 3) := by decide +kernel
theorem dX8_carry_39 : decode cX8_carry 39 = .ok (.if_icmp .ge 28, 3) := by decide +kernel
theorem dX8_carry_42 : decode cX8_carry 42 = .ok (.aload_n 0, 1) := by decide +kernel
theorem dX8_carry_43 : decode cX8_carry 43 = .ok (.invokevirtual 188, 3) := by decide +kernel
theorem dX8_carry_46 : decode cX8_carry 46 = .ok (.pop, 1) := by decide +kernel
theorem dX8_carry_47 : decode cX8_carry 47 = .ok (.aload_n 0, 1) := by decide +kernel
theorem dX8_carry_48 : decode cX8_carry 48 = .ok (.invokevirtual 194, 3) := by decide +kernel
theorem dX8_carry_51 : decode cX8_carry 51 = .ok (.istore_n 2, 1) := by decide +kernel
theorem dX8_carry_52 : decode cX8_carry 52 = .ok (.iload_n 1, 1) := by decide +kernel
theorem dX8_carry_53 : decode cX8_carry 53 = .ok (.iload_n 2, 1) := by decide +kernel
theorem dX8_carry_54 : decode cX8_carry 54 = .ok (.ifCond .eq 7, 3) := by decide +kernel
theorem dX8_carry_57 : decode cX8_carry 57 = .ok (.iconst 1, 1) := by decide +kernel
theorem dX8_carry_58 : decode cX8_carry 58 = .ok (.goto 4, 3) := by decide +kernel
theorem dX8_carry_61 : decode cX8_carry 61 = .ok (.iconst 0, 1) := by decide +kernel
theorem dX8_carry_62 : decode cX8_carry 62 = .ok (.iadd, 1) := by decide +kernel
theorem dX8_carry_63 : decode cX8_carry 63 = .ok (.istore_n 1, 1) := by decide +kernel
theorem dX8_carry_64 : decode cX8_carry 64 = .ok (.goto (-37), 3) := by decide +kernel
theorem dX8_carry_67 : decode cX8_carry 67 = .ok (.iload_n 1, 1) := by decide +kernel
theorem dX8_carry_68 : decode cX8_carry 68 = .ok (.ireturn, 1) := by decide +kernel
end
section
theorem dL_law_0 : decode cL_law 0 = .ok (.new 7, 3) := by decide +kernel
theorem dL_law_3 : decode cL_law 3 = .ok (.dup, 1) := by decide +kernel
theorem dL_law_4 : decode cL_law 4 = .ok (.invokespecial 9, 3) := by decide +kernel
theorem dL_law_7 : decode cL_law 7 = .ok (.astore_n 1, 1) := by decide +kernel
theorem dL_law_8 : decode cL_law 8 = .ok (.new 10, 3) := by decide +kernel
theorem dL_law_11 : decode cL_law 11 = .ok (.dup, 1) := by decide +kernel
theorem dL_law_12 : decode cL_law 12 = .ok (.invokespecial 12, 3) := by decide +kernel
theorem dL_law_15 : decode cL_law 15 = .ok (.astore_n 2, 1) := by decide +kernel
theorem dL_law_16 : decode cL_law 16 = .ok (.iconst 0, 1) := by decide +kernel
theorem dL_law_17 : decode cL_law 17 = .ok (.istore_n 3, 1) := by decide +kernel
theorem dL_law_18 : decode cL_law 18 = .ok (.iload_n 3, 1) := by decide +kernel
theorem dL_law_19 : decode cL_law 19 = .ok (.aload_n 0, 1) := by decide +kernel
theorem dL_law_20 : decode cL_law 20 = .ok (.arraylength, 1) := by decide +kernel
theorem dL_law_21 : decode cL_law 21 = .ok (.bipush 6, 2) := by decide +kernel
theorem dL_law_23 : decode cL_law 23 = .ok (.isub, 1) := by decide +kernel
theorem dL_law_24 : decode cL_law 24 = .ok (.if_icmp .gt 794, 3) := by decide +kernel
theorem dL_law_27 : decode cL_law 27 = .ok (.aload_n 0, 1) := by decide +kernel
theorem dL_law_28 : decode cL_law 28 = .ok (.iload_n 3, 1) := by decide +kernel
theorem dL_law_29 : decode cL_law 29 = .ok (.iaload, 1) := by decide +kernel
theorem dL_law_30 : decode cL_law 30 = .ok (.bipush 31, 2) := by decide +kernel
theorem dL_law_32 : decode cL_law 32 = .ok (.iand, 1) := by decide +kernel
theorem dL_law_33 : decode cL_law 33 = .ok (.tableswitch 779 0 21 #[103, 136, 169, 222, 265, 298, 331, 354, 417, 460, 483, 506, 519, 552, 585, 628, 661, 694, 707, 730, 743, 766], 103) := by decide +kernel
theorem dL_law_136 : decode cL_law 136 = .ok (.aload_n 1, 1) := by decide +kernel
theorem dL_law_137 : decode cL_law 137 = .ok (.aload_n 0, 1) := by decide +kernel
theorem dL_law_138 : decode cL_law 138 = .ok (.iload_n 3, 1) := by decide +kernel
theorem dL_law_139 : decode cL_law 139 = .ok (.iconst 1, 1) := by decide +kernel
theorem dL_law_140 : decode cL_law 140 = .ok (.iadd, 1) := by decide +kernel
theorem dL_law_141 : decode cL_law 141 = .ok (.iaload, 1) := by decide +kernel
theorem dL_law_142 : decode cL_law 142 = .ok (.aload_n 0, 1) := by decide +kernel
theorem dL_law_143 : decode cL_law 143 = .ok (.iload_n 3, 1) := by decide +kernel
theorem dL_law_144 : decode cL_law 144 = .ok (.iconst 2, 1) := by decide +kernel
theorem dL_law_145 : decode cL_law 145 = .ok (.iadd, 1) := by decide +kernel
theorem dL_law_146 : decode cL_law 146 = .ok (.iaload, 1) := by decide +kernel
theorem dL_law_147 : decode cL_law 147 = .ok (.invokevirtual 13, 3) := by decide +kernel
theorem dL_law_150 : decode cL_law 150 = .ok (.aload_n 2, 1) := by decide +kernel
theorem dL_law_151 : decode cL_law 151 = .ok (.aload_n 0, 1) := by decide +kernel
theorem dL_law_152 : decode cL_law 152 = .ok (.iload_n 3, 1) := by decide +kernel
theorem dL_law_153 : decode cL_law 153 = .ok (.iconst 1, 1) := by decide +kernel
theorem dL_law_154 : decode cL_law 154 = .ok (.iadd, 1) := by decide +kernel
theorem dL_law_155 : decode cL_law 155 = .ok (.iaload, 1) := by decide +kernel
theorem dL_law_156 : decode cL_law 156 = .ok (.aload_n 0, 1) := by decide +kernel
theorem dL_law_157 : decode cL_law 157 = .ok (.iload_n 3, 1) := by decide +kernel
theorem dL_law_158 : decode cL_law 158 = .ok (.iconst 2, 1) := by decide +kernel
theorem dL_law_159 : decode cL_law 159 = .ok (.iadd, 1) := by decide +kernel
theorem dL_law_160 : decode cL_law 160 = .ok (.iaload, 1) := by decide +kernel
theorem dL_law_161 : decode cL_law 161 = .ok (.invokevirtual 17, 3) := by decide +kernel
theorem dL_law_164 : decode cL_law 164 = .ok (.if_icmp .eq 648, 3) := by decide +kernel
theorem dL_law_167 : decode cL_law 167 = .ok (.iconst 0, 1) := by decide +kernel
theorem dL_law_168 : decode cL_law 168 = .ok (.ireturn, 1) := by decide +kernel
theorem dL_law_169 : decode cL_law 169 = .ok (.aload_n 1, 1) := by decide +kernel
theorem dL_law_170 : decode cL_law 170 = .ok (.aload_n 0, 1) := by decide +kernel
theorem dL_law_171 : decode cL_law 171 = .ok (.iload_n 3, 1) := by decide +kernel
theorem dL_law_172 : decode cL_law 172 = .ok (.iconst 1, 1) := by decide +kernel
theorem dL_law_173 : decode cL_law 173 = .ok (.iadd, 1) := by decide +kernel
theorem dL_law_174 : decode cL_law 174 = .ok (.iaload, 1) := by decide +kernel
theorem dL_law_175 : decode cL_law 175 = .ok (.aload_n 0, 1) := by decide +kernel
theorem dL_law_176 : decode cL_law 176 = .ok (.iload_n 3, 1) := by decide +kernel
theorem dL_law_177 : decode cL_law 177 = .ok (.iconst 2, 1) := by decide +kernel
theorem dL_law_178 : decode cL_law 178 = .ok (.iadd, 1) := by decide +kernel
theorem dL_law_179 : decode cL_law 179 = .ok (.iaload, 1) := by decide +kernel
theorem dL_law_180 : decode cL_law 180 = .ok (.invokevirtual 18, 3) := by decide +kernel
theorem dL_law_183 : decode cL_law 183 = .ok (.aload_n 2, 1) := by decide +kernel
theorem dL_law_184 : decode cL_law 184 = .ok (.aload_n 0, 1) := by decide +kernel
theorem dL_law_185 : decode cL_law 185 = .ok (.iload_n 3, 1) := by decide +kernel
theorem dL_law_186 : decode cL_law 186 = .ok (.iconst 1, 1) := by decide +kernel
theorem dL_law_187 : decode cL_law 187 = .ok (.iadd, 1) := by decide +kernel
theorem dL_law_188 : decode cL_law 188 = .ok (.iaload, 1) := by decide +kernel
theorem dL_law_189 : decode cL_law 189 = .ok (.aload_n 0, 1) := by decide +kernel
theorem dL_law_190 : decode cL_law 190 = .ok (.iload_n 3, 1) := by decide +kernel
theorem dL_law_191 : decode cL_law 191 = .ok (.iconst 2, 1) := by decide +kernel
theorem dL_law_192 : decode cL_law 192 = .ok (.iadd, 1) := by decide +kernel
theorem dL_law_193 : decode cL_law 193 = .ok (.iaload, 1) := by decide +kernel
theorem dL_law_194 : decode cL_law 194 = .ok (.invokevirtual 21, 3) := by decide +kernel
theorem dL_law_197 : decode cL_law 197 = .ok (.if_icmp .eq 615, 3) := by decide +kernel
theorem dL_law_200 : decode cL_law 200 = .ok (.iconst 0, 1) := by decide +kernel
theorem dL_law_201 : decode cL_law 201 = .ok (.ireturn, 1) := by decide +kernel
theorem dL_law_202 : decode cL_law 202 = .ok (.aload_n 1, 1) := by decide +kernel
theorem dL_law_203 : decode cL_law 203 = .ok (.aload_n 0, 1) := by decide +kernel
theorem dL_law_204 : decode cL_law 204 = .ok (.iload_n 3, 1) := by decide +kernel
theorem dL_law_205 : decode cL_law 205 = .ok (.iconst 1, 1) := by decide +kernel
theorem dL_law_206 : decode cL_law 206 = .ok (.iadd, 1) := by decide +kernel
theorem dL_law_207 : decode cL_law 207 = .ok (.iaload, 1) := by decide +kernel
theorem dL_law_208 : decode cL_law 208 = .ok (.aload_n 0, 1) := by decide +kernel
theorem dL_law_209 : decode cL_law 209 = .ok (.iload_n 3, 1) := by decide +kernel
theorem dL_law_210 : decode cL_law 210 = .ok (.iconst 2, 1) := by decide +kernel
theorem dL_law_211 : decode cL_law 211 = .ok (.iadd, 1) := by decide +kernel
theorem dL_law_212 : decode cL_law 212 = .ok (.iaload, 1) := by decide +kernel
theorem dL_law_213 : decode cL_law 213 = .ok (.aload_n 0, 1) := by decide +kernel
theorem dL_law_214 : decode cL_law 214 = .ok (.iload_n 3, 1) := by decide +kernel
theorem dL_law_215 : decode cL_law 215 = .ok (.iconst 3, 1) := by decide +kernel
theorem dL_law_216 : decode cL_law 216 = .ok (.iadd, 1) := by decide +kernel
theorem dL_law_217 : decode cL_law 217 = .ok (.iaload, 1) := by decide +kernel
theorem dL_law_218 : decode cL_law 218 = .ok (.aload_n 0, 1) := by decide +kernel
theorem dL_law_219 : decode cL_law 219 = .ok (.iload_n 3, 1) := by decide +kernel
theorem dL_law_220 : decode cL_law 220 = .ok (.iconst 4, 1) := by decide +kernel
theorem dL_law_221 : decode cL_law 221 = .ok (.iadd, 1) := by decide +kernel
theorem dL_law_222 : decode cL_law 222 = .ok (.iaload, 1) := by decide +kernel
theorem dL_law_223 : decode cL_law 223 = .ok (.invokevirtual 22, 3) := by decide +kernel
theorem dL_law_226 : decode cL_law 226 = .ok (.aload_n 2, 1) := by decide +kernel
theorem dL_law_227 : decode cL_law 227 = .ok (.aload_n 0, 1) := by decide +kernel
theorem dL_law_228 : decode cL_law 228 = .ok (.iload_n 3, 1) := by decide +kernel
theorem dL_law_229 : decode cL_law 229 = .ok (.iconst 1, 1) := by decide +kernel
theorem dL_law_230 : decode cL_law 230 = .ok (.iadd, 1) := by decide +kernel
theorem dL_law_231 : decode cL_law 231 = .ok (.iaload, 1) := by decide +kernel
theorem dL_law_232 : decode cL_law 232 = .ok (.aload_n 0, 1) := by decide +kernel
theorem dL_law_233 : decode cL_law 233 = .ok (.iload_n 3, 1) := by decide +kernel
theorem dL_law_234 : decode cL_law 234 = .ok (.iconst 2, 1) := by decide +kernel
theorem dL_law_235 : decode cL_law 235 = .ok (.iadd, 1) := by decide +kernel
theorem dL_law_236 : decode cL_law 236 = .ok (.iaload, 1) := by decide +kernel
theorem dL_law_237 : decode cL_law 237 = .ok (.aload_n 0, 1) := by decide +kernel
theorem dL_law_238 : decode cL_law 238 = .ok (.iload_n 3, 1) := by decide +kernel
theorem dL_law_239 : decode cL_law 239 = .ok (.iconst 3, 1) := by decide +kernel
theorem dL_law_240 : decode cL_law 240 = .ok (.iadd, 1) := by decide +kernel
theorem dL_law_241 : decode cL_law 241 = .ok (.iaload, 1) := by decide +kernel
theorem dL_law_242 : decode cL_law 242 = .ok (.aload_n 0, 1) := by decide +kernel
theorem dL_law_243 : decode cL_law 243 = .ok (.iload_n 3, 1) := by decide +kernel
theorem dL_law_244 : decode cL_law 244 = .ok (.iconst 4, 1) := by decide +kernel
theorem dL_law_245 : decode cL_law 245 = .ok (.iadd, 1) := by decide +kernel
theorem dL_law_246 : decode cL_law 246 = .ok (.iaload, 1) := by decide +kernel
theorem dL_law_247 : decode cL_law 247 = .ok (.invokevirtual 26, 3) := by decide +kernel
theorem dL_law_250 : decode cL_law 250 = .ok (.if_icmp .eq 562, 3) := by decide +kernel
theorem dL_law_253 : decode cL_law 253 = .ok (.iconst 0, 1) := by decide +kernel
theorem dL_law_254 : decode cL_law 254 = .ok (.ireturn, 1) := by decide +kernel
theorem dL_law_255 : decode cL_law 255 = .ok (.aload_n 1, 1) := by decide +kernel
theorem dL_law_256 : decode cL_law 256 = .ok (.aload_n 0, 1) := by decide +kernel
theorem dL_law_257 : decode cL_law 257 = .ok (.iload_n 3, 1) := by decide +kernel
theorem dL_law_258 : decode cL_law 258 = .ok (.iconst 1, 1) := by decide +kernel
theorem dL_law_259 : decode cL_law 259 = .ok (.iadd, 1) := by decide +kernel
theorem dL_law_260 : decode cL_law 260 = .ok (.iaload, 1) := by decide +kernel
theorem dL_law_261 : decode cL_law 261 = .ok (.aload_n 0, 1) := by decide +kernel
theorem dL_law_262 : decode cL_law 262 = .ok (.iload_n 3, 1) := by decide +kernel
theorem dL_law_263 : decode cL_law 263 = .ok (.iconst 2, 1) := by decide +kernel
theorem dL_law_264 : decode cL_law 264 = .ok (.iadd, 1) := by decide +kernel
theorem dL_law_265 : decode cL_law 265 = .ok (.iaload, 1) := by decide +kernel
theorem dL_law_266 : decode cL_law 266 = .ok (.aload_n 0, 1) := by decide +kernel
theorem dL_law_267 : decode cL_law 267 = .ok (.iload_n 3, 1) := by decide +kernel
theorem dL_law_268 : decode cL_law 268 = .ok (.iconst 3, 1) := by decide +kernel
theorem dL_law_269 : decode cL_law 269 = .ok (.iadd, 1) := by decide +kernel
theorem dL_law_270 : decode cL_law 270 = .ok (.iaload, 1) := by decide +kernel
theorem dL_law_271 : decode cL_law 271 = .ok (.invokevirtual 27, 3) := by decide +kernel
theorem dL_law_274 : decode cL_law 274 = .ok (.aload_n 2, 1) := by decide +kernel
theorem dL_law_275 : decode cL_law 275 = .ok (.aload_n 0, 1) := by decide +kernel
theorem dL_law_276 : decode cL_law 276 = .ok (.iload_n 3, 1) := by decide +kernel
theorem dL_law_277 : decode cL_law 277 = .ok (.iconst 1, 1) := by decide +kernel
theorem dL_law_278 : decode cL_law 278 = .ok (.iadd, 1) := by decide +kernel
theorem dL_law_279 : decode cL_law 279 = .ok (.iaload, 1) := by decide +kernel
theorem dL_law_280 : decode cL_law 280 = .ok (.aload_n 0, 1) := by decide +kernel
theorem dL_law_281 : decode cL_law 281 = .ok (.iload_n 3, 1) := by decide +kernel
theorem dL_law_282 : decode cL_law 282 = .ok (.iconst 2, 1) := by decide +kernel
theorem dL_law_283 : decode cL_law 283 = .ok (.iadd, 1) := by decide +kernel
theorem dL_law_284 : decode cL_law 284 = .ok (.iaload, 1) := by decide +kernel
theorem dL_law_285 : decode cL_law 285 = .ok (.aload_n 0, 1) := by decide +kernel
theorem dL_law_286 : decode cL_law 286 = .ok (.iload_n 3, 1) := by decide +kernel
theorem dL_law_287 : decode cL_law 287 = .ok (.iconst 3, 1) := by decide +kernel
theorem dL_law_288 : decode cL_law 288 = .ok (.iadd, 1) := by decide +kernel
theorem dL_law_289 : decode cL_law 289 = .ok (.iaload, 1) := by decide +kernel
theorem dL_law_290 : decode cL_law 290 = .ok (.invokevirtual 31, 3) := by decide +kernel
theorem dL_law_293 : decode cL_law 293 = .ok (.if_icmp .eq 519, 3) := by decide +kernel
theorem dL_law_296 : decode cL_law 296 = .ok (.iconst 0, 1) := by decide +kernel
theorem dL_law_297 : decode cL_law 297 = .ok (.ireturn, 1) := by decide +kernel
theorem dL_law_298 : decode cL_law 298 = .ok (.aload_n 1, 1) := by decide +kernel
theorem dL_law_299 : decode cL_law 299 = .ok (.aload_n 0, 1) := by decide +kernel
theorem dL_law_300 : decode cL_law 300 = .ok (.iload_n 3, 1) := by decide +kernel
theorem dL_law_301 : decode cL_law 301 = .ok (.iconst 1, 1) := by decide +kernel
theorem dL_law_302 : decode cL_law 302 = .ok (.iadd, 1) := by decide +kernel
theorem dL_law_303 : decode cL_law 303 = .ok (.iaload, 1) := by decide +kernel
theorem dL_law_304 : decode cL_law 304 = .ok (.aload_n 0, 1) := by decide +kernel
theorem dL_law_305 : decode cL_law 305 = .ok (.iload_n 3, 1) := by decide +kernel
theorem dL_law_306 : decode cL_law 306 = .ok (.iconst 2, 1) := by decide +kernel
theorem dL_law_307 : decode cL_law 307 = .ok (.iadd, 1) := by decide +kernel
theorem dL_law_308 : decode cL_law 308 = .ok (.iaload, 1) := by decide +kernel
theorem dL_law_309 : decode cL_law 309 = .ok (.invokevirtual 32, 3) := by decide +kernel
theorem dL_law_312 : decode cL_law 312 = .ok (.aload_n 2, 1) := by decide +kernel
theorem dL_law_313 : decode cL_law 313 = .ok (.aload_n 0, 1) := by decide +kernel
theorem dL_law_314 : decode cL_law 314 = .ok (.iload_n 3, 1) := by decide +kernel
theorem dL_law_315 : decode cL_law 315 = .ok (.iconst 1, 1) := by decide +kernel
theorem dL_law_316 : decode cL_law 316 = .ok (.iadd, 1) := by decide +kernel
theorem dL_law_317 : decode cL_law 317 = .ok (.iaload, 1) := by decide +kernel
theorem dL_law_318 : decode cL_law 318 = .ok (.aload_n 0, 1) := by decide +kernel
theorem dL_law_319 : decode cL_law 319 = .ok (.iload_n 3, 1) := by decide +kernel
theorem dL_law_320 : decode cL_law 320 = .ok (.iconst 2, 1) := by decide +kernel
theorem dL_law_321 : decode cL_law 321 = .ok (.iadd, 1) := by decide +kernel
theorem dL_law_322 : decode cL_law 322 = .ok (.iaload, 1) := by decide +kernel
theorem dL_law_323 : decode cL_law 323 = .ok (.invokevirtual 35, 3) := by decide +kernel
theorem dL_law_326 : decode cL_law 326 = .ok (.if_icmp .eq 486, 3) := by decide +kernel
theorem dL_law_329 : decode cL_law 329 = .ok (.iconst 0, 1) := by decide +kernel
theorem dL_law_330 : decode cL_law 330 = .ok (.ireturn, 1) := by decide +kernel
theorem dL_law_331 : decode cL_law 331 = .ok (.aload_n 1, 1) := by decide +kernel
theorem dL_law_332 : decode cL_law 332 = .ok (.aload_n 0, 1) := by decide +kernel
theorem dL_law_333 : decode cL_law 333 = .ok (.iload_n 3, 1) := by decide +kernel
theorem dL_law_334 : decode cL_law 334 = .ok (.iconst 1, 1) := by decide +kernel
theorem dL_law_335 : decode cL_law 335 = .ok (.iadd, 1) := by decide +kernel
theorem dL_law_336 : decode cL_law 336 = .ok (.iaload, 1) := by decide +kernel
theorem dL_law_337 : decode cL_law 337 = .ok (.aload_n 0, 1) := by decide +kernel
theorem dL_law_338 : decode cL_law 338 = .ok (.iload_n 3, 1) := by decide +kernel
theorem dL_law_339 : decode cL_law 339 = .ok (.iconst 2, 1) := by decide +kernel
theorem dL_law_340 : decode cL_law 340 = .ok (.iadd, 1) := by decide +kernel
theorem dL_law_341 : decode cL_law 341 = .ok (.iaload, 1) := by decide +kernel
theorem dL_law_342 : decode cL_law 342 = .ok (.invokevirtual 36, 3) := by decide +kernel
theorem dL_law_345 : decode cL_law 345 = .ok (.aload_n 2, 1) := by decide +kernel
theorem dL_law_346 : decode cL_law 346 = .ok (.aload_n 0, 1) := by decide +kernel
theorem dL_law_347 : decode cL_law 347 = .ok (.iload_n 3, 1) := by decide +kernel
theorem dL_law_348 : decode cL_law 348 = .ok (.iconst 1, 1) := by decide +kernel
theorem dL_law_349 : decode cL_law 349 = .ok (.iadd, 1) := by decide +kernel
theorem dL_law_350 : decode cL_law 350 = .ok (.iaload, 1) := by decide +kernel
theorem dL_law_351 : decode cL_law 351 = .ok (.aload_n 0, 1) := by decide +kernel
theorem dL_law_352 : decode cL_law 352 = .ok (.iload_n 3, 1) := by decide +kernel
theorem dL_law_353 : decode cL_law 353 = .ok (.iconst 2, 1) := by decide +kernel
theorem dL_law_354 : decode cL_law 354 = .ok (.iadd, 1) := by decide +kernel
theorem dL_law_355 : decode cL_law 355 = .ok (.iaload, 1) := by decide +kernel
theorem dL_law_356 : decode cL_law 356 = .ok (.invokevirtual 39, 3) := by decide +kernel
theorem dL_law_359 : decode cL_law 359 = .ok (.if_icmp .eq 453, 3) := by decide +kernel
theorem dL_law_362 : decode cL_law 362 = .ok (.iconst 0, 1) := by decide +kernel
theorem dL_law_363 : decode cL_law 363 = .ok (.ireturn, 1) := by decide +kernel
theorem dL_law_364 : decode cL_law 364 = .ok (.aload_n 1, 1) := by decide +kernel
theorem dL_law_365 : decode cL_law 365 = .ok (.aload_n 0, 1) := by decide +kernel
theorem dL_law_366 : decode cL_law 366 = .ok (.iload_n 3, 1) := by decide +kernel
theorem dL_law_367 : decode cL_law 367 = .ok (.iconst 1, 1) := by decide +kernel
theorem dL_law_368 : decode cL_law 368 = .ok (.iadd, 1) := by decide +kernel
theorem dL_law_369 : decode cL_law 369 = .ok (.iaload, 1) := by decide +kernel
theorem dL_law_370 : decode cL_law 370 = .ok (.invokevirtual 40, 3) := by decide +kernel
theorem dL_law_373 : decode cL_law 373 = .ok (.aload_n 2, 1) := by decide +kernel
theorem dL_law_374 : decode cL_law 374 = .ok (.aload_n 0, 1) := by decide +kernel
theorem dL_law_375 : decode cL_law 375 = .ok (.iload_n 3, 1) := by decide +kernel
theorem dL_law_376 : decode cL_law 376 = .ok (.iconst 1, 1) := by decide +kernel
theorem dL_law_377 : decode cL_law 377 = .ok (.iadd, 1) := by decide +kernel
theorem dL_law_378 : decode cL_law 378 = .ok (.iaload, 1) := by decide +kernel
theorem dL_law_379 : decode cL_law 379 = .ok (.invokevirtual 44, 3) := by decide +kernel
theorem dL_law_382 : decode cL_law 382 = .ok (.if_icmp .eq 430, 3) := by decide +kernel
theorem dL_law_385 : decode cL_law 385 = .ok (.iconst 0, 1) := by decide +kernel
theorem dL_law_386 : decode cL_law 386 = .ok (.ireturn, 1) := by decide +kernel
theorem dL_law_387 : decode cL_law 387 = .ok (.aload_n 1, 1) := by decide +kernel
theorem dL_law_388 : decode cL_law 388 = .ok (.aload_n 0, 1) := by decide +kernel
theorem dL_law_389 : decode cL_law 389 = .ok (.iload_n 3, 1) := by decide +kernel
theorem dL_law_390 : decode cL_law 390 = .ok (.iconst 1, 1) := by decide +kernel
theorem dL_law_391 : decode cL_law 391 = .ok (.iadd, 1) := by decide +kernel
theorem dL_law_392 : decode cL_law 392 = .ok (.iaload, 1) := by decide +kernel
theorem dL_law_393 : decode cL_law 393 = .ok (.aload_n 0, 1) := by decide +kernel
theorem dL_law_394 : decode cL_law 394 = .ok (.iload_n 3, 1) := by decide +kernel
theorem dL_law_395 : decode cL_law 395 = .ok (.iconst 2, 1) := by decide +kernel
theorem dL_law_396 : decode cL_law 396 = .ok (.iadd, 1) := by decide +kernel
theorem dL_law_397 : decode cL_law 397 = .ok (.iaload, 1) := by decide +kernel
theorem dL_law_398 : decode cL_law 398 = .ok (.aload_n 0, 1) := by decide +kernel
theorem dL_law_399 : decode cL_law 399 = .ok (.iload_n 3, 1) := by decide +kernel
theorem dL_law_400 : decode cL_law 400 = .ok (.iconst 3, 1) := by decide +kernel
theorem dL_law_401 : decode cL_law 401 = .ok (.iadd, 1) := by decide +kernel
theorem dL_law_402 : decode cL_law 402 = .ok (.iaload, 1) := by decide +kernel
theorem dL_law_403 : decode cL_law 403 = .ok (.aload_n 0, 1) := by decide +kernel
theorem dL_law_404 : decode cL_law 404 = .ok (.iload_n 3, 1) := by decide +kernel
theorem dL_law_405 : decode cL_law 405 = .ok (.iconst 4, 1) := by decide +kernel
theorem dL_law_406 : decode cL_law 406 = .ok (.iadd, 1) := by decide +kernel
theorem dL_law_407 : decode cL_law 407 = .ok (.iaload, 1) := by decide +kernel
theorem dL_law_408 : decode cL_law 408 = .ok (.aload_n 0, 1) := by decide +kernel
theorem dL_law_409 : decode cL_law 409 = .ok (.iload_n 3, 1) := by decide +kernel
theorem dL_law_410 : decode cL_law 410 = .ok (.iconst 5, 1) := by decide +kernel
theorem dL_law_411 : decode cL_law 411 = .ok (.iadd, 1) := by decide +kernel
theorem dL_law_412 : decode cL_law 412 = .ok (.iaload, 1) := by decide +kernel
theorem dL_law_413 : decode cL_law 413 = .ok (.invokevirtual 45, 3) := by decide +kernel
theorem dL_law_416 : decode cL_law 416 = .ok (.aload_n 2, 1) := by decide +kernel
theorem dL_law_417 : decode cL_law 417 = .ok (.aload_n 0, 1) := by decide +kernel
theorem dL_law_418 : decode cL_law 418 = .ok (.iload_n 3, 1) := by decide +kernel
theorem dL_law_419 : decode cL_law 419 = .ok (.iconst 1, 1) := by decide +kernel
theorem dL_law_420 : decode cL_law 420 = .ok (.iadd, 1) := by decide +kernel
theorem dL_law_421 : decode cL_law 421 = .ok (.iaload, 1) := by decide +kernel
theorem dL_law_422 : decode cL_law 422 = .ok (.aload_n 0, 1) := by decide +kernel
theorem dL_law_423 : decode cL_law 423 = .ok (.iload_n 3, 1) := by decide +kernel
theorem dL_law_424 : decode cL_law 424 = .ok (.iconst 2, 1) := by decide +kernel
theorem dL_law_425 : decode cL_law 425 = .ok (.iadd, 1) := by decide +kernel
theorem dL_law_426 : decode cL_law 426 = .ok (.iaload, 1) := by decide +kernel
theorem dL_law_427 : decode cL_law 427 = .ok (.aload_n 0, 1) := by decide +kernel
theorem dL_law_428 : decode cL_law 428 = .ok (.iload_n 3, 1) := by decide +kernel
theorem dL_law_429 : decode cL_law 429 = .ok (.iconst 3, 1) := by decide +kernel
theorem dL_law_430 : decode cL_law 430 = .ok (.iadd, 1) := by decide +kernel
theorem dL_law_431 : decode cL_law 431 = .ok (.iaload, 1) := by decide +kernel
theorem dL_law_432 : decode cL_law 432 = .ok (.aload_n 0, 1) := by decide +kernel
theorem dL_law_433 : decode cL_law 433 = .ok (.iload_n 3, 1) := by decide +kernel
theorem dL_law_434 : decode cL_law 434 = .ok (.iconst 4, 1) := by decide +kernel
theorem dL_law_435 : decode cL_law 435 = .ok (.iadd, 1) := by decide +kernel
theorem dL_law_436 : decode cL_law 436 = .ok (.iaload, 1) := by decide +kernel
theorem dL_law_437 : decode cL_law 437 = .ok (.aload_n 0, 1) := by decide +kernel
theorem dL_law_438 : decode cL_law 438 = .ok (.iload_n 3, 1) := by decide +kernel
theorem dL_law_439 : decode cL_law 439 = .ok (.iconst 5, 1) := by decide +kernel
theorem dL_law_440 : decode cL_law 440 = .ok (.iadd, 1) := by decide +kernel
theorem dL_law_441 : decode cL_law 441 = .ok (.iaload, 1) := by decide +kernel
theorem dL_law_442 : decode cL_law 442 = .ok (.invokevirtual 49, 3) := by decide +kernel
theorem dL_law_445 : decode cL_law 445 = .ok (.if_icmp .eq 367, 3) := by decide +kernel
theorem dL_law_448 : decode cL_law 448 = .ok (.iconst 0, 1) := by decide +kernel
theorem dL_law_449 : decode cL_law 449 = .ok (.ireturn, 1) := by decide +kernel
theorem dL_law_450 : decode cL_law 450 = .ok (.aload_n 1, 1) := by decide +kernel
theorem dL_law_451 : decode cL_law 451 = .ok (.aload_n 0, 1) := by decide +kernel
theorem dL_law_452 : decode cL_law 452 = .ok (.iload_n 3, 1) := by decide +kernel
theorem dL_law_453 : decode cL_law 453 = .ok (.iconst 1, 1) := by decide +kernel
theorem dL_law_454 : decode cL_law 454 = .ok (.iadd, 1) := by decide +kernel
theorem dL_law_455 : decode cL_law 455 = .ok (.iaload, 1) := by decide +kernel
theorem dL_law_456 : decode cL_law 456 = .ok (.aload_n 0, 1) := by decide +kernel
theorem dL_law_457 : decode cL_law 457 = .ok (.iload_n 3, 1) := by decide +kernel
theorem dL_law_458 : decode cL_law 458 = .ok (.iconst 2, 1) := by decide +kernel
theorem dL_law_459 : decode cL_law 459 = .ok (.iadd, 1) := by decide +kernel
theorem dL_law_460 : decode cL_law 460 = .ok (.iaload, 1) := by decide +kernel
theorem dL_law_461 : decode cL_law 461 = .ok (.aload_n 0, 1) := by decide +kernel
theorem dL_law_462 : decode cL_law 462 = .ok (.iload_n 3, 1) := by decide +kernel
theorem dL_law_463 : decode cL_law 463 = .ok (.iconst 3, 1) := by decide +kernel
theorem dL_law_464 : decode cL_law 464 = .ok (.iadd, 1) := by decide +kernel
theorem dL_law_465 : decode cL_law 465 = .ok (.iaload, 1) := by decide +kernel
theorem dL_law_466 : decode cL_law 466 = .ok (.invokevirtual 50, 3) := by decide +kernel
theorem dL_law_469 : decode cL_law 469 = .ok (.aload_n 2, 1) := by decide +kernel
theorem dL_law_470 : decode cL_law 470 = .ok (.aload_n 0, 1) := by decide +kernel
theorem dL_law_471 : decode cL_law 471 = .ok (.iload_n 3, 1) := by decide +kernel
theorem dL_law_472 : decode cL_law 472 = .ok (.iconst 1, 1) := by decide +kernel
theorem dL_law_473 : decode cL_law 473 = .ok (.iadd, 1) := by decide +kernel
theorem dL_law_474 : decode cL_law 474 = .ok (.iaload, 1) := by decide +kernel
theorem dL_law_475 : decode cL_law 475 = .ok (.aload_n 0, 1) := by decide +kernel
theorem dL_law_476 : decode cL_law 476 = .ok (.iload_n 3, 1) := by decide +kernel
theorem dL_law_477 : decode cL_law 477 = .ok (.iconst 2, 1) := by decide +kernel
theorem dL_law_478 : decode cL_law 478 = .ok (.iadd, 1) := by decide +kernel
theorem dL_law_479 : decode cL_law 479 = .ok (.iaload, 1) := by decide +kernel
theorem dL_law_480 : decode cL_law 480 = .ok (.aload_n 0, 1) := by decide +kernel
theorem dL_law_481 : decode cL_law 481 = .ok (.iload_n 3, 1) := by decide +kernel
theorem dL_law_482 : decode cL_law 482 = .ok (.iconst 3, 1) := by decide +kernel
theorem dL_law_483 : decode cL_law 483 = .ok (.iadd, 1) := by decide +kernel
theorem dL_law_484 : decode cL_law 484 = .ok (.iaload, 1) := by decide +kernel
theorem dL_law_485 : decode cL_law 485 = .ok (.invokevirtual 53, 3) := by decide +kernel
theorem dL_law_488 : decode cL_law 488 = .ok (.if_icmp .eq 324, 3) := by decide +kernel
theorem dL_law_491 : decode cL_law 491 = .ok (.iconst 0, 1) := by decide +kernel
theorem dL_law_492 : decode cL_law 492 = .ok (.ireturn, 1) := by decide +kernel
theorem dL_law_493 : decode cL_law 493 = .ok (.aload_n 1, 1) := by decide +kernel
theorem dL_law_494 : decode cL_law 494 = .ok (.aload_n 0, 1) := by decide +kernel
theorem dL_law_495 : decode cL_law 495 = .ok (.iload_n 3, 1) := by decide +kernel
theorem dL_law_496 : decode cL_law 496 = .ok (.iconst 1, 1) := by decide +kernel
theorem dL_law_497 : decode cL_law 497 = .ok (.iadd, 1) := by decide +kernel
theorem dL_law_498 : decode cL_law 498 = .ok (.iaload, 1) := by decide +kernel
theorem dL_law_499 : decode cL_law 499 = .ok (.invokevirtual 54, 3) := by decide +kernel
theorem dL_law_502 : decode cL_law 502 = .ok (.aload_n 2, 1) := by decide +kernel
theorem dL_law_503 : decode cL_law 503 = .ok (.aload_n 0, 1) := by decide +kernel
theorem dL_law_504 : decode cL_law 504 = .ok (.iload_n 3, 1) := by decide +kernel
theorem dL_law_505 : decode cL_law 505 = .ok (.iconst 1, 1) := by decide +kernel
theorem dL_law_506 : decode cL_law 506 = .ok (.iadd, 1) := by decide +kernel
theorem dL_law_507 : decode cL_law 507 = .ok (.iaload, 1) := by decide +kernel
theorem dL_law_508 : decode cL_law 508 = .ok (.invokevirtual 57, 3) := by decide +kernel
theorem dL_law_511 : decode cL_law 511 = .ok (.if_icmp .eq 301, 3) := by decide +kernel
theorem dL_law_514 : decode cL_law 514 = .ok (.iconst 0, 1) := by decide +kernel
theorem dL_law_515 : decode cL_law 515 = .ok (.ireturn, 1) := by decide +kernel
theorem dL_law_516 : decode cL_law 516 = .ok (.aload_n 1, 1) := by decide +kernel
theorem dL_law_517 : decode cL_law 517 = .ok (.aload_n 0, 1) := by decide +kernel
theorem dL_law_518 : decode cL_law 518 = .ok (.iload_n 3, 1) := by decide +kernel
theorem dL_law_519 : decode cL_law 519 = .ok (.iconst 1, 1) := by decide +kernel
theorem dL_law_520 : decode cL_law 520 = .ok (.iadd, 1) := by decide +kernel
theorem dL_law_521 : decode cL_law 521 = .ok (.iaload, 1) := by decide +kernel
theorem dL_law_522 : decode cL_law 522 = .ok (.invokevirtual 58, 3) := by decide +kernel
theorem dL_law_525 : decode cL_law 525 = .ok (.aload_n 2, 1) := by decide +kernel
theorem dL_law_526 : decode cL_law 526 = .ok (.aload_n 0, 1) := by decide +kernel
theorem dL_law_527 : decode cL_law 527 = .ok (.iload_n 3, 1) := by decide +kernel
theorem dL_law_528 : decode cL_law 528 = .ok (.iconst 1, 1) := by decide +kernel
theorem dL_law_529 : decode cL_law 529 = .ok (.iadd, 1) := by decide +kernel
theorem dL_law_530 : decode cL_law 530 = .ok (.iaload, 1) := by decide +kernel
theorem dL_law_531 : decode cL_law 531 = .ok (.invokevirtual 61, 3) := by decide +kernel
theorem dL_law_534 : decode cL_law 534 = .ok (.if_icmp .eq 278, 3) := by decide +kernel
theorem dL_law_537 : decode cL_law 537 = .ok (.iconst 0, 1) := by decide +kernel
theorem dL_law_538 : decode cL_law 538 = .ok (.ireturn, 1) := by decide +kernel
theorem dL_law_539 : decode cL_law 539 = .ok (.aload_n 1, 1) := by decide +kernel
theorem dL_law_540 : decode cL_law 540 = .ok (.invokevirtual 62, 3) := by decide +kernel
theorem dL_law_543 : decode cL_law 543 = .ok (.aload_n 2, 1) := by decide +kernel
theorem dL_law_544 : decode cL_law 544 = .ok (.invokevirtual 66, 3) := by decide +kernel
theorem dL_law_547 : decode cL_law 547 = .ok (.if_icmp .eq 265, 3) := by decide +kernel
theorem dL_law_550 : decode cL_law 550 = .ok (.iconst 0, 1) := by decide +kernel
theorem dL_law_551 : decode cL_law 551 = .ok (.ireturn, 1) := by decide +kernel
theorem dL_law_552 : decode cL_law 552 = .ok (.aload_n 1, 1) := by decide +kernel
theorem dL_law_553 : decode cL_law 553 = .ok (.aload_n 0, 1) := by decide +kernel
theorem dL_law_554 : decode cL_law 554 = .ok (.iload_n 3, 1) := by decide +kernel
theorem dL_law_555 : decode cL_law 555 = .ok (.iconst 1, 1) := by decide +kernel
theorem dL_law_556 : decode cL_law 556 = .ok (.iadd, 1) := by decide +kernel
theorem dL_law_557 : decode cL_law 557 = .ok (.iaload, 1) := by decide +kernel
theorem dL_law_558 : decode cL_law 558 = .ok (.aload_n 0, 1) := by decide +kernel
theorem dL_law_559 : decode cL_law 559 = .ok (.iload_n 3, 1) := by decide +kernel
theorem dL_law_560 : decode cL_law 560 = .ok (.iconst 2, 1) := by decide +kernel
theorem dL_law_561 : decode cL_law 561 = .ok (.iadd, 1) := by decide +kernel
theorem dL_law_562 : decode cL_law 562 = .ok (.iaload, 1) := by decide +kernel
theorem dL_law_563 : decode cL_law 563 = .ok (.invokevirtual 67, 3) := by decide +kernel
theorem dL_law_566 : decode cL_law 566 = .ok (.aload_n 2, 1) := by decide +kernel
theorem dL_law_567 : decode cL_law 567 = .ok (.aload_n 0, 1) := by decide +kernel
theorem dL_law_568 : decode cL_law 568 = .ok (.iload_n 3, 1) := by decide +kernel
theorem dL_law_569 : decode cL_law 569 = .ok (.iconst 1, 1) := by decide +kernel
theorem dL_law_570 : decode cL_law 570 = .ok (.iadd, 1) := by decide +kernel
theorem dL_law_571 : decode cL_law 571 = .ok (.iaload, 1) := by decide +kernel
theorem dL_law_572 : decode cL_law 572 = .ok (.aload_n 0, 1) := by decide +kernel
theorem dL_law_573 : decode cL_law 573 = .ok (.iload_n 3, 1) := by decide +kernel
theorem dL_law_574 : decode cL_law 574 = .ok (.iconst 2, 1) := by decide +kernel
theorem dL_law_575 : decode cL_law 575 = .ok (.iadd, 1) := by decide +kernel
theorem dL_law_576 : decode cL_law 576 = .ok (.iaload, 1) := by decide +kernel
theorem dL_law_577 : decode cL_law 577 = .ok (.invokevirtual 70, 3) := by decide +kernel
theorem dL_law_580 : decode cL_law 580 = .ok (.if_icmp .eq 232, 3) := by decide +kernel
theorem dL_law_583 : decode cL_law 583 = .ok (.iconst 0, 1) := by decide +kernel
theorem dL_law_584 : decode cL_law 584 = .ok (.ireturn, 1) := by decide +kernel
theorem dL_law_585 : decode cL_law 585 = .ok (.aload_n 1, 1) := by decide +kernel
theorem dL_law_586 : decode cL_law 586 = .ok (.aload_n 0, 1) := by decide +kernel
theorem dL_law_587 : decode cL_law 587 = .ok (.iload_n 3, 1) := by decide +kernel
theorem dL_law_588 : decode cL_law 588 = .ok (.iconst 1, 1) := by decide +kernel
theorem dL_law_589 : decode cL_law 589 = .ok (.iadd, 1) := by decide +kernel
theorem dL_law_590 : decode cL_law 590 = .ok (.iaload, 1) := by decide +kernel
theorem dL_law_591 : decode cL_law 591 = .ok (.aload_n 0, 1) := by decide +kernel
theorem dL_law_592 : decode cL_law 592 = .ok (.iload_n 3, 1) := by decide +kernel
theorem dL_law_593 : decode cL_law 593 = .ok (.iconst 2, 1) := by decide +kernel
theorem dL_law_594 : decode cL_law 594 = .ok (.iadd, 1) := by decide +kernel
theorem dL_law_595 : decode cL_law 595 = .ok (.iaload, 1) := by decide +kernel
theorem dL_law_596 : decode cL_law 596 = .ok (.invokevirtual 71, 3) := by decide +kernel
theorem dL_law_599 : decode cL_law 599 = .ok (.aload_n 2, 1) := by decide +kernel
theorem dL_law_600 : decode cL_law 600 = .ok (.aload_n 0, 1) := by decide +kernel
theorem dL_law_601 : decode cL_law 601 = .ok (.iload_n 3, 1) := by decide +kernel
theorem dL_law_602 : decode cL_law 602 = .ok (.iconst 1, 1) := by decide +kernel
theorem dL_law_603 : decode cL_law 603 = .ok (.iadd, 1) := by decide +kernel
theorem dL_law_604 : decode cL_law 604 = .ok (.iaload, 1) := by decide +kernel
theorem dL_law_605 : decode cL_law 605 = .ok (.aload_n 0, 1) := by decide +kernel
theorem dL_law_606 : decode cL_law 606 = .ok (.iload_n 3, 1) := by decide +kernel
theorem dL_law_607 : decode cL_law 607 = .ok (.iconst 2, 1) := by decide +kernel
theorem dL_law_608 : decode cL_law 608 = .ok (.iadd, 1) := by decide +kernel
theorem dL_law_609 : decode cL_law 609 = .ok (.iaload, 1) := by decide +kernel
theorem dL_law_610 : decode cL_law 610 = .ok (.invokevirtual 74, 3) := by decide +kernel
theorem dL_law_613 : decode cL_law 613 = .ok (.if_icmp .eq 199, 3) := by decide +kernel
theorem dL_law_616 : decode cL_law 616 = .ok (.iconst 0, 1) := by decide +kernel
theorem dL_law_617 : decode cL_law 617 = .ok (.ireturn, 1) := by decide +kernel
theorem dL_law_618 : decode cL_law 618 = .ok (.aload_n 1, 1) := by decide +kernel
theorem dL_law_619 : decode cL_law 619 = .ok (.aload_n 0, 1) := by decide +kernel
theorem dL_law_620 : decode cL_law 620 = .ok (.iload_n 3, 1) := by decide +kernel
theorem dL_law_621 : decode cL_law 621 = .ok (.iconst 1, 1) := by decide +kernel
theorem dL_law_622 : decode cL_law 622 = .ok (.iadd, 1) := by decide +kernel
theorem dL_law_623 : decode cL_law 623 = .ok (.iaload, 1) := by decide +kernel
theorem dL_law_624 : decode cL_law 624 = .ok (.aload_n 0, 1) := by decide +kernel
theorem dL_law_625 : decode cL_law 625 = .ok (.iload_n 3, 1) := by decide +kernel
theorem dL_law_626 : decode cL_law 626 = .ok (.iconst 2, 1) := by decide +kernel
theorem dL_law_627 : decode cL_law 627 = .ok (.iadd, 1) := by decide +kernel
theorem dL_law_628 : decode cL_law 628 = .ok (.iaload, 1) := by decide +kernel
theorem dL_law_629 : decode cL_law 629 = .ok (.aload_n 0, 1) := by decide +kernel
theorem dL_law_630 : decode cL_law 630 = .ok (.iload_n 3, 1) := by decide +kernel
theorem dL_law_631 : decode cL_law 631 = .ok (.iconst 3, 1) := by decide +kernel
theorem dL_law_632 : decode cL_law 632 = .ok (.iadd, 1) := by decide +kernel
theorem dL_law_633 : decode cL_law 633 = .ok (.iaload, 1) := by decide +kernel
theorem dL_law_634 : decode cL_law 634 = .ok (.invokevirtual 75, 3) := by decide +kernel
theorem dL_law_637 : decode cL_law 637 = .ok (.aload_n 2, 1) := by decide +kernel
theorem dL_law_638 : decode cL_law 638 = .ok (.aload_n 0, 1) := by decide +kernel
theorem dL_law_639 : decode cL_law 639 = .ok (.iload_n 3, 1) := by decide +kernel
theorem dL_law_640 : decode cL_law 640 = .ok (.iconst 1, 1) := by decide +kernel
theorem dL_law_641 : decode cL_law 641 = .ok (.iadd, 1) := by decide +kernel
theorem dL_law_642 : decode cL_law 642 = .ok (.iaload, 1) := by decide +kernel
theorem dL_law_643 : decode cL_law 643 = .ok (.aload_n 0, 1) := by decide +kernel
theorem dL_law_644 : decode cL_law 644 = .ok (.iload_n 3, 1) := by decide +kernel
theorem dL_law_645 : decode cL_law 645 = .ok (.iconst 2, 1) := by decide +kernel
theorem dL_law_646 : decode cL_law 646 = .ok (.iadd, 1) := by decide +kernel
theorem dL_law_647 : decode cL_law 647 = .ok (.iaload, 1) := by decide +kernel
theorem dL_law_648 : decode cL_law 648 = .ok (.aload_n 0, 1) := by decide +kernel
theorem dL_law_649 : decode cL_law 649 = .ok (.iload_n 3, 1) := by decide +kernel
theorem dL_law_650 : decode cL_law 650 = .ok (.iconst 3, 1) := by decide +kernel
theorem dL_law_651 : decode cL_law 651 = .ok (.iadd, 1) := by decide +kernel
theorem dL_law_652 : decode cL_law 652 = .ok (.iaload, 1) := by decide +kernel
theorem dL_law_653 : decode cL_law 653 = .ok (.invokevirtual 78, 3) := by decide +kernel
theorem dL_law_656 : decode cL_law 656 = .ok (.if_icmp .eq 156, 3) := by decide +kernel
theorem dL_law_659 : decode cL_law 659 = .ok (.iconst 0, 1) := by decide +kernel
theorem dL_law_660 : decode cL_law 660 = .ok (.ireturn, 1) := by decide +kernel
theorem dL_law_661 : decode cL_law 661 = .ok (.aload_n 1, 1) := by decide +kernel
theorem dL_law_662 : decode cL_law 662 = .ok (.aload_n 0, 1) := by decide +kernel
theorem dL_law_663 : decode cL_law 663 = .ok (.iload_n 3, 1) := by decide +kernel
theorem dL_law_664 : decode cL_law 664 = .ok (.iconst 1, 1) := by decide +kernel
theorem dL_law_665 : decode cL_law 665 = .ok (.iadd, 1) := by decide +kernel
theorem dL_law_666 : decode cL_law 666 = .ok (.iaload, 1) := by decide +kernel
theorem dL_law_667 : decode cL_law 667 = .ok (.aload_n 0, 1) := by decide +kernel
theorem dL_law_668 : decode cL_law 668 = .ok (.iload_n 3, 1) := by decide +kernel
theorem dL_law_669 : decode cL_law 669 = .ok (.iconst 2, 1) := by decide +kernel
theorem dL_law_670 : decode cL_law 670 = .ok (.iadd, 1) := by decide +kernel
theorem dL_law_671 : decode cL_law 671 = .ok (.iaload, 1) := by decide +kernel
theorem dL_law_672 : decode cL_law 672 = .ok (.invokevirtual 79, 3) := by decide +kernel
theorem dL_law_675 : decode cL_law 675 = .ok (.aload_n 2, 1) := by decide +kernel
theorem dL_law_676 : decode cL_law 676 = .ok (.aload_n 0, 1) := by decide +kernel
theorem dL_law_677 : decode cL_law 677 = .ok (.iload_n 3, 1) := by decide +kernel
theorem dL_law_678 : decode cL_law 678 = .ok (.iconst 1, 1) := by decide +kernel
theorem dL_law_679 : decode cL_law 679 = .ok (.iadd, 1) := by decide +kernel
theorem dL_law_680 : decode cL_law 680 = .ok (.iaload, 1) := by decide +kernel
theorem dL_law_681 : decode cL_law 681 = .ok (.aload_n 0, 1) := by decide +kernel
theorem dL_law_682 : decode cL_law 682 = .ok (.iload_n 3, 1) := by decide +kernel
theorem dL_law_683 : decode cL_law 683 = .ok (.iconst 2, 1) := by decide +kernel
theorem dL_law_684 : decode cL_law 684 = .ok (.iadd, 1) := by decide +kernel
theorem dL_law_685 : decode cL_law 685 = .ok (.iaload, 1) := by decide +kernel
theorem dL_law_686 : decode cL_law 686 = .ok (.invokevirtual 82, 3) := by decide +kernel
theorem dL_law_689 : decode cL_law 689 = .ok (.if_icmp .eq 123, 3) := by decide +kernel
theorem dL_law_692 : decode cL_law 692 = .ok (.iconst 0, 1) := by decide +kernel
theorem dL_law_693 : decode cL_law 693 = .ok (.ireturn, 1) := by decide +kernel
theorem dL_law_694 : decode cL_law 694 = .ok (.aload_n 1, 1) := by decide +kernel
theorem dL_law_695 : decode cL_law 695 = .ok (.aload_n 0, 1) := by decide +kernel
theorem dL_law_696 : decode cL_law 696 = .ok (.iload_n 3, 1) := by decide +kernel
theorem dL_law_697 : decode cL_law 697 = .ok (.iconst 1, 1) := by decide +kernel
theorem dL_law_698 : decode cL_law 698 = .ok (.iadd, 1) := by decide +kernel
theorem dL_law_699 : decode cL_law 699 = .ok (.iaload, 1) := by decide +kernel
theorem dL_law_700 : decode cL_law 700 = .ok (.aload_n 0, 1) := by decide +kernel
theorem dL_law_701 : decode cL_law 701 = .ok (.iload_n 3, 1) := by decide +kernel
theorem dL_law_702 : decode cL_law 702 = .ok (.iconst 2, 1) := by decide +kernel
theorem dL_law_703 : decode cL_law 703 = .ok (.iadd, 1) := by decide +kernel
theorem dL_law_704 : decode cL_law 704 = .ok (.iaload, 1) := by decide +kernel
theorem dL_law_705 : decode cL_law 705 = .ok (.invokevirtual 83, 3) := by decide +kernel
theorem dL_law_708 : decode cL_law 708 = .ok (.aload_n 2, 1) := by decide +kernel
theorem dL_law_709 : decode cL_law 709 = .ok (.aload_n 0, 1) := by decide +kernel
theorem dL_law_710 : decode cL_law 710 = .ok (.iload_n 3, 1) := by decide +kernel
theorem dL_law_711 : decode cL_law 711 = .ok (.iconst 1, 1) := by decide +kernel
theorem dL_law_712 : decode cL_law 712 = .ok (.iadd, 1) := by decide +kernel
theorem dL_law_713 : decode cL_law 713 = .ok (.iaload, 1) := by decide +kernel
theorem dL_law_714 : decode cL_law 714 = .ok (.aload_n 0, 1) := by decide +kernel
theorem dL_law_715 : decode cL_law 715 = .ok (.iload_n 3, 1) := by decide +kernel
theorem dL_law_716 : decode cL_law 716 = .ok (.iconst 2, 1) := by decide +kernel
theorem dL_law_717 : decode cL_law 717 = .ok (.iadd, 1) := by decide +kernel
theorem dL_law_718 : decode cL_law 718 = .ok (.iaload, 1) := by decide +kernel
theorem dL_law_719 : decode cL_law 719 = .ok (.invokevirtual 86, 3) := by decide +kernel
theorem dL_law_722 : decode cL_law 722 = .ok (.if_icmp .eq 90, 3) := by decide +kernel
theorem dL_law_725 : decode cL_law 725 = .ok (.iconst 0, 1) := by decide +kernel
theorem dL_law_726 : decode cL_law 726 = .ok (.ireturn, 1) := by decide +kernel
theorem dL_law_727 : decode cL_law 727 = .ok (.aload_n 1, 1) := by decide +kernel
theorem dL_law_728 : decode cL_law 728 = .ok (.invokevirtual 87, 3) := by decide +kernel
theorem dL_law_731 : decode cL_law 731 = .ok (.aload_n 2, 1) := by decide +kernel
theorem dL_law_732 : decode cL_law 732 = .ok (.invokevirtual 90, 3) := by decide +kernel
theorem dL_law_735 : decode cL_law 735 = .ok (.if_icmp .eq 77, 3) := by decide +kernel
theorem dL_law_738 : decode cL_law 738 = .ok (.iconst 0, 1) := by decide +kernel
theorem dL_law_739 : decode cL_law 739 = .ok (.ireturn, 1) := by decide +kernel
theorem dL_law_740 : decode cL_law 740 = .ok (.aload_n 1, 1) := by decide +kernel
theorem dL_law_741 : decode cL_law 741 = .ok (.aload_n 0, 1) := by decide +kernel
theorem dL_law_742 : decode cL_law 742 = .ok (.iload_n 3, 1) := by decide +kernel
theorem dL_law_743 : decode cL_law 743 = .ok (.iconst 1, 1) := by decide +kernel
theorem dL_law_744 : decode cL_law 744 = .ok (.iadd, 1) := by decide +kernel
theorem dL_law_745 : decode cL_law 745 = .ok (.iaload, 1) := by decide +kernel
theorem dL_law_746 : decode cL_law 746 = .ok (.invokevirtual 91, 3) := by decide +kernel
theorem dL_law_749 : decode cL_law 749 = .ok (.aload_n 2, 1) := by decide +kernel
theorem dL_law_750 : decode cL_law 750 = .ok (.aload_n 0, 1) := by decide +kernel
theorem dL_law_751 : decode cL_law 751 = .ok (.iload_n 3, 1) := by decide +kernel
theorem dL_law_752 : decode cL_law 752 = .ok (.iconst 1, 1) := by decide +kernel
theorem dL_law_753 : decode cL_law 753 = .ok (.iadd, 1) := by decide +kernel
theorem dL_law_754 : decode cL_law 754 = .ok (.iaload, 1) := by decide +kernel
theorem dL_law_755 : decode cL_law 755 = .ok (.invokevirtual 94, 3) := by decide +kernel
theorem dL_law_758 : decode cL_law 758 = .ok (.if_icmp .eq 54, 3) := by decide +kernel
theorem dL_law_761 : decode cL_law 761 = .ok (.iconst 0, 1) := by decide +kernel
theorem dL_law_762 : decode cL_law 762 = .ok (.ireturn, 1) := by decide +kernel
theorem dL_law_763 : decode cL_law 763 = .ok (.aload_n 1, 1) := by decide +kernel
theorem dL_law_764 : decode cL_law 764 = .ok (.invokevirtual 95, 3) := by decide +kernel
theorem dL_law_767 : decode cL_law 767 = .ok (.aload_n 2, 1) := by decide +kernel
theorem dL_law_768 : decode cL_law 768 = .ok (.invokevirtual 98, 3) := by decide +kernel
theorem dL_law_771 : decode cL_law 771 = .ok (.if_icmp .eq 41, 3) := by decide +kernel
theorem dL_law_774 : decode cL_law 774 = .ok (.iconst 0, 1) := by decide +kernel
theorem dL_law_775 : decode cL_law 775 = .ok (.ireturn, 1) := by decide +kernel
theorem dL_law_776 : decode cL_law 776 = .ok (.aload_n 1, 1) := by decide +kernel
theorem dL_law_777 : decode cL_law 777 = .ok (.aload_n 0, 1) := by decide +kernel
theorem dL_law_778 : decode cL_law 778 = .ok (.iload_n 3, 1) := by decide +kernel
theorem dL_law_779 : decode cL_law 779 = .ok (.iconst 1, 1) := by decide +kernel
theorem dL_law_780 : decode cL_law 780 = .ok (.iadd, 1) := by decide +kernel
theorem dL_law_781 : decode cL_law 781 = .ok (.iaload, 1) := by decide +kernel
theorem dL_law_782 : decode cL_law 782 = .ok (.invokevirtual 99, 3) := by decide +kernel
theorem dL_law_785 : decode cL_law 785 = .ok (.aload_n 2, 1) := by decide +kernel
theorem dL_law_786 : decode cL_law 786 = .ok (.aload_n 0, 1) := by decide +kernel
theorem dL_law_787 : decode cL_law 787 = .ok (.iload_n 3, 1) := by decide +kernel
theorem dL_law_788 : decode cL_law 788 = .ok (.iconst 1, 1) := by decide +kernel
theorem dL_law_789 : decode cL_law 789 = .ok (.iadd, 1) := by decide +kernel
theorem dL_law_790 : decode cL_law 790 = .ok (.iaload, 1) := by decide +kernel
theorem dL_law_791 : decode cL_law 791 = .ok (.invokevirtual 102, 3) := by decide +kernel
theorem dL_law_794 : decode cL_law 794 = .ok (.if_icmp .eq 18, 3) := by decide +kernel
theorem dL_law_797 : decode cL_law 797 = .ok (.iconst 0, 1) := by decide +kernel
theorem dL_law_798 : decode cL_law 798 = .ok (.ireturn, 1) := by decide +kernel
theorem dL_law_799 : decode cL_law 799 = .ok (.aload_n 1, 1) := by decide +kernel
theorem dL_law_800 : decode cL_law 800 = .ok (.invokevirtual 103, 3) := by decide +kernel
theorem dL_law_803 : decode cL_law 803 = .ok (.aload_n 2, 1) := by decide +kernel
theorem dL_law_804 : decode cL_law 804 = .ok (.invokevirtual 106, 3) := by decide +kernel
theorem dL_law_807 : decode cL_law 807 = .ok (.if_icmp .eq 5, 3) := by decide +kernel
theorem dL_law_810 : decode cL_law 810 = .ok (.iconst 0, 1) := by decide +kernel
theorem dL_law_811 : decode cL_law 811 = .ok (.ireturn, 1) := by decide +kernel
theorem dL_law_812 : decode cL_law 812 = .ok (.iinc 3 6, 3) := by decide +kernel
theorem dL_law_815 : decode cL_law 815 = .ok (.goto (-797), 3) := by decide +kernel
theorem dL_law_818 : decode cL_law 818 = .ok (.iconst 1, 1) := by decide +kernel
theorem dL_law_819 : decode cL_law 819 = .ok (.ireturn, 1) := by decide +kernel
end
section
/-! A METHOD'S RUN WITHOUT ITS SURROUNDINGS. A heap is a list of cells, a reference in it the number of a cell (m_v, m_e, m_w: what stands at the real addresses ad). mCt: a method's contract, from such a heap and arguments to an answer and such a heap. mJ: the same from a place within a method. One rule an instruction. -/
abbrev mM : Type := MethodName × ByteArray × Nat × Option FieldType × Room
abbrev mC : Type := (Nat × Nat × (Nat → Int32)) ⊕ (Nat × List Value)
def m_okW : Cond → Bool
  | .fieldLinkNest .. => true
  | .methodLinkNest .. => true
  | w => goodWord w
theorem m_okW_keep {w : Cond} (h : m_okW w = true) {s U : State} {a a' : Array Value} (hW : s.WarmedH U.vm) (hb : w.before a s = true) : w.before a' U = true := by
  cases w <;> first
    | exact va_Nw.use rfl (va_Nw.warmF hW (va_Nw.of rfl hb))
    | exact va_Nw.use rfl (va_Nw.warmM hW (va_Nw.of rfl hb))
    | exact word_at hW (good_of_word h) hb
def m_tbl : List Cond := lw_tbl.filter m_okW
def m_in (w : Cond) : Prop := w ∈ lw_tbl ∧ m_okW w = true
theorem m_in_tbl {w : Cond} (h : m_in w) : w ∈ m_tbl := List.mem_filter.mpr h
def m_ws (M : mM) : List Cond := .code M.1 M.2.1 M.2.2.1 M.2.2.2.1 :: m_tbl
def m_v (ad : Nat → Nat) : Value → Value
  | .ref i => .ref (ad i)
  | v => v
def m_e (g : Nat → ClassId) (ad : Nat → Nat) : mC → va_E
  | .inl a => .inl (g a.1, a.2.1, .inl a.2.2)
  | .inr o => .inr (o.1, o.2.map (m_v ad))
def m_w (g : Nat → ClassId) (ad : Nat → Nat) (h : List mC) : va_W := h.mapIdx (fun i c => (ad i, m_e g ad c))
abbrev m_tys (g : Nat → ClassId) : List (ClassId × FieldType) := [(g 0, .int), (g 1, .char)]
theorem m_w_at {g : Nat → ClassId} {ad : Nat → Nat} {h : List mC} {k : Nat} {c : mC} (hk : h[k]? = some c) : (m_w g ad h)[k]? = some (ad k, m_e g ad c) := by
  unfold m_w
  rw [List.getElem?_mapIdx, hk]
  rfl
theorem m_w_set {g : Nat → ClassId} {ad : Nat → Nat} {h : List mC} {k : Nat} {c : mC} : (m_w g ad h).set k (ad k, m_e g ad c) = m_w g ad (h.set k c) := by
  unfold m_w
  apply List.ext_getElem?
  intro i
  simp only [List.getElem?_set, List.getElem?_mapIdx, List.length_mapIdx]
  by_cases hik : k = i
  · subst hik
    by_cases hl : k < h.length
    · simp [hl]
    · simp [hl]
  · simp [hik]
theorem m_cat (ad : Nat → Nat) (v : Value) : (m_v ad v).category = v.category := by cases v <;> rfl
/-- what a method's frame holds still -/
def m_cx (M : mM) (p : Program) (s : State) (m : MethodId) (args : Array Value) (meth : Method) (c : Code) : Prop :=
  p.tables.exec = Jvm.exec ∧ c.code = M.2.1 ∧ meth.sig.returnType = M.2.2.2.1 ∧ c.maxLocals = M.2.2.1 ∧ s.vm.findClass M.1.cls = some m.cls ∧ (∀ w ∈ m_tbl, w.before args s = true) ∧ meth.locks = false
theorem m_cx_in {M : mM} {p : Program} {s : State} {m : MethodId} {args : Array Value} {meth : Method} {c : Code} (C : m_cx M p s m args meth c) {w : Cond} (h : m_in w) : w.before args s = true := C.2.2.2.2.2.1 w (m_in_tbl h)
/-- the locals: .null stands where nothing is known -/
def m_lv (ad : Nat → Nat) (la : Array Slot) (nL : Nat) (ls : List Value) : Prop := la.size = nL ∧ lv_wf la ∧ ∀ (i : Nat) (v : Value), ls[i]? = some v → v ≠ .null → v.category = 1 ∧ la[i]? = some (.val (m_v ad v))
def m_al (ad : Nat → Nat) : Nat → List Value → List (Nat × Value)
  | _, [] => []
  | k, v :: r => match v with
    | .null => m_al ad (k + 1) r
    | v => (k, m_v ad v) :: m_al ad (k + 1) r
theorem m_al_of {ad : Nat → Nat} : ∀ {ls : List Value} {k i : Nat} {v : Value}, ls[i]? = some v → v ≠ .null → (k + i, m_v ad v) ∈ m_al ad k ls
  | [], _, _, _, h, _ => by simp at h
  | w :: r, k, 0, v, h, hn => by
    simp at h
    subst h
    cases w <;> first | exact absurd rfl hn | exact List.mem_cons_self
  | w :: r, k, i + 1, v, h, hn => by
    simp at h
    have h1 := m_al_of (ad := ad) (k := k + 1) h hn
    rw [show k + 1 + i = k + (i + 1) by omega] at h1
    cases w <;> first | exact h1 | exact List.mem_cons_of_mem _ h1
theorem m_al_in {ad : Nat → Nat} : ∀ {ls : List Value} {k : Nat} {q : Nat × Value}, q ∈ m_al ad k ls → ∃ i v, q = (k + i, m_v ad v) ∧ ls[i]? = some v ∧ v ≠ .null
  | [], _, _, h => by cases h
  | w :: r, k, q, h => by
    have key : q ∈ m_al ad (k + 1) r → ∃ i v, q = (k + i, m_v ad v) ∧ (w :: r)[i]? = some v ∧ v ≠ .null := by
      intro h1
      obtain ⟨i, v, e, h2, h3⟩ := m_al_in h1
      exact ⟨i + 1, v, by rw [e]; congr 1; omega, by simpa using h2, h3⟩
    by_cases hw : w = .null
    · subst hw
      exact key h
    · have h' : q ∈ (k, m_v ad w) :: m_al ad (k + 1) r := by cases w <;> first | exact absurd rfl hw | exact h
      rcases List.mem_cons.mp h' with rfl | h1
      · exact ⟨0, w, rfl, rfl, hw⟩
      · exact key h1
theorem m_lv_has {ad : Nat → Nat} {la : Array Slot} {nL : Nat} {ls : List Value} (h : m_lv ad la nL ls) : lv_has la nL (m_al ad 0 ls) := by
  refine ⟨h.1, h.2.1, fun q hq => ?_⟩
  obtain ⟨i, v, rfl, h2, h3⟩ := m_al_in hq
  simpa using (h.2.2 i v h2 h3).2
theorem m_lv_set {ad : Nat → Nat} {la : Array Slot} {nL i : Nat} {ls : List Value} {v w : Value} {la' : Array Slot} (h : m_lv ad la nL ls) (hv : m_v ad v = w) (hc : v.category = 1) (hn : i < nL)
    (h' : lv_has la' nL ((i, w) :: (m_al ad 0 ls).filter (fun q => !(q.1 == i) && !(q.1 + 1 == i && q.2.category == 2)))) : m_lv ad la' nL (ls.set i v) := by
  refine ⟨h'.1, h'.2.1, fun j x hj hx => ?_⟩
  by_cases hij : i = j
  · subst hij
    have hxe : x = v := by
      rw [List.getElem?_set] at hj
      by_cases hl : i < ls.length
      · simp [hl] at hj; exact hj.symm
      · simp [hl] at hj
    subst hxe
    refine ⟨hc, ?_⟩
    rw [hv]
    exact h'.2.2 (i, w) List.mem_cons_self
  · rw [List.getElem?_set_ne hij] at hj
    obtain ⟨c1, -⟩ := h.2.2 j x hj hx
    refine ⟨c1, ?_⟩
    have h1 := m_al_of (ad := ad) (k := 0) hj hx
    rw [Nat.zero_add] at h1
    refine h'.2.2 (j, m_v ad x) (List.mem_cons_of_mem _ (List.mem_filter.mpr ⟨h1, ?_⟩))
    simp [m_cat, c1, Ne.symm hij]
def m_Q (D : va_G) (g : Nat → ClassId) (ad : Nat → Nat) (A : Nat → Prop) (r : Option Value) (h : List mC) : Array Value → State → Outcome → State → Prop := fun _ st oc t =>
  (oc = .returned (r.map (m_v ad)) ∧ va_P D vwCl (m_w g ad h) t.heap ∧ va_D A (m_w g ad h)) ∧ va_F A st t
def mJ (M : mM) (pc : Nat) (ls st : List Value) (h : List mC) (r : Option Value) (h' : List mC) : Prop :=
  ∀ (p : Program) (l : Launch) (e : Env) (s : State) (m : MethodId) (args : Array Value) (below : List Frame) (meth : Method) (c : Code) (D : va_G) (g : Nat → ClassId) (ad : Nat → Nat) (A : Nat → Prop) (H : Heap) (locs : List Loc) (la : Array Slot),
    m_cx M p s m args meth c → va_K D vwCl (m_tys g) s → (∀ q : Nat, s.heap.size ≤ q → A q) → m_lv ad la M.2.2.1 ls → va_P D vwCl (m_w g ad h) H → va_D A (m_w g ad h) → va_S A s.heap H locs →
    W p l e M.2.2.2.2 s m args below meth c H locs 0 0 (MQ below (m_Q D g ad A r h') args s 0 0 A) (F0 m pc la (st.map (m_v ad)))
def mCt (M : mM) (av : List Value) (h : List mC) (r : Option Value) (h' : List mC) : Prop :=
  ∀ (l : Launch) (D : va_G) (g : Nat → ClassId) (ad : Nat → Nat) (sz : Nat), Met l M.1 (m_ws M) M.2.2.2.2 (va_Pc (av.map (m_v ad)) (fun U => U.heap.size = sz ∧ va_P D vwCl (m_w g ad h) U.heap ∧ va_K D vwCl (m_tys g) U ∧ va_D (fun _ => True) (m_w g ad h))) (m_Q D g ad (va_A (m_w g ad h) sz) r h') 0 0 (va_A (m_w g ad h) sz)
theorem m_entry {ad : Nat → Nat} {vs : List Value} (hc : ∀ v ∈ vs, v.category = 1) {n : Nat} (hn : vs.length ≤ n) : m_lv ad ((lg_sl (vs.map (m_v ad)) ++ List.replicate (n - (lg_sl (vs.map (m_v ad))).length) Slot.unset).toArray) n (vs ++ List.replicate (n - vs.length) .null) := by
  have e : lg_sl (vs.map (m_v ad)) = vs.map (fun v => Slot.val (m_v ad v)) := by
    clear hn
    induction vs with
    | nil => rfl
    | cons v r ih =>
      have h1 : (m_v ad v).category = 1 := by rw [m_cat]; exact hc v List.mem_cons_self
      have h2 := ih (fun w hw => hc w (List.mem_cons_of_mem _ hw))
      simp only [lg_sl, List.map_cons, List.flatMap_cons] at h2 ⊢
      rw [h2, h1]
      rfl
  have hl := lv_entry (vs.map (m_v ad)) (n := n) (by rw [e, List.length_map]; exact hn)
  refine ⟨hl.1, hl.2.1, fun i v hi hv => ?_⟩
  by_cases hlt : i < vs.length
  · rw [List.getElem?_append_left hlt] at hi
    refine ⟨hc v (List.mem_of_getElem? hi), ?_⟩
    rw [e]
    obtain ⟨_, hx⟩ := List.getElem?_eq_some_iff.mp hi
    simp [List.getElem?_append, hlt, hx]
  · rw [List.getElem?_append_right (by omega), List.getElem?_replicate] at hi
    split at hi
    · cases hi; exact absurd rfl hv
    · cases hi
theorem Met_ofWF {l : Launch} {y : MethodName} {ws ws' : List Cond} {rm : Room} {Pc : Array Value → State → Prop} {Qc : Array Value → State → Outcome → State → Prop} {mc ms : Nat} {free : Addr → Prop} {cc : ByteArray} {maxL : Nat} {ret : Option FieldType}
    (hy : plainFor y = true) (hw : ws = Cond.code y cc maxL ret :: ws')
    (body : ∀ p e s m args below meth c s₁, BodyLoose p l y (headSpec ws rm) cc maxL ret e s m args below meth c s₁ → c.maxLocals = maxL → Pc args s →
      W p l e (headSpec ws rm).room s m args below meth c s.heap [] 0 0 (MQ below Qc args s mc ms free) (entryFrame m args maxL)) : Met l y ws rm Pc Qc mc ms free := by
  refine MetFree.of_bodySF (code := cc) (maxLocals := maxL) (ret := ret) hy ?_ ?_
  · intro args s m h hn
    obtain ⟨meth, c, h1, h2, h3, h4, h5, h6, -, -⟩ := Cond.code_spec hn (atoms_spec (ws := ws) h _ (by rw [hw]; exact List.mem_cons_self))
    exact ⟨meth, c, h1, h2, h3, h4, h5, h6⟩
  · intro p e s m args below meth c s₁ B hml hP _
    have hh0 : s₁.heap = s.heap := by rw [B.state]; rfl
    obtain ⟨t, a1, o, b1, b2, b3⟩ := body p e s m args below meth c s₁ B hml hP s₁ hh0 (Stand.of_body B)
    exact ⟨t, o, a1, b1, b2, ⟨b3.1, b3.2⟩⟩
theorem mCt_intro {M : mM} {av : List Value} {h h' : List mC} {r : Option Value} (hy : plainFor M.1 = true) (hlen : av.length ≤ M.2.2.1) (hc : ∀ v ∈ av, v.category = 1) {ls : List Value} (hls : av ++ List.replicate (M.2.2.1 - av.length) .null = ls) (k : mJ M 0 ls [] h r h') : mCt M av h r h' := by
  subst hls
  intro l D g ad sz
  refine Met_ofWF (ws' := m_tbl) (cc := M.2.1) (maxL := M.2.2.1) (ret := M.2.2.2.1) hy rfl ?_
  intro p e s m args below meth c s₁ B hml hv
  obtain ⟨rfl, hsz, hP, hK, hD0⟩ := hv
  subst hsz
  have hts : ∀ w ∈ m_ws M, w.before _ s = true := atoms_spec (ws := m_ws M) B.pre
  rw [lg_entry_eq]
  exact k p l e s m _ below meth c D g ad (va_A (m_w g ad h) s.heap.size) s.heap [] _ ⟨B.exec, B.bytes, B.returns, hml, findClass_of_methodNamed B.named, fun w hw => hts w (List.mem_cons_of_mem _ hw), B.notSynchronized⟩ hK (fun q hq => Or.inr hq) (m_entry hc hlen) hP hD0.self va_S.rf
section MROWS
variable {M : mM} {pc : Nat} {ls st : List Value} {h h' : List mC} {r : Option Value}
theorem mJ_here {pc2 : Nat} (e : pc2 = pc) (k : mJ M pc ls st h r h') : mJ M pc2 ls st h r h' := e ▸ k
theorem mJ_iconst {n : Int} {v : Int32} (hd : decode M.2.1 pc = .ok (.iconst n, 1)) (hv : Int32.ofInt n = v) (k : mJ M (pc + 1) ls (.int v :: st) h r h') : mJ M pc ls st h r h' := by
  intro p l e s m args below meth c D g ad A H locs la C K hA hL hP hD hS
  exact lv_iconst C.1 C.2.1 hd hv (k p l e s m args below meth c D g ad A H locs la C K hA hL hP hD hS)
theorem mJ_bipush {n : Int} {v : Int32} (hd : decode M.2.1 pc = .ok (.bipush n, 2)) (hv : (Int8.ofInt n).toInt32 = v) (k : mJ M (pc + 2) ls (.int v :: st) h r h') : mJ M pc ls st h r h' := by
  intro p l e s m args below meth c D g ad A H locs la C K hA hL hP hD hS
  exact lv_bipush C.1 C.2.1 hd hv (k p l e s m args below meth c D g ad A H locs la C K hA hL hP hD hS)
theorem mJ_sipush {n : Int} {v : Int32} (hd : decode M.2.1 pc = .ok (.sipush n, 3)) (hv : (Int16.ofInt n).toInt32 = v) (k : mJ M (pc + 3) ls (.int v :: st) h r h') : mJ M pc ls st h r h' := by
  intro p l e s m args below meth c D g ad A H locs la C K hA hL hP hD hS
  exact lv_sipush C.1 C.2.1 hd hv (k p l e s m args below meth c D g ad A H locs la C K hA hL hP hD hS)
theorem mJ_iload_n {i : Fin 4} {x : Int32} (hd : decode M.2.1 pc = .ok (.iload_n i, 1)) (hl : ls[(i : Nat)]? = some (.int x)) (k : mJ M (pc + 1) ls (.int x :: st) h r h') : mJ M pc ls st h r h' := by
  intro p l e s m args below meth c D g ad A H locs la C K hA hL hP hD hS
  exact lv_iload_n C.1 C.2.1 hd rfl (hL.2.2 _ _ hl (fun z => by cases z)).2 (k p l e s m args below meth c D g ad A H locs la C K hA hL hP hD hS)
theorem mJ_iload {i : Nat} {x : Int32} (hd : decode M.2.1 pc = .ok (.iload i, 2)) (hl : ls[i]? = some (.int x)) (k : mJ M (pc + 2) ls (.int x :: st) h r h') : mJ M pc ls st h r h' := by
  intro p l e s m args below meth c D g ad A H locs la C K hA hL hP hD hS
  exact lv_iload C.1 C.2.1 hd (hL.2.2 _ _ hl (fun z => by cases z)).2 (k p l e s m args below meth c D g ad A H locs la C K hA hL hP hD hS)
theorem mJ_aload_n {i : Fin 4} {x : Nat} (hd : decode M.2.1 pc = .ok (.aload_n i, 1)) (hl : ls[(i : Nat)]? = some (.ref x)) (k : mJ M (pc + 1) ls (.ref x :: st) h r h') : mJ M pc ls st h r h' := by
  intro p l e s m args below meth c D g ad A H locs la C K hA hL hP hD hS
  exact lv_aload_n C.1 C.2.1 hd rfl (hL.2.2 _ _ hl (fun z => by cases z)).2 (k p l e s m args below meth c D g ad A H locs la C K hA hL hP hD hS)
theorem mJ_istore_n {i : Fin 4} {x : Int32} (hd : decode M.2.1 pc = .ok (.istore_n i, 1)) (hn : (i : Nat) < M.2.2.1) {ls2 : List Value} (hs : ls.set (i : Nat) (.int x) = ls2) (k : mJ M (pc + 1) ls2 st h r h') : mJ M pc ls (.int x :: st) h r h' := by
  subst hs
  intro p l e s m args below meth c D g ad A H locs la C K hA hL hP hD hS
  exact lv_istore_n C.1 C.2.1 hd rfl (m_lv_has hL) hn rfl (fun la' hl' => k p l e s m args below meth c D g ad A H locs la' C K hA (m_lv_set hL rfl rfl hn hl') hP hD hS)
theorem mJ_istore {i : Nat} {x : Int32} (hd : decode M.2.1 pc = .ok (.istore i, 2)) (hn : i < M.2.2.1) {ls2 : List Value} (hs : ls.set i (.int x) = ls2) (k : mJ M (pc + 2) ls2 st h r h') : mJ M pc ls (.int x :: st) h r h' := by
  subst hs
  intro p l e s m args below meth c D g ad A H locs la C K hA hL hP hD hS
  exact lv_istore C.1 C.2.1 hd (m_lv_has hL) hn rfl (fun la' hl' => k p l e s m args below meth c D g ad A H locs la' C K hA (m_lv_set hL rfl rfl hn hl') hP hD hS)
theorem mJ_iinc {i : Nat} {n : Int} {x v : Int32} (hd : decode M.2.1 pc = .ok (.iinc i n, 3)) (hl : ls[i]? = some (.int x)) (hn : i < M.2.2.1) (hv : x + Int32.ofInt n = v) {ls2 : List Value} (hs : ls.set i (.int v) = ls2) (k : mJ M (pc + 3) ls2 st h r h') : mJ M pc ls st h r h' := by
  subst hs
  intro p l e s m args below meth c D g ad A H locs la C K hA hL hP hD hS
  have hm := m_al_of (ad := ad) (k := 0) hl (fun z => by cases z)
  rw [Nat.zero_add] at hm
  obtain ⟨j, hj⟩ := List.getElem?_of_mem hm
  exact lv_iinc C.1 C.2.1 hd (m_lv_has hL) hj hv hn rfl (fun la' hl' => k p l e s m args below meth c D g ad A H locs la' C K hA (m_lv_set hL rfl rfl hn hl') hP hD hS)
theorem mJ_iadd {x y : Int32} (hd : decode M.2.1 pc = .ok (.iadd, 1)) (k : mJ M (pc + 1) ls (.int (x + y) :: st) h r h') : mJ M pc ls (.int y :: .int x :: st) h r h' := by
  intro p l e s m args below meth c D g ad A H locs la C K hA hL hP hD hS
  exact lv_iadd C.1 C.2.1 hd (k p l e s m args below meth c D g ad A H locs la C K hA hL hP hD hS)
theorem mJ_isub {x y : Int32} (hd : decode M.2.1 pc = .ok (.isub, 1)) (k : mJ M (pc + 1) ls (.int (x - y) :: st) h r h') : mJ M pc ls (.int y :: .int x :: st) h r h' := by
  intro p l e s m args below meth c D g ad A H locs la C K hA hL hP hD hS
  exact lv_isub C.1 C.2.1 hd (k p l e s m args below meth c D g ad A H locs la C K hA hL hP hD hS)
theorem mJ_imul {x y : Int32} (hd : decode M.2.1 pc = .ok (.imul, 1)) (k : mJ M (pc + 1) ls (.int (x * y) :: st) h r h') : mJ M pc ls (.int y :: .int x :: st) h r h' := by
  intro p l e s m args below meth c D g ad A H locs la C K hA hL hP hD hS
  exact lv_imul C.1 C.2.1 hd (k p l e s m args below meth c D g ad A H locs la C K hA hL hP hD hS)
theorem mJ_ixor {x y : Int32} (hd : decode M.2.1 pc = .ok (.ixor, 1)) (k : mJ M (pc + 1) ls (.int (x ^^^ y) :: st) h r h') : mJ M pc ls (.int y :: .int x :: st) h r h' := by
  intro p l e s m args below meth c D g ad A H locs la C K hA hL hP hD hS
  exact lv_ixor C.1 C.2.1 hd (k p l e s m args below meth c D g ad A H locs la C K hA hL hP hD hS)
theorem mJ_idiv {x y : Int32} (hd : decode M.2.1 pc = .ok (.idiv, 1)) (hne : ¬ y = 0) (k : mJ M (pc + 1) ls (.int (x / y) :: st) h r h') : mJ M pc ls (.int y :: .int x :: st) h r h' := by
  intro p l e s m args below meth c D g ad A H locs la C K hA hL hP hD hS
  exact lv_idiv C.1 C.2.1 hd hne (k p l e s m args below meth c D g ad A H locs la C K hA hL hP hD hS)
theorem mJ_irem {x y : Int32} (hd : decode M.2.1 pc = .ok (.irem, 1)) (hne : ¬ y = 0) (k : mJ M (pc + 1) ls (.int (x - x / y * y) :: st) h r h') : mJ M pc ls (.int y :: .int x :: st) h r h' := by
  intro p l e s m args below meth c D g ad A H locs la C K hA hL hP hD hS
  exact lv_irem C.1 C.2.1 hd hne (k p l e s m args below meth c D g ad A H locs la C K hA hL hP hD hS)
theorem mJ_ineg {x : Int32} (hd : decode M.2.1 pc = .ok (.ineg, 1)) (k : mJ M (pc + 1) ls (.int (-x) :: st) h r h') : mJ M pc ls (.int x :: st) h r h' := by
  intro p l e s m args below meth c D g ad A H locs la C K hA hL hP hD hS
  exact lv_ineg C.1 C.2.1 hd (k p l e s m args below meth c D g ad A H locs la C K hA hL hP hD hS)
theorem mJ_i2c {x v : Int32} (hd : decode M.2.1 pc = .ok (.i2c, 1)) (hv : (x.toUInt32 % 65536).toInt32 = v) (k : mJ M (pc + 1) ls (.int v :: st) h r h') : mJ M pc ls (.int x :: st) h r h' := by
  intro p l e s m args below meth c D g ad A H locs la C K hA hL hP hD hS
  exact lv_i2c C.1 C.2.1 hd hv (k p l e s m args below meth c D g ad A H locs la C K hA hL hP hD hS)
theorem mJ_dup {v : Value} (hd : decode M.2.1 pc = .ok (.dup, 1)) (hv : v.category = 1) (k : mJ M (pc + 1) ls (v :: v :: st) h r h') : mJ M pc ls (v :: st) h r h' := by
  intro p l e s m args below meth c D g ad A H locs la C K hA hL hP hD hS
  exact lv_dup C.1 C.2.1 hd ((m_cat ad v).trans hv) (k p l e s m args below meth c D g ad A H locs la C K hA hL hP hD hS)
theorem mJ_dup2 {v w : Value} (hd : decode M.2.1 pc = .ok (.dup2, 1)) (hv : v.category = 1) (hw : w.category = 1) (k : mJ M (pc + 1) ls (v :: w :: v :: w :: st) h r h') : mJ M pc ls (v :: w :: st) h r h' := by
  intro p l e s m args below meth c D g ad A H locs la C K hA hL hP hD hS
  exact lv_dup2_11 C.1 C.2.1 hd ((m_cat ad v).trans hv) ((m_cat ad w).trans hw) (k p l e s m args below meth c D g ad A H locs la C K hA hL hP hD hS)
theorem mJ_pop {v : Value} (hd : decode M.2.1 pc = .ok (.pop, 1)) (hv : v.category = 1) (k : mJ M (pc + 1) ls st h r h') : mJ M pc ls (v :: st) h r h' := by
  intro p l e s m args below meth c D g ad A H locs la C K hA hL hP hD hS
  exact lv_pop C.1 C.2.1 hd ((m_cat ad v).trans hv) (k p l e s m args below meth c D g ad A H locs la C K hA hL hP hD hS)
theorem mJ_goto {off : Int} (tgt : Nat) (hd : decode M.2.1 pc = .ok (.goto off, 3)) (ht : (pc : Int) + off = (tgt : Int)) (k : mJ M tgt ls st h r h') : mJ M pc ls st h r h' := by
  intro p l e s m args below meth c D g ad A H locs la C K hA hL hP hD hS
  exact lv_goto C.1 C.2.1 hd ht (k p l e s m args below meth c D g ad A H locs la C K hA hL hP hD hS)
theorem mJ_if_eq {x : Int32} {off : Int} (tgt : Nat) (hd : decode M.2.1 pc = .ok (.ifCond .eq off, 3)) (ht : (pc : Int) + off = (tgt : Int)) (kt : x = 0 → mJ M tgt ls st h r h') (kf : ¬ x = 0 → mJ M (pc + 3) ls st h r h') : mJ M pc ls (.int x :: st) h r h' := by
  intro p l e s m args below meth c D g ad A H locs la C K hA hL hP hD hS
  exact lv_if_eq C.1 C.2.1 hd ht (fun z => kt z p l e s m args below meth c D g ad A H locs la C K hA hL hP hD hS) (fun z => kf z p l e s m args below meth c D g ad A H locs la C K hA hL hP hD hS)
theorem mJ_if_ne {x : Int32} {off : Int} (tgt : Nat) (hd : decode M.2.1 pc = .ok (.ifCond .ne off, 3)) (ht : (pc : Int) + off = (tgt : Int)) (kt : ¬ x = 0 → mJ M tgt ls st h r h') (kf : x = 0 → mJ M (pc + 3) ls st h r h') : mJ M pc ls (.int x :: st) h r h' := by
  intro p l e s m args below meth c D g ad A H locs la C K hA hL hP hD hS
  exact lv_if_ne C.1 C.2.1 hd ht (fun z => kt z p l e s m args below meth c D g ad A H locs la C K hA hL hP hD hS) (fun z => kf z p l e s m args below meth c D g ad A H locs la C K hA hL hP hD hS)
theorem mJ_if_lt {x : Int32} {off : Int} (tgt : Nat) (hd : decode M.2.1 pc = .ok (.ifCond .lt off, 3)) (ht : (pc : Int) + off = (tgt : Int)) (kt : x < 0 → mJ M tgt ls st h r h') (kf : ¬ x < 0 → mJ M (pc + 3) ls st h r h') : mJ M pc ls (.int x :: st) h r h' := by
  intro p l e s m args below meth c D g ad A H locs la C K hA hL hP hD hS
  exact lv_if_lt C.1 C.2.1 hd ht (fun z => kt z p l e s m args below meth c D g ad A H locs la C K hA hL hP hD hS) (fun z => kf z p l e s m args below meth c D g ad A H locs la C K hA hL hP hD hS)
theorem mJ_if_ge {x : Int32} {off : Int} (tgt : Nat) (hd : decode M.2.1 pc = .ok (.ifCond .ge off, 3)) (ht : (pc : Int) + off = (tgt : Int)) (kt : 0 ≤ x → mJ M tgt ls st h r h') (kf : ¬ 0 ≤ x → mJ M (pc + 3) ls st h r h') : mJ M pc ls (.int x :: st) h r h' := by
  intro p l e s m args below meth c D g ad A H locs la C K hA hL hP hD hS
  exact lv_if_ge C.1 C.2.1 hd ht (fun z => kt z p l e s m args below meth c D g ad A H locs la C K hA hL hP hD hS) (fun z => kf z p l e s m args below meth c D g ad A H locs la C K hA hL hP hD hS)
theorem mJ_if_gt {x : Int32} {off : Int} (tgt : Nat) (hd : decode M.2.1 pc = .ok (.ifCond .gt off, 3)) (ht : (pc : Int) + off = (tgt : Int)) (kt : 0 < x → mJ M tgt ls st h r h') (kf : ¬ 0 < x → mJ M (pc + 3) ls st h r h') : mJ M pc ls (.int x :: st) h r h' := by
  intro p l e s m args below meth c D g ad A H locs la C K hA hL hP hD hS
  exact lv_if_gt C.1 C.2.1 hd ht (fun z => kt z p l e s m args below meth c D g ad A H locs la C K hA hL hP hD hS) (fun z => kf z p l e s m args below meth c D g ad A H locs la C K hA hL hP hD hS)
theorem mJ_if_le {x : Int32} {off : Int} (tgt : Nat) (hd : decode M.2.1 pc = .ok (.ifCond .le off, 3)) (ht : (pc : Int) + off = (tgt : Int)) (kt : x ≤ 0 → mJ M tgt ls st h r h') (kf : ¬ x ≤ 0 → mJ M (pc + 3) ls st h r h') : mJ M pc ls (.int x :: st) h r h' := by
  intro p l e s m args below meth c D g ad A H locs la C K hA hL hP hD hS
  exact lv_if_le C.1 C.2.1 hd ht (fun z => kt z p l e s m args below meth c D g ad A H locs la C K hA hL hP hD hS) (fun z => kf z p l e s m args below meth c D g ad A H locs la C K hA hL hP hD hS)
theorem mJ_icmp_eq {x y : Int32} {off : Int} (tgt : Nat) (hd : decode M.2.1 pc = .ok (.if_icmp .eq off, 3)) (ht : (pc : Int) + off = (tgt : Int)) (kt : x = y → mJ M tgt ls st h r h') (kf : ¬ x = y → mJ M (pc + 3) ls st h r h') : mJ M pc ls (.int y :: .int x :: st) h r h' := by
  intro p l e s m args below meth c D g ad A H locs la C K hA hL hP hD hS
  exact lv_icmp_eq C.1 C.2.1 hd ht (fun z => kt z p l e s m args below meth c D g ad A H locs la C K hA hL hP hD hS) (fun z => kf z p l e s m args below meth c D g ad A H locs la C K hA hL hP hD hS)
theorem mJ_icmp_ne {x y : Int32} {off : Int} (tgt : Nat) (hd : decode M.2.1 pc = .ok (.if_icmp .ne off, 3)) (ht : (pc : Int) + off = (tgt : Int)) (kt : ¬ x = y → mJ M tgt ls st h r h') (kf : x = y → mJ M (pc + 3) ls st h r h') : mJ M pc ls (.int y :: .int x :: st) h r h' := by
  intro p l e s m args below meth c D g ad A H locs la C K hA hL hP hD hS
  exact lv_icmp_ne C.1 C.2.1 hd ht (fun z => kt z p l e s m args below meth c D g ad A H locs la C K hA hL hP hD hS) (fun z => kf z p l e s m args below meth c D g ad A H locs la C K hA hL hP hD hS)
theorem mJ_icmp_lt {x y : Int32} {off : Int} (tgt : Nat) (hd : decode M.2.1 pc = .ok (.if_icmp .lt off, 3)) (ht : (pc : Int) + off = (tgt : Int)) (kt : x < y → mJ M tgt ls st h r h') (kf : ¬ x < y → mJ M (pc + 3) ls st h r h') : mJ M pc ls (.int y :: .int x :: st) h r h' := by
  intro p l e s m args below meth c D g ad A H locs la C K hA hL hP hD hS
  exact lv_icmp_lt C.1 C.2.1 hd ht (fun z => kt z p l e s m args below meth c D g ad A H locs la C K hA hL hP hD hS) (fun z => kf z p l e s m args below meth c D g ad A H locs la C K hA hL hP hD hS)
theorem mJ_icmp_ge {x y : Int32} {off : Int} (tgt : Nat) (hd : decode M.2.1 pc = .ok (.if_icmp .ge off, 3)) (ht : (pc : Int) + off = (tgt : Int)) (kt : y ≤ x → mJ M tgt ls st h r h') (kf : ¬ y ≤ x → mJ M (pc + 3) ls st h r h') : mJ M pc ls (.int y :: .int x :: st) h r h' := by
  intro p l e s m args below meth c D g ad A H locs la C K hA hL hP hD hS
  exact lv_icmp_ge C.1 C.2.1 hd ht (fun z => kt z p l e s m args below meth c D g ad A H locs la C K hA hL hP hD hS) (fun z => kf z p l e s m args below meth c D g ad A H locs la C K hA hL hP hD hS)
theorem mJ_icmp_gt {x y : Int32} {off : Int} (tgt : Nat) (hd : decode M.2.1 pc = .ok (.if_icmp .gt off, 3)) (ht : (pc : Int) + off = (tgt : Int)) (kt : y < x → mJ M tgt ls st h r h') (kf : ¬ y < x → mJ M (pc + 3) ls st h r h') : mJ M pc ls (.int y :: .int x :: st) h r h' := by
  intro p l e s m args below meth c D g ad A H locs la C K hA hL hP hD hS
  exact lv_icmp_gt C.1 C.2.1 hd ht (fun z => kt z p l e s m args below meth c D g ad A H locs la C K hA hL hP hD hS) (fun z => kf z p l e s m args below meth c D g ad A H locs la C K hA hL hP hD hS)
theorem mJ_icmp_le {x y : Int32} {off : Int} (tgt : Nat) (hd : decode M.2.1 pc = .ok (.if_icmp .le off, 3)) (ht : (pc : Int) + off = (tgt : Int)) (kt : x ≤ y → mJ M tgt ls st h r h') (kf : ¬ x ≤ y → mJ M (pc + 3) ls st h r h') : mJ M pc ls (.int y :: .int x :: st) h r h' := by
  intro p l e s m args below meth c D g ad A H locs la C K hA hL hP hD hS
  exact lv_icmp_le C.1 C.2.1 hd ht (fun z => kt z p l e s m args below meth c D g ad A H locs la C K hA hL hP hD hS) (fun z => kf z p l e s m args below meth c D g ad A H locs la C K hA hL hP hD hS)
theorem mJ_tin {dflt lo hi : Int} {offs : Array Int} {len : Nat} {x : Int32} {off : Int} (tgt : Nat) (hd : decode M.2.1 pc = .ok (.tableswitch dflt lo hi offs, len)) (h1 : ¬ x.toInt < lo) (h2 : ¬ hi < x.toInt) (ho : offs[(x.toInt - lo).toNat]? = some off) (ht : (pc : Int) + off = (tgt : Int)) (k : mJ M tgt ls st h r h') : mJ M pc ls (.int x :: st) h r h' := by
  intro p l e s m args below meth c D g ad A H locs la C K hA hL hP hD hS
  exact lv_tableIn C.1 C.2.1 hd h1 h2 ho ht (k p l e s m args below meth c D g ad A H locs la C K hA hL hP hD hS)
theorem mJ_tout {dflt lo hi : Int} {offs : Array Int} {len : Nat} {x : Int32} (tgt : Nat) (hd : decode M.2.1 pc = .ok (.tableswitch dflt lo hi offs, len)) (h1 : x.toInt < lo ∨ hi < x.toInt) (ht : (pc : Int) + dflt = (tgt : Int)) (k : mJ M tgt ls st h r h') : mJ M pc ls (.int x :: st) h r h' := by
  intro p l e s m args below meth c D g ad A H locs la C K hA hL hP hD hS
  exact lv_tableOut C.1 C.2.1 hd h1 ht (k p l e s m args below meth c D g ad A H locs la C K hA hL hP hD hS)
theorem mJ_lsw {dflt : Int} {ps : Array (Int × Int)} {len : Nat} {x : Int32} {off : Int} (tgt : Nat) (hd : decode M.2.1 pc = .ok (.lookupswitch dflt ps, len)) (hp : (ps.toList.zip (ps.toList.drop 1)).all (fun (a, next) => a.1 < next.1) = true) (ho : Op.lookupswitch.offset ps.toList dflt x.toInt = off) (ht : (pc : Int) + off = (tgt : Int)) (k : mJ M tgt ls st h r h') : mJ M pc ls (.int x :: st) h r h' := by
  intro p l e s m args below meth c D g ad A H locs la C K hA hL hP hD hS
  exact lv_lookup C.1 C.2.1 hd hp ho ht (k p l e s m args below meth c D g ad A H locs la C K hA hL hP hD hS)
/-- a field by its link: class number ci, slot k -/
def m_fld (own : String) (idx ci k : Nat) : Prop := ∃ (C : String) (T : u_T) (N : Nat), vwCl[ci]? = some (C, T, N) ∧ k < N ∧ (∀ w ∈ u_ws C T N, m_in w) ∧ (m_in (.fieldLink own idx (T k).1 (T k).2.1 (T k).2.2.1) ∨ ∃ host, m_in (.fieldLinkNest own idx (T k).1 (T k).2.1 (T k).2.2.1 host))
def m_fldp (own : String) (idx ci k : Nat) (ty : FieldType) : Prop := ∃ (C : String) (T : u_T) (N : Nat) (ty0 : Nat → FieldType), vwCl[ci]? = some (C, T, N) ∧ k < N ∧ (∀ w ∈ u_ws C T N, m_in w) ∧ (m_in (.fieldLink own idx (T k).1 (T k).2.1 (T k).2.2.1) ∨ ∃ host, m_in (.fieldLinkNest own idx (T k).1 (T k).2.1 (T k).2.2.1 host)) ∧ (∀ k, k < N → parseFieldDescriptor (T k).2.2.1 = some (ty0 k)) ∧ (∀ a, a < N → ∀ b, b < N → a ≠ b → (T a).2.1 ≠ (T b).2.1) ∧ (T k).2.2.2 = false ∧ ty0 k = ty
theorem mJ_get {a idx ci k : Nat} {fs : List Value} {v : Value} (hd : decode M.2.1 pc = .ok (.getfield idx, 3)) (hf : m_fld M.1.cls idx ci k) (hc : h[a]? = some (.inr (ci, fs))) (hv : fs[k]? = some v) (kk : mJ M (pc + 3) ls (v :: st) h r h') : mJ M pc ls (.ref a :: st) h r h' := by
  intro p l e s m args below meth c D g ad A H locs la C K hA hL hP hD hS
  obtain ⟨C0, T, N, f1, f2, f3, f4⟩ := hf
  have hw := m_w_at (g := g) (ad := ad) hc
  have hv' : (fs.map (m_v ad))[k]? = some (m_v ad v) := by rw [List.getElem?_map, hv]; rfl
  rcases f4 with f4 | ⟨host, f4⟩
  · exact va_get C.1 C.2.1 C.2.2.2.2.2.1 (fun w hw => m_in_tbl (f3 w hw)) C.2.2.2.2.1 K hP a hw f1 k f2 (m_cx_in C f4) (fun _ z => z) hv' hd (kk p l e s m args below meth c D g ad A H locs la C K hA hL hP hD hS)
  · exact va_getN C.1 C.2.1 C.2.2.2.2.2.1 (fun w hw => m_in_tbl (f3 w hw)) C.2.2.2.2.1 K hP a hw f1 k f2 (m_cx_in C f4) (fun _ z => z) hv' hd (kk p l e s m args below meth c D g ad A H locs la C K hA hL hP hD hS)
theorem mJ_put {a idx ci k : Nat} {ty : FieldType} {fs : List Value} {x : Int32} (hd : decode M.2.1 pc = .ok (.putfield idx, 3)) (hf : m_fldp M.1.cls idx ci k ty) (hc : h[a]? = some (.inr (ci, fs))) (hl : k < fs.length) (hn : narrow ty (.int x) = .int x) (hfit : fits ty (.int x) = true) {h2 : List mC} (hs : h.set a (.inr (ci, fs.set k (.int x))) = h2) (kk : mJ M (pc + 3) ls st h2 r h') : mJ M pc ls (.int x :: .ref a :: st) h r h' := by
  subst hs
  intro p l e s m args below meth c D g ad A H locs la C K hA hL hP hD hS
  obtain ⟨C0, T, N, ty0, f1, f2, f3, f4, f5, f6, f7, f8⟩ := hf
  have hw := m_w_at (g := g) (ad := ad) hc
  have eW : (m_w g ad h).set a (ad a, .inr (ci, (fs.map (m_v ad)).set k (.int x))) = m_w g ad (h.set a (.inr (ci, fs.set k (.int x)))) := by
    rw [← m_w_set]
    show _ = (m_w g ad h).set a (ad a, .inr (ci, (fs.set k (.int x)).map (m_v ad)))
    rw [List.map_set]
    rfl
  rcases f4 with f4 | ⟨host, f4⟩
  · refine va_put C.1 C.2.1 C.2.2.2.2.2.1 (fun w hw => m_in_tbl (f3 w hw)) ty0 f5 f6 C.2.2.2.2.1 K hP hD hS a hw f1 k f2 (m_cx_in C f4) (fun _ z => z) f7 (ty := ty) (v := .int x) (by rw [f5 k f2, f8]) hn hfit (by rw [List.length_map]; exact hl) hd (fun H1 locs1 hP1 hD1 hS1 => ?_)
    rw [eW] at hP1 hD1
    exact kk p l e s m args below meth c D g ad A H1 locs1 la C K hA hL hP1 hD1 hS1
  · refine va_putN C.1 C.2.1 C.2.2.2.2.2.1 (fun w hw => m_in_tbl (f3 w hw)) ty0 f5 f6 C.2.2.2.2.1 K hP hD hS a hw f1 k f2 (m_cx_in C f4) (fun _ z => z) f7 (ty := ty) (v := .int x) (by rw [f5 k f2, f8]) hn hfit (by rw [List.length_map]; exact hl) hd (fun H1 locs1 hP1 hD1 hS1 => ?_)
    rw [eW] at hP1 hD1
    exact kk p l e s m args below meth c D g ad A H1 locs1 la C K hA hL hP1 hD1 hS1
theorem mJ_alen {a t n : Nat} {f : Nat → Int32} {v : Int32} (hd : decode M.2.1 pc = .ok (.arraylength, 1)) (hc : h[a]? = some (.inl (t, n, f))) (ht : t < 2) (hv : Int32.ofNat n = v) (kk : mJ M (pc + 1) ls (.int v :: st) h r h') : mJ M pc ls (.ref a :: st) h r h' := by
  intro p l e s m args below meth c D g ad A H locs la C K hA hL hP hD hS
  have hw := m_w_at (g := g) (ad := ad) hc
  rcases (show t = 0 ∨ t = 1 by omega) with rfl | rfl
  · exact va_alen (tys := m_tys g) C.1 C.2.1 K hP a 0 hw rfl hv hd (kk p l e s m args below meth c D g ad A H locs la C K hA hL hP hD hS)
  · exact va_alen (tys := m_tys g) C.1 C.2.1 K hP a 1 hw rfl hv hd (kk p l e s m args below meth c D g ad A H locs la C K hA hL hP hD hS)
theorem mJ_iald {a n : Nat} {f : Nat → Int32} {i : Int32} (hd : decode M.2.1 pc = .ok (.iaload, 1)) (hc : h[a]? = some (.inl (0, n, f))) (hin : vp_in i n) {v : Int32} (hv : f i.toNatClampNeg = v) (kk : mJ M (pc + 1) ls (.int v :: st) h r h') : mJ M pc ls (.int i :: .ref a :: st) h r h' := by
  subst hv
  intro p l e s m args below meth c D g ad A H locs la C K hA hL hP hD hS
  exact va_iald (tys := m_tys g) C.1 C.2.1 K hP a 0 (m_w_at (g := g) (ad := ad) hc) rfl hin hd (kk p l e s m args below meth c D g ad A H locs la C K hA hL hP hD hS)
theorem mJ_cald {a n : Nat} {f : Nat → Int32} {i : Int32} (hd : decode M.2.1 pc = .ok (.caload, 1)) (hc : h[a]? = some (.inl (1, n, f))) (hin : vp_in i n) {v : Int32} (hv : f i.toNatClampNeg = v) (kk : mJ M (pc + 1) ls (.int v :: st) h r h') : mJ M pc ls (.int i :: .ref a :: st) h r h' := by
  subst hv
  intro p l e s m args below meth c D g ad A H locs la C K hA hL hP hD hS
  exact va_cald (tys := m_tys g) C.1 C.2.1 K hP a 1 (m_w_at (g := g) (ad := ad) hc) rfl hin hd (kk p l e s m args below meth c D g ad A H locs la C K hA hL hP hD hS)
theorem mJ_iast {a n : Nat} {f : Nat → Int32} {i x : Int32} (hd : decode M.2.1 pc = .ok (.iastore, 1)) (hc : h[a]? = some (.inl (0, n, f))) (hin : vp_in i n) {h2 : List mC} (hs : h.set a (.inl (0, n, upd f i.toNatClampNeg x)) = h2) (kk : mJ M (pc + 1) ls st h2 r h') : mJ M pc ls (.int x :: .int i :: .ref a :: st) h r h' := by
  subst hs
  intro p l e s m args below meth c D g ad A H locs la C K hA hL hP hD hS
  refine va_iast (tys := m_tys g) C.1 C.2.1 K hP hD hS a 0 (m_w_at (g := g) (ad := ad) hc) rfl hin hd (fun H1 locs1 hP1 hD1 hS1 => ?_)
  have eW : (m_w g ad h).set a (ad a, .inl (g 0, n, .inl (upd f i.toNatClampNeg x))) = m_w g ad (h.set a (.inl (0, n, upd f i.toNatClampNeg x))) := by rw [← m_w_set]; rfl
  rw [eW] at hP1 hD1
  exact kk p l e s m args below meth c D g ad A H1 locs1 la C K hA hL hP1 hD1 hS1
theorem mJ_cast {a n : Nat} {f : Nat → Int32} {i x : Int32} (hd : decode M.2.1 pc = .ok (.castore, 1)) (hc : h[a]? = some (.inl (1, n, f))) (hin : vp_in i n) (hx : vp_nar .char x = x) {h2 : List mC} (hs : h.set a (.inl (1, n, upd f i.toNatClampNeg x)) = h2) (kk : mJ M (pc + 1) ls st h2 r h') : mJ M pc ls (.int x :: .int i :: .ref a :: st) h r h' := by
  subst hs
  intro p l e s m args below meth c D g ad A H locs la C K hA hL hP hD hS
  refine va_cast (tys := m_tys g) C.1 C.2.1 K hP hD hS a 1 (m_w_at (g := g) (ad := ad) hc) rfl hin hd (fun H1 locs1 hP1 hD1 hS1 => ?_)
  rw [hx] at hP1 hD1
  have eW : (m_w g ad h).set a (ad a, .inl (g 1, n, .inl (upd f i.toNatClampNeg x))) = m_w g ad (h.set a (.inl (1, n, upd f i.toNatClampNeg x))) := by rw [← m_w_set]; rfl
  rw [eW] at hP1 hD1
  exact kk p l e s m args below meth c D g ad A H1 locs1 la C K hA hL hP1 hD1 hS1
theorem mJ_iret {v : Int32} (hd : decode M.2.1 pc = .ok (.ireturn, 1)) (hr : M.2.2.2.1 = some .int) (hv : r = some (.int v)) (hh : h = h') : mJ M pc ls [.int v] h r h' := by
  subst hv; subst hh
  intro p l e s m args below meth c D g ad A H locs la C K hA hL hP hD hS
  exact W.iret (v := v) C.1 C.2.1 (C.2.2.1.trans hr) (fun t ht hW => ⟨⟨rfl, by rw [ht]; exact hP, hD⟩, hS.F ht⟩) hS.2.2 hd C.2.2.2.2.2.2
theorem m_nz {v : Int32} (hz : v = 0 ∨ v = 1) : narrow .boolean (.int v) = .int v ∧ fits .boolean (.int v) = true := by
  rcases hz with rfl | rfl <;> exact ⟨rfl, by decide⟩
theorem mJ_zret {v : Int32} (hd : decode M.2.1 pc = .ok (.ireturn, 1)) (hr : M.2.2.2.1 = some .boolean) (hz : v = 0 ∨ v = 1) (hv : r = some (.int v)) (hh : h = h') : mJ M pc ls [.int v] h r h' := by
  subst hv; subst hh
  intro p l e s m args below meth c D g ad A H locs la C K hA hL hP hD hS
  exact W.zret (v := v) (ty := .boolean) C.1 C.2.1 (C.2.2.1.trans hr) (m_nz hz).1 (fun t ht hW => ⟨⟨rfl, by rw [ht]; exact hP, hD⟩, hS.F ht⟩) hS.2.2 hd C.2.2.2.2.2.2
theorem mJ_vret (hd : decode M.2.1 pc = .ok (.return_, 1)) (hr : M.2.2.2.1 = none) (hv : r = none) (hh : h = h') : mJ M pc ls [] h r h' := by
  subst hv; subst hh
  intro p l e s m args below meth c D g ad A H locs la C K hA hL hP hD hS
  exact W.vret C.1 C.2.1 (C.2.2.1.trans hr) (fun t ht hW => ⟨⟨rfl, by rw [ht]; exact hP, hD⟩, hS.F ht⟩) hS.2.2 hd C.2.2.2.2.2.2
/-- a callee: what the tables say of it -/
def m_me (M2 : mM) (n : Nat) : Prop := m_in (.code M2.1 M2.2.1 M2.2.2.1 M2.2.2.2.1) ∧ m_in (.initialized M2.1.cls) ∧ (M2.1.cls ≠ "java/lang/invoke/MethodHandle" ∧ M2.1.cls ≠ "java/lang/invoke/VarHandle") ∧ (parseMethodDescriptor M2.1.desc).map (fun d => d.parameters.length) = some n ∧ M2.2.2.2.2.cells = 0 ∧ M2.2.2.2.2.slots = 0
def m_mev (M2 : mM) (n : Nat) : Prop := m_me M2 n ∧ m_in (.instanceMethod M2.1) ∧ m_in (.selects M2.1.cls M2.1 M2.1)
def m_mes (M2 : mM) (n : Nat) : Prop := m_me M2 n ∧ m_in (.static M2.1)
def m_lk (own : String) (idx : Nat) (y : MethodName) : Prop := m_in (.methodLink own idx y) ∨ ∃ host, m_in (.methodLinkNest own idx y host)
def m_rm (M M2 : mM) : Prop := M2.2.2.2.2.frames + 1 ≤ M.2.2.2.2.frames ∧ 8 + (M2.2.2.1 + 11) + M2.2.2.2.2.locals ≤ M.2.2.2.2.locals
theorem m_blind {D : va_G} {g : Nat → ClassId} {ad : Nat → Nat} {h : List mC} {av : List Value} {sz : Nat} : FrameBlind (va_Pc av (fun U => U.heap.size = sz ∧ va_P D vwCl (m_w g ad h) U.heap ∧ va_K D vwCl (m_tys g) U ∧ va_D (fun _ => True) (m_w g ad h))) :=
  fun a U gg mk q => by
    obtain ⟨q0, q1, qP, qK, qD⟩ := q
    exact ⟨q0, q1, qP, va_K.moved (u := U) (U := U.calling gg mk a) (Vm.Alike.refl U.vm) qK, qD⟩
theorem m_keep {M : mM} {p : Program} {s : State} {m : MethodId} {args : Array Value} {meth : Method} {c : Code} (C : m_cx M p s m args meth c) {M2 : mM} (hc : m_in (.code M2.1 M2.2.1 M2.2.2.1 M2.2.2.2.1)) : ∀ w ∈ m_ws M2, ∀ (a' : Array Value) (U : State), s.WarmedH U.vm → w.before a' U = true := by
  intro w hw a' U hW
  rcases List.mem_cons.mp hw with rfl | hw
  · exact m_okW_keep hc.2 hW (m_cx_in C hc)
  · exact m_okW_keep (List.mem_filter.mp hw).2 hW (C.2.2.2.2.2.1 w hw)
theorem m_goes {p : Program} {l : Launch} {e : Env} {R : Room} {s : State} {m : MethodId} {args : Array Value} {below : List Frame} {meth : Method} {c : Code} {H : Heap} {locs : List Loc} {Q : State → Prop} {la : Array Slot} {st0 rest : List Value} {D : va_G} {g : Nat → ClassId} {ad : Nat → Nat} {A A1 : Nat → Prop} {h2 : List mC} {r2 : Option Value} {a : Array Value} {free : Addr → Prop}
    (hr : va_Run p l e R s m args below meth c H locs 0 0 0 0 (F0 m pc la st0) rest (m_Q D g ad A1 r2 h2 a) free) (hS : va_S A s.heap H locs) (hA : ∀ q, A1 q → A q) (hf : ∀ q, free q → A q)
    (kk : ∀ (H1 : Heap) (locs1 : List Loc), va_P D vwCl (m_w g ad h2) H1 → va_D A (m_w g ad h2) → va_S A s.heap H1 locs1 → W p l e R s m args below meth c H1 locs1 0 0 Q (F0 m (pc + 3) la ((r2.map (m_v ad)).toList ++ rest))) : W p l e R s m args below meth c H locs 0 0 Q (F0 m pc la st0) := by
  intro T hT X
  obtain ⟨v, st₀, t, T', L, h0, X', hL, e1, e2, ⟨⟨hv, hP, hD⟩, hz, hk⟩, st⟩ := hr T hT X
  cases hv
  rw [h0] at hz hk
  obtain ⟨t2, a1, b1⟩ := kk T'.heap (locs ++ L) (by rw [e1]; exact hP) (hD.weaken (fun _ q _ h => hA q.1 h))
    ⟨Nat.le_trans hS.1 (by rw [e1]; exact hz), fun q h1 h2 => by rw [e1, hk q (Nat.lt_of_lt_of_le h1 hS.1) (fun z => h2 (hA q z))]; exact hS.2.1 q h1 h2, fun q hq => by
      rcases List.mem_append.mp hq with h | h
      · exact hS.2.2 q h
      · exact hf _ (hL q h)⟩ T' rfl X'
  exact ⟨t2, st t2 a1, b1⟩
theorem m_fr {A : Nat → Prop} {g : Nat → ClassId} {ad : Nat → Nat} {s : State} {H : Heap} {locs : List Loc} (hD : va_D A (m_w g ad h)) (hS : va_S A s.heap H locs) (hA : ∀ q : Nat, s.heap.size ≤ q → A q) : ∀ q, va_A (m_w g ad h) H.size q → A q := by
  intro q hq
  rcases hq with ⟨k, e, hk⟩ | hq
  · exact hD.2 k _ hk
  · exact hA q (Nat.le_trans hS.1 hq)
theorem m_app {ad : Nat → Nat} {r2 : Option Value} {rest : List Value} : (r2.map (m_v ad)).toList ++ rest.map (m_v ad) = (r2.toList ++ rest).map (m_v ad) := by cases r2 <;> rfl
theorem m_cats {ad : Nat → Nat} {rest : List Value} : ((rest.map (m_v ad)).map fun v => v.category).sum = (rest.map fun v => v.category).sum := by
  rw [List.map_map]
  congr 1
  apply List.map_congr_left
  intro v _
  exact m_cat ad v
theorem mJ_cV {M2 : mM} {idx n a ci : Nat} {fs As rest : List Value} {r2 : Option Value} {h2 : List mC} (hd : decode M.2.1 pc = .ok (.invokevirtual idx, 3)) (hm : m_mev M2 n) (hk : m_lk M.1.cls idx M2.1) (hR : m_rm M M2) (hn : As.length = n) (hc : h[a]? = some (.inr (ci, fs))) (hcl : (vwCl[ci]?).map (fun q => q.1) = some M2.1.cls) (hst : st = As.reverse ++ .ref a :: rest) (hcat : (rest.map fun v => v.category).sum ≤ 8)
    (ct : mCt M2 (.ref a :: As) h r2 h2) (kk : mJ M (pc + 3) ls (r2.toList ++ rest) h2 r h') : mJ M pc ls st h r h' := by
  subst hst
  intro p l e s m args below meth c D g ad A H locs la C K hA hL hP hD hS
  obtain ⟨⟨m1, m2, m3, m4, m5, m6⟩, m7, m8⟩ := hm
  have hF := m_fr (h := h) hD hS hA
  obtain ⟨cq, hcq, hcn⟩ := Option.map_eq_some_iff.mp hcl
  have hrcv := va_recv K hP hcq (m_w_at (g := g) (ad := ad) hc)
  have hn2 : ∀ sig, parseMethodDescriptor M2.1.desc = some sig → n = sig.parameters.length := fun sig h => by
    rw [h] at m4
    exact (Option.some.inj m4).symm
  have hpre : PreV s H cq.1 (ad a) (va_Pc ((.ref a :: As).map (m_v ad)) (fun U => U.heap.size = H.size ∧ va_P D vwCl (m_w g ad h) U.heap ∧ va_K D vwCl (m_tys g) U ∧ va_D (fun _ => True) (m_w g ad h))) (As.map (m_v ad)) :=
    ⟨m_blind, hrcv, fun U hU hW => ⟨rfl, by rw [hU], by rw [hU]; exact hP, va_K.moved hW.alike K, hD.weaken (fun _ _ _ _ => trivial)⟩⟩
  have hstk : (As.reverse ++ Value.ref a :: rest).map (m_v ad) = (As.map (m_v ad)).reverse ++ .ref (ad a) :: rest.map (m_v ad) := by simp [m_v]
  rw [hstk]
  rcases hk with hk | ⟨host, hk⟩
  · refine m_goes (va_runV (C := cq.1) ⟨C.1, C.2.1, C.2.2.2.1, C.2.2.2.2.1, C.2.2.2.2.2.1⟩ (ct l D g ad H.size) (n := n) ⟨⟨m5, m6, hR.1, hR.2, m_keep C m1, List.mem_cons_self, m_cx_in C m1, m_cx_in C m2, m3, hn2, m_cx_in C hk⟩, m_cx_in C m7, by rw [hcn]; exact m_cx_in C m8⟩ hpre rfl (by rw [List.length_map]; exact hn) hL.1 rfl (lv_room (by rw [m_cats]; exact hcat)) hd ⟨Nat.zero_le _, Nat.zero_le _⟩) hS hF hF (fun H1 locs1 hP1 hD1 hS1 => ?_)
    rw [m_app]
    exact kk p l e s m args below meth c D g ad A H1 locs1 la C K hA hL hP1 hD1 hS1
  · refine m_goes (va_runVN (C := cq.1) ⟨C.1, C.2.1, C.2.2.2.1, C.2.2.2.2.1, C.2.2.2.2.2.1⟩ (ct l D g ad H.size) (n := n) ⟨⟨⟨m5, m6, hR.1, hR.2, m_keep C m1, List.mem_cons_self⟩, m_cx_in C m1, m_cx_in C m2, m3, hn2, m_cx_in C hk⟩, m_cx_in C m7, by rw [hcn]; exact m_cx_in C m8⟩ hpre rfl (by rw [List.length_map]; exact hn) hL.1 rfl (lv_room (by rw [m_cats]; exact hcat)) hd ⟨Nat.zero_le _, Nat.zero_le _⟩) hS hF hF (fun H1 locs1 hP1 hD1 hS1 => ?_)
    rw [m_app]
    exact kk p l e s m args below meth c D g ad A H1 locs1 la C K hA hL hP1 hD1 hS1
theorem mJ_cS {M2 : mM} {idx n : Nat} {As rest : List Value} {r2 : Option Value} {h2 : List mC} (hd : decode M.2.1 pc = .ok (.invokestatic idx, 3)) (hm : m_mes M2 n) (hk : m_lk M.1.cls idx M2.1) (hR : m_rm M M2) (hn : As.length = n) (hst : st = As.reverse ++ rest) (hcat : (rest.map fun v => v.category).sum ≤ 8)
    (ct : mCt M2 As h r2 h2) (kk : mJ M (pc + 3) ls (r2.toList ++ rest) h2 r h') : mJ M pc ls st h r h' := by
  subst hst
  intro p l e s m args below meth c D g ad A H locs la C K hA hL hP hD hS
  obtain ⟨⟨m1, m2, m3, m4, m5, m6⟩, m7⟩ := hm
  have hF := m_fr (h := h) hD hS hA
  have hn2 : ∀ sig, parseMethodDescriptor M2.1.desc = some sig → n = sig.parameters.length := fun sig h => by
    rw [h] at m4
    exact (Option.some.inj m4).symm
  have hpre : PreS s H (va_Pc (As.map (m_v ad)) (fun U => U.heap.size = H.size ∧ va_P D vwCl (m_w g ad h) U.heap ∧ va_K D vwCl (m_tys g) U ∧ va_D (fun _ => True) (m_w g ad h))) (As.map (m_v ad)) :=
    ⟨m_blind, fun U hU hW => ⟨rfl, by rw [hU], by rw [hU]; exact hP, va_K.moved hW.alike K, hD.weaken (fun _ _ _ _ => trivial)⟩⟩
  have hstk : (As.reverse ++ rest).map (m_v ad) = (As.map (m_v ad)).reverse ++ rest.map (m_v ad) := by simp
  rw [hstk]
  rcases hk with hk | ⟨host, hk⟩
  · refine m_goes (va_runS ⟨C.1, C.2.1, C.2.2.2.1, C.2.2.2.2.1, C.2.2.2.2.2.1⟩ (ct l D g ad H.size) (n := n) ⟨⟨m5, m6, hR.1, hR.2, m_keep C m1, List.mem_cons_self, m_cx_in C m1, m_cx_in C m2, m3, hn2, m_cx_in C hk⟩, m_cx_in C m7⟩ hpre rfl (by rw [List.length_map]; exact hn) hL.1 rfl (lv_room (by rw [m_cats]; exact hcat)) hd ⟨Nat.zero_le _, Nat.zero_le _⟩) hS hF hF (fun H1 locs1 hP1 hD1 hS1 => ?_)
    rw [m_app]
    exact kk p l e s m args below meth c D g ad A H1 locs1 la C K hA hL hP1 hD1 hS1
  · refine m_goes (va_runSN ⟨C.1, C.2.1, C.2.2.2.1, C.2.2.2.2.1, C.2.2.2.2.2.1⟩ (ct l D g ad H.size) (n := n) ⟨⟨⟨m5, m6, hR.1, hR.2, m_keep C m1, List.mem_cons_self⟩, m_cx_in C m1, m_cx_in C m2, m3, hn2, m_cx_in C hk⟩, m_cx_in C m7, trivial⟩ hpre rfl (by rw [List.length_map]; exact hn) hL.1 rfl (lv_room (by rw [m_cats]; exact hcat)) hd ⟨Nat.zero_le _, Nat.zero_le _⟩) hS hF hF (fun H1 locs1 hP1 hD1 hS1 => ?_)
    rw [m_app]
    exact kk p l e s m args below meth c D g ad A H1 locs1 la C K hA hL hP1 hD1 hS1
theorem mJ_cV0i {M2 : mM} {idx a ci : Nat} {fs : List Value} {x : Int32} {h2 : List mC} (hd : decode M.2.1 pc = .ok (.invokevirtual idx, 3)) (hm : m_mev M2 0) (hk : m_lk M.1.cls idx M2.1) (hR : m_rm M M2) (hc : h[a]? = some (.inr (ci, fs))) (hcl : (vwCl[ci]?).map (fun q => q.1) = some M2.1.cls) (hcat : (st.map fun v => v.category).sum ≤ 8) (ct : mCt M2 (.ref a :: []) h (some (.int x)) h2) (kk : mJ M (pc + 3) ls (.int x :: st) h2 r h') : mJ M pc ls (.ref a :: st) h r h' :=
  mJ_cV (As := []) hd hm hk hR rfl hc hcl rfl hcat ct kk
theorem mJ_cV0v {M2 : mM} {idx a ci : Nat} {fs : List Value} {h2 : List mC} (hd : decode M.2.1 pc = .ok (.invokevirtual idx, 3)) (hm : m_mev M2 0) (hk : m_lk M.1.cls idx M2.1) (hR : m_rm M M2) (hc : h[a]? = some (.inr (ci, fs))) (hcl : (vwCl[ci]?).map (fun q => q.1) = some M2.1.cls) (hcat : (st.map fun v => v.category).sum ≤ 8) (ct : mCt M2 (.ref a :: []) h none h2) (kk : mJ M (pc + 3) ls st h2 r h') : mJ M pc ls (.ref a :: st) h r h' :=
  mJ_cV (As := []) hd hm hk hR rfl hc hcl rfl hcat ct kk
theorem mJ_cV1i {M2 : mM} {idx a ci : Nat} {fs : List Value} {v1 : Value} {x : Int32} {h2 : List mC} (hd : decode M.2.1 pc = .ok (.invokevirtual idx, 3)) (hm : m_mev M2 1) (hk : m_lk M.1.cls idx M2.1) (hR : m_rm M M2) (hc : h[a]? = some (.inr (ci, fs))) (hcl : (vwCl[ci]?).map (fun q => q.1) = some M2.1.cls) (hcat : (st.map fun v => v.category).sum ≤ 8) (ct : mCt M2 (.ref a :: [v1]) h (some (.int x)) h2) (kk : mJ M (pc + 3) ls (.int x :: st) h2 r h') : mJ M pc ls (v1 :: .ref a :: st) h r h' :=
  mJ_cV (As := [v1]) hd hm hk hR rfl hc hcl rfl hcat ct kk
theorem mJ_cS1i {M2 : mM} {idx : Nat} {v1 : Value} {x : Int32} {h2 : List mC} (hd : decode M.2.1 pc = .ok (.invokestatic idx, 3)) (hm : m_mes M2 1) (hk : m_lk M.1.cls idx M2.1) (hR : m_rm M M2) (hcat : (st.map fun v => v.category).sum ≤ 8) (ct : mCt M2 [v1] h (some (.int x)) h2) (kk : mJ M (pc + 3) ls (.int x :: st) h2 r h') : mJ M pc ls (v1 :: st) h r h' :=
  mJ_cS (As := [v1]) hd hm hk hR rfl rfl hcat ct kk
theorem mJ_cV1v {M2 : mM} {idx a ci : Nat} {fs : List Value} {v1 : Value} {h2 : List mC} (hd : decode M.2.1 pc = .ok (.invokevirtual idx, 3)) (hm : m_mev M2 1) (hk : m_lk M.1.cls idx M2.1) (hR : m_rm M M2) (hc : h[a]? = some (.inr (ci, fs))) (hcl : (vwCl[ci]?).map (fun q => q.1) = some M2.1.cls) (hcat : (st.map fun v => v.category).sum ≤ 8) (ct : mCt M2 (.ref a :: [v1]) h none h2) (kk : mJ M (pc + 3) ls st h2 r h') : mJ M pc ls (v1 :: .ref a :: st) h r h' :=
  mJ_cV (As := [v1]) hd hm hk hR rfl hc hcl rfl hcat ct kk
theorem mJ_cV2i {M2 : mM} {idx a ci : Nat} {fs : List Value} {v1 v2 : Value} {x : Int32} {h2 : List mC} (hd : decode M.2.1 pc = .ok (.invokevirtual idx, 3)) (hm : m_mev M2 2) (hk : m_lk M.1.cls idx M2.1) (hR : m_rm M M2) (hc : h[a]? = some (.inr (ci, fs))) (hcl : (vwCl[ci]?).map (fun q => q.1) = some M2.1.cls) (hcat : (st.map fun v => v.category).sum ≤ 8) (ct : mCt M2 (.ref a :: [v1, v2]) h (some (.int x)) h2) (kk : mJ M (pc + 3) ls (.int x :: st) h2 r h') : mJ M pc ls (v2 :: v1 :: .ref a :: st) h r h' :=
  mJ_cV (As := [v1, v2]) hd hm hk hR rfl hc hcl rfl hcat ct kk
theorem mJ_cS2i {M2 : mM} {idx : Nat} {v1 v2 : Value} {x : Int32} {h2 : List mC} (hd : decode M.2.1 pc = .ok (.invokestatic idx, 3)) (hm : m_mes M2 2) (hk : m_lk M.1.cls idx M2.1) (hR : m_rm M M2) (hcat : (st.map fun v => v.category).sum ≤ 8) (ct : mCt M2 [v1, v2] h (some (.int x)) h2) (kk : mJ M (pc + 3) ls (.int x :: st) h2 r h') : mJ M pc ls (v2 :: v1 :: st) h r h' :=
  mJ_cS (As := [v1, v2]) hd hm hk hR rfl rfl hcat ct kk
theorem mJ_cV2v {M2 : mM} {idx a ci : Nat} {fs : List Value} {v1 v2 : Value} {h2 : List mC} (hd : decode M.2.1 pc = .ok (.invokevirtual idx, 3)) (hm : m_mev M2 2) (hk : m_lk M.1.cls idx M2.1) (hR : m_rm M M2) (hc : h[a]? = some (.inr (ci, fs))) (hcl : (vwCl[ci]?).map (fun q => q.1) = some M2.1.cls) (hcat : (st.map fun v => v.category).sum ≤ 8) (ct : mCt M2 (.ref a :: [v1, v2]) h none h2) (kk : mJ M (pc + 3) ls st h2 r h') : mJ M pc ls (v2 :: v1 :: .ref a :: st) h r h' :=
  mJ_cV (As := [v1, v2]) hd hm hk hR rfl hc hcl rfl hcat ct kk
theorem mJ_cV3i {M2 : mM} {idx a ci : Nat} {fs : List Value} {v1 v2 v3 : Value} {x : Int32} {h2 : List mC} (hd : decode M.2.1 pc = .ok (.invokevirtual idx, 3)) (hm : m_mev M2 3) (hk : m_lk M.1.cls idx M2.1) (hR : m_rm M M2) (hc : h[a]? = some (.inr (ci, fs))) (hcl : (vwCl[ci]?).map (fun q => q.1) = some M2.1.cls) (hcat : (st.map fun v => v.category).sum ≤ 8) (ct : mCt M2 (.ref a :: [v1, v2, v3]) h (some (.int x)) h2) (kk : mJ M (pc + 3) ls (.int x :: st) h2 r h') : mJ M pc ls (v3 :: v2 :: v1 :: .ref a :: st) h r h' :=
  mJ_cV (As := [v1, v2, v3]) hd hm hk hR rfl hc hcl rfl hcat ct kk
theorem mJ_cS3i {M2 : mM} {idx : Nat} {v1 v2 v3 : Value} {x : Int32} {h2 : List mC} (hd : decode M.2.1 pc = .ok (.invokestatic idx, 3)) (hm : m_mes M2 3) (hk : m_lk M.1.cls idx M2.1) (hR : m_rm M M2) (hcat : (st.map fun v => v.category).sum ≤ 8) (ct : mCt M2 [v1, v2, v3] h (some (.int x)) h2) (kk : mJ M (pc + 3) ls (.int x :: st) h2 r h') : mJ M pc ls (v3 :: v2 :: v1 :: st) h r h' :=
  mJ_cS (As := [v1, v2, v3]) hd hm hk hR rfl rfl hcat ct kk
theorem mJ_cV3v {M2 : mM} {idx a ci : Nat} {fs : List Value} {v1 v2 v3 : Value} {h2 : List mC} (hd : decode M.2.1 pc = .ok (.invokevirtual idx, 3)) (hm : m_mev M2 3) (hk : m_lk M.1.cls idx M2.1) (hR : m_rm M M2) (hc : h[a]? = some (.inr (ci, fs))) (hcl : (vwCl[ci]?).map (fun q => q.1) = some M2.1.cls) (hcat : (st.map fun v => v.category).sum ≤ 8) (ct : mCt M2 (.ref a :: [v1, v2, v3]) h none h2) (kk : mJ M (pc + 3) ls st h2 r h') : mJ M pc ls (v3 :: v2 :: v1 :: .ref a :: st) h r h' :=
  mJ_cV (As := [v1, v2, v3]) hd hm hk hR rfl hc hcl rfl hcat ct kk
theorem mJ_cV4i {M2 : mM} {idx a ci : Nat} {fs : List Value} {v1 v2 v3 v4 : Value} {x : Int32} {h2 : List mC} (hd : decode M.2.1 pc = .ok (.invokevirtual idx, 3)) (hm : m_mev M2 4) (hk : m_lk M.1.cls idx M2.1) (hR : m_rm M M2) (hc : h[a]? = some (.inr (ci, fs))) (hcl : (vwCl[ci]?).map (fun q => q.1) = some M2.1.cls) (hcat : (st.map fun v => v.category).sum ≤ 8) (ct : mCt M2 (.ref a :: [v1, v2, v3, v4]) h (some (.int x)) h2) (kk : mJ M (pc + 3) ls (.int x :: st) h2 r h') : mJ M pc ls (v4 :: v3 :: v2 :: v1 :: .ref a :: st) h r h' :=
  mJ_cV (As := [v1, v2, v3, v4]) hd hm hk hR rfl hc hcl rfl hcat ct kk
theorem mJ_cS4i {M2 : mM} {idx : Nat} {v1 v2 v3 v4 : Value} {x : Int32} {h2 : List mC} (hd : decode M.2.1 pc = .ok (.invokestatic idx, 3)) (hm : m_mes M2 4) (hk : m_lk M.1.cls idx M2.1) (hR : m_rm M M2) (hcat : (st.map fun v => v.category).sum ≤ 8) (ct : mCt M2 [v1, v2, v3, v4] h (some (.int x)) h2) (kk : mJ M (pc + 3) ls (.int x :: st) h2 r h') : mJ M pc ls (v4 :: v3 :: v2 :: v1 :: st) h r h' :=
  mJ_cS (As := [v1, v2, v3, v4]) hd hm hk hR rfl rfl hcat ct kk
theorem mJ_cV4v {M2 : mM} {idx a ci : Nat} {fs : List Value} {v1 v2 v3 v4 : Value} {h2 : List mC} (hd : decode M.2.1 pc = .ok (.invokevirtual idx, 3)) (hm : m_mev M2 4) (hk : m_lk M.1.cls idx M2.1) (hR : m_rm M M2) (hc : h[a]? = some (.inr (ci, fs))) (hcl : (vwCl[ci]?).map (fun q => q.1) = some M2.1.cls) (hcat : (st.map fun v => v.category).sum ≤ 8) (ct : mCt M2 (.ref a :: [v1, v2, v3, v4]) h none h2) (kk : mJ M (pc + 3) ls st h2 r h') : mJ M pc ls (v4 :: v3 :: v2 :: v1 :: .ref a :: st) h r h' :=
  mJ_cV (As := [v1, v2, v3, v4]) hd hm hk hR rfl hc hcl rfl hcat ct kk
theorem mJ_cV5i {M2 : mM} {idx a ci : Nat} {fs : List Value} {v1 v2 v3 v4 v5 : Value} {x : Int32} {h2 : List mC} (hd : decode M.2.1 pc = .ok (.invokevirtual idx, 3)) (hm : m_mev M2 5) (hk : m_lk M.1.cls idx M2.1) (hR : m_rm M M2) (hc : h[a]? = some (.inr (ci, fs))) (hcl : (vwCl[ci]?).map (fun q => q.1) = some M2.1.cls) (hcat : (st.map fun v => v.category).sum ≤ 8) (ct : mCt M2 (.ref a :: [v1, v2, v3, v4, v5]) h (some (.int x)) h2) (kk : mJ M (pc + 3) ls (.int x :: st) h2 r h') : mJ M pc ls (v5 :: v4 :: v3 :: v2 :: v1 :: .ref a :: st) h r h' :=
  mJ_cV (As := [v1, v2, v3, v4, v5]) hd hm hk hR rfl hc hcl rfl hcat ct kk
theorem mJ_cS5i {M2 : mM} {idx : Nat} {v1 v2 v3 v4 v5 : Value} {x : Int32} {h2 : List mC} (hd : decode M.2.1 pc = .ok (.invokestatic idx, 3)) (hm : m_mes M2 5) (hk : m_lk M.1.cls idx M2.1) (hR : m_rm M M2) (hcat : (st.map fun v => v.category).sum ≤ 8) (ct : mCt M2 [v1, v2, v3, v4, v5] h (some (.int x)) h2) (kk : mJ M (pc + 3) ls (.int x :: st) h2 r h') : mJ M pc ls (v5 :: v4 :: v3 :: v2 :: v1 :: st) h r h' :=
  mJ_cS (As := [v1, v2, v3, v4, v5]) hd hm hk hR rfl rfl hcat ct kk
theorem mJ_cV5v {M2 : mM} {idx a ci : Nat} {fs : List Value} {v1 v2 v3 v4 v5 : Value} {h2 : List mC} (hd : decode M.2.1 pc = .ok (.invokevirtual idx, 3)) (hm : m_mev M2 5) (hk : m_lk M.1.cls idx M2.1) (hR : m_rm M M2) (hc : h[a]? = some (.inr (ci, fs))) (hcl : (vwCl[ci]?).map (fun q => q.1) = some M2.1.cls) (hcat : (st.map fun v => v.category).sum ≤ 8) (ct : mCt M2 (.ref a :: [v1, v2, v3, v4, v5]) h none h2) (kk : mJ M (pc + 3) ls st h2 r h') : mJ M pc ls (v5 :: v4 :: v3 :: v2 :: v1 :: .ref a :: st) h r h' :=
  mJ_cV (As := [v1, v2, v3, v4, v5]) hd hm hk hR rfl hc hcl rfl hcat ct kk
theorem mJ_cV6i {M2 : mM} {idx a ci : Nat} {fs : List Value} {v1 v2 v3 v4 v5 v6 : Value} {x : Int32} {h2 : List mC} (hd : decode M.2.1 pc = .ok (.invokevirtual idx, 3)) (hm : m_mev M2 6) (hk : m_lk M.1.cls idx M2.1) (hR : m_rm M M2) (hc : h[a]? = some (.inr (ci, fs))) (hcl : (vwCl[ci]?).map (fun q => q.1) = some M2.1.cls) (hcat : (st.map fun v => v.category).sum ≤ 8) (ct : mCt M2 (.ref a :: [v1, v2, v3, v4, v5, v6]) h (some (.int x)) h2) (kk : mJ M (pc + 3) ls (.int x :: st) h2 r h') : mJ M pc ls (v6 :: v5 :: v4 :: v3 :: v2 :: v1 :: .ref a :: st) h r h' :=
  mJ_cV (As := [v1, v2, v3, v4, v5, v6]) hd hm hk hR rfl hc hcl rfl hcat ct kk
theorem mJ_cS6i {M2 : mM} {idx : Nat} {v1 v2 v3 v4 v5 v6 : Value} {x : Int32} {h2 : List mC} (hd : decode M.2.1 pc = .ok (.invokestatic idx, 3)) (hm : m_mes M2 6) (hk : m_lk M.1.cls idx M2.1) (hR : m_rm M M2) (hcat : (st.map fun v => v.category).sum ≤ 8) (ct : mCt M2 [v1, v2, v3, v4, v5, v6] h (some (.int x)) h2) (kk : mJ M (pc + 3) ls (.int x :: st) h2 r h') : mJ M pc ls (v6 :: v5 :: v4 :: v3 :: v2 :: v1 :: st) h r h' :=
  mJ_cS (As := [v1, v2, v3, v4, v5, v6]) hd hm hk hR rfl rfl hcat ct kk
theorem mJ_cV6v {M2 : mM} {idx a ci : Nat} {fs : List Value} {v1 v2 v3 v4 v5 v6 : Value} {h2 : List mC} (hd : decode M.2.1 pc = .ok (.invokevirtual idx, 3)) (hm : m_mev M2 6) (hk : m_lk M.1.cls idx M2.1) (hR : m_rm M M2) (hc : h[a]? = some (.inr (ci, fs))) (hcl : (vwCl[ci]?).map (fun q => q.1) = some M2.1.cls) (hcat : (st.map fun v => v.category).sum ≤ 8) (ct : mCt M2 (.ref a :: [v1, v2, v3, v4, v5, v6]) h none h2) (kk : mJ M (pc + 3) ls st h2 r h') : mJ M pc ls (v6 :: v5 :: v4 :: v3 :: v2 :: v1 :: .ref a :: st) h r h' :=
  mJ_cV (As := [v1, v2, v3, v4, v5, v6]) hd hm hk hR rfl hc hcl rfl hcat ct kk
theorem mJ_cV7i {M2 : mM} {idx a ci : Nat} {fs : List Value} {v1 v2 v3 v4 v5 v6 v7 : Value} {x : Int32} {h2 : List mC} (hd : decode M.2.1 pc = .ok (.invokevirtual idx, 3)) (hm : m_mev M2 7) (hk : m_lk M.1.cls idx M2.1) (hR : m_rm M M2) (hc : h[a]? = some (.inr (ci, fs))) (hcl : (vwCl[ci]?).map (fun q => q.1) = some M2.1.cls) (hcat : (st.map fun v => v.category).sum ≤ 8) (ct : mCt M2 (.ref a :: [v1, v2, v3, v4, v5, v6, v7]) h (some (.int x)) h2) (kk : mJ M (pc + 3) ls (.int x :: st) h2 r h') : mJ M pc ls (v7 :: v6 :: v5 :: v4 :: v3 :: v2 :: v1 :: .ref a :: st) h r h' :=
  mJ_cV (As := [v1, v2, v3, v4, v5, v6, v7]) hd hm hk hR rfl hc hcl rfl hcat ct kk
theorem mJ_cS7i {M2 : mM} {idx : Nat} {v1 v2 v3 v4 v5 v6 v7 : Value} {x : Int32} {h2 : List mC} (hd : decode M.2.1 pc = .ok (.invokestatic idx, 3)) (hm : m_mes M2 7) (hk : m_lk M.1.cls idx M2.1) (hR : m_rm M M2) (hcat : (st.map fun v => v.category).sum ≤ 8) (ct : mCt M2 [v1, v2, v3, v4, v5, v6, v7] h (some (.int x)) h2) (kk : mJ M (pc + 3) ls (.int x :: st) h2 r h') : mJ M pc ls (v7 :: v6 :: v5 :: v4 :: v3 :: v2 :: v1 :: st) h r h' :=
  mJ_cS (As := [v1, v2, v3, v4, v5, v6, v7]) hd hm hk hR rfl rfl hcat ct kk
theorem mJ_cV7v {M2 : mM} {idx a ci : Nat} {fs : List Value} {v1 v2 v3 v4 v5 v6 v7 : Value} {h2 : List mC} (hd : decode M.2.1 pc = .ok (.invokevirtual idx, 3)) (hm : m_mev M2 7) (hk : m_lk M.1.cls idx M2.1) (hR : m_rm M M2) (hc : h[a]? = some (.inr (ci, fs))) (hcl : (vwCl[ci]?).map (fun q => q.1) = some M2.1.cls) (hcat : (st.map fun v => v.category).sum ≤ 8) (ct : mCt M2 (.ref a :: [v1, v2, v3, v4, v5, v6, v7]) h none h2) (kk : mJ M (pc + 3) ls st h2 r h') : mJ M pc ls (v7 :: v6 :: v5 :: v4 :: v3 :: v2 :: v1 :: .ref a :: st) h r h' :=
  mJ_cV (As := [v1, v2, v3, v4, v5, v6, v7]) hd hm hk hR rfl hc hcl rfl hcat ct kk
theorem mJ_cS8i {M2 : mM} {idx : Nat} {v1 v2 v3 v4 v5 v6 v7 v8 : Value} {x : Int32} {h2 : List mC} (hd : decode M.2.1 pc = .ok (.invokestatic idx, 3)) (hm : m_mes M2 8) (hk : m_lk M.1.cls idx M2.1) (hR : m_rm M M2) (hcat : (st.map fun v => v.category).sum ≤ 8) (ct : mCt M2 [v1, v2, v3, v4, v5, v6, v7, v8] h (some (.int x)) h2) (kk : mJ M (pc + 3) ls (.int x :: st) h2 r h') : mJ M pc ls (v8 :: v7 :: v6 :: v5 :: v4 :: v3 :: v2 :: v1 :: st) h r h' :=
  mJ_cS (As := [v1, v2, v3, v4, v5, v6, v7, v8]) hd hm hk hR rfl rfl hcat ct kk
end MROWS
end
section
theorem h_X0 : ∀ w ∈ u_ws RX0 TX0 3, m_in w := by
  show ∀ w ∈ u_ws RX0 TX0 3, w ∈ lw_tbl ∧ m_okW w = true
  decide +kernel
theorem h_X1 : ∀ w ∈ u_ws RX1 TX1 8, m_in w := by
  show ∀ w ∈ u_ws RX1 TX1 8, w ∈ lw_tbl ∧ m_okW w = true
  decide +kernel
theorem h_X2 : ∀ w ∈ u_ws RX2 TX2 6, m_in w := by
  show ∀ w ∈ u_ws RX2 TX2 6, w ∈ lw_tbl ∧ m_okW w = true
  decide +kernel
theorem h_X3 : ∀ w ∈ u_ws RX3 TX3 1, m_in w := by
  show ∀ w ∈ u_ws RX3 TX3 1, w ∈ lw_tbl ∧ m_okW w = true
  decide +kernel
theorem h_X4 : ∀ w ∈ u_ws RX4 TX4 8, m_in w := by
  show ∀ w ∈ u_ws RX4 TX4 8, w ∈ lw_tbl ∧ m_okW w = true
  decide +kernel
theorem h_X5 : ∀ w ∈ u_ws RX5 TX5 1, m_in w := by
  show ∀ w ∈ u_ws RX5 TX5 1, w ∈ lw_tbl ∧ m_okW w = true
  decide +kernel
theorem h_X6 : ∀ w ∈ u_ws RX6 TX6 2, m_in w := by
  show ∀ w ∈ u_ws RX6 TX6 2, w ∈ lw_tbl ∧ m_okW w = true
  decide +kernel
theorem h_X7 : ∀ w ∈ u_ws RX7 TX7 6, m_in w := by
  show ∀ w ∈ u_ws RX7 TX7 6, w ∈ lw_tbl ∧ m_okW w = true
  decide +kernel
theorem h_X8 : ∀ w ∈ u_ws RX8 TX8 21, m_in w := by
  show ∀ w ∈ u_ws RX8 TX8 21, w ∈ lw_tbl ∧ m_okW w = true
  decide +kernel
def k_X0_keep : mM := (yX0_keep, cX0_keep, 2, none, { frames := 2, cells := 0, slots := 0, locals := 45 })
def k_X0_restore : mM := (yX0_restore, cX0_restore, 2, none, { frames := 2, cells := 0, slots := 0, locals := 45 })
def k_X0_beginOf : mM := (yX0_beginOf, cX0_beginOf, 2, some .int, { frames := 0, cells := 0, slots := 0, locals := 0 })
def k_X1_append : mM := (yX1_append, cX1_append, 2, none, { frames := 1, cells := 0, slots := 0, locals := 22 })
def k_X1_findFault : mM := (yX1_findFault, cX1_findFault, 4, some .int, { frames := 6, cells := 0, slots := 0, locals := 127 })
def k_X1_read : mM := (yX1_read, cX1_read, 2, some .boolean, { frames := 5, cells := 0, slots := 0, locals := 106 })
def k_X1_readHint : mM := (yX1_readHint, cX1_readHint, 2, some .boolean, { frames := 3, cells := 0, slots := 0, locals := 64 })
def k_X1_readMove : mM := (yX1_readMove, cX1_readMove, 1, some .boolean, { frames := 4, cells := 0, slots := 0, locals := 86 })
def k_X1_readSigned : mM := (yX1_readSigned, cX1_readSigned, 3, some .boolean, { frames := 3, cells := 0, slots := 0, locals := 64 })
def k_X1_readDigits : mM := (yX1_readDigits, cX1_readDigits, 3, some .boolean, { frames := 2, cells := 0, slots := 0, locals := 42 })
def k_X1_isDigit : mM := (yX1_isDigit, cX1_isDigit, 1, some .boolean, { frames := 0, cells := 0, slots := 0, locals := 0 })
def k_X1_pass : mM := (yX1_pass, cX1_pass, 2, some .boolean, { frames := 2, cells := 0, slots := 0, locals := 42 })
def k_X1_signAt : mM := (yX1_signAt, cX1_signAt, 2, some .int, { frames := 1, cells := 0, slots := 0, locals := 21 })
def k_X2_find : mM := (yX2_find, cX2_find, 15, none, { frames := 3, cells := 0, slots := 0, locals := 68 })
def k_X2_beginAlong : mM := (yX2_beginAlong, cX2_beginAlong, 6, some .int, { frames := 2, cells := 0, slots := 0, locals := 43 })
def k_X2_middleAlong : mM := (yX2_middleAlong, cX2_middleAlong, 5, some .int, { frames := 2, cells := 0, slots := 0, locals := 43 })
def k_X2_shiftInto : mM := (yX2_shiftInto, cX2_shiftInto, 8, some .int, { frames := 1, cells := 0, slots := 0, locals := 22 })
def k_X2_isGood : mM := (yX2_isGood, cX2_isGood, 3, some .boolean, { frames := 0, cells := 0, slots := 0, locals := 0 })
def k_X3_get : mM := (yX3_get, cX3_get, 2, some .int, { frames := 0, cells := 0, slots := 0, locals := 0 })
def k_X3_put : mM := (yX3_put, cX3_put, 3, none, { frames := 0, cells := 0, slots := 0, locals := 0 })
def k_X4_arrange : mM := (yX4_arrange, cX4_arrange, 6, some .int, { frames := 5, cells := 0, slots := 0, locals := 126 })
def k_X4_orderOpenHints : mM := (yX4_orderOpenHints, cX4_orderOpenHints, 4, some .int, { frames := 4, cells := 0, slots := 0, locals := 90 })
def k_X4_tryToShow : mM := (yX4_tryToShow, cX4_tryToShow, 5, some .int, { frames := 4, cells := 0, slots := 0, locals := 102 })
def k_X4_isFree : mM := (yX4_isFree, cX4_isFree, 6, some .boolean, { frames := 3, cells := 0, slots := 0, locals := 69 })
def k_X4_shownThatMeets : mM := (yX4_shownThatMeets, cX4_shownThatMeets, 7, some .int, { frames := 2, cells := 0, slots := 0, locals := 43 })
def k_X5_get : mM := (yX5_get, cX5_get, 2, some .int, { frames := 1, cells := 0, slots := 0, locals := 21 })
def k_X5_put : mM := (yX5_put, cX5_put, 3, none, { frames := 1, cells := 0, slots := 0, locals := 22 })
def k_X5_setting : mM := (yX5_setting, cX5_setting, 2, some .int, { frames := 1, cells := 0, slots := 0, locals := 21 })
def k_X5_anchorValue : mM := (yX5_anchorValue, cX5_anchorValue, 3, some .int, { frames := 1, cells := 0, slots := 0, locals := 21 })
def k_X5_putAnchorValue : mM := (yX5_putAnchorValue, cX5_putAnchorValue, 4, none, { frames := 1, cells := 0, slots := 0, locals := 22 })
def k_X5_hintValue : mM := (yX5_hintValue, cX5_hintValue, 3, some .int, { frames := 1, cells := 0, slots := 0, locals := 21 })
def k_X5_putHintValue : mM := (yX5_putHintValue, cX5_putHintValue, 4, none, { frames := 1, cells := 0, slots := 0, locals := 22 })
def k_X5_isOpen : mM := (yX5_isOpen, cX5_isOpen, 2, some .boolean, { frames := 2, cells := 0, slots := 0, locals := 43 })
def k_X5_isAnchorInSight : mM := (yX5_isAnchorInSight, cX5_isAnchorInSight, 2, some .boolean, { frames := 3, cells := 0, slots := 0, locals := 68 })
def k_X5_anchorMeets : mM := (yX5_anchorMeets, cX5_anchorMeets, 6, some .boolean, { frames := 2, cells := 0, slots := 0, locals := 43 })
def k_X5_turn : mM := (yX5_turn, cX5_turn, 4, some .int, { frames := 3, cells := 0, slots := 0, locals := 67 })
def k_X5_goesBefore : mM := (yX5_goesBefore, cX5_goesBefore, 5, some .boolean, { frames := 2, cells := 0, slots := 0, locals := 43 })
def k_X5_copyTo : mM := (yX5_copyTo, cX5_copyTo, 4, none, { frames := 1, cells := 0, slots := 0, locals := 22 })
def k_X5_copyFrom : mM := (yX5_copyFrom, cX5_copyFrom, 4, none, { frames := 1, cells := 0, slots := 0, locals := 22 })
def k_X6_list : mM := (yX6_list, cX6_list, 6, none, { frames := 2, cells := 0, slots := 0, locals := 44 })
def k_X6_add : mM := (yX6_add, cX6_add, 3, none, { frames := 1, cells := 0, slots := 0, locals := 22 })
def k_X7_view : mM := (yX7_view, cX7_view, 3, some .int, { frames := 6, cells := 0, slots := 0, locals := 151 })
def k_X7_scroll : mM := (yX7_scroll, cX7_scroll, 3, some .int, { frames := 6, cells := 0, slots := 0, locals := 151 })
def k_X7_anchor : mM := (yX7_anchor, cX7_anchor, 6, some .int, { frames := 6, cells := 0, slots := 0, locals := 151 })
def k_X7_moveAnchor : mM := (yX7_moveAnchor, cX7_moveAnchor, 4, some .int, { frames := 6, cells := 0, slots := 0, locals := 151 })
def k_X7_anchorOf : mM := (yX7_anchorOf, cX7_anchorOf, 3, some .int, { frames := 4, cells := 0, slots := 0, locals := 89 })
def k_X7_set : mM := (yX7_set, cX7_set, 4, some .int, { frames := 6, cells := 0, slots := 0, locals := 151 })
def k_X7_count : mM := (yX7_count, cX7_count, 2, some .int, { frames := 4, cells := 0, slots := 0, locals := 86 })
def k_X7_hint : mM := (yX7_hint, cX7_hint, 7, some .int, { frames := 6, cells := 0, slots := 0, locals := 151 })
def k_X7_alter : mM := (yX7_alter, cX7_alter, 5, some .int, { frames := 6, cells := 0, slots := 0, locals := 151 })
def k_X7_open : mM := (yX7_open, cX7_open, 2, some .int, { frames := 6, cells := 0, slots := 0, locals := 151 })
def k_X7_close : mM := (yX7_close, cX7_close, 2, some .int, { frames := 6, cells := 0, slots := 0, locals := 151 })
def k_X7_settle : mM := (yX7_settle, cX7_settle, 2, some .int, { frames := 6, cells := 0, slots := 0, locals := 151 })
def k_X7_hintOf : mM := (yX7_hintOf, cX7_hintOf, 4, some .int, { frames := 5, cells := 0, slots := 0, locals := 125 })
def k_X7_room : mM := (yX7_room, cX7_room, 7, some .int, { frames := 3, cells := 0, slots := 0, locals := 68 })
def k_X7_ifOn : mM := (yX7_ifOn, cX7_ifOn, 4, some .int, { frames := 4, cells := 0, slots := 0, locals := 102 })
def k_X7_at : mM := (yX7_at, cX7_at, 4, some .int, { frames := 3, cells := 0, slots := 0, locals := 69 })
def k_X7_sizeFor : mM := (yX7_sizeFor, cX7_sizeFor, 6, some .int, { frames := 5, cells := 0, slots := 0, locals := 126 })
def k_X7_undo : mM := (yX7_undo, cX7_undo, 1, some .int, { frames := 6, cells := 0, slots := 0, locals := 151 })
def k_X7_type : mM := (yX7_type, cX7_type, 2, some .int, { frames := 2, cells := 0, slots := 0, locals := 43 })
def k_X7_clearText : mM := (yX7_clearText, cX7_clearText, 2, some .int, { frames := 0, cells := 0, slots := 0, locals := 0 })
def k_X7_fault : mM := (yX7_fault, cX7_fault, 3, some .int, { frames := 7, cells := 0, slots := 0, locals := 150 })
def k_X7_carry : mM := (yX7_carry, cX7_carry, 3, some .int, { frames := 7, cells := 0, slots := 0, locals := 151 })
def k_X7_isWithin : mM := (yX7_isWithin, cX7_isWithin, 2, some .boolean, { frames := 0, cells := 0, slots := 0, locals := 0 })
def k_X7_isSize : mM := (yX7_isSize, cX7_isSize, 1, some .boolean, { frames := 0, cells := 0, slots := 0, locals := 0 })
def k_X7_isViewSize : mM := (yX7_isViewSize, cX7_isViewSize, 1, some .boolean, { frames := 0, cells := 0, slots := 0, locals := 0 })
def k_X7_isSide : mM := (yX7_isSide, cX7_isSide, 1, some .boolean, { frames := 0, cells := 0, slots := 0, locals := 0 })
def k_X7_isAnchor : mM := (yX7_isAnchor, cX7_isAnchor, 2, some .boolean, { frames := 2, cells := 0, slots := 0, locals := 42 })
def k_X7_isHint : mM := (yX7_isHint, cX7_isHint, 2, some .boolean, { frames := 2, cells := 0, slots := 0, locals := 42 })
def k_X7_lowestSetting : mM := (yX7_lowestSetting, cX7_lowestSetting, 1, some .int, { frames := 0, cells := 0, slots := 0, locals := 0 })
def k_X7_highestSetting : mM := (yX7_highestSetting, cX7_highestSetting, 1, some .int, { frames := 0, cells := 0, slots := 0, locals := 0 })
def k_X7_lowestValue : mM := (yX7_lowestValue, cX7_lowestValue, 1, some .int, { frames := 0, cells := 0, slots := 0, locals := 0 })
def k_X7_highestValue : mM := (yX7_highestValue, cX7_highestValue, 2, some .int, { frames := 2, cells := 0, slots := 0, locals := 42 })
def k_X7_canMoveView : mM := (yX7_canMoveView, cX7_canMoveView, 3, some .boolean, { frames := 2, cells := 0, slots := 0, locals := 42 })
def k_X7_moveView : mM := (yX7_moveView, cX7_moveView, 3, none, { frames := 2, cells := 0, slots := 0, locals := 44 })
def k_X7_openHint : mM := (yX7_openHint, cX7_openHint, 3, none, { frames := 2, cells := 0, slots := 0, locals := 45 })
def k_X7_closeHint : mM := (yX7_closeHint, cX7_closeHint, 2, none, { frames := 2, cells := 0, slots := 0, locals := 45 })
def k_X7_rememberSides : mM := (yX7_rememberSides, cX7_rememberSides, 3, some .int, { frames := 2, cells := 0, slots := 0, locals := 45 })
def k_X7_carryOrder : mM := (yX7_carryOrder, cX7_carryOrder, 1, some .boolean, { frames := 3, cells := 0, slots := 0, locals := 67 })
def k_X7_countHintsOf : mM := (yX7_countHintsOf, cX7_countHintsOf, 6, some .int, { frames := 2, cells := 0, slots := 0, locals := 43 })
def k_X7_countOpen : mM := (yX7_countOpen, cX7_countOpen, 3, some .int, { frames := 3, cells := 0, slots := 0, locals := 64 })
def k_X7_countRemembered : mM := (yX7_countRemembered, cX7_countRemembered, 3, some .int, { frames := 2, cells := 0, slots := 0, locals := 43 })
def k_X7_countCovered : mM := (yX7_countCovered, cX7_countCovered, 3, some .int, { frames := 2, cells := 0, slots := 0, locals := 43 })
def k_X7_shownValue : mM := (yX7_shownValue, cX7_shownValue, 4, some .int, { frames := 4, cells := 0, slots := 0, locals := 102 })
def k_X7_isInSightOnATry : mM := (yX7_isInSightOnATry, cX7_isInSightOnATry, 5, some .boolean, { frames := 4, cells := 0, slots := 0, locals := 102 })
def k_X7_isLevel : mM := (yX7_isLevel, cX7_isLevel, 1, some .boolean, { frames := 0, cells := 0, slots := 0, locals := 0 })
def k_X7_isBefore : mM := (yX7_isBefore, cX7_isBefore, 1, some .boolean, { frames := 0, cells := 0, slots := 0, locals := 0 })
def k_X7_edgeBy : mM := (yX7_edgeBy, cX7_edgeBy, 6, some .int, { frames := 2, cells := 0, slots := 0, locals := 43 })
def k_X7_spansMeet : mM := (yX7_spansMeet, cX7_spansMeet, 4, some .boolean, { frames := 0, cells := 0, slots := 0, locals := 0 })
def k_X7_spanLiesIn : mM := (yX7_spanLiesIn, cX7_spanLiesIn, 4, some .boolean, { frames := 0, cells := 0, slots := 0, locals := 0 })
def k_X8_in : mM := (yX8_in, cX8_in, 3, some .boolean, { frames := 0, cells := 0, slots := 0, locals := 0 })
def k_X8_half : mM := (yX8_half, cX8_half, 1, some .int, { frames := 0, cells := 0, slots := 0, locals := 0 })
def k_X8_isAnchor : mM := (yX8_isAnchor, cX8_isAnchor, 2, some .boolean, { frames := 1, cells := 0, slots := 0, locals := 22 })
def k_X8_isHint : mM := (yX8_isHint, cX8_isHint, 2, some .boolean, { frames := 1, cells := 0, slots := 0, locals := 22 })
def k_X8_ofAnchor : mM := (yX8_ofAnchor, cX8_ofAnchor, 3, some .int, { frames := 0, cells := 0, slots := 0, locals := 0 })
def k_X8_ofHint : mM := (yX8_ofHint, cX8_ofHint, 3, some .int, { frames := 0, cells := 0, slots := 0, locals := 0 })
def k_X8_records : mM := (yX8_records, cX8_records, 2, none, { frames := 0, cells := 0, slots := 0, locals := 0 })
def k_X8_meets : mM := (yX8_meets, cX8_meets, 8, some .boolean, { frames := 0, cells := 0, slots := 0, locals := 0 })
def k_X8_isSeen : mM := (yX8_isSeen, cX8_isSeen, 2, some .boolean, { frames := 1, cells := 0, slots := 0, locals := 27 })
def k_X8_isGood : mM := (yX8_isGood, cX8_isGood, 3, some .boolean, { frames := 1, cells := 0, slots := 0, locals := 22 })
def k_X8_shift : mM := (yX8_shift, cX8_shift, 9, some .int, { frames := 2, cells := 0, slots := 0, locals := 44 })
def k_X8_places : mM := (yX8_places, cX8_places, 15, none, { frames := 3, cells := 0, slots := 0, locals := 72 })
def k_X8_isIn : mM := (yX8_isIn, cX8_isIn, 3, some .boolean, { frames := 4, cells := 0, slots := 0, locals := 106 })
def k_X8_addTry : mM := (yX8_addTry, cX8_addTry, 4, none, { frames := 0, cells := 0, slots := 0, locals := 0 })
def k_X8_lists : mM := (yX8_lists, cX8_lists, 3, none, { frames := 1, cells := 0, slots := 0, locals := 23 })
def k_X8_isBarred : mM := (yX8_isBarred, cX8_isBarred, 8, some .boolean, { frames := 4, cells := 0, slots := 0, locals := 106 })
def k_X8_finds : mM := (yX8_finds, cX8_finds, 4, none, { frames := 5, cells := 0, slots := 0, locals := 133 })
def k_X8_sorts : mM := (yX8_sorts, cX8_sorts, 4, none, { frames := 1, cells := 0, slots := 0, locals := 22 })
def k_X8_shows : mM := (yX8_shows, cX8_shows, 3, none, { frames := 6, cells := 0, slots := 0, locals := 156 })
def k_X8_many : mM := (yX8_many, cX8_many, 1, some .int, { frames := 7, cells := 0, slots := 0, locals := 178 })
def k_X8_view : mM := (yX8_view, cX8_view, 3, some .int, { frames := 8, cells := 0, slots := 0, locals := 198 })
def k_X8_canScroll : mM := (yX8_canScroll, cX8_canScroll, 3, some .boolean, { frames := 1, cells := 0, slots := 0, locals := 22 })
def k_X8_scroll : mM := (yX8_scroll, cX8_scroll, 3, some .int, { frames := 8, cells := 0, slots := 0, locals := 198 })
def k_X8_anchor : mM := (yX8_anchor, cX8_anchor, 6, some .int, { frames := 1, cells := 0, slots := 0, locals := 22 })
def k_X8_moveAnchor : mM := (yX8_moveAnchor, cX8_moveAnchor, 4, some .int, { frames := 8, cells := 0, slots := 0, locals := 198 })
def k_X8_anchorOf : mM := (yX8_anchorOf, cX8_anchorOf, 5, some .int, { frames := 7, cells := 0, slots := 0, locals := 178 })
def k_X8_isSetting : mM := (yX8_isSetting, cX8_isSetting, 2, some .boolean, { frames := 1, cells := 0, slots := 0, locals := 22 })
def k_X8_set : mM := (yX8_set, cX8_set, 4, some .int, { frames := 2, cells := 0, slots := 0, locals := 43 })
def k_X8_covered : mM := (yX8_covered, cX8_covered, 4, some .int, { frames := 1, cells := 0, slots := 0, locals := 22 })
def k_X8_count : mM := (yX8_count, cX8_count, 4, some .int, { frames := 7, cells := 0, slots := 0, locals := 178 })
def k_X8_hint : mM := (yX8_hint, cX8_hint, 8, some .int, { frames := 2, cells := 0, slots := 0, locals := 43 })
def k_X8_isOf : mM := (yX8_isOf, cX8_isOf, 3, some .boolean, { frames := 2, cells := 0, slots := 0, locals := 43 })
def k_X8_alter : mM := (yX8_alter, cX8_alter, 5, some .int, { frames := 3, cells := 0, slots := 0, locals := 65 })
def k_X8_placeOf : mM := (yX8_placeOf, cX8_placeOf, 3, some .int, { frames := 0, cells := 0, slots := 0, locals := 0 })
def k_X8_opens : mM := (yX8_opens, cX8_opens, 2, none, { frames := 0, cells := 0, slots := 0, locals := 0 })
def k_X8_closes : mM := (yX8_closes, cX8_closes, 4, none, { frames := 1, cells := 0, slots := 0, locals := 22 })
def k_X8_open : mM := (yX8_open, cX8_open, 2, some .int, { frames := 7, cells := 0, slots := 0, locals := 178 })
def k_X8_close : mM := (yX8_close, cX8_close, 3, some .int, { frames := 8, cells := 0, slots := 0, locals := 198 })
def k_X8_settles : mM := (yX8_settles, cX8_settles, 3, some .int, { frames := 7, cells := 0, slots := 0, locals := 178 })
def k_X8_settle : mM := (yX8_settle, cX8_settle, 1, some .int, { frames := 8, cells := 0, slots := 0, locals := 200 })
def k_X8_hintOf : mM := (yX8_hintOf, cX8_hintOf, 3, some .int, { frames := 7, cells := 0, slots := 0, locals := 178 })
def k_X8_orderOf : mM := (yX8_orderOf, cX8_orderOf, 3, some .int, { frames := 0, cells := 0, slots := 0, locals := 0 })
def k_X8_room : mM := (yX8_room, cX8_room, 4, some .int, { frames := 2, cells := 0, slots := 0, locals := 43 })
def k_X8_ifOn : mM := (yX8_ifOn, cX8_ifOn, 5, some .int, { frames := 5, cells := 0, slots := 0, locals := 128 })
def k_X8_at : mM := (yX8_at, cX8_at, 4, some .int, { frames := 7, cells := 0, slots := 0, locals := 178 })
def k_X8_sizeFor : mM := (yX8_sizeFor, cX8_sizeFor, 7, some .int, { frames := 5, cells := 0, slots := 0, locals := 128 })
def k_X8_undo : mM := (yX8_undo, cX8_undo, 2, some .int, { frames := 0, cells := 0, slots := 0, locals := 0 })
def k_X8_type : mM := (yX8_type, cX8_type, 2, some .int, { frames := 1, cells := 0, slots := 0, locals := 22 })
def k_X8_clearText : mM := (yX8_clearText, cX8_clearText, 2, some .int, { frames := 0, cells := 0, slots := 0, locals := 0 })
def k_X8_passes : mM := (yX8_passes, cX8_passes, 3, some .boolean, { frames := 0, cells := 0, slots := 0, locals := 0 })
def k_X8_readsNumber : mM := (yX8_readsNumber, cX8_readsNumber, 3, some .boolean, { frames := 1, cells := 0, slots := 0, locals := 22 })
def k_X8_readsSigned : mM := (yX8_readsSigned, cX8_readsSigned, 3, some .boolean, { frames := 2, cells := 0, slots := 0, locals := 44 })
def k_X8_readsForm : mM := (yX8_readsForm, cX8_readsForm, 2, some .boolean, { frames := 3, cells := 0, slots := 0, locals := 66 })
def k_X8_readsOrder : mM := (yX8_readsOrder, cX8_readsOrder, 1, some .boolean, { frames := 4, cells := 0, slots := 0, locals := 87 })
def k_X8_faulty : mM := (yX8_faulty, cX8_faulty, 2, some .int, { frames := 5, cells := 0, slots := 0, locals := 107 })
def k_X8_fault : mM := (yX8_fault, cX8_fault, 3, some .int, { frames := 6, cells := 0, slots := 0, locals := 128 })
def k_X8_carries : mM := (yX8_carries, cX8_carries, 2, some .boolean, { frames := 8, cells := 0, slots := 0, locals := 200 })
def k_X8_carry : mM := (yX8_carry, cX8_carry, 3, some .int, { frames := 9, cells := 0, slots := 0, locals := 221 })
def k_J9_floorDiv_7cf53 : mM := (yJ9_floorDiv_7cf53, cJ9_floorDiv_7cf53, 3, some .int, { frames := 0, cells := 0, slots := 0, locals := 0 })
def k_J9_max_7cf53 : mM := (yJ9_max_7cf53, cJ9_max_7cf53, 2, some .int, { frames := 0, cells := 0, slots := 0, locals := 0 })
def k_J9_min_7cf53 : mM := (yJ9_min_7cf53, cJ9_min_7cf53, 2, some .int, { frames := 0, cells := 0, slots := 0, locals := 0 })
theorem f_X0_14 : m_fld RX0 14 0 0 := ⟨RX0, TX0, 3, rfl, by decide, h_X0, Or.inl ⟨List.mem_of_getElem? (i := 114) (by decide +kernel), rfl⟩⟩
theorem f_X0_20 : m_fld RX0 20 0 2 := ⟨RX0, TX0, 3, rfl, by decide, h_X0, Or.inl ⟨List.mem_of_getElem? (i := 116) (by decide +kernel), rfl⟩⟩
theorem f_X0_24 : m_fld RX0 24 0 1 := ⟨RX0, TX0, 3, rfl, by decide, h_X0, Or.inl ⟨List.mem_of_getElem? (i := 115) (by decide +kernel), rfl⟩⟩
theorem f_X1_14 : m_fld RX1 14 1 0 := ⟨RX1, TX1, 8, rfl, by decide, h_X1, Or.inl ⟨List.mem_of_getElem? (i := 222) (by decide +kernel), rfl⟩⟩
theorem f_X1_20 : m_fld RX1 20 1 1 := ⟨RX1, TX1, 8, rfl, by decide, h_X1, Or.inl ⟨List.mem_of_getElem? (i := 223) (by decide +kernel), rfl⟩⟩
theorem f_X1_32 : m_fld RX1 32 1 4 := ⟨RX1, TX1, 8, rfl, by decide, h_X1, Or.inl ⟨List.mem_of_getElem? (i := 229) (by decide +kernel), rfl⟩⟩
theorem f_X1_35 : m_fld RX1 35 1 5 := ⟨RX1, TX1, 8, rfl, by decide, h_X1, Or.inl ⟨List.mem_of_getElem? (i := 231) (by decide +kernel), rfl⟩⟩
theorem f_X1_38 : m_fld RX1 38 1 3 := ⟨RX1, TX1, 8, rfl, by decide, h_X1, Or.inl ⟨List.mem_of_getElem? (i := 227) (by decide +kernel), rfl⟩⟩
theorem f_X1_62 : m_fld RX1 62 1 7 := ⟨RX1, TX1, 8, rfl, by decide, h_X1, Or.inl ⟨List.mem_of_getElem? (i := 235) (by decide +kernel), rfl⟩⟩
theorem f_X2_32 : m_fld RX2 32 2 2 := ⟨RX2, TX2, 6, rfl, by decide, h_X2, Or.inl ⟨List.mem_of_getElem? (i := 164) (by decide +kernel), rfl⟩⟩
theorem f_X2_43 : m_fld RX2 43 2 3 := ⟨RX2, TX2, 6, rfl, by decide, h_X2, Or.inl ⟨List.mem_of_getElem? (i := 166) (by decide +kernel), rfl⟩⟩
theorem f_X2_61 : m_fld RX2 61 2 0 := ⟨RX2, TX2, 6, rfl, by decide, h_X2, Or.inl ⟨List.mem_of_getElem? (i := 158) (by decide +kernel), rfl⟩⟩
theorem f_X2_64 : m_fld RX2 64 2 1 := ⟨RX2, TX2, 6, rfl, by decide, h_X2, Or.inl ⟨List.mem_of_getElem? (i := 161) (by decide +kernel), rfl⟩⟩
theorem f_X3_13 : m_fld RX3 13 3 0 := ⟨RX3, TX3, 1, rfl, by decide, h_X3, Or.inl ⟨List.mem_of_getElem? (i := 93) (by decide +kernel), rfl⟩⟩
theorem f_X4_14 : m_fld RX4 14 4 0 := ⟨RX4, TX4, 8, rfl, by decide, h_X4, Or.inl ⟨List.mem_of_getElem? (i := 186) (by decide +kernel), rfl⟩⟩
theorem f_X4_20 : m_fld RX4 20 4 1 := ⟨RX4, TX4, 8, rfl, by decide, h_X4, Or.inl ⟨List.mem_of_getElem? (i := 188) (by decide +kernel), rfl⟩⟩
theorem f_X4_23 : m_fld RX4 23 4 2 := ⟨RX4, TX4, 8, rfl, by decide, h_X4, Or.inl ⟨List.mem_of_getElem? (i := 190) (by decide +kernel), rfl⟩⟩
theorem f_X4_26 : m_fld RX4 26 4 3 := ⟨RX4, TX4, 8, rfl, by decide, h_X4, Or.inl ⟨List.mem_of_getElem? (i := 191) (by decide +kernel), rfl⟩⟩
theorem f_X4_29 : m_fld RX4 29 4 4 := ⟨RX4, TX4, 8, rfl, by decide, h_X4, Or.inl ⟨List.mem_of_getElem? (i := 192) (by decide +kernel), rfl⟩⟩
theorem f_X4_35 : m_fld RX4 35 4 5 := ⟨RX4, TX4, 8, rfl, by decide, h_X4, Or.inl ⟨List.mem_of_getElem? (i := 193) (by decide +kernel), rfl⟩⟩
theorem f_X4_42 : m_fld RX4 42 4 6 := ⟨RX4, TX4, 8, rfl, by decide, h_X4, Or.inl ⟨List.mem_of_getElem? (i := 194) (by decide +kernel), rfl⟩⟩
theorem f_X4_46 : m_fld RX4 46 4 7 := ⟨RX4, TX4, 8, rfl, by decide, h_X4, Or.inl ⟨List.mem_of_getElem? (i := 195) (by decide +kernel), rfl⟩⟩
theorem f_X4_90 : m_fld RX4 90 6 1 := ⟨RX6, TX6, 2, rfl, by decide, h_X6, Or.inr ⟨"HintPlacer", ⟨List.mem_of_getElem? (i := 145) (by decide +kernel), rfl⟩⟩⟩
theorem f_X4_93 : m_fld RX4 93 6 0 := ⟨RX6, TX6, 2, rfl, by decide, h_X6, Or.inr ⟨"HintPlacer", ⟨List.mem_of_getElem? (i := 142) (by decide +kernel), rfl⟩⟩⟩
theorem f_X4_98 : m_fld RX4 98 2 5 := ⟨RX2, TX2, 6, rfl, by decide, h_X2, Or.inr ⟨"HintPlacer", ⟨List.mem_of_getElem? (i := 171) (by decide +kernel), rfl⟩⟩⟩
theorem f_X4_106 : m_fld RX4 106 2 0 := ⟨RX2, TX2, 6, rfl, by decide, h_X2, Or.inr ⟨"HintPlacer", ⟨List.mem_of_getElem? (i := 159) (by decide +kernel), rfl⟩⟩⟩
theorem f_X4_109 : m_fld RX4 109 2 1 := ⟨RX2, TX2, 6, rfl, by decide, h_X2, Or.inr ⟨"HintPlacer", ⟨List.mem_of_getElem? (i := 162) (by decide +kernel), rfl⟩⟩⟩
theorem f_X5_14 : m_fld RX5 14 5 0 := ⟨RX5, TX5, 1, rfl, by decide, h_X5, Or.inl ⟨List.mem_of_getElem? (i := 102) (by decide +kernel), rfl⟩⟩
theorem f_X6_14 : m_fld RX6 14 6 0 := ⟨RX6, TX6, 2, rfl, by decide, h_X6, Or.inl ⟨List.mem_of_getElem? (i := 141) (by decide +kernel), rfl⟩⟩
theorem f_X6_20 : m_fld RX6 20 6 1 := ⟨RX6, TX6, 2, rfl, by decide, h_X6, Or.inl ⟨List.mem_of_getElem? (i := 144) (by decide +kernel), rfl⟩⟩
theorem f_X7_12 : m_fld RX7 12 7 0 := ⟨RX7, TX7, 6, rfl, by decide, h_X7, Or.inl ⟨List.mem_of_getElem? (i := 257) (by decide +kernel), rfl⟩⟩
theorem f_X7_19 : m_fld RX7 19 7 1 := ⟨RX7, TX7, 6, rfl, by decide, h_X7, Or.inl ⟨List.mem_of_getElem? (i := 258) (by decide +kernel), rfl⟩⟩
theorem f_X7_26 : m_fld RX7 26 7 2 := ⟨RX7, TX7, 6, rfl, by decide, h_X7, Or.inl ⟨List.mem_of_getElem? (i := 259) (by decide +kernel), rfl⟩⟩
theorem f_X7_33 : m_fld RX7 33 7 3 := ⟨RX7, TX7, 6, rfl, by decide, h_X7, Or.inl ⟨List.mem_of_getElem? (i := 260) (by decide +kernel), rfl⟩⟩
theorem f_X7_40 : m_fld RX7 40 7 4 := ⟨RX7, TX7, 6, rfl, by decide, h_X7, Or.inl ⟨List.mem_of_getElem? (i := 261) (by decide +kernel), rfl⟩⟩
theorem f_X7_47 : m_fld RX7 47 7 5 := ⟨RX7, TX7, 6, rfl, by decide, h_X7, Or.inl ⟨List.mem_of_getElem? (i := 262) (by decide +kernel), rfl⟩⟩
theorem f_X7_115 : m_fld RX7 115 4 7 := ⟨RX4, TX4, 8, rfl, by decide, h_X4, Or.inr ⟨"HintPlacer", ⟨List.mem_of_getElem? (i := 196) (by decide +kernel), rfl⟩⟩⟩
theorem f_X7_122 : m_fld RX7 122 0 2 := ⟨RX0, TX0, 3, rfl, by decide, h_X0, Or.inr ⟨"HintPlacer", ⟨List.mem_of_getElem? (i := 117) (by decide +kernel), rfl⟩⟩⟩
theorem f_X7_125 : m_fld RX7 125 1 1 := ⟨RX1, TX1, 8, rfl, by decide, h_X1, Or.inr ⟨"HintPlacer", ⟨List.mem_of_getElem? (i := 224) (by decide +kernel), rfl⟩⟩⟩
theorem f_X7_156 : m_fld RX7 156 4 0 := ⟨RX4, TX4, 8, rfl, by decide, h_X4, Or.inr ⟨"HintPlacer", ⟨List.mem_of_getElem? (i := 187) (by decide +kernel), rfl⟩⟩⟩
theorem f_X7_189 : m_fld RX7 189 2 5 := ⟨RX2, TX2, 6, rfl, by decide, h_X2, Or.inr ⟨"HintPlacer", ⟨List.mem_of_getElem? (i := 172) (by decide +kernel), rfl⟩⟩⟩
theorem f_X7_193 : m_fld RX7 193 2 0 := ⟨RX2, TX2, 6, rfl, by decide, h_X2, Or.inr ⟨"HintPlacer", ⟨List.mem_of_getElem? (i := 160) (by decide +kernel), rfl⟩⟩⟩
theorem f_X7_196 : m_fld RX7 196 2 1 := ⟨RX2, TX2, 6, rfl, by decide, h_X2, Or.inr ⟨"HintPlacer", ⟨List.mem_of_getElem? (i := 163) (by decide +kernel), rfl⟩⟩⟩
theorem f_X7_199 : m_fld RX7 199 2 2 := ⟨RX2, TX2, 6, rfl, by decide, h_X2, Or.inr ⟨"HintPlacer", ⟨List.mem_of_getElem? (i := 165) (by decide +kernel), rfl⟩⟩⟩
theorem f_X7_202 : m_fld RX7 202 2 3 := ⟨RX2, TX2, 6, rfl, by decide, h_X2, Or.inr ⟨"HintPlacer", ⟨List.mem_of_getElem? (i := 167) (by decide +kernel), rfl⟩⟩⟩
theorem f_X7_226 : m_fld RX7 226 1 2 := ⟨RX1, TX1, 8, rfl, by decide, h_X1, Or.inr ⟨"HintPlacer", ⟨List.mem_of_getElem? (i := 226) (by decide +kernel), rfl⟩⟩⟩
theorem f_X7_236 : m_fld RX7 236 1 3 := ⟨RX1, TX1, 8, rfl, by decide, h_X1, Or.inr ⟨"HintPlacer", ⟨List.mem_of_getElem? (i := 228) (by decide +kernel), rfl⟩⟩⟩
theorem f_X7_239 : m_fld RX7 239 4 1 := ⟨RX4, TX4, 8, rfl, by decide, h_X4, Or.inr ⟨"HintPlacer", ⟨List.mem_of_getElem? (i := 189) (by decide +kernel), rfl⟩⟩⟩
theorem f_X7_242 : m_fld RX7 242 1 4 := ⟨RX1, TX1, 8, rfl, by decide, h_X1, Or.inr ⟨"HintPlacer", ⟨List.mem_of_getElem? (i := 230) (by decide +kernel), rfl⟩⟩⟩
theorem f_X7_245 : m_fld RX7 245 1 5 := ⟨RX1, TX1, 8, rfl, by decide, h_X1, Or.inr ⟨"HintPlacer", ⟨List.mem_of_getElem? (i := 232) (by decide +kernel), rfl⟩⟩⟩
theorem f_X7_248 : m_fld RX7 248 1 6 := ⟨RX1, TX1, 8, rfl, by decide, h_X1, Or.inr ⟨"HintPlacer", ⟨List.mem_of_getElem? (i := 234) (by decide +kernel), rfl⟩⟩⟩
theorem f_X7_251 : m_fld RX7 251 2 4 := ⟨RX2, TX2, 6, rfl, by decide, h_X2, Or.inr ⟨"HintPlacer", ⟨List.mem_of_getElem? (i := 169) (by decide +kernel), rfl⟩⟩⟩
theorem f_X7_254 : m_fld RX7 254 6 1 := ⟨RX6, TX6, 2, rfl, by decide, h_X6, Or.inr ⟨"HintPlacer", ⟨List.mem_of_getElem? (i := 146) (by decide +kernel), rfl⟩⟩⟩
theorem f_X7_257 : m_fld RX7 257 6 0 := ⟨RX6, TX6, 2, rfl, by decide, h_X6, Or.inr ⟨"HintPlacer", ⟨List.mem_of_getElem? (i := 143) (by decide +kernel), rfl⟩⟩⟩
theorem f_X8_7 : m_fld RX8 7 8 0 := ⟨RX8, TX8, 21, rfl, by decide, h_X8, Or.inl ⟨List.mem_of_getElem? (i := 660) (by decide +kernel), rfl⟩⟩
theorem f_X8_13 : m_fld RX8 13 8 1 := ⟨RX8, TX8, 21, rfl, by decide, h_X8, Or.inl ⟨List.mem_of_getElem? (i := 661) (by decide +kernel), rfl⟩⟩
theorem f_X8_16 : m_fld RX8 16 8 3 := ⟨RX8, TX8, 21, rfl, by decide, h_X8, Or.inl ⟨List.mem_of_getElem? (i := 663) (by decide +kernel), rfl⟩⟩
theorem f_X8_20 : m_fld RX8 20 8 15 := ⟨RX8, TX8, 21, rfl, by decide, h_X8, Or.inl ⟨List.mem_of_getElem? (i := 675) (by decide +kernel), rfl⟩⟩
theorem f_X8_23 : m_fld RX8 23 8 16 := ⟨RX8, TX8, 21, rfl, by decide, h_X8, Or.inl ⟨List.mem_of_getElem? (i := 676) (by decide +kernel), rfl⟩⟩
theorem f_X8_26 : m_fld RX8 26 8 17 := ⟨RX8, TX8, 21, rfl, by decide, h_X8, Or.inl ⟨List.mem_of_getElem? (i := 677) (by decide +kernel), rfl⟩⟩
theorem f_X8_29 : m_fld RX8 29 8 19 := ⟨RX8, TX8, 21, rfl, by decide, h_X8, Or.inl ⟨List.mem_of_getElem? (i := 679) (by decide +kernel), rfl⟩⟩
theorem f_X8_36 : m_fld RX8 36 8 2 := ⟨RX8, TX8, 21, rfl, by decide, h_X8, Or.inl ⟨List.mem_of_getElem? (i := 662) (by decide +kernel), rfl⟩⟩
theorem f_X8_59 : m_fld RX8 59 8 13 := ⟨RX8, TX8, 21, rfl, by decide, h_X8, Or.inl ⟨List.mem_of_getElem? (i := 673) (by decide +kernel), rfl⟩⟩
theorem f_X8_66 : m_fld RX8 66 8 12 := ⟨RX8, TX8, 21, rfl, by decide, h_X8, Or.inl ⟨List.mem_of_getElem? (i := 672) (by decide +kernel), rfl⟩⟩
theorem f_X8_69 : m_fld RX8 69 8 14 := ⟨RX8, TX8, 21, rfl, by decide, h_X8, Or.inl ⟨List.mem_of_getElem? (i := 674) (by decide +kernel), rfl⟩⟩
theorem f_X8_73 : m_fld RX8 73 8 10 := ⟨RX8, TX8, 21, rfl, by decide, h_X8, Or.inl ⟨List.mem_of_getElem? (i := 670) (by decide +kernel), rfl⟩⟩
theorem f_X8_76 : m_fld RX8 76 8 11 := ⟨RX8, TX8, 21, rfl, by decide, h_X8, Or.inl ⟨List.mem_of_getElem? (i := 671) (by decide +kernel), rfl⟩⟩
theorem f_X8_83 : m_fld RX8 83 8 20 := ⟨RX8, TX8, 21, rfl, by decide, h_X8, Or.inl ⟨List.mem_of_getElem? (i := 680) (by decide +kernel), rfl⟩⟩
theorem f_X8_100 : m_fld RX8 100 8 18 := ⟨RX8, TX8, 21, rfl, by decide, h_X8, Or.inl ⟨List.mem_of_getElem? (i := 678) (by decide +kernel), rfl⟩⟩
theorem f_X8_131 : m_fld RX8 131 8 4 := ⟨RX8, TX8, 21, rfl, by decide, h_X8, Or.inl ⟨List.mem_of_getElem? (i := 664) (by decide +kernel), rfl⟩⟩
theorem f_X8_159 : m_fld RX8 159 8 5 := ⟨RX8, TX8, 21, rfl, by decide, h_X8, Or.inl ⟨List.mem_of_getElem? (i := 665) (by decide +kernel), rfl⟩⟩
theorem f_X8_162 : m_fld RX8 162 8 8 := ⟨RX8, TX8, 21, rfl, by decide, h_X8, Or.inl ⟨List.mem_of_getElem? (i := 668) (by decide +kernel), rfl⟩⟩
theorem f_X8_172 : m_fld RX8 172 8 6 := ⟨RX8, TX8, 21, rfl, by decide, h_X8, Or.inl ⟨List.mem_of_getElem? (i := 666) (by decide +kernel), rfl⟩⟩
theorem f_X8_179 : m_fld RX8 179 8 7 := ⟨RX8, TX8, 21, rfl, by decide, h_X8, Or.inl ⟨List.mem_of_getElem? (i := 667) (by decide +kernel), rfl⟩⟩
theorem f_X8_185 : m_fld RX8 185 8 9 := ⟨RX8, TX8, 21, rfl, by decide, h_X8, Or.inl ⟨List.mem_of_getElem? (i := 669) (by decide +kernel), rfl⟩⟩
theorem p_X0_20 : m_fldp RX0 20 0 2 .int := ⟨RX0, TX0, 3, tyX0, rfl, by decide, h_X0, Or.inl ⟨List.mem_of_getElem? (i := 116) (by decide +kernel), rfl⟩, tyX0_ok, nmX0, rfl, rfl⟩
theorem p_X0_24 : m_fldp RX0 24 0 1 .int := ⟨RX0, TX0, 3, tyX0, rfl, by decide, h_X0, Or.inl ⟨List.mem_of_getElem? (i := 115) (by decide +kernel), rfl⟩, tyX0_ok, nmX0, rfl, rfl⟩
theorem p_X1_20 : m_fldp RX1 20 1 1 .int := ⟨RX1, TX1, 8, tyX1, rfl, by decide, h_X1, Or.inl ⟨List.mem_of_getElem? (i := 223) (by decide +kernel), rfl⟩, tyX1_ok, nmX1, rfl, rfl⟩
theorem p_X1_32 : m_fldp RX1 32 1 4 .int := ⟨RX1, TX1, 8, tyX1, rfl, by decide, h_X1, Or.inl ⟨List.mem_of_getElem? (i := 229) (by decide +kernel), rfl⟩, tyX1_ok, nmX1, rfl, rfl⟩
theorem p_X1_35 : m_fldp RX1 35 1 5 .int := ⟨RX1, TX1, 8, tyX1, rfl, by decide, h_X1, Or.inl ⟨List.mem_of_getElem? (i := 231) (by decide +kernel), rfl⟩, tyX1_ok, nmX1, rfl, rfl⟩
theorem p_X1_38 : m_fldp RX1 38 1 3 .int := ⟨RX1, TX1, 8, tyX1, rfl, by decide, h_X1, Or.inl ⟨List.mem_of_getElem? (i := 227) (by decide +kernel), rfl⟩, tyX1_ok, nmX1, rfl, rfl⟩
theorem p_X1_41 : m_fldp RX1 41 1 2 .int := ⟨RX1, TX1, 8, tyX1, rfl, by decide, h_X1, Or.inl ⟨List.mem_of_getElem? (i := 225) (by decide +kernel), rfl⟩, tyX1_ok, nmX1, rfl, rfl⟩
theorem p_X1_62 : m_fldp RX1 62 1 7 .int := ⟨RX1, TX1, 8, tyX1, rfl, by decide, h_X1, Or.inl ⟨List.mem_of_getElem? (i := 235) (by decide +kernel), rfl⟩, tyX1_ok, nmX1, rfl, rfl⟩
theorem p_X1_68 : m_fldp RX1 68 1 6 .int := ⟨RX1, TX1, 8, tyX1, rfl, by decide, h_X1, Or.inl ⟨List.mem_of_getElem? (i := 233) (by decide +kernel), rfl⟩, tyX1_ok, nmX1, rfl, rfl⟩
theorem p_X2_32 : m_fldp RX2 32 2 2 .int := ⟨RX2, TX2, 6, tyX2, rfl, by decide, h_X2, Or.inl ⟨List.mem_of_getElem? (i := 164) (by decide +kernel), rfl⟩, tyX2_ok, nmX2, rfl, rfl⟩
theorem p_X2_43 : m_fldp RX2 43 2 3 .int := ⟨RX2, TX2, 6, tyX2, rfl, by decide, h_X2, Or.inl ⟨List.mem_of_getElem? (i := 166) (by decide +kernel), rfl⟩, tyX2_ok, nmX2, rfl, rfl⟩
theorem p_X2_50 : m_fldp RX2 50 2 4 .boolean := ⟨RX2, TX2, 6, tyX2, rfl, by decide, h_X2, Or.inl ⟨List.mem_of_getElem? (i := 168) (by decide +kernel), rfl⟩, tyX2_ok, nmX2, rfl, rfl⟩
theorem p_X2_61 : m_fldp RX2 61 2 0 .int := ⟨RX2, TX2, 6, tyX2, rfl, by decide, h_X2, Or.inl ⟨List.mem_of_getElem? (i := 158) (by decide +kernel), rfl⟩, tyX2_ok, nmX2, rfl, rfl⟩
theorem p_X2_64 : m_fldp RX2 64 2 1 .int := ⟨RX2, TX2, 6, tyX2, rfl, by decide, h_X2, Or.inl ⟨List.mem_of_getElem? (i := 161) (by decide +kernel), rfl⟩, tyX2_ok, nmX2, rfl, rfl⟩
theorem p_X2_71 : m_fldp RX2 71 2 5 .boolean := ⟨RX2, TX2, 6, tyX2, rfl, by decide, h_X2, Or.inl ⟨List.mem_of_getElem? (i := 170) (by decide +kernel), rfl⟩, tyX2_ok, nmX2, rfl, rfl⟩
theorem p_X4_46 : m_fldp RX4 46 4 7 .int := ⟨RX4, TX4, 8, tyX4, rfl, by decide, h_X4, Or.inl ⟨List.mem_of_getElem? (i := 195) (by decide +kernel), rfl⟩, tyX4_ok, nmX4, rfl, rfl⟩
theorem p_X6_20 : m_fldp RX6 20 6 1 .int := ⟨RX6, TX6, 2, tyX6, rfl, by decide, h_X6, Or.inl ⟨List.mem_of_getElem? (i := 144) (by decide +kernel), rfl⟩, tyX6_ok, nmX6, rfl, rfl⟩
theorem p_X7_125 : m_fldp RX7 125 1 1 .int := ⟨RX1, TX1, 8, tyX1, rfl, by decide, h_X1, Or.inr ⟨"HintPlacer", ⟨List.mem_of_getElem? (i := 224) (by decide +kernel), rfl⟩⟩, tyX1_ok, nmX1, rfl, rfl⟩
theorem p_X8_36 : m_fldp RX8 36 8 2 .int := ⟨RX8, TX8, 21, tyX8, rfl, by decide, h_X8, Or.inl ⟨List.mem_of_getElem? (i := 662) (by decide +kernel), rfl⟩, tyX8_ok, nmX8, rfl, rfl⟩
theorem p_X8_59 : m_fldp RX8 59 8 13 .int := ⟨RX8, TX8, 21, tyX8, rfl, by decide, h_X8, Or.inl ⟨List.mem_of_getElem? (i := 673) (by decide +kernel), rfl⟩, tyX8_ok, nmX8, rfl, rfl⟩
theorem p_X8_66 : m_fldp RX8 66 8 12 .int := ⟨RX8, TX8, 21, tyX8, rfl, by decide, h_X8, Or.inl ⟨List.mem_of_getElem? (i := 672) (by decide +kernel), rfl⟩, tyX8_ok, nmX8, rfl, rfl⟩
theorem p_X8_69 : m_fldp RX8 69 8 14 .boolean := ⟨RX8, TX8, 21, tyX8, rfl, by decide, h_X8, Or.inl ⟨List.mem_of_getElem? (i := 674) (by decide +kernel), rfl⟩, tyX8_ok, nmX8, rfl, rfl⟩
theorem p_X8_73 : m_fldp RX8 73 8 10 .int := ⟨RX8, TX8, 21, tyX8, rfl, by decide, h_X8, Or.inl ⟨List.mem_of_getElem? (i := 670) (by decide +kernel), rfl⟩, tyX8_ok, nmX8, rfl, rfl⟩
theorem p_X8_76 : m_fldp RX8 76 8 11 .int := ⟨RX8, TX8, 21, tyX8, rfl, by decide, h_X8, Or.inl ⟨List.mem_of_getElem? (i := 671) (by decide +kernel), rfl⟩, tyX8_ok, nmX8, rfl, rfl⟩
theorem p_X8_83 : m_fldp RX8 83 8 20 .int := ⟨RX8, TX8, 21, tyX8, rfl, by decide, h_X8, Or.inl ⟨List.mem_of_getElem? (i := 680) (by decide +kernel), rfl⟩, tyX8_ok, nmX8, rfl, rfl⟩
theorem p_X8_100 : m_fldp RX8 100 8 18 .int := ⟨RX8, TX8, 21, tyX8, rfl, by decide, h_X8, Or.inl ⟨List.mem_of_getElem? (i := 678) (by decide +kernel), rfl⟩, tyX8_ok, nmX8, rfl, rfl⟩
theorem p_X8_131 : m_fldp RX8 131 8 4 .int := ⟨RX8, TX8, 21, tyX8, rfl, by decide, h_X8, Or.inl ⟨List.mem_of_getElem? (i := 664) (by decide +kernel), rfl⟩, tyX8_ok, nmX8, rfl, rfl⟩
theorem p_X8_159 : m_fldp RX8 159 8 5 .int := ⟨RX8, TX8, 21, tyX8, rfl, by decide, h_X8, Or.inl ⟨List.mem_of_getElem? (i := 665) (by decide +kernel), rfl⟩, tyX8_ok, nmX8, rfl, rfl⟩
theorem p_X8_162 : m_fldp RX8 162 8 8 .int := ⟨RX8, TX8, 21, tyX8, rfl, by decide, h_X8, Or.inl ⟨List.mem_of_getElem? (i := 668) (by decide +kernel), rfl⟩, tyX8_ok, nmX8, rfl, rfl⟩
theorem p_X8_172 : m_fldp RX8 172 8 6 .int := ⟨RX8, TX8, 21, tyX8, rfl, by decide, h_X8, Or.inl ⟨List.mem_of_getElem? (i := 666) (by decide +kernel), rfl⟩, tyX8_ok, nmX8, rfl, rfl⟩
theorem p_X8_179 : m_fldp RX8 179 8 7 .int := ⟨RX8, TX8, 21, tyX8, rfl, by decide, h_X8, Or.inl ⟨List.mem_of_getElem? (i := 667) (by decide +kernel), rfl⟩, tyX8_ok, nmX8, rfl, rfl⟩
theorem p_X8_185 : m_fldp RX8 185 8 9 .int := ⟨RX8, TX8, 21, tyX8, rfl, by decide, h_X8, Or.inl ⟨List.mem_of_getElem? (i := 669) (by decide +kernel), rfl⟩, tyX8_ok, nmX8, rfl, rfl⟩
theorem e_X0_beginOf : m_mev k_X0_beginOf 1 := ⟨⟨⟨List.mem_of_getElem? (i := 290) (by decide +kernel), rfl⟩, ⟨List.mem_of_getElem? (i := 64) (by decide +kernel), rfl⟩, by decide +kernel, by decide +kernel, rfl, rfl⟩, ⟨List.mem_of_getElem? (i := 289) (by decide +kernel), rfl⟩, ⟨List.mem_of_getElem? (i := 0) (by decide +kernel), rfl⟩⟩
theorem n_X0_27 : m_lk RX0 27 yX0_beginOf := Or.inl ⟨List.mem_of_getElem? (i := 287) (by decide +kernel), rfl⟩
theorem e_X5_copyTo : m_mev k_X5_copyTo 2 := ⟨⟨⟨List.mem_of_getElem? (i := 294) (by decide +kernel), rfl⟩, ⟨List.mem_of_getElem? (i := 61) (by decide +kernel), rfl⟩, by decide +kernel, by decide +kernel, rfl, rfl⟩, ⟨List.mem_of_getElem? (i := 292) (by decide +kernel), rfl⟩, ⟨List.mem_of_getElem? (i := 293) (by decide +kernel), rfl⟩⟩
theorem n_X0_31 : m_lk RX0 31 yX5_copyTo := Or.inl ⟨List.mem_of_getElem? (i := 291) (by decide +kernel), rfl⟩
theorem e_X5_copyFrom : m_mev k_X5_copyFrom 2 := ⟨⟨⟨List.mem_of_getElem? (i := 591) (by decide +kernel), rfl⟩, ⟨List.mem_of_getElem? (i := 61) (by decide +kernel), rfl⟩, by decide +kernel, by decide +kernel, rfl, rfl⟩, ⟨List.mem_of_getElem? (i := 589) (by decide +kernel), rfl⟩, ⟨List.mem_of_getElem? (i := 590) (by decide +kernel), rfl⟩⟩
theorem n_X0_37 : m_lk RX0 37 yX5_copyFrom := Or.inl ⟨List.mem_of_getElem? (i := 588) (by decide +kernel), rfl⟩
theorem e_X3_put : m_mev k_X3_put 2 := ⟨⟨⟨List.mem_of_getElem? (i := 101) (by decide +kernel), rfl⟩, ⟨List.mem_of_getElem? (i := 62) (by decide +kernel), rfl⟩, by decide +kernel, by decide +kernel, rfl, rfl⟩, ⟨List.mem_of_getElem? (i := 99) (by decide +kernel), rfl⟩, ⟨List.mem_of_getElem? (i := 100) (by decide +kernel), rfl⟩⟩
theorem n_X1_24 : m_lk RX1 24 yX3_put := Or.inl ⟨List.mem_of_getElem? (i := 600) (by decide +kernel), rfl⟩
theorem e_X1_read : m_mev k_X1_read 1 := ⟨⟨⟨List.mem_of_getElem? (i := 616) (by decide +kernel), rfl⟩, ⟨List.mem_of_getElem? (i := 68) (by decide +kernel), rfl⟩, by decide +kernel, by decide +kernel, rfl, rfl⟩, ⟨List.mem_of_getElem? (i := 614) (by decide +kernel), rfl⟩, ⟨List.mem_of_getElem? (i := 615) (by decide +kernel), rfl⟩⟩
theorem n_X1_28 : m_lk RX1 28 yX1_read := Or.inl ⟨List.mem_of_getElem? (i := 613) (by decide +kernel), rfl⟩
theorem e_X1_signAt : m_mev k_X1_signAt 1 := ⟨⟨⟨List.mem_of_getElem? (i := 620) (by decide +kernel), rfl⟩, ⟨List.mem_of_getElem? (i := 68) (by decide +kernel), rfl⟩, by decide +kernel, by decide +kernel, rfl, rfl⟩, ⟨List.mem_of_getElem? (i := 619) (by decide +kernel), rfl⟩, ⟨List.mem_of_getElem? (i := 20) (by decide +kernel), rfl⟩⟩
theorem n_X1_44 : m_lk RX1 44 yX1_signAt := Or.inl ⟨List.mem_of_getElem? (i := 617) (by decide +kernel), rfl⟩
theorem e_X1_readHint : m_mev k_X1_readHint 0 := ⟨⟨⟨List.mem_of_getElem? (i := 625) (by decide +kernel), rfl⟩, ⟨List.mem_of_getElem? (i := 68) (by decide +kernel), rfl⟩, by decide +kernel, by decide +kernel, rfl, rfl⟩, ⟨List.mem_of_getElem? (i := 624) (by decide +kernel), rfl⟩, ⟨List.mem_of_getElem? (i := 21) (by decide +kernel), rfl⟩⟩
theorem n_X1_48 : m_lk RX1 48 yX1_readHint := Or.inl ⟨List.mem_of_getElem? (i := 622) (by decide +kernel), rfl⟩
theorem e_X1_pass : m_mev k_X1_pass 1 := ⟨⟨⟨List.mem_of_getElem? (i := 636) (by decide +kernel), rfl⟩, ⟨List.mem_of_getElem? (i := 68) (by decide +kernel), rfl⟩, by decide +kernel, by decide +kernel, rfl, rfl⟩, ⟨List.mem_of_getElem? (i := 635) (by decide +kernel), rfl⟩, ⟨List.mem_of_getElem? (i := 23) (by decide +kernel), rfl⟩⟩
theorem n_X1_52 : m_lk RX1 52 yX1_pass := Or.inl ⟨List.mem_of_getElem? (i := 633) (by decide +kernel), rfl⟩
theorem e_X1_readMove : m_mev k_X1_readMove 0 := ⟨⟨⟨List.mem_of_getElem? (i := 640) (by decide +kernel), rfl⟩, ⟨List.mem_of_getElem? (i := 68) (by decide +kernel), rfl⟩, by decide +kernel, by decide +kernel, rfl, rfl⟩, ⟨List.mem_of_getElem? (i := 639) (by decide +kernel), rfl⟩, ⟨List.mem_of_getElem? (i := 24) (by decide +kernel), rfl⟩⟩
theorem n_X1_56 : m_lk RX1 56 yX1_readMove := Or.inl ⟨List.mem_of_getElem? (i := 637) (by decide +kernel), rfl⟩
theorem e_X1_readDigits : m_mev k_X1_readDigits 1 := ⟨⟨⟨List.mem_of_getElem? (i := 629) (by decide +kernel), rfl⟩, ⟨List.mem_of_getElem? (i := 68) (by decide +kernel), rfl⟩, by decide +kernel, by decide +kernel, rfl, rfl⟩, ⟨List.mem_of_getElem? (i := 628) (by decide +kernel), rfl⟩, ⟨List.mem_of_getElem? (i := 22) (by decide +kernel), rfl⟩⟩
theorem n_X1_59 : m_lk RX1 59 yX1_readDigits := Or.inl ⟨List.mem_of_getElem? (i := 626) (by decide +kernel), rfl⟩
theorem e_X1_readSigned : m_mev k_X1_readSigned 0 := ⟨⟨⟨List.mem_of_getElem? (i := 644) (by decide +kernel), rfl⟩, ⟨List.mem_of_getElem? (i := 68) (by decide +kernel), rfl⟩, by decide +kernel, by decide +kernel, rfl, rfl⟩, ⟨List.mem_of_getElem? (i := 643) (by decide +kernel), rfl⟩, ⟨List.mem_of_getElem? (i := 25) (by decide +kernel), rfl⟩⟩
theorem n_X1_65 : m_lk RX1 65 yX1_readSigned := Or.inl ⟨List.mem_of_getElem? (i := 641) (by decide +kernel), rfl⟩
theorem e_X1_isDigit : m_mes k_X1_isDigit 1 := ⟨⟨⟨List.mem_of_getElem? (i := 632) (by decide +kernel), rfl⟩, ⟨List.mem_of_getElem? (i := 68) (by decide +kernel), rfl⟩, by decide +kernel, by decide +kernel, rfl, rfl⟩, ⟨List.mem_of_getElem? (i := 631) (by decide +kernel), rfl⟩⟩
theorem n_X1_71 : m_lk RX1 71 yX1_isDigit := Or.inl ⟨List.mem_of_getElem? (i := 630) (by decide +kernel), rfl⟩
theorem e_X3_get : m_mev k_X3_get 1 := ⟨⟨⟨List.mem_of_getElem? (i := 298) (by decide +kernel), rfl⟩, ⟨List.mem_of_getElem? (i := 62) (by decide +kernel), rfl⟩, by decide +kernel, by decide +kernel, rfl, rfl⟩, ⟨List.mem_of_getElem? (i := 296) (by decide +kernel), rfl⟩, ⟨List.mem_of_getElem? (i := 297) (by decide +kernel), rfl⟩⟩
theorem n_X1_74 : m_lk RX1 74 yX3_get := Or.inl ⟨List.mem_of_getElem? (i := 621) (by decide +kernel), rfl⟩
theorem e_X5_hintValue : m_mev k_X5_hintValue 2 := ⟨⟨⟨List.mem_of_getElem? (i := 323) (by decide +kernel), rfl⟩, ⟨List.mem_of_getElem? (i := 61) (by decide +kernel), rfl⟩, by decide +kernel, by decide +kernel, rfl, rfl⟩, ⟨List.mem_of_getElem? (i := 321) (by decide +kernel), rfl⟩, ⟨List.mem_of_getElem? (i := 322) (by decide +kernel), rfl⟩⟩
theorem n_X2_9 : m_lk RX2 9 yX5_hintValue := Or.inl ⟨List.mem_of_getElem? (i := 375) (by decide +kernel), rfl⟩
theorem e_X7_isLevel : m_mes k_X7_isLevel 1 := ⟨⟨⟨List.mem_of_getElem? (i := 378) (by decide +kernel), rfl⟩, ⟨List.mem_of_getElem? (i := 60) (by decide +kernel), rfl⟩, by decide +kernel, by decide +kernel, rfl, rfl⟩, ⟨List.mem_of_getElem? (i := 377) (by decide +kernel), rfl⟩⟩
theorem n_X2_15 : m_lk RX2 15 yX7_isLevel := Or.inr ⟨"HintPlacer", ⟨List.mem_of_getElem? (i := 376) (by decide +kernel), rfl⟩⟩
theorem e_X2_beginAlong : m_mes k_X2_beginAlong 3 := ⟨⟨⟨List.mem_of_getElem? (i := 381) (by decide +kernel), rfl⟩, ⟨List.mem_of_getElem? (i := 67) (by decide +kernel), rfl⟩, by decide +kernel, by decide +kernel, rfl, rfl⟩, ⟨List.mem_of_getElem? (i := 380) (by decide +kernel), rfl⟩⟩
theorem n_X2_19 : m_lk RX2 19 yX2_beginAlong := Or.inl ⟨List.mem_of_getElem? (i := 379) (by decide +kernel), rfl⟩
theorem e_X2_middleAlong : m_mes k_X2_middleAlong 3 := ⟨⟨⟨List.mem_of_getElem? (i := 388) (by decide +kernel), rfl⟩, ⟨List.mem_of_getElem? (i := 67) (by decide +kernel), rfl⟩, by decide +kernel, by decide +kernel, rfl, rfl⟩, ⟨List.mem_of_getElem? (i := 387) (by decide +kernel), rfl⟩⟩
theorem n_X2_25 : m_lk RX2 25 yX2_middleAlong := Or.inl ⟨List.mem_of_getElem? (i := 386) (by decide +kernel), rfl⟩
theorem e_X5_setting : m_mev k_X5_setting 1 := ⟨⟨⟨List.mem_of_getElem? (i := 358) (by decide +kernel), rfl⟩, ⟨List.mem_of_getElem? (i := 61) (by decide +kernel), rfl⟩, by decide +kernel, by decide +kernel, rfl, rfl⟩, ⟨List.mem_of_getElem? (i := 356) (by decide +kernel), rfl⟩, ⟨List.mem_of_getElem? (i := 357) (by decide +kernel), rfl⟩⟩
theorem n_X2_28 : m_lk RX2 28 yX5_setting := Or.inl ⟨List.mem_of_getElem? (i := 389) (by decide +kernel), rfl⟩
theorem e_X5_get : m_mev k_X5_get 1 := ⟨⟨⟨List.mem_of_getElem? (i := 314) (by decide +kernel), rfl⟩, ⟨List.mem_of_getElem? (i := 61) (by decide +kernel), rfl⟩, by decide +kernel, by decide +kernel, rfl, rfl⟩, ⟨List.mem_of_getElem? (i := 312) (by decide +kernel), rfl⟩, ⟨List.mem_of_getElem? (i := 313) (by decide +kernel), rfl⟩⟩
theorem n_X2_36 : m_lk RX2 36 yX5_get := Or.inl ⟨List.mem_of_getElem? (i := 390) (by decide +kernel), rfl⟩
theorem e_X2_shiftInto : m_mes k_X2_shiftInto 6 := ⟨⟨⟨List.mem_of_getElem? (i := 393) (by decide +kernel), rfl⟩, ⟨List.mem_of_getElem? (i := 67) (by decide +kernel), rfl⟩, by decide +kernel, by decide +kernel, rfl, rfl⟩, ⟨List.mem_of_getElem? (i := 392) (by decide +kernel), rfl⟩⟩
theorem n_X2_39 : m_lk RX2 39 yX2_shiftInto := Or.inl ⟨List.mem_of_getElem? (i := 391) (by decide +kernel), rfl⟩
theorem e_X2_isGood : m_mes k_X2_isGood 3 := ⟨⟨⟨List.mem_of_getElem? (i := 397) (by decide +kernel), rfl⟩, ⟨List.mem_of_getElem? (i := 67) (by decide +kernel), rfl⟩, by decide +kernel, by decide +kernel, rfl, rfl⟩, ⟨List.mem_of_getElem? (i := 396) (by decide +kernel), rfl⟩⟩
theorem n_X2_46 : m_lk RX2 46 yX2_isGood := Or.inl ⟨List.mem_of_getElem? (i := 395) (by decide +kernel), rfl⟩
theorem e_X7_edgeBy : m_mes k_X7_edgeBy 3 := ⟨⟨⟨List.mem_of_getElem? (i := 403) (by decide +kernel), rfl⟩, ⟨List.mem_of_getElem? (i := 60) (by decide +kernel), rfl⟩, by decide +kernel, by decide +kernel, rfl, rfl⟩, ⟨List.mem_of_getElem? (i := 402) (by decide +kernel), rfl⟩⟩
theorem n_X2_54 : m_lk RX2 54 yX7_edgeBy := Or.inr ⟨"HintPlacer", ⟨List.mem_of_getElem? (i := 401) (by decide +kernel), rfl⟩⟩
theorem e_X7_isBefore : m_mes k_X7_isBefore 1 := ⟨⟨⟨List.mem_of_getElem? (i := 409) (by decide +kernel), rfl⟩, ⟨List.mem_of_getElem? (i := 60) (by decide +kernel), rfl⟩, by decide +kernel, by decide +kernel, rfl, rfl⟩, ⟨List.mem_of_getElem? (i := 408) (by decide +kernel), rfl⟩⟩
theorem n_X2_58 : m_lk RX2 58 yX7_isBefore := Or.inr ⟨"HintPlacer", ⟨List.mem_of_getElem? (i := 410) (by decide +kernel), rfl⟩⟩
theorem e_X7_spanLiesIn : m_mes k_X7_spanLiesIn 4 := ⟨⟨⟨List.mem_of_getElem? (i := 413) (by decide +kernel), rfl⟩, ⟨List.mem_of_getElem? (i := 60) (by decide +kernel), rfl⟩, by decide +kernel, by decide +kernel, rfl, rfl⟩, ⟨List.mem_of_getElem? (i := 412) (by decide +kernel), rfl⟩⟩
theorem n_X2_67 : m_lk RX2 67 yX7_spanLiesIn := Or.inr ⟨"HintPlacer", ⟨List.mem_of_getElem? (i := 411) (by decide +kernel), rfl⟩⟩
theorem e_X5_anchorValue : m_mev k_X5_anchorValue 2 := ⟨⟨⟨List.mem_of_getElem? (i := 351) (by decide +kernel), rfl⟩, ⟨List.mem_of_getElem? (i := 61) (by decide +kernel), rfl⟩, by decide +kernel, by decide +kernel, rfl, rfl⟩, ⟨List.mem_of_getElem? (i := 349) (by decide +kernel), rfl⟩, ⟨List.mem_of_getElem? (i := 350) (by decide +kernel), rfl⟩⟩
theorem n_X2_74 : m_lk RX2 74 yX5_anchorValue := Or.inl ⟨List.mem_of_getElem? (i := 382) (by decide +kernel), rfl⟩
theorem e_J9_floorDiv_7cf53 : m_mes k_J9_floorDiv_7cf53 2 := ⟨⟨⟨List.mem_of_getElem? (i := 385) (by decide +kernel), rfl⟩, ⟨List.mem_of_getElem? (i := 63) (by decide +kernel), rfl⟩, by decide +kernel, by decide +kernel, rfl, rfl⟩, ⟨List.mem_of_getElem? (i := 384) (by decide +kernel), rfl⟩⟩
theorem n_X2_77 : m_lk RX2 77 yJ9_floorDiv_7cf53 := Or.inl ⟨List.mem_of_getElem? (i := 383) (by decide +kernel), rfl⟩
theorem e_J9_max_7cf53 : m_mes k_J9_max_7cf53 2 := ⟨⟨⟨List.mem_of_getElem? (i := 92) (by decide +kernel), rfl⟩, ⟨List.mem_of_getElem? (i := 63) (by decide +kernel), rfl⟩, by decide +kernel, by decide +kernel, rfl, rfl⟩, ⟨List.mem_of_getElem? (i := 91) (by decide +kernel), rfl⟩⟩
theorem n_X2_82 : m_lk RX2 82 yJ9_max_7cf53 := Or.inl ⟨List.mem_of_getElem? (i := 394) (by decide +kernel), rfl⟩
theorem e_J9_min_7cf53 : m_mes k_J9_min_7cf53 2 := ⟨⟨⟨List.mem_of_getElem? (i := 400) (by decide +kernel), rfl⟩, ⟨List.mem_of_getElem? (i := 63) (by decide +kernel), rfl⟩, by decide +kernel, by decide +kernel, rfl, rfl⟩, ⟨List.mem_of_getElem? (i := 399) (by decide +kernel), rfl⟩⟩
theorem n_X2_85 : m_lk RX2 85 yJ9_min_7cf53 := Or.inl ⟨List.mem_of_getElem? (i := 398) (by decide +kernel), rfl⟩
theorem n_X3_7 : m_lk RX3 7 yJ9_max_7cf53 := Or.inl ⟨List.mem_of_getElem? (i := 90) (by decide +kernel), rfl⟩
theorem e_X4_orderOpenHints : m_mev k_X4_orderOpenHints 1 := ⟨⟨⟨List.mem_of_getElem? (i := 310) (by decide +kernel), rfl⟩, ⟨List.mem_of_getElem? (i := 65) (by decide +kernel), rfl⟩, by decide +kernel, by decide +kernel, rfl, rfl⟩, ⟨List.mem_of_getElem? (i := 309) (by decide +kernel), rfl⟩, ⟨List.mem_of_getElem? (i := 1) (by decide +kernel), rfl⟩⟩
theorem n_X4_50 : m_lk RX4 50 yX4_orderOpenHints := Or.inl ⟨List.mem_of_getElem? (i := 307) (by decide +kernel), rfl⟩
theorem n_X4_54 : m_lk RX4 54 yX3_get := Or.inl ⟨List.mem_of_getElem? (i := 334) (by decide +kernel), rfl⟩
theorem e_X4_tryToShow : m_mev k_X4_tryToShow 2 := ⟨⟨⟨List.mem_of_getElem? (i := 338) (by decide +kernel), rfl⟩, ⟨List.mem_of_getElem? (i := 65) (by decide +kernel), rfl⟩, by decide +kernel, by decide +kernel, rfl, rfl⟩, ⟨List.mem_of_getElem? (i := 337) (by decide +kernel), rfl⟩, ⟨List.mem_of_getElem? (i := 3) (by decide +kernel), rfl⟩⟩
theorem n_X4_58 : m_lk RX4 58 yX4_tryToShow := Or.inl ⟨List.mem_of_getElem? (i := 335) (by decide +kernel), rfl⟩
theorem n_X4_62 : m_lk RX4 62 yX3_put := Or.inl ⟨List.mem_of_getElem? (i := 315) (by decide +kernel), rfl⟩
theorem n_X4_66 : m_lk RX4 66 yX5_get := Or.inl ⟨List.mem_of_getElem? (i := 311) (by decide +kernel), rfl⟩
theorem e_X5_isOpen : m_mev k_X5_isOpen 1 := ⟨⟨⟨List.mem_of_getElem? (i := 319) (by decide +kernel), rfl⟩, ⟨List.mem_of_getElem? (i := 61) (by decide +kernel), rfl⟩, by decide +kernel, by decide +kernel, rfl, rfl⟩, ⟨List.mem_of_getElem? (i := 317) (by decide +kernel), rfl⟩, ⟨List.mem_of_getElem? (i := 318) (by decide +kernel), rfl⟩⟩
theorem n_X4_69 : m_lk RX4 69 yX5_isOpen := Or.inl ⟨List.mem_of_getElem? (i := 316) (by decide +kernel), rfl⟩
theorem e_X5_turn : m_mev k_X5_turn 1 := ⟨⟨⟨List.mem_of_getElem? (i := 327) (by decide +kernel), rfl⟩, ⟨List.mem_of_getElem? (i := 61) (by decide +kernel), rfl⟩, by decide +kernel, by decide +kernel, rfl, rfl⟩, ⟨List.mem_of_getElem? (i := 325) (by decide +kernel), rfl⟩, ⟨List.mem_of_getElem? (i := 326) (by decide +kernel), rfl⟩⟩
theorem n_X4_73 : m_lk RX4 73 yX5_turn := Or.inl ⟨List.mem_of_getElem? (i := 324) (by decide +kernel), rfl⟩
theorem n_X4_76 : m_lk RX4 76 yX5_hintValue := Or.inl ⟨List.mem_of_getElem? (i := 339) (by decide +kernel), rfl⟩
theorem e_X5_isAnchorInSight : m_mev k_X5_isAnchorInSight 1 := ⟨⟨⟨List.mem_of_getElem? (i := 343) (by decide +kernel), rfl⟩, ⟨List.mem_of_getElem? (i := 61) (by decide +kernel), rfl⟩, by decide +kernel, by decide +kernel, rfl, rfl⟩, ⟨List.mem_of_getElem? (i := 341) (by decide +kernel), rfl⟩, ⟨List.mem_of_getElem? (i := 342) (by decide +kernel), rfl⟩⟩
theorem n_X4_80 : m_lk RX4 80 yX5_isAnchorInSight := Or.inl ⟨List.mem_of_getElem? (i := 340) (by decide +kernel), rfl⟩
theorem n_X4_83 : m_lk RX4 83 yX5_setting := Or.inl ⟨List.mem_of_getElem? (i := 355) (by decide +kernel), rfl⟩
theorem e_X6_list : m_mev k_X6_list 2 := ⟨⟨⟨List.mem_of_getElem? (i := 362) (by decide +kernel), rfl⟩, ⟨List.mem_of_getElem? (i := 66) (by decide +kernel), rfl⟩, by decide +kernel, by decide +kernel, rfl, rfl⟩, ⟨List.mem_of_getElem? (i := 360) (by decide +kernel), rfl⟩, ⟨List.mem_of_getElem? (i := 361) (by decide +kernel), rfl⟩⟩
theorem n_X4_86 : m_lk RX4 86 yX6_list := Or.inl ⟨List.mem_of_getElem? (i := 359) (by decide +kernel), rfl⟩
theorem e_X2_find : m_mev k_X2_find 5 := ⟨⟨⟨List.mem_of_getElem? (i := 374) (by decide +kernel), rfl⟩, ⟨List.mem_of_getElem? (i := 67) (by decide +kernel), rfl⟩, by decide +kernel, by decide +kernel, rfl, rfl⟩, ⟨List.mem_of_getElem? (i := 372) (by decide +kernel), rfl⟩, ⟨List.mem_of_getElem? (i := 373) (by decide +kernel), rfl⟩⟩
theorem n_X4_94 : m_lk RX4 94 yX2_find := Or.inl ⟨List.mem_of_getElem? (i := 371) (by decide +kernel), rfl⟩
theorem e_X4_isFree : m_mev k_X4_isFree 2 := ⟨⟨⟨List.mem_of_getElem? (i := 417) (by decide +kernel), rfl⟩, ⟨List.mem_of_getElem? (i := 65) (by decide +kernel), rfl⟩, by decide +kernel, by decide +kernel, rfl, rfl⟩, ⟨List.mem_of_getElem? (i := 416) (by decide +kernel), rfl⟩, ⟨List.mem_of_getElem? (i := 5) (by decide +kernel), rfl⟩⟩
theorem n_X4_102 : m_lk RX4 102 yX4_isFree := Or.inl ⟨List.mem_of_getElem? (i := 414) (by decide +kernel), rfl⟩
theorem e_X4_shownThatMeets : m_mev k_X4_shownThatMeets 5 := ⟨⟨⟨List.mem_of_getElem? (i := 421) (by decide +kernel), rfl⟩, ⟨List.mem_of_getElem? (i := 65) (by decide +kernel), rfl⟩, by decide +kernel, by decide +kernel, rfl, rfl⟩, ⟨List.mem_of_getElem? (i := 419) (by decide +kernel), rfl⟩, ⟨List.mem_of_getElem? (i := 420) (by decide +kernel), rfl⟩⟩
theorem n_X4_112 : m_lk RX4 112 yX4_shownThatMeets := Or.inl ⟨List.mem_of_getElem? (i := 418) (by decide +kernel), rfl⟩
theorem e_X5_anchorMeets : m_mev k_X5_anchorMeets 5 := ⟨⟨⟨List.mem_of_getElem? (i := 347) (by decide +kernel), rfl⟩, ⟨List.mem_of_getElem? (i := 61) (by decide +kernel), rfl⟩, by decide +kernel, by decide +kernel, rfl, rfl⟩, ⟨List.mem_of_getElem? (i := 345) (by decide +kernel), rfl⟩, ⟨List.mem_of_getElem? (i := 346) (by decide +kernel), rfl⟩⟩
theorem n_X4_116 : m_lk RX4 116 yX5_anchorMeets := Or.inl ⟨List.mem_of_getElem? (i := 423) (by decide +kernel), rfl⟩
theorem e_X7_spansMeet : m_mes k_X7_spansMeet 4 := ⟨⟨⟨List.mem_of_getElem? (i := 354) (by decide +kernel), rfl⟩, ⟨List.mem_of_getElem? (i := 60) (by decide +kernel), rfl⟩, by decide +kernel, by decide +kernel, rfl, rfl⟩, ⟨List.mem_of_getElem? (i := 353) (by decide +kernel), rfl⟩⟩
theorem n_X4_120 : m_lk RX4 120 yX7_spansMeet := Or.inr ⟨"HintPlacer", ⟨List.mem_of_getElem? (i := 422) (by decide +kernel), rfl⟩⟩
theorem n_X5_20 : m_lk RX5 20 yX3_put := Or.inl ⟨List.mem_of_getElem? (i := 98) (by decide +kernel), rfl⟩
theorem n_X5_24 : m_lk RX5 24 yX3_get := Or.inl ⟨List.mem_of_getElem? (i := 295) (by decide +kernel), rfl⟩
theorem n_X5_28 : m_lk RX5 28 yX5_hintValue := Or.inl ⟨List.mem_of_getElem? (i := 320) (by decide +kernel), rfl⟩
theorem n_X5_32 : m_lk RX5 32 yX5_get := Or.inl ⟨List.mem_of_getElem? (i := 328) (by decide +kernel), rfl⟩
theorem n_X5_33 : m_lk RX5 33 yX5_anchorMeets := Or.inl ⟨List.mem_of_getElem? (i := 344) (by decide +kernel), rfl⟩
theorem n_X5_37 : m_lk RX5 37 yX5_anchorValue := Or.inl ⟨List.mem_of_getElem? (i := 348) (by decide +kernel), rfl⟩
theorem n_X5_40 : m_lk RX5 40 yX7_spansMeet := Or.inr ⟨"HintPlacer", ⟨List.mem_of_getElem? (i := 352) (by decide +kernel), rfl⟩⟩
theorem n_X5_44 : m_lk RX5 44 yX5_isOpen := Or.inl ⟨List.mem_of_getElem? (i := 329) (by decide +kernel), rfl⟩
theorem e_X5_goesBefore : m_mev k_X5_goesBefore 2 := ⟨⟨⟨List.mem_of_getElem? (i := 333) (by decide +kernel), rfl⟩, ⟨List.mem_of_getElem? (i := 61) (by decide +kernel), rfl⟩, by decide +kernel, by decide +kernel, rfl, rfl⟩, ⟨List.mem_of_getElem? (i := 332) (by decide +kernel), rfl⟩, ⟨List.mem_of_getElem? (i := 2) (by decide +kernel), rfl⟩⟩
theorem n_X5_48 : m_lk RX5 48 yX5_goesBefore := Or.inl ⟨List.mem_of_getElem? (i := 330) (by decide +kernel), rfl⟩
theorem n_X6_24 : m_lk RX6 24 yX5_hintValue := Or.inl ⟨List.mem_of_getElem? (i := 363) (by decide +kernel), rfl⟩
theorem n_X6_30 : m_lk RX6 30 yX5_setting := Or.inl ⟨List.mem_of_getElem? (i := 364) (by decide +kernel), rfl⟩
theorem e_X6_add : m_mev k_X6_add 1 := ⟨⟨⟨List.mem_of_getElem? (i := 368) (by decide +kernel), rfl⟩, ⟨List.mem_of_getElem? (i := 66) (by decide +kernel), rfl⟩, by decide +kernel, by decide +kernel, rfl, rfl⟩, ⟨List.mem_of_getElem? (i := 367) (by decide +kernel), rfl⟩, ⟨List.mem_of_getElem? (i := 4) (by decide +kernel), rfl⟩⟩
theorem n_X6_34 : m_lk RX6 34 yX6_add := Or.inl ⟨List.mem_of_getElem? (i := 365) (by decide +kernel), rfl⟩
theorem n_X6_37 : m_lk RX6 37 yX3_get := Or.inl ⟨List.mem_of_getElem? (i := 369) (by decide +kernel), rfl⟩
theorem n_X6_40 : m_lk RX6 40 yX3_put := Or.inl ⟨List.mem_of_getElem? (i := 370) (by decide +kernel), rfl⟩
theorem e_X7_isViewSize : m_mes k_X7_isViewSize 1 := ⟨⟨⟨List.mem_of_getElem? (i := 282) (by decide +kernel), rfl⟩, ⟨List.mem_of_getElem? (i := 60) (by decide +kernel), rfl⟩, by decide +kernel, by decide +kernel, rfl, rfl⟩, ⟨List.mem_of_getElem? (i := 281) (by decide +kernel), rfl⟩⟩
theorem n_X7_51 : m_lk RX7 51 yX7_isViewSize := Or.inl ⟨List.mem_of_getElem? (i := 280) (by decide +kernel), rfl⟩
theorem e_X0_keep : m_mev k_X0_keep 1 := ⟨⟨⟨List.mem_of_getElem? (i := 286) (by decide +kernel), rfl⟩, ⟨List.mem_of_getElem? (i := 64) (by decide +kernel), rfl⟩, by decide +kernel, by decide +kernel, rfl, rfl⟩, ⟨List.mem_of_getElem? (i := 284) (by decide +kernel), rfl⟩, ⟨List.mem_of_getElem? (i := 285) (by decide +kernel), rfl⟩⟩
theorem n_X7_55 : m_lk RX7 55 yX0_keep := Or.inl ⟨List.mem_of_getElem? (i := 283) (by decide +kernel), rfl⟩
theorem e_X5_put : m_mev k_X5_put 2 := ⟨⟨⟨List.mem_of_getElem? (i := 302) (by decide +kernel), rfl⟩, ⟨List.mem_of_getElem? (i := 61) (by decide +kernel), rfl⟩, by decide +kernel, by decide +kernel, rfl, rfl⟩, ⟨List.mem_of_getElem? (i := 300) (by decide +kernel), rfl⟩, ⟨List.mem_of_getElem? (i := 301) (by decide +kernel), rfl⟩⟩
theorem n_X7_59 : m_lk RX7 59 yX5_put := Or.inl ⟨List.mem_of_getElem? (i := 299) (by decide +kernel), rfl⟩
theorem e_X4_arrange : m_mev k_X4_arrange 1 := ⟨⟨⟨List.mem_of_getElem? (i := 306) (by decide +kernel), rfl⟩, ⟨List.mem_of_getElem? (i := 65) (by decide +kernel), rfl⟩, by decide +kernel, by decide +kernel, rfl, rfl⟩, ⟨List.mem_of_getElem? (i := 304) (by decide +kernel), rfl⟩, ⟨List.mem_of_getElem? (i := 305) (by decide +kernel), rfl⟩⟩
theorem n_X7_63 : m_lk RX7 63 yX4_arrange := Or.inl ⟨List.mem_of_getElem? (i := 303) (by decide +kernel), rfl⟩
theorem e_X7_isWithin : m_mes k_X7_isWithin 2 := ⟨⟨⟨List.mem_of_getElem? (i := 430) (by decide +kernel), rfl⟩, ⟨List.mem_of_getElem? (i := 60) (by decide +kernel), rfl⟩, by decide +kernel, by decide +kernel, rfl, rfl⟩, ⟨List.mem_of_getElem? (i := 429) (by decide +kernel), rfl⟩⟩
theorem n_X7_67 : m_lk RX7 67 yX7_isWithin := Or.inl ⟨List.mem_of_getElem? (i := 428) (by decide +kernel), rfl⟩
theorem e_X7_canMoveView : m_mev k_X7_canMoveView 2 := ⟨⟨⟨List.mem_of_getElem? (i := 434) (by decide +kernel), rfl⟩, ⟨List.mem_of_getElem? (i := 60) (by decide +kernel), rfl⟩, by decide +kernel, by decide +kernel, rfl, rfl⟩, ⟨List.mem_of_getElem? (i := 433) (by decide +kernel), rfl⟩, ⟨List.mem_of_getElem? (i := 6) (by decide +kernel), rfl⟩⟩
theorem n_X7_71 : m_lk RX7 71 yX7_canMoveView := Or.inl ⟨List.mem_of_getElem? (i := 431) (by decide +kernel), rfl⟩
theorem e_X7_moveView : m_mev k_X7_moveView 2 := ⟨⟨⟨List.mem_of_getElem? (i := 439) (by decide +kernel), rfl⟩, ⟨List.mem_of_getElem? (i := 60) (by decide +kernel), rfl⟩, by decide +kernel, by decide +kernel, rfl, rfl⟩, ⟨List.mem_of_getElem? (i := 438) (by decide +kernel), rfl⟩, ⟨List.mem_of_getElem? (i := 7) (by decide +kernel), rfl⟩⟩
theorem n_X7_74 : m_lk RX7 74 yX7_moveView := Or.inl ⟨List.mem_of_getElem? (i := 436) (by decide +kernel), rfl⟩
theorem e_X7_isSize : m_mes k_X7_isSize 1 := ⟨⟨⟨List.mem_of_getElem? (i := 446) (by decide +kernel), rfl⟩, ⟨List.mem_of_getElem? (i := 60) (by decide +kernel), rfl⟩, by decide +kernel, by decide +kernel, rfl, rfl⟩, ⟨List.mem_of_getElem? (i := 445) (by decide +kernel), rfl⟩⟩
theorem n_X7_77 : m_lk RX7 77 yX7_isSize := Or.inl ⟨List.mem_of_getElem? (i := 444) (by decide +kernel), rfl⟩
theorem n_X7_80 : m_lk RX7 80 yX5_get := Or.inl ⟨List.mem_of_getElem? (i := 435) (by decide +kernel), rfl⟩
theorem e_X5_putAnchorValue : m_mev k_X5_putAnchorValue 3 := ⟨⟨⟨List.mem_of_getElem? (i := 450) (by decide +kernel), rfl⟩, ⟨List.mem_of_getElem? (i := 61) (by decide +kernel), rfl⟩, by decide +kernel, by decide +kernel, rfl, rfl⟩, ⟨List.mem_of_getElem? (i := 448) (by decide +kernel), rfl⟩, ⟨List.mem_of_getElem? (i := 449) (by decide +kernel), rfl⟩⟩
theorem n_X7_84 : m_lk RX7 84 yX5_putAnchorValue := Or.inl ⟨List.mem_of_getElem? (i := 447) (by decide +kernel), rfl⟩
theorem e_X7_isAnchor : m_mev k_X7_isAnchor 1 := ⟨⟨⟨List.mem_of_getElem? (i := 458) (by decide +kernel), rfl⟩, ⟨List.mem_of_getElem? (i := 60) (by decide +kernel), rfl⟩, by decide +kernel, by decide +kernel, rfl, rfl⟩, ⟨List.mem_of_getElem? (i := 457) (by decide +kernel), rfl⟩, ⟨List.mem_of_getElem? (i := 8) (by decide +kernel), rfl⟩⟩
theorem n_X7_88 : m_lk RX7 88 yX7_isAnchor := Or.inl ⟨List.mem_of_getElem? (i := 455) (by decide +kernel), rfl⟩
theorem n_X7_91 : m_lk RX7 91 yX5_anchorValue := Or.inl ⟨List.mem_of_getElem? (i := 405) (by decide +kernel), rfl⟩
theorem n_X7_95 : m_lk RX7 95 yX5_isAnchorInSight := Or.inl ⟨List.mem_of_getElem? (i := 463) (by decide +kernel), rfl⟩
theorem e_X7_countHintsOf : m_mev k_X7_countHintsOf 2 := ⟨⟨⟨List.mem_of_getElem? (i := 467) (by decide +kernel), rfl⟩, ⟨List.mem_of_getElem? (i := 60) (by decide +kernel), rfl⟩, by decide +kernel, by decide +kernel, rfl, rfl⟩, ⟨List.mem_of_getElem? (i := 466) (by decide +kernel), rfl⟩, ⟨List.mem_of_getElem? (i := 9) (by decide +kernel), rfl⟩⟩
theorem n_X7_98 : m_lk RX7 98 yX7_countHintsOf := Or.inl ⟨List.mem_of_getElem? (i := 464) (by decide +kernel), rfl⟩
theorem e_X7_lowestSetting : m_mes k_X7_lowestSetting 1 := ⟨⟨⟨List.mem_of_getElem? (i := 476) (by decide +kernel), rfl⟩, ⟨List.mem_of_getElem? (i := 60) (by decide +kernel), rfl⟩, by decide +kernel, by decide +kernel, rfl, rfl⟩, ⟨List.mem_of_getElem? (i := 475) (by decide +kernel), rfl⟩⟩
theorem n_X7_102 : m_lk RX7 102 yX7_lowestSetting := Or.inl ⟨List.mem_of_getElem? (i := 474) (by decide +kernel), rfl⟩
theorem e_X7_highestSetting : m_mes k_X7_highestSetting 1 := ⟨⟨⟨List.mem_of_getElem? (i := 479) (by decide +kernel), rfl⟩, ⟨List.mem_of_getElem? (i := 60) (by decide +kernel), rfl⟩, by decide +kernel, by decide +kernel, rfl, rfl⟩, ⟨List.mem_of_getElem? (i := 478) (by decide +kernel), rfl⟩⟩
theorem n_X7_105 : m_lk RX7 105 yX7_highestSetting := Or.inl ⟨List.mem_of_getElem? (i := 477) (by decide +kernel), rfl⟩
theorem n_X7_108 : m_lk RX7 108 yX5_setting := Or.inl ⟨List.mem_of_getElem? (i := 406) (by decide +kernel), rfl⟩
theorem e_X7_countOpen : m_mev k_X7_countOpen 0 := ⟨⟨⟨List.mem_of_getElem? (i := 487) (by decide +kernel), rfl⟩, ⟨List.mem_of_getElem? (i := 60) (by decide +kernel), rfl⟩, by decide +kernel, by decide +kernel, rfl, rfl⟩, ⟨List.mem_of_getElem? (i := 486) (by decide +kernel), rfl⟩, ⟨List.mem_of_getElem? (i := 10) (by decide +kernel), rfl⟩⟩
theorem n_X7_111 : m_lk RX7 111 yX7_countOpen := Or.inl ⟨List.mem_of_getElem? (i := 484) (by decide +kernel), rfl⟩
theorem e_X7_countRemembered : m_mev k_X7_countRemembered 0 := ⟨⟨⟨List.mem_of_getElem? (i := 492) (by decide +kernel), rfl⟩, ⟨List.mem_of_getElem? (i := 60) (by decide +kernel), rfl⟩, by decide +kernel, by decide +kernel, rfl, rfl⟩, ⟨List.mem_of_getElem? (i := 491) (by decide +kernel), rfl⟩, ⟨List.mem_of_getElem? (i := 11) (by decide +kernel), rfl⟩⟩
theorem n_X7_119 : m_lk RX7 119 yX7_countRemembered := Or.inl ⟨List.mem_of_getElem? (i := 489) (by decide +kernel), rfl⟩
theorem e_X7_countCovered : m_mev k_X7_countCovered 0 := ⟨⟨⟨List.mem_of_getElem? (i := 496) (by decide +kernel), rfl⟩, ⟨List.mem_of_getElem? (i := 60) (by decide +kernel), rfl⟩, by decide +kernel, by decide +kernel, rfl, rfl⟩, ⟨List.mem_of_getElem? (i := 495) (by decide +kernel), rfl⟩, ⟨List.mem_of_getElem? (i := 12) (by decide +kernel), rfl⟩⟩
theorem n_X7_128 : m_lk RX7 128 yX7_countCovered := Or.inl ⟨List.mem_of_getElem? (i := 493) (by decide +kernel), rfl⟩
theorem e_X7_isSide : m_mes k_X7_isSide 1 := ⟨⟨⟨List.mem_of_getElem? (i := 503) (by decide +kernel), rfl⟩, ⟨List.mem_of_getElem? (i := 60) (by decide +kernel), rfl⟩, by decide +kernel, by decide +kernel, rfl, rfl⟩, ⟨List.mem_of_getElem? (i := 502) (by decide +kernel), rfl⟩⟩
theorem n_X7_131 : m_lk RX7 131 yX7_isSide := Or.inl ⟨List.mem_of_getElem? (i := 501) (by decide +kernel), rfl⟩
theorem e_X7_highestValue : m_mev k_X7_highestValue 1 := ⟨⟨⟨List.mem_of_getElem? (i := 507) (by decide +kernel), rfl⟩, ⟨List.mem_of_getElem? (i := 60) (by decide +kernel), rfl⟩, by decide +kernel, by decide +kernel, rfl, rfl⟩, ⟨List.mem_of_getElem? (i := 506) (by decide +kernel), rfl⟩, ⟨List.mem_of_getElem? (i := 13) (by decide +kernel), rfl⟩⟩
theorem n_X7_134 : m_lk RX7 134 yX7_highestValue := Or.inl ⟨List.mem_of_getElem? (i := 504) (by decide +kernel), rfl⟩
theorem e_X5_putHintValue : m_mev k_X5_putHintValue 3 := ⟨⟨⟨List.mem_of_getElem? (i := 511) (by decide +kernel), rfl⟩, ⟨List.mem_of_getElem? (i := 61) (by decide +kernel), rfl⟩, by decide +kernel, by decide +kernel, rfl, rfl⟩, ⟨List.mem_of_getElem? (i := 509) (by decide +kernel), rfl⟩, ⟨List.mem_of_getElem? (i := 510) (by decide +kernel), rfl⟩⟩
theorem n_X7_137 : m_lk RX7 137 yX5_putHintValue := Or.inl ⟨List.mem_of_getElem? (i := 508) (by decide +kernel), rfl⟩
theorem e_X7_isHint : m_mev k_X7_isHint 1 := ⟨⟨⟨List.mem_of_getElem? (i := 519) (by decide +kernel), rfl⟩, ⟨List.mem_of_getElem? (i := 60) (by decide +kernel), rfl⟩, by decide +kernel, by decide +kernel, rfl, rfl⟩, ⟨List.mem_of_getElem? (i := 518) (by decide +kernel), rfl⟩, ⟨List.mem_of_getElem? (i := 14) (by decide +kernel), rfl⟩⟩
theorem n_X7_140 : m_lk RX7 140 yX7_isHint := Or.inl ⟨List.mem_of_getElem? (i := 516) (by decide +kernel), rfl⟩
theorem e_X7_lowestValue : m_mes k_X7_lowestValue 1 := ⟨⟨⟨List.mem_of_getElem? (i := 522) (by decide +kernel), rfl⟩, ⟨List.mem_of_getElem? (i := 60) (by decide +kernel), rfl⟩, by decide +kernel, by decide +kernel, rfl, rfl⟩, ⟨List.mem_of_getElem? (i := 521) (by decide +kernel), rfl⟩⟩
theorem n_X7_143 : m_lk RX7 143 yX7_lowestValue := Or.inl ⟨List.mem_of_getElem? (i := 520) (by decide +kernel), rfl⟩
theorem n_X7_146 : m_lk RX7 146 yX5_hintValue := Or.inl ⟨List.mem_of_getElem? (i := 469) (by decide +kernel), rfl⟩
theorem n_X7_149 : m_lk RX7 149 yX5_isOpen := Or.inl ⟨List.mem_of_getElem? (i := 488) (by decide +kernel), rfl⟩
theorem e_X7_openHint : m_mev k_X7_openHint 1 := ⟨⟨⟨List.mem_of_getElem? (i := 530) (by decide +kernel), rfl⟩, ⟨List.mem_of_getElem? (i := 60) (by decide +kernel), rfl⟩, by decide +kernel, by decide +kernel, rfl, rfl⟩, ⟨List.mem_of_getElem? (i := 529) (by decide +kernel), rfl⟩, ⟨List.mem_of_getElem? (i := 15) (by decide +kernel), rfl⟩⟩
theorem n_X7_152 : m_lk RX7 152 yX7_openHint := Or.inl ⟨List.mem_of_getElem? (i := 527) (by decide +kernel), rfl⟩
theorem n_X7_160 : m_lk RX7 160 yX3_get := Or.inl ⟨List.mem_of_getElem? (i := 468) (by decide +kernel), rfl⟩
theorem e_X7_closeHint : m_mev k_X7_closeHint 1 := ⟨⟨⟨List.mem_of_getElem? (i := 538) (by decide +kernel), rfl⟩, ⟨List.mem_of_getElem? (i := 60) (by decide +kernel), rfl⟩, by decide +kernel, by decide +kernel, rfl, rfl⟩, ⟨List.mem_of_getElem? (i := 537) (by decide +kernel), rfl⟩, ⟨List.mem_of_getElem? (i := 16) (by decide +kernel), rfl⟩⟩
theorem n_X7_163 : m_lk RX7 163 yX7_closeHint := Or.inl ⟨List.mem_of_getElem? (i := 535) (by decide +kernel), rfl⟩
theorem e_X7_rememberSides : m_mev k_X7_rememberSides 0 := ⟨⟨⟨List.mem_of_getElem? (i := 546) (by decide +kernel), rfl⟩, ⟨List.mem_of_getElem? (i := 60) (by decide +kernel), rfl⟩, by decide +kernel, by decide +kernel, rfl, rfl⟩, ⟨List.mem_of_getElem? (i := 545) (by decide +kernel), rfl⟩, ⟨List.mem_of_getElem? (i := 17) (by decide +kernel), rfl⟩⟩
theorem n_X7_166 : m_lk RX7 166 yX7_rememberSides := Or.inl ⟨List.mem_of_getElem? (i := 543) (by decide +kernel), rfl⟩
theorem n_X7_169 : m_lk RX7 169 yX5_turn := Or.inl ⟨List.mem_of_getElem? (i := 551) (by decide +kernel), rfl⟩
theorem e_X7_shownValue : m_mev k_X7_shownValue 2 := ⟨⟨⟨List.mem_of_getElem? (i := 555) (by decide +kernel), rfl⟩, ⟨List.mem_of_getElem? (i := 60) (by decide +kernel), rfl⟩, by decide +kernel, by decide +kernel, rfl, rfl⟩, ⟨List.mem_of_getElem? (i := 554) (by decide +kernel), rfl⟩, ⟨List.mem_of_getElem? (i := 18) (by decide +kernel), rfl⟩⟩
theorem n_X7_172 : m_lk RX7 172 yX7_shownValue := Or.inl ⟨List.mem_of_getElem? (i := 552) (by decide +kernel), rfl⟩
theorem n_X7_175 : m_lk RX7 175 yX7_isLevel := Or.inl ⟨List.mem_of_getElem? (i := 404) (by decide +kernel), rfl⟩
theorem n_X7_178 : m_lk RX7 178 yX7_edgeBy := Or.inl ⟨List.mem_of_getElem? (i := 561) (by decide +kernel), rfl⟩
theorem n_X7_182 : m_lk RX7 182 yX7_isBefore := Or.inl ⟨List.mem_of_getElem? (i := 407) (by decide +kernel), rfl⟩
theorem n_X7_185 : m_lk RX7 185 yX2_find := Or.inl ⟨List.mem_of_getElem? (i := 556) (by decide +kernel), rfl⟩
theorem n_X7_205 : m_lk RX7 205 yX4_shownThatMeets := Or.inl ⟨List.mem_of_getElem? (i := 570) (by decide +kernel), rfl⟩
theorem n_X7_209 : m_lk RX7 209 yX6_list := Or.inl ⟨List.mem_of_getElem? (i := 575) (by decide +kernel), rfl⟩
theorem e_X7_isInSightOnATry : m_mev k_X7_isInSightOnATry 3 := ⟨⟨⟨List.mem_of_getElem? (i := 579) (by decide +kernel), rfl⟩, ⟨List.mem_of_getElem? (i := 60) (by decide +kernel), rfl⟩, by decide +kernel, by decide +kernel, rfl, rfl⟩, ⟨List.mem_of_getElem? (i := 578) (by decide +kernel), rfl⟩, ⟨List.mem_of_getElem? (i := 19) (by decide +kernel), rfl⟩⟩
theorem n_X7_213 : m_lk RX7 213 yX7_isInSightOnATry := Or.inl ⟨List.mem_of_getElem? (i := 576) (by decide +kernel), rfl⟩
theorem e_X0_restore : m_mev k_X0_restore 1 := ⟨⟨⟨List.mem_of_getElem? (i := 587) (by decide +kernel), rfl⟩, ⟨List.mem_of_getElem? (i := 64) (by decide +kernel), rfl⟩, by decide +kernel, by decide +kernel, rfl, rfl⟩, ⟨List.mem_of_getElem? (i := 585) (by decide +kernel), rfl⟩, ⟨List.mem_of_getElem? (i := 586) (by decide +kernel), rfl⟩⟩
theorem n_X7_217 : m_lk RX7 217 yX0_restore := Or.inl ⟨List.mem_of_getElem? (i := 584) (by decide +kernel), rfl⟩
theorem e_X1_append : m_mev k_X1_append 1 := ⟨⟨⟨List.mem_of_getElem? (i := 599) (by decide +kernel), rfl⟩, ⟨List.mem_of_getElem? (i := 68) (by decide +kernel), rfl⟩, by decide +kernel, by decide +kernel, rfl, rfl⟩, ⟨List.mem_of_getElem? (i := 597) (by decide +kernel), rfl⟩, ⟨List.mem_of_getElem? (i := 598) (by decide +kernel), rfl⟩⟩
theorem n_X7_220 : m_lk RX7 220 yX1_append := Or.inl ⟨List.mem_of_getElem? (i := 596) (by decide +kernel), rfl⟩
theorem e_X1_findFault : m_mev k_X1_findFault 1 := ⟨⟨⟨List.mem_of_getElem? (i := 612) (by decide +kernel), rfl⟩, ⟨List.mem_of_getElem? (i := 68) (by decide +kernel), rfl⟩, by decide +kernel, by decide +kernel, rfl, rfl⟩, ⟨List.mem_of_getElem? (i := 610) (by decide +kernel), rfl⟩, ⟨List.mem_of_getElem? (i := 611) (by decide +kernel), rfl⟩⟩
theorem n_X7_223 : m_lk RX7 223 yX1_findFault := Or.inl ⟨List.mem_of_getElem? (i := 609) (by decide +kernel), rfl⟩
theorem n_X7_229 : m_lk RX7 229 yX1_read := Or.inl ⟨List.mem_of_getElem? (i := 649) (by decide +kernel), rfl⟩
theorem e_X7_carryOrder : m_mev k_X7_carryOrder 0 := ⟨⟨⟨List.mem_of_getElem? (i := 653) (by decide +kernel), rfl⟩, ⟨List.mem_of_getElem? (i := 60) (by decide +kernel), rfl⟩, by decide +kernel, by decide +kernel, rfl, rfl⟩, ⟨List.mem_of_getElem? (i := 652) (by decide +kernel), rfl⟩, ⟨List.mem_of_getElem? (i := 26) (by decide +kernel), rfl⟩⟩
theorem n_X7_232 : m_lk RX7 232 yX7_carryOrder := Or.inl ⟨List.mem_of_getElem? (i := 650) (by decide +kernel), rfl⟩
theorem e_X8_in : m_mes k_X8_in 3 := ⟨⟨⟨List.mem_of_getElem? (i := 731) (by decide +kernel), rfl⟩, ⟨List.mem_of_getElem? (i := 69) (by decide +kernel), rfl⟩, by decide +kernel, by decide +kernel, rfl, rfl⟩, ⟨List.mem_of_getElem? (i := 730) (by decide +kernel), rfl⟩⟩
theorem n_X8_32 : m_lk RX8 32 yX8_in := Or.inl ⟨List.mem_of_getElem? (i := 729) (by decide +kernel), rfl⟩
theorem e_X8_ofAnchor : m_mev k_X8_ofAnchor 2 := ⟨⟨⟨List.mem_of_getElem? (i := 759) (by decide +kernel), rfl⟩, ⟨List.mem_of_getElem? (i := 69) (by decide +kernel), rfl⟩, by decide +kernel, by decide +kernel, rfl, rfl⟩, ⟨List.mem_of_getElem? (i := 758) (by decide +kernel), rfl⟩, ⟨List.mem_of_getElem? (i := 33) (by decide +kernel), rfl⟩⟩
theorem n_X8_40 : m_lk RX8 40 yX8_ofAnchor := Or.inl ⟨List.mem_of_getElem? (i := 756) (by decide +kernel), rfl⟩
theorem e_X8_meets : m_mes k_X8_meets 8 := ⟨⟨⟨List.mem_of_getElem? (i := 762) (by decide +kernel), rfl⟩, ⟨List.mem_of_getElem? (i := 69) (by decide +kernel), rfl⟩, by decide +kernel, by decide +kernel, rfl, rfl⟩, ⟨List.mem_of_getElem? (i := 761) (by decide +kernel), rfl⟩⟩
theorem n_X8_44 : m_lk RX8 44 yX8_meets := Or.inl ⟨List.mem_of_getElem? (i := 760) (by decide +kernel), rfl⟩
theorem e_X8_isGood : m_mev k_X8_isGood 2 := ⟨⟨⟨List.mem_of_getElem? (i := 793) (by decide +kernel), rfl⟩, ⟨List.mem_of_getElem? (i := 69) (by decide +kernel), rfl⟩, by decide +kernel, by decide +kernel, rfl, rfl⟩, ⟨List.mem_of_getElem? (i := 792) (by decide +kernel), rfl⟩, ⟨List.mem_of_getElem? (i := 40) (by decide +kernel), rfl⟩⟩
theorem n_X8_48 : m_lk RX8 48 yX8_isGood := Or.inl ⟨List.mem_of_getElem? (i := 790) (by decide +kernel), rfl⟩
theorem e_X8_ofHint : m_mev k_X8_ofHint 2 := ⟨⟨⟨List.mem_of_getElem? (i := 751) (by decide +kernel), rfl⟩, ⟨List.mem_of_getElem? (i := 69) (by decide +kernel), rfl⟩, by decide +kernel, by decide +kernel, rfl, rfl⟩, ⟨List.mem_of_getElem? (i := 750) (by decide +kernel), rfl⟩, ⟨List.mem_of_getElem? (i := 31) (by decide +kernel), rfl⟩⟩
theorem n_X8_52 : m_lk RX8 52 yX8_ofHint := Or.inl ⟨List.mem_of_getElem? (i := 748) (by decide +kernel), rfl⟩
theorem e_X8_half : m_mes k_X8_half 1 := ⟨⟨⟨List.mem_of_getElem? (i := 785) (by decide +kernel), rfl⟩, ⟨List.mem_of_getElem? (i := 69) (by decide +kernel), rfl⟩, by decide +kernel, by decide +kernel, rfl, rfl⟩, ⟨List.mem_of_getElem? (i := 784) (by decide +kernel), rfl⟩⟩
theorem n_X8_55 : m_lk RX8 55 yX8_half := Or.inl ⟨List.mem_of_getElem? (i := 783) (by decide +kernel), rfl⟩
theorem e_X8_shift : m_mev k_X8_shift 5 := ⟨⟨⟨List.mem_of_getElem? (i := 789) (by decide +kernel), rfl⟩, ⟨List.mem_of_getElem? (i := 69) (by decide +kernel), rfl⟩, by decide +kernel, by decide +kernel, rfl, rfl⟩, ⟨List.mem_of_getElem? (i := 788) (by decide +kernel), rfl⟩, ⟨List.mem_of_getElem? (i := 39) (by decide +kernel), rfl⟩⟩
theorem n_X8_62 : m_lk RX8 62 yX8_shift := Or.inl ⟨List.mem_of_getElem? (i := 786) (by decide +kernel), rfl⟩
theorem e_X8_places : m_mev k_X8_places 2 := ⟨⟨⟨List.mem_of_getElem? (i := 782) (by decide +kernel), rfl⟩, ⟨List.mem_of_getElem? (i := 69) (by decide +kernel), rfl⟩, by decide +kernel, by decide +kernel, rfl, rfl⟩, ⟨List.mem_of_getElem? (i := 781) (by decide +kernel), rfl⟩, ⟨List.mem_of_getElem? (i := 38) (by decide +kernel), rfl⟩⟩
theorem n_X8_79 : m_lk RX8 79 yX8_places := Or.inl ⟨List.mem_of_getElem? (i := 779) (by decide +kernel), rfl⟩
theorem e_X8_addTry : m_mev k_X8_addTry 1 := ⟨⟨⟨List.mem_of_getElem? (i := 774) (by decide +kernel), rfl⟩, ⟨List.mem_of_getElem? (i := 69) (by decide +kernel), rfl⟩, by decide +kernel, by decide +kernel, rfl, rfl⟩, ⟨List.mem_of_getElem? (i := 773) (by decide +kernel), rfl⟩, ⟨List.mem_of_getElem? (i := 36) (by decide +kernel), rfl⟩⟩
theorem n_X8_86 : m_lk RX8 86 yX8_addTry := Or.inl ⟨List.mem_of_getElem? (i := 771) (by decide +kernel), rfl⟩
theorem e_X8_lists : m_mev k_X8_lists 1 := ⟨⟨⟨List.mem_of_getElem? (i := 770) (by decide +kernel), rfl⟩, ⟨List.mem_of_getElem? (i := 69) (by decide +kernel), rfl⟩, by decide +kernel, by decide +kernel, rfl, rfl⟩, ⟨List.mem_of_getElem? (i := 769) (by decide +kernel), rfl⟩, ⟨List.mem_of_getElem? (i := 35) (by decide +kernel), rfl⟩⟩
theorem n_X8_90 : m_lk RX8 90 yX8_lists := Or.inl ⟨List.mem_of_getElem? (i := 767) (by decide +kernel), rfl⟩
theorem e_X8_isIn : m_mev k_X8_isIn 2 := ⟨⟨⟨List.mem_of_getElem? (i := 778) (by decide +kernel), rfl⟩, ⟨List.mem_of_getElem? (i := 69) (by decide +kernel), rfl⟩, by decide +kernel, by decide +kernel, rfl, rfl⟩, ⟨List.mem_of_getElem? (i := 777) (by decide +kernel), rfl⟩, ⟨List.mem_of_getElem? (i := 37) (by decide +kernel), rfl⟩⟩
theorem n_X8_93 : m_lk RX8 93 yX8_isIn := Or.inl ⟨List.mem_of_getElem? (i := 775) (by decide +kernel), rfl⟩
theorem e_X8_isBarred : m_mev k_X8_isBarred 1 := ⟨⟨⟨List.mem_of_getElem? (i := 797) (by decide +kernel), rfl⟩, ⟨List.mem_of_getElem? (i := 69) (by decide +kernel), rfl⟩, by decide +kernel, by decide +kernel, rfl, rfl⟩, ⟨List.mem_of_getElem? (i := 796) (by decide +kernel), rfl⟩, ⟨List.mem_of_getElem? (i := 41) (by decide +kernel), rfl⟩⟩
theorem n_X8_96 : m_lk RX8 96 yX8_isBarred := Or.inl ⟨List.mem_of_getElem? (i := 794) (by decide +kernel), rfl⟩
theorem e_X8_sorts : m_mev k_X8_sorts 0 := ⟨⟨⟨List.mem_of_getElem? (i := 747) (by decide +kernel), rfl⟩, ⟨List.mem_of_getElem? (i := 69) (by decide +kernel), rfl⟩, by decide +kernel, by decide +kernel, rfl, rfl⟩, ⟨List.mem_of_getElem? (i := 746) (by decide +kernel), rfl⟩, ⟨List.mem_of_getElem? (i := 30) (by decide +kernel), rfl⟩⟩
theorem n_X8_103 : m_lk RX8 103 yX8_sorts := Or.inl ⟨List.mem_of_getElem? (i := 744) (by decide +kernel), rfl⟩
theorem e_X8_isSeen : m_mev k_X8_isSeen 1 := ⟨⟨⟨List.mem_of_getElem? (i := 755) (by decide +kernel), rfl⟩, ⟨List.mem_of_getElem? (i := 69) (by decide +kernel), rfl⟩, by decide +kernel, by decide +kernel, rfl, rfl⟩, ⟨List.mem_of_getElem? (i := 754) (by decide +kernel), rfl⟩, ⟨List.mem_of_getElem? (i := 32) (by decide +kernel), rfl⟩⟩
theorem n_X8_106 : m_lk RX8 106 yX8_isSeen := Or.inl ⟨List.mem_of_getElem? (i := 752) (by decide +kernel), rfl⟩
theorem e_X8_finds : m_mev k_X8_finds 1 := ⟨⟨⟨List.mem_of_getElem? (i := 766) (by decide +kernel), rfl⟩, ⟨List.mem_of_getElem? (i := 69) (by decide +kernel), rfl⟩, by decide +kernel, by decide +kernel, rfl, rfl⟩, ⟨List.mem_of_getElem? (i := 765) (by decide +kernel), rfl⟩, ⟨List.mem_of_getElem? (i := 34) (by decide +kernel), rfl⟩⟩
theorem n_X8_109 : m_lk RX8 109 yX8_finds := Or.inl ⟨List.mem_of_getElem? (i := 763) (by decide +kernel), rfl⟩
theorem e_X8_shows : m_mev k_X8_shows 0 := ⟨⟨⟨List.mem_of_getElem? (i := 743) (by decide +kernel), rfl⟩, ⟨List.mem_of_getElem? (i := 69) (by decide +kernel), rfl⟩, by decide +kernel, by decide +kernel, rfl, rfl⟩, ⟨List.mem_of_getElem? (i := 742) (by decide +kernel), rfl⟩, ⟨List.mem_of_getElem? (i := 29) (by decide +kernel), rfl⟩⟩
theorem n_X8_112 : m_lk RX8 112 yX8_shows := Or.inl ⟨List.mem_of_getElem? (i := 740) (by decide +kernel), rfl⟩
theorem e_X8_records : m_mev k_X8_records 0 := ⟨⟨⟨List.mem_of_getElem? (i := 735) (by decide +kernel), rfl⟩, ⟨List.mem_of_getElem? (i := 69) (by decide +kernel), rfl⟩, by decide +kernel, by decide +kernel, rfl, rfl⟩, ⟨List.mem_of_getElem? (i := 734) (by decide +kernel), rfl⟩, ⟨List.mem_of_getElem? (i := 27) (by decide +kernel), rfl⟩⟩
theorem n_X8_115 : m_lk RX8 115 yX8_records := Or.inl ⟨List.mem_of_getElem? (i := 732) (by decide +kernel), rfl⟩
theorem e_X8_many : m_mev k_X8_many 0 := ⟨⟨⟨List.mem_of_getElem? (i := 739) (by decide +kernel), rfl⟩, ⟨List.mem_of_getElem? (i := 69) (by decide +kernel), rfl⟩, by decide +kernel, by decide +kernel, rfl, rfl⟩, ⟨List.mem_of_getElem? (i := 738) (by decide +kernel), rfl⟩, ⟨List.mem_of_getElem? (i := 28) (by decide +kernel), rfl⟩⟩
theorem n_X8_118 : m_lk RX8 118 yX8_many := Or.inl ⟨List.mem_of_getElem? (i := 736) (by decide +kernel), rfl⟩
theorem e_X8_canScroll : m_mev k_X8_canScroll 2 := ⟨⟨⟨List.mem_of_getElem? (i := 805) (by decide +kernel), rfl⟩, ⟨List.mem_of_getElem? (i := 69) (by decide +kernel), rfl⟩, by decide +kernel, by decide +kernel, rfl, rfl⟩, ⟨List.mem_of_getElem? (i := 804) (by decide +kernel), rfl⟩, ⟨List.mem_of_getElem? (i := 42) (by decide +kernel), rfl⟩⟩
theorem n_X8_122 : m_lk RX8 122 yX8_canScroll := Or.inl ⟨List.mem_of_getElem? (i := 802) (by decide +kernel), rfl⟩
theorem e_X8_isAnchor : m_mev k_X8_isAnchor 1 := ⟨⟨⟨List.mem_of_getElem? (i := 817) (by decide +kernel), rfl⟩, ⟨List.mem_of_getElem? (i := 69) (by decide +kernel), rfl⟩, by decide +kernel, by decide +kernel, rfl, rfl⟩, ⟨List.mem_of_getElem? (i := 816) (by decide +kernel), rfl⟩, ⟨List.mem_of_getElem? (i := 43) (by decide +kernel), rfl⟩⟩
theorem n_X8_125 : m_lk RX8 125 yX8_isAnchor := Or.inl ⟨List.mem_of_getElem? (i := 814) (by decide +kernel), rfl⟩
theorem e_X8_isSetting : m_mes k_X8_isSetting 2 := ⟨⟨⟨List.mem_of_getElem? (i := 828) (by decide +kernel), rfl⟩, ⟨List.mem_of_getElem? (i := 69) (by decide +kernel), rfl⟩, by decide +kernel, by decide +kernel, rfl, rfl⟩, ⟨List.mem_of_getElem? (i := 827) (by decide +kernel), rfl⟩⟩
theorem n_X8_128 : m_lk RX8 128 yX8_isSetting := Or.inl ⟨List.mem_of_getElem? (i := 826) (by decide +kernel), rfl⟩
theorem e_X8_covered : m_mev k_X8_covered 1 := ⟨⟨⟨List.mem_of_getElem? (i := 836) (by decide +kernel), rfl⟩, ⟨List.mem_of_getElem? (i := 69) (by decide +kernel), rfl⟩, by decide +kernel, by decide +kernel, rfl, rfl⟩, ⟨List.mem_of_getElem? (i := 835) (by decide +kernel), rfl⟩, ⟨List.mem_of_getElem? (i := 44) (by decide +kernel), rfl⟩⟩
theorem n_X8_134 : m_lk RX8 134 yX8_covered := Or.inl ⟨List.mem_of_getElem? (i := 833) (by decide +kernel), rfl⟩
theorem e_X8_isHint : m_mev k_X8_isHint 1 := ⟨⟨⟨List.mem_of_getElem? (i := 848) (by decide +kernel), rfl⟩, ⟨List.mem_of_getElem? (i := 69) (by decide +kernel), rfl⟩, by decide +kernel, by decide +kernel, rfl, rfl⟩, ⟨List.mem_of_getElem? (i := 847) (by decide +kernel), rfl⟩, ⟨List.mem_of_getElem? (i := 45) (by decide +kernel), rfl⟩⟩
theorem n_X8_138 : m_lk RX8 138 yX8_isHint := Or.inl ⟨List.mem_of_getElem? (i := 845) (by decide +kernel), rfl⟩
theorem e_X8_isOf : m_mev k_X8_isOf 2 := ⟨⟨⟨List.mem_of_getElem? (i := 852) (by decide +kernel), rfl⟩, ⟨List.mem_of_getElem? (i := 69) (by decide +kernel), rfl⟩, by decide +kernel, by decide +kernel, rfl, rfl⟩, ⟨List.mem_of_getElem? (i := 851) (by decide +kernel), rfl⟩, ⟨List.mem_of_getElem? (i := 46) (by decide +kernel), rfl⟩⟩
theorem n_X8_141 : m_lk RX8 141 yX8_isOf := Or.inl ⟨List.mem_of_getElem? (i := 849) (by decide +kernel), rfl⟩
theorem e_X8_placeOf : m_mev k_X8_placeOf 1 := ⟨⟨⟨List.mem_of_getElem? (i := 860) (by decide +kernel), rfl⟩, ⟨List.mem_of_getElem? (i := 69) (by decide +kernel), rfl⟩, by decide +kernel, by decide +kernel, rfl, rfl⟩, ⟨List.mem_of_getElem? (i := 859) (by decide +kernel), rfl⟩, ⟨List.mem_of_getElem? (i := 47) (by decide +kernel), rfl⟩⟩
theorem n_X8_144 : m_lk RX8 144 yX8_placeOf := Or.inl ⟨List.mem_of_getElem? (i := 857) (by decide +kernel), rfl⟩
theorem e_X8_opens : m_mev k_X8_opens 1 := ⟨⟨⟨List.mem_of_getElem? (i := 864) (by decide +kernel), rfl⟩, ⟨List.mem_of_getElem? (i := 69) (by decide +kernel), rfl⟩, by decide +kernel, by decide +kernel, rfl, rfl⟩, ⟨List.mem_of_getElem? (i := 863) (by decide +kernel), rfl⟩, ⟨List.mem_of_getElem? (i := 48) (by decide +kernel), rfl⟩⟩
theorem n_X8_147 : m_lk RX8 147 yX8_opens := Or.inl ⟨List.mem_of_getElem? (i := 861) (by decide +kernel), rfl⟩
theorem e_X8_closes : m_mev k_X8_closes 1 := ⟨⟨⟨List.mem_of_getElem? (i := 872) (by decide +kernel), rfl⟩, ⟨List.mem_of_getElem? (i := 69) (by decide +kernel), rfl⟩, by decide +kernel, by decide +kernel, rfl, rfl⟩, ⟨List.mem_of_getElem? (i := 871) (by decide +kernel), rfl⟩, ⟨List.mem_of_getElem? (i := 49) (by decide +kernel), rfl⟩⟩
theorem n_X8_150 : m_lk RX8 150 yX8_closes := Or.inl ⟨List.mem_of_getElem? (i := 869) (by decide +kernel), rfl⟩
theorem e_X8_settles : m_mev k_X8_settles 0 := ⟨⟨⟨List.mem_of_getElem? (i := 880) (by decide +kernel), rfl⟩, ⟨List.mem_of_getElem? (i := 69) (by decide +kernel), rfl⟩, by decide +kernel, by decide +kernel, rfl, rfl⟩, ⟨List.mem_of_getElem? (i := 879) (by decide +kernel), rfl⟩, ⟨List.mem_of_getElem? (i := 50) (by decide +kernel), rfl⟩⟩
theorem n_X8_153 : m_lk RX8 153 yX8_settles := Or.inl ⟨List.mem_of_getElem? (i := 877) (by decide +kernel), rfl⟩
theorem e_X8_orderOf : m_mev k_X8_orderOf 1 := ⟨⟨⟨List.mem_of_getElem? (i := 888) (by decide +kernel), rfl⟩, ⟨List.mem_of_getElem? (i := 69) (by decide +kernel), rfl⟩, by decide +kernel, by decide +kernel, rfl, rfl⟩, ⟨List.mem_of_getElem? (i := 887) (by decide +kernel), rfl⟩, ⟨List.mem_of_getElem? (i := 51) (by decide +kernel), rfl⟩⟩
theorem n_X8_156 : m_lk RX8 156 yX8_orderOf := Or.inl ⟨List.mem_of_getElem? (i := 885) (by decide +kernel), rfl⟩
theorem e_X8_passes : m_mev k_X8_passes 1 := ⟨⟨⟨List.mem_of_getElem? (i := 944) (by decide +kernel), rfl⟩, ⟨List.mem_of_getElem? (i := 69) (by decide +kernel), rfl⟩, by decide +kernel, by decide +kernel, rfl, rfl⟩, ⟨List.mem_of_getElem? (i := 943) (by decide +kernel), rfl⟩, ⟨List.mem_of_getElem? (i := 57) (by decide +kernel), rfl⟩⟩
theorem n_X8_165 : m_lk RX8 165 yX8_passes := Or.inl ⟨List.mem_of_getElem? (i := 941) (by decide +kernel), rfl⟩
theorem e_X8_readsNumber : m_mev k_X8_readsNumber 1 := ⟨⟨⟨List.mem_of_getElem? (i := 936) (by decide +kernel), rfl⟩, ⟨List.mem_of_getElem? (i := 69) (by decide +kernel), rfl⟩, by decide +kernel, by decide +kernel, rfl, rfl⟩, ⟨List.mem_of_getElem? (i := 935) (by decide +kernel), rfl⟩, ⟨List.mem_of_getElem? (i := 55) (by decide +kernel), rfl⟩⟩
theorem n_X8_169 : m_lk RX8 169 yX8_readsNumber := Or.inl ⟨List.mem_of_getElem? (i := 933) (by decide +kernel), rfl⟩
theorem e_X8_readsSigned : m_mev k_X8_readsSigned 0 := ⟨⟨⟨List.mem_of_getElem? (i := 940) (by decide +kernel), rfl⟩, ⟨List.mem_of_getElem? (i := 69) (by decide +kernel), rfl⟩, by decide +kernel, by decide +kernel, rfl, rfl⟩, ⟨List.mem_of_getElem? (i := 939) (by decide +kernel), rfl⟩, ⟨List.mem_of_getElem? (i := 56) (by decide +kernel), rfl⟩⟩
theorem n_X8_175 : m_lk RX8 175 yX8_readsSigned := Or.inl ⟨List.mem_of_getElem? (i := 937) (by decide +kernel), rfl⟩
theorem e_X8_readsForm : m_mev k_X8_readsForm 0 := ⟨⟨⟨List.mem_of_getElem? (i := 932) (by decide +kernel), rfl⟩, ⟨List.mem_of_getElem? (i := 69) (by decide +kernel), rfl⟩, by decide +kernel, by decide +kernel, rfl, rfl⟩, ⟨List.mem_of_getElem? (i := 931) (by decide +kernel), rfl⟩, ⟨List.mem_of_getElem? (i := 54) (by decide +kernel), rfl⟩⟩
theorem n_X8_182 : m_lk RX8 182 yX8_readsForm := Or.inl ⟨List.mem_of_getElem? (i := 929) (by decide +kernel), rfl⟩
theorem e_X8_readsOrder : m_mev k_X8_readsOrder 0 := ⟨⟨⟨List.mem_of_getElem? (i := 928) (by decide +kernel), rfl⟩, ⟨List.mem_of_getElem? (i := 69) (by decide +kernel), rfl⟩, by decide +kernel, by decide +kernel, rfl, rfl⟩, ⟨List.mem_of_getElem? (i := 927) (by decide +kernel), rfl⟩, ⟨List.mem_of_getElem? (i := 53) (by decide +kernel), rfl⟩⟩
theorem n_X8_188 : m_lk RX8 188 yX8_readsOrder := Or.inl ⟨List.mem_of_getElem? (i := 925) (by decide +kernel), rfl⟩
theorem e_X8_faulty : m_mev k_X8_faulty 0 := ⟨⟨⟨List.mem_of_getElem? (i := 924) (by decide +kernel), rfl⟩, ⟨List.mem_of_getElem? (i := 69) (by decide +kernel), rfl⟩, by decide +kernel, by decide +kernel, rfl, rfl⟩, ⟨List.mem_of_getElem? (i := 923) (by decide +kernel), rfl⟩, ⟨List.mem_of_getElem? (i := 52) (by decide +kernel), rfl⟩⟩
theorem n_X8_191 : m_lk RX8 191 yX8_faulty := Or.inl ⟨List.mem_of_getElem? (i := 921) (by decide +kernel), rfl⟩
theorem e_X8_carries : m_mev k_X8_carries 0 := ⟨⟨⟨List.mem_of_getElem? (i := 952) (by decide +kernel), rfl⟩, ⟨List.mem_of_getElem? (i := 69) (by decide +kernel), rfl⟩, by decide +kernel, by decide +kernel, rfl, rfl⟩, ⟨List.mem_of_getElem? (i := 951) (by decide +kernel), rfl⟩, ⟨List.mem_of_getElem? (i := 58) (by decide +kernel), rfl⟩⟩
theorem n_X8_194 : m_lk RX8 194 yX8_carries := Or.inl ⟨List.mem_of_getElem? (i := 949) (by decide +kernel), rfl⟩
theorem e_X7_view : m_mev k_X7_view 2 := ⟨⟨⟨List.mem_of_getElem? (i := 279) (by decide +kernel), rfl⟩, ⟨List.mem_of_getElem? (i := 60) (by decide +kernel), rfl⟩, by decide +kernel, by decide +kernel, rfl, rfl⟩, ⟨List.mem_of_getElem? (i := 277) (by decide +kernel), rfl⟩, ⟨List.mem_of_getElem? (i := 278) (by decide +kernel), rfl⟩⟩
theorem n_L_13 : m_lk RL 13 yX7_view := Or.inl ⟨List.mem_of_getElem? (i := 276) (by decide +kernel), rfl⟩
theorem e_X8_view : m_mev k_X8_view 2 := ⟨⟨⟨List.mem_of_getElem? (i := 728) (by decide +kernel), rfl⟩, ⟨List.mem_of_getElem? (i := 69) (by decide +kernel), rfl⟩, by decide +kernel, by decide +kernel, rfl, rfl⟩, ⟨List.mem_of_getElem? (i := 726) (by decide +kernel), rfl⟩, ⟨List.mem_of_getElem? (i := 727) (by decide +kernel), rfl⟩⟩
theorem n_L_17 : m_lk RL 17 yX8_view := Or.inl ⟨List.mem_of_getElem? (i := 725) (by decide +kernel), rfl⟩
theorem e_X7_scroll : m_mev k_X7_scroll 2 := ⟨⟨⟨List.mem_of_getElem? (i := 427) (by decide +kernel), rfl⟩, ⟨List.mem_of_getElem? (i := 60) (by decide +kernel), rfl⟩, by decide +kernel, by decide +kernel, rfl, rfl⟩, ⟨List.mem_of_getElem? (i := 425) (by decide +kernel), rfl⟩, ⟨List.mem_of_getElem? (i := 426) (by decide +kernel), rfl⟩⟩
theorem n_L_18 : m_lk RL 18 yX7_scroll := Or.inl ⟨List.mem_of_getElem? (i := 424) (by decide +kernel), rfl⟩
theorem e_X8_scroll : m_mev k_X8_scroll 2 := ⟨⟨⟨List.mem_of_getElem? (i := 801) (by decide +kernel), rfl⟩, ⟨List.mem_of_getElem? (i := 69) (by decide +kernel), rfl⟩, by decide +kernel, by decide +kernel, rfl, rfl⟩, ⟨List.mem_of_getElem? (i := 799) (by decide +kernel), rfl⟩, ⟨List.mem_of_getElem? (i := 800) (by decide +kernel), rfl⟩⟩
theorem n_L_21 : m_lk RL 21 yX8_scroll := Or.inl ⟨List.mem_of_getElem? (i := 798) (by decide +kernel), rfl⟩
theorem e_X7_anchor : m_mev k_X7_anchor 4 := ⟨⟨⟨List.mem_of_getElem? (i := 443) (by decide +kernel), rfl⟩, ⟨List.mem_of_getElem? (i := 60) (by decide +kernel), rfl⟩, by decide +kernel, by decide +kernel, rfl, rfl⟩, ⟨List.mem_of_getElem? (i := 441) (by decide +kernel), rfl⟩, ⟨List.mem_of_getElem? (i := 442) (by decide +kernel), rfl⟩⟩
theorem n_L_22 : m_lk RL 22 yX7_anchor := Or.inl ⟨List.mem_of_getElem? (i := 440) (by decide +kernel), rfl⟩
theorem e_X8_anchor : m_mev k_X8_anchor 4 := ⟨⟨⟨List.mem_of_getElem? (i := 809) (by decide +kernel), rfl⟩, ⟨List.mem_of_getElem? (i := 69) (by decide +kernel), rfl⟩, by decide +kernel, by decide +kernel, rfl, rfl⟩, ⟨List.mem_of_getElem? (i := 807) (by decide +kernel), rfl⟩, ⟨List.mem_of_getElem? (i := 808) (by decide +kernel), rfl⟩⟩
theorem n_L_26 : m_lk RL 26 yX8_anchor := Or.inl ⟨List.mem_of_getElem? (i := 806) (by decide +kernel), rfl⟩
theorem e_X7_moveAnchor : m_mev k_X7_moveAnchor 3 := ⟨⟨⟨List.mem_of_getElem? (i := 454) (by decide +kernel), rfl⟩, ⟨List.mem_of_getElem? (i := 60) (by decide +kernel), rfl⟩, by decide +kernel, by decide +kernel, rfl, rfl⟩, ⟨List.mem_of_getElem? (i := 452) (by decide +kernel), rfl⟩, ⟨List.mem_of_getElem? (i := 453) (by decide +kernel), rfl⟩⟩
theorem n_L_27 : m_lk RL 27 yX7_moveAnchor := Or.inl ⟨List.mem_of_getElem? (i := 451) (by decide +kernel), rfl⟩
theorem e_X8_moveAnchor : m_mev k_X8_moveAnchor 3 := ⟨⟨⟨List.mem_of_getElem? (i := 813) (by decide +kernel), rfl⟩, ⟨List.mem_of_getElem? (i := 69) (by decide +kernel), rfl⟩, by decide +kernel, by decide +kernel, rfl, rfl⟩, ⟨List.mem_of_getElem? (i := 811) (by decide +kernel), rfl⟩, ⟨List.mem_of_getElem? (i := 812) (by decide +kernel), rfl⟩⟩
theorem n_L_31 : m_lk RL 31 yX8_moveAnchor := Or.inl ⟨List.mem_of_getElem? (i := 810) (by decide +kernel), rfl⟩
theorem e_X7_anchorOf : m_mev k_X7_anchorOf 2 := ⟨⟨⟨List.mem_of_getElem? (i := 462) (by decide +kernel), rfl⟩, ⟨List.mem_of_getElem? (i := 60) (by decide +kernel), rfl⟩, by decide +kernel, by decide +kernel, rfl, rfl⟩, ⟨List.mem_of_getElem? (i := 460) (by decide +kernel), rfl⟩, ⟨List.mem_of_getElem? (i := 461) (by decide +kernel), rfl⟩⟩
theorem n_L_32 : m_lk RL 32 yX7_anchorOf := Or.inl ⟨List.mem_of_getElem? (i := 459) (by decide +kernel), rfl⟩
theorem e_X8_anchorOf : m_mev k_X8_anchorOf 2 := ⟨⟨⟨List.mem_of_getElem? (i := 821) (by decide +kernel), rfl⟩, ⟨List.mem_of_getElem? (i := 69) (by decide +kernel), rfl⟩, by decide +kernel, by decide +kernel, rfl, rfl⟩, ⟨List.mem_of_getElem? (i := 819) (by decide +kernel), rfl⟩, ⟨List.mem_of_getElem? (i := 820) (by decide +kernel), rfl⟩⟩
theorem n_L_35 : m_lk RL 35 yX8_anchorOf := Or.inl ⟨List.mem_of_getElem? (i := 818) (by decide +kernel), rfl⟩
theorem e_X7_set : m_mev k_X7_set 2 := ⟨⟨⟨List.mem_of_getElem? (i := 473) (by decide +kernel), rfl⟩, ⟨List.mem_of_getElem? (i := 60) (by decide +kernel), rfl⟩, by decide +kernel, by decide +kernel, rfl, rfl⟩, ⟨List.mem_of_getElem? (i := 471) (by decide +kernel), rfl⟩, ⟨List.mem_of_getElem? (i := 472) (by decide +kernel), rfl⟩⟩
theorem n_L_36 : m_lk RL 36 yX7_set := Or.inl ⟨List.mem_of_getElem? (i := 470) (by decide +kernel), rfl⟩
theorem e_X8_set : m_mev k_X8_set 2 := ⟨⟨⟨List.mem_of_getElem? (i := 825) (by decide +kernel), rfl⟩, ⟨List.mem_of_getElem? (i := 69) (by decide +kernel), rfl⟩, by decide +kernel, by decide +kernel, rfl, rfl⟩, ⟨List.mem_of_getElem? (i := 823) (by decide +kernel), rfl⟩, ⟨List.mem_of_getElem? (i := 824) (by decide +kernel), rfl⟩⟩
theorem n_L_39 : m_lk RL 39 yX8_set := Or.inl ⟨List.mem_of_getElem? (i := 822) (by decide +kernel), rfl⟩
theorem e_X7_count : m_mev k_X7_count 1 := ⟨⟨⟨List.mem_of_getElem? (i := 483) (by decide +kernel), rfl⟩, ⟨List.mem_of_getElem? (i := 60) (by decide +kernel), rfl⟩, by decide +kernel, by decide +kernel, rfl, rfl⟩, ⟨List.mem_of_getElem? (i := 481) (by decide +kernel), rfl⟩, ⟨List.mem_of_getElem? (i := 482) (by decide +kernel), rfl⟩⟩
theorem n_L_40 : m_lk RL 40 yX7_count := Or.inl ⟨List.mem_of_getElem? (i := 480) (by decide +kernel), rfl⟩
theorem e_X8_count : m_mev k_X8_count 1 := ⟨⟨⟨List.mem_of_getElem? (i := 832) (by decide +kernel), rfl⟩, ⟨List.mem_of_getElem? (i := 69) (by decide +kernel), rfl⟩, by decide +kernel, by decide +kernel, rfl, rfl⟩, ⟨List.mem_of_getElem? (i := 830) (by decide +kernel), rfl⟩, ⟨List.mem_of_getElem? (i := 831) (by decide +kernel), rfl⟩⟩
theorem n_L_44 : m_lk RL 44 yX8_count := Or.inl ⟨List.mem_of_getElem? (i := 829) (by decide +kernel), rfl⟩
theorem e_X7_hint : m_mev k_X7_hint 5 := ⟨⟨⟨List.mem_of_getElem? (i := 500) (by decide +kernel), rfl⟩, ⟨List.mem_of_getElem? (i := 60) (by decide +kernel), rfl⟩, by decide +kernel, by decide +kernel, rfl, rfl⟩, ⟨List.mem_of_getElem? (i := 498) (by decide +kernel), rfl⟩, ⟨List.mem_of_getElem? (i := 499) (by decide +kernel), rfl⟩⟩
theorem n_L_45 : m_lk RL 45 yX7_hint := Or.inl ⟨List.mem_of_getElem? (i := 497) (by decide +kernel), rfl⟩
theorem e_X8_hint : m_mev k_X8_hint 5 := ⟨⟨⟨List.mem_of_getElem? (i := 840) (by decide +kernel), rfl⟩, ⟨List.mem_of_getElem? (i := 69) (by decide +kernel), rfl⟩, by decide +kernel, by decide +kernel, rfl, rfl⟩, ⟨List.mem_of_getElem? (i := 838) (by decide +kernel), rfl⟩, ⟨List.mem_of_getElem? (i := 839) (by decide +kernel), rfl⟩⟩
theorem n_L_49 : m_lk RL 49 yX8_hint := Or.inl ⟨List.mem_of_getElem? (i := 837) (by decide +kernel), rfl⟩
theorem e_X7_alter : m_mev k_X7_alter 3 := ⟨⟨⟨List.mem_of_getElem? (i := 515) (by decide +kernel), rfl⟩, ⟨List.mem_of_getElem? (i := 60) (by decide +kernel), rfl⟩, by decide +kernel, by decide +kernel, rfl, rfl⟩, ⟨List.mem_of_getElem? (i := 513) (by decide +kernel), rfl⟩, ⟨List.mem_of_getElem? (i := 514) (by decide +kernel), rfl⟩⟩
theorem n_L_50 : m_lk RL 50 yX7_alter := Or.inl ⟨List.mem_of_getElem? (i := 512) (by decide +kernel), rfl⟩
theorem e_X8_alter : m_mev k_X8_alter 3 := ⟨⟨⟨List.mem_of_getElem? (i := 844) (by decide +kernel), rfl⟩, ⟨List.mem_of_getElem? (i := 69) (by decide +kernel), rfl⟩, by decide +kernel, by decide +kernel, rfl, rfl⟩, ⟨List.mem_of_getElem? (i := 842) (by decide +kernel), rfl⟩, ⟨List.mem_of_getElem? (i := 843) (by decide +kernel), rfl⟩⟩
theorem n_L_53 : m_lk RL 53 yX8_alter := Or.inl ⟨List.mem_of_getElem? (i := 841) (by decide +kernel), rfl⟩
theorem e_X7_open : m_mev k_X7_open 1 := ⟨⟨⟨List.mem_of_getElem? (i := 526) (by decide +kernel), rfl⟩, ⟨List.mem_of_getElem? (i := 60) (by decide +kernel), rfl⟩, by decide +kernel, by decide +kernel, rfl, rfl⟩, ⟨List.mem_of_getElem? (i := 524) (by decide +kernel), rfl⟩, ⟨List.mem_of_getElem? (i := 525) (by decide +kernel), rfl⟩⟩
theorem n_L_54 : m_lk RL 54 yX7_open := Or.inl ⟨List.mem_of_getElem? (i := 523) (by decide +kernel), rfl⟩
theorem e_X8_open : m_mev k_X8_open 1 := ⟨⟨⟨List.mem_of_getElem? (i := 856) (by decide +kernel), rfl⟩, ⟨List.mem_of_getElem? (i := 69) (by decide +kernel), rfl⟩, by decide +kernel, by decide +kernel, rfl, rfl⟩, ⟨List.mem_of_getElem? (i := 854) (by decide +kernel), rfl⟩, ⟨List.mem_of_getElem? (i := 855) (by decide +kernel), rfl⟩⟩
theorem n_L_57 : m_lk RL 57 yX8_open := Or.inl ⟨List.mem_of_getElem? (i := 853) (by decide +kernel), rfl⟩
theorem e_X7_close : m_mev k_X7_close 1 := ⟨⟨⟨List.mem_of_getElem? (i := 534) (by decide +kernel), rfl⟩, ⟨List.mem_of_getElem? (i := 60) (by decide +kernel), rfl⟩, by decide +kernel, by decide +kernel, rfl, rfl⟩, ⟨List.mem_of_getElem? (i := 532) (by decide +kernel), rfl⟩, ⟨List.mem_of_getElem? (i := 533) (by decide +kernel), rfl⟩⟩
theorem n_L_58 : m_lk RL 58 yX7_close := Or.inl ⟨List.mem_of_getElem? (i := 531) (by decide +kernel), rfl⟩
theorem e_X8_close : m_mev k_X8_close 1 := ⟨⟨⟨List.mem_of_getElem? (i := 868) (by decide +kernel), rfl⟩, ⟨List.mem_of_getElem? (i := 69) (by decide +kernel), rfl⟩, by decide +kernel, by decide +kernel, rfl, rfl⟩, ⟨List.mem_of_getElem? (i := 866) (by decide +kernel), rfl⟩, ⟨List.mem_of_getElem? (i := 867) (by decide +kernel), rfl⟩⟩
theorem n_L_61 : m_lk RL 61 yX8_close := Or.inl ⟨List.mem_of_getElem? (i := 865) (by decide +kernel), rfl⟩
theorem e_X7_settle : m_mev k_X7_settle 0 := ⟨⟨⟨List.mem_of_getElem? (i := 542) (by decide +kernel), rfl⟩, ⟨List.mem_of_getElem? (i := 60) (by decide +kernel), rfl⟩, by decide +kernel, by decide +kernel, rfl, rfl⟩, ⟨List.mem_of_getElem? (i := 540) (by decide +kernel), rfl⟩, ⟨List.mem_of_getElem? (i := 541) (by decide +kernel), rfl⟩⟩
theorem n_L_62 : m_lk RL 62 yX7_settle := Or.inl ⟨List.mem_of_getElem? (i := 539) (by decide +kernel), rfl⟩
theorem e_X8_settle : m_mev k_X8_settle 0 := ⟨⟨⟨List.mem_of_getElem? (i := 876) (by decide +kernel), rfl⟩, ⟨List.mem_of_getElem? (i := 69) (by decide +kernel), rfl⟩, by decide +kernel, by decide +kernel, rfl, rfl⟩, ⟨List.mem_of_getElem? (i := 874) (by decide +kernel), rfl⟩, ⟨List.mem_of_getElem? (i := 875) (by decide +kernel), rfl⟩⟩
theorem n_L_66 : m_lk RL 66 yX8_settle := Or.inl ⟨List.mem_of_getElem? (i := 873) (by decide +kernel), rfl⟩
theorem e_X7_hintOf : m_mev k_X7_hintOf 2 := ⟨⟨⟨List.mem_of_getElem? (i := 550) (by decide +kernel), rfl⟩, ⟨List.mem_of_getElem? (i := 60) (by decide +kernel), rfl⟩, by decide +kernel, by decide +kernel, rfl, rfl⟩, ⟨List.mem_of_getElem? (i := 548) (by decide +kernel), rfl⟩, ⟨List.mem_of_getElem? (i := 549) (by decide +kernel), rfl⟩⟩
theorem n_L_67 : m_lk RL 67 yX7_hintOf := Or.inl ⟨List.mem_of_getElem? (i := 547) (by decide +kernel), rfl⟩
theorem e_X8_hintOf : m_mev k_X8_hintOf 2 := ⟨⟨⟨List.mem_of_getElem? (i := 884) (by decide +kernel), rfl⟩, ⟨List.mem_of_getElem? (i := 69) (by decide +kernel), rfl⟩, by decide +kernel, by decide +kernel, rfl, rfl⟩, ⟨List.mem_of_getElem? (i := 882) (by decide +kernel), rfl⟩, ⟨List.mem_of_getElem? (i := 883) (by decide +kernel), rfl⟩⟩
theorem n_L_70 : m_lk RL 70 yX8_hintOf := Or.inl ⟨List.mem_of_getElem? (i := 881) (by decide +kernel), rfl⟩
theorem e_X7_room : m_mev k_X7_room 2 := ⟨⟨⟨List.mem_of_getElem? (i := 560) (by decide +kernel), rfl⟩, ⟨List.mem_of_getElem? (i := 60) (by decide +kernel), rfl⟩, by decide +kernel, by decide +kernel, rfl, rfl⟩, ⟨List.mem_of_getElem? (i := 558) (by decide +kernel), rfl⟩, ⟨List.mem_of_getElem? (i := 559) (by decide +kernel), rfl⟩⟩
theorem n_L_71 : m_lk RL 71 yX7_room := Or.inl ⟨List.mem_of_getElem? (i := 557) (by decide +kernel), rfl⟩
theorem e_X8_room : m_mev k_X8_room 2 := ⟨⟨⟨List.mem_of_getElem? (i := 892) (by decide +kernel), rfl⟩, ⟨List.mem_of_getElem? (i := 69) (by decide +kernel), rfl⟩, by decide +kernel, by decide +kernel, rfl, rfl⟩, ⟨List.mem_of_getElem? (i := 890) (by decide +kernel), rfl⟩, ⟨List.mem_of_getElem? (i := 891) (by decide +kernel), rfl⟩⟩
theorem n_L_74 : m_lk RL 74 yX8_room := Or.inl ⟨List.mem_of_getElem? (i := 889) (by decide +kernel), rfl⟩
theorem e_X7_ifOn : m_mev k_X7_ifOn 3 := ⟨⟨⟨List.mem_of_getElem? (i := 565) (by decide +kernel), rfl⟩, ⟨List.mem_of_getElem? (i := 60) (by decide +kernel), rfl⟩, by decide +kernel, by decide +kernel, rfl, rfl⟩, ⟨List.mem_of_getElem? (i := 563) (by decide +kernel), rfl⟩, ⟨List.mem_of_getElem? (i := 564) (by decide +kernel), rfl⟩⟩
theorem n_L_75 : m_lk RL 75 yX7_ifOn := Or.inl ⟨List.mem_of_getElem? (i := 562) (by decide +kernel), rfl⟩
theorem e_X8_ifOn : m_mev k_X8_ifOn 3 := ⟨⟨⟨List.mem_of_getElem? (i := 896) (by decide +kernel), rfl⟩, ⟨List.mem_of_getElem? (i := 69) (by decide +kernel), rfl⟩, by decide +kernel, by decide +kernel, rfl, rfl⟩, ⟨List.mem_of_getElem? (i := 894) (by decide +kernel), rfl⟩, ⟨List.mem_of_getElem? (i := 895) (by decide +kernel), rfl⟩⟩
theorem n_L_78 : m_lk RL 78 yX8_ifOn := Or.inl ⟨List.mem_of_getElem? (i := 893) (by decide +kernel), rfl⟩
theorem e_X7_at : m_mev k_X7_at 2 := ⟨⟨⟨List.mem_of_getElem? (i := 569) (by decide +kernel), rfl⟩, ⟨List.mem_of_getElem? (i := 60) (by decide +kernel), rfl⟩, by decide +kernel, by decide +kernel, rfl, rfl⟩, ⟨List.mem_of_getElem? (i := 567) (by decide +kernel), rfl⟩, ⟨List.mem_of_getElem? (i := 568) (by decide +kernel), rfl⟩⟩
theorem n_L_79 : m_lk RL 79 yX7_at := Or.inl ⟨List.mem_of_getElem? (i := 566) (by decide +kernel), rfl⟩
theorem e_X8_at : m_mev k_X8_at 2 := ⟨⟨⟨List.mem_of_getElem? (i := 900) (by decide +kernel), rfl⟩, ⟨List.mem_of_getElem? (i := 69) (by decide +kernel), rfl⟩, by decide +kernel, by decide +kernel, rfl, rfl⟩, ⟨List.mem_of_getElem? (i := 898) (by decide +kernel), rfl⟩, ⟨List.mem_of_getElem? (i := 899) (by decide +kernel), rfl⟩⟩
theorem n_L_82 : m_lk RL 82 yX8_at := Or.inl ⟨List.mem_of_getElem? (i := 897) (by decide +kernel), rfl⟩
theorem e_X7_sizeFor : m_mev k_X7_sizeFor 2 := ⟨⟨⟨List.mem_of_getElem? (i := 574) (by decide +kernel), rfl⟩, ⟨List.mem_of_getElem? (i := 60) (by decide +kernel), rfl⟩, by decide +kernel, by decide +kernel, rfl, rfl⟩, ⟨List.mem_of_getElem? (i := 572) (by decide +kernel), rfl⟩, ⟨List.mem_of_getElem? (i := 573) (by decide +kernel), rfl⟩⟩
theorem n_L_83 : m_lk RL 83 yX7_sizeFor := Or.inl ⟨List.mem_of_getElem? (i := 571) (by decide +kernel), rfl⟩
theorem e_X8_sizeFor : m_mev k_X8_sizeFor 2 := ⟨⟨⟨List.mem_of_getElem? (i := 904) (by decide +kernel), rfl⟩, ⟨List.mem_of_getElem? (i := 69) (by decide +kernel), rfl⟩, by decide +kernel, by decide +kernel, rfl, rfl⟩, ⟨List.mem_of_getElem? (i := 902) (by decide +kernel), rfl⟩, ⟨List.mem_of_getElem? (i := 903) (by decide +kernel), rfl⟩⟩
theorem n_L_86 : m_lk RL 86 yX8_sizeFor := Or.inl ⟨List.mem_of_getElem? (i := 901) (by decide +kernel), rfl⟩
theorem e_X7_undo : m_mev k_X7_undo 0 := ⟨⟨⟨List.mem_of_getElem? (i := 583) (by decide +kernel), rfl⟩, ⟨List.mem_of_getElem? (i := 60) (by decide +kernel), rfl⟩, by decide +kernel, by decide +kernel, rfl, rfl⟩, ⟨List.mem_of_getElem? (i := 581) (by decide +kernel), rfl⟩, ⟨List.mem_of_getElem? (i := 582) (by decide +kernel), rfl⟩⟩
theorem n_L_87 : m_lk RL 87 yX7_undo := Or.inl ⟨List.mem_of_getElem? (i := 580) (by decide +kernel), rfl⟩
theorem e_X8_undo : m_mev k_X8_undo 0 := ⟨⟨⟨List.mem_of_getElem? (i := 908) (by decide +kernel), rfl⟩, ⟨List.mem_of_getElem? (i := 69) (by decide +kernel), rfl⟩, by decide +kernel, by decide +kernel, rfl, rfl⟩, ⟨List.mem_of_getElem? (i := 906) (by decide +kernel), rfl⟩, ⟨List.mem_of_getElem? (i := 907) (by decide +kernel), rfl⟩⟩
theorem n_L_90 : m_lk RL 90 yX8_undo := Or.inl ⟨List.mem_of_getElem? (i := 905) (by decide +kernel), rfl⟩
theorem e_X7_type : m_mev k_X7_type 1 := ⟨⟨⟨List.mem_of_getElem? (i := 595) (by decide +kernel), rfl⟩, ⟨List.mem_of_getElem? (i := 60) (by decide +kernel), rfl⟩, by decide +kernel, by decide +kernel, rfl, rfl⟩, ⟨List.mem_of_getElem? (i := 593) (by decide +kernel), rfl⟩, ⟨List.mem_of_getElem? (i := 594) (by decide +kernel), rfl⟩⟩
theorem n_L_91 : m_lk RL 91 yX7_type := Or.inl ⟨List.mem_of_getElem? (i := 592) (by decide +kernel), rfl⟩
theorem e_X8_type : m_mev k_X8_type 1 := ⟨⟨⟨List.mem_of_getElem? (i := 912) (by decide +kernel), rfl⟩, ⟨List.mem_of_getElem? (i := 69) (by decide +kernel), rfl⟩, by decide +kernel, by decide +kernel, rfl, rfl⟩, ⟨List.mem_of_getElem? (i := 910) (by decide +kernel), rfl⟩, ⟨List.mem_of_getElem? (i := 911) (by decide +kernel), rfl⟩⟩
theorem n_L_94 : m_lk RL 94 yX8_type := Or.inl ⟨List.mem_of_getElem? (i := 909) (by decide +kernel), rfl⟩
theorem e_X7_clearText : m_mev k_X7_clearText 0 := ⟨⟨⟨List.mem_of_getElem? (i := 604) (by decide +kernel), rfl⟩, ⟨List.mem_of_getElem? (i := 60) (by decide +kernel), rfl⟩, by decide +kernel, by decide +kernel, rfl, rfl⟩, ⟨List.mem_of_getElem? (i := 602) (by decide +kernel), rfl⟩, ⟨List.mem_of_getElem? (i := 603) (by decide +kernel), rfl⟩⟩
theorem n_L_95 : m_lk RL 95 yX7_clearText := Or.inl ⟨List.mem_of_getElem? (i := 601) (by decide +kernel), rfl⟩
theorem e_X8_clearText : m_mev k_X8_clearText 0 := ⟨⟨⟨List.mem_of_getElem? (i := 916) (by decide +kernel), rfl⟩, ⟨List.mem_of_getElem? (i := 69) (by decide +kernel), rfl⟩, by decide +kernel, by decide +kernel, rfl, rfl⟩, ⟨List.mem_of_getElem? (i := 914) (by decide +kernel), rfl⟩, ⟨List.mem_of_getElem? (i := 915) (by decide +kernel), rfl⟩⟩
theorem n_L_98 : m_lk RL 98 yX8_clearText := Or.inl ⟨List.mem_of_getElem? (i := 913) (by decide +kernel), rfl⟩
theorem e_X7_fault : m_mev k_X7_fault 1 := ⟨⟨⟨List.mem_of_getElem? (i := 608) (by decide +kernel), rfl⟩, ⟨List.mem_of_getElem? (i := 60) (by decide +kernel), rfl⟩, by decide +kernel, by decide +kernel, rfl, rfl⟩, ⟨List.mem_of_getElem? (i := 606) (by decide +kernel), rfl⟩, ⟨List.mem_of_getElem? (i := 607) (by decide +kernel), rfl⟩⟩
theorem n_L_99 : m_lk RL 99 yX7_fault := Or.inl ⟨List.mem_of_getElem? (i := 605) (by decide +kernel), rfl⟩
theorem e_X8_fault : m_mev k_X8_fault 1 := ⟨⟨⟨List.mem_of_getElem? (i := 920) (by decide +kernel), rfl⟩, ⟨List.mem_of_getElem? (i := 69) (by decide +kernel), rfl⟩, by decide +kernel, by decide +kernel, rfl, rfl⟩, ⟨List.mem_of_getElem? (i := 918) (by decide +kernel), rfl⟩, ⟨List.mem_of_getElem? (i := 919) (by decide +kernel), rfl⟩⟩
theorem n_L_102 : m_lk RL 102 yX8_fault := Or.inl ⟨List.mem_of_getElem? (i := 917) (by decide +kernel), rfl⟩
theorem e_X7_carry : m_mev k_X7_carry 0 := ⟨⟨⟨List.mem_of_getElem? (i := 648) (by decide +kernel), rfl⟩, ⟨List.mem_of_getElem? (i := 60) (by decide +kernel), rfl⟩, by decide +kernel, by decide +kernel, rfl, rfl⟩, ⟨List.mem_of_getElem? (i := 646) (by decide +kernel), rfl⟩, ⟨List.mem_of_getElem? (i := 647) (by decide +kernel), rfl⟩⟩
theorem n_L_103 : m_lk RL 103 yX7_carry := Or.inl ⟨List.mem_of_getElem? (i := 645) (by decide +kernel), rfl⟩
theorem e_X8_carry : m_mev k_X8_carry 0 := ⟨⟨⟨List.mem_of_getElem? (i := 948) (by decide +kernel), rfl⟩, ⟨List.mem_of_getElem? (i := 69) (by decide +kernel), rfl⟩, by decide +kernel, by decide +kernel, rfl, rfl⟩, ⟨List.mem_of_getElem? (i := 946) (by decide +kernel), rfl⟩, ⟨List.mem_of_getElem? (i := 947) (by decide +kernel), rfl⟩⟩
theorem n_L_106 : m_lk RL 106 yX8_carry := Or.inl ⟨List.mem_of_getElem? (i := 945) (by decide +kernel), rfl⟩
end
section
/-! NUMBERS FOR TRUTH, ROWS, THE TWO HEAPS; the leaves of the class -/
noncomputable def b2i (p : Prop) : Int32 := @ite Int32 p (Classical.propDecidable p) 1 0
theorem b2i_t {p : Prop} (h : p) : b2i p = 1 := by unfold b2i; exact if_pos h
theorem b2i_f {p : Prop} (h : ¬ p) : b2i p = 0 := by unfold b2i; exact if_neg h
theorem b2i_01 (p : Prop) : b2i p = 0 ∨ b2i p = 1 := by
  by_cases h : p
  · exact Or.inr (b2i_t h)
  · exact Or.inl (b2i_f h)
theorem b2i_eq {p q : Prop} (h : p ↔ q) : b2i p = b2i q := by rw [propext h]
theorem b2i_1 {p : Prop} : b2i p = 1 ↔ p := by
  constructor
  · intro e
    by_cases h : p
    · exact h
    · rw [b2i_f h] at e; exact absurd e (by decide)
  · exact b2i_t
theorem b2i_0 {p : Prop} : b2i p = 0 ↔ ¬ p := by
  constructor
  · intro e h
    rw [b2i_t h] at e; exact absurd e (by decide)
  · exact b2i_f
noncomputable def iif {α : Type} (p : Prop) (a b : α) : α := @ite α p (Classical.propDecidable p) a b
theorem iif_t {α : Type} {p : Prop} {a b : α} (h : p) : iif p a b = a := by unfold iif; exact if_pos h
theorem iif_f {α : Type} {p : Prop} {a b : α} (h : ¬ p) : iif p a b = b := by unfold iif; exact if_neg h
/-- an answer of truth at a path's end -/
theorem z_t {p : Prop} (h : p) : (some (Value.int (b2i p))) = some (.int 1) := by rw [b2i_t h]
theorem z_f {p : Prop} (h : ¬ p) : (some (Value.int (b2i p))) = some (.int 0) := by rw [b2i_f h]
theorem m_all {av : List Value} (h : av.all (fun v => v.category == 1) = true) : ∀ v ∈ av, v.category = 1 := fun v hv => by simpa using List.all_eq_true.mp h v hv
theorem m_out {x : Int32} {lo hi : Int} (h : ∀ z : Int, lo ≤ z → z ≤ hi → x.toInt = z → False) : x.toInt < lo ∨ hi < x.toInt := by
  by_cases h1 : x.toInt < lo
  · exact Or.inl h1
  · by_cases h2 : hi < x.toInt
    · exact Or.inr h2
    · exact (h x.toInt (by omega) (by omega) rfl).elim
section MR2
variable {M : mM} {pc : Nat} {ls st : List Value} {h h' : List mC} {r : Option Value}
theorem mJ_b2i {p : Prop} (kt : p → mJ M pc ls (.int 1 :: st) h r h') (kf : ¬ p → mJ M pc ls (.int 0 :: st) h r h') : mJ M pc ls (.int (b2i p) :: st) h r h' := by
  by_cases q : p
  · rw [b2i_t q]; exact kt q
  · rw [b2i_f q]; exact kf q
theorem mJ_case {x : Int32} (v : Int32) (kt : x = v → mJ M pc ls (.int v :: st) h r h') (kf : ¬ x = v → mJ M pc ls (.int x :: st) h r h') : mJ M pc ls (.int x :: st) h r h' := by
  by_cases q : x = v
  · rw [q]; exact kt q
  · exact kf q
/-- the value on top under another name -/
theorem mJ_top {x y : Int32} (e : x = y) (k : mJ M pc ls (.int y :: st) h r h') : mJ M pc ls (.int x :: st) h r h' := e ▸ k
theorem mJ_ialdN {a n j : Nat} {f : Nat → Int32} {i : Int32} (hd : decode M.2.1 pc = .ok (.iaload, 1)) (hc : h[a]? = some (.inl (0, n, f))) (hi : i = nI j ∧ j < n ∧ n < 2 ^ 31) (kk : mJ M (pc + 1) ls (.int (f j) :: st) h r h') : mJ M pc ls (.int i :: .ref a :: st) h r h' := by
  obtain ⟨rfl, h1, h2⟩ := hi
  exact mJ_iald hd hc (vp_in_nI h1 h2) (by rw [nI_clamp (by omega)]) kk
theorem mJ_caldN {a n j : Nat} {f : Nat → Int32} {i : Int32} (hd : decode M.2.1 pc = .ok (.caload, 1)) (hc : h[a]? = some (.inl (1, n, f))) (hi : i = nI j ∧ j < n ∧ n < 2 ^ 31) (kk : mJ M (pc + 1) ls (.int (f j) :: st) h r h') : mJ M pc ls (.int i :: .ref a :: st) h r h' := by
  obtain ⟨rfl, h1, h2⟩ := hi
  exact mJ_cald hd hc (vp_in_nI h1 h2) (by rw [nI_clamp (by omega)]) kk
theorem mJ_iastN {a n j : Nat} {f : Nat → Int32} {i x : Int32} (hd : decode M.2.1 pc = .ok (.iastore, 1)) (hc : h[a]? = some (.inl (0, n, f))) (hi : i = nI j ∧ j < n ∧ n < 2 ^ 31) {h2 : List mC} (hs : h.set a (.inl (0, n, upd f j x)) = h2) (kk : mJ M (pc + 1) ls st h2 r h') : mJ M pc ls (.int x :: .int i :: .ref a :: st) h r h' := by
  obtain ⟨rfl, h1, h3⟩ := hi
  exact mJ_iast hd hc (vp_in_nI h1 h3) (by rw [nI_clamp (by omega)]; exact hs) kk
theorem mJ_castN {a n j : Nat} {f : Nat → Int32} {i x : Int32} (hd : decode M.2.1 pc = .ok (.castore, 1)) (hc : h[a]? = some (.inl (1, n, f))) (hi : (i = nI j ∧ j < n ∧ n < 2 ^ 31) ∧ vp_nar .char x = x) {h2 : List mC} (hs : h.set a (.inl (1, n, upd f j x)) = h2) (kk : mJ M (pc + 1) ls st h2 r h') : mJ M pc ls (.int x :: .int i :: .ref a :: st) h r h' := by
  obtain ⟨⟨rfl, h1, h3⟩, h4⟩ := hi
  exact mJ_cast hd hc (vp_in_nI h1 h3) h4 (by rw [nI_clamp (by omega)]; exact hs) kk
end MR2
/-- a row's get and put: beyond its ends 0 and nothing -/
def rg (n : Nat) (f : Nat → Int32) (i : Int32) : Int32 := if i < 0 then 0 else if nI n ≤ i then 0 else f i.toNatClampNeg
def rp (n : Nat) (f : Nat → Int32) (i v : Int32) : Nat → Int32 := if i < 0 then f else if nI n ≤ i then f else upd f i.toNatClampNeg v
theorem m_vpin {i : Int32} {n : Nat} (h1 : ¬ i < 0) (h2 : ¬ nI n ≤ i) (hn : n < 2 ^ 31) : vp_in i n := by
  obtain ⟨j, hj, rfl⟩ := nI_of h1
  have : j < n := by
    rcases Nat.lt_or_ge j n with q | q
    · exact q
    · exact absurd (nI_le q hj) h2
  exact vp_in_nI this hn
theorem rg_in {n j : Nat} (f : Nat → Int32) (hj : j < n) (hn : n < 2 ^ 31) : rg n f (nI j) = f j := by
  unfold rg
  rw [if_neg (nI_pos (by omega)), if_neg (nI_ge hj hn), nI_clamp (by omega)]
theorem rp_in {n j : Nat} (f : Nat → Int32) (v : Int32) (hj : j < n) (hn : n < 2 ^ 31) : rp n f (nI j) v = upd f j v := by
  unfold rp
  rw [if_neg (nI_pos (by omega)), if_neg (nI_ge hj hn), nI_clamp (by omega)]
theorem m_set_same {h : List mC} {a : Nat} {c : mC} (hc : h[a]? = some c) : h.set a c = h := by
  apply List.ext_getElem?
  intro i
  rw [List.getElem?_set]
  by_cases q : a = i
  · subst q
    obtain ⟨h1, hx⟩ := List.getElem?_eq_some_iff.mp hc
    simp [h1, hx]
  · simp [q]
abbrev aF : Type := Nat → Int32
abbrev tH : Type := aF × Int32 × Int32
abbrev tS : Type := aF × aF × aF × aF × aF × Int32
abbrev tT : Type := aF × Int32
abbrev tP : Type := Int32 × Int32 × Int32 × Int32 × Int32 × Int32
abbrev tO : Type := aF × Int32 × Int32 × Int32 × Int32 × Int32 × Int32 × Int32
/-- the class's cells: state row, history, showing, its tries and place, orders, tries and place -/
def cH (C : aF) (Hs : tH) (Sw : tS) (T1 : tT) (P1 : tP) (Od : tO) (T2 : tT) (P2 : tP) : List mC :=
  [.inr (7, [.ref 1, .ref 4, .ref 7, .ref 22, .ref 25, .ref 28]), .inr (5, [.ref 2]), .inr (3, [.ref 3]), .inl (0, 172, C),
   .inr (0, [.ref 5, .int Hs.2.1, .int Hs.2.2]), .inr (3, [.ref 6]), .inl (0, 860, Hs.1),
   .inr (4, [.ref 8, .ref 10, .ref 12, .ref 14, .ref 16, .ref 18, .ref 21, .int Sw.2.2.2.2.2]), .inr (3, [.ref 9]), .inl (0, 12, Sw.1), .inr (3, [.ref 11]), .inl (0, 12, Sw.2.1), .inr (3, [.ref 13]), .inl (0, 12, Sw.2.2.1), .inr (3, [.ref 15]), .inl (0, 12, Sw.2.2.2.1), .inr (3, [.ref 17]), .inl (0, 12, Sw.2.2.2.2.1),
   .inr (6, [.ref 19, .int T1.2]), .inr (3, [.ref 20]), .inl (0, 4, T1.1),
   .inr (2, [.int P1.1, .int P1.2.1, .int P1.2.2.1, .int P1.2.2.2.1, .int P1.2.2.2.2.1, .int P1.2.2.2.2.2]),
   .inr (1, [.ref 23, .int Od.2.1, .int Od.2.2.1, .int Od.2.2.2.1, .int Od.2.2.2.2.1, .int Od.2.2.2.2.2.1, .int Od.2.2.2.2.2.2.1, .int Od.2.2.2.2.2.2.2]), .inr (3, [.ref 24]), .inl (0, 60, Od.1),
   .inr (6, [.ref 26, .int T2.2]), .inr (3, [.ref 27]), .inl (0, 4, T2.1),
   .inr (2, [.int P2.1, .int P2.2.1, .int P2.2.2.1, .int P2.2.2.2.1, .int P2.2.2.2.2.1, .int P2.2.2.2.2.2])]
/-- the reference's cells -/
def mH (d was : aF) (sta : Int32) (text : aF) (typ at_ sig fst snd rea lef top shf arr goo : Int32) (ord why son : aF) (shn : Int32) (tri : aF) (trs : Int32) : List mC :=
  [.inr (8, [.ref 1, .ref 2, .int sta, .ref 3, .int typ, .int at_, .int sig, .int fst, .int snd, .int rea, .int lef, .int top, .int shf, .int arr, .int goo, .ref 4, .ref 5, .ref 6, .int shn, .ref 7, .int trs]),
   .inl (0, 172, d), .inl (0, 860, was), .inl (1, 60, text), .inl (0, 12, ord), .inl (0, 12, why), .inl (0, 12, son), .inl (0, 5, tri)]

set_option maxHeartbeats 4000000 in
set_option maxRecDepth 100000 in
theorem C_X3_get {h : List mC} {id a n : Nat} {f : aF} {i : Int32} (hid : h[id]? = some (.inr (3, [.ref a]))) (ha : h[a]? = some (.inl (0, n, f))) (hn : n < 2 ^ 31) : mCt k_X3_get [.ref id, .int i] h (some (.int (rg n f i))) h := by
  refine mCt_intro (plainFor_of_name rfl) (Nat.le_of_ble_eq_true rfl) (m_all rfl) (ls := [_, _]) rfl ?_
  refine mJ_iload_n dX3_get_0 rfl ?_
  refine mJ_if_lt 22 dX3_get_1 rfl (fun c_1 => ?_) (fun c_1 => ?_)
  · refine mJ_iconst (v := 0) dX3_get_22 rfl ?_
    exact mJ_iret dX3_get_23 rfl (by simp [rg, *]) (rfl)
  · refine mJ_iload_n dX3_get_4 rfl ?_
    refine mJ_aload_n dX3_get_5 rfl ?_
    refine mJ_get dX3_get_6 f_X3_13 hid rfl ?_
    refine mJ_alen dX3_get_9 ha (Nat.le_of_ble_eq_true rfl) (v := nI _) rfl ?_
    refine mJ_icmp_ge 22 dX3_get_10 rfl (fun c_10 => ?_) (fun c_10 => ?_)
    · refine mJ_iconst (v := 0) dX3_get_22 rfl ?_
      exact mJ_iret dX3_get_23 rfl (by simp [rg, *]) (rfl)
    · refine mJ_aload_n dX3_get_13 rfl ?_
      refine mJ_get dX3_get_14 f_X3_13 hid rfl ?_
      refine mJ_iload_n dX3_get_17 rfl ?_
      refine mJ_iald dX3_get_18 ha (m_vpin c_1 c_10 hn) rfl ?_
      refine mJ_goto 23 dX3_get_19 rfl ?_
      exact mJ_iret dX3_get_23 rfl (by simp [rg, *]) (rfl)
set_option maxHeartbeats 4000000 in
set_option maxRecDepth 100000 in
theorem C_X3_put {h : List mC} {id a n : Nat} {f : aF} {i : Int32} (hid : h[id]? = some (.inr (3, [.ref a]))) (ha : h[a]? = some (.inl (0, n, f))) (hn : n < 2 ^ 31) {v : Int32} : mCt k_X3_put [.ref id, .int i, .int v] h none (h.set a (.inl (0, n, rp n f i v))) := by
  refine mCt_intro (plainFor_of_name rfl) (Nat.le_of_ble_eq_true rfl) (m_all rfl) (ls := [_, _, _]) rfl ?_
  refine mJ_iload_n dX3_put_0 rfl ?_
  refine mJ_if_lt 20 dX3_put_1 rfl (fun c_1 => ?_) (fun c_1 => ?_)
  · exact mJ_vret dX3_put_20 rfl (rfl) (by first | (simp [rp, *]; exact (m_set_same ha).symm) | simp [rp, *])
  · refine mJ_iload_n dX3_put_4 rfl ?_
    refine mJ_aload_n dX3_put_5 rfl ?_
    refine mJ_get dX3_put_6 f_X3_13 hid rfl ?_
    refine mJ_alen dX3_put_9 ha (Nat.le_of_ble_eq_true rfl) (v := nI _) rfl ?_
    refine mJ_icmp_ge 20 dX3_put_10 rfl (fun c_10 => ?_) (fun c_10 => ?_)
    · exact mJ_vret dX3_put_20 rfl (rfl) (by first | (simp [rp, *]; exact (m_set_same ha).symm) | simp [rp, *])
    · refine mJ_aload_n dX3_put_13 rfl ?_
      refine mJ_get dX3_put_14 f_X3_13 hid rfl ?_
      refine mJ_iload_n dX3_put_17 rfl ?_
      refine mJ_iload_n dX3_put_18 rfl ?_
      refine mJ_iast dX3_put_19 ha (m_vpin c_1 c_10 hn) (h2 := _) rfl ?_
      exact mJ_vret dX3_put_20 rfl (rfl) (by first | (simp [rp, *]; exact (m_set_same ha).symm) | simp [rp, *])
/-! what the state row holds: a cell, a setting, an anchor's, a hint's value -/
def gG (C : aF) (i : Int32) : Int32 := rg 172 C i
def gS (C : aF) (w : Int32) : Int32 := rg 172 C (7 + w)
def gA (C : aF) (a w : Int32) : Int32 := rg 172 C (12 + a * 4 + w)
def gH (C : aF) (h w : Int32) : Int32 := rg 172 C (52 + h * 10 + w)
def sP (C : aF) (i v : Int32) : aF := rp 172 C i v
def sA (C : aF) (a w v : Int32) : aF := rp 172 C (12 + a * 4 + w) v
def sH (C : aF) (h w v : Int32) : aF := rp 172 C (52 + h * 10 + w) v
/-- truths of the class -/
def q_in (v f : Int32) : Prop := ¬ v < -f ∧ ¬ f < v
def q_size (v : Int32) : Prop := ¬ v < 1 ∧ ¬ 200 < v
def q_view (v : Int32) : Prop := ¬ v < 20 ∧ ¬ 400 < v
def q_side (v : Int32) : Prop := ¬ v < 0 ∧ ¬ 4 ≤ v
def q_lv (v : Int32) : Prop := v = 0 ∨ v = 2
def q_bf (v : Int32) : Prop := v = 0 ∨ v = 3
def q_sm (b l ob ol : Int32) : Prop := ¬ ob + ol ≤ b ∧ ¬ b + l ≤ ob
def q_sl (b l ob ol : Int32) : Prop := ¬ b < ob ∧ ¬ ob + ol < b + l
def q_gd (a l m : Int32) : Prop := ¬ a < m ∧ ¬ l - 1 - m < a
def q_dig (v : Int32) : Prop := ¬ v < 48 ∧ ¬ 57 < v
def q_anchor (C : aF) (v : Int32) : Prop := ¬ v < 0 ∧ ¬ gG C 4 ≤ v
def q_hint (C : aF) (v : Int32) : Prop := ¬ v < 0 ∧ ¬ gG C 5 ≤ v
def q_open (C : aF) (h : Int32) : Prop := ¬ gH C h 8 = 0
def q_am (C : aF) (a x y w h : Int32) : Prop := q_sm (gA C a 0) (gA C a 2) x w ∧ q_sm (gA C a 1) (gA C a 3) y h
def q_as (C : aF) (a : Int32) : Prop := q_am C a (gG C 0) (gG C 1) (gG C 2) (gG C 3)
def q_gb (C : aF) (h o : Int32) : Prop := (¬ gH C h 7 = gH C o 7 ∧ ¬ gH C h 7 ≤ gH C o 7) ∨ (gH C h 7 = gH C o 7 ∧ ¬ gH C o 8 ≤ gH C h 8)
def q_cm (C : aF) (x y : Int32) : Prop := q_in (gG C 0 + x) 2000 ∧ q_in (gG C 1 + y) 2000
def v_fd (x y : Int32) : Int32 := if 0 ≤ x ^^^ y then x / y else if x / y * y = x then x / y else x / y - 1
def v_max (x y : Int32) : Int32 := if x < y then y else x
def v_min (x y : Int32) : Int32 := if y < x then y else x
def v_beg (C : aF) (h x w hw : Int32) : Int32 := if gH C h 4 = 0 then gA C (gH C h 0) x else if gH C h 4 = 1 then gA C (gH C h 0) x + v_fd (gA C (gH C h 0) w - gH C h hw) 2 else gA C (gH C h 0) x + (gA C (gH C h 0) w - gH C h hw)
def v_mid (C : aF) (h x w : Int32) : Int32 := gA C (gH C h 0) x + v_fd (gA C (gH C h 0) w) 2
noncomputable def v_shi (vb vl b l a m : Int32) : Int32 := if ¬ l ≤ vl then 0 else iif (q_gd a l m) (v_min (v_max 0 (vb - b)) (a - m) - v_min (v_max 0 (b + l - vb - vl)) (l - 1 - m - a)) (v_max 0 (vb - b) - v_max 0 (b + l - vb - vl))
noncomputable def v_edge (C : aF) (a s : Int32) : Int32 := iif (q_bf s) (gA C a (iif (q_lv s) 1 0) - gS C 0) (gA C a (iif (q_lv s) 1 0) + gA C a (iif (q_lv s) 3 2) + gS C 0)
def v_hs (w : Int32) : Int32 := if w = 0 then 30 else if w = 1 then 20 else if w = 2 then 6 else 1
def v_lv (w : Int32) : Int32 := if w = 1 then 1 else if w = 2 then 1 else 0
def v_hv (C : aF) (w : Int32) : Int32 := if w = 0 then gG C 4 - 1 else if w = 1 then 200 else if w = 2 then 200 else if w = 3 then 3 else if w = 4 then 2 else if w = 5 then 2 else if w = 6 then 1 else 9
theorem C_put_3 {C : aF} {Hs : tH} {Sw : tS} {T1 : tT} {P1 : tP} {Od : tO} {T2 : tT} {P2 : tP} {i v : Int32} : mCt k_X3_put [.ref 2, .int i, .int v] (cH C Hs Sw T1 P1 Od T2 P2) none (cH (rp 172 C i v) Hs Sw T1 P1 Od T2 P2) := C_X3_put (h := (cH C Hs Sw T1 P1 Od T2 P2)) (id := 2) (a := 3) rfl rfl (Nat.le_of_ble_eq_true rfl)
theorem C_put_6 {C : aF} {Hs : tH} {Sw : tS} {T1 : tT} {P1 : tP} {Od : tO} {T2 : tT} {P2 : tP} {i v : Int32} : mCt k_X3_put [.ref 5, .int i, .int v] (cH C Hs Sw T1 P1 Od T2 P2) none (cH C (rp 860 Hs.1 i v, Hs.2) Sw T1 P1 Od T2 P2) := C_X3_put (h := (cH C Hs Sw T1 P1 Od T2 P2)) (id := 5) (a := 6) rfl rfl (Nat.le_of_ble_eq_true rfl)
theorem C_put_9 {C : aF} {Hs : tH} {Sw : tS} {T1 : tT} {P1 : tP} {Od : tO} {T2 : tT} {P2 : tP} {i v : Int32} : mCt k_X3_put [.ref 8, .int i, .int v] (cH C Hs Sw T1 P1 Od T2 P2) none (cH C Hs (rp 12 Sw.1 i v, Sw.2) T1 P1 Od T2 P2) := C_X3_put (h := (cH C Hs Sw T1 P1 Od T2 P2)) (id := 8) (a := 9) rfl rfl (Nat.le_of_ble_eq_true rfl)
theorem C_put_11 {C : aF} {Hs : tH} {Sw : tS} {T1 : tT} {P1 : tP} {Od : tO} {T2 : tT} {P2 : tP} {i v : Int32} : mCt k_X3_put [.ref 10, .int i, .int v] (cH C Hs Sw T1 P1 Od T2 P2) none (cH C Hs (Sw.1, rp 12 Sw.2.1 i v, Sw.2.2) T1 P1 Od T2 P2) := C_X3_put (h := (cH C Hs Sw T1 P1 Od T2 P2)) (id := 10) (a := 11) rfl rfl (Nat.le_of_ble_eq_true rfl)
theorem C_put_13 {C : aF} {Hs : tH} {Sw : tS} {T1 : tT} {P1 : tP} {Od : tO} {T2 : tT} {P2 : tP} {i v : Int32} : mCt k_X3_put [.ref 12, .int i, .int v] (cH C Hs Sw T1 P1 Od T2 P2) none (cH C Hs (Sw.1, Sw.2.1, rp 12 Sw.2.2.1 i v, Sw.2.2.2) T1 P1 Od T2 P2) := C_X3_put (h := (cH C Hs Sw T1 P1 Od T2 P2)) (id := 12) (a := 13) rfl rfl (Nat.le_of_ble_eq_true rfl)
theorem C_put_15 {C : aF} {Hs : tH} {Sw : tS} {T1 : tT} {P1 : tP} {Od : tO} {T2 : tT} {P2 : tP} {i v : Int32} : mCt k_X3_put [.ref 14, .int i, .int v] (cH C Hs Sw T1 P1 Od T2 P2) none (cH C Hs (Sw.1, Sw.2.1, Sw.2.2.1, rp 12 Sw.2.2.2.1 i v, Sw.2.2.2.2) T1 P1 Od T2 P2) := C_X3_put (h := (cH C Hs Sw T1 P1 Od T2 P2)) (id := 14) (a := 15) rfl rfl (Nat.le_of_ble_eq_true rfl)
theorem C_put_17 {C : aF} {Hs : tH} {Sw : tS} {T1 : tT} {P1 : tP} {Od : tO} {T2 : tT} {P2 : tP} {i v : Int32} : mCt k_X3_put [.ref 16, .int i, .int v] (cH C Hs Sw T1 P1 Od T2 P2) none (cH C Hs (Sw.1, Sw.2.1, Sw.2.2.1, Sw.2.2.2.1, rp 12 Sw.2.2.2.2.1 i v, Sw.2.2.2.2.2) T1 P1 Od T2 P2) := C_X3_put (h := (cH C Hs Sw T1 P1 Od T2 P2)) (id := 16) (a := 17) rfl rfl (Nat.le_of_ble_eq_true rfl)
theorem C_put_20 {C : aF} {Hs : tH} {Sw : tS} {T1 : tT} {P1 : tP} {Od : tO} {T2 : tT} {P2 : tP} {i v : Int32} : mCt k_X3_put [.ref 19, .int i, .int v] (cH C Hs Sw T1 P1 Od T2 P2) none (cH C Hs Sw (rp 4 T1.1 i v, T1.2) P1 Od T2 P2) := C_X3_put (h := (cH C Hs Sw T1 P1 Od T2 P2)) (id := 19) (a := 20) rfl rfl (Nat.le_of_ble_eq_true rfl)
theorem C_put_24 {C : aF} {Hs : tH} {Sw : tS} {T1 : tT} {P1 : tP} {Od : tO} {T2 : tT} {P2 : tP} {i v : Int32} : mCt k_X3_put [.ref 23, .int i, .int v] (cH C Hs Sw T1 P1 Od T2 P2) none (cH C Hs Sw T1 P1 (rp 60 Od.1 i v, Od.2) T2 P2) := C_X3_put (h := (cH C Hs Sw T1 P1 Od T2 P2)) (id := 23) (a := 24) rfl rfl (Nat.le_of_ble_eq_true rfl)
theorem C_put_27 {C : aF} {Hs : tH} {Sw : tS} {T1 : tT} {P1 : tP} {Od : tO} {T2 : tT} {P2 : tP} {i v : Int32} : mCt k_X3_put [.ref 26, .int i, .int v] (cH C Hs Sw T1 P1 Od T2 P2) none (cH C Hs Sw T1 P1 Od (rp 4 T2.1 i v, T2.2) P2) := C_X3_put (h := (cH C Hs Sw T1 P1 Od T2 P2)) (id := 26) (a := 27) rfl rfl (Nat.le_of_ble_eq_true rfl)
set_option maxHeartbeats 4000000 in
set_option maxRecDepth 100000 in
theorem C_X7_isWithin {C : aF} {Hs : tH} {Sw : tS} {T1 : tT} {P1 : tP} {Od : tO} {T2 : tT} {P2 : tP} {f v : Int32} : mCt k_X7_isWithin [.int v, .int f] (cH C Hs Sw T1 P1 Od T2 P2) (some (.int (b2i (q_in v f)))) (cH C Hs Sw T1 P1 Od T2 P2) := by
  refine mCt_intro (plainFor_of_name rfl) (Nat.le_of_ble_eq_true rfl) (m_all rfl) (ls := [_, _]) rfl ?_
  refine mJ_iload_n dX7_isWithin_0 rfl ?_
  refine mJ_iload_n dX7_isWithin_1 rfl ?_
  refine mJ_ineg dX7_isWithin_2 ?_
  refine mJ_icmp_lt 15 dX7_isWithin_3 rfl (fun c_3 => ?_) (fun c_3 => ?_)
  · refine mJ_iconst (v := 0) dX7_isWithin_15 rfl ?_
    exact mJ_zret dX7_isWithin_16 rfl (Or.inl rfl) (by first | exact z_t (by simp_all [q_in]) | exact z_f (by simp_all [q_in])) (rfl)
  · refine mJ_iload_n dX7_isWithin_6 rfl ?_
    refine mJ_iload_n dX7_isWithin_7 rfl ?_
    refine mJ_icmp_gt 15 dX7_isWithin_8 rfl (fun c_8 => ?_) (fun c_8 => ?_)
    · refine mJ_iconst (v := 0) dX7_isWithin_15 rfl ?_
      exact mJ_zret dX7_isWithin_16 rfl (Or.inl rfl) (by first | exact z_t (by simp_all [q_in]) | exact z_f (by simp_all [q_in])) (rfl)
    · refine mJ_iconst (v := 1) dX7_isWithin_11 rfl ?_
      refine mJ_goto 16 dX7_isWithin_12 rfl ?_
      exact mJ_zret dX7_isWithin_16 rfl (Or.inr rfl) (by first | exact z_t (by simp_all [q_in]) | exact z_f (by simp_all [q_in])) (rfl)
set_option maxHeartbeats 4000000 in
set_option maxRecDepth 100000 in
theorem C_X7_isSize {C : aF} {Hs : tH} {Sw : tS} {T1 : tT} {P1 : tP} {Od : tO} {T2 : tT} {P2 : tP} {v : Int32} : mCt k_X7_isSize [.int v] (cH C Hs Sw T1 P1 Od T2 P2) (some (.int (b2i (q_size v)))) (cH C Hs Sw T1 P1 Od T2 P2) := by
  refine mCt_intro (plainFor_of_name rfl) (Nat.le_of_ble_eq_true rfl) (m_all rfl) (ls := [_]) rfl ?_
  refine mJ_iload_n dX7_isSize_0 rfl ?_
  refine mJ_iconst (v := 1) dX7_isSize_1 rfl ?_
  refine mJ_icmp_lt 16 dX7_isSize_2 rfl (fun c_2 => ?_) (fun c_2 => ?_)
  · refine mJ_iconst (v := 0) dX7_isSize_16 rfl ?_
    exact mJ_zret dX7_isSize_17 rfl (Or.inl rfl) (by first | exact z_t (by simp_all [q_size]) | exact z_f (by simp_all [q_size])) (rfl)
  · refine mJ_iload_n dX7_isSize_5 rfl ?_
    refine mJ_sipush (v := 200) dX7_isSize_6 rfl ?_
    refine mJ_icmp_gt 16 dX7_isSize_9 rfl (fun c_9 => ?_) (fun c_9 => ?_)
    · refine mJ_iconst (v := 0) dX7_isSize_16 rfl ?_
      exact mJ_zret dX7_isSize_17 rfl (Or.inl rfl) (by first | exact z_t (by simp_all [q_size]) | exact z_f (by simp_all [q_size])) (rfl)
    · refine mJ_iconst (v := 1) dX7_isSize_12 rfl ?_
      refine mJ_goto 17 dX7_isSize_13 rfl ?_
      exact mJ_zret dX7_isSize_17 rfl (Or.inr rfl) (by first | exact z_t (by simp_all [q_size]) | exact z_f (by simp_all [q_size])) (rfl)
set_option maxHeartbeats 4000000 in
set_option maxRecDepth 100000 in
theorem C_X7_isViewSize {C : aF} {Hs : tH} {Sw : tS} {T1 : tT} {P1 : tP} {Od : tO} {T2 : tT} {P2 : tP} {v : Int32} : mCt k_X7_isViewSize [.int v] (cH C Hs Sw T1 P1 Od T2 P2) (some (.int (b2i (q_view v)))) (cH C Hs Sw T1 P1 Od T2 P2) := by
  refine mCt_intro (plainFor_of_name rfl) (Nat.le_of_ble_eq_true rfl) (m_all rfl) (ls := [_]) rfl ?_
  refine mJ_iload_n dX7_isViewSize_0 rfl ?_
  refine mJ_bipush (v := 20) dX7_isViewSize_1 rfl ?_
  refine mJ_icmp_lt 17 dX7_isViewSize_3 rfl (fun c_3 => ?_) (fun c_3 => ?_)
  · refine mJ_iconst (v := 0) dX7_isViewSize_17 rfl ?_
    exact mJ_zret dX7_isViewSize_18 rfl (Or.inl rfl) (by first | exact z_t (by simp_all [q_view]) | exact z_f (by simp_all [q_view])) (rfl)
  · refine mJ_iload_n dX7_isViewSize_6 rfl ?_
    refine mJ_sipush (v := 400) dX7_isViewSize_7 rfl ?_
    refine mJ_icmp_gt 17 dX7_isViewSize_10 rfl (fun c_10 => ?_) (fun c_10 => ?_)
    · refine mJ_iconst (v := 0) dX7_isViewSize_17 rfl ?_
      exact mJ_zret dX7_isViewSize_18 rfl (Or.inl rfl) (by first | exact z_t (by simp_all [q_view]) | exact z_f (by simp_all [q_view])) (rfl)
    · refine mJ_iconst (v := 1) dX7_isViewSize_13 rfl ?_
      refine mJ_goto 18 dX7_isViewSize_14 rfl ?_
      exact mJ_zret dX7_isViewSize_18 rfl (Or.inr rfl) (by first | exact z_t (by simp_all [q_view]) | exact z_f (by simp_all [q_view])) (rfl)
set_option maxHeartbeats 4000000 in
set_option maxRecDepth 100000 in
theorem C_X7_isSide {C : aF} {Hs : tH} {Sw : tS} {T1 : tT} {P1 : tP} {Od : tO} {T2 : tT} {P2 : tP} {v : Int32} : mCt k_X7_isSide [.int v] (cH C Hs Sw T1 P1 Od T2 P2) (some (.int (b2i (q_side v)))) (cH C Hs Sw T1 P1 Od T2 P2) := by
  refine mCt_intro (plainFor_of_name rfl) (Nat.le_of_ble_eq_true rfl) (m_all rfl) (ls := [_]) rfl ?_
  refine mJ_iload_n dX7_isSide_0 rfl ?_
  refine mJ_if_lt 13 dX7_isSide_1 rfl (fun c_1 => ?_) (fun c_1 => ?_)
  · refine mJ_iconst (v := 0) dX7_isSide_13 rfl ?_
    exact mJ_zret dX7_isSide_14 rfl (Or.inl rfl) (by first | exact z_t (by simp_all [q_side]) | exact z_f (by simp_all [q_side])) (rfl)
  · refine mJ_iload_n dX7_isSide_4 rfl ?_
    refine mJ_iconst (v := 4) dX7_isSide_5 rfl ?_
    refine mJ_icmp_ge 13 dX7_isSide_6 rfl (fun c_6 => ?_) (fun c_6 => ?_)
    · refine mJ_iconst (v := 0) dX7_isSide_13 rfl ?_
      exact mJ_zret dX7_isSide_14 rfl (Or.inl rfl) (by first | exact z_t (by simp_all [q_side]) | exact z_f (by simp_all [q_side])) (rfl)
    · refine mJ_iconst (v := 1) dX7_isSide_9 rfl ?_
      refine mJ_goto 14 dX7_isSide_10 rfl ?_
      exact mJ_zret dX7_isSide_14 rfl (Or.inr rfl) (by first | exact z_t (by simp_all [q_side]) | exact z_f (by simp_all [q_side])) (rfl)
set_option maxHeartbeats 4000000 in
set_option maxRecDepth 100000 in
theorem C_X7_isLevel {C : aF} {Hs : tH} {Sw : tS} {T1 : tT} {P1 : tP} {Od : tO} {T2 : tT} {P2 : tP} {v : Int32} : mCt k_X7_isLevel [.int v] (cH C Hs Sw T1 P1 Od T2 P2) (some (.int (b2i (q_lv v)))) (cH C Hs Sw T1 P1 Od T2 P2) := by
  refine mCt_intro (plainFor_of_name rfl) (Nat.le_of_ble_eq_true rfl) (m_all rfl) (ls := [_]) rfl ?_
  refine mJ_iload_n dX7_isLevel_0 rfl ?_
  refine mJ_if_eq 9 dX7_isLevel_1 rfl (fun c_1 => ?_) (fun c_1 => ?_)
  · refine mJ_iconst (v := 1) dX7_isLevel_9 rfl ?_
    refine mJ_goto 14 dX7_isLevel_10 rfl ?_
    exact mJ_zret dX7_isLevel_14 rfl (Or.inr rfl) (by first | exact z_t (by simp_all [q_lv]) | exact z_f (by simp_all [q_lv])) (rfl)
  · refine mJ_iload_n dX7_isLevel_4 rfl ?_
    refine mJ_iconst (v := 2) dX7_isLevel_5 rfl ?_
    refine mJ_icmp_ne 13 dX7_isLevel_6 rfl (fun c_6 => ?_) (fun c_6 => ?_)
    · refine mJ_iconst (v := 0) dX7_isLevel_13 rfl ?_
      exact mJ_zret dX7_isLevel_14 rfl (Or.inl rfl) (by first | exact z_t (by simp_all [q_lv]) | exact z_f (by simp_all [q_lv])) (rfl)
    · refine mJ_iconst (v := 1) dX7_isLevel_9 rfl ?_
      refine mJ_goto 14 dX7_isLevel_10 rfl ?_
      exact mJ_zret dX7_isLevel_14 rfl (Or.inr rfl) (by first | exact z_t (by simp_all [q_lv]) | exact z_f (by simp_all [q_lv])) (rfl)
set_option maxHeartbeats 4000000 in
set_option maxRecDepth 100000 in
theorem C_X7_isBefore {C : aF} {Hs : tH} {Sw : tS} {T1 : tT} {P1 : tP} {Od : tO} {T2 : tT} {P2 : tP} {v : Int32} : mCt k_X7_isBefore [.int v] (cH C Hs Sw T1 P1 Od T2 P2) (some (.int (b2i (q_bf v)))) (cH C Hs Sw T1 P1 Od T2 P2) := by
  refine mCt_intro (plainFor_of_name rfl) (Nat.le_of_ble_eq_true rfl) (m_all rfl) (ls := [_]) rfl ?_
  refine mJ_iload_n dX7_isBefore_0 rfl ?_
  refine mJ_if_eq 9 dX7_isBefore_1 rfl (fun c_1 => ?_) (fun c_1 => ?_)
  · refine mJ_iconst (v := 1) dX7_isBefore_9 rfl ?_
    refine mJ_goto 14 dX7_isBefore_10 rfl ?_
    exact mJ_zret dX7_isBefore_14 rfl (Or.inr rfl) (by first | exact z_t (by simp_all [q_bf]) | exact z_f (by simp_all [q_bf])) (rfl)
  · refine mJ_iload_n dX7_isBefore_4 rfl ?_
    refine mJ_iconst (v := 3) dX7_isBefore_5 rfl ?_
    refine mJ_icmp_ne 13 dX7_isBefore_6 rfl (fun c_6 => ?_) (fun c_6 => ?_)
    · refine mJ_iconst (v := 0) dX7_isBefore_13 rfl ?_
      exact mJ_zret dX7_isBefore_14 rfl (Or.inl rfl) (by first | exact z_t (by simp_all [q_bf]) | exact z_f (by simp_all [q_bf])) (rfl)
    · refine mJ_iconst (v := 1) dX7_isBefore_9 rfl ?_
      refine mJ_goto 14 dX7_isBefore_10 rfl ?_
      exact mJ_zret dX7_isBefore_14 rfl (Or.inr rfl) (by first | exact z_t (by simp_all [q_bf]) | exact z_f (by simp_all [q_bf])) (rfl)
set_option maxHeartbeats 4000000 in
set_option maxRecDepth 100000 in
theorem C_X7_spansMeet {C : aF} {Hs : tH} {Sw : tS} {T1 : tT} {P1 : tP} {Od : tO} {T2 : tT} {P2 : tP} {b l ob ol : Int32} : mCt k_X7_spansMeet [.int b, .int l, .int ob, .int ol] (cH C Hs Sw T1 P1 Od T2 P2) (some (.int (b2i (q_sm b l ob ol)))) (cH C Hs Sw T1 P1 Od T2 P2) := by
  refine mCt_intro (plainFor_of_name rfl) (Nat.le_of_ble_eq_true rfl) (m_all rfl) (ls := [_, _, _, _]) rfl ?_
  refine mJ_iload_n dX7_spansMeet_0 rfl ?_
  refine mJ_iload_n dX7_spansMeet_1 rfl ?_
  refine mJ_iload_n dX7_spansMeet_2 rfl ?_
  refine mJ_iadd dX7_spansMeet_3 ?_
  refine mJ_icmp_ge 18 dX7_spansMeet_4 rfl (fun c_4 => ?_) (fun c_4 => ?_)
  · refine mJ_iconst (v := 0) dX7_spansMeet_18 rfl ?_
    exact mJ_zret dX7_spansMeet_19 rfl (Or.inl rfl) (by first | exact z_t (by simp_all [q_sm]) | exact z_f (by simp_all [q_sm])) (rfl)
  · refine mJ_iload_n dX7_spansMeet_7 rfl ?_
    refine mJ_iload_n dX7_spansMeet_8 rfl ?_
    refine mJ_iload_n dX7_spansMeet_9 rfl ?_
    refine mJ_iadd dX7_spansMeet_10 ?_
    refine mJ_icmp_ge 18 dX7_spansMeet_11 rfl (fun c_11 => ?_) (fun c_11 => ?_)
    · refine mJ_iconst (v := 0) dX7_spansMeet_18 rfl ?_
      exact mJ_zret dX7_spansMeet_19 rfl (Or.inl rfl) (by first | exact z_t (by simp_all [q_sm]) | exact z_f (by simp_all [q_sm])) (rfl)
    · refine mJ_iconst (v := 1) dX7_spansMeet_14 rfl ?_
      refine mJ_goto 19 dX7_spansMeet_15 rfl ?_
      exact mJ_zret dX7_spansMeet_19 rfl (Or.inr rfl) (by first | exact z_t (by simp_all [q_sm]) | exact z_f (by simp_all [q_sm])) (rfl)
set_option maxHeartbeats 4000000 in
set_option maxRecDepth 100000 in
theorem C_X7_spanLiesIn {C : aF} {Hs : tH} {Sw : tS} {T1 : tT} {P1 : tP} {Od : tO} {T2 : tT} {P2 : tP} {b l ob ol : Int32} : mCt k_X7_spanLiesIn [.int b, .int l, .int ob, .int ol] (cH C Hs Sw T1 P1 Od T2 P2) (some (.int (b2i (q_sl b l ob ol)))) (cH C Hs Sw T1 P1 Od T2 P2) := by
  refine mCt_intro (plainFor_of_name rfl) (Nat.le_of_ble_eq_true rfl) (m_all rfl) (ls := [_, _, _, _]) rfl ?_
  refine mJ_iload_n dX7_spanLiesIn_0 rfl ?_
  refine mJ_iload_n dX7_spanLiesIn_1 rfl ?_
  refine mJ_icmp_lt 18 dX7_spanLiesIn_2 rfl (fun c_2 => ?_) (fun c_2 => ?_)
  · refine mJ_iconst (v := 0) dX7_spanLiesIn_18 rfl ?_
    exact mJ_zret dX7_spanLiesIn_19 rfl (Or.inl rfl) (by first | exact z_t (by simp_all [q_sl]) | exact z_f (by simp_all [q_sl])) (rfl)
  · refine mJ_iload_n dX7_spanLiesIn_5 rfl ?_
    refine mJ_iload_n dX7_spanLiesIn_6 rfl ?_
    refine mJ_iadd dX7_spanLiesIn_7 ?_
    refine mJ_iload_n dX7_spanLiesIn_8 rfl ?_
    refine mJ_iload_n dX7_spanLiesIn_9 rfl ?_
    refine mJ_iadd dX7_spanLiesIn_10 ?_
    refine mJ_icmp_gt 18 dX7_spanLiesIn_11 rfl (fun c_11 => ?_) (fun c_11 => ?_)
    · refine mJ_iconst (v := 0) dX7_spanLiesIn_18 rfl ?_
      exact mJ_zret dX7_spanLiesIn_19 rfl (Or.inl rfl) (by first | exact z_t (by simp_all [q_sl]) | exact z_f (by simp_all [q_sl])) (rfl)
    · refine mJ_iconst (v := 1) dX7_spanLiesIn_14 rfl ?_
      refine mJ_goto 19 dX7_spanLiesIn_15 rfl ?_
      exact mJ_zret dX7_spanLiesIn_19 rfl (Or.inr rfl) (by first | exact z_t (by simp_all [q_sl]) | exact z_f (by simp_all [q_sl])) (rfl)
set_option maxHeartbeats 4000000 in
set_option maxRecDepth 100000 in
theorem C_X2_isGood {C : aF} {Hs : tH} {Sw : tS} {T1 : tT} {P1 : tP} {Od : tO} {T2 : tT} {P2 : tP} {a l m : Int32} : mCt k_X2_isGood [.int a, .int l, .int m] (cH C Hs Sw T1 P1 Od T2 P2) (some (.int (b2i (q_gd a l m)))) (cH C Hs Sw T1 P1 Od T2 P2) := by
  refine mCt_intro (plainFor_of_name rfl) (Nat.le_of_ble_eq_true rfl) (m_all rfl) (ls := [_, _, _]) rfl ?_
  refine mJ_iload_n dX2_isGood_0 rfl ?_
  refine mJ_iload_n dX2_isGood_1 rfl ?_
  refine mJ_icmp_lt 18 dX2_isGood_2 rfl (fun c_2 => ?_) (fun c_2 => ?_)
  · refine mJ_iconst (v := 0) dX2_isGood_18 rfl ?_
    exact mJ_zret dX2_isGood_19 rfl (Or.inl rfl) (by first | exact z_t (by simp_all [q_gd]) | exact z_f (by simp_all [q_gd])) (rfl)
  · refine mJ_iload_n dX2_isGood_5 rfl ?_
    refine mJ_iload_n dX2_isGood_6 rfl ?_
    refine mJ_iconst (v := 1) dX2_isGood_7 rfl ?_
    refine mJ_isub dX2_isGood_8 ?_
    refine mJ_iload_n dX2_isGood_9 rfl ?_
    refine mJ_isub dX2_isGood_10 ?_
    refine mJ_icmp_gt 18 dX2_isGood_11 rfl (fun c_11 => ?_) (fun c_11 => ?_)
    · refine mJ_iconst (v := 0) dX2_isGood_18 rfl ?_
      exact mJ_zret dX2_isGood_19 rfl (Or.inl rfl) (by first | exact z_t (by simp_all [q_gd]) | exact z_f (by simp_all [q_gd])) (rfl)
    · refine mJ_iconst (v := 1) dX2_isGood_14 rfl ?_
      refine mJ_goto 19 dX2_isGood_15 rfl ?_
      exact mJ_zret dX2_isGood_19 rfl (Or.inr rfl) (by first | exact z_t (by simp_all [q_gd]) | exact z_f (by simp_all [q_gd])) (rfl)
set_option maxHeartbeats 4000000 in
set_option maxRecDepth 100000 in
theorem C_X1_isDigit {C : aF} {Hs : tH} {Sw : tS} {T1 : tT} {P1 : tP} {Od : tO} {T2 : tT} {P2 : tP} {v : Int32} : mCt k_X1_isDigit [.int v] (cH C Hs Sw T1 P1 Od T2 P2) (some (.int (b2i (q_dig v)))) (cH C Hs Sw T1 P1 Od T2 P2) := by
  refine mCt_intro (plainFor_of_name rfl) (Nat.le_of_ble_eq_true rfl) (m_all rfl) (ls := [_]) rfl ?_
  refine mJ_iload_n dX1_isDigit_0 rfl ?_
  refine mJ_bipush (v := 48) dX1_isDigit_1 rfl ?_
  refine mJ_icmp_lt 16 dX1_isDigit_3 rfl (fun c_3 => ?_) (fun c_3 => ?_)
  · refine mJ_iconst (v := 0) dX1_isDigit_16 rfl ?_
    exact mJ_zret dX1_isDigit_17 rfl (Or.inl rfl) (by first | exact z_t (by simp_all [q_dig]) | exact z_f (by simp_all [q_dig])) (rfl)
  · refine mJ_iload_n dX1_isDigit_6 rfl ?_
    refine mJ_bipush (v := 57) dX1_isDigit_7 rfl ?_
    refine mJ_icmp_gt 16 dX1_isDigit_9 rfl (fun c_9 => ?_) (fun c_9 => ?_)
    · refine mJ_iconst (v := 0) dX1_isDigit_16 rfl ?_
      exact mJ_zret dX1_isDigit_17 rfl (Or.inl rfl) (by first | exact z_t (by simp_all [q_dig]) | exact z_f (by simp_all [q_dig])) (rfl)
    · refine mJ_iconst (v := 1) dX1_isDigit_12 rfl ?_
      refine mJ_goto 17 dX1_isDigit_13 rfl ?_
      exact mJ_zret dX1_isDigit_17 rfl (Or.inr rfl) (by first | exact z_t (by simp_all [q_dig]) | exact z_f (by simp_all [q_dig])) (rfl)
set_option maxHeartbeats 4000000 in
set_option maxRecDepth 100000 in
theorem C_J9_max_7cf53 {C : aF} {Hs : tH} {Sw : tS} {T1 : tT} {P1 : tP} {Od : tO} {T2 : tT} {P2 : tP} {x y : Int32} : mCt k_J9_max_7cf53 [.int x, .int y] (cH C Hs Sw T1 P1 Od T2 P2) (some (.int (v_max x y))) (cH C Hs Sw T1 P1 Od T2 P2) := by
  refine mCt_intro (by decide +kernel) (Nat.le_of_ble_eq_true rfl) (m_all rfl) (ls := [_, _]) rfl ?_
  refine mJ_iload_n dJ9_max_7cf53_0 rfl ?_
  refine mJ_iload_n dJ9_max_7cf53_1 rfl ?_
  refine mJ_icmp_lt 9 dJ9_max_7cf53_2 rfl (fun c_2 => ?_) (fun c_2 => ?_)
  · refine mJ_iload_n dJ9_max_7cf53_9 rfl ?_
    exact mJ_iret dJ9_max_7cf53_10 rfl (by simp [v_max, *]) (rfl)
  · refine mJ_iload_n dJ9_max_7cf53_5 rfl ?_
    refine mJ_goto 10 dJ9_max_7cf53_6 rfl ?_
    exact mJ_iret dJ9_max_7cf53_10 rfl (by simp [v_max, *]) (rfl)
set_option maxHeartbeats 4000000 in
set_option maxRecDepth 100000 in
theorem C_J9_min_7cf53 {C : aF} {Hs : tH} {Sw : tS} {T1 : tT} {P1 : tP} {Od : tO} {T2 : tT} {P2 : tP} {x y : Int32} : mCt k_J9_min_7cf53 [.int x, .int y] (cH C Hs Sw T1 P1 Od T2 P2) (some (.int (v_min x y))) (cH C Hs Sw T1 P1 Od T2 P2) := by
  refine mCt_intro (by decide +kernel) (Nat.le_of_ble_eq_true rfl) (m_all rfl) (ls := [_, _]) rfl ?_
  refine mJ_iload_n dJ9_min_7cf53_0 rfl ?_
  refine mJ_iload_n dJ9_min_7cf53_1 rfl ?_
  refine mJ_icmp_gt 9 dJ9_min_7cf53_2 rfl (fun c_2 => ?_) (fun c_2 => ?_)
  · refine mJ_iload_n dJ9_min_7cf53_9 rfl ?_
    exact mJ_iret dJ9_min_7cf53_10 rfl (by simp [v_min, *]) (rfl)
  · refine mJ_iload_n dJ9_min_7cf53_5 rfl ?_
    refine mJ_goto 10 dJ9_min_7cf53_6 rfl ?_
    exact mJ_iret dJ9_min_7cf53_10 rfl (by simp [v_min, *]) (rfl)
set_option maxHeartbeats 4000000 in
set_option maxRecDepth 100000 in
theorem C_J9_floorDiv_7cf53 {C : aF} {Hs : tH} {Sw : tS} {T1 : tT} {P1 : tP} {Od : tO} {T2 : tT} {P2 : tP} {x : Int32} : mCt k_J9_floorDiv_7cf53 [.int x, .int 2] (cH C Hs Sw T1 P1 Od T2 P2) (some (.int (v_fd x 2))) (cH C Hs Sw T1 P1 Od T2 P2) := by
  refine mCt_intro (by decide +kernel) (Nat.le_of_ble_eq_true rfl) (m_all rfl) (ls := [_, _, _]) rfl ?_
  refine mJ_iload_n dJ9_floorDiv_7cf53_0 rfl ?_
  refine mJ_iload_n dJ9_floorDiv_7cf53_1 rfl ?_
  refine mJ_idiv dJ9_floorDiv_7cf53_2 (by decide) ?_
  refine mJ_istore_n dJ9_floorDiv_7cf53_3 (Nat.le_of_ble_eq_true rfl) (ls2 := [_, _, _]) rfl ?_
  refine mJ_iload_n dJ9_floorDiv_7cf53_4 rfl ?_
  refine mJ_iload_n dJ9_floorDiv_7cf53_5 rfl ?_
  refine mJ_ixor dJ9_floorDiv_7cf53_6 ?_
  refine mJ_if_ge 21 dJ9_floorDiv_7cf53_7 rfl (fun c_7 => ?_) (fun c_7 => ?_)
  · refine mJ_iload_n dJ9_floorDiv_7cf53_21 rfl ?_
    exact mJ_iret dJ9_floorDiv_7cf53_22 rfl (by simp [v_fd, *]) (rfl)
  · refine mJ_iload_n dJ9_floorDiv_7cf53_10 rfl ?_
    refine mJ_iload_n dJ9_floorDiv_7cf53_11 rfl ?_
    refine mJ_imul dJ9_floorDiv_7cf53_12 ?_
    refine mJ_iload_n dJ9_floorDiv_7cf53_13 rfl ?_
    refine mJ_icmp_eq 21 dJ9_floorDiv_7cf53_14 rfl (fun c_14 => ?_) (fun c_14 => ?_)
    · refine mJ_iload_n dJ9_floorDiv_7cf53_21 rfl ?_
      exact mJ_iret dJ9_floorDiv_7cf53_22 rfl (by simp [v_fd, *]) (rfl)
    · refine mJ_iload_n dJ9_floorDiv_7cf53_17 rfl ?_
      refine mJ_iconst (v := 1) dJ9_floorDiv_7cf53_18 rfl ?_
      refine mJ_isub dJ9_floorDiv_7cf53_19 ?_
      exact mJ_iret dJ9_floorDiv_7cf53_20 rfl (by simp [v_fd, *]) (rfl)
set_option maxHeartbeats 4000000 in
set_option maxRecDepth 100000 in
theorem C_X7_lowestSetting {C : aF} {Hs : tH} {Sw : tS} {T1 : tT} {P1 : tP} {Od : tO} {T2 : tT} {P2 : tP} {w : Int32} : mCt k_X7_lowestSetting [.int w] (cH C Hs Sw T1 P1 Od T2 P2) (some (.int (if w = 2 then 1 else 0))) (cH C Hs Sw T1 P1 Od T2 P2) := by
  refine mCt_intro (plainFor_of_name rfl) (Nat.le_of_ble_eq_true rfl) (m_all rfl) (ls := [_]) rfl ?_
  refine mJ_iload_n dX7_lowestSetting_0 rfl ?_
  refine mJ_iconst (v := 2) dX7_lowestSetting_1 rfl ?_
  refine mJ_icmp_ne 9 dX7_lowestSetting_2 rfl (fun c_2 => ?_) (fun c_2 => ?_)
  · refine mJ_iconst (v := 0) dX7_lowestSetting_9 rfl ?_
    exact mJ_iret dX7_lowestSetting_10 rfl (by simp [*]) (rfl)
  · refine mJ_iconst (v := 1) dX7_lowestSetting_5 rfl ?_
    refine mJ_goto 10 dX7_lowestSetting_6 rfl ?_
    exact mJ_iret dX7_lowestSetting_10 rfl (by simp [*]) (rfl)
set_option maxHeartbeats 4000000 in
set_option maxRecDepth 100000 in
theorem C_X7_highestSetting {C : aF} {Hs : tH} {Sw : tS} {T1 : tT} {P1 : tP} {Od : tO} {T2 : tT} {P2 : tP} {w : Int32} : mCt k_X7_highestSetting [.int w] (cH C Hs Sw T1 P1 Od T2 P2) (some (.int (v_hs w))) (cH C Hs Sw T1 P1 Od T2 P2) := by
  refine mCt_intro (plainFor_of_name rfl) (Nat.le_of_ble_eq_true rfl) (m_all rfl) (ls := [_]) rfl ?_
  refine mJ_iload_n dX7_highestSetting_0 rfl ?_
  refine mJ_case 0 (fun s_1_0 => ?_) (fun s_1_0 => ?_)
  · refine mJ_tin 28 dX7_highestSetting_1 (by decide) (by decide) rfl rfl ?_
    refine mJ_bipush (v := 30) dX7_highestSetting_28 rfl ?_
    exact mJ_iret dX7_highestSetting_30 rfl (by simp [v_hs, *]) (rfl)
  refine mJ_case 1 (fun s_1_1 => ?_) (fun s_1_1 => ?_)
  · refine mJ_tin 31 dX7_highestSetting_1 (by decide) (by decide) rfl rfl ?_
    refine mJ_bipush (v := 20) dX7_highestSetting_31 rfl ?_
    exact mJ_iret dX7_highestSetting_33 rfl (by simp [v_hs, *]) (rfl)
  refine mJ_case 2 (fun s_1_2 => ?_) (fun s_1_2 => ?_)
  · refine mJ_tin 34 dX7_highestSetting_1 (by decide) (by decide) rfl rfl ?_
    refine mJ_bipush (v := 6) dX7_highestSetting_34 rfl ?_
    exact mJ_iret dX7_highestSetting_36 rfl (by simp [v_hs, *]) (rfl)
  refine mJ_tout 37 dX7_highestSetting_1 (m_out (fun z z1 z2 z3 => ?_)) rfl ?_
  · rcases (show z = 0 ∨ z = 1 ∨ z = 2 by omega) with rfl | rfl | rfl
    · exact s_1_0 (Int32.toInt_inj.mp z3)
    · exact s_1_1 (Int32.toInt_inj.mp z3)
    · exact s_1_2 (Int32.toInt_inj.mp z3)
  · refine mJ_iconst (v := 1) dX7_highestSetting_37 rfl ?_
    exact mJ_iret dX7_highestSetting_38 rfl (by simp [v_hs, *]) (rfl)
set_option maxHeartbeats 4000000 in
set_option maxRecDepth 100000 in
theorem C_X7_lowestValue {C : aF} {Hs : tH} {Sw : tS} {T1 : tT} {P1 : tP} {Od : tO} {T2 : tT} {P2 : tP} {w : Int32} : mCt k_X7_lowestValue [.int w] (cH C Hs Sw T1 P1 Od T2 P2) (some (.int (v_lv w))) (cH C Hs Sw T1 P1 Od T2 P2) := by
  refine mCt_intro (plainFor_of_name rfl) (Nat.le_of_ble_eq_true rfl) (m_all rfl) (ls := [_]) rfl ?_
  refine mJ_iload_n dX7_lowestValue_0 rfl ?_
  refine mJ_iconst (v := 1) dX7_lowestValue_1 rfl ?_
  refine mJ_icmp_eq 10 dX7_lowestValue_2 rfl (fun c_2 => ?_) (fun c_2 => ?_)
  · refine mJ_iconst (v := 1) dX7_lowestValue_10 rfl ?_
    refine mJ_goto 15 dX7_lowestValue_11 rfl ?_
    exact mJ_iret dX7_lowestValue_15 rfl (by simp [v_lv, *]) (rfl)
  · refine mJ_iload_n dX7_lowestValue_5 rfl ?_
    refine mJ_iconst (v := 2) dX7_lowestValue_6 rfl ?_
    refine mJ_icmp_ne 14 dX7_lowestValue_7 rfl (fun c_7 => ?_) (fun c_7 => ?_)
    · refine mJ_iconst (v := 0) dX7_lowestValue_14 rfl ?_
      exact mJ_iret dX7_lowestValue_15 rfl (by simp [v_lv, *]) (rfl)
    · refine mJ_iconst (v := 1) dX7_lowestValue_10 rfl ?_
      refine mJ_goto 15 dX7_lowestValue_11 rfl ?_
      exact mJ_iret dX7_lowestValue_15 rfl (by simp [v_lv, *]) (rfl)
set_option maxHeartbeats 4000000 in
set_option maxRecDepth 100000 in
theorem C_X5_get {C : aF} {Hs : tH} {Sw : tS} {T1 : tT} {P1 : tP} {Od : tO} {T2 : tT} {P2 : tP} {i : Int32} : mCt k_X5_get [.ref 1, .int i] (cH C Hs Sw T1 P1 Od T2 P2) (some (.int (gG C i))) (cH C Hs Sw T1 P1 Od T2 P2) := by
  refine mCt_intro (plainFor_of_name rfl) (Nat.le_of_ble_eq_true rfl) (m_all rfl) (ls := [_, _]) rfl ?_
  refine mJ_aload_n dX5_get_0 rfl ?_
  refine mJ_get dX5_get_1 f_X5_14 rfl rfl ?_
  refine mJ_iload_n dX5_get_4 rfl ?_
  refine mJ_cV1i dX5_get_5 e_X3_get n_X5_24 ⟨Nat.le_of_ble_eq_true rfl, Nat.le_of_ble_eq_true rfl⟩ rfl rfl (Nat.le_of_ble_eq_true rfl) (C_X3_get rfl rfl (Nat.le_of_ble_eq_true rfl)) ?_
  exact mJ_iret dX5_get_8 rfl (rfl) (rfl)
set_option maxHeartbeats 4000000 in
set_option maxRecDepth 100000 in
theorem C_X5_put {C : aF} {Hs : tH} {Sw : tS} {T1 : tT} {P1 : tP} {Od : tO} {T2 : tT} {P2 : tP} {i v : Int32} : mCt k_X5_put [.ref 1, .int i, .int v] (cH C Hs Sw T1 P1 Od T2 P2) none (cH (sP C i v) Hs Sw T1 P1 Od T2 P2) := by
  refine mCt_intro (plainFor_of_name rfl) (Nat.le_of_ble_eq_true rfl) (m_all rfl) (ls := [_, _, _]) rfl ?_
  refine mJ_aload_n dX5_put_0 rfl ?_
  refine mJ_get dX5_put_1 f_X5_14 rfl rfl ?_
  refine mJ_iload_n dX5_put_4 rfl ?_
  refine mJ_iload_n dX5_put_5 rfl ?_
  refine mJ_cV2v dX5_put_6 e_X3_put n_X5_20 ⟨Nat.le_of_ble_eq_true rfl, Nat.le_of_ble_eq_true rfl⟩ rfl rfl (Nat.le_of_ble_eq_true rfl) (C_put_3) ?_
  exact mJ_vret dX5_put_9 rfl (rfl) (rfl)
set_option maxHeartbeats 4000000 in
set_option maxRecDepth 100000 in
theorem C_X5_setting {C : aF} {Hs : tH} {Sw : tS} {T1 : tT} {P1 : tP} {Od : tO} {T2 : tT} {P2 : tP} {w : Int32} : mCt k_X5_setting [.ref 1, .int w] (cH C Hs Sw T1 P1 Od T2 P2) (some (.int (gS C w))) (cH C Hs Sw T1 P1 Od T2 P2) := by
  refine mCt_intro (plainFor_of_name rfl) (Nat.le_of_ble_eq_true rfl) (m_all rfl) (ls := [_, _]) rfl ?_
  refine mJ_aload_n dX5_setting_0 rfl ?_
  refine mJ_get dX5_setting_1 f_X5_14 rfl rfl ?_
  refine mJ_bipush (v := 7) dX5_setting_4 rfl ?_
  refine mJ_iload_n dX5_setting_6 rfl ?_
  refine mJ_iadd dX5_setting_7 ?_
  refine mJ_cV1i dX5_setting_8 e_X3_get n_X5_24 ⟨Nat.le_of_ble_eq_true rfl, Nat.le_of_ble_eq_true rfl⟩ rfl rfl (Nat.le_of_ble_eq_true rfl) (C_X3_get rfl rfl (Nat.le_of_ble_eq_true rfl)) ?_
  exact mJ_iret dX5_setting_11 rfl (rfl) (rfl)
set_option maxHeartbeats 4000000 in
set_option maxRecDepth 100000 in
theorem C_X5_anchorValue {C : aF} {Hs : tH} {Sw : tS} {T1 : tT} {P1 : tP} {Od : tO} {T2 : tT} {P2 : tP} {a w : Int32} : mCt k_X5_anchorValue [.ref 1, .int a, .int w] (cH C Hs Sw T1 P1 Od T2 P2) (some (.int (gA C a w))) (cH C Hs Sw T1 P1 Od T2 P2) := by
  refine mCt_intro (plainFor_of_name rfl) (Nat.le_of_ble_eq_true rfl) (m_all rfl) (ls := [_, _, _]) rfl ?_
  refine mJ_aload_n dX5_anchorValue_0 rfl ?_
  refine mJ_get dX5_anchorValue_1 f_X5_14 rfl rfl ?_
  refine mJ_bipush (v := 12) dX5_anchorValue_4 rfl ?_
  refine mJ_iload_n dX5_anchorValue_6 rfl ?_
  refine mJ_iconst (v := 4) dX5_anchorValue_7 rfl ?_
  refine mJ_imul dX5_anchorValue_8 ?_
  refine mJ_iadd dX5_anchorValue_9 ?_
  refine mJ_iload_n dX5_anchorValue_10 rfl ?_
  refine mJ_iadd dX5_anchorValue_11 ?_
  refine mJ_cV1i dX5_anchorValue_12 e_X3_get n_X5_24 ⟨Nat.le_of_ble_eq_true rfl, Nat.le_of_ble_eq_true rfl⟩ rfl rfl (Nat.le_of_ble_eq_true rfl) (C_X3_get rfl rfl (Nat.le_of_ble_eq_true rfl)) ?_
  exact mJ_iret dX5_anchorValue_15 rfl (rfl) (rfl)
set_option maxHeartbeats 4000000 in
set_option maxRecDepth 100000 in
theorem C_X5_hintValue {C : aF} {Hs : tH} {Sw : tS} {T1 : tT} {P1 : tP} {Od : tO} {T2 : tT} {P2 : tP} {h w : Int32} : mCt k_X5_hintValue [.ref 1, .int h, .int w] (cH C Hs Sw T1 P1 Od T2 P2) (some (.int (gH C h w))) (cH C Hs Sw T1 P1 Od T2 P2) := by
  refine mCt_intro (plainFor_of_name rfl) (Nat.le_of_ble_eq_true rfl) (m_all rfl) (ls := [_, _, _]) rfl ?_
  refine mJ_aload_n dX5_hintValue_0 rfl ?_
  refine mJ_get dX5_hintValue_1 f_X5_14 rfl rfl ?_
  refine mJ_bipush (v := 52) dX5_hintValue_4 rfl ?_
  refine mJ_iload_n dX5_hintValue_6 rfl ?_
  refine mJ_bipush (v := 10) dX5_hintValue_7 rfl ?_
  refine mJ_imul dX5_hintValue_9 ?_
  refine mJ_iadd dX5_hintValue_10 ?_
  refine mJ_iload_n dX5_hintValue_11 rfl ?_
  refine mJ_iadd dX5_hintValue_12 ?_
  refine mJ_cV1i dX5_hintValue_13 e_X3_get n_X5_24 ⟨Nat.le_of_ble_eq_true rfl, Nat.le_of_ble_eq_true rfl⟩ rfl rfl (Nat.le_of_ble_eq_true rfl) (C_X3_get rfl rfl (Nat.le_of_ble_eq_true rfl)) ?_
  exact mJ_iret dX5_hintValue_16 rfl (rfl) (rfl)
set_option maxHeartbeats 4000000 in
set_option maxRecDepth 100000 in
theorem C_X5_putAnchorValue {C : aF} {Hs : tH} {Sw : tS} {T1 : tT} {P1 : tP} {Od : tO} {T2 : tT} {P2 : tP} {a v w : Int32} : mCt k_X5_putAnchorValue [.ref 1, .int a, .int w, .int v] (cH C Hs Sw T1 P1 Od T2 P2) none (cH (sA C a w v) Hs Sw T1 P1 Od T2 P2) := by
  refine mCt_intro (plainFor_of_name rfl) (Nat.le_of_ble_eq_true rfl) (m_all rfl) (ls := [_, _, _, _]) rfl ?_
  refine mJ_aload_n dX5_putAnchorValue_0 rfl ?_
  refine mJ_get dX5_putAnchorValue_1 f_X5_14 rfl rfl ?_
  refine mJ_bipush (v := 12) dX5_putAnchorValue_4 rfl ?_
  refine mJ_iload_n dX5_putAnchorValue_6 rfl ?_
  refine mJ_iconst (v := 4) dX5_putAnchorValue_7 rfl ?_
  refine mJ_imul dX5_putAnchorValue_8 ?_
  refine mJ_iadd dX5_putAnchorValue_9 ?_
  refine mJ_iload_n dX5_putAnchorValue_10 rfl ?_
  refine mJ_iadd dX5_putAnchorValue_11 ?_
  refine mJ_iload_n dX5_putAnchorValue_12 rfl ?_
  refine mJ_cV2v dX5_putAnchorValue_13 e_X3_put n_X5_20 ⟨Nat.le_of_ble_eq_true rfl, Nat.le_of_ble_eq_true rfl⟩ rfl rfl (Nat.le_of_ble_eq_true rfl) (C_put_3) ?_
  exact mJ_vret dX5_putAnchorValue_16 rfl (rfl) (rfl)
set_option maxHeartbeats 4000000 in
set_option maxRecDepth 100000 in
theorem C_X5_putHintValue {C : aF} {Hs : tH} {Sw : tS} {T1 : tT} {P1 : tP} {Od : tO} {T2 : tT} {P2 : tP} {h v w : Int32} : mCt k_X5_putHintValue [.ref 1, .int h, .int w, .int v] (cH C Hs Sw T1 P1 Od T2 P2) none (cH (sH C h w v) Hs Sw T1 P1 Od T2 P2) := by
  refine mCt_intro (plainFor_of_name rfl) (Nat.le_of_ble_eq_true rfl) (m_all rfl) (ls := [_, _, _, _]) rfl ?_
  refine mJ_aload_n dX5_putHintValue_0 rfl ?_
  refine mJ_get dX5_putHintValue_1 f_X5_14 rfl rfl ?_
  refine mJ_bipush (v := 52) dX5_putHintValue_4 rfl ?_
  refine mJ_iload_n dX5_putHintValue_6 rfl ?_
  refine mJ_bipush (v := 10) dX5_putHintValue_7 rfl ?_
  refine mJ_imul dX5_putHintValue_9 ?_
  refine mJ_iadd dX5_putHintValue_10 ?_
  refine mJ_iload_n dX5_putHintValue_11 rfl ?_
  refine mJ_iadd dX5_putHintValue_12 ?_
  refine mJ_iload_n dX5_putHintValue_13 rfl ?_
  refine mJ_cV2v dX5_putHintValue_14 e_X3_put n_X5_20 ⟨Nat.le_of_ble_eq_true rfl, Nat.le_of_ble_eq_true rfl⟩ rfl rfl (Nat.le_of_ble_eq_true rfl) (C_put_3) ?_
  exact mJ_vret dX5_putHintValue_17 rfl (rfl) (rfl)
set_option maxHeartbeats 4000000 in
set_option maxRecDepth 100000 in
theorem C_X5_isOpen {C : aF} {Hs : tH} {Sw : tS} {T1 : tT} {P1 : tP} {Od : tO} {T2 : tT} {P2 : tP} {h : Int32} : mCt k_X5_isOpen [.ref 1, .int h] (cH C Hs Sw T1 P1 Od T2 P2) (some (.int (b2i (q_open C h)))) (cH C Hs Sw T1 P1 Od T2 P2) := by
  refine mCt_intro (plainFor_of_name rfl) (Nat.le_of_ble_eq_true rfl) (m_all rfl) (ls := [_, _]) rfl ?_
  refine mJ_aload_n dX5_isOpen_0 rfl ?_
  refine mJ_iload_n dX5_isOpen_1 rfl ?_
  refine mJ_bipush (v := 8) dX5_isOpen_2 rfl ?_
  refine mJ_cV2i dX5_isOpen_4 e_X5_hintValue n_X5_28 ⟨Nat.le_of_ble_eq_true rfl, Nat.le_of_ble_eq_true rfl⟩ rfl rfl (Nat.le_of_ble_eq_true rfl) (C_X5_hintValue) ?_
  refine mJ_if_eq 14 dX5_isOpen_7 rfl (fun c_7 => ?_) (fun c_7 => ?_)
  · refine mJ_iconst (v := 0) dX5_isOpen_14 rfl ?_
    exact mJ_zret dX5_isOpen_15 rfl (Or.inl rfl) (by first | exact z_t (by simp_all [q_open]) | exact z_f (by simp_all [q_open])) (rfl)
  · refine mJ_iconst (v := 1) dX5_isOpen_10 rfl ?_
    refine mJ_goto 15 dX5_isOpen_11 rfl ?_
    exact mJ_zret dX5_isOpen_15 rfl (Or.inr rfl) (by first | exact z_t (by simp_all [q_open]) | exact z_f (by simp_all [q_open])) (rfl)
set_option maxHeartbeats 4000000 in
set_option maxRecDepth 100000 in
theorem C_X5_anchorMeets {C : aF} {Hs : tH} {Sw : tS} {T1 : tT} {P1 : tP} {Od : tO} {T2 : tT} {P2 : tP} {a h w x y : Int32} : mCt k_X5_anchorMeets [.ref 1, .int a, .int x, .int y, .int w, .int h] (cH C Hs Sw T1 P1 Od T2 P2) (some (.int (b2i (q_am C a x y w h)))) (cH C Hs Sw T1 P1 Od T2 P2) := by
  refine mCt_intro (plainFor_of_name rfl) (Nat.le_of_ble_eq_true rfl) (m_all rfl) (ls := [_, _, _, _, _, _]) rfl ?_
  refine mJ_aload_n dX5_anchorMeets_0 rfl ?_
  refine mJ_iload_n dX5_anchorMeets_1 rfl ?_
  refine mJ_iconst (v := 0) dX5_anchorMeets_2 rfl ?_
  refine mJ_cV2i dX5_anchorMeets_3 e_X5_anchorValue n_X5_37 ⟨Nat.le_of_ble_eq_true rfl, Nat.le_of_ble_eq_true rfl⟩ rfl rfl (Nat.le_of_ble_eq_true rfl) (C_X5_anchorValue) ?_
  refine mJ_aload_n dX5_anchorMeets_6 rfl ?_
  refine mJ_iload_n dX5_anchorMeets_7 rfl ?_
  refine mJ_iconst (v := 2) dX5_anchorMeets_8 rfl ?_
  refine mJ_cV2i dX5_anchorMeets_9 e_X5_anchorValue n_X5_37 ⟨Nat.le_of_ble_eq_true rfl, Nat.le_of_ble_eq_true rfl⟩ rfl rfl (Nat.le_of_ble_eq_true rfl) (C_X5_anchorValue) ?_
  refine mJ_iload_n dX5_anchorMeets_12 rfl ?_
  refine mJ_iload dX5_anchorMeets_13 rfl ?_
  refine mJ_cS4i dX5_anchorMeets_15 e_X7_spansMeet n_X5_40 ⟨Nat.le_of_ble_eq_true rfl, Nat.le_of_ble_eq_true rfl⟩ (Nat.le_of_ble_eq_true rfl) (C_X7_spansMeet) ?_
  refine mJ_b2i (fun b_15 => ?_) (fun b_15 => ?_)
  · refine mJ_if_eq 46 dX5_anchorMeets_18 rfl (fun c => absurd c (by decide)) (fun _ => ?_)
    refine mJ_aload_n dX5_anchorMeets_21 rfl ?_
    refine mJ_iload_n dX5_anchorMeets_22 rfl ?_
    refine mJ_iconst (v := 1) dX5_anchorMeets_23 rfl ?_
    refine mJ_cV2i dX5_anchorMeets_24 e_X5_anchorValue n_X5_37 ⟨Nat.le_of_ble_eq_true rfl, Nat.le_of_ble_eq_true rfl⟩ rfl rfl (Nat.le_of_ble_eq_true rfl) (C_X5_anchorValue) ?_
    refine mJ_aload_n dX5_anchorMeets_27 rfl ?_
    refine mJ_iload_n dX5_anchorMeets_28 rfl ?_
    refine mJ_iconst (v := 3) dX5_anchorMeets_29 rfl ?_
    refine mJ_cV2i dX5_anchorMeets_30 e_X5_anchorValue n_X5_37 ⟨Nat.le_of_ble_eq_true rfl, Nat.le_of_ble_eq_true rfl⟩ rfl rfl (Nat.le_of_ble_eq_true rfl) (C_X5_anchorValue) ?_
    refine mJ_iload_n dX5_anchorMeets_33 rfl ?_
    refine mJ_iload dX5_anchorMeets_34 rfl ?_
    refine mJ_cS4i dX5_anchorMeets_36 e_X7_spansMeet n_X5_40 ⟨Nat.le_of_ble_eq_true rfl, Nat.le_of_ble_eq_true rfl⟩ (Nat.le_of_ble_eq_true rfl) (C_X7_spansMeet) ?_
    refine mJ_b2i (fun b_36 => ?_) (fun b_36 => ?_)
    · refine mJ_if_eq 46 dX5_anchorMeets_39 rfl (fun c => absurd c (by decide)) (fun _ => ?_)
      refine mJ_iconst (v := 1) dX5_anchorMeets_42 rfl ?_
      refine mJ_goto 47 dX5_anchorMeets_43 rfl ?_
      exact mJ_zret dX5_anchorMeets_47 rfl (Or.inr rfl) (by first | exact z_t (by simp_all [q_am]) | exact z_f (by simp_all [q_am])) (rfl)
    · refine mJ_if_eq 46 dX5_anchorMeets_39 rfl (fun _ => ?_) (fun c => absurd c (by decide))
      refine mJ_iconst (v := 0) dX5_anchorMeets_46 rfl ?_
      exact mJ_zret dX5_anchorMeets_47 rfl (Or.inl rfl) (by first | exact z_t (by simp_all [q_am]) | exact z_f (by simp_all [q_am])) (rfl)
  · refine mJ_if_eq 46 dX5_anchorMeets_18 rfl (fun _ => ?_) (fun c => absurd c (by decide))
    refine mJ_iconst (v := 0) dX5_anchorMeets_46 rfl ?_
    exact mJ_zret dX5_anchorMeets_47 rfl (Or.inl rfl) (by first | exact z_t (by simp_all [q_am]) | exact z_f (by simp_all [q_am])) (rfl)
set_option maxHeartbeats 4000000 in
set_option maxRecDepth 100000 in
theorem C_X5_isAnchorInSight {C : aF} {Hs : tH} {Sw : tS} {T1 : tT} {P1 : tP} {Od : tO} {T2 : tT} {P2 : tP} {a : Int32} : mCt k_X5_isAnchorInSight [.ref 1, .int a] (cH C Hs Sw T1 P1 Od T2 P2) (some (.int (b2i (q_as C a)))) (cH C Hs Sw T1 P1 Od T2 P2) := by
  refine mCt_intro (plainFor_of_name rfl) (Nat.le_of_ble_eq_true rfl) (m_all rfl) (ls := [_, _]) rfl ?_
  refine mJ_aload_n dX5_isAnchorInSight_0 rfl ?_
  refine mJ_iload_n dX5_isAnchorInSight_1 rfl ?_
  refine mJ_aload_n dX5_isAnchorInSight_2 rfl ?_
  refine mJ_iconst (v := 0) dX5_isAnchorInSight_3 rfl ?_
  refine mJ_cV1i dX5_isAnchorInSight_4 e_X5_get n_X5_32 ⟨Nat.le_of_ble_eq_true rfl, Nat.le_of_ble_eq_true rfl⟩ rfl rfl (Nat.le_of_ble_eq_true rfl) (C_X5_get) ?_
  refine mJ_aload_n dX5_isAnchorInSight_7 rfl ?_
  refine mJ_iconst (v := 1) dX5_isAnchorInSight_8 rfl ?_
  refine mJ_cV1i dX5_isAnchorInSight_9 e_X5_get n_X5_32 ⟨Nat.le_of_ble_eq_true rfl, Nat.le_of_ble_eq_true rfl⟩ rfl rfl (Nat.le_of_ble_eq_true rfl) (C_X5_get) ?_
  refine mJ_aload_n dX5_isAnchorInSight_12 rfl ?_
  refine mJ_iconst (v := 2) dX5_isAnchorInSight_13 rfl ?_
  refine mJ_cV1i dX5_isAnchorInSight_14 e_X5_get n_X5_32 ⟨Nat.le_of_ble_eq_true rfl, Nat.le_of_ble_eq_true rfl⟩ rfl rfl (Nat.le_of_ble_eq_true rfl) (C_X5_get) ?_
  refine mJ_aload_n dX5_isAnchorInSight_17 rfl ?_
  refine mJ_iconst (v := 3) dX5_isAnchorInSight_18 rfl ?_
  refine mJ_cV1i dX5_isAnchorInSight_19 e_X5_get n_X5_32 ⟨Nat.le_of_ble_eq_true rfl, Nat.le_of_ble_eq_true rfl⟩ rfl rfl (Nat.le_of_ble_eq_true rfl) (C_X5_get) ?_
  refine mJ_cV5i dX5_isAnchorInSight_22 e_X5_anchorMeets n_X5_33 ⟨Nat.le_of_ble_eq_true rfl, Nat.le_of_ble_eq_true rfl⟩ rfl rfl (Nat.le_of_ble_eq_true rfl) (C_X5_anchorMeets) ?_
  exact mJ_zret dX5_isAnchorInSight_25 rfl (b2i_01 _) (rfl) (rfl)
set_option maxHeartbeats 4000000 in
set_option maxRecDepth 100000 in
theorem C_X5_goesBefore {C : aF} {Hs : tH} {Sw : tS} {T1 : tT} {P1 : tP} {Od : tO} {T2 : tT} {P2 : tP} {h o : Int32} : mCt k_X5_goesBefore [.ref 1, .int h, .int o] (cH C Hs Sw T1 P1 Od T2 P2) (some (.int (b2i (q_gb C h o)))) (cH C Hs Sw T1 P1 Od T2 P2) := by
  refine mCt_intro (plainFor_of_name rfl) (Nat.le_of_ble_eq_true rfl) (m_all rfl) (ls := [_, _, _, _, _]) rfl ?_
  refine mJ_aload_n dX5_goesBefore_0 rfl ?_
  refine mJ_iload_n dX5_goesBefore_1 rfl ?_
  refine mJ_bipush (v := 7) dX5_goesBefore_2 rfl ?_
  refine mJ_cV2i dX5_goesBefore_4 e_X5_hintValue n_X5_28 ⟨Nat.le_of_ble_eq_true rfl, Nat.le_of_ble_eq_true rfl⟩ rfl rfl (Nat.le_of_ble_eq_true rfl) (C_X5_hintValue) ?_
  refine mJ_istore_n dX5_goesBefore_7 (Nat.le_of_ble_eq_true rfl) (ls2 := [_, _, _, _, _]) rfl ?_
  refine mJ_aload_n dX5_goesBefore_8 rfl ?_
  refine mJ_iload_n dX5_goesBefore_9 rfl ?_
  refine mJ_bipush (v := 7) dX5_goesBefore_10 rfl ?_
  refine mJ_cV2i dX5_goesBefore_12 e_X5_hintValue n_X5_28 ⟨Nat.le_of_ble_eq_true rfl, Nat.le_of_ble_eq_true rfl⟩ rfl rfl (Nat.le_of_ble_eq_true rfl) (C_X5_hintValue) ?_
  refine mJ_istore dX5_goesBefore_15 (Nat.le_of_ble_eq_true rfl) (ls2 := [_, _, _, _, _]) rfl ?_
  refine mJ_iload_n dX5_goesBefore_17 rfl ?_
  refine mJ_iload dX5_goesBefore_18 rfl ?_
  refine mJ_icmp_eq 35 dX5_goesBefore_20 rfl (fun c_20 => ?_) (fun c_20 => ?_)
  · refine mJ_aload_n dX5_goesBefore_35 rfl ?_
    refine mJ_iload_n dX5_goesBefore_36 rfl ?_
    refine mJ_bipush (v := 8) dX5_goesBefore_37 rfl ?_
    refine mJ_cV2i dX5_goesBefore_39 e_X5_hintValue n_X5_28 ⟨Nat.le_of_ble_eq_true rfl, Nat.le_of_ble_eq_true rfl⟩ rfl rfl (Nat.le_of_ble_eq_true rfl) (C_X5_hintValue) ?_
    refine mJ_aload_n dX5_goesBefore_42 rfl ?_
    refine mJ_iload_n dX5_goesBefore_43 rfl ?_
    refine mJ_bipush (v := 8) dX5_goesBefore_44 rfl ?_
    refine mJ_cV2i dX5_goesBefore_46 e_X5_hintValue n_X5_28 ⟨Nat.le_of_ble_eq_true rfl, Nat.le_of_ble_eq_true rfl⟩ rfl rfl (Nat.le_of_ble_eq_true rfl) (C_X5_hintValue) ?_
    refine mJ_icmp_ge 56 dX5_goesBefore_49 rfl (fun c_49 => ?_) (fun c_49 => ?_)
    · refine mJ_iconst (v := 0) dX5_goesBefore_56 rfl ?_
      exact mJ_zret dX5_goesBefore_57 rfl (Or.inl rfl) (by first | exact z_t (by simp_all [q_gb]) | exact z_f (by simp_all [q_gb])) (rfl)
    · refine mJ_iconst (v := 1) dX5_goesBefore_52 rfl ?_
      refine mJ_goto 57 dX5_goesBefore_53 rfl ?_
      exact mJ_zret dX5_goesBefore_57 rfl (Or.inr rfl) (by first | exact z_t (by simp_all [q_gb]) | exact z_f (by simp_all [q_gb])) (rfl)
  · refine mJ_iload_n dX5_goesBefore_23 rfl ?_
    refine mJ_iload dX5_goesBefore_24 rfl ?_
    refine mJ_icmp_le 33 dX5_goesBefore_26 rfl (fun c_26 => ?_) (fun c_26 => ?_)
    · refine mJ_iconst (v := 0) dX5_goesBefore_33 rfl ?_
      exact mJ_zret dX5_goesBefore_34 rfl (Or.inl rfl) (by first | exact z_t (by simp_all [q_gb]) | exact z_f (by simp_all [q_gb])) (rfl)
    · refine mJ_iconst (v := 1) dX5_goesBefore_29 rfl ?_
      refine mJ_goto 34 dX5_goesBefore_30 rfl ?_
      exact mJ_zret dX5_goesBefore_34 rfl (Or.inr rfl) (by first | exact z_t (by simp_all [q_gb]) | exact z_f (by simp_all [q_gb])) (rfl)
set_option maxHeartbeats 4000000 in
set_option maxRecDepth 100000 in
theorem C_X7_isAnchor {C : aF} {Hs : tH} {Sw : tS} {T1 : tT} {P1 : tP} {Od : tO} {T2 : tT} {P2 : tP} {v : Int32} : mCt k_X7_isAnchor [.ref 0, .int v] (cH C Hs Sw T1 P1 Od T2 P2) (some (.int (b2i (q_anchor C v)))) (cH C Hs Sw T1 P1 Od T2 P2) := by
  refine mCt_intro (plainFor_of_name rfl) (Nat.le_of_ble_eq_true rfl) (m_all rfl) (ls := [_, _]) rfl ?_
  refine mJ_iload_n dX7_isAnchor_0 rfl ?_
  refine mJ_if_lt 20 dX7_isAnchor_1 rfl (fun c_1 => ?_) (fun c_1 => ?_)
  · refine mJ_iconst (v := 0) dX7_isAnchor_20 rfl ?_
    exact mJ_zret dX7_isAnchor_21 rfl (Or.inl rfl) (by first | exact z_t (by simp_all [q_anchor]) | exact z_f (by simp_all [q_anchor])) (rfl)
  · refine mJ_iload_n dX7_isAnchor_4 rfl ?_
    refine mJ_aload_n dX7_isAnchor_5 rfl ?_
    refine mJ_get dX7_isAnchor_6 f_X7_12 rfl rfl ?_
    refine mJ_iconst (v := 4) dX7_isAnchor_9 rfl ?_
    refine mJ_cV1i dX7_isAnchor_10 e_X5_get n_X7_80 ⟨Nat.le_of_ble_eq_true rfl, Nat.le_of_ble_eq_true rfl⟩ rfl rfl (Nat.le_of_ble_eq_true rfl) (C_X5_get) ?_
    refine mJ_icmp_ge 20 dX7_isAnchor_13 rfl (fun c_13 => ?_) (fun c_13 => ?_)
    · refine mJ_iconst (v := 0) dX7_isAnchor_20 rfl ?_
      exact mJ_zret dX7_isAnchor_21 rfl (Or.inl rfl) (by first | exact z_t (by simp_all [q_anchor]) | exact z_f (by simp_all [q_anchor])) (rfl)
    · refine mJ_iconst (v := 1) dX7_isAnchor_16 rfl ?_
      refine mJ_goto 21 dX7_isAnchor_17 rfl ?_
      exact mJ_zret dX7_isAnchor_21 rfl (Or.inr rfl) (by first | exact z_t (by simp_all [q_anchor]) | exact z_f (by simp_all [q_anchor])) (rfl)
set_option maxHeartbeats 4000000 in
set_option maxRecDepth 100000 in
theorem C_X7_isHint {C : aF} {Hs : tH} {Sw : tS} {T1 : tT} {P1 : tP} {Od : tO} {T2 : tT} {P2 : tP} {v : Int32} : mCt k_X7_isHint [.ref 0, .int v] (cH C Hs Sw T1 P1 Od T2 P2) (some (.int (b2i (q_hint C v)))) (cH C Hs Sw T1 P1 Od T2 P2) := by
  refine mCt_intro (plainFor_of_name rfl) (Nat.le_of_ble_eq_true rfl) (m_all rfl) (ls := [_, _]) rfl ?_
  refine mJ_iload_n dX7_isHint_0 rfl ?_
  refine mJ_if_lt 20 dX7_isHint_1 rfl (fun c_1 => ?_) (fun c_1 => ?_)
  · refine mJ_iconst (v := 0) dX7_isHint_20 rfl ?_
    exact mJ_zret dX7_isHint_21 rfl (Or.inl rfl) (by first | exact z_t (by simp_all [q_hint]) | exact z_f (by simp_all [q_hint])) (rfl)
  · refine mJ_iload_n dX7_isHint_4 rfl ?_
    refine mJ_aload_n dX7_isHint_5 rfl ?_
    refine mJ_get dX7_isHint_6 f_X7_12 rfl rfl ?_
    refine mJ_iconst (v := 5) dX7_isHint_9 rfl ?_
    refine mJ_cV1i dX7_isHint_10 e_X5_get n_X7_80 ⟨Nat.le_of_ble_eq_true rfl, Nat.le_of_ble_eq_true rfl⟩ rfl rfl (Nat.le_of_ble_eq_true rfl) (C_X5_get) ?_
    refine mJ_icmp_ge 20 dX7_isHint_13 rfl (fun c_13 => ?_) (fun c_13 => ?_)
    · refine mJ_iconst (v := 0) dX7_isHint_20 rfl ?_
      exact mJ_zret dX7_isHint_21 rfl (Or.inl rfl) (by first | exact z_t (by simp_all [q_hint]) | exact z_f (by simp_all [q_hint])) (rfl)
    · refine mJ_iconst (v := 1) dX7_isHint_16 rfl ?_
      refine mJ_goto 21 dX7_isHint_17 rfl ?_
      exact mJ_zret dX7_isHint_21 rfl (Or.inr rfl) (by first | exact z_t (by simp_all [q_hint]) | exact z_f (by simp_all [q_hint])) (rfl)
set_option maxHeartbeats 4000000 in
set_option maxRecDepth 100000 in
theorem C_X7_highestValue {C : aF} {Hs : tH} {Sw : tS} {T1 : tT} {P1 : tP} {Od : tO} {T2 : tT} {P2 : tP} {w : Int32} : mCt k_X7_highestValue [.ref 0, .int w] (cH C Hs Sw T1 P1 Od T2 P2) (some (.int (v_hv C w))) (cH C Hs Sw T1 P1 Od T2 P2) := by
  refine mCt_intro (plainFor_of_name rfl) (Nat.le_of_ble_eq_true rfl) (m_all rfl) (ls := [_, _]) rfl ?_
  refine mJ_iload_n dX7_highestValue_0 rfl ?_
  refine mJ_case 0 (fun s_1_0 => ?_) (fun s_1_0 => ?_)
  · refine mJ_tin 44 dX7_highestValue_1 (by decide) (by decide) rfl rfl ?_
    refine mJ_aload_n dX7_highestValue_44 rfl ?_
    refine mJ_get dX7_highestValue_45 f_X7_12 rfl rfl ?_
    refine mJ_iconst (v := 4) dX7_highestValue_48 rfl ?_
    refine mJ_cV1i dX7_highestValue_49 e_X5_get n_X7_80 ⟨Nat.le_of_ble_eq_true rfl, Nat.le_of_ble_eq_true rfl⟩ rfl rfl (Nat.le_of_ble_eq_true rfl) (C_X5_get) ?_
    refine mJ_iconst (v := 1) dX7_highestValue_52 rfl ?_
    refine mJ_isub dX7_highestValue_53 ?_
    exact mJ_iret dX7_highestValue_54 rfl (by simp [v_hv, *]) (rfl)
  refine mJ_case 1 (fun s_1_1 => ?_) (fun s_1_1 => ?_)
  · refine mJ_tin 55 dX7_highestValue_1 (by decide) (by decide) rfl rfl ?_
    refine mJ_sipush (v := 200) dX7_highestValue_55 rfl ?_
    exact mJ_iret dX7_highestValue_58 rfl (by simp [v_hv, *]) (rfl)
  refine mJ_case 2 (fun s_1_2 => ?_) (fun s_1_2 => ?_)
  · refine mJ_tin 55 dX7_highestValue_1 (by decide) (by decide) rfl rfl ?_
    refine mJ_sipush (v := 200) dX7_highestValue_55 rfl ?_
    exact mJ_iret dX7_highestValue_58 rfl (by simp [v_hv, *]) (rfl)
  refine mJ_case 3 (fun s_1_3 => ?_) (fun s_1_3 => ?_)
  · refine mJ_tin 59 dX7_highestValue_1 (by decide) (by decide) rfl rfl ?_
    refine mJ_iconst (v := 3) dX7_highestValue_59 rfl ?_
    exact mJ_iret dX7_highestValue_60 rfl (by simp [v_hv, *]) (rfl)
  refine mJ_case 4 (fun s_1_4 => ?_) (fun s_1_4 => ?_)
  · refine mJ_tin 61 dX7_highestValue_1 (by decide) (by decide) rfl rfl ?_
    refine mJ_iconst (v := 2) dX7_highestValue_61 rfl ?_
    exact mJ_iret dX7_highestValue_62 rfl (by simp [v_hv, *]) (rfl)
  refine mJ_case 5 (fun s_1_5 => ?_) (fun s_1_5 => ?_)
  · refine mJ_tin 61 dX7_highestValue_1 (by decide) (by decide) rfl rfl ?_
    refine mJ_iconst (v := 2) dX7_highestValue_61 rfl ?_
    exact mJ_iret dX7_highestValue_62 rfl (by simp [v_hv, *]) (rfl)
  refine mJ_case 6 (fun s_1_6 => ?_) (fun s_1_6 => ?_)
  · refine mJ_tin 63 dX7_highestValue_1 (by decide) (by decide) rfl rfl ?_
    refine mJ_iconst (v := 1) dX7_highestValue_63 rfl ?_
    exact mJ_iret dX7_highestValue_64 rfl (by simp [v_hv, *]) (rfl)
  refine mJ_tout 65 dX7_highestValue_1 (m_out (fun z z1 z2 z3 => ?_)) rfl ?_
  · rcases (show z = 0 ∨ z = 1 ∨ z = 2 ∨ z = 3 ∨ z = 4 ∨ z = 5 ∨ z = 6 by omega) with rfl | rfl | rfl | rfl | rfl | rfl | rfl
    · exact s_1_0 (Int32.toInt_inj.mp z3)
    · exact s_1_1 (Int32.toInt_inj.mp z3)
    · exact s_1_2 (Int32.toInt_inj.mp z3)
    · exact s_1_3 (Int32.toInt_inj.mp z3)
    · exact s_1_4 (Int32.toInt_inj.mp z3)
    · exact s_1_5 (Int32.toInt_inj.mp z3)
    · exact s_1_6 (Int32.toInt_inj.mp z3)
  · refine mJ_bipush (v := 9) dX7_highestValue_65 rfl ?_
    exact mJ_iret dX7_highestValue_67 rfl (by simp [v_hv, *]) (rfl)
set_option maxHeartbeats 4000000 in
set_option maxRecDepth 100000 in
theorem C_X7_canMoveView {C : aF} {Hs : tH} {Sw : tS} {T1 : tT} {P1 : tP} {Od : tO} {T2 : tT} {P2 : tP} {x y : Int32} : mCt k_X7_canMoveView [.ref 0, .int x, .int y] (cH C Hs Sw T1 P1 Od T2 P2) (some (.int (b2i (q_cm C x y)))) (cH C Hs Sw T1 P1 Od T2 P2) := by
  refine mCt_intro (plainFor_of_name rfl) (Nat.le_of_ble_eq_true rfl) (m_all rfl) (ls := [_, _, _]) rfl ?_
  refine mJ_aload_n dX7_canMoveView_0 rfl ?_
  refine mJ_get dX7_canMoveView_1 f_X7_12 rfl rfl ?_
  refine mJ_iconst (v := 0) dX7_canMoveView_4 rfl ?_
  refine mJ_cV1i dX7_canMoveView_5 e_X5_get n_X7_80 ⟨Nat.le_of_ble_eq_true rfl, Nat.le_of_ble_eq_true rfl⟩ rfl rfl (Nat.le_of_ble_eq_true rfl) (C_X5_get) ?_
  refine mJ_iload_n dX7_canMoveView_8 rfl ?_
  refine mJ_iadd dX7_canMoveView_9 ?_
  refine mJ_sipush (v := 2000) dX7_canMoveView_10 rfl ?_
  refine mJ_cS2i dX7_canMoveView_13 e_X7_isWithin n_X7_67 ⟨Nat.le_of_ble_eq_true rfl, Nat.le_of_ble_eq_true rfl⟩ (Nat.le_of_ble_eq_true rfl) (C_X7_isWithin) ?_
  refine mJ_b2i (fun b_13 => ?_) (fun b_13 => ?_)
  · refine mJ_if_eq 42 dX7_canMoveView_16 rfl (fun c => absurd c (by decide)) (fun _ => ?_)
    refine mJ_aload_n dX7_canMoveView_19 rfl ?_
    refine mJ_get dX7_canMoveView_20 f_X7_12 rfl rfl ?_
    refine mJ_iconst (v := 1) dX7_canMoveView_23 rfl ?_
    refine mJ_cV1i dX7_canMoveView_24 e_X5_get n_X7_80 ⟨Nat.le_of_ble_eq_true rfl, Nat.le_of_ble_eq_true rfl⟩ rfl rfl (Nat.le_of_ble_eq_true rfl) (C_X5_get) ?_
    refine mJ_iload_n dX7_canMoveView_27 rfl ?_
    refine mJ_iadd dX7_canMoveView_28 ?_
    refine mJ_sipush (v := 2000) dX7_canMoveView_29 rfl ?_
    refine mJ_cS2i dX7_canMoveView_32 e_X7_isWithin n_X7_67 ⟨Nat.le_of_ble_eq_true rfl, Nat.le_of_ble_eq_true rfl⟩ (Nat.le_of_ble_eq_true rfl) (C_X7_isWithin) ?_
    refine mJ_b2i (fun b_32 => ?_) (fun b_32 => ?_)
    · refine mJ_if_eq 42 dX7_canMoveView_35 rfl (fun c => absurd c (by decide)) (fun _ => ?_)
      refine mJ_iconst (v := 1) dX7_canMoveView_38 rfl ?_
      refine mJ_goto 43 dX7_canMoveView_39 rfl ?_
      exact mJ_zret dX7_canMoveView_43 rfl (Or.inr rfl) (by first | exact z_t (by simp_all [q_cm]) | exact z_f (by simp_all [q_cm])) (rfl)
    · refine mJ_if_eq 42 dX7_canMoveView_35 rfl (fun _ => ?_) (fun c => absurd c (by decide))
      refine mJ_iconst (v := 0) dX7_canMoveView_42 rfl ?_
      exact mJ_zret dX7_canMoveView_43 rfl (Or.inl rfl) (by first | exact z_t (by simp_all [q_cm]) | exact z_f (by simp_all [q_cm])) (rfl)
  · refine mJ_if_eq 42 dX7_canMoveView_16 rfl (fun _ => ?_) (fun c => absurd c (by decide))
    refine mJ_iconst (v := 0) dX7_canMoveView_42 rfl ?_
    exact mJ_zret dX7_canMoveView_43 rfl (Or.inl rfl) (by first | exact z_t (by simp_all [q_cm]) | exact z_f (by simp_all [q_cm])) (rfl)
set_option maxHeartbeats 4000000 in
set_option maxRecDepth 100000 in
theorem C_X2_beginAlong_1 {C : aF} {Hs : tH} {Sw : tS} {T1 : tT} {P1 : tP} {Od : tO} {T2 : tT} {P2 : tP} {h : Int32} : mCt k_X2_beginAlong [.ref 1, .int h, .int 1] (cH C Hs Sw T1 P1 Od T2 P2) (some (.int (v_beg C h 0 2 1))) (cH C Hs Sw T1 P1 Od T2 P2) := by
  refine mCt_intro (plainFor_of_name rfl) (Nat.le_of_ble_eq_true rfl) (m_all rfl) (ls := [_, _, _, _, _, _]) rfl ?_
  refine mJ_aload_n dX2_beginAlong_0 rfl ?_
  refine mJ_iload_n dX2_beginAlong_1 rfl ?_
  refine mJ_iconst (v := 0) dX2_beginAlong_2 rfl ?_
  refine mJ_cV2i dX2_beginAlong_3 e_X5_hintValue n_X2_9 ⟨Nat.le_of_ble_eq_true rfl, Nat.le_of_ble_eq_true rfl⟩ rfl rfl (Nat.le_of_ble_eq_true rfl) (C_X5_hintValue) ?_
  refine mJ_istore_n dX2_beginAlong_6 (Nat.le_of_ble_eq_true rfl) (ls2 := [_, _, _, _, _, _]) rfl ?_
  refine mJ_aload_n dX2_beginAlong_7 rfl ?_
  refine mJ_iload_n dX2_beginAlong_8 rfl ?_
  refine mJ_iload_n dX2_beginAlong_9 rfl ?_
  refine mJ_if_eq 17 dX2_beginAlong_10 rfl (fun c => absurd c (by decide)) (fun _ => ?_)
  refine mJ_iconst (v := 0) dX2_beginAlong_13 rfl ?_
  refine mJ_goto 18 dX2_beginAlong_14 rfl ?_
  refine mJ_cV2i dX2_beginAlong_18 e_X5_anchorValue n_X2_74 ⟨Nat.le_of_ble_eq_true rfl, Nat.le_of_ble_eq_true rfl⟩ rfl rfl (Nat.le_of_ble_eq_true rfl) (C_X5_anchorValue) ?_
  refine mJ_istore dX2_beginAlong_21 (Nat.le_of_ble_eq_true rfl) (ls2 := [_, _, _, _, _, _]) rfl ?_
  refine mJ_aload_n dX2_beginAlong_23 rfl ?_
  refine mJ_iload_n dX2_beginAlong_24 rfl ?_
  refine mJ_iload_n dX2_beginAlong_25 rfl ?_
  refine mJ_if_eq 33 dX2_beginAlong_26 rfl (fun c => absurd c (by decide)) (fun _ => ?_)
  refine mJ_iconst (v := 2) dX2_beginAlong_29 rfl ?_
  refine mJ_goto 34 dX2_beginAlong_30 rfl ?_
  refine mJ_cV2i dX2_beginAlong_34 e_X5_anchorValue n_X2_74 ⟨Nat.le_of_ble_eq_true rfl, Nat.le_of_ble_eq_true rfl⟩ rfl rfl (Nat.le_of_ble_eq_true rfl) (C_X5_anchorValue) ?_
  refine mJ_aload_n dX2_beginAlong_37 rfl ?_
  refine mJ_iload_n dX2_beginAlong_38 rfl ?_
  refine mJ_iload_n dX2_beginAlong_39 rfl ?_
  refine mJ_if_eq 47 dX2_beginAlong_40 rfl (fun c => absurd c (by decide)) (fun _ => ?_)
  refine mJ_iconst (v := 1) dX2_beginAlong_43 rfl ?_
  refine mJ_goto 48 dX2_beginAlong_44 rfl ?_
  refine mJ_cV2i dX2_beginAlong_48 e_X5_hintValue n_X2_9 ⟨Nat.le_of_ble_eq_true rfl, Nat.le_of_ble_eq_true rfl⟩ rfl rfl (Nat.le_of_ble_eq_true rfl) (C_X5_hintValue) ?_
  refine mJ_isub dX2_beginAlong_51 ?_
  refine mJ_istore dX2_beginAlong_52 (Nat.le_of_ble_eq_true rfl) (ls2 := [_, _, _, _, _, _]) rfl ?_
  refine mJ_aload_n dX2_beginAlong_54 rfl ?_
  refine mJ_iload_n dX2_beginAlong_55 rfl ?_
  refine mJ_iconst (v := 4) dX2_beginAlong_56 rfl ?_
  refine mJ_cV2i dX2_beginAlong_57 e_X5_hintValue n_X2_9 ⟨Nat.le_of_ble_eq_true rfl, Nat.le_of_ble_eq_true rfl⟩ rfl rfl (Nat.le_of_ble_eq_true rfl) (C_X5_hintValue) ?_
  refine mJ_case 0 (fun s_60_0 => ?_) (fun s_60_0 => ?_)
  · refine mJ_lsw (off := 28) 88 dX2_beginAlong_60 (by decide) (by decide) rfl ?_
    refine mJ_iload dX2_beginAlong_88 rfl ?_
    exact mJ_iret dX2_beginAlong_90 rfl (by simp [v_beg, *]) (rfl)
  refine mJ_case 1 (fun s_60_1 => ?_) (fun s_60_1 => ?_)
  · refine mJ_lsw (off := 31) 91 dX2_beginAlong_60 (by decide) (by decide) rfl ?_
    refine mJ_iload dX2_beginAlong_91 rfl ?_
    refine mJ_iload dX2_beginAlong_93 rfl ?_
    refine mJ_iconst (v := 2) dX2_beginAlong_95 rfl ?_
    refine mJ_cS2i dX2_beginAlong_96 e_J9_floorDiv_7cf53 n_X2_77 ⟨Nat.le_of_ble_eq_true rfl, Nat.le_of_ble_eq_true rfl⟩ (Nat.le_of_ble_eq_true rfl) (C_J9_floorDiv_7cf53) ?_
    refine mJ_iadd dX2_beginAlong_99 ?_
    exact mJ_iret dX2_beginAlong_100 rfl (by simp [v_beg, *]) (rfl)
  refine mJ_lsw (off := 41) 101 dX2_beginAlong_60 (by decide) (by show Op.lookupswitch.offset [(0, 28), (1, 31)] 41 _ = 41; rw [lv_osw (a := 0) s_60_0 rfl, lv_osw (a := 1) s_60_1 rfl]; rfl) rfl ?_
  refine mJ_iload dX2_beginAlong_101 rfl ?_
  refine mJ_iload dX2_beginAlong_103 rfl ?_
  refine mJ_iadd dX2_beginAlong_105 ?_
  exact mJ_iret dX2_beginAlong_106 rfl (by simp [v_beg, *]) (rfl)
set_option maxHeartbeats 4000000 in
set_option maxRecDepth 100000 in
theorem C_X2_middleAlong_1 {C : aF} {Hs : tH} {Sw : tS} {T1 : tT} {P1 : tP} {Od : tO} {T2 : tT} {P2 : tP} {h : Int32} : mCt k_X2_middleAlong [.ref 1, .int h, .int 1] (cH C Hs Sw T1 P1 Od T2 P2) (some (.int (v_mid C h 0 2))) (cH C Hs Sw T1 P1 Od T2 P2) := by
  refine mCt_intro (plainFor_of_name rfl) (Nat.le_of_ble_eq_true rfl) (m_all rfl) (ls := [_, _, _, _, _]) rfl ?_
  refine mJ_aload_n dX2_middleAlong_0 rfl ?_
  refine mJ_iload_n dX2_middleAlong_1 rfl ?_
  refine mJ_iconst (v := 0) dX2_middleAlong_2 rfl ?_
  refine mJ_cV2i dX2_middleAlong_3 e_X5_hintValue n_X2_9 ⟨Nat.le_of_ble_eq_true rfl, Nat.le_of_ble_eq_true rfl⟩ rfl rfl (Nat.le_of_ble_eq_true rfl) (C_X5_hintValue) ?_
  refine mJ_istore_n dX2_middleAlong_6 (Nat.le_of_ble_eq_true rfl) (ls2 := [_, _, _, _, _]) rfl ?_
  refine mJ_aload_n dX2_middleAlong_7 rfl ?_
  refine mJ_iload_n dX2_middleAlong_8 rfl ?_
  refine mJ_iload_n dX2_middleAlong_9 rfl ?_
  refine mJ_if_eq 17 dX2_middleAlong_10 rfl (fun c => absurd c (by decide)) (fun _ => ?_)
  refine mJ_iconst (v := 2) dX2_middleAlong_13 rfl ?_
  refine mJ_goto 18 dX2_middleAlong_14 rfl ?_
  refine mJ_cV2i dX2_middleAlong_18 e_X5_anchorValue n_X2_74 ⟨Nat.le_of_ble_eq_true rfl, Nat.le_of_ble_eq_true rfl⟩ rfl rfl (Nat.le_of_ble_eq_true rfl) (C_X5_anchorValue) ?_
  refine mJ_istore dX2_middleAlong_21 (Nat.le_of_ble_eq_true rfl) (ls2 := [_, _, _, _, _]) rfl ?_
  refine mJ_aload_n dX2_middleAlong_23 rfl ?_
  refine mJ_iload_n dX2_middleAlong_24 rfl ?_
  refine mJ_iload_n dX2_middleAlong_25 rfl ?_
  refine mJ_if_eq 33 dX2_middleAlong_26 rfl (fun c => absurd c (by decide)) (fun _ => ?_)
  refine mJ_iconst (v := 0) dX2_middleAlong_29 rfl ?_
  refine mJ_goto 34 dX2_middleAlong_30 rfl ?_
  refine mJ_cV2i dX2_middleAlong_34 e_X5_anchorValue n_X2_74 ⟨Nat.le_of_ble_eq_true rfl, Nat.le_of_ble_eq_true rfl⟩ rfl rfl (Nat.le_of_ble_eq_true rfl) (C_X5_anchorValue) ?_
  refine mJ_iload dX2_middleAlong_37 rfl ?_
  refine mJ_iconst (v := 2) dX2_middleAlong_39 rfl ?_
  refine mJ_cS2i dX2_middleAlong_40 e_J9_floorDiv_7cf53 n_X2_77 ⟨Nat.le_of_ble_eq_true rfl, Nat.le_of_ble_eq_true rfl⟩ (Nat.le_of_ble_eq_true rfl) (C_J9_floorDiv_7cf53) ?_
  refine mJ_iadd dX2_middleAlong_43 ?_
  exact mJ_iret dX2_middleAlong_44 rfl (rfl) (rfl)
set_option maxHeartbeats 4000000 in
set_option maxRecDepth 100000 in
theorem C_X2_beginAlong_0 {C : aF} {Hs : tH} {Sw : tS} {T1 : tT} {P1 : tP} {Od : tO} {T2 : tT} {P2 : tP} {h : Int32} : mCt k_X2_beginAlong [.ref 1, .int h, .int 0] (cH C Hs Sw T1 P1 Od T2 P2) (some (.int (v_beg C h 1 3 2))) (cH C Hs Sw T1 P1 Od T2 P2) := by
  refine mCt_intro (plainFor_of_name rfl) (Nat.le_of_ble_eq_true rfl) (m_all rfl) (ls := [_, _, _, _, _, _]) rfl ?_
  refine mJ_aload_n dX2_beginAlong_0 rfl ?_
  refine mJ_iload_n dX2_beginAlong_1 rfl ?_
  refine mJ_iconst (v := 0) dX2_beginAlong_2 rfl ?_
  refine mJ_cV2i dX2_beginAlong_3 e_X5_hintValue n_X2_9 ⟨Nat.le_of_ble_eq_true rfl, Nat.le_of_ble_eq_true rfl⟩ rfl rfl (Nat.le_of_ble_eq_true rfl) (C_X5_hintValue) ?_
  refine mJ_istore_n dX2_beginAlong_6 (Nat.le_of_ble_eq_true rfl) (ls2 := [_, _, _, _, _, _]) rfl ?_
  refine mJ_aload_n dX2_beginAlong_7 rfl ?_
  refine mJ_iload_n dX2_beginAlong_8 rfl ?_
  refine mJ_iload_n dX2_beginAlong_9 rfl ?_
  refine mJ_if_eq 17 dX2_beginAlong_10 rfl (fun _ => ?_) (fun c => absurd c (by decide))
  refine mJ_iconst (v := 1) dX2_beginAlong_17 rfl ?_
  refine mJ_cV2i dX2_beginAlong_18 e_X5_anchorValue n_X2_74 ⟨Nat.le_of_ble_eq_true rfl, Nat.le_of_ble_eq_true rfl⟩ rfl rfl (Nat.le_of_ble_eq_true rfl) (C_X5_anchorValue) ?_
  refine mJ_istore dX2_beginAlong_21 (Nat.le_of_ble_eq_true rfl) (ls2 := [_, _, _, _, _, _]) rfl ?_
  refine mJ_aload_n dX2_beginAlong_23 rfl ?_
  refine mJ_iload_n dX2_beginAlong_24 rfl ?_
  refine mJ_iload_n dX2_beginAlong_25 rfl ?_
  refine mJ_if_eq 33 dX2_beginAlong_26 rfl (fun _ => ?_) (fun c => absurd c (by decide))
  refine mJ_iconst (v := 3) dX2_beginAlong_33 rfl ?_
  refine mJ_cV2i dX2_beginAlong_34 e_X5_anchorValue n_X2_74 ⟨Nat.le_of_ble_eq_true rfl, Nat.le_of_ble_eq_true rfl⟩ rfl rfl (Nat.le_of_ble_eq_true rfl) (C_X5_anchorValue) ?_
  refine mJ_aload_n dX2_beginAlong_37 rfl ?_
  refine mJ_iload_n dX2_beginAlong_38 rfl ?_
  refine mJ_iload_n dX2_beginAlong_39 rfl ?_
  refine mJ_if_eq 47 dX2_beginAlong_40 rfl (fun _ => ?_) (fun c => absurd c (by decide))
  refine mJ_iconst (v := 2) dX2_beginAlong_47 rfl ?_
  refine mJ_cV2i dX2_beginAlong_48 e_X5_hintValue n_X2_9 ⟨Nat.le_of_ble_eq_true rfl, Nat.le_of_ble_eq_true rfl⟩ rfl rfl (Nat.le_of_ble_eq_true rfl) (C_X5_hintValue) ?_
  refine mJ_isub dX2_beginAlong_51 ?_
  refine mJ_istore dX2_beginAlong_52 (Nat.le_of_ble_eq_true rfl) (ls2 := [_, _, _, _, _, _]) rfl ?_
  refine mJ_aload_n dX2_beginAlong_54 rfl ?_
  refine mJ_iload_n dX2_beginAlong_55 rfl ?_
  refine mJ_iconst (v := 4) dX2_beginAlong_56 rfl ?_
  refine mJ_cV2i dX2_beginAlong_57 e_X5_hintValue n_X2_9 ⟨Nat.le_of_ble_eq_true rfl, Nat.le_of_ble_eq_true rfl⟩ rfl rfl (Nat.le_of_ble_eq_true rfl) (C_X5_hintValue) ?_
  refine mJ_case 0 (fun s_60_0 => ?_) (fun s_60_0 => ?_)
  · refine mJ_lsw (off := 28) 88 dX2_beginAlong_60 (by decide) (by decide) rfl ?_
    refine mJ_iload dX2_beginAlong_88 rfl ?_
    exact mJ_iret dX2_beginAlong_90 rfl (by simp [v_beg, *]) (rfl)
  refine mJ_case 1 (fun s_60_1 => ?_) (fun s_60_1 => ?_)
  · refine mJ_lsw (off := 31) 91 dX2_beginAlong_60 (by decide) (by decide) rfl ?_
    refine mJ_iload dX2_beginAlong_91 rfl ?_
    refine mJ_iload dX2_beginAlong_93 rfl ?_
    refine mJ_iconst (v := 2) dX2_beginAlong_95 rfl ?_
    refine mJ_cS2i dX2_beginAlong_96 e_J9_floorDiv_7cf53 n_X2_77 ⟨Nat.le_of_ble_eq_true rfl, Nat.le_of_ble_eq_true rfl⟩ (Nat.le_of_ble_eq_true rfl) (C_J9_floorDiv_7cf53) ?_
    refine mJ_iadd dX2_beginAlong_99 ?_
    exact mJ_iret dX2_beginAlong_100 rfl (by simp [v_beg, *]) (rfl)
  refine mJ_lsw (off := 41) 101 dX2_beginAlong_60 (by decide) (by show Op.lookupswitch.offset [(0, 28), (1, 31)] 41 _ = 41; rw [lv_osw (a := 0) s_60_0 rfl, lv_osw (a := 1) s_60_1 rfl]; rfl) rfl ?_
  refine mJ_iload dX2_beginAlong_101 rfl ?_
  refine mJ_iload dX2_beginAlong_103 rfl ?_
  refine mJ_iadd dX2_beginAlong_105 ?_
  exact mJ_iret dX2_beginAlong_106 rfl (by simp [v_beg, *]) (rfl)
set_option maxHeartbeats 4000000 in
set_option maxRecDepth 100000 in
theorem C_X2_middleAlong_0 {C : aF} {Hs : tH} {Sw : tS} {T1 : tT} {P1 : tP} {Od : tO} {T2 : tT} {P2 : tP} {h : Int32} : mCt k_X2_middleAlong [.ref 1, .int h, .int 0] (cH C Hs Sw T1 P1 Od T2 P2) (some (.int (v_mid C h 1 3))) (cH C Hs Sw T1 P1 Od T2 P2) := by
  refine mCt_intro (plainFor_of_name rfl) (Nat.le_of_ble_eq_true rfl) (m_all rfl) (ls := [_, _, _, _, _]) rfl ?_
  refine mJ_aload_n dX2_middleAlong_0 rfl ?_
  refine mJ_iload_n dX2_middleAlong_1 rfl ?_
  refine mJ_iconst (v := 0) dX2_middleAlong_2 rfl ?_
  refine mJ_cV2i dX2_middleAlong_3 e_X5_hintValue n_X2_9 ⟨Nat.le_of_ble_eq_true rfl, Nat.le_of_ble_eq_true rfl⟩ rfl rfl (Nat.le_of_ble_eq_true rfl) (C_X5_hintValue) ?_
  refine mJ_istore_n dX2_middleAlong_6 (Nat.le_of_ble_eq_true rfl) (ls2 := [_, _, _, _, _]) rfl ?_
  refine mJ_aload_n dX2_middleAlong_7 rfl ?_
  refine mJ_iload_n dX2_middleAlong_8 rfl ?_
  refine mJ_iload_n dX2_middleAlong_9 rfl ?_
  refine mJ_if_eq 17 dX2_middleAlong_10 rfl (fun _ => ?_) (fun c => absurd c (by decide))
  refine mJ_iconst (v := 3) dX2_middleAlong_17 rfl ?_
  refine mJ_cV2i dX2_middleAlong_18 e_X5_anchorValue n_X2_74 ⟨Nat.le_of_ble_eq_true rfl, Nat.le_of_ble_eq_true rfl⟩ rfl rfl (Nat.le_of_ble_eq_true rfl) (C_X5_anchorValue) ?_
  refine mJ_istore dX2_middleAlong_21 (Nat.le_of_ble_eq_true rfl) (ls2 := [_, _, _, _, _]) rfl ?_
  refine mJ_aload_n dX2_middleAlong_23 rfl ?_
  refine mJ_iload_n dX2_middleAlong_24 rfl ?_
  refine mJ_iload_n dX2_middleAlong_25 rfl ?_
  refine mJ_if_eq 33 dX2_middleAlong_26 rfl (fun _ => ?_) (fun c => absurd c (by decide))
  refine mJ_iconst (v := 1) dX2_middleAlong_33 rfl ?_
  refine mJ_cV2i dX2_middleAlong_34 e_X5_anchorValue n_X2_74 ⟨Nat.le_of_ble_eq_true rfl, Nat.le_of_ble_eq_true rfl⟩ rfl rfl (Nat.le_of_ble_eq_true rfl) (C_X5_anchorValue) ?_
  refine mJ_iload dX2_middleAlong_37 rfl ?_
  refine mJ_iconst (v := 2) dX2_middleAlong_39 rfl ?_
  refine mJ_cS2i dX2_middleAlong_40 e_J9_floorDiv_7cf53 n_X2_77 ⟨Nat.le_of_ble_eq_true rfl, Nat.le_of_ble_eq_true rfl⟩ (Nat.le_of_ble_eq_true rfl) (C_J9_floorDiv_7cf53) ?_
  refine mJ_iadd dX2_middleAlong_43 ?_
  exact mJ_iret dX2_middleAlong_44 rfl (rfl) (rfl)
set_option maxHeartbeats 4000000 in
set_option maxRecDepth 100000 in
theorem C_X2_shiftInto {C : aF} {Hs : tH} {Sw : tS} {T1 : tT} {P1 : tP} {Od : tO} {T2 : tT} {P2 : tP} {a b l m vb vl : Int32} : mCt k_X2_shiftInto [.int vb, .int vl, .int b, .int l, .int a, .int m] (cH C Hs Sw T1 P1 Od T2 P2) (some (.int (v_shi vb vl b l a m))) (cH C Hs Sw T1 P1 Od T2 P2) := by
  refine mCt_intro (plainFor_of_name rfl) (Nat.le_of_ble_eq_true rfl) (m_all rfl) (ls := [_, _, _, _, _, _, _, _]) rfl ?_
  refine mJ_iload_n dX2_shiftInto_0 rfl ?_
  refine mJ_iload_n dX2_shiftInto_1 rfl ?_
  refine mJ_icmp_le 7 dX2_shiftInto_2 rfl (fun c_2 => ?_) (fun c_2 => ?_)
  · refine mJ_iconst (v := 0) dX2_shiftInto_7 rfl ?_
    refine mJ_iload_n dX2_shiftInto_8 rfl ?_
    refine mJ_iload_n dX2_shiftInto_9 rfl ?_
    refine mJ_isub dX2_shiftInto_10 ?_
    refine mJ_cS2i dX2_shiftInto_11 e_J9_max_7cf53 n_X2_82 ⟨Nat.le_of_ble_eq_true rfl, Nat.le_of_ble_eq_true rfl⟩ (Nat.le_of_ble_eq_true rfl) (C_J9_max_7cf53) ?_
    refine mJ_istore dX2_shiftInto_14 (Nat.le_of_ble_eq_true rfl) (ls2 := [_, _, _, _, _, _, _, _]) rfl ?_
    refine mJ_iconst (v := 0) dX2_shiftInto_16 rfl ?_
    refine mJ_iload_n dX2_shiftInto_17 rfl ?_
    refine mJ_iload_n dX2_shiftInto_18 rfl ?_
    refine mJ_iadd dX2_shiftInto_19 ?_
    refine mJ_iload_n dX2_shiftInto_20 rfl ?_
    refine mJ_isub dX2_shiftInto_21 ?_
    refine mJ_iload_n dX2_shiftInto_22 rfl ?_
    refine mJ_isub dX2_shiftInto_23 ?_
    refine mJ_cS2i dX2_shiftInto_24 e_J9_max_7cf53 n_X2_82 ⟨Nat.le_of_ble_eq_true rfl, Nat.le_of_ble_eq_true rfl⟩ (Nat.le_of_ble_eq_true rfl) (C_J9_max_7cf53) ?_
    refine mJ_istore dX2_shiftInto_27 (Nat.le_of_ble_eq_true rfl) (ls2 := [_, _, _, _, _, _, _, _]) rfl ?_
    refine mJ_iload dX2_shiftInto_29 rfl ?_
    refine mJ_iload_n dX2_shiftInto_31 rfl ?_
    refine mJ_iload dX2_shiftInto_32 rfl ?_
    refine mJ_cS3i dX2_shiftInto_34 e_X2_isGood n_X2_46 ⟨Nat.le_of_ble_eq_true rfl, Nat.le_of_ble_eq_true rfl⟩ (Nat.le_of_ble_eq_true rfl) (C_X2_isGood) ?_
    refine mJ_b2i (fun b_34 => ?_) (fun b_34 => ?_)
    · refine mJ_if_eq 68 dX2_shiftInto_37 rfl (fun c => absurd c (by decide)) (fun _ => ?_)
      refine mJ_iload dX2_shiftInto_40 rfl ?_
      refine mJ_iload dX2_shiftInto_42 rfl ?_
      refine mJ_iload dX2_shiftInto_44 rfl ?_
      refine mJ_isub dX2_shiftInto_46 ?_
      refine mJ_cS2i dX2_shiftInto_47 e_J9_min_7cf53 n_X2_85 ⟨Nat.le_of_ble_eq_true rfl, Nat.le_of_ble_eq_true rfl⟩ (Nat.le_of_ble_eq_true rfl) (C_J9_min_7cf53) ?_
      refine mJ_istore dX2_shiftInto_50 (Nat.le_of_ble_eq_true rfl) (ls2 := [_, _, _, _, _, _, _, _]) rfl ?_
      refine mJ_iload dX2_shiftInto_52 rfl ?_
      refine mJ_iload_n dX2_shiftInto_54 rfl ?_
      refine mJ_iconst (v := 1) dX2_shiftInto_55 rfl ?_
      refine mJ_isub dX2_shiftInto_56 ?_
      refine mJ_iload dX2_shiftInto_57 rfl ?_
      refine mJ_isub dX2_shiftInto_59 ?_
      refine mJ_iload dX2_shiftInto_60 rfl ?_
      refine mJ_isub dX2_shiftInto_62 ?_
      refine mJ_cS2i dX2_shiftInto_63 e_J9_min_7cf53 n_X2_85 ⟨Nat.le_of_ble_eq_true rfl, Nat.le_of_ble_eq_true rfl⟩ (Nat.le_of_ble_eq_true rfl) (C_J9_min_7cf53) ?_
      refine mJ_istore dX2_shiftInto_66 (Nat.le_of_ble_eq_true rfl) (ls2 := [_, _, _, _, _, _, _, _]) rfl ?_
      refine mJ_iload dX2_shiftInto_68 rfl ?_
      refine mJ_iload dX2_shiftInto_70 rfl ?_
      refine mJ_isub dX2_shiftInto_72 ?_
      exact mJ_iret dX2_shiftInto_73 rfl (by simp [v_shi, iif_t, iif_f, *]) (rfl)
    · refine mJ_if_eq 68 dX2_shiftInto_37 rfl (fun _ => ?_) (fun c => absurd c (by decide))
      refine mJ_iload dX2_shiftInto_68 rfl ?_
      refine mJ_iload dX2_shiftInto_70 rfl ?_
      refine mJ_isub dX2_shiftInto_72 ?_
      exact mJ_iret dX2_shiftInto_73 rfl (by simp [v_shi, iif_t, iif_f, *]) (rfl)
  · refine mJ_iconst (v := 0) dX2_shiftInto_5 rfl ?_
    exact mJ_iret dX2_shiftInto_6 rfl (by simp [v_shi, iif_t, iif_f, *]) (rfl)
set_option maxHeartbeats 4000000 in
set_option maxRecDepth 100000 in
theorem C_X7_edgeBy {C : aF} {Hs : tH} {Sw : tS} {T1 : tT} {P1 : tP} {Od : tO} {T2 : tT} {P2 : tP} {a s : Int32} : mCt k_X7_edgeBy [.ref 1, .int a, .int s] (cH C Hs Sw T1 P1 Od T2 P2) (some (.int (v_edge C a s))) (cH C Hs Sw T1 P1 Od T2 P2) := by
  refine mCt_intro (plainFor_of_name rfl) (Nat.le_of_ble_eq_true rfl) (m_all rfl) (ls := [_, _, _, _, _, _]) rfl ?_
  refine mJ_iload_n dX7_edgeBy_0 rfl ?_
  refine mJ_cS1i dX7_edgeBy_1 e_X7_isLevel n_X7_175 ⟨Nat.le_of_ble_eq_true rfl, Nat.le_of_ble_eq_true rfl⟩ (Nat.le_of_ble_eq_true rfl) (C_X7_isLevel) ?_
  refine mJ_b2i (fun b_1 => ?_) (fun b_1 => ?_)
  · refine mJ_istore_n dX7_edgeBy_4 (Nat.le_of_ble_eq_true rfl) (ls2 := [_, _, _, _, _, _]) rfl ?_
    refine mJ_aload_n dX7_edgeBy_5 rfl ?_
    refine mJ_iload_n dX7_edgeBy_6 rfl ?_
    refine mJ_iload_n dX7_edgeBy_7 rfl ?_
    refine mJ_if_eq 15 dX7_edgeBy_8 rfl (fun c => absurd c (by decide)) (fun _ => ?_)
    refine mJ_iconst (v := 1) dX7_edgeBy_11 rfl ?_
    refine mJ_goto 16 dX7_edgeBy_12 rfl ?_
    refine mJ_cV2i dX7_edgeBy_16 e_X5_anchorValue n_X7_91 ⟨Nat.le_of_ble_eq_true rfl, Nat.le_of_ble_eq_true rfl⟩ rfl rfl (Nat.le_of_ble_eq_true rfl) (C_X5_anchorValue) ?_
    refine mJ_istore dX7_edgeBy_19 (Nat.le_of_ble_eq_true rfl) (ls2 := [_, _, _, _, _, _]) rfl ?_
    refine mJ_aload_n dX7_edgeBy_21 rfl ?_
    refine mJ_iconst (v := 0) dX7_edgeBy_22 rfl ?_
    refine mJ_cV1i dX7_edgeBy_23 e_X5_setting n_X7_108 ⟨Nat.le_of_ble_eq_true rfl, Nat.le_of_ble_eq_true rfl⟩ rfl rfl (Nat.le_of_ble_eq_true rfl) (C_X5_setting) ?_
    refine mJ_istore dX7_edgeBy_26 (Nat.le_of_ble_eq_true rfl) (ls2 := [_, _, _, _, _, _]) rfl ?_
    refine mJ_iload_n dX7_edgeBy_28 rfl ?_
    refine mJ_cS1i dX7_edgeBy_29 e_X7_isBefore n_X7_182 ⟨Nat.le_of_ble_eq_true rfl, Nat.le_of_ble_eq_true rfl⟩ (Nat.le_of_ble_eq_true rfl) (C_X7_isBefore) ?_
    refine mJ_b2i (fun b_29 => ?_) (fun b_29 => ?_)
    · refine mJ_if_eq 41 dX7_edgeBy_32 rfl (fun c => absurd c (by decide)) (fun _ => ?_)
      refine mJ_iload dX7_edgeBy_35 rfl ?_
      refine mJ_iload dX7_edgeBy_37 rfl ?_
      refine mJ_isub dX7_edgeBy_39 ?_
      exact mJ_iret dX7_edgeBy_40 rfl (by simp [v_edge, iif_t, iif_f, *]) (rfl)
    · refine mJ_if_eq 41 dX7_edgeBy_32 rfl (fun _ => ?_) (fun c => absurd c (by decide))
      refine mJ_iload dX7_edgeBy_41 rfl ?_
      refine mJ_aload_n dX7_edgeBy_43 rfl ?_
      refine mJ_iload_n dX7_edgeBy_44 rfl ?_
      refine mJ_iload_n dX7_edgeBy_45 rfl ?_
      refine mJ_if_eq 53 dX7_edgeBy_46 rfl (fun c => absurd c (by decide)) (fun _ => ?_)
      refine mJ_iconst (v := 3) dX7_edgeBy_49 rfl ?_
      refine mJ_goto 54 dX7_edgeBy_50 rfl ?_
      refine mJ_cV2i dX7_edgeBy_54 e_X5_anchorValue n_X7_91 ⟨Nat.le_of_ble_eq_true rfl, Nat.le_of_ble_eq_true rfl⟩ rfl rfl (Nat.le_of_ble_eq_true rfl) (C_X5_anchorValue) ?_
      refine mJ_iadd dX7_edgeBy_57 ?_
      refine mJ_iload dX7_edgeBy_58 rfl ?_
      refine mJ_iadd dX7_edgeBy_60 ?_
      exact mJ_iret dX7_edgeBy_61 rfl (by simp [v_edge, iif_t, iif_f, *]) (rfl)
  · refine mJ_istore_n dX7_edgeBy_4 (Nat.le_of_ble_eq_true rfl) (ls2 := [_, _, _, _, _, _]) rfl ?_
    refine mJ_aload_n dX7_edgeBy_5 rfl ?_
    refine mJ_iload_n dX7_edgeBy_6 rfl ?_
    refine mJ_iload_n dX7_edgeBy_7 rfl ?_
    refine mJ_if_eq 15 dX7_edgeBy_8 rfl (fun _ => ?_) (fun c => absurd c (by decide))
    refine mJ_iconst (v := 0) dX7_edgeBy_15 rfl ?_
    refine mJ_cV2i dX7_edgeBy_16 e_X5_anchorValue n_X7_91 ⟨Nat.le_of_ble_eq_true rfl, Nat.le_of_ble_eq_true rfl⟩ rfl rfl (Nat.le_of_ble_eq_true rfl) (C_X5_anchorValue) ?_
    refine mJ_istore dX7_edgeBy_19 (Nat.le_of_ble_eq_true rfl) (ls2 := [_, _, _, _, _, _]) rfl ?_
    refine mJ_aload_n dX7_edgeBy_21 rfl ?_
    refine mJ_iconst (v := 0) dX7_edgeBy_22 rfl ?_
    refine mJ_cV1i dX7_edgeBy_23 e_X5_setting n_X7_108 ⟨Nat.le_of_ble_eq_true rfl, Nat.le_of_ble_eq_true rfl⟩ rfl rfl (Nat.le_of_ble_eq_true rfl) (C_X5_setting) ?_
    refine mJ_istore dX7_edgeBy_26 (Nat.le_of_ble_eq_true rfl) (ls2 := [_, _, _, _, _, _]) rfl ?_
    refine mJ_iload_n dX7_edgeBy_28 rfl ?_
    refine mJ_cS1i dX7_edgeBy_29 e_X7_isBefore n_X7_182 ⟨Nat.le_of_ble_eq_true rfl, Nat.le_of_ble_eq_true rfl⟩ (Nat.le_of_ble_eq_true rfl) (C_X7_isBefore) ?_
    refine mJ_b2i (fun b_29 => ?_) (fun b_29 => ?_)
    · refine mJ_if_eq 41 dX7_edgeBy_32 rfl (fun c => absurd c (by decide)) (fun _ => ?_)
      refine mJ_iload dX7_edgeBy_35 rfl ?_
      refine mJ_iload dX7_edgeBy_37 rfl ?_
      refine mJ_isub dX7_edgeBy_39 ?_
      exact mJ_iret dX7_edgeBy_40 rfl (by simp [v_edge, iif_t, iif_f, *]) (rfl)
    · refine mJ_if_eq 41 dX7_edgeBy_32 rfl (fun _ => ?_) (fun c => absurd c (by decide))
      refine mJ_iload dX7_edgeBy_41 rfl ?_
      refine mJ_aload_n dX7_edgeBy_43 rfl ?_
      refine mJ_iload_n dX7_edgeBy_44 rfl ?_
      refine mJ_iload_n dX7_edgeBy_45 rfl ?_
      refine mJ_if_eq 53 dX7_edgeBy_46 rfl (fun _ => ?_) (fun c => absurd c (by decide))
      refine mJ_iconst (v := 2) dX7_edgeBy_53 rfl ?_
      refine mJ_cV2i dX7_edgeBy_54 e_X5_anchorValue n_X7_91 ⟨Nat.le_of_ble_eq_true rfl, Nat.le_of_ble_eq_true rfl⟩ rfl rfl (Nat.le_of_ble_eq_true rfl) (C_X5_anchorValue) ?_
      refine mJ_iadd dX7_edgeBy_57 ?_
      refine mJ_iload dX7_edgeBy_58 rfl ?_
      refine mJ_iadd dX7_edgeBy_60 ?_
      exact mJ_iret dX7_edgeBy_61 rfl (by simp [v_edge, iif_t, iif_f, *]) (rfl)
end
section
theorem mJ_put_21_0 {M : mM} {pc idx : Nat} {ls st : List Value} {h' : List mC} {r : Option Value} {C : aF} {Hs : tH} {Sw : tS} {T1 : tT} {Od : tO} {T2 : tT} {P2 : tP} {a0 : Int32} {a1 : Int32} {a2 : Int32} {a3 : Int32} {a4 : Int32} {a5 : Int32} {x : Int32} (hd : decode M.2.1 pc = .ok (.putfield idx, 3)) (hf : m_fldp M.1.cls idx 2 0 .int) (kk : mJ M (pc + 3) ls st (cH C Hs Sw T1 (x, a1, a2, a3, a4, a5) Od T2 P2) r h') : mJ M pc ls (.int x :: .ref 21 :: st) (cH C Hs Sw T1 (a0, a1, a2, a3, a4, a5) Od T2 P2) r h' :=
  mJ_put hd hf (h := (cH C Hs Sw T1 (a0, a1, a2, a3, a4, a5) Od T2 P2)) rfl (Nat.le_of_ble_eq_true rfl) rfl rfl rfl kk
theorem mJ_get_21_0 {M : mM} {pc idx : Nat} {ls st : List Value} {h' : List mC} {r : Option Value} {C : aF} {Hs : tH} {Sw : tS} {T1 : tT} {Od : tO} {T2 : tT} {P2 : tP} {a0 : Int32} {a1 : Int32} {a2 : Int32} {a3 : Int32} {a4 : Int32} {a5 : Int32} (hd : decode M.2.1 pc = .ok (.getfield idx, 3)) (hf : m_fld M.1.cls idx 2 0) (kk : mJ M (pc + 3) ls (.int a0 :: st) (cH C Hs Sw T1 (a0, a1, a2, a3, a4, a5) Od T2 P2) r h') : mJ M pc ls (.ref 21 :: st) (cH C Hs Sw T1 (a0, a1, a2, a3, a4, a5) Od T2 P2) r h' :=
  mJ_get hd hf (h := (cH C Hs Sw T1 (a0, a1, a2, a3, a4, a5) Od T2 P2)) rfl rfl kk
theorem mJ_put_21_1 {M : mM} {pc idx : Nat} {ls st : List Value} {h' : List mC} {r : Option Value} {C : aF} {Hs : tH} {Sw : tS} {T1 : tT} {Od : tO} {T2 : tT} {P2 : tP} {a0 : Int32} {a1 : Int32} {a2 : Int32} {a3 : Int32} {a4 : Int32} {a5 : Int32} {x : Int32} (hd : decode M.2.1 pc = .ok (.putfield idx, 3)) (hf : m_fldp M.1.cls idx 2 1 .int) (kk : mJ M (pc + 3) ls st (cH C Hs Sw T1 (a0, x, a2, a3, a4, a5) Od T2 P2) r h') : mJ M pc ls (.int x :: .ref 21 :: st) (cH C Hs Sw T1 (a0, a1, a2, a3, a4, a5) Od T2 P2) r h' :=
  mJ_put hd hf (h := (cH C Hs Sw T1 (a0, a1, a2, a3, a4, a5) Od T2 P2)) rfl (Nat.le_of_ble_eq_true rfl) rfl rfl rfl kk
theorem mJ_get_21_1 {M : mM} {pc idx : Nat} {ls st : List Value} {h' : List mC} {r : Option Value} {C : aF} {Hs : tH} {Sw : tS} {T1 : tT} {Od : tO} {T2 : tT} {P2 : tP} {a0 : Int32} {a1 : Int32} {a2 : Int32} {a3 : Int32} {a4 : Int32} {a5 : Int32} (hd : decode M.2.1 pc = .ok (.getfield idx, 3)) (hf : m_fld M.1.cls idx 2 1) (kk : mJ M (pc + 3) ls (.int a1 :: st) (cH C Hs Sw T1 (a0, a1, a2, a3, a4, a5) Od T2 P2) r h') : mJ M pc ls (.ref 21 :: st) (cH C Hs Sw T1 (a0, a1, a2, a3, a4, a5) Od T2 P2) r h' :=
  mJ_get hd hf (h := (cH C Hs Sw T1 (a0, a1, a2, a3, a4, a5) Od T2 P2)) rfl rfl kk
theorem mJ_put_21_2 {M : mM} {pc idx : Nat} {ls st : List Value} {h' : List mC} {r : Option Value} {C : aF} {Hs : tH} {Sw : tS} {T1 : tT} {Od : tO} {T2 : tT} {P2 : tP} {a0 : Int32} {a1 : Int32} {a2 : Int32} {a3 : Int32} {a4 : Int32} {a5 : Int32} {x : Int32} (hd : decode M.2.1 pc = .ok (.putfield idx, 3)) (hf : m_fldp M.1.cls idx 2 2 .int) (kk : mJ M (pc + 3) ls st (cH C Hs Sw T1 (a0, a1, x, a3, a4, a5) Od T2 P2) r h') : mJ M pc ls (.int x :: .ref 21 :: st) (cH C Hs Sw T1 (a0, a1, a2, a3, a4, a5) Od T2 P2) r h' :=
  mJ_put hd hf (h := (cH C Hs Sw T1 (a0, a1, a2, a3, a4, a5) Od T2 P2)) rfl (Nat.le_of_ble_eq_true rfl) rfl rfl rfl kk
theorem mJ_get_21_2 {M : mM} {pc idx : Nat} {ls st : List Value} {h' : List mC} {r : Option Value} {C : aF} {Hs : tH} {Sw : tS} {T1 : tT} {Od : tO} {T2 : tT} {P2 : tP} {a0 : Int32} {a1 : Int32} {a2 : Int32} {a3 : Int32} {a4 : Int32} {a5 : Int32} (hd : decode M.2.1 pc = .ok (.getfield idx, 3)) (hf : m_fld M.1.cls idx 2 2) (kk : mJ M (pc + 3) ls (.int a2 :: st) (cH C Hs Sw T1 (a0, a1, a2, a3, a4, a5) Od T2 P2) r h') : mJ M pc ls (.ref 21 :: st) (cH C Hs Sw T1 (a0, a1, a2, a3, a4, a5) Od T2 P2) r h' :=
  mJ_get hd hf (h := (cH C Hs Sw T1 (a0, a1, a2, a3, a4, a5) Od T2 P2)) rfl rfl kk
theorem mJ_put_21_3 {M : mM} {pc idx : Nat} {ls st : List Value} {h' : List mC} {r : Option Value} {C : aF} {Hs : tH} {Sw : tS} {T1 : tT} {Od : tO} {T2 : tT} {P2 : tP} {a0 : Int32} {a1 : Int32} {a2 : Int32} {a3 : Int32} {a4 : Int32} {a5 : Int32} {x : Int32} (hd : decode M.2.1 pc = .ok (.putfield idx, 3)) (hf : m_fldp M.1.cls idx 2 3 .int) (kk : mJ M (pc + 3) ls st (cH C Hs Sw T1 (a0, a1, a2, x, a4, a5) Od T2 P2) r h') : mJ M pc ls (.int x :: .ref 21 :: st) (cH C Hs Sw T1 (a0, a1, a2, a3, a4, a5) Od T2 P2) r h' :=
  mJ_put hd hf (h := (cH C Hs Sw T1 (a0, a1, a2, a3, a4, a5) Od T2 P2)) rfl (Nat.le_of_ble_eq_true rfl) rfl rfl rfl kk
theorem mJ_get_21_3 {M : mM} {pc idx : Nat} {ls st : List Value} {h' : List mC} {r : Option Value} {C : aF} {Hs : tH} {Sw : tS} {T1 : tT} {Od : tO} {T2 : tT} {P2 : tP} {a0 : Int32} {a1 : Int32} {a2 : Int32} {a3 : Int32} {a4 : Int32} {a5 : Int32} (hd : decode M.2.1 pc = .ok (.getfield idx, 3)) (hf : m_fld M.1.cls idx 2 3) (kk : mJ M (pc + 3) ls (.int a3 :: st) (cH C Hs Sw T1 (a0, a1, a2, a3, a4, a5) Od T2 P2) r h') : mJ M pc ls (.ref 21 :: st) (cH C Hs Sw T1 (a0, a1, a2, a3, a4, a5) Od T2 P2) r h' :=
  mJ_get hd hf (h := (cH C Hs Sw T1 (a0, a1, a2, a3, a4, a5) Od T2 P2)) rfl rfl kk
theorem mJ_put_21_4 {M : mM} {pc idx : Nat} {ls st : List Value} {h' : List mC} {r : Option Value} {C : aF} {Hs : tH} {Sw : tS} {T1 : tT} {Od : tO} {T2 : tT} {P2 : tP} {a0 : Int32} {a1 : Int32} {a2 : Int32} {a3 : Int32} {a4 : Int32} {a5 : Int32} {x : Int32} (hd : decode M.2.1 pc = .ok (.putfield idx, 3)) (hf : m_fldp M.1.cls idx 2 4 .boolean) (hz : x = 0 ∨ x = 1) (kk : mJ M (pc + 3) ls st (cH C Hs Sw T1 (a0, a1, a2, a3, x, a5) Od T2 P2) r h') : mJ M pc ls (.int x :: .ref 21 :: st) (cH C Hs Sw T1 (a0, a1, a2, a3, a4, a5) Od T2 P2) r h' :=
  mJ_put hd hf (h := (cH C Hs Sw T1 (a0, a1, a2, a3, a4, a5) Od T2 P2)) rfl (Nat.le_of_ble_eq_true rfl) (m_nz hz).1 (m_nz hz).2 rfl kk
theorem mJ_get_21_4 {M : mM} {pc idx : Nat} {ls st : List Value} {h' : List mC} {r : Option Value} {C : aF} {Hs : tH} {Sw : tS} {T1 : tT} {Od : tO} {T2 : tT} {P2 : tP} {a0 : Int32} {a1 : Int32} {a2 : Int32} {a3 : Int32} {a4 : Int32} {a5 : Int32} (hd : decode M.2.1 pc = .ok (.getfield idx, 3)) (hf : m_fld M.1.cls idx 2 4) (kk : mJ M (pc + 3) ls (.int a4 :: st) (cH C Hs Sw T1 (a0, a1, a2, a3, a4, a5) Od T2 P2) r h') : mJ M pc ls (.ref 21 :: st) (cH C Hs Sw T1 (a0, a1, a2, a3, a4, a5) Od T2 P2) r h' :=
  mJ_get hd hf (h := (cH C Hs Sw T1 (a0, a1, a2, a3, a4, a5) Od T2 P2)) rfl rfl kk
theorem mJ_put_21_5 {M : mM} {pc idx : Nat} {ls st : List Value} {h' : List mC} {r : Option Value} {C : aF} {Hs : tH} {Sw : tS} {T1 : tT} {Od : tO} {T2 : tT} {P2 : tP} {a0 : Int32} {a1 : Int32} {a2 : Int32} {a3 : Int32} {a4 : Int32} {a5 : Int32} {x : Int32} (hd : decode M.2.1 pc = .ok (.putfield idx, 3)) (hf : m_fldp M.1.cls idx 2 5 .boolean) (hz : x = 0 ∨ x = 1) (kk : mJ M (pc + 3) ls st (cH C Hs Sw T1 (a0, a1, a2, a3, a4, x) Od T2 P2) r h') : mJ M pc ls (.int x :: .ref 21 :: st) (cH C Hs Sw T1 (a0, a1, a2, a3, a4, a5) Od T2 P2) r h' :=
  mJ_put hd hf (h := (cH C Hs Sw T1 (a0, a1, a2, a3, a4, a5) Od T2 P2)) rfl (Nat.le_of_ble_eq_true rfl) (m_nz hz).1 (m_nz hz).2 rfl kk
theorem mJ_get_21_5 {M : mM} {pc idx : Nat} {ls st : List Value} {h' : List mC} {r : Option Value} {C : aF} {Hs : tH} {Sw : tS} {T1 : tT} {Od : tO} {T2 : tT} {P2 : tP} {a0 : Int32} {a1 : Int32} {a2 : Int32} {a3 : Int32} {a4 : Int32} {a5 : Int32} (hd : decode M.2.1 pc = .ok (.getfield idx, 3)) (hf : m_fld M.1.cls idx 2 5) (kk : mJ M (pc + 3) ls (.int a5 :: st) (cH C Hs Sw T1 (a0, a1, a2, a3, a4, a5) Od T2 P2) r h') : mJ M pc ls (.ref 21 :: st) (cH C Hs Sw T1 (a0, a1, a2, a3, a4, a5) Od T2 P2) r h' :=
  mJ_get hd hf (h := (cH C Hs Sw T1 (a0, a1, a2, a3, a4, a5) Od T2 P2)) rfl rfl kk
theorem mJ_put_28_0 {M : mM} {pc idx : Nat} {ls st : List Value} {h' : List mC} {r : Option Value} {C : aF} {Hs : tH} {Sw : tS} {T1 : tT} {P1 : tP} {Od : tO} {T2 : tT} {a0 : Int32} {a1 : Int32} {a2 : Int32} {a3 : Int32} {a4 : Int32} {a5 : Int32} {x : Int32} (hd : decode M.2.1 pc = .ok (.putfield idx, 3)) (hf : m_fldp M.1.cls idx 2 0 .int) (kk : mJ M (pc + 3) ls st (cH C Hs Sw T1 P1 Od T2 (x, a1, a2, a3, a4, a5)) r h') : mJ M pc ls (.int x :: .ref 28 :: st) (cH C Hs Sw T1 P1 Od T2 (a0, a1, a2, a3, a4, a5)) r h' :=
  mJ_put hd hf (h := (cH C Hs Sw T1 P1 Od T2 (a0, a1, a2, a3, a4, a5))) rfl (Nat.le_of_ble_eq_true rfl) rfl rfl rfl kk
theorem mJ_get_28_0 {M : mM} {pc idx : Nat} {ls st : List Value} {h' : List mC} {r : Option Value} {C : aF} {Hs : tH} {Sw : tS} {T1 : tT} {P1 : tP} {Od : tO} {T2 : tT} {a0 : Int32} {a1 : Int32} {a2 : Int32} {a3 : Int32} {a4 : Int32} {a5 : Int32} (hd : decode M.2.1 pc = .ok (.getfield idx, 3)) (hf : m_fld M.1.cls idx 2 0) (kk : mJ M (pc + 3) ls (.int a0 :: st) (cH C Hs Sw T1 P1 Od T2 (a0, a1, a2, a3, a4, a5)) r h') : mJ M pc ls (.ref 28 :: st) (cH C Hs Sw T1 P1 Od T2 (a0, a1, a2, a3, a4, a5)) r h' :=
  mJ_get hd hf (h := (cH C Hs Sw T1 P1 Od T2 (a0, a1, a2, a3, a4, a5))) rfl rfl kk
theorem mJ_put_28_1 {M : mM} {pc idx : Nat} {ls st : List Value} {h' : List mC} {r : Option Value} {C : aF} {Hs : tH} {Sw : tS} {T1 : tT} {P1 : tP} {Od : tO} {T2 : tT} {a0 : Int32} {a1 : Int32} {a2 : Int32} {a3 : Int32} {a4 : Int32} {a5 : Int32} {x : Int32} (hd : decode M.2.1 pc = .ok (.putfield idx, 3)) (hf : m_fldp M.1.cls idx 2 1 .int) (kk : mJ M (pc + 3) ls st (cH C Hs Sw T1 P1 Od T2 (a0, x, a2, a3, a4, a5)) r h') : mJ M pc ls (.int x :: .ref 28 :: st) (cH C Hs Sw T1 P1 Od T2 (a0, a1, a2, a3, a4, a5)) r h' :=
  mJ_put hd hf (h := (cH C Hs Sw T1 P1 Od T2 (a0, a1, a2, a3, a4, a5))) rfl (Nat.le_of_ble_eq_true rfl) rfl rfl rfl kk
theorem mJ_get_28_1 {M : mM} {pc idx : Nat} {ls st : List Value} {h' : List mC} {r : Option Value} {C : aF} {Hs : tH} {Sw : tS} {T1 : tT} {P1 : tP} {Od : tO} {T2 : tT} {a0 : Int32} {a1 : Int32} {a2 : Int32} {a3 : Int32} {a4 : Int32} {a5 : Int32} (hd : decode M.2.1 pc = .ok (.getfield idx, 3)) (hf : m_fld M.1.cls idx 2 1) (kk : mJ M (pc + 3) ls (.int a1 :: st) (cH C Hs Sw T1 P1 Od T2 (a0, a1, a2, a3, a4, a5)) r h') : mJ M pc ls (.ref 28 :: st) (cH C Hs Sw T1 P1 Od T2 (a0, a1, a2, a3, a4, a5)) r h' :=
  mJ_get hd hf (h := (cH C Hs Sw T1 P1 Od T2 (a0, a1, a2, a3, a4, a5))) rfl rfl kk
theorem mJ_put_28_2 {M : mM} {pc idx : Nat} {ls st : List Value} {h' : List mC} {r : Option Value} {C : aF} {Hs : tH} {Sw : tS} {T1 : tT} {P1 : tP} {Od : tO} {T2 : tT} {a0 : Int32} {a1 : Int32} {a2 : Int32} {a3 : Int32} {a4 : Int32} {a5 : Int32} {x : Int32} (hd : decode M.2.1 pc = .ok (.putfield idx, 3)) (hf : m_fldp M.1.cls idx 2 2 .int) (kk : mJ M (pc + 3) ls st (cH C Hs Sw T1 P1 Od T2 (a0, a1, x, a3, a4, a5)) r h') : mJ M pc ls (.int x :: .ref 28 :: st) (cH C Hs Sw T1 P1 Od T2 (a0, a1, a2, a3, a4, a5)) r h' :=
  mJ_put hd hf (h := (cH C Hs Sw T1 P1 Od T2 (a0, a1, a2, a3, a4, a5))) rfl (Nat.le_of_ble_eq_true rfl) rfl rfl rfl kk
theorem mJ_get_28_2 {M : mM} {pc idx : Nat} {ls st : List Value} {h' : List mC} {r : Option Value} {C : aF} {Hs : tH} {Sw : tS} {T1 : tT} {P1 : tP} {Od : tO} {T2 : tT} {a0 : Int32} {a1 : Int32} {a2 : Int32} {a3 : Int32} {a4 : Int32} {a5 : Int32} (hd : decode M.2.1 pc = .ok (.getfield idx, 3)) (hf : m_fld M.1.cls idx 2 2) (kk : mJ M (pc + 3) ls (.int a2 :: st) (cH C Hs Sw T1 P1 Od T2 (a0, a1, a2, a3, a4, a5)) r h') : mJ M pc ls (.ref 28 :: st) (cH C Hs Sw T1 P1 Od T2 (a0, a1, a2, a3, a4, a5)) r h' :=
  mJ_get hd hf (h := (cH C Hs Sw T1 P1 Od T2 (a0, a1, a2, a3, a4, a5))) rfl rfl kk
theorem mJ_put_28_3 {M : mM} {pc idx : Nat} {ls st : List Value} {h' : List mC} {r : Option Value} {C : aF} {Hs : tH} {Sw : tS} {T1 : tT} {P1 : tP} {Od : tO} {T2 : tT} {a0 : Int32} {a1 : Int32} {a2 : Int32} {a3 : Int32} {a4 : Int32} {a5 : Int32} {x : Int32} (hd : decode M.2.1 pc = .ok (.putfield idx, 3)) (hf : m_fldp M.1.cls idx 2 3 .int) (kk : mJ M (pc + 3) ls st (cH C Hs Sw T1 P1 Od T2 (a0, a1, a2, x, a4, a5)) r h') : mJ M pc ls (.int x :: .ref 28 :: st) (cH C Hs Sw T1 P1 Od T2 (a0, a1, a2, a3, a4, a5)) r h' :=
  mJ_put hd hf (h := (cH C Hs Sw T1 P1 Od T2 (a0, a1, a2, a3, a4, a5))) rfl (Nat.le_of_ble_eq_true rfl) rfl rfl rfl kk
theorem mJ_get_28_3 {M : mM} {pc idx : Nat} {ls st : List Value} {h' : List mC} {r : Option Value} {C : aF} {Hs : tH} {Sw : tS} {T1 : tT} {P1 : tP} {Od : tO} {T2 : tT} {a0 : Int32} {a1 : Int32} {a2 : Int32} {a3 : Int32} {a4 : Int32} {a5 : Int32} (hd : decode M.2.1 pc = .ok (.getfield idx, 3)) (hf : m_fld M.1.cls idx 2 3) (kk : mJ M (pc + 3) ls (.int a3 :: st) (cH C Hs Sw T1 P1 Od T2 (a0, a1, a2, a3, a4, a5)) r h') : mJ M pc ls (.ref 28 :: st) (cH C Hs Sw T1 P1 Od T2 (a0, a1, a2, a3, a4, a5)) r h' :=
  mJ_get hd hf (h := (cH C Hs Sw T1 P1 Od T2 (a0, a1, a2, a3, a4, a5))) rfl rfl kk
theorem mJ_put_28_4 {M : mM} {pc idx : Nat} {ls st : List Value} {h' : List mC} {r : Option Value} {C : aF} {Hs : tH} {Sw : tS} {T1 : tT} {P1 : tP} {Od : tO} {T2 : tT} {a0 : Int32} {a1 : Int32} {a2 : Int32} {a3 : Int32} {a4 : Int32} {a5 : Int32} {x : Int32} (hd : decode M.2.1 pc = .ok (.putfield idx, 3)) (hf : m_fldp M.1.cls idx 2 4 .boolean) (hz : x = 0 ∨ x = 1) (kk : mJ M (pc + 3) ls st (cH C Hs Sw T1 P1 Od T2 (a0, a1, a2, a3, x, a5)) r h') : mJ M pc ls (.int x :: .ref 28 :: st) (cH C Hs Sw T1 P1 Od T2 (a0, a1, a2, a3, a4, a5)) r h' :=
  mJ_put hd hf (h := (cH C Hs Sw T1 P1 Od T2 (a0, a1, a2, a3, a4, a5))) rfl (Nat.le_of_ble_eq_true rfl) (m_nz hz).1 (m_nz hz).2 rfl kk
theorem mJ_get_28_4 {M : mM} {pc idx : Nat} {ls st : List Value} {h' : List mC} {r : Option Value} {C : aF} {Hs : tH} {Sw : tS} {T1 : tT} {P1 : tP} {Od : tO} {T2 : tT} {a0 : Int32} {a1 : Int32} {a2 : Int32} {a3 : Int32} {a4 : Int32} {a5 : Int32} (hd : decode M.2.1 pc = .ok (.getfield idx, 3)) (hf : m_fld M.1.cls idx 2 4) (kk : mJ M (pc + 3) ls (.int a4 :: st) (cH C Hs Sw T1 P1 Od T2 (a0, a1, a2, a3, a4, a5)) r h') : mJ M pc ls (.ref 28 :: st) (cH C Hs Sw T1 P1 Od T2 (a0, a1, a2, a3, a4, a5)) r h' :=
  mJ_get hd hf (h := (cH C Hs Sw T1 P1 Od T2 (a0, a1, a2, a3, a4, a5))) rfl rfl kk
theorem mJ_put_28_5 {M : mM} {pc idx : Nat} {ls st : List Value} {h' : List mC} {r : Option Value} {C : aF} {Hs : tH} {Sw : tS} {T1 : tT} {P1 : tP} {Od : tO} {T2 : tT} {a0 : Int32} {a1 : Int32} {a2 : Int32} {a3 : Int32} {a4 : Int32} {a5 : Int32} {x : Int32} (hd : decode M.2.1 pc = .ok (.putfield idx, 3)) (hf : m_fldp M.1.cls idx 2 5 .boolean) (hz : x = 0 ∨ x = 1) (kk : mJ M (pc + 3) ls st (cH C Hs Sw T1 P1 Od T2 (a0, a1, a2, a3, a4, x)) r h') : mJ M pc ls (.int x :: .ref 28 :: st) (cH C Hs Sw T1 P1 Od T2 (a0, a1, a2, a3, a4, a5)) r h' :=
  mJ_put hd hf (h := (cH C Hs Sw T1 P1 Od T2 (a0, a1, a2, a3, a4, a5))) rfl (Nat.le_of_ble_eq_true rfl) (m_nz hz).1 (m_nz hz).2 rfl kk
theorem mJ_get_28_5 {M : mM} {pc idx : Nat} {ls st : List Value} {h' : List mC} {r : Option Value} {C : aF} {Hs : tH} {Sw : tS} {T1 : tT} {P1 : tP} {Od : tO} {T2 : tT} {a0 : Int32} {a1 : Int32} {a2 : Int32} {a3 : Int32} {a4 : Int32} {a5 : Int32} (hd : decode M.2.1 pc = .ok (.getfield idx, 3)) (hf : m_fld M.1.cls idx 2 5) (kk : mJ M (pc + 3) ls (.int a5 :: st) (cH C Hs Sw T1 P1 Od T2 (a0, a1, a2, a3, a4, a5)) r h') : mJ M pc ls (.ref 28 :: st) (cH C Hs Sw T1 P1 Od T2 (a0, a1, a2, a3, a4, a5)) r h' :=
  mJ_get hd hf (h := (cH C Hs Sw T1 P1 Od T2 (a0, a1, a2, a3, a4, a5))) rfl rfl kk
theorem mJ_put_22_1 {M : mM} {pc idx : Nat} {ls st : List Value} {h' : List mC} {r : Option Value} {C : aF} {Hs : tH} {Sw : tS} {T1 : tT} {P1 : tP} {T2 : tT} {P2 : tP} {a0 : aF} {a1 : Int32} {a2 : Int32} {a3 : Int32} {a4 : Int32} {a5 : Int32} {a6 : Int32} {a7 : Int32} {x : Int32} (hd : decode M.2.1 pc = .ok (.putfield idx, 3)) (hf : m_fldp M.1.cls idx 1 1 .int) (kk : mJ M (pc + 3) ls st (cH C Hs Sw T1 P1 (a0, x, a2, a3, a4, a5, a6, a7) T2 P2) r h') : mJ M pc ls (.int x :: .ref 22 :: st) (cH C Hs Sw T1 P1 (a0, a1, a2, a3, a4, a5, a6, a7) T2 P2) r h' :=
  mJ_put hd hf (h := (cH C Hs Sw T1 P1 (a0, a1, a2, a3, a4, a5, a6, a7) T2 P2)) rfl (Nat.le_of_ble_eq_true rfl) rfl rfl rfl kk
theorem mJ_get_22_1 {M : mM} {pc idx : Nat} {ls st : List Value} {h' : List mC} {r : Option Value} {C : aF} {Hs : tH} {Sw : tS} {T1 : tT} {P1 : tP} {T2 : tT} {P2 : tP} {a0 : aF} {a1 : Int32} {a2 : Int32} {a3 : Int32} {a4 : Int32} {a5 : Int32} {a6 : Int32} {a7 : Int32} (hd : decode M.2.1 pc = .ok (.getfield idx, 3)) (hf : m_fld M.1.cls idx 1 1) (kk : mJ M (pc + 3) ls (.int a1 :: st) (cH C Hs Sw T1 P1 (a0, a1, a2, a3, a4, a5, a6, a7) T2 P2) r h') : mJ M pc ls (.ref 22 :: st) (cH C Hs Sw T1 P1 (a0, a1, a2, a3, a4, a5, a6, a7) T2 P2) r h' :=
  mJ_get hd hf (h := (cH C Hs Sw T1 P1 (a0, a1, a2, a3, a4, a5, a6, a7) T2 P2)) rfl rfl kk
theorem mJ_put_22_2 {M : mM} {pc idx : Nat} {ls st : List Value} {h' : List mC} {r : Option Value} {C : aF} {Hs : tH} {Sw : tS} {T1 : tT} {P1 : tP} {T2 : tT} {P2 : tP} {a0 : aF} {a1 : Int32} {a2 : Int32} {a3 : Int32} {a4 : Int32} {a5 : Int32} {a6 : Int32} {a7 : Int32} {x : Int32} (hd : decode M.2.1 pc = .ok (.putfield idx, 3)) (hf : m_fldp M.1.cls idx 1 2 .int) (kk : mJ M (pc + 3) ls st (cH C Hs Sw T1 P1 (a0, a1, x, a3, a4, a5, a6, a7) T2 P2) r h') : mJ M pc ls (.int x :: .ref 22 :: st) (cH C Hs Sw T1 P1 (a0, a1, a2, a3, a4, a5, a6, a7) T2 P2) r h' :=
  mJ_put hd hf (h := (cH C Hs Sw T1 P1 (a0, a1, a2, a3, a4, a5, a6, a7) T2 P2)) rfl (Nat.le_of_ble_eq_true rfl) rfl rfl rfl kk
theorem mJ_get_22_2 {M : mM} {pc idx : Nat} {ls st : List Value} {h' : List mC} {r : Option Value} {C : aF} {Hs : tH} {Sw : tS} {T1 : tT} {P1 : tP} {T2 : tT} {P2 : tP} {a0 : aF} {a1 : Int32} {a2 : Int32} {a3 : Int32} {a4 : Int32} {a5 : Int32} {a6 : Int32} {a7 : Int32} (hd : decode M.2.1 pc = .ok (.getfield idx, 3)) (hf : m_fld M.1.cls idx 1 2) (kk : mJ M (pc + 3) ls (.int a2 :: st) (cH C Hs Sw T1 P1 (a0, a1, a2, a3, a4, a5, a6, a7) T2 P2) r h') : mJ M pc ls (.ref 22 :: st) (cH C Hs Sw T1 P1 (a0, a1, a2, a3, a4, a5, a6, a7) T2 P2) r h' :=
  mJ_get hd hf (h := (cH C Hs Sw T1 P1 (a0, a1, a2, a3, a4, a5, a6, a7) T2 P2)) rfl rfl kk
theorem mJ_put_22_3 {M : mM} {pc idx : Nat} {ls st : List Value} {h' : List mC} {r : Option Value} {C : aF} {Hs : tH} {Sw : tS} {T1 : tT} {P1 : tP} {T2 : tT} {P2 : tP} {a0 : aF} {a1 : Int32} {a2 : Int32} {a3 : Int32} {a4 : Int32} {a5 : Int32} {a6 : Int32} {a7 : Int32} {x : Int32} (hd : decode M.2.1 pc = .ok (.putfield idx, 3)) (hf : m_fldp M.1.cls idx 1 3 .int) (kk : mJ M (pc + 3) ls st (cH C Hs Sw T1 P1 (a0, a1, a2, x, a4, a5, a6, a7) T2 P2) r h') : mJ M pc ls (.int x :: .ref 22 :: st) (cH C Hs Sw T1 P1 (a0, a1, a2, a3, a4, a5, a6, a7) T2 P2) r h' :=
  mJ_put hd hf (h := (cH C Hs Sw T1 P1 (a0, a1, a2, a3, a4, a5, a6, a7) T2 P2)) rfl (Nat.le_of_ble_eq_true rfl) rfl rfl rfl kk
theorem mJ_get_22_3 {M : mM} {pc idx : Nat} {ls st : List Value} {h' : List mC} {r : Option Value} {C : aF} {Hs : tH} {Sw : tS} {T1 : tT} {P1 : tP} {T2 : tT} {P2 : tP} {a0 : aF} {a1 : Int32} {a2 : Int32} {a3 : Int32} {a4 : Int32} {a5 : Int32} {a6 : Int32} {a7 : Int32} (hd : decode M.2.1 pc = .ok (.getfield idx, 3)) (hf : m_fld M.1.cls idx 1 3) (kk : mJ M (pc + 3) ls (.int a3 :: st) (cH C Hs Sw T1 P1 (a0, a1, a2, a3, a4, a5, a6, a7) T2 P2) r h') : mJ M pc ls (.ref 22 :: st) (cH C Hs Sw T1 P1 (a0, a1, a2, a3, a4, a5, a6, a7) T2 P2) r h' :=
  mJ_get hd hf (h := (cH C Hs Sw T1 P1 (a0, a1, a2, a3, a4, a5, a6, a7) T2 P2)) rfl rfl kk
theorem mJ_put_22_4 {M : mM} {pc idx : Nat} {ls st : List Value} {h' : List mC} {r : Option Value} {C : aF} {Hs : tH} {Sw : tS} {T1 : tT} {P1 : tP} {T2 : tT} {P2 : tP} {a0 : aF} {a1 : Int32} {a2 : Int32} {a3 : Int32} {a4 : Int32} {a5 : Int32} {a6 : Int32} {a7 : Int32} {x : Int32} (hd : decode M.2.1 pc = .ok (.putfield idx, 3)) (hf : m_fldp M.1.cls idx 1 4 .int) (kk : mJ M (pc + 3) ls st (cH C Hs Sw T1 P1 (a0, a1, a2, a3, x, a5, a6, a7) T2 P2) r h') : mJ M pc ls (.int x :: .ref 22 :: st) (cH C Hs Sw T1 P1 (a0, a1, a2, a3, a4, a5, a6, a7) T2 P2) r h' :=
  mJ_put hd hf (h := (cH C Hs Sw T1 P1 (a0, a1, a2, a3, a4, a5, a6, a7) T2 P2)) rfl (Nat.le_of_ble_eq_true rfl) rfl rfl rfl kk
theorem mJ_get_22_4 {M : mM} {pc idx : Nat} {ls st : List Value} {h' : List mC} {r : Option Value} {C : aF} {Hs : tH} {Sw : tS} {T1 : tT} {P1 : tP} {T2 : tT} {P2 : tP} {a0 : aF} {a1 : Int32} {a2 : Int32} {a3 : Int32} {a4 : Int32} {a5 : Int32} {a6 : Int32} {a7 : Int32} (hd : decode M.2.1 pc = .ok (.getfield idx, 3)) (hf : m_fld M.1.cls idx 1 4) (kk : mJ M (pc + 3) ls (.int a4 :: st) (cH C Hs Sw T1 P1 (a0, a1, a2, a3, a4, a5, a6, a7) T2 P2) r h') : mJ M pc ls (.ref 22 :: st) (cH C Hs Sw T1 P1 (a0, a1, a2, a3, a4, a5, a6, a7) T2 P2) r h' :=
  mJ_get hd hf (h := (cH C Hs Sw T1 P1 (a0, a1, a2, a3, a4, a5, a6, a7) T2 P2)) rfl rfl kk
theorem mJ_put_22_5 {M : mM} {pc idx : Nat} {ls st : List Value} {h' : List mC} {r : Option Value} {C : aF} {Hs : tH} {Sw : tS} {T1 : tT} {P1 : tP} {T2 : tT} {P2 : tP} {a0 : aF} {a1 : Int32} {a2 : Int32} {a3 : Int32} {a4 : Int32} {a5 : Int32} {a6 : Int32} {a7 : Int32} {x : Int32} (hd : decode M.2.1 pc = .ok (.putfield idx, 3)) (hf : m_fldp M.1.cls idx 1 5 .int) (kk : mJ M (pc + 3) ls st (cH C Hs Sw T1 P1 (a0, a1, a2, a3, a4, x, a6, a7) T2 P2) r h') : mJ M pc ls (.int x :: .ref 22 :: st) (cH C Hs Sw T1 P1 (a0, a1, a2, a3, a4, a5, a6, a7) T2 P2) r h' :=
  mJ_put hd hf (h := (cH C Hs Sw T1 P1 (a0, a1, a2, a3, a4, a5, a6, a7) T2 P2)) rfl (Nat.le_of_ble_eq_true rfl) rfl rfl rfl kk
theorem mJ_get_22_5 {M : mM} {pc idx : Nat} {ls st : List Value} {h' : List mC} {r : Option Value} {C : aF} {Hs : tH} {Sw : tS} {T1 : tT} {P1 : tP} {T2 : tT} {P2 : tP} {a0 : aF} {a1 : Int32} {a2 : Int32} {a3 : Int32} {a4 : Int32} {a5 : Int32} {a6 : Int32} {a7 : Int32} (hd : decode M.2.1 pc = .ok (.getfield idx, 3)) (hf : m_fld M.1.cls idx 1 5) (kk : mJ M (pc + 3) ls (.int a5 :: st) (cH C Hs Sw T1 P1 (a0, a1, a2, a3, a4, a5, a6, a7) T2 P2) r h') : mJ M pc ls (.ref 22 :: st) (cH C Hs Sw T1 P1 (a0, a1, a2, a3, a4, a5, a6, a7) T2 P2) r h' :=
  mJ_get hd hf (h := (cH C Hs Sw T1 P1 (a0, a1, a2, a3, a4, a5, a6, a7) T2 P2)) rfl rfl kk
theorem mJ_put_22_6 {M : mM} {pc idx : Nat} {ls st : List Value} {h' : List mC} {r : Option Value} {C : aF} {Hs : tH} {Sw : tS} {T1 : tT} {P1 : tP} {T2 : tT} {P2 : tP} {a0 : aF} {a1 : Int32} {a2 : Int32} {a3 : Int32} {a4 : Int32} {a5 : Int32} {a6 : Int32} {a7 : Int32} {x : Int32} (hd : decode M.2.1 pc = .ok (.putfield idx, 3)) (hf : m_fldp M.1.cls idx 1 6 .int) (kk : mJ M (pc + 3) ls st (cH C Hs Sw T1 P1 (a0, a1, a2, a3, a4, a5, x, a7) T2 P2) r h') : mJ M pc ls (.int x :: .ref 22 :: st) (cH C Hs Sw T1 P1 (a0, a1, a2, a3, a4, a5, a6, a7) T2 P2) r h' :=
  mJ_put hd hf (h := (cH C Hs Sw T1 P1 (a0, a1, a2, a3, a4, a5, a6, a7) T2 P2)) rfl (Nat.le_of_ble_eq_true rfl) rfl rfl rfl kk
theorem mJ_get_22_6 {M : mM} {pc idx : Nat} {ls st : List Value} {h' : List mC} {r : Option Value} {C : aF} {Hs : tH} {Sw : tS} {T1 : tT} {P1 : tP} {T2 : tT} {P2 : tP} {a0 : aF} {a1 : Int32} {a2 : Int32} {a3 : Int32} {a4 : Int32} {a5 : Int32} {a6 : Int32} {a7 : Int32} (hd : decode M.2.1 pc = .ok (.getfield idx, 3)) (hf : m_fld M.1.cls idx 1 6) (kk : mJ M (pc + 3) ls (.int a6 :: st) (cH C Hs Sw T1 P1 (a0, a1, a2, a3, a4, a5, a6, a7) T2 P2) r h') : mJ M pc ls (.ref 22 :: st) (cH C Hs Sw T1 P1 (a0, a1, a2, a3, a4, a5, a6, a7) T2 P2) r h' :=
  mJ_get hd hf (h := (cH C Hs Sw T1 P1 (a0, a1, a2, a3, a4, a5, a6, a7) T2 P2)) rfl rfl kk
theorem mJ_put_22_7 {M : mM} {pc idx : Nat} {ls st : List Value} {h' : List mC} {r : Option Value} {C : aF} {Hs : tH} {Sw : tS} {T1 : tT} {P1 : tP} {T2 : tT} {P2 : tP} {a0 : aF} {a1 : Int32} {a2 : Int32} {a3 : Int32} {a4 : Int32} {a5 : Int32} {a6 : Int32} {a7 : Int32} {x : Int32} (hd : decode M.2.1 pc = .ok (.putfield idx, 3)) (hf : m_fldp M.1.cls idx 1 7 .int) (kk : mJ M (pc + 3) ls st (cH C Hs Sw T1 P1 (a0, a1, a2, a3, a4, a5, a6, x) T2 P2) r h') : mJ M pc ls (.int x :: .ref 22 :: st) (cH C Hs Sw T1 P1 (a0, a1, a2, a3, a4, a5, a6, a7) T2 P2) r h' :=
  mJ_put hd hf (h := (cH C Hs Sw T1 P1 (a0, a1, a2, a3, a4, a5, a6, a7) T2 P2)) rfl (Nat.le_of_ble_eq_true rfl) rfl rfl rfl kk
theorem mJ_get_22_7 {M : mM} {pc idx : Nat} {ls st : List Value} {h' : List mC} {r : Option Value} {C : aF} {Hs : tH} {Sw : tS} {T1 : tT} {P1 : tP} {T2 : tT} {P2 : tP} {a0 : aF} {a1 : Int32} {a2 : Int32} {a3 : Int32} {a4 : Int32} {a5 : Int32} {a6 : Int32} {a7 : Int32} (hd : decode M.2.1 pc = .ok (.getfield idx, 3)) (hf : m_fld M.1.cls idx 1 7) (kk : mJ M (pc + 3) ls (.int a7 :: st) (cH C Hs Sw T1 P1 (a0, a1, a2, a3, a4, a5, a6, a7) T2 P2) r h') : mJ M pc ls (.ref 22 :: st) (cH C Hs Sw T1 P1 (a0, a1, a2, a3, a4, a5, a6, a7) T2 P2) r h' :=
  mJ_get hd hf (h := (cH C Hs Sw T1 P1 (a0, a1, a2, a3, a4, a5, a6, a7) T2 P2)) rfl rfl kk
theorem mJ_put_4_1 {M : mM} {pc idx : Nat} {ls st : List Value} {h' : List mC} {r : Option Value} {C : aF} {Sw : tS} {T1 : tT} {P1 : tP} {Od : tO} {T2 : tT} {P2 : tP} {a0 : aF} {a1 : Int32} {a2 : Int32} {x : Int32} (hd : decode M.2.1 pc = .ok (.putfield idx, 3)) (hf : m_fldp M.1.cls idx 0 1 .int) (kk : mJ M (pc + 3) ls st (cH C (a0, x, a2) Sw T1 P1 Od T2 P2) r h') : mJ M pc ls (.int x :: .ref 4 :: st) (cH C (a0, a1, a2) Sw T1 P1 Od T2 P2) r h' :=
  mJ_put hd hf (h := (cH C (a0, a1, a2) Sw T1 P1 Od T2 P2)) rfl (Nat.le_of_ble_eq_true rfl) rfl rfl rfl kk
theorem mJ_get_4_1 {M : mM} {pc idx : Nat} {ls st : List Value} {h' : List mC} {r : Option Value} {C : aF} {Sw : tS} {T1 : tT} {P1 : tP} {Od : tO} {T2 : tT} {P2 : tP} {a0 : aF} {a1 : Int32} {a2 : Int32} (hd : decode M.2.1 pc = .ok (.getfield idx, 3)) (hf : m_fld M.1.cls idx 0 1) (kk : mJ M (pc + 3) ls (.int a1 :: st) (cH C (a0, a1, a2) Sw T1 P1 Od T2 P2) r h') : mJ M pc ls (.ref 4 :: st) (cH C (a0, a1, a2) Sw T1 P1 Od T2 P2) r h' :=
  mJ_get hd hf (h := (cH C (a0, a1, a2) Sw T1 P1 Od T2 P2)) rfl rfl kk
theorem mJ_put_4_2 {M : mM} {pc idx : Nat} {ls st : List Value} {h' : List mC} {r : Option Value} {C : aF} {Sw : tS} {T1 : tT} {P1 : tP} {Od : tO} {T2 : tT} {P2 : tP} {a0 : aF} {a1 : Int32} {a2 : Int32} {x : Int32} (hd : decode M.2.1 pc = .ok (.putfield idx, 3)) (hf : m_fldp M.1.cls idx 0 2 .int) (kk : mJ M (pc + 3) ls st (cH C (a0, a1, x) Sw T1 P1 Od T2 P2) r h') : mJ M pc ls (.int x :: .ref 4 :: st) (cH C (a0, a1, a2) Sw T1 P1 Od T2 P2) r h' :=
  mJ_put hd hf (h := (cH C (a0, a1, a2) Sw T1 P1 Od T2 P2)) rfl (Nat.le_of_ble_eq_true rfl) rfl rfl rfl kk
theorem mJ_get_4_2 {M : mM} {pc idx : Nat} {ls st : List Value} {h' : List mC} {r : Option Value} {C : aF} {Sw : tS} {T1 : tT} {P1 : tP} {Od : tO} {T2 : tT} {P2 : tP} {a0 : aF} {a1 : Int32} {a2 : Int32} (hd : decode M.2.1 pc = .ok (.getfield idx, 3)) (hf : m_fld M.1.cls idx 0 2) (kk : mJ M (pc + 3) ls (.int a2 :: st) (cH C (a0, a1, a2) Sw T1 P1 Od T2 P2) r h') : mJ M pc ls (.ref 4 :: st) (cH C (a0, a1, a2) Sw T1 P1 Od T2 P2) r h' :=
  mJ_get hd hf (h := (cH C (a0, a1, a2) Sw T1 P1 Od T2 P2)) rfl rfl kk
theorem mJ_put_7_7 {M : mM} {pc idx : Nat} {ls st : List Value} {h' : List mC} {r : Option Value} {C : aF} {Hs : tH} {T1 : tT} {P1 : tP} {Od : tO} {T2 : tT} {P2 : tP} {a0 : aF} {a1 : aF} {a2 : aF} {a3 : aF} {a4 : aF} {a5 : Int32} {x : Int32} (hd : decode M.2.1 pc = .ok (.putfield idx, 3)) (hf : m_fldp M.1.cls idx 4 7 .int) (kk : mJ M (pc + 3) ls st (cH C Hs (a0, a1, a2, a3, a4, x) T1 P1 Od T2 P2) r h') : mJ M pc ls (.int x :: .ref 7 :: st) (cH C Hs (a0, a1, a2, a3, a4, a5) T1 P1 Od T2 P2) r h' :=
  mJ_put hd hf (h := (cH C Hs (a0, a1, a2, a3, a4, a5) T1 P1 Od T2 P2)) rfl (Nat.le_of_ble_eq_true rfl) rfl rfl rfl kk
theorem mJ_get_7_7 {M : mM} {pc idx : Nat} {ls st : List Value} {h' : List mC} {r : Option Value} {C : aF} {Hs : tH} {T1 : tT} {P1 : tP} {Od : tO} {T2 : tT} {P2 : tP} {a0 : aF} {a1 : aF} {a2 : aF} {a3 : aF} {a4 : aF} {a5 : Int32} (hd : decode M.2.1 pc = .ok (.getfield idx, 3)) (hf : m_fld M.1.cls idx 4 7) (kk : mJ M (pc + 3) ls (.int a5 :: st) (cH C Hs (a0, a1, a2, a3, a4, a5) T1 P1 Od T2 P2) r h') : mJ M pc ls (.ref 7 :: st) (cH C Hs (a0, a1, a2, a3, a4, a5) T1 P1 Od T2 P2) r h' :=
  mJ_get hd hf (h := (cH C Hs (a0, a1, a2, a3, a4, a5) T1 P1 Od T2 P2)) rfl rfl kk
theorem mJ_put_18_1 {M : mM} {pc idx : Nat} {ls st : List Value} {h' : List mC} {r : Option Value} {C : aF} {Hs : tH} {Sw : tS} {P1 : tP} {Od : tO} {T2 : tT} {P2 : tP} {a0 : aF} {a1 : Int32} {x : Int32} (hd : decode M.2.1 pc = .ok (.putfield idx, 3)) (hf : m_fldp M.1.cls idx 6 1 .int) (kk : mJ M (pc + 3) ls st (cH C Hs Sw (a0, x) P1 Od T2 P2) r h') : mJ M pc ls (.int x :: .ref 18 :: st) (cH C Hs Sw (a0, a1) P1 Od T2 P2) r h' :=
  mJ_put hd hf (h := (cH C Hs Sw (a0, a1) P1 Od T2 P2)) rfl (Nat.le_of_ble_eq_true rfl) rfl rfl rfl kk
theorem mJ_get_18_1 {M : mM} {pc idx : Nat} {ls st : List Value} {h' : List mC} {r : Option Value} {C : aF} {Hs : tH} {Sw : tS} {P1 : tP} {Od : tO} {T2 : tT} {P2 : tP} {a0 : aF} {a1 : Int32} (hd : decode M.2.1 pc = .ok (.getfield idx, 3)) (hf : m_fld M.1.cls idx 6 1) (kk : mJ M (pc + 3) ls (.int a1 :: st) (cH C Hs Sw (a0, a1) P1 Od T2 P2) r h') : mJ M pc ls (.ref 18 :: st) (cH C Hs Sw (a0, a1) P1 Od T2 P2) r h' :=
  mJ_get hd hf (h := (cH C Hs Sw (a0, a1) P1 Od T2 P2)) rfl rfl kk
theorem mJ_put_25_1 {M : mM} {pc idx : Nat} {ls st : List Value} {h' : List mC} {r : Option Value} {C : aF} {Hs : tH} {Sw : tS} {T1 : tT} {P1 : tP} {Od : tO} {P2 : tP} {a0 : aF} {a1 : Int32} {x : Int32} (hd : decode M.2.1 pc = .ok (.putfield idx, 3)) (hf : m_fldp M.1.cls idx 6 1 .int) (kk : mJ M (pc + 3) ls st (cH C Hs Sw T1 P1 Od (a0, x) P2) r h') : mJ M pc ls (.int x :: .ref 25 :: st) (cH C Hs Sw T1 P1 Od (a0, a1) P2) r h' :=
  mJ_put hd hf (h := (cH C Hs Sw T1 P1 Od (a0, a1) P2)) rfl (Nat.le_of_ble_eq_true rfl) rfl rfl rfl kk
theorem mJ_get_25_1 {M : mM} {pc idx : Nat} {ls st : List Value} {h' : List mC} {r : Option Value} {C : aF} {Hs : tH} {Sw : tS} {T1 : tT} {P1 : tP} {Od : tO} {P2 : tP} {a0 : aF} {a1 : Int32} (hd : decode M.2.1 pc = .ok (.getfield idx, 3)) (hf : m_fld M.1.cls idx 6 1) (kk : mJ M (pc + 3) ls (.int a1 :: st) (cH C Hs Sw T1 P1 Od (a0, a1) P2) r h') : mJ M pc ls (.ref 25 :: st) (cH C Hs Sw T1 P1 Od (a0, a1) P2) r h' :=
  mJ_get hd hf (h := (cH C Hs Sw T1 P1 Od (a0, a1) P2)) rfl rfl kk
/-! A HINT'S PLACE, the lists of sides, the history, small changes of the state row -/
noncomputable def f_len (C : aF) (h s : Int32) : Int32 := iif (q_lv s) (gH C h 1) (gH C h 2)
noncomputable def f_b0 (C : aF) (h s : Int32) : Int32 := iif (q_lv s) (v_beg C h 0 2 1) (v_beg C h 1 3 2)
noncomputable def f_mid (C : aF) (h s : Int32) : Int32 := iif (q_lv s) (v_mid C h 0 2) (v_mid C h 1 3)
noncomputable def f_shf (C : aF) (h s vw vh : Int32) : Int32 := if gH C h 6 = 1 then v_shi (iif (q_lv s) (gG C 0) (gG C 1)) (iif (q_lv s) vw vh) (f_b0 C h s) (f_len C h s) (f_mid C h s - f_b0 C h s) (gS C 1) else 0
noncomputable def f_beg (C : aF) (h s vw vh : Int32) : Int32 := f_b0 C h s + f_shf C h s vw vh
noncomputable def f_arr (C : aF) (h s vw vh : Int32) : Int32 := f_mid C h s - f_beg C h s vw vh
def f_gd (C : aF) (h s vw vh : Int32) : Prop := q_gd (f_arr C h s vw vh) (f_len C h s) (gS C 1)
noncomputable def f_acr (C : aF) (h s : Int32) : Int32 := iif (q_bf s) (v_edge C (gH C h 0) s - iif (q_lv s) (gH C h 2) (gH C h 1)) (v_edge C (gH C h 0) s)
noncomputable def f_x (C : aF) (h s vw vh : Int32) : Int32 := iif (q_lv s) (f_beg C h s vw vh) (f_acr C h s)
noncomputable def f_y (C : aF) (h s vw vh : Int32) : Int32 := iif (q_lv s) (f_acr C h s) (f_beg C h s vw vh)
def f_in (C : aF) (h s vw vh : Int32) : Prop := q_sl (f_x C h s vw vh) (gH C h 1) (gG C 0) vw ∧ q_sl (f_y C h s vw vh) (gH C h 2) (gG C 1) vh
noncomputable def f_P (C : aF) (h s vw vh : Int32) : tP := (f_x C h s vw vh, f_y C h s vw vh, f_shf C h s vw vh, f_arr C h s vw vh, b2i (f_gd C h s vw vh), b2i (f_in C h s vw vh))
set_option maxHeartbeats 4000000 in
set_option maxRecDepth 100000 in
theorem C_X2_find_21 {C : aF} {Hs : tH} {Sw : tS} {T1 : tT} {P1 : tP} {Od : tO} {T2 : tT} {P2 : tP} {h s vh vw : Int32} : mCt k_X2_find [.ref 21, .ref 1, .int h, .int s, .int vw, .int vh] (cH C Hs Sw T1 P1 Od T2 P2) none (cH C Hs Sw T1 (f_P C h s vw vh) Od T2 P2) := by
  obtain ⟨y1, y2, y3, y4, y5, y6⟩ := P1
  refine mCt_intro (plainFor_of_name rfl) (Nat.le_of_ble_eq_true rfl) (m_all rfl) (ls := [_, _, _, _, _, _, _, _, _, _, _, _, _, _, _]) rfl ?_
  refine mJ_aload_n dX2_find_0 rfl ?_
  refine mJ_iload_n dX2_find_1 rfl ?_
  refine mJ_iconst (v := 1) dX2_find_2 rfl ?_
  refine mJ_cV2i dX2_find_3 e_X5_hintValue n_X2_9 ⟨Nat.le_of_ble_eq_true rfl, Nat.le_of_ble_eq_true rfl⟩ rfl rfl (Nat.le_of_ble_eq_true rfl) (C_X5_hintValue) ?_
  refine mJ_istore dX2_find_6 (Nat.le_of_ble_eq_true rfl) (ls2 := [_, _, _, _, _, _, _, _, _, _, _, _, _, _, _]) rfl ?_
  refine mJ_aload_n dX2_find_8 rfl ?_
  refine mJ_iload_n dX2_find_9 rfl ?_
  refine mJ_iconst (v := 2) dX2_find_10 rfl ?_
  refine mJ_cV2i dX2_find_11 e_X5_hintValue n_X2_9 ⟨Nat.le_of_ble_eq_true rfl, Nat.le_of_ble_eq_true rfl⟩ rfl rfl (Nat.le_of_ble_eq_true rfl) (C_X5_hintValue) ?_
  refine mJ_istore dX2_find_14 (Nat.le_of_ble_eq_true rfl) (ls2 := [_, _, _, _, _, _, _, _, _, _, _, _, _, _, _]) rfl ?_
  refine mJ_iload_n dX2_find_16 rfl ?_
  refine mJ_cS1i dX2_find_17 e_X7_isLevel n_X2_15 ⟨Nat.le_of_ble_eq_true rfl, Nat.le_of_ble_eq_true rfl⟩ (Nat.le_of_ble_eq_true rfl) (C_X7_isLevel) ?_
  refine mJ_b2i (fun b_17 => ?_) (fun b_17 => ?_)
  · refine mJ_istore dX2_find_20 (Nat.le_of_ble_eq_true rfl) (ls2 := [_, _, _, _, _, _, _, _, _, _, _, _, _, _, _]) rfl ?_
    refine mJ_iload dX2_find_22 rfl ?_
    refine mJ_if_eq 32 dX2_find_24 rfl (fun c => absurd c (by decide)) (fun _ => ?_)
    refine mJ_iload dX2_find_27 rfl ?_
    refine mJ_goto 34 dX2_find_29 rfl ?_
    refine mJ_istore dX2_find_34 (Nat.le_of_ble_eq_true rfl) (ls2 := [_, _, _, _, _, _, _, _, _, _, _, _, _, _, _]) rfl ?_
    refine mJ_aload_n dX2_find_36 rfl ?_
    refine mJ_iload_n dX2_find_37 rfl ?_
    refine mJ_iload dX2_find_38 rfl ?_
    refine mJ_cS3i dX2_find_40 e_X2_beginAlong n_X2_19 ⟨Nat.le_of_ble_eq_true rfl, Nat.le_of_ble_eq_true rfl⟩ (Nat.le_of_ble_eq_true rfl) (C_X2_beginAlong_1) ?_
    refine mJ_istore dX2_find_43 (Nat.le_of_ble_eq_true rfl) (ls2 := [_, _, _, _, _, _, _, _, _, _, _, _, _, _, _]) rfl ?_
    refine mJ_aload_n dX2_find_45 rfl ?_
    refine mJ_iload_n dX2_find_46 rfl ?_
    refine mJ_iload dX2_find_47 rfl ?_
    refine mJ_cS3i dX2_find_49 e_X2_middleAlong n_X2_25 ⟨Nat.le_of_ble_eq_true rfl, Nat.le_of_ble_eq_true rfl⟩ (Nat.le_of_ble_eq_true rfl) (C_X2_middleAlong_1) ?_
    refine mJ_istore dX2_find_52 (Nat.le_of_ble_eq_true rfl) (ls2 := [_, _, _, _, _, _, _, _, _, _, _, _, _, _, _]) rfl ?_
    refine mJ_aload_n dX2_find_54 rfl ?_
    refine mJ_iconst (v := 1) dX2_find_55 rfl ?_
    refine mJ_cV1i dX2_find_56 e_X5_setting n_X2_28 ⟨Nat.le_of_ble_eq_true rfl, Nat.le_of_ble_eq_true rfl⟩ rfl rfl (Nat.le_of_ble_eq_true rfl) (C_X5_setting) ?_
    refine mJ_istore dX2_find_59 (Nat.le_of_ble_eq_true rfl) (ls2 := [_, _, _, _, _, _, _, _, _, _, _, _, _, _, _]) rfl ?_
    refine mJ_aload_n dX2_find_61 rfl ?_
    refine mJ_iconst (v := 0) dX2_find_62 rfl ?_
    refine mJ_put_21_2 dX2_find_63 p_X2_32 ?_
    refine mJ_aload_n dX2_find_66 rfl ?_
    refine mJ_iload_n dX2_find_67 rfl ?_
    refine mJ_bipush (v := 6) dX2_find_68 rfl ?_
    refine mJ_cV2i dX2_find_70 e_X5_hintValue n_X2_9 ⟨Nat.le_of_ble_eq_true rfl, Nat.le_of_ble_eq_true rfl⟩ rfl rfl (Nat.le_of_ble_eq_true rfl) (C_X5_hintValue) ?_
    refine mJ_iconst (v := 1) dX2_find_73 rfl ?_
    refine mJ_icmp_ne 125 dX2_find_74 rfl (fun c_74 => ?_) (fun c_74 => ?_)
    · refine mJ_iload dX2_find_125 rfl ?_
      refine mJ_aload_n dX2_find_127 rfl ?_
      refine mJ_get_21_2 dX2_find_128 f_X2_32 ?_
      refine mJ_iadd dX2_find_131 ?_
      refine mJ_istore dX2_find_132 (Nat.le_of_ble_eq_true rfl) (ls2 := [_, _, _, _, _, _, _, _, _, _, _, _, _, _, _]) rfl ?_
      refine mJ_aload_n dX2_find_134 rfl ?_
      refine mJ_iload dX2_find_135 rfl ?_
      refine mJ_iload dX2_find_137 rfl ?_
      refine mJ_isub dX2_find_139 ?_
      refine mJ_put_21_3 dX2_find_140 p_X2_43 ?_
      refine mJ_aload_n dX2_find_143 rfl ?_
      refine mJ_aload_n dX2_find_144 rfl ?_
      refine mJ_get_21_3 dX2_find_145 f_X2_43 ?_
      refine mJ_iload dX2_find_148 rfl ?_
      refine mJ_iload dX2_find_150 rfl ?_
      refine mJ_cS3i dX2_find_152 e_X2_isGood n_X2_46 ⟨Nat.le_of_ble_eq_true rfl, Nat.le_of_ble_eq_true rfl⟩ (Nat.le_of_ble_eq_true rfl) (C_X2_isGood) ?_
      refine mJ_put_21_4 dX2_find_155 p_X2_50 (b2i_01 _) ?_
      refine mJ_aload_n dX2_find_158 rfl ?_
      refine mJ_aload_n dX2_find_159 rfl ?_
      refine mJ_iload_n dX2_find_160 rfl ?_
      refine mJ_iconst (v := 0) dX2_find_161 rfl ?_
      refine mJ_cV2i dX2_find_162 e_X5_hintValue n_X2_9 ⟨Nat.le_of_ble_eq_true rfl, Nat.le_of_ble_eq_true rfl⟩ rfl rfl (Nat.le_of_ble_eq_true rfl) (C_X5_hintValue) ?_
      refine mJ_iload_n dX2_find_165 rfl ?_
      refine mJ_cS3i dX2_find_166 e_X7_edgeBy n_X2_54 ⟨Nat.le_of_ble_eq_true rfl, Nat.le_of_ble_eq_true rfl⟩ (Nat.le_of_ble_eq_true rfl) (C_X7_edgeBy) ?_
      refine mJ_istore dX2_find_169 (Nat.le_of_ble_eq_true rfl) (ls2 := [_, _, _, _, _, _, _, _, _, _, _, _, _, _, _]) rfl ?_
      refine mJ_iload_n dX2_find_171 rfl ?_
      refine mJ_cS1i dX2_find_172 e_X7_isBefore n_X2_58 ⟨Nat.le_of_ble_eq_true rfl, Nat.le_of_ble_eq_true rfl⟩ (Nat.le_of_ble_eq_true rfl) (C_X7_isBefore) ?_
      refine mJ_b2i (fun b_172 => ?_) (fun b_172 => ?_)
      · refine mJ_if_eq 196 dX2_find_175 rfl (fun c => absurd c (by decide)) (fun _ => ?_)
        refine mJ_iload dX2_find_178 rfl ?_
        refine mJ_iload dX2_find_180 rfl ?_
        refine mJ_if_eq 190 dX2_find_182 rfl (fun c => absurd c (by decide)) (fun _ => ?_)
        refine mJ_iload dX2_find_185 rfl ?_
        refine mJ_goto 192 dX2_find_187 rfl ?_
        refine mJ_isub dX2_find_192 ?_
        refine mJ_goto 198 dX2_find_193 rfl ?_
        refine mJ_istore dX2_find_198 (Nat.le_of_ble_eq_true rfl) (ls2 := [_, _, _, _, _, _, _, _, _, _, _, _, _, _, _]) rfl ?_
        refine mJ_aload_n dX2_find_200 rfl ?_
        refine mJ_iload dX2_find_201 rfl ?_
        refine mJ_if_eq 211 dX2_find_203 rfl (fun c => absurd c (by decide)) (fun _ => ?_)
        refine mJ_iload dX2_find_206 rfl ?_
        refine mJ_goto 213 dX2_find_208 rfl ?_
        refine mJ_put_21_0 dX2_find_213 p_X2_61 ?_
        refine mJ_aload_n dX2_find_216 rfl ?_
        refine mJ_iload dX2_find_217 rfl ?_
        refine mJ_if_eq 227 dX2_find_219 rfl (fun c => absurd c (by decide)) (fun _ => ?_)
        refine mJ_iload dX2_find_222 rfl ?_
        refine mJ_goto 229 dX2_find_224 rfl ?_
        refine mJ_put_21_1 dX2_find_229 p_X2_64 ?_
        refine mJ_aload_n dX2_find_232 rfl ?_
        refine mJ_aload_n dX2_find_233 rfl ?_
        refine mJ_get_21_0 dX2_find_234 f_X2_61 ?_
        refine mJ_iload dX2_find_237 rfl ?_
        refine mJ_aload_n dX2_find_239 rfl ?_
        refine mJ_iconst (v := 0) dX2_find_240 rfl ?_
        refine mJ_cV1i dX2_find_241 e_X5_get n_X2_36 ⟨Nat.le_of_ble_eq_true rfl, Nat.le_of_ble_eq_true rfl⟩ rfl rfl (Nat.le_of_ble_eq_true rfl) (C_X5_get) ?_
        refine mJ_iload dX2_find_244 rfl ?_
        refine mJ_cS4i dX2_find_246 e_X7_spanLiesIn n_X2_67 ⟨Nat.le_of_ble_eq_true rfl, Nat.le_of_ble_eq_true rfl⟩ (Nat.le_of_ble_eq_true rfl) (C_X7_spanLiesIn) ?_
        refine mJ_b2i (fun b_246 => ?_) (fun b_246 => ?_)
        · refine mJ_if_eq 275 dX2_find_249 rfl (fun c => absurd c (by decide)) (fun _ => ?_)
          refine mJ_aload_n dX2_find_252 rfl ?_
          refine mJ_get_21_1 dX2_find_253 f_X2_64 ?_
          refine mJ_iload dX2_find_256 rfl ?_
          refine mJ_aload_n dX2_find_258 rfl ?_
          refine mJ_iconst (v := 1) dX2_find_259 rfl ?_
          refine mJ_cV1i dX2_find_260 e_X5_get n_X2_36 ⟨Nat.le_of_ble_eq_true rfl, Nat.le_of_ble_eq_true rfl⟩ rfl rfl (Nat.le_of_ble_eq_true rfl) (C_X5_get) ?_
          refine mJ_iload dX2_find_263 rfl ?_
          refine mJ_cS4i dX2_find_265 e_X7_spanLiesIn n_X2_67 ⟨Nat.le_of_ble_eq_true rfl, Nat.le_of_ble_eq_true rfl⟩ (Nat.le_of_ble_eq_true rfl) (C_X7_spanLiesIn) ?_
          refine mJ_b2i (fun b_265 => ?_) (fun b_265 => ?_)
          · refine mJ_if_eq 275 dX2_find_268 rfl (fun c => absurd c (by decide)) (fun _ => ?_)
            refine mJ_iconst (v := 1) dX2_find_271 rfl ?_
            refine mJ_goto 276 dX2_find_272 rfl ?_
            refine mJ_put_21_5 dX2_find_276 p_X2_71 (Or.inr rfl) ?_
            exact mJ_vret dX2_find_279 rfl (rfl) (by simp_all [f_P, f_x, f_y, f_acr, f_arr, f_beg, f_gd, f_in, f_len, f_b0, f_mid, f_shf, iif_t, iif_f, b2i_t, b2i_f])
          · refine mJ_if_eq 275 dX2_find_268 rfl (fun _ => ?_) (fun c => absurd c (by decide))
            refine mJ_iconst (v := 0) dX2_find_275 rfl ?_
            refine mJ_put_21_5 dX2_find_276 p_X2_71 (Or.inl rfl) ?_
            exact mJ_vret dX2_find_279 rfl (rfl) (by simp_all [f_P, f_x, f_y, f_acr, f_arr, f_beg, f_gd, f_in, f_len, f_b0, f_mid, f_shf, iif_t, iif_f, b2i_t, b2i_f])
        · refine mJ_if_eq 275 dX2_find_249 rfl (fun _ => ?_) (fun c => absurd c (by decide))
          refine mJ_iconst (v := 0) dX2_find_275 rfl ?_
          refine mJ_put_21_5 dX2_find_276 p_X2_71 (Or.inl rfl) ?_
          exact mJ_vret dX2_find_279 rfl (rfl) (by simp_all [f_P, f_x, f_y, f_acr, f_arr, f_beg, f_gd, f_in, f_len, f_b0, f_mid, f_shf, iif_t, iif_f, b2i_t, b2i_f])
      · refine mJ_if_eq 196 dX2_find_175 rfl (fun _ => ?_) (fun c => absurd c (by decide))
        refine mJ_iload dX2_find_196 rfl ?_
        refine mJ_istore dX2_find_198 (Nat.le_of_ble_eq_true rfl) (ls2 := [_, _, _, _, _, _, _, _, _, _, _, _, _, _, _]) rfl ?_
        refine mJ_aload_n dX2_find_200 rfl ?_
        refine mJ_iload dX2_find_201 rfl ?_
        refine mJ_if_eq 211 dX2_find_203 rfl (fun c => absurd c (by decide)) (fun _ => ?_)
        refine mJ_iload dX2_find_206 rfl ?_
        refine mJ_goto 213 dX2_find_208 rfl ?_
        refine mJ_put_21_0 dX2_find_213 p_X2_61 ?_
        refine mJ_aload_n dX2_find_216 rfl ?_
        refine mJ_iload dX2_find_217 rfl ?_
        refine mJ_if_eq 227 dX2_find_219 rfl (fun c => absurd c (by decide)) (fun _ => ?_)
        refine mJ_iload dX2_find_222 rfl ?_
        refine mJ_goto 229 dX2_find_224 rfl ?_
        refine mJ_put_21_1 dX2_find_229 p_X2_64 ?_
        refine mJ_aload_n dX2_find_232 rfl ?_
        refine mJ_aload_n dX2_find_233 rfl ?_
        refine mJ_get_21_0 dX2_find_234 f_X2_61 ?_
        refine mJ_iload dX2_find_237 rfl ?_
        refine mJ_aload_n dX2_find_239 rfl ?_
        refine mJ_iconst (v := 0) dX2_find_240 rfl ?_
        refine mJ_cV1i dX2_find_241 e_X5_get n_X2_36 ⟨Nat.le_of_ble_eq_true rfl, Nat.le_of_ble_eq_true rfl⟩ rfl rfl (Nat.le_of_ble_eq_true rfl) (C_X5_get) ?_
        refine mJ_iload dX2_find_244 rfl ?_
        refine mJ_cS4i dX2_find_246 e_X7_spanLiesIn n_X2_67 ⟨Nat.le_of_ble_eq_true rfl, Nat.le_of_ble_eq_true rfl⟩ (Nat.le_of_ble_eq_true rfl) (C_X7_spanLiesIn) ?_
        refine mJ_b2i (fun b_246 => ?_) (fun b_246 => ?_)
        · refine mJ_if_eq 275 dX2_find_249 rfl (fun c => absurd c (by decide)) (fun _ => ?_)
          refine mJ_aload_n dX2_find_252 rfl ?_
          refine mJ_get_21_1 dX2_find_253 f_X2_64 ?_
          refine mJ_iload dX2_find_256 rfl ?_
          refine mJ_aload_n dX2_find_258 rfl ?_
          refine mJ_iconst (v := 1) dX2_find_259 rfl ?_
          refine mJ_cV1i dX2_find_260 e_X5_get n_X2_36 ⟨Nat.le_of_ble_eq_true rfl, Nat.le_of_ble_eq_true rfl⟩ rfl rfl (Nat.le_of_ble_eq_true rfl) (C_X5_get) ?_
          refine mJ_iload dX2_find_263 rfl ?_
          refine mJ_cS4i dX2_find_265 e_X7_spanLiesIn n_X2_67 ⟨Nat.le_of_ble_eq_true rfl, Nat.le_of_ble_eq_true rfl⟩ (Nat.le_of_ble_eq_true rfl) (C_X7_spanLiesIn) ?_
          refine mJ_b2i (fun b_265 => ?_) (fun b_265 => ?_)
          · refine mJ_if_eq 275 dX2_find_268 rfl (fun c => absurd c (by decide)) (fun _ => ?_)
            refine mJ_iconst (v := 1) dX2_find_271 rfl ?_
            refine mJ_goto 276 dX2_find_272 rfl ?_
            refine mJ_put_21_5 dX2_find_276 p_X2_71 (Or.inr rfl) ?_
            exact mJ_vret dX2_find_279 rfl (rfl) (by simp_all [f_P, f_x, f_y, f_acr, f_arr, f_beg, f_gd, f_in, f_len, f_b0, f_mid, f_shf, iif_t, iif_f, b2i_t, b2i_f])
          · refine mJ_if_eq 275 dX2_find_268 rfl (fun _ => ?_) (fun c => absurd c (by decide))
            refine mJ_iconst (v := 0) dX2_find_275 rfl ?_
            refine mJ_put_21_5 dX2_find_276 p_X2_71 (Or.inl rfl) ?_
            exact mJ_vret dX2_find_279 rfl (rfl) (by simp_all [f_P, f_x, f_y, f_acr, f_arr, f_beg, f_gd, f_in, f_len, f_b0, f_mid, f_shf, iif_t, iif_f, b2i_t, b2i_f])
        · refine mJ_if_eq 275 dX2_find_249 rfl (fun _ => ?_) (fun c => absurd c (by decide))
          refine mJ_iconst (v := 0) dX2_find_275 rfl ?_
          refine mJ_put_21_5 dX2_find_276 p_X2_71 (Or.inl rfl) ?_
          exact mJ_vret dX2_find_279 rfl (rfl) (by simp_all [f_P, f_x, f_y, f_acr, f_arr, f_beg, f_gd, f_in, f_len, f_b0, f_mid, f_shf, iif_t, iif_f, b2i_t, b2i_f])
    · refine mJ_aload_n dX2_find_77 rfl ?_
      refine mJ_iload dX2_find_78 rfl ?_
      refine mJ_if_eq 87 dX2_find_80 rfl (fun c => absurd c (by decide)) (fun _ => ?_)
      refine mJ_iconst (v := 0) dX2_find_83 rfl ?_
      refine mJ_goto 88 dX2_find_84 rfl ?_
      refine mJ_cV1i dX2_find_88 e_X5_get n_X2_36 ⟨Nat.le_of_ble_eq_true rfl, Nat.le_of_ble_eq_true rfl⟩ rfl rfl (Nat.le_of_ble_eq_true rfl) (C_X5_get) ?_
      refine mJ_istore dX2_find_91 (Nat.le_of_ble_eq_true rfl) (ls2 := [_, _, _, _, _, _, _, _, _, _, _, _, _, _, _]) rfl ?_
      refine mJ_aload_n dX2_find_93 rfl ?_
      refine mJ_iload dX2_find_94 rfl ?_
      refine mJ_iload dX2_find_96 rfl ?_
      refine mJ_if_eq 106 dX2_find_98 rfl (fun c => absurd c (by decide)) (fun _ => ?_)
      refine mJ_iload dX2_find_101 rfl ?_
      refine mJ_goto 108 dX2_find_103 rfl ?_
      refine mJ_iload dX2_find_108 rfl ?_
      refine mJ_iload dX2_find_110 rfl ?_
      refine mJ_iload dX2_find_112 rfl ?_
      refine mJ_iload dX2_find_114 rfl ?_
      refine mJ_isub dX2_find_116 ?_
      refine mJ_iload dX2_find_117 rfl ?_
      refine mJ_cS6i dX2_find_119 e_X2_shiftInto n_X2_39 ⟨Nat.le_of_ble_eq_true rfl, Nat.le_of_ble_eq_true rfl⟩ (Nat.le_of_ble_eq_true rfl) (C_X2_shiftInto) ?_
      refine mJ_put_21_2 dX2_find_122 p_X2_32 ?_
      refine mJ_iload dX2_find_125 rfl ?_
      refine mJ_aload_n dX2_find_127 rfl ?_
      refine mJ_get_21_2 dX2_find_128 f_X2_32 ?_
      refine mJ_iadd dX2_find_131 ?_
      refine mJ_istore dX2_find_132 (Nat.le_of_ble_eq_true rfl) (ls2 := [_, _, _, _, _, _, _, _, _, _, _, _, _, _, _]) rfl ?_
      refine mJ_aload_n dX2_find_134 rfl ?_
      refine mJ_iload dX2_find_135 rfl ?_
      refine mJ_iload dX2_find_137 rfl ?_
      refine mJ_isub dX2_find_139 ?_
      refine mJ_put_21_3 dX2_find_140 p_X2_43 ?_
      refine mJ_aload_n dX2_find_143 rfl ?_
      refine mJ_aload_n dX2_find_144 rfl ?_
      refine mJ_get_21_3 dX2_find_145 f_X2_43 ?_
      refine mJ_iload dX2_find_148 rfl ?_
      refine mJ_iload dX2_find_150 rfl ?_
      refine mJ_cS3i dX2_find_152 e_X2_isGood n_X2_46 ⟨Nat.le_of_ble_eq_true rfl, Nat.le_of_ble_eq_true rfl⟩ (Nat.le_of_ble_eq_true rfl) (C_X2_isGood) ?_
      refine mJ_put_21_4 dX2_find_155 p_X2_50 (b2i_01 _) ?_
      refine mJ_aload_n dX2_find_158 rfl ?_
      refine mJ_aload_n dX2_find_159 rfl ?_
      refine mJ_iload_n dX2_find_160 rfl ?_
      refine mJ_iconst (v := 0) dX2_find_161 rfl ?_
      refine mJ_cV2i dX2_find_162 e_X5_hintValue n_X2_9 ⟨Nat.le_of_ble_eq_true rfl, Nat.le_of_ble_eq_true rfl⟩ rfl rfl (Nat.le_of_ble_eq_true rfl) (C_X5_hintValue) ?_
      refine mJ_iload_n dX2_find_165 rfl ?_
      refine mJ_cS3i dX2_find_166 e_X7_edgeBy n_X2_54 ⟨Nat.le_of_ble_eq_true rfl, Nat.le_of_ble_eq_true rfl⟩ (Nat.le_of_ble_eq_true rfl) (C_X7_edgeBy) ?_
      refine mJ_istore dX2_find_169 (Nat.le_of_ble_eq_true rfl) (ls2 := [_, _, _, _, _, _, _, _, _, _, _, _, _, _, _]) rfl ?_
      refine mJ_iload_n dX2_find_171 rfl ?_
      refine mJ_cS1i dX2_find_172 e_X7_isBefore n_X2_58 ⟨Nat.le_of_ble_eq_true rfl, Nat.le_of_ble_eq_true rfl⟩ (Nat.le_of_ble_eq_true rfl) (C_X7_isBefore) ?_
      refine mJ_b2i (fun b_172 => ?_) (fun b_172 => ?_)
      · refine mJ_if_eq 196 dX2_find_175 rfl (fun c => absurd c (by decide)) (fun _ => ?_)
        refine mJ_iload dX2_find_178 rfl ?_
        refine mJ_iload dX2_find_180 rfl ?_
        refine mJ_if_eq 190 dX2_find_182 rfl (fun c => absurd c (by decide)) (fun _ => ?_)
        refine mJ_iload dX2_find_185 rfl ?_
        refine mJ_goto 192 dX2_find_187 rfl ?_
        refine mJ_isub dX2_find_192 ?_
        refine mJ_goto 198 dX2_find_193 rfl ?_
        refine mJ_istore dX2_find_198 (Nat.le_of_ble_eq_true rfl) (ls2 := [_, _, _, _, _, _, _, _, _, _, _, _, _, _, _]) rfl ?_
        refine mJ_aload_n dX2_find_200 rfl ?_
        refine mJ_iload dX2_find_201 rfl ?_
        refine mJ_if_eq 211 dX2_find_203 rfl (fun c => absurd c (by decide)) (fun _ => ?_)
        refine mJ_iload dX2_find_206 rfl ?_
        refine mJ_goto 213 dX2_find_208 rfl ?_
        refine mJ_put_21_0 dX2_find_213 p_X2_61 ?_
        refine mJ_aload_n dX2_find_216 rfl ?_
        refine mJ_iload dX2_find_217 rfl ?_
        refine mJ_if_eq 227 dX2_find_219 rfl (fun c => absurd c (by decide)) (fun _ => ?_)
        refine mJ_iload dX2_find_222 rfl ?_
        refine mJ_goto 229 dX2_find_224 rfl ?_
        refine mJ_put_21_1 dX2_find_229 p_X2_64 ?_
        refine mJ_aload_n dX2_find_232 rfl ?_
        refine mJ_aload_n dX2_find_233 rfl ?_
        refine mJ_get_21_0 dX2_find_234 f_X2_61 ?_
        refine mJ_iload dX2_find_237 rfl ?_
        refine mJ_aload_n dX2_find_239 rfl ?_
        refine mJ_iconst (v := 0) dX2_find_240 rfl ?_
        refine mJ_cV1i dX2_find_241 e_X5_get n_X2_36 ⟨Nat.le_of_ble_eq_true rfl, Nat.le_of_ble_eq_true rfl⟩ rfl rfl (Nat.le_of_ble_eq_true rfl) (C_X5_get) ?_
        refine mJ_iload dX2_find_244 rfl ?_
        refine mJ_cS4i dX2_find_246 e_X7_spanLiesIn n_X2_67 ⟨Nat.le_of_ble_eq_true rfl, Nat.le_of_ble_eq_true rfl⟩ (Nat.le_of_ble_eq_true rfl) (C_X7_spanLiesIn) ?_
        refine mJ_b2i (fun b_246 => ?_) (fun b_246 => ?_)
        · refine mJ_if_eq 275 dX2_find_249 rfl (fun c => absurd c (by decide)) (fun _ => ?_)
          refine mJ_aload_n dX2_find_252 rfl ?_
          refine mJ_get_21_1 dX2_find_253 f_X2_64 ?_
          refine mJ_iload dX2_find_256 rfl ?_
          refine mJ_aload_n dX2_find_258 rfl ?_
          refine mJ_iconst (v := 1) dX2_find_259 rfl ?_
          refine mJ_cV1i dX2_find_260 e_X5_get n_X2_36 ⟨Nat.le_of_ble_eq_true rfl, Nat.le_of_ble_eq_true rfl⟩ rfl rfl (Nat.le_of_ble_eq_true rfl) (C_X5_get) ?_
          refine mJ_iload dX2_find_263 rfl ?_
          refine mJ_cS4i dX2_find_265 e_X7_spanLiesIn n_X2_67 ⟨Nat.le_of_ble_eq_true rfl, Nat.le_of_ble_eq_true rfl⟩ (Nat.le_of_ble_eq_true rfl) (C_X7_spanLiesIn) ?_
          refine mJ_b2i (fun b_265 => ?_) (fun b_265 => ?_)
          · refine mJ_if_eq 275 dX2_find_268 rfl (fun c => absurd c (by decide)) (fun _ => ?_)
            refine mJ_iconst (v := 1) dX2_find_271 rfl ?_
            refine mJ_goto 276 dX2_find_272 rfl ?_
            refine mJ_put_21_5 dX2_find_276 p_X2_71 (Or.inr rfl) ?_
            exact mJ_vret dX2_find_279 rfl (rfl) (by simp_all [f_P, f_x, f_y, f_acr, f_arr, f_beg, f_gd, f_in, f_len, f_b0, f_mid, f_shf, iif_t, iif_f, b2i_t, b2i_f])
          · refine mJ_if_eq 275 dX2_find_268 rfl (fun _ => ?_) (fun c => absurd c (by decide))
            refine mJ_iconst (v := 0) dX2_find_275 rfl ?_
            refine mJ_put_21_5 dX2_find_276 p_X2_71 (Or.inl rfl) ?_
            exact mJ_vret dX2_find_279 rfl (rfl) (by simp_all [f_P, f_x, f_y, f_acr, f_arr, f_beg, f_gd, f_in, f_len, f_b0, f_mid, f_shf, iif_t, iif_f, b2i_t, b2i_f])
        · refine mJ_if_eq 275 dX2_find_249 rfl (fun _ => ?_) (fun c => absurd c (by decide))
          refine mJ_iconst (v := 0) dX2_find_275 rfl ?_
          refine mJ_put_21_5 dX2_find_276 p_X2_71 (Or.inl rfl) ?_
          exact mJ_vret dX2_find_279 rfl (rfl) (by simp_all [f_P, f_x, f_y, f_acr, f_arr, f_beg, f_gd, f_in, f_len, f_b0, f_mid, f_shf, iif_t, iif_f, b2i_t, b2i_f])
      · refine mJ_if_eq 196 dX2_find_175 rfl (fun _ => ?_) (fun c => absurd c (by decide))
        refine mJ_iload dX2_find_196 rfl ?_
        refine mJ_istore dX2_find_198 (Nat.le_of_ble_eq_true rfl) (ls2 := [_, _, _, _, _, _, _, _, _, _, _, _, _, _, _]) rfl ?_
        refine mJ_aload_n dX2_find_200 rfl ?_
        refine mJ_iload dX2_find_201 rfl ?_
        refine mJ_if_eq 211 dX2_find_203 rfl (fun c => absurd c (by decide)) (fun _ => ?_)
        refine mJ_iload dX2_find_206 rfl ?_
        refine mJ_goto 213 dX2_find_208 rfl ?_
        refine mJ_put_21_0 dX2_find_213 p_X2_61 ?_
        refine mJ_aload_n dX2_find_216 rfl ?_
        refine mJ_iload dX2_find_217 rfl ?_
        refine mJ_if_eq 227 dX2_find_219 rfl (fun c => absurd c (by decide)) (fun _ => ?_)
        refine mJ_iload dX2_find_222 rfl ?_
        refine mJ_goto 229 dX2_find_224 rfl ?_
        refine mJ_put_21_1 dX2_find_229 p_X2_64 ?_
        refine mJ_aload_n dX2_find_232 rfl ?_
        refine mJ_aload_n dX2_find_233 rfl ?_
        refine mJ_get_21_0 dX2_find_234 f_X2_61 ?_
        refine mJ_iload dX2_find_237 rfl ?_
        refine mJ_aload_n dX2_find_239 rfl ?_
        refine mJ_iconst (v := 0) dX2_find_240 rfl ?_
        refine mJ_cV1i dX2_find_241 e_X5_get n_X2_36 ⟨Nat.le_of_ble_eq_true rfl, Nat.le_of_ble_eq_true rfl⟩ rfl rfl (Nat.le_of_ble_eq_true rfl) (C_X5_get) ?_
        refine mJ_iload dX2_find_244 rfl ?_
        refine mJ_cS4i dX2_find_246 e_X7_spanLiesIn n_X2_67 ⟨Nat.le_of_ble_eq_true rfl, Nat.le_of_ble_eq_true rfl⟩ (Nat.le_of_ble_eq_true rfl) (C_X7_spanLiesIn) ?_
        refine mJ_b2i (fun b_246 => ?_) (fun b_246 => ?_)
        · refine mJ_if_eq 275 dX2_find_249 rfl (fun c => absurd c (by decide)) (fun _ => ?_)
          refine mJ_aload_n dX2_find_252 rfl ?_
          refine mJ_get_21_1 dX2_find_253 f_X2_64 ?_
          refine mJ_iload dX2_find_256 rfl ?_
          refine mJ_aload_n dX2_find_258 rfl ?_
          refine mJ_iconst (v := 1) dX2_find_259 rfl ?_
          refine mJ_cV1i dX2_find_260 e_X5_get n_X2_36 ⟨Nat.le_of_ble_eq_true rfl, Nat.le_of_ble_eq_true rfl⟩ rfl rfl (Nat.le_of_ble_eq_true rfl) (C_X5_get) ?_
          refine mJ_iload dX2_find_263 rfl ?_
          refine mJ_cS4i dX2_find_265 e_X7_spanLiesIn n_X2_67 ⟨Nat.le_of_ble_eq_true rfl, Nat.le_of_ble_eq_true rfl⟩ (Nat.le_of_ble_eq_true rfl) (C_X7_spanLiesIn) ?_
          refine mJ_b2i (fun b_265 => ?_) (fun b_265 => ?_)
          · refine mJ_if_eq 275 dX2_find_268 rfl (fun c => absurd c (by decide)) (fun _ => ?_)
            refine mJ_iconst (v := 1) dX2_find_271 rfl ?_
            refine mJ_goto 276 dX2_find_272 rfl ?_
            refine mJ_put_21_5 dX2_find_276 p_X2_71 (Or.inr rfl) ?_
            exact mJ_vret dX2_find_279 rfl (rfl) (by simp_all [f_P, f_x, f_y, f_acr, f_arr, f_beg, f_gd, f_in, f_len, f_b0, f_mid, f_shf, iif_t, iif_f, b2i_t, b2i_f])
          · refine mJ_if_eq 275 dX2_find_268 rfl (fun _ => ?_) (fun c => absurd c (by decide))
            refine mJ_iconst (v := 0) dX2_find_275 rfl ?_
            refine mJ_put_21_5 dX2_find_276 p_X2_71 (Or.inl rfl) ?_
            exact mJ_vret dX2_find_279 rfl (rfl) (by simp_all [f_P, f_x, f_y, f_acr, f_arr, f_beg, f_gd, f_in, f_len, f_b0, f_mid, f_shf, iif_t, iif_f, b2i_t, b2i_f])
        · refine mJ_if_eq 275 dX2_find_249 rfl (fun _ => ?_) (fun c => absurd c (by decide))
          refine mJ_iconst (v := 0) dX2_find_275 rfl ?_
          refine mJ_put_21_5 dX2_find_276 p_X2_71 (Or.inl rfl) ?_
          exact mJ_vret dX2_find_279 rfl (rfl) (by simp_all [f_P, f_x, f_y, f_acr, f_arr, f_beg, f_gd, f_in, f_len, f_b0, f_mid, f_shf, iif_t, iif_f, b2i_t, b2i_f])
  · refine mJ_istore dX2_find_20 (Nat.le_of_ble_eq_true rfl) (ls2 := [_, _, _, _, _, _, _, _, _, _, _, _, _, _, _]) rfl ?_
    refine mJ_iload dX2_find_22 rfl ?_
    refine mJ_if_eq 32 dX2_find_24 rfl (fun _ => ?_) (fun c => absurd c (by decide))
    refine mJ_iload dX2_find_32 rfl ?_
    refine mJ_istore dX2_find_34 (Nat.le_of_ble_eq_true rfl) (ls2 := [_, _, _, _, _, _, _, _, _, _, _, _, _, _, _]) rfl ?_
    refine mJ_aload_n dX2_find_36 rfl ?_
    refine mJ_iload_n dX2_find_37 rfl ?_
    refine mJ_iload dX2_find_38 rfl ?_
    refine mJ_cS3i dX2_find_40 e_X2_beginAlong n_X2_19 ⟨Nat.le_of_ble_eq_true rfl, Nat.le_of_ble_eq_true rfl⟩ (Nat.le_of_ble_eq_true rfl) (C_X2_beginAlong_0) ?_
    refine mJ_istore dX2_find_43 (Nat.le_of_ble_eq_true rfl) (ls2 := [_, _, _, _, _, _, _, _, _, _, _, _, _, _, _]) rfl ?_
    refine mJ_aload_n dX2_find_45 rfl ?_
    refine mJ_iload_n dX2_find_46 rfl ?_
    refine mJ_iload dX2_find_47 rfl ?_
    refine mJ_cS3i dX2_find_49 e_X2_middleAlong n_X2_25 ⟨Nat.le_of_ble_eq_true rfl, Nat.le_of_ble_eq_true rfl⟩ (Nat.le_of_ble_eq_true rfl) (C_X2_middleAlong_0) ?_
    refine mJ_istore dX2_find_52 (Nat.le_of_ble_eq_true rfl) (ls2 := [_, _, _, _, _, _, _, _, _, _, _, _, _, _, _]) rfl ?_
    refine mJ_aload_n dX2_find_54 rfl ?_
    refine mJ_iconst (v := 1) dX2_find_55 rfl ?_
    refine mJ_cV1i dX2_find_56 e_X5_setting n_X2_28 ⟨Nat.le_of_ble_eq_true rfl, Nat.le_of_ble_eq_true rfl⟩ rfl rfl (Nat.le_of_ble_eq_true rfl) (C_X5_setting) ?_
    refine mJ_istore dX2_find_59 (Nat.le_of_ble_eq_true rfl) (ls2 := [_, _, _, _, _, _, _, _, _, _, _, _, _, _, _]) rfl ?_
    refine mJ_aload_n dX2_find_61 rfl ?_
    refine mJ_iconst (v := 0) dX2_find_62 rfl ?_
    refine mJ_put_21_2 dX2_find_63 p_X2_32 ?_
    refine mJ_aload_n dX2_find_66 rfl ?_
    refine mJ_iload_n dX2_find_67 rfl ?_
    refine mJ_bipush (v := 6) dX2_find_68 rfl ?_
    refine mJ_cV2i dX2_find_70 e_X5_hintValue n_X2_9 ⟨Nat.le_of_ble_eq_true rfl, Nat.le_of_ble_eq_true rfl⟩ rfl rfl (Nat.le_of_ble_eq_true rfl) (C_X5_hintValue) ?_
    refine mJ_iconst (v := 1) dX2_find_73 rfl ?_
    refine mJ_icmp_ne 125 dX2_find_74 rfl (fun c_74 => ?_) (fun c_74 => ?_)
    · refine mJ_iload dX2_find_125 rfl ?_
      refine mJ_aload_n dX2_find_127 rfl ?_
      refine mJ_get_21_2 dX2_find_128 f_X2_32 ?_
      refine mJ_iadd dX2_find_131 ?_
      refine mJ_istore dX2_find_132 (Nat.le_of_ble_eq_true rfl) (ls2 := [_, _, _, _, _, _, _, _, _, _, _, _, _, _, _]) rfl ?_
      refine mJ_aload_n dX2_find_134 rfl ?_
      refine mJ_iload dX2_find_135 rfl ?_
      refine mJ_iload dX2_find_137 rfl ?_
      refine mJ_isub dX2_find_139 ?_
      refine mJ_put_21_3 dX2_find_140 p_X2_43 ?_
      refine mJ_aload_n dX2_find_143 rfl ?_
      refine mJ_aload_n dX2_find_144 rfl ?_
      refine mJ_get_21_3 dX2_find_145 f_X2_43 ?_
      refine mJ_iload dX2_find_148 rfl ?_
      refine mJ_iload dX2_find_150 rfl ?_
      refine mJ_cS3i dX2_find_152 e_X2_isGood n_X2_46 ⟨Nat.le_of_ble_eq_true rfl, Nat.le_of_ble_eq_true rfl⟩ (Nat.le_of_ble_eq_true rfl) (C_X2_isGood) ?_
      refine mJ_put_21_4 dX2_find_155 p_X2_50 (b2i_01 _) ?_
      refine mJ_aload_n dX2_find_158 rfl ?_
      refine mJ_aload_n dX2_find_159 rfl ?_
      refine mJ_iload_n dX2_find_160 rfl ?_
      refine mJ_iconst (v := 0) dX2_find_161 rfl ?_
      refine mJ_cV2i dX2_find_162 e_X5_hintValue n_X2_9 ⟨Nat.le_of_ble_eq_true rfl, Nat.le_of_ble_eq_true rfl⟩ rfl rfl (Nat.le_of_ble_eq_true rfl) (C_X5_hintValue) ?_
      refine mJ_iload_n dX2_find_165 rfl ?_
      refine mJ_cS3i dX2_find_166 e_X7_edgeBy n_X2_54 ⟨Nat.le_of_ble_eq_true rfl, Nat.le_of_ble_eq_true rfl⟩ (Nat.le_of_ble_eq_true rfl) (C_X7_edgeBy) ?_
      refine mJ_istore dX2_find_169 (Nat.le_of_ble_eq_true rfl) (ls2 := [_, _, _, _, _, _, _, _, _, _, _, _, _, _, _]) rfl ?_
      refine mJ_iload_n dX2_find_171 rfl ?_
      refine mJ_cS1i dX2_find_172 e_X7_isBefore n_X2_58 ⟨Nat.le_of_ble_eq_true rfl, Nat.le_of_ble_eq_true rfl⟩ (Nat.le_of_ble_eq_true rfl) (C_X7_isBefore) ?_
      refine mJ_b2i (fun b_172 => ?_) (fun b_172 => ?_)
      · refine mJ_if_eq 196 dX2_find_175 rfl (fun c => absurd c (by decide)) (fun _ => ?_)
        refine mJ_iload dX2_find_178 rfl ?_
        refine mJ_iload dX2_find_180 rfl ?_
        refine mJ_if_eq 190 dX2_find_182 rfl (fun _ => ?_) (fun c => absurd c (by decide))
        refine mJ_iload dX2_find_190 rfl ?_
        refine mJ_isub dX2_find_192 ?_
        refine mJ_goto 198 dX2_find_193 rfl ?_
        refine mJ_istore dX2_find_198 (Nat.le_of_ble_eq_true rfl) (ls2 := [_, _, _, _, _, _, _, _, _, _, _, _, _, _, _]) rfl ?_
        refine mJ_aload_n dX2_find_200 rfl ?_
        refine mJ_iload dX2_find_201 rfl ?_
        refine mJ_if_eq 211 dX2_find_203 rfl (fun _ => ?_) (fun c => absurd c (by decide))
        refine mJ_iload dX2_find_211 rfl ?_
        refine mJ_put_21_0 dX2_find_213 p_X2_61 ?_
        refine mJ_aload_n dX2_find_216 rfl ?_
        refine mJ_iload dX2_find_217 rfl ?_
        refine mJ_if_eq 227 dX2_find_219 rfl (fun _ => ?_) (fun c => absurd c (by decide))
        refine mJ_iload dX2_find_227 rfl ?_
        refine mJ_put_21_1 dX2_find_229 p_X2_64 ?_
        refine mJ_aload_n dX2_find_232 rfl ?_
        refine mJ_aload_n dX2_find_233 rfl ?_
        refine mJ_get_21_0 dX2_find_234 f_X2_61 ?_
        refine mJ_iload dX2_find_237 rfl ?_
        refine mJ_aload_n dX2_find_239 rfl ?_
        refine mJ_iconst (v := 0) dX2_find_240 rfl ?_
        refine mJ_cV1i dX2_find_241 e_X5_get n_X2_36 ⟨Nat.le_of_ble_eq_true rfl, Nat.le_of_ble_eq_true rfl⟩ rfl rfl (Nat.le_of_ble_eq_true rfl) (C_X5_get) ?_
        refine mJ_iload dX2_find_244 rfl ?_
        refine mJ_cS4i dX2_find_246 e_X7_spanLiesIn n_X2_67 ⟨Nat.le_of_ble_eq_true rfl, Nat.le_of_ble_eq_true rfl⟩ (Nat.le_of_ble_eq_true rfl) (C_X7_spanLiesIn) ?_
        refine mJ_b2i (fun b_246 => ?_) (fun b_246 => ?_)
        · refine mJ_if_eq 275 dX2_find_249 rfl (fun c => absurd c (by decide)) (fun _ => ?_)
          refine mJ_aload_n dX2_find_252 rfl ?_
          refine mJ_get_21_1 dX2_find_253 f_X2_64 ?_
          refine mJ_iload dX2_find_256 rfl ?_
          refine mJ_aload_n dX2_find_258 rfl ?_
          refine mJ_iconst (v := 1) dX2_find_259 rfl ?_
          refine mJ_cV1i dX2_find_260 e_X5_get n_X2_36 ⟨Nat.le_of_ble_eq_true rfl, Nat.le_of_ble_eq_true rfl⟩ rfl rfl (Nat.le_of_ble_eq_true rfl) (C_X5_get) ?_
          refine mJ_iload dX2_find_263 rfl ?_
          refine mJ_cS4i dX2_find_265 e_X7_spanLiesIn n_X2_67 ⟨Nat.le_of_ble_eq_true rfl, Nat.le_of_ble_eq_true rfl⟩ (Nat.le_of_ble_eq_true rfl) (C_X7_spanLiesIn) ?_
          refine mJ_b2i (fun b_265 => ?_) (fun b_265 => ?_)
          · refine mJ_if_eq 275 dX2_find_268 rfl (fun c => absurd c (by decide)) (fun _ => ?_)
            refine mJ_iconst (v := 1) dX2_find_271 rfl ?_
            refine mJ_goto 276 dX2_find_272 rfl ?_
            refine mJ_put_21_5 dX2_find_276 p_X2_71 (Or.inr rfl) ?_
            exact mJ_vret dX2_find_279 rfl (rfl) (by simp_all [f_P, f_x, f_y, f_acr, f_arr, f_beg, f_gd, f_in, f_len, f_b0, f_mid, f_shf, iif_t, iif_f, b2i_t, b2i_f])
          · refine mJ_if_eq 275 dX2_find_268 rfl (fun _ => ?_) (fun c => absurd c (by decide))
            refine mJ_iconst (v := 0) dX2_find_275 rfl ?_
            refine mJ_put_21_5 dX2_find_276 p_X2_71 (Or.inl rfl) ?_
            exact mJ_vret dX2_find_279 rfl (rfl) (by simp_all [f_P, f_x, f_y, f_acr, f_arr, f_beg, f_gd, f_in, f_len, f_b0, f_mid, f_shf, iif_t, iif_f, b2i_t, b2i_f])
        · refine mJ_if_eq 275 dX2_find_249 rfl (fun _ => ?_) (fun c => absurd c (by decide))
          refine mJ_iconst (v := 0) dX2_find_275 rfl ?_
          refine mJ_put_21_5 dX2_find_276 p_X2_71 (Or.inl rfl) ?_
          exact mJ_vret dX2_find_279 rfl (rfl) (by simp_all [f_P, f_x, f_y, f_acr, f_arr, f_beg, f_gd, f_in, f_len, f_b0, f_mid, f_shf, iif_t, iif_f, b2i_t, b2i_f])
      · refine mJ_if_eq 196 dX2_find_175 rfl (fun _ => ?_) (fun c => absurd c (by decide))
        refine mJ_iload dX2_find_196 rfl ?_
        refine mJ_istore dX2_find_198 (Nat.le_of_ble_eq_true rfl) (ls2 := [_, _, _, _, _, _, _, _, _, _, _, _, _, _, _]) rfl ?_
        refine mJ_aload_n dX2_find_200 rfl ?_
        refine mJ_iload dX2_find_201 rfl ?_
        refine mJ_if_eq 211 dX2_find_203 rfl (fun _ => ?_) (fun c => absurd c (by decide))
        refine mJ_iload dX2_find_211 rfl ?_
        refine mJ_put_21_0 dX2_find_213 p_X2_61 ?_
        refine mJ_aload_n dX2_find_216 rfl ?_
        refine mJ_iload dX2_find_217 rfl ?_
        refine mJ_if_eq 227 dX2_find_219 rfl (fun _ => ?_) (fun c => absurd c (by decide))
        refine mJ_iload dX2_find_227 rfl ?_
        refine mJ_put_21_1 dX2_find_229 p_X2_64 ?_
        refine mJ_aload_n dX2_find_232 rfl ?_
        refine mJ_aload_n dX2_find_233 rfl ?_
        refine mJ_get_21_0 dX2_find_234 f_X2_61 ?_
        refine mJ_iload dX2_find_237 rfl ?_
        refine mJ_aload_n dX2_find_239 rfl ?_
        refine mJ_iconst (v := 0) dX2_find_240 rfl ?_
        refine mJ_cV1i dX2_find_241 e_X5_get n_X2_36 ⟨Nat.le_of_ble_eq_true rfl, Nat.le_of_ble_eq_true rfl⟩ rfl rfl (Nat.le_of_ble_eq_true rfl) (C_X5_get) ?_
        refine mJ_iload dX2_find_244 rfl ?_
        refine mJ_cS4i dX2_find_246 e_X7_spanLiesIn n_X2_67 ⟨Nat.le_of_ble_eq_true rfl, Nat.le_of_ble_eq_true rfl⟩ (Nat.le_of_ble_eq_true rfl) (C_X7_spanLiesIn) ?_
        refine mJ_b2i (fun b_246 => ?_) (fun b_246 => ?_)
        · refine mJ_if_eq 275 dX2_find_249 rfl (fun c => absurd c (by decide)) (fun _ => ?_)
          refine mJ_aload_n dX2_find_252 rfl ?_
          refine mJ_get_21_1 dX2_find_253 f_X2_64 ?_
          refine mJ_iload dX2_find_256 rfl ?_
          refine mJ_aload_n dX2_find_258 rfl ?_
          refine mJ_iconst (v := 1) dX2_find_259 rfl ?_
          refine mJ_cV1i dX2_find_260 e_X5_get n_X2_36 ⟨Nat.le_of_ble_eq_true rfl, Nat.le_of_ble_eq_true rfl⟩ rfl rfl (Nat.le_of_ble_eq_true rfl) (C_X5_get) ?_
          refine mJ_iload dX2_find_263 rfl ?_
          refine mJ_cS4i dX2_find_265 e_X7_spanLiesIn n_X2_67 ⟨Nat.le_of_ble_eq_true rfl, Nat.le_of_ble_eq_true rfl⟩ (Nat.le_of_ble_eq_true rfl) (C_X7_spanLiesIn) ?_
          refine mJ_b2i (fun b_265 => ?_) (fun b_265 => ?_)
          · refine mJ_if_eq 275 dX2_find_268 rfl (fun c => absurd c (by decide)) (fun _ => ?_)
            refine mJ_iconst (v := 1) dX2_find_271 rfl ?_
            refine mJ_goto 276 dX2_find_272 rfl ?_
            refine mJ_put_21_5 dX2_find_276 p_X2_71 (Or.inr rfl) ?_
            exact mJ_vret dX2_find_279 rfl (rfl) (by simp_all [f_P, f_x, f_y, f_acr, f_arr, f_beg, f_gd, f_in, f_len, f_b0, f_mid, f_shf, iif_t, iif_f, b2i_t, b2i_f])
          · refine mJ_if_eq 275 dX2_find_268 rfl (fun _ => ?_) (fun c => absurd c (by decide))
            refine mJ_iconst (v := 0) dX2_find_275 rfl ?_
            refine mJ_put_21_5 dX2_find_276 p_X2_71 (Or.inl rfl) ?_
            exact mJ_vret dX2_find_279 rfl (rfl) (by simp_all [f_P, f_x, f_y, f_acr, f_arr, f_beg, f_gd, f_in, f_len, f_b0, f_mid, f_shf, iif_t, iif_f, b2i_t, b2i_f])
        · refine mJ_if_eq 275 dX2_find_249 rfl (fun _ => ?_) (fun c => absurd c (by decide))
          refine mJ_iconst (v := 0) dX2_find_275 rfl ?_
          refine mJ_put_21_5 dX2_find_276 p_X2_71 (Or.inl rfl) ?_
          exact mJ_vret dX2_find_279 rfl (rfl) (by simp_all [f_P, f_x, f_y, f_acr, f_arr, f_beg, f_gd, f_in, f_len, f_b0, f_mid, f_shf, iif_t, iif_f, b2i_t, b2i_f])
    · refine mJ_aload_n dX2_find_77 rfl ?_
      refine mJ_iload dX2_find_78 rfl ?_
      refine mJ_if_eq 87 dX2_find_80 rfl (fun _ => ?_) (fun c => absurd c (by decide))
      refine mJ_iconst (v := 1) dX2_find_87 rfl ?_
      refine mJ_cV1i dX2_find_88 e_X5_get n_X2_36 ⟨Nat.le_of_ble_eq_true rfl, Nat.le_of_ble_eq_true rfl⟩ rfl rfl (Nat.le_of_ble_eq_true rfl) (C_X5_get) ?_
      refine mJ_istore dX2_find_91 (Nat.le_of_ble_eq_true rfl) (ls2 := [_, _, _, _, _, _, _, _, _, _, _, _, _, _, _]) rfl ?_
      refine mJ_aload_n dX2_find_93 rfl ?_
      refine mJ_iload dX2_find_94 rfl ?_
      refine mJ_iload dX2_find_96 rfl ?_
      refine mJ_if_eq 106 dX2_find_98 rfl (fun _ => ?_) (fun c => absurd c (by decide))
      refine mJ_iload dX2_find_106 rfl ?_
      refine mJ_iload dX2_find_108 rfl ?_
      refine mJ_iload dX2_find_110 rfl ?_
      refine mJ_iload dX2_find_112 rfl ?_
      refine mJ_iload dX2_find_114 rfl ?_
      refine mJ_isub dX2_find_116 ?_
      refine mJ_iload dX2_find_117 rfl ?_
      refine mJ_cS6i dX2_find_119 e_X2_shiftInto n_X2_39 ⟨Nat.le_of_ble_eq_true rfl, Nat.le_of_ble_eq_true rfl⟩ (Nat.le_of_ble_eq_true rfl) (C_X2_shiftInto) ?_
      refine mJ_put_21_2 dX2_find_122 p_X2_32 ?_
      refine mJ_iload dX2_find_125 rfl ?_
      refine mJ_aload_n dX2_find_127 rfl ?_
      refine mJ_get_21_2 dX2_find_128 f_X2_32 ?_
      refine mJ_iadd dX2_find_131 ?_
      refine mJ_istore dX2_find_132 (Nat.le_of_ble_eq_true rfl) (ls2 := [_, _, _, _, _, _, _, _, _, _, _, _, _, _, _]) rfl ?_
      refine mJ_aload_n dX2_find_134 rfl ?_
      refine mJ_iload dX2_find_135 rfl ?_
      refine mJ_iload dX2_find_137 rfl ?_
      refine mJ_isub dX2_find_139 ?_
      refine mJ_put_21_3 dX2_find_140 p_X2_43 ?_
      refine mJ_aload_n dX2_find_143 rfl ?_
      refine mJ_aload_n dX2_find_144 rfl ?_
      refine mJ_get_21_3 dX2_find_145 f_X2_43 ?_
      refine mJ_iload dX2_find_148 rfl ?_
      refine mJ_iload dX2_find_150 rfl ?_
      refine mJ_cS3i dX2_find_152 e_X2_isGood n_X2_46 ⟨Nat.le_of_ble_eq_true rfl, Nat.le_of_ble_eq_true rfl⟩ (Nat.le_of_ble_eq_true rfl) (C_X2_isGood) ?_
      refine mJ_put_21_4 dX2_find_155 p_X2_50 (b2i_01 _) ?_
      refine mJ_aload_n dX2_find_158 rfl ?_
      refine mJ_aload_n dX2_find_159 rfl ?_
      refine mJ_iload_n dX2_find_160 rfl ?_
      refine mJ_iconst (v := 0) dX2_find_161 rfl ?_
      refine mJ_cV2i dX2_find_162 e_X5_hintValue n_X2_9 ⟨Nat.le_of_ble_eq_true rfl, Nat.le_of_ble_eq_true rfl⟩ rfl rfl (Nat.le_of_ble_eq_true rfl) (C_X5_hintValue) ?_
      refine mJ_iload_n dX2_find_165 rfl ?_
      refine mJ_cS3i dX2_find_166 e_X7_edgeBy n_X2_54 ⟨Nat.le_of_ble_eq_true rfl, Nat.le_of_ble_eq_true rfl⟩ (Nat.le_of_ble_eq_true rfl) (C_X7_edgeBy) ?_
      refine mJ_istore dX2_find_169 (Nat.le_of_ble_eq_true rfl) (ls2 := [_, _, _, _, _, _, _, _, _, _, _, _, _, _, _]) rfl ?_
      refine mJ_iload_n dX2_find_171 rfl ?_
      refine mJ_cS1i dX2_find_172 e_X7_isBefore n_X2_58 ⟨Nat.le_of_ble_eq_true rfl, Nat.le_of_ble_eq_true rfl⟩ (Nat.le_of_ble_eq_true rfl) (C_X7_isBefore) ?_
      refine mJ_b2i (fun b_172 => ?_) (fun b_172 => ?_)
      · refine mJ_if_eq 196 dX2_find_175 rfl (fun c => absurd c (by decide)) (fun _ => ?_)
        refine mJ_iload dX2_find_178 rfl ?_
        refine mJ_iload dX2_find_180 rfl ?_
        refine mJ_if_eq 190 dX2_find_182 rfl (fun _ => ?_) (fun c => absurd c (by decide))
        refine mJ_iload dX2_find_190 rfl ?_
        refine mJ_isub dX2_find_192 ?_
        refine mJ_goto 198 dX2_find_193 rfl ?_
        refine mJ_istore dX2_find_198 (Nat.le_of_ble_eq_true rfl) (ls2 := [_, _, _, _, _, _, _, _, _, _, _, _, _, _, _]) rfl ?_
        refine mJ_aload_n dX2_find_200 rfl ?_
        refine mJ_iload dX2_find_201 rfl ?_
        refine mJ_if_eq 211 dX2_find_203 rfl (fun _ => ?_) (fun c => absurd c (by decide))
        refine mJ_iload dX2_find_211 rfl ?_
        refine mJ_put_21_0 dX2_find_213 p_X2_61 ?_
        refine mJ_aload_n dX2_find_216 rfl ?_
        refine mJ_iload dX2_find_217 rfl ?_
        refine mJ_if_eq 227 dX2_find_219 rfl (fun _ => ?_) (fun c => absurd c (by decide))
        refine mJ_iload dX2_find_227 rfl ?_
        refine mJ_put_21_1 dX2_find_229 p_X2_64 ?_
        refine mJ_aload_n dX2_find_232 rfl ?_
        refine mJ_aload_n dX2_find_233 rfl ?_
        refine mJ_get_21_0 dX2_find_234 f_X2_61 ?_
        refine mJ_iload dX2_find_237 rfl ?_
        refine mJ_aload_n dX2_find_239 rfl ?_
        refine mJ_iconst (v := 0) dX2_find_240 rfl ?_
        refine mJ_cV1i dX2_find_241 e_X5_get n_X2_36 ⟨Nat.le_of_ble_eq_true rfl, Nat.le_of_ble_eq_true rfl⟩ rfl rfl (Nat.le_of_ble_eq_true rfl) (C_X5_get) ?_
        refine mJ_iload dX2_find_244 rfl ?_
        refine mJ_cS4i dX2_find_246 e_X7_spanLiesIn n_X2_67 ⟨Nat.le_of_ble_eq_true rfl, Nat.le_of_ble_eq_true rfl⟩ (Nat.le_of_ble_eq_true rfl) (C_X7_spanLiesIn) ?_
        refine mJ_b2i (fun b_246 => ?_) (fun b_246 => ?_)
        · refine mJ_if_eq 275 dX2_find_249 rfl (fun c => absurd c (by decide)) (fun _ => ?_)
          refine mJ_aload_n dX2_find_252 rfl ?_
          refine mJ_get_21_1 dX2_find_253 f_X2_64 ?_
          refine mJ_iload dX2_find_256 rfl ?_
          refine mJ_aload_n dX2_find_258 rfl ?_
          refine mJ_iconst (v := 1) dX2_find_259 rfl ?_
          refine mJ_cV1i dX2_find_260 e_X5_get n_X2_36 ⟨Nat.le_of_ble_eq_true rfl, Nat.le_of_ble_eq_true rfl⟩ rfl rfl (Nat.le_of_ble_eq_true rfl) (C_X5_get) ?_
          refine mJ_iload dX2_find_263 rfl ?_
          refine mJ_cS4i dX2_find_265 e_X7_spanLiesIn n_X2_67 ⟨Nat.le_of_ble_eq_true rfl, Nat.le_of_ble_eq_true rfl⟩ (Nat.le_of_ble_eq_true rfl) (C_X7_spanLiesIn) ?_
          refine mJ_b2i (fun b_265 => ?_) (fun b_265 => ?_)
          · refine mJ_if_eq 275 dX2_find_268 rfl (fun c => absurd c (by decide)) (fun _ => ?_)
            refine mJ_iconst (v := 1) dX2_find_271 rfl ?_
            refine mJ_goto 276 dX2_find_272 rfl ?_
            refine mJ_put_21_5 dX2_find_276 p_X2_71 (Or.inr rfl) ?_
            exact mJ_vret dX2_find_279 rfl (rfl) (by simp_all [f_P, f_x, f_y, f_acr, f_arr, f_beg, f_gd, f_in, f_len, f_b0, f_mid, f_shf, iif_t, iif_f, b2i_t, b2i_f])
          · refine mJ_if_eq 275 dX2_find_268 rfl (fun _ => ?_) (fun c => absurd c (by decide))
            refine mJ_iconst (v := 0) dX2_find_275 rfl ?_
            refine mJ_put_21_5 dX2_find_276 p_X2_71 (Or.inl rfl) ?_
            exact mJ_vret dX2_find_279 rfl (rfl) (by simp_all [f_P, f_x, f_y, f_acr, f_arr, f_beg, f_gd, f_in, f_len, f_b0, f_mid, f_shf, iif_t, iif_f, b2i_t, b2i_f])
        · refine mJ_if_eq 275 dX2_find_249 rfl (fun _ => ?_) (fun c => absurd c (by decide))
          refine mJ_iconst (v := 0) dX2_find_275 rfl ?_
          refine mJ_put_21_5 dX2_find_276 p_X2_71 (Or.inl rfl) ?_
          exact mJ_vret dX2_find_279 rfl (rfl) (by simp_all [f_P, f_x, f_y, f_acr, f_arr, f_beg, f_gd, f_in, f_len, f_b0, f_mid, f_shf, iif_t, iif_f, b2i_t, b2i_f])
      · refine mJ_if_eq 196 dX2_find_175 rfl (fun _ => ?_) (fun c => absurd c (by decide))
        refine mJ_iload dX2_find_196 rfl ?_
        refine mJ_istore dX2_find_198 (Nat.le_of_ble_eq_true rfl) (ls2 := [_, _, _, _, _, _, _, _, _, _, _, _, _, _, _]) rfl ?_
        refine mJ_aload_n dX2_find_200 rfl ?_
        refine mJ_iload dX2_find_201 rfl ?_
        refine mJ_if_eq 211 dX2_find_203 rfl (fun _ => ?_) (fun c => absurd c (by decide))
        refine mJ_iload dX2_find_211 rfl ?_
        refine mJ_put_21_0 dX2_find_213 p_X2_61 ?_
        refine mJ_aload_n dX2_find_216 rfl ?_
        refine mJ_iload dX2_find_217 rfl ?_
        refine mJ_if_eq 227 dX2_find_219 rfl (fun _ => ?_) (fun c => absurd c (by decide))
        refine mJ_iload dX2_find_227 rfl ?_
        refine mJ_put_21_1 dX2_find_229 p_X2_64 ?_
        refine mJ_aload_n dX2_find_232 rfl ?_
        refine mJ_aload_n dX2_find_233 rfl ?_
        refine mJ_get_21_0 dX2_find_234 f_X2_61 ?_
        refine mJ_iload dX2_find_237 rfl ?_
        refine mJ_aload_n dX2_find_239 rfl ?_
        refine mJ_iconst (v := 0) dX2_find_240 rfl ?_
        refine mJ_cV1i dX2_find_241 e_X5_get n_X2_36 ⟨Nat.le_of_ble_eq_true rfl, Nat.le_of_ble_eq_true rfl⟩ rfl rfl (Nat.le_of_ble_eq_true rfl) (C_X5_get) ?_
        refine mJ_iload dX2_find_244 rfl ?_
        refine mJ_cS4i dX2_find_246 e_X7_spanLiesIn n_X2_67 ⟨Nat.le_of_ble_eq_true rfl, Nat.le_of_ble_eq_true rfl⟩ (Nat.le_of_ble_eq_true rfl) (C_X7_spanLiesIn) ?_
        refine mJ_b2i (fun b_246 => ?_) (fun b_246 => ?_)
        · refine mJ_if_eq 275 dX2_find_249 rfl (fun c => absurd c (by decide)) (fun _ => ?_)
          refine mJ_aload_n dX2_find_252 rfl ?_
          refine mJ_get_21_1 dX2_find_253 f_X2_64 ?_
          refine mJ_iload dX2_find_256 rfl ?_
          refine mJ_aload_n dX2_find_258 rfl ?_
          refine mJ_iconst (v := 1) dX2_find_259 rfl ?_
          refine mJ_cV1i dX2_find_260 e_X5_get n_X2_36 ⟨Nat.le_of_ble_eq_true rfl, Nat.le_of_ble_eq_true rfl⟩ rfl rfl (Nat.le_of_ble_eq_true rfl) (C_X5_get) ?_
          refine mJ_iload dX2_find_263 rfl ?_
          refine mJ_cS4i dX2_find_265 e_X7_spanLiesIn n_X2_67 ⟨Nat.le_of_ble_eq_true rfl, Nat.le_of_ble_eq_true rfl⟩ (Nat.le_of_ble_eq_true rfl) (C_X7_spanLiesIn) ?_
          refine mJ_b2i (fun b_265 => ?_) (fun b_265 => ?_)
          · refine mJ_if_eq 275 dX2_find_268 rfl (fun c => absurd c (by decide)) (fun _ => ?_)
            refine mJ_iconst (v := 1) dX2_find_271 rfl ?_
            refine mJ_goto 276 dX2_find_272 rfl ?_
            refine mJ_put_21_5 dX2_find_276 p_X2_71 (Or.inr rfl) ?_
            exact mJ_vret dX2_find_279 rfl (rfl) (by simp_all [f_P, f_x, f_y, f_acr, f_arr, f_beg, f_gd, f_in, f_len, f_b0, f_mid, f_shf, iif_t, iif_f, b2i_t, b2i_f])
          · refine mJ_if_eq 275 dX2_find_268 rfl (fun _ => ?_) (fun c => absurd c (by decide))
            refine mJ_iconst (v := 0) dX2_find_275 rfl ?_
            refine mJ_put_21_5 dX2_find_276 p_X2_71 (Or.inl rfl) ?_
            exact mJ_vret dX2_find_279 rfl (rfl) (by simp_all [f_P, f_x, f_y, f_acr, f_arr, f_beg, f_gd, f_in, f_len, f_b0, f_mid, f_shf, iif_t, iif_f, b2i_t, b2i_f])
        · refine mJ_if_eq 275 dX2_find_249 rfl (fun _ => ?_) (fun c => absurd c (by decide))
          refine mJ_iconst (v := 0) dX2_find_275 rfl ?_
          refine mJ_put_21_5 dX2_find_276 p_X2_71 (Or.inl rfl) ?_
          exact mJ_vret dX2_find_279 rfl (rfl) (by simp_all [f_P, f_x, f_y, f_acr, f_arr, f_beg, f_gd, f_in, f_len, f_b0, f_mid, f_shf, iif_t, iif_f, b2i_t, b2i_f])
set_option maxHeartbeats 4000000 in
set_option maxRecDepth 100000 in
theorem C_X2_find_28 {C : aF} {Hs : tH} {Sw : tS} {T1 : tT} {P1 : tP} {Od : tO} {T2 : tT} {P2 : tP} {h s vh vw : Int32} : mCt k_X2_find [.ref 28, .ref 1, .int h, .int s, .int vw, .int vh] (cH C Hs Sw T1 P1 Od T2 P2) none (cH C Hs Sw T1 P1 Od T2 (f_P C h s vw vh)) := by
  obtain ⟨y1, y2, y3, y4, y5, y6⟩ := P2
  refine mCt_intro (plainFor_of_name rfl) (Nat.le_of_ble_eq_true rfl) (m_all rfl) (ls := [_, _, _, _, _, _, _, _, _, _, _, _, _, _, _]) rfl ?_
  refine mJ_aload_n dX2_find_0 rfl ?_
  refine mJ_iload_n dX2_find_1 rfl ?_
  refine mJ_iconst (v := 1) dX2_find_2 rfl ?_
  refine mJ_cV2i dX2_find_3 e_X5_hintValue n_X2_9 ⟨Nat.le_of_ble_eq_true rfl, Nat.le_of_ble_eq_true rfl⟩ rfl rfl (Nat.le_of_ble_eq_true rfl) (C_X5_hintValue) ?_
  refine mJ_istore dX2_find_6 (Nat.le_of_ble_eq_true rfl) (ls2 := [_, _, _, _, _, _, _, _, _, _, _, _, _, _, _]) rfl ?_
  refine mJ_aload_n dX2_find_8 rfl ?_
  refine mJ_iload_n dX2_find_9 rfl ?_
  refine mJ_iconst (v := 2) dX2_find_10 rfl ?_
  refine mJ_cV2i dX2_find_11 e_X5_hintValue n_X2_9 ⟨Nat.le_of_ble_eq_true rfl, Nat.le_of_ble_eq_true rfl⟩ rfl rfl (Nat.le_of_ble_eq_true rfl) (C_X5_hintValue) ?_
  refine mJ_istore dX2_find_14 (Nat.le_of_ble_eq_true rfl) (ls2 := [_, _, _, _, _, _, _, _, _, _, _, _, _, _, _]) rfl ?_
  refine mJ_iload_n dX2_find_16 rfl ?_
  refine mJ_cS1i dX2_find_17 e_X7_isLevel n_X2_15 ⟨Nat.le_of_ble_eq_true rfl, Nat.le_of_ble_eq_true rfl⟩ (Nat.le_of_ble_eq_true rfl) (C_X7_isLevel) ?_
  refine mJ_b2i (fun b_17 => ?_) (fun b_17 => ?_)
  · refine mJ_istore dX2_find_20 (Nat.le_of_ble_eq_true rfl) (ls2 := [_, _, _, _, _, _, _, _, _, _, _, _, _, _, _]) rfl ?_
    refine mJ_iload dX2_find_22 rfl ?_
    refine mJ_if_eq 32 dX2_find_24 rfl (fun c => absurd c (by decide)) (fun _ => ?_)
    refine mJ_iload dX2_find_27 rfl ?_
    refine mJ_goto 34 dX2_find_29 rfl ?_
    refine mJ_istore dX2_find_34 (Nat.le_of_ble_eq_true rfl) (ls2 := [_, _, _, _, _, _, _, _, _, _, _, _, _, _, _]) rfl ?_
    refine mJ_aload_n dX2_find_36 rfl ?_
    refine mJ_iload_n dX2_find_37 rfl ?_
    refine mJ_iload dX2_find_38 rfl ?_
    refine mJ_cS3i dX2_find_40 e_X2_beginAlong n_X2_19 ⟨Nat.le_of_ble_eq_true rfl, Nat.le_of_ble_eq_true rfl⟩ (Nat.le_of_ble_eq_true rfl) (C_X2_beginAlong_1) ?_
    refine mJ_istore dX2_find_43 (Nat.le_of_ble_eq_true rfl) (ls2 := [_, _, _, _, _, _, _, _, _, _, _, _, _, _, _]) rfl ?_
    refine mJ_aload_n dX2_find_45 rfl ?_
    refine mJ_iload_n dX2_find_46 rfl ?_
    refine mJ_iload dX2_find_47 rfl ?_
    refine mJ_cS3i dX2_find_49 e_X2_middleAlong n_X2_25 ⟨Nat.le_of_ble_eq_true rfl, Nat.le_of_ble_eq_true rfl⟩ (Nat.le_of_ble_eq_true rfl) (C_X2_middleAlong_1) ?_
    refine mJ_istore dX2_find_52 (Nat.le_of_ble_eq_true rfl) (ls2 := [_, _, _, _, _, _, _, _, _, _, _, _, _, _, _]) rfl ?_
    refine mJ_aload_n dX2_find_54 rfl ?_
    refine mJ_iconst (v := 1) dX2_find_55 rfl ?_
    refine mJ_cV1i dX2_find_56 e_X5_setting n_X2_28 ⟨Nat.le_of_ble_eq_true rfl, Nat.le_of_ble_eq_true rfl⟩ rfl rfl (Nat.le_of_ble_eq_true rfl) (C_X5_setting) ?_
    refine mJ_istore dX2_find_59 (Nat.le_of_ble_eq_true rfl) (ls2 := [_, _, _, _, _, _, _, _, _, _, _, _, _, _, _]) rfl ?_
    refine mJ_aload_n dX2_find_61 rfl ?_
    refine mJ_iconst (v := 0) dX2_find_62 rfl ?_
    refine mJ_put_28_2 dX2_find_63 p_X2_32 ?_
    refine mJ_aload_n dX2_find_66 rfl ?_
    refine mJ_iload_n dX2_find_67 rfl ?_
    refine mJ_bipush (v := 6) dX2_find_68 rfl ?_
    refine mJ_cV2i dX2_find_70 e_X5_hintValue n_X2_9 ⟨Nat.le_of_ble_eq_true rfl, Nat.le_of_ble_eq_true rfl⟩ rfl rfl (Nat.le_of_ble_eq_true rfl) (C_X5_hintValue) ?_
    refine mJ_iconst (v := 1) dX2_find_73 rfl ?_
    refine mJ_icmp_ne 125 dX2_find_74 rfl (fun c_74 => ?_) (fun c_74 => ?_)
    · refine mJ_iload dX2_find_125 rfl ?_
      refine mJ_aload_n dX2_find_127 rfl ?_
      refine mJ_get_28_2 dX2_find_128 f_X2_32 ?_
      refine mJ_iadd dX2_find_131 ?_
      refine mJ_istore dX2_find_132 (Nat.le_of_ble_eq_true rfl) (ls2 := [_, _, _, _, _, _, _, _, _, _, _, _, _, _, _]) rfl ?_
      refine mJ_aload_n dX2_find_134 rfl ?_
      refine mJ_iload dX2_find_135 rfl ?_
      refine mJ_iload dX2_find_137 rfl ?_
      refine mJ_isub dX2_find_139 ?_
      refine mJ_put_28_3 dX2_find_140 p_X2_43 ?_
      refine mJ_aload_n dX2_find_143 rfl ?_
      refine mJ_aload_n dX2_find_144 rfl ?_
      refine mJ_get_28_3 dX2_find_145 f_X2_43 ?_
      refine mJ_iload dX2_find_148 rfl ?_
      refine mJ_iload dX2_find_150 rfl ?_
      refine mJ_cS3i dX2_find_152 e_X2_isGood n_X2_46 ⟨Nat.le_of_ble_eq_true rfl, Nat.le_of_ble_eq_true rfl⟩ (Nat.le_of_ble_eq_true rfl) (C_X2_isGood) ?_
      refine mJ_put_28_4 dX2_find_155 p_X2_50 (b2i_01 _) ?_
      refine mJ_aload_n dX2_find_158 rfl ?_
      refine mJ_aload_n dX2_find_159 rfl ?_
      refine mJ_iload_n dX2_find_160 rfl ?_
      refine mJ_iconst (v := 0) dX2_find_161 rfl ?_
      refine mJ_cV2i dX2_find_162 e_X5_hintValue n_X2_9 ⟨Nat.le_of_ble_eq_true rfl, Nat.le_of_ble_eq_true rfl⟩ rfl rfl (Nat.le_of_ble_eq_true rfl) (C_X5_hintValue) ?_
      refine mJ_iload_n dX2_find_165 rfl ?_
      refine mJ_cS3i dX2_find_166 e_X7_edgeBy n_X2_54 ⟨Nat.le_of_ble_eq_true rfl, Nat.le_of_ble_eq_true rfl⟩ (Nat.le_of_ble_eq_true rfl) (C_X7_edgeBy) ?_
      refine mJ_istore dX2_find_169 (Nat.le_of_ble_eq_true rfl) (ls2 := [_, _, _, _, _, _, _, _, _, _, _, _, _, _, _]) rfl ?_
      refine mJ_iload_n dX2_find_171 rfl ?_
      refine mJ_cS1i dX2_find_172 e_X7_isBefore n_X2_58 ⟨Nat.le_of_ble_eq_true rfl, Nat.le_of_ble_eq_true rfl⟩ (Nat.le_of_ble_eq_true rfl) (C_X7_isBefore) ?_
      refine mJ_b2i (fun b_172 => ?_) (fun b_172 => ?_)
      · refine mJ_if_eq 196 dX2_find_175 rfl (fun c => absurd c (by decide)) (fun _ => ?_)
        refine mJ_iload dX2_find_178 rfl ?_
        refine mJ_iload dX2_find_180 rfl ?_
        refine mJ_if_eq 190 dX2_find_182 rfl (fun c => absurd c (by decide)) (fun _ => ?_)
        refine mJ_iload dX2_find_185 rfl ?_
        refine mJ_goto 192 dX2_find_187 rfl ?_
        refine mJ_isub dX2_find_192 ?_
        refine mJ_goto 198 dX2_find_193 rfl ?_
        refine mJ_istore dX2_find_198 (Nat.le_of_ble_eq_true rfl) (ls2 := [_, _, _, _, _, _, _, _, _, _, _, _, _, _, _]) rfl ?_
        refine mJ_aload_n dX2_find_200 rfl ?_
        refine mJ_iload dX2_find_201 rfl ?_
        refine mJ_if_eq 211 dX2_find_203 rfl (fun c => absurd c (by decide)) (fun _ => ?_)
        refine mJ_iload dX2_find_206 rfl ?_
        refine mJ_goto 213 dX2_find_208 rfl ?_
        refine mJ_put_28_0 dX2_find_213 p_X2_61 ?_
        refine mJ_aload_n dX2_find_216 rfl ?_
        refine mJ_iload dX2_find_217 rfl ?_
        refine mJ_if_eq 227 dX2_find_219 rfl (fun c => absurd c (by decide)) (fun _ => ?_)
        refine mJ_iload dX2_find_222 rfl ?_
        refine mJ_goto 229 dX2_find_224 rfl ?_
        refine mJ_put_28_1 dX2_find_229 p_X2_64 ?_
        refine mJ_aload_n dX2_find_232 rfl ?_
        refine mJ_aload_n dX2_find_233 rfl ?_
        refine mJ_get_28_0 dX2_find_234 f_X2_61 ?_
        refine mJ_iload dX2_find_237 rfl ?_
        refine mJ_aload_n dX2_find_239 rfl ?_
        refine mJ_iconst (v := 0) dX2_find_240 rfl ?_
        refine mJ_cV1i dX2_find_241 e_X5_get n_X2_36 ⟨Nat.le_of_ble_eq_true rfl, Nat.le_of_ble_eq_true rfl⟩ rfl rfl (Nat.le_of_ble_eq_true rfl) (C_X5_get) ?_
        refine mJ_iload dX2_find_244 rfl ?_
        refine mJ_cS4i dX2_find_246 e_X7_spanLiesIn n_X2_67 ⟨Nat.le_of_ble_eq_true rfl, Nat.le_of_ble_eq_true rfl⟩ (Nat.le_of_ble_eq_true rfl) (C_X7_spanLiesIn) ?_
        refine mJ_b2i (fun b_246 => ?_) (fun b_246 => ?_)
        · refine mJ_if_eq 275 dX2_find_249 rfl (fun c => absurd c (by decide)) (fun _ => ?_)
          refine mJ_aload_n dX2_find_252 rfl ?_
          refine mJ_get_28_1 dX2_find_253 f_X2_64 ?_
          refine mJ_iload dX2_find_256 rfl ?_
          refine mJ_aload_n dX2_find_258 rfl ?_
          refine mJ_iconst (v := 1) dX2_find_259 rfl ?_
          refine mJ_cV1i dX2_find_260 e_X5_get n_X2_36 ⟨Nat.le_of_ble_eq_true rfl, Nat.le_of_ble_eq_true rfl⟩ rfl rfl (Nat.le_of_ble_eq_true rfl) (C_X5_get) ?_
          refine mJ_iload dX2_find_263 rfl ?_
          refine mJ_cS4i dX2_find_265 e_X7_spanLiesIn n_X2_67 ⟨Nat.le_of_ble_eq_true rfl, Nat.le_of_ble_eq_true rfl⟩ (Nat.le_of_ble_eq_true rfl) (C_X7_spanLiesIn) ?_
          refine mJ_b2i (fun b_265 => ?_) (fun b_265 => ?_)
          · refine mJ_if_eq 275 dX2_find_268 rfl (fun c => absurd c (by decide)) (fun _ => ?_)
            refine mJ_iconst (v := 1) dX2_find_271 rfl ?_
            refine mJ_goto 276 dX2_find_272 rfl ?_
            refine mJ_put_28_5 dX2_find_276 p_X2_71 (Or.inr rfl) ?_
            exact mJ_vret dX2_find_279 rfl (rfl) (by simp_all [f_P, f_x, f_y, f_acr, f_arr, f_beg, f_gd, f_in, f_len, f_b0, f_mid, f_shf, iif_t, iif_f, b2i_t, b2i_f])
          · refine mJ_if_eq 275 dX2_find_268 rfl (fun _ => ?_) (fun c => absurd c (by decide))
            refine mJ_iconst (v := 0) dX2_find_275 rfl ?_
            refine mJ_put_28_5 dX2_find_276 p_X2_71 (Or.inl rfl) ?_
            exact mJ_vret dX2_find_279 rfl (rfl) (by simp_all [f_P, f_x, f_y, f_acr, f_arr, f_beg, f_gd, f_in, f_len, f_b0, f_mid, f_shf, iif_t, iif_f, b2i_t, b2i_f])
        · refine mJ_if_eq 275 dX2_find_249 rfl (fun _ => ?_) (fun c => absurd c (by decide))
          refine mJ_iconst (v := 0) dX2_find_275 rfl ?_
          refine mJ_put_28_5 dX2_find_276 p_X2_71 (Or.inl rfl) ?_
          exact mJ_vret dX2_find_279 rfl (rfl) (by simp_all [f_P, f_x, f_y, f_acr, f_arr, f_beg, f_gd, f_in, f_len, f_b0, f_mid, f_shf, iif_t, iif_f, b2i_t, b2i_f])
      · refine mJ_if_eq 196 dX2_find_175 rfl (fun _ => ?_) (fun c => absurd c (by decide))
        refine mJ_iload dX2_find_196 rfl ?_
        refine mJ_istore dX2_find_198 (Nat.le_of_ble_eq_true rfl) (ls2 := [_, _, _, _, _, _, _, _, _, _, _, _, _, _, _]) rfl ?_
        refine mJ_aload_n dX2_find_200 rfl ?_
        refine mJ_iload dX2_find_201 rfl ?_
        refine mJ_if_eq 211 dX2_find_203 rfl (fun c => absurd c (by decide)) (fun _ => ?_)
        refine mJ_iload dX2_find_206 rfl ?_
        refine mJ_goto 213 dX2_find_208 rfl ?_
        refine mJ_put_28_0 dX2_find_213 p_X2_61 ?_
        refine mJ_aload_n dX2_find_216 rfl ?_
        refine mJ_iload dX2_find_217 rfl ?_
        refine mJ_if_eq 227 dX2_find_219 rfl (fun c => absurd c (by decide)) (fun _ => ?_)
        refine mJ_iload dX2_find_222 rfl ?_
        refine mJ_goto 229 dX2_find_224 rfl ?_
        refine mJ_put_28_1 dX2_find_229 p_X2_64 ?_
        refine mJ_aload_n dX2_find_232 rfl ?_
        refine mJ_aload_n dX2_find_233 rfl ?_
        refine mJ_get_28_0 dX2_find_234 f_X2_61 ?_
        refine mJ_iload dX2_find_237 rfl ?_
        refine mJ_aload_n dX2_find_239 rfl ?_
        refine mJ_iconst (v := 0) dX2_find_240 rfl ?_
        refine mJ_cV1i dX2_find_241 e_X5_get n_X2_36 ⟨Nat.le_of_ble_eq_true rfl, Nat.le_of_ble_eq_true rfl⟩ rfl rfl (Nat.le_of_ble_eq_true rfl) (C_X5_get) ?_
        refine mJ_iload dX2_find_244 rfl ?_
        refine mJ_cS4i dX2_find_246 e_X7_spanLiesIn n_X2_67 ⟨Nat.le_of_ble_eq_true rfl, Nat.le_of_ble_eq_true rfl⟩ (Nat.le_of_ble_eq_true rfl) (C_X7_spanLiesIn) ?_
        refine mJ_b2i (fun b_246 => ?_) (fun b_246 => ?_)
        · refine mJ_if_eq 275 dX2_find_249 rfl (fun c => absurd c (by decide)) (fun _ => ?_)
          refine mJ_aload_n dX2_find_252 rfl ?_
          refine mJ_get_28_1 dX2_find_253 f_X2_64 ?_
          refine mJ_iload dX2_find_256 rfl ?_
          refine mJ_aload_n dX2_find_258 rfl ?_
          refine mJ_iconst (v := 1) dX2_find_259 rfl ?_
          refine mJ_cV1i dX2_find_260 e_X5_get n_X2_36 ⟨Nat.le_of_ble_eq_true rfl, Nat.le_of_ble_eq_true rfl⟩ rfl rfl (Nat.le_of_ble_eq_true rfl) (C_X5_get) ?_
          refine mJ_iload dX2_find_263 rfl ?_
          refine mJ_cS4i dX2_find_265 e_X7_spanLiesIn n_X2_67 ⟨Nat.le_of_ble_eq_true rfl, Nat.le_of_ble_eq_true rfl⟩ (Nat.le_of_ble_eq_true rfl) (C_X7_spanLiesIn) ?_
          refine mJ_b2i (fun b_265 => ?_) (fun b_265 => ?_)
          · refine mJ_if_eq 275 dX2_find_268 rfl (fun c => absurd c (by decide)) (fun _ => ?_)
            refine mJ_iconst (v := 1) dX2_find_271 rfl ?_
            refine mJ_goto 276 dX2_find_272 rfl ?_
            refine mJ_put_28_5 dX2_find_276 p_X2_71 (Or.inr rfl) ?_
            exact mJ_vret dX2_find_279 rfl (rfl) (by simp_all [f_P, f_x, f_y, f_acr, f_arr, f_beg, f_gd, f_in, f_len, f_b0, f_mid, f_shf, iif_t, iif_f, b2i_t, b2i_f])
          · refine mJ_if_eq 275 dX2_find_268 rfl (fun _ => ?_) (fun c => absurd c (by decide))
            refine mJ_iconst (v := 0) dX2_find_275 rfl ?_
            refine mJ_put_28_5 dX2_find_276 p_X2_71 (Or.inl rfl) ?_
            exact mJ_vret dX2_find_279 rfl (rfl) (by simp_all [f_P, f_x, f_y, f_acr, f_arr, f_beg, f_gd, f_in, f_len, f_b0, f_mid, f_shf, iif_t, iif_f, b2i_t, b2i_f])
        · refine mJ_if_eq 275 dX2_find_249 rfl (fun _ => ?_) (fun c => absurd c (by decide))
          refine mJ_iconst (v := 0) dX2_find_275 rfl ?_
          refine mJ_put_28_5 dX2_find_276 p_X2_71 (Or.inl rfl) ?_
          exact mJ_vret dX2_find_279 rfl (rfl) (by simp_all [f_P, f_x, f_y, f_acr, f_arr, f_beg, f_gd, f_in, f_len, f_b0, f_mid, f_shf, iif_t, iif_f, b2i_t, b2i_f])
    · refine mJ_aload_n dX2_find_77 rfl ?_
      refine mJ_iload dX2_find_78 rfl ?_
      refine mJ_if_eq 87 dX2_find_80 rfl (fun c => absurd c (by decide)) (fun _ => ?_)
      refine mJ_iconst (v := 0) dX2_find_83 rfl ?_
      refine mJ_goto 88 dX2_find_84 rfl ?_
      refine mJ_cV1i dX2_find_88 e_X5_get n_X2_36 ⟨Nat.le_of_ble_eq_true rfl, Nat.le_of_ble_eq_true rfl⟩ rfl rfl (Nat.le_of_ble_eq_true rfl) (C_X5_get) ?_
      refine mJ_istore dX2_find_91 (Nat.le_of_ble_eq_true rfl) (ls2 := [_, _, _, _, _, _, _, _, _, _, _, _, _, _, _]) rfl ?_
      refine mJ_aload_n dX2_find_93 rfl ?_
      refine mJ_iload dX2_find_94 rfl ?_
      refine mJ_iload dX2_find_96 rfl ?_
      refine mJ_if_eq 106 dX2_find_98 rfl (fun c => absurd c (by decide)) (fun _ => ?_)
      refine mJ_iload dX2_find_101 rfl ?_
      refine mJ_goto 108 dX2_find_103 rfl ?_
      refine mJ_iload dX2_find_108 rfl ?_
      refine mJ_iload dX2_find_110 rfl ?_
      refine mJ_iload dX2_find_112 rfl ?_
      refine mJ_iload dX2_find_114 rfl ?_
      refine mJ_isub dX2_find_116 ?_
      refine mJ_iload dX2_find_117 rfl ?_
      refine mJ_cS6i dX2_find_119 e_X2_shiftInto n_X2_39 ⟨Nat.le_of_ble_eq_true rfl, Nat.le_of_ble_eq_true rfl⟩ (Nat.le_of_ble_eq_true rfl) (C_X2_shiftInto) ?_
      refine mJ_put_28_2 dX2_find_122 p_X2_32 ?_
      refine mJ_iload dX2_find_125 rfl ?_
      refine mJ_aload_n dX2_find_127 rfl ?_
      refine mJ_get_28_2 dX2_find_128 f_X2_32 ?_
      refine mJ_iadd dX2_find_131 ?_
      refine mJ_istore dX2_find_132 (Nat.le_of_ble_eq_true rfl) (ls2 := [_, _, _, _, _, _, _, _, _, _, _, _, _, _, _]) rfl ?_
      refine mJ_aload_n dX2_find_134 rfl ?_
      refine mJ_iload dX2_find_135 rfl ?_
      refine mJ_iload dX2_find_137 rfl ?_
      refine mJ_isub dX2_find_139 ?_
      refine mJ_put_28_3 dX2_find_140 p_X2_43 ?_
      refine mJ_aload_n dX2_find_143 rfl ?_
      refine mJ_aload_n dX2_find_144 rfl ?_
      refine mJ_get_28_3 dX2_find_145 f_X2_43 ?_
      refine mJ_iload dX2_find_148 rfl ?_
      refine mJ_iload dX2_find_150 rfl ?_
      refine mJ_cS3i dX2_find_152 e_X2_isGood n_X2_46 ⟨Nat.le_of_ble_eq_true rfl, Nat.le_of_ble_eq_true rfl⟩ (Nat.le_of_ble_eq_true rfl) (C_X2_isGood) ?_
      refine mJ_put_28_4 dX2_find_155 p_X2_50 (b2i_01 _) ?_
      refine mJ_aload_n dX2_find_158 rfl ?_
      refine mJ_aload_n dX2_find_159 rfl ?_
      refine mJ_iload_n dX2_find_160 rfl ?_
      refine mJ_iconst (v := 0) dX2_find_161 rfl ?_
      refine mJ_cV2i dX2_find_162 e_X5_hintValue n_X2_9 ⟨Nat.le_of_ble_eq_true rfl, Nat.le_of_ble_eq_true rfl⟩ rfl rfl (Nat.le_of_ble_eq_true rfl) (C_X5_hintValue) ?_
      refine mJ_iload_n dX2_find_165 rfl ?_
      refine mJ_cS3i dX2_find_166 e_X7_edgeBy n_X2_54 ⟨Nat.le_of_ble_eq_true rfl, Nat.le_of_ble_eq_true rfl⟩ (Nat.le_of_ble_eq_true rfl) (C_X7_edgeBy) ?_
      refine mJ_istore dX2_find_169 (Nat.le_of_ble_eq_true rfl) (ls2 := [_, _, _, _, _, _, _, _, _, _, _, _, _, _, _]) rfl ?_
      refine mJ_iload_n dX2_find_171 rfl ?_
      refine mJ_cS1i dX2_find_172 e_X7_isBefore n_X2_58 ⟨Nat.le_of_ble_eq_true rfl, Nat.le_of_ble_eq_true rfl⟩ (Nat.le_of_ble_eq_true rfl) (C_X7_isBefore) ?_
      refine mJ_b2i (fun b_172 => ?_) (fun b_172 => ?_)
      · refine mJ_if_eq 196 dX2_find_175 rfl (fun c => absurd c (by decide)) (fun _ => ?_)
        refine mJ_iload dX2_find_178 rfl ?_
        refine mJ_iload dX2_find_180 rfl ?_
        refine mJ_if_eq 190 dX2_find_182 rfl (fun c => absurd c (by decide)) (fun _ => ?_)
        refine mJ_iload dX2_find_185 rfl ?_
        refine mJ_goto 192 dX2_find_187 rfl ?_
        refine mJ_isub dX2_find_192 ?_
        refine mJ_goto 198 dX2_find_193 rfl ?_
        refine mJ_istore dX2_find_198 (Nat.le_of_ble_eq_true rfl) (ls2 := [_, _, _, _, _, _, _, _, _, _, _, _, _, _, _]) rfl ?_
        refine mJ_aload_n dX2_find_200 rfl ?_
        refine mJ_iload dX2_find_201 rfl ?_
        refine mJ_if_eq 211 dX2_find_203 rfl (fun c => absurd c (by decide)) (fun _ => ?_)
        refine mJ_iload dX2_find_206 rfl ?_
        refine mJ_goto 213 dX2_find_208 rfl ?_
        refine mJ_put_28_0 dX2_find_213 p_X2_61 ?_
        refine mJ_aload_n dX2_find_216 rfl ?_
        refine mJ_iload dX2_find_217 rfl ?_
        refine mJ_if_eq 227 dX2_find_219 rfl (fun c => absurd c (by decide)) (fun _ => ?_)
        refine mJ_iload dX2_find_222 rfl ?_
        refine mJ_goto 229 dX2_find_224 rfl ?_
        refine mJ_put_28_1 dX2_find_229 p_X2_64 ?_
        refine mJ_aload_n dX2_find_232 rfl ?_
        refine mJ_aload_n dX2_find_233 rfl ?_
        refine mJ_get_28_0 dX2_find_234 f_X2_61 ?_
        refine mJ_iload dX2_find_237 rfl ?_
        refine mJ_aload_n dX2_find_239 rfl ?_
        refine mJ_iconst (v := 0) dX2_find_240 rfl ?_
        refine mJ_cV1i dX2_find_241 e_X5_get n_X2_36 ⟨Nat.le_of_ble_eq_true rfl, Nat.le_of_ble_eq_true rfl⟩ rfl rfl (Nat.le_of_ble_eq_true rfl) (C_X5_get) ?_
        refine mJ_iload dX2_find_244 rfl ?_
        refine mJ_cS4i dX2_find_246 e_X7_spanLiesIn n_X2_67 ⟨Nat.le_of_ble_eq_true rfl, Nat.le_of_ble_eq_true rfl⟩ (Nat.le_of_ble_eq_true rfl) (C_X7_spanLiesIn) ?_
        refine mJ_b2i (fun b_246 => ?_) (fun b_246 => ?_)
        · refine mJ_if_eq 275 dX2_find_249 rfl (fun c => absurd c (by decide)) (fun _ => ?_)
          refine mJ_aload_n dX2_find_252 rfl ?_
          refine mJ_get_28_1 dX2_find_253 f_X2_64 ?_
          refine mJ_iload dX2_find_256 rfl ?_
          refine mJ_aload_n dX2_find_258 rfl ?_
          refine mJ_iconst (v := 1) dX2_find_259 rfl ?_
          refine mJ_cV1i dX2_find_260 e_X5_get n_X2_36 ⟨Nat.le_of_ble_eq_true rfl, Nat.le_of_ble_eq_true rfl⟩ rfl rfl (Nat.le_of_ble_eq_true rfl) (C_X5_get) ?_
          refine mJ_iload dX2_find_263 rfl ?_
          refine mJ_cS4i dX2_find_265 e_X7_spanLiesIn n_X2_67 ⟨Nat.le_of_ble_eq_true rfl, Nat.le_of_ble_eq_true rfl⟩ (Nat.le_of_ble_eq_true rfl) (C_X7_spanLiesIn) ?_
          refine mJ_b2i (fun b_265 => ?_) (fun b_265 => ?_)
          · refine mJ_if_eq 275 dX2_find_268 rfl (fun c => absurd c (by decide)) (fun _ => ?_)
            refine mJ_iconst (v := 1) dX2_find_271 rfl ?_
            refine mJ_goto 276 dX2_find_272 rfl ?_
            refine mJ_put_28_5 dX2_find_276 p_X2_71 (Or.inr rfl) ?_
            exact mJ_vret dX2_find_279 rfl (rfl) (by simp_all [f_P, f_x, f_y, f_acr, f_arr, f_beg, f_gd, f_in, f_len, f_b0, f_mid, f_shf, iif_t, iif_f, b2i_t, b2i_f])
          · refine mJ_if_eq 275 dX2_find_268 rfl (fun _ => ?_) (fun c => absurd c (by decide))
            refine mJ_iconst (v := 0) dX2_find_275 rfl ?_
            refine mJ_put_28_5 dX2_find_276 p_X2_71 (Or.inl rfl) ?_
            exact mJ_vret dX2_find_279 rfl (rfl) (by simp_all [f_P, f_x, f_y, f_acr, f_arr, f_beg, f_gd, f_in, f_len, f_b0, f_mid, f_shf, iif_t, iif_f, b2i_t, b2i_f])
        · refine mJ_if_eq 275 dX2_find_249 rfl (fun _ => ?_) (fun c => absurd c (by decide))
          refine mJ_iconst (v := 0) dX2_find_275 rfl ?_
          refine mJ_put_28_5 dX2_find_276 p_X2_71 (Or.inl rfl) ?_
          exact mJ_vret dX2_find_279 rfl (rfl) (by simp_all [f_P, f_x, f_y, f_acr, f_arr, f_beg, f_gd, f_in, f_len, f_b0, f_mid, f_shf, iif_t, iif_f, b2i_t, b2i_f])
      · refine mJ_if_eq 196 dX2_find_175 rfl (fun _ => ?_) (fun c => absurd c (by decide))
        refine mJ_iload dX2_find_196 rfl ?_
        refine mJ_istore dX2_find_198 (Nat.le_of_ble_eq_true rfl) (ls2 := [_, _, _, _, _, _, _, _, _, _, _, _, _, _, _]) rfl ?_
        refine mJ_aload_n dX2_find_200 rfl ?_
        refine mJ_iload dX2_find_201 rfl ?_
        refine mJ_if_eq 211 dX2_find_203 rfl (fun c => absurd c (by decide)) (fun _ => ?_)
        refine mJ_iload dX2_find_206 rfl ?_
        refine mJ_goto 213 dX2_find_208 rfl ?_
        refine mJ_put_28_0 dX2_find_213 p_X2_61 ?_
        refine mJ_aload_n dX2_find_216 rfl ?_
        refine mJ_iload dX2_find_217 rfl ?_
        refine mJ_if_eq 227 dX2_find_219 rfl (fun c => absurd c (by decide)) (fun _ => ?_)
        refine mJ_iload dX2_find_222 rfl ?_
        refine mJ_goto 229 dX2_find_224 rfl ?_
        refine mJ_put_28_1 dX2_find_229 p_X2_64 ?_
        refine mJ_aload_n dX2_find_232 rfl ?_
        refine mJ_aload_n dX2_find_233 rfl ?_
        refine mJ_get_28_0 dX2_find_234 f_X2_61 ?_
        refine mJ_iload dX2_find_237 rfl ?_
        refine mJ_aload_n dX2_find_239 rfl ?_
        refine mJ_iconst (v := 0) dX2_find_240 rfl ?_
        refine mJ_cV1i dX2_find_241 e_X5_get n_X2_36 ⟨Nat.le_of_ble_eq_true rfl, Nat.le_of_ble_eq_true rfl⟩ rfl rfl (Nat.le_of_ble_eq_true rfl) (C_X5_get) ?_
        refine mJ_iload dX2_find_244 rfl ?_
        refine mJ_cS4i dX2_find_246 e_X7_spanLiesIn n_X2_67 ⟨Nat.le_of_ble_eq_true rfl, Nat.le_of_ble_eq_true rfl⟩ (Nat.le_of_ble_eq_true rfl) (C_X7_spanLiesIn) ?_
        refine mJ_b2i (fun b_246 => ?_) (fun b_246 => ?_)
        · refine mJ_if_eq 275 dX2_find_249 rfl (fun c => absurd c (by decide)) (fun _ => ?_)
          refine mJ_aload_n dX2_find_252 rfl ?_
          refine mJ_get_28_1 dX2_find_253 f_X2_64 ?_
          refine mJ_iload dX2_find_256 rfl ?_
          refine mJ_aload_n dX2_find_258 rfl ?_
          refine mJ_iconst (v := 1) dX2_find_259 rfl ?_
          refine mJ_cV1i dX2_find_260 e_X5_get n_X2_36 ⟨Nat.le_of_ble_eq_true rfl, Nat.le_of_ble_eq_true rfl⟩ rfl rfl (Nat.le_of_ble_eq_true rfl) (C_X5_get) ?_
          refine mJ_iload dX2_find_263 rfl ?_
          refine mJ_cS4i dX2_find_265 e_X7_spanLiesIn n_X2_67 ⟨Nat.le_of_ble_eq_true rfl, Nat.le_of_ble_eq_true rfl⟩ (Nat.le_of_ble_eq_true rfl) (C_X7_spanLiesIn) ?_
          refine mJ_b2i (fun b_265 => ?_) (fun b_265 => ?_)
          · refine mJ_if_eq 275 dX2_find_268 rfl (fun c => absurd c (by decide)) (fun _ => ?_)
            refine mJ_iconst (v := 1) dX2_find_271 rfl ?_
            refine mJ_goto 276 dX2_find_272 rfl ?_
            refine mJ_put_28_5 dX2_find_276 p_X2_71 (Or.inr rfl) ?_
            exact mJ_vret dX2_find_279 rfl (rfl) (by simp_all [f_P, f_x, f_y, f_acr, f_arr, f_beg, f_gd, f_in, f_len, f_b0, f_mid, f_shf, iif_t, iif_f, b2i_t, b2i_f])
          · refine mJ_if_eq 275 dX2_find_268 rfl (fun _ => ?_) (fun c => absurd c (by decide))
            refine mJ_iconst (v := 0) dX2_find_275 rfl ?_
            refine mJ_put_28_5 dX2_find_276 p_X2_71 (Or.inl rfl) ?_
            exact mJ_vret dX2_find_279 rfl (rfl) (by simp_all [f_P, f_x, f_y, f_acr, f_arr, f_beg, f_gd, f_in, f_len, f_b0, f_mid, f_shf, iif_t, iif_f, b2i_t, b2i_f])
        · refine mJ_if_eq 275 dX2_find_249 rfl (fun _ => ?_) (fun c => absurd c (by decide))
          refine mJ_iconst (v := 0) dX2_find_275 rfl ?_
          refine mJ_put_28_5 dX2_find_276 p_X2_71 (Or.inl rfl) ?_
          exact mJ_vret dX2_find_279 rfl (rfl) (by simp_all [f_P, f_x, f_y, f_acr, f_arr, f_beg, f_gd, f_in, f_len, f_b0, f_mid, f_shf, iif_t, iif_f, b2i_t, b2i_f])
  · refine mJ_istore dX2_find_20 (Nat.le_of_ble_eq_true rfl) (ls2 := [_, _, _, _, _, _, _, _, _, _, _, _, _, _, _]) rfl ?_
    refine mJ_iload dX2_find_22 rfl ?_
    refine mJ_if_eq 32 dX2_find_24 rfl (fun _ => ?_) (fun c => absurd c (by decide))
    refine mJ_iload dX2_find_32 rfl ?_
    refine mJ_istore dX2_find_34 (Nat.le_of_ble_eq_true rfl) (ls2 := [_, _, _, _, _, _, _, _, _, _, _, _, _, _, _]) rfl ?_
    refine mJ_aload_n dX2_find_36 rfl ?_
    refine mJ_iload_n dX2_find_37 rfl ?_
    refine mJ_iload dX2_find_38 rfl ?_
    refine mJ_cS3i dX2_find_40 e_X2_beginAlong n_X2_19 ⟨Nat.le_of_ble_eq_true rfl, Nat.le_of_ble_eq_true rfl⟩ (Nat.le_of_ble_eq_true rfl) (C_X2_beginAlong_0) ?_
    refine mJ_istore dX2_find_43 (Nat.le_of_ble_eq_true rfl) (ls2 := [_, _, _, _, _, _, _, _, _, _, _, _, _, _, _]) rfl ?_
    refine mJ_aload_n dX2_find_45 rfl ?_
    refine mJ_iload_n dX2_find_46 rfl ?_
    refine mJ_iload dX2_find_47 rfl ?_
    refine mJ_cS3i dX2_find_49 e_X2_middleAlong n_X2_25 ⟨Nat.le_of_ble_eq_true rfl, Nat.le_of_ble_eq_true rfl⟩ (Nat.le_of_ble_eq_true rfl) (C_X2_middleAlong_0) ?_
    refine mJ_istore dX2_find_52 (Nat.le_of_ble_eq_true rfl) (ls2 := [_, _, _, _, _, _, _, _, _, _, _, _, _, _, _]) rfl ?_
    refine mJ_aload_n dX2_find_54 rfl ?_
    refine mJ_iconst (v := 1) dX2_find_55 rfl ?_
    refine mJ_cV1i dX2_find_56 e_X5_setting n_X2_28 ⟨Nat.le_of_ble_eq_true rfl, Nat.le_of_ble_eq_true rfl⟩ rfl rfl (Nat.le_of_ble_eq_true rfl) (C_X5_setting) ?_
    refine mJ_istore dX2_find_59 (Nat.le_of_ble_eq_true rfl) (ls2 := [_, _, _, _, _, _, _, _, _, _, _, _, _, _, _]) rfl ?_
    refine mJ_aload_n dX2_find_61 rfl ?_
    refine mJ_iconst (v := 0) dX2_find_62 rfl ?_
    refine mJ_put_28_2 dX2_find_63 p_X2_32 ?_
    refine mJ_aload_n dX2_find_66 rfl ?_
    refine mJ_iload_n dX2_find_67 rfl ?_
    refine mJ_bipush (v := 6) dX2_find_68 rfl ?_
    refine mJ_cV2i dX2_find_70 e_X5_hintValue n_X2_9 ⟨Nat.le_of_ble_eq_true rfl, Nat.le_of_ble_eq_true rfl⟩ rfl rfl (Nat.le_of_ble_eq_true rfl) (C_X5_hintValue) ?_
    refine mJ_iconst (v := 1) dX2_find_73 rfl ?_
    refine mJ_icmp_ne 125 dX2_find_74 rfl (fun c_74 => ?_) (fun c_74 => ?_)
    · refine mJ_iload dX2_find_125 rfl ?_
      refine mJ_aload_n dX2_find_127 rfl ?_
      refine mJ_get_28_2 dX2_find_128 f_X2_32 ?_
      refine mJ_iadd dX2_find_131 ?_
      refine mJ_istore dX2_find_132 (Nat.le_of_ble_eq_true rfl) (ls2 := [_, _, _, _, _, _, _, _, _, _, _, _, _, _, _]) rfl ?_
      refine mJ_aload_n dX2_find_134 rfl ?_
      refine mJ_iload dX2_find_135 rfl ?_
      refine mJ_iload dX2_find_137 rfl ?_
      refine mJ_isub dX2_find_139 ?_
      refine mJ_put_28_3 dX2_find_140 p_X2_43 ?_
      refine mJ_aload_n dX2_find_143 rfl ?_
      refine mJ_aload_n dX2_find_144 rfl ?_
      refine mJ_get_28_3 dX2_find_145 f_X2_43 ?_
      refine mJ_iload dX2_find_148 rfl ?_
      refine mJ_iload dX2_find_150 rfl ?_
      refine mJ_cS3i dX2_find_152 e_X2_isGood n_X2_46 ⟨Nat.le_of_ble_eq_true rfl, Nat.le_of_ble_eq_true rfl⟩ (Nat.le_of_ble_eq_true rfl) (C_X2_isGood) ?_
      refine mJ_put_28_4 dX2_find_155 p_X2_50 (b2i_01 _) ?_
      refine mJ_aload_n dX2_find_158 rfl ?_
      refine mJ_aload_n dX2_find_159 rfl ?_
      refine mJ_iload_n dX2_find_160 rfl ?_
      refine mJ_iconst (v := 0) dX2_find_161 rfl ?_
      refine mJ_cV2i dX2_find_162 e_X5_hintValue n_X2_9 ⟨Nat.le_of_ble_eq_true rfl, Nat.le_of_ble_eq_true rfl⟩ rfl rfl (Nat.le_of_ble_eq_true rfl) (C_X5_hintValue) ?_
      refine mJ_iload_n dX2_find_165 rfl ?_
      refine mJ_cS3i dX2_find_166 e_X7_edgeBy n_X2_54 ⟨Nat.le_of_ble_eq_true rfl, Nat.le_of_ble_eq_true rfl⟩ (Nat.le_of_ble_eq_true rfl) (C_X7_edgeBy) ?_
      refine mJ_istore dX2_find_169 (Nat.le_of_ble_eq_true rfl) (ls2 := [_, _, _, _, _, _, _, _, _, _, _, _, _, _, _]) rfl ?_
      refine mJ_iload_n dX2_find_171 rfl ?_
      refine mJ_cS1i dX2_find_172 e_X7_isBefore n_X2_58 ⟨Nat.le_of_ble_eq_true rfl, Nat.le_of_ble_eq_true rfl⟩ (Nat.le_of_ble_eq_true rfl) (C_X7_isBefore) ?_
      refine mJ_b2i (fun b_172 => ?_) (fun b_172 => ?_)
      · refine mJ_if_eq 196 dX2_find_175 rfl (fun c => absurd c (by decide)) (fun _ => ?_)
        refine mJ_iload dX2_find_178 rfl ?_
        refine mJ_iload dX2_find_180 rfl ?_
        refine mJ_if_eq 190 dX2_find_182 rfl (fun _ => ?_) (fun c => absurd c (by decide))
        refine mJ_iload dX2_find_190 rfl ?_
        refine mJ_isub dX2_find_192 ?_
        refine mJ_goto 198 dX2_find_193 rfl ?_
        refine mJ_istore dX2_find_198 (Nat.le_of_ble_eq_true rfl) (ls2 := [_, _, _, _, _, _, _, _, _, _, _, _, _, _, _]) rfl ?_
        refine mJ_aload_n dX2_find_200 rfl ?_
        refine mJ_iload dX2_find_201 rfl ?_
        refine mJ_if_eq 211 dX2_find_203 rfl (fun _ => ?_) (fun c => absurd c (by decide))
        refine mJ_iload dX2_find_211 rfl ?_
        refine mJ_put_28_0 dX2_find_213 p_X2_61 ?_
        refine mJ_aload_n dX2_find_216 rfl ?_
        refine mJ_iload dX2_find_217 rfl ?_
        refine mJ_if_eq 227 dX2_find_219 rfl (fun _ => ?_) (fun c => absurd c (by decide))
        refine mJ_iload dX2_find_227 rfl ?_
        refine mJ_put_28_1 dX2_find_229 p_X2_64 ?_
        refine mJ_aload_n dX2_find_232 rfl ?_
        refine mJ_aload_n dX2_find_233 rfl ?_
        refine mJ_get_28_0 dX2_find_234 f_X2_61 ?_
        refine mJ_iload dX2_find_237 rfl ?_
        refine mJ_aload_n dX2_find_239 rfl ?_
        refine mJ_iconst (v := 0) dX2_find_240 rfl ?_
        refine mJ_cV1i dX2_find_241 e_X5_get n_X2_36 ⟨Nat.le_of_ble_eq_true rfl, Nat.le_of_ble_eq_true rfl⟩ rfl rfl (Nat.le_of_ble_eq_true rfl) (C_X5_get) ?_
        refine mJ_iload dX2_find_244 rfl ?_
        refine mJ_cS4i dX2_find_246 e_X7_spanLiesIn n_X2_67 ⟨Nat.le_of_ble_eq_true rfl, Nat.le_of_ble_eq_true rfl⟩ (Nat.le_of_ble_eq_true rfl) (C_X7_spanLiesIn) ?_
        refine mJ_b2i (fun b_246 => ?_) (fun b_246 => ?_)
        · refine mJ_if_eq 275 dX2_find_249 rfl (fun c => absurd c (by decide)) (fun _ => ?_)
          refine mJ_aload_n dX2_find_252 rfl ?_
          refine mJ_get_28_1 dX2_find_253 f_X2_64 ?_
          refine mJ_iload dX2_find_256 rfl ?_
          refine mJ_aload_n dX2_find_258 rfl ?_
          refine mJ_iconst (v := 1) dX2_find_259 rfl ?_
          refine mJ_cV1i dX2_find_260 e_X5_get n_X2_36 ⟨Nat.le_of_ble_eq_true rfl, Nat.le_of_ble_eq_true rfl⟩ rfl rfl (Nat.le_of_ble_eq_true rfl) (C_X5_get) ?_
          refine mJ_iload dX2_find_263 rfl ?_
          refine mJ_cS4i dX2_find_265 e_X7_spanLiesIn n_X2_67 ⟨Nat.le_of_ble_eq_true rfl, Nat.le_of_ble_eq_true rfl⟩ (Nat.le_of_ble_eq_true rfl) (C_X7_spanLiesIn) ?_
          refine mJ_b2i (fun b_265 => ?_) (fun b_265 => ?_)
          · refine mJ_if_eq 275 dX2_find_268 rfl (fun c => absurd c (by decide)) (fun _ => ?_)
            refine mJ_iconst (v := 1) dX2_find_271 rfl ?_
            refine mJ_goto 276 dX2_find_272 rfl ?_
            refine mJ_put_28_5 dX2_find_276 p_X2_71 (Or.inr rfl) ?_
            exact mJ_vret dX2_find_279 rfl (rfl) (by simp_all [f_P, f_x, f_y, f_acr, f_arr, f_beg, f_gd, f_in, f_len, f_b0, f_mid, f_shf, iif_t, iif_f, b2i_t, b2i_f])
          · refine mJ_if_eq 275 dX2_find_268 rfl (fun _ => ?_) (fun c => absurd c (by decide))
            refine mJ_iconst (v := 0) dX2_find_275 rfl ?_
            refine mJ_put_28_5 dX2_find_276 p_X2_71 (Or.inl rfl) ?_
            exact mJ_vret dX2_find_279 rfl (rfl) (by simp_all [f_P, f_x, f_y, f_acr, f_arr, f_beg, f_gd, f_in, f_len, f_b0, f_mid, f_shf, iif_t, iif_f, b2i_t, b2i_f])
        · refine mJ_if_eq 275 dX2_find_249 rfl (fun _ => ?_) (fun c => absurd c (by decide))
          refine mJ_iconst (v := 0) dX2_find_275 rfl ?_
          refine mJ_put_28_5 dX2_find_276 p_X2_71 (Or.inl rfl) ?_
          exact mJ_vret dX2_find_279 rfl (rfl) (by simp_all [f_P, f_x, f_y, f_acr, f_arr, f_beg, f_gd, f_in, f_len, f_b0, f_mid, f_shf, iif_t, iif_f, b2i_t, b2i_f])
      · refine mJ_if_eq 196 dX2_find_175 rfl (fun _ => ?_) (fun c => absurd c (by decide))
        refine mJ_iload dX2_find_196 rfl ?_
        refine mJ_istore dX2_find_198 (Nat.le_of_ble_eq_true rfl) (ls2 := [_, _, _, _, _, _, _, _, _, _, _, _, _, _, _]) rfl ?_
        refine mJ_aload_n dX2_find_200 rfl ?_
        refine mJ_iload dX2_find_201 rfl ?_
        refine mJ_if_eq 211 dX2_find_203 rfl (fun _ => ?_) (fun c => absurd c (by decide))
        refine mJ_iload dX2_find_211 rfl ?_
        refine mJ_put_28_0 dX2_find_213 p_X2_61 ?_
        refine mJ_aload_n dX2_find_216 rfl ?_
        refine mJ_iload dX2_find_217 rfl ?_
        refine mJ_if_eq 227 dX2_find_219 rfl (fun _ => ?_) (fun c => absurd c (by decide))
        refine mJ_iload dX2_find_227 rfl ?_
        refine mJ_put_28_1 dX2_find_229 p_X2_64 ?_
        refine mJ_aload_n dX2_find_232 rfl ?_
        refine mJ_aload_n dX2_find_233 rfl ?_
        refine mJ_get_28_0 dX2_find_234 f_X2_61 ?_
        refine mJ_iload dX2_find_237 rfl ?_
        refine mJ_aload_n dX2_find_239 rfl ?_
        refine mJ_iconst (v := 0) dX2_find_240 rfl ?_
        refine mJ_cV1i dX2_find_241 e_X5_get n_X2_36 ⟨Nat.le_of_ble_eq_true rfl, Nat.le_of_ble_eq_true rfl⟩ rfl rfl (Nat.le_of_ble_eq_true rfl) (C_X5_get) ?_
        refine mJ_iload dX2_find_244 rfl ?_
        refine mJ_cS4i dX2_find_246 e_X7_spanLiesIn n_X2_67 ⟨Nat.le_of_ble_eq_true rfl, Nat.le_of_ble_eq_true rfl⟩ (Nat.le_of_ble_eq_true rfl) (C_X7_spanLiesIn) ?_
        refine mJ_b2i (fun b_246 => ?_) (fun b_246 => ?_)
        · refine mJ_if_eq 275 dX2_find_249 rfl (fun c => absurd c (by decide)) (fun _ => ?_)
          refine mJ_aload_n dX2_find_252 rfl ?_
          refine mJ_get_28_1 dX2_find_253 f_X2_64 ?_
          refine mJ_iload dX2_find_256 rfl ?_
          refine mJ_aload_n dX2_find_258 rfl ?_
          refine mJ_iconst (v := 1) dX2_find_259 rfl ?_
          refine mJ_cV1i dX2_find_260 e_X5_get n_X2_36 ⟨Nat.le_of_ble_eq_true rfl, Nat.le_of_ble_eq_true rfl⟩ rfl rfl (Nat.le_of_ble_eq_true rfl) (C_X5_get) ?_
          refine mJ_iload dX2_find_263 rfl ?_
          refine mJ_cS4i dX2_find_265 e_X7_spanLiesIn n_X2_67 ⟨Nat.le_of_ble_eq_true rfl, Nat.le_of_ble_eq_true rfl⟩ (Nat.le_of_ble_eq_true rfl) (C_X7_spanLiesIn) ?_
          refine mJ_b2i (fun b_265 => ?_) (fun b_265 => ?_)
          · refine mJ_if_eq 275 dX2_find_268 rfl (fun c => absurd c (by decide)) (fun _ => ?_)
            refine mJ_iconst (v := 1) dX2_find_271 rfl ?_
            refine mJ_goto 276 dX2_find_272 rfl ?_
            refine mJ_put_28_5 dX2_find_276 p_X2_71 (Or.inr rfl) ?_
            exact mJ_vret dX2_find_279 rfl (rfl) (by simp_all [f_P, f_x, f_y, f_acr, f_arr, f_beg, f_gd, f_in, f_len, f_b0, f_mid, f_shf, iif_t, iif_f, b2i_t, b2i_f])
          · refine mJ_if_eq 275 dX2_find_268 rfl (fun _ => ?_) (fun c => absurd c (by decide))
            refine mJ_iconst (v := 0) dX2_find_275 rfl ?_
            refine mJ_put_28_5 dX2_find_276 p_X2_71 (Or.inl rfl) ?_
            exact mJ_vret dX2_find_279 rfl (rfl) (by simp_all [f_P, f_x, f_y, f_acr, f_arr, f_beg, f_gd, f_in, f_len, f_b0, f_mid, f_shf, iif_t, iif_f, b2i_t, b2i_f])
        · refine mJ_if_eq 275 dX2_find_249 rfl (fun _ => ?_) (fun c => absurd c (by decide))
          refine mJ_iconst (v := 0) dX2_find_275 rfl ?_
          refine mJ_put_28_5 dX2_find_276 p_X2_71 (Or.inl rfl) ?_
          exact mJ_vret dX2_find_279 rfl (rfl) (by simp_all [f_P, f_x, f_y, f_acr, f_arr, f_beg, f_gd, f_in, f_len, f_b0, f_mid, f_shf, iif_t, iif_f, b2i_t, b2i_f])
    · refine mJ_aload_n dX2_find_77 rfl ?_
      refine mJ_iload dX2_find_78 rfl ?_
      refine mJ_if_eq 87 dX2_find_80 rfl (fun _ => ?_) (fun c => absurd c (by decide))
      refine mJ_iconst (v := 1) dX2_find_87 rfl ?_
      refine mJ_cV1i dX2_find_88 e_X5_get n_X2_36 ⟨Nat.le_of_ble_eq_true rfl, Nat.le_of_ble_eq_true rfl⟩ rfl rfl (Nat.le_of_ble_eq_true rfl) (C_X5_get) ?_
      refine mJ_istore dX2_find_91 (Nat.le_of_ble_eq_true rfl) (ls2 := [_, _, _, _, _, _, _, _, _, _, _, _, _, _, _]) rfl ?_
      refine mJ_aload_n dX2_find_93 rfl ?_
      refine mJ_iload dX2_find_94 rfl ?_
      refine mJ_iload dX2_find_96 rfl ?_
      refine mJ_if_eq 106 dX2_find_98 rfl (fun _ => ?_) (fun c => absurd c (by decide))
      refine mJ_iload dX2_find_106 rfl ?_
      refine mJ_iload dX2_find_108 rfl ?_
      refine mJ_iload dX2_find_110 rfl ?_
      refine mJ_iload dX2_find_112 rfl ?_
      refine mJ_iload dX2_find_114 rfl ?_
      refine mJ_isub dX2_find_116 ?_
      refine mJ_iload dX2_find_117 rfl ?_
      refine mJ_cS6i dX2_find_119 e_X2_shiftInto n_X2_39 ⟨Nat.le_of_ble_eq_true rfl, Nat.le_of_ble_eq_true rfl⟩ (Nat.le_of_ble_eq_true rfl) (C_X2_shiftInto) ?_
      refine mJ_put_28_2 dX2_find_122 p_X2_32 ?_
      refine mJ_iload dX2_find_125 rfl ?_
      refine mJ_aload_n dX2_find_127 rfl ?_
      refine mJ_get_28_2 dX2_find_128 f_X2_32 ?_
      refine mJ_iadd dX2_find_131 ?_
      refine mJ_istore dX2_find_132 (Nat.le_of_ble_eq_true rfl) (ls2 := [_, _, _, _, _, _, _, _, _, _, _, _, _, _, _]) rfl ?_
      refine mJ_aload_n dX2_find_134 rfl ?_
      refine mJ_iload dX2_find_135 rfl ?_
      refine mJ_iload dX2_find_137 rfl ?_
      refine mJ_isub dX2_find_139 ?_
      refine mJ_put_28_3 dX2_find_140 p_X2_43 ?_
      refine mJ_aload_n dX2_find_143 rfl ?_
      refine mJ_aload_n dX2_find_144 rfl ?_
      refine mJ_get_28_3 dX2_find_145 f_X2_43 ?_
      refine mJ_iload dX2_find_148 rfl ?_
      refine mJ_iload dX2_find_150 rfl ?_
      refine mJ_cS3i dX2_find_152 e_X2_isGood n_X2_46 ⟨Nat.le_of_ble_eq_true rfl, Nat.le_of_ble_eq_true rfl⟩ (Nat.le_of_ble_eq_true rfl) (C_X2_isGood) ?_
      refine mJ_put_28_4 dX2_find_155 p_X2_50 (b2i_01 _) ?_
      refine mJ_aload_n dX2_find_158 rfl ?_
      refine mJ_aload_n dX2_find_159 rfl ?_
      refine mJ_iload_n dX2_find_160 rfl ?_
      refine mJ_iconst (v := 0) dX2_find_161 rfl ?_
      refine mJ_cV2i dX2_find_162 e_X5_hintValue n_X2_9 ⟨Nat.le_of_ble_eq_true rfl, Nat.le_of_ble_eq_true rfl⟩ rfl rfl (Nat.le_of_ble_eq_true rfl) (C_X5_hintValue) ?_
      refine mJ_iload_n dX2_find_165 rfl ?_
      refine mJ_cS3i dX2_find_166 e_X7_edgeBy n_X2_54 ⟨Nat.le_of_ble_eq_true rfl, Nat.le_of_ble_eq_true rfl⟩ (Nat.le_of_ble_eq_true rfl) (C_X7_edgeBy) ?_
      refine mJ_istore dX2_find_169 (Nat.le_of_ble_eq_true rfl) (ls2 := [_, _, _, _, _, _, _, _, _, _, _, _, _, _, _]) rfl ?_
      refine mJ_iload_n dX2_find_171 rfl ?_
      refine mJ_cS1i dX2_find_172 e_X7_isBefore n_X2_58 ⟨Nat.le_of_ble_eq_true rfl, Nat.le_of_ble_eq_true rfl⟩ (Nat.le_of_ble_eq_true rfl) (C_X7_isBefore) ?_
      refine mJ_b2i (fun b_172 => ?_) (fun b_172 => ?_)
      · refine mJ_if_eq 196 dX2_find_175 rfl (fun c => absurd c (by decide)) (fun _ => ?_)
        refine mJ_iload dX2_find_178 rfl ?_
        refine mJ_iload dX2_find_180 rfl ?_
        refine mJ_if_eq 190 dX2_find_182 rfl (fun _ => ?_) (fun c => absurd c (by decide))
        refine mJ_iload dX2_find_190 rfl ?_
        refine mJ_isub dX2_find_192 ?_
        refine mJ_goto 198 dX2_find_193 rfl ?_
        refine mJ_istore dX2_find_198 (Nat.le_of_ble_eq_true rfl) (ls2 := [_, _, _, _, _, _, _, _, _, _, _, _, _, _, _]) rfl ?_
        refine mJ_aload_n dX2_find_200 rfl ?_
        refine mJ_iload dX2_find_201 rfl ?_
        refine mJ_if_eq 211 dX2_find_203 rfl (fun _ => ?_) (fun c => absurd c (by decide))
        refine mJ_iload dX2_find_211 rfl ?_
        refine mJ_put_28_0 dX2_find_213 p_X2_61 ?_
        refine mJ_aload_n dX2_find_216 rfl ?_
        refine mJ_iload dX2_find_217 rfl ?_
        refine mJ_if_eq 227 dX2_find_219 rfl (fun _ => ?_) (fun c => absurd c (by decide))
        refine mJ_iload dX2_find_227 rfl ?_
        refine mJ_put_28_1 dX2_find_229 p_X2_64 ?_
        refine mJ_aload_n dX2_find_232 rfl ?_
        refine mJ_aload_n dX2_find_233 rfl ?_
        refine mJ_get_28_0 dX2_find_234 f_X2_61 ?_
        refine mJ_iload dX2_find_237 rfl ?_
        refine mJ_aload_n dX2_find_239 rfl ?_
        refine mJ_iconst (v := 0) dX2_find_240 rfl ?_
        refine mJ_cV1i dX2_find_241 e_X5_get n_X2_36 ⟨Nat.le_of_ble_eq_true rfl, Nat.le_of_ble_eq_true rfl⟩ rfl rfl (Nat.le_of_ble_eq_true rfl) (C_X5_get) ?_
        refine mJ_iload dX2_find_244 rfl ?_
        refine mJ_cS4i dX2_find_246 e_X7_spanLiesIn n_X2_67 ⟨Nat.le_of_ble_eq_true rfl, Nat.le_of_ble_eq_true rfl⟩ (Nat.le_of_ble_eq_true rfl) (C_X7_spanLiesIn) ?_
        refine mJ_b2i (fun b_246 => ?_) (fun b_246 => ?_)
        · refine mJ_if_eq 275 dX2_find_249 rfl (fun c => absurd c (by decide)) (fun _ => ?_)
          refine mJ_aload_n dX2_find_252 rfl ?_
          refine mJ_get_28_1 dX2_find_253 f_X2_64 ?_
          refine mJ_iload dX2_find_256 rfl ?_
          refine mJ_aload_n dX2_find_258 rfl ?_
          refine mJ_iconst (v := 1) dX2_find_259 rfl ?_
          refine mJ_cV1i dX2_find_260 e_X5_get n_X2_36 ⟨Nat.le_of_ble_eq_true rfl, Nat.le_of_ble_eq_true rfl⟩ rfl rfl (Nat.le_of_ble_eq_true rfl) (C_X5_get) ?_
          refine mJ_iload dX2_find_263 rfl ?_
          refine mJ_cS4i dX2_find_265 e_X7_spanLiesIn n_X2_67 ⟨Nat.le_of_ble_eq_true rfl, Nat.le_of_ble_eq_true rfl⟩ (Nat.le_of_ble_eq_true rfl) (C_X7_spanLiesIn) ?_
          refine mJ_b2i (fun b_265 => ?_) (fun b_265 => ?_)
          · refine mJ_if_eq 275 dX2_find_268 rfl (fun c => absurd c (by decide)) (fun _ => ?_)
            refine mJ_iconst (v := 1) dX2_find_271 rfl ?_
            refine mJ_goto 276 dX2_find_272 rfl ?_
            refine mJ_put_28_5 dX2_find_276 p_X2_71 (Or.inr rfl) ?_
            exact mJ_vret dX2_find_279 rfl (rfl) (by simp_all [f_P, f_x, f_y, f_acr, f_arr, f_beg, f_gd, f_in, f_len, f_b0, f_mid, f_shf, iif_t, iif_f, b2i_t, b2i_f])
          · refine mJ_if_eq 275 dX2_find_268 rfl (fun _ => ?_) (fun c => absurd c (by decide))
            refine mJ_iconst (v := 0) dX2_find_275 rfl ?_
            refine mJ_put_28_5 dX2_find_276 p_X2_71 (Or.inl rfl) ?_
            exact mJ_vret dX2_find_279 rfl (rfl) (by simp_all [f_P, f_x, f_y, f_acr, f_arr, f_beg, f_gd, f_in, f_len, f_b0, f_mid, f_shf, iif_t, iif_f, b2i_t, b2i_f])
        · refine mJ_if_eq 275 dX2_find_249 rfl (fun _ => ?_) (fun c => absurd c (by decide))
          refine mJ_iconst (v := 0) dX2_find_275 rfl ?_
          refine mJ_put_28_5 dX2_find_276 p_X2_71 (Or.inl rfl) ?_
          exact mJ_vret dX2_find_279 rfl (rfl) (by simp_all [f_P, f_x, f_y, f_acr, f_arr, f_beg, f_gd, f_in, f_len, f_b0, f_mid, f_shf, iif_t, iif_f, b2i_t, b2i_f])
      · refine mJ_if_eq 196 dX2_find_175 rfl (fun _ => ?_) (fun c => absurd c (by decide))
        refine mJ_iload dX2_find_196 rfl ?_
        refine mJ_istore dX2_find_198 (Nat.le_of_ble_eq_true rfl) (ls2 := [_, _, _, _, _, _, _, _, _, _, _, _, _, _, _]) rfl ?_
        refine mJ_aload_n dX2_find_200 rfl ?_
        refine mJ_iload dX2_find_201 rfl ?_
        refine mJ_if_eq 211 dX2_find_203 rfl (fun _ => ?_) (fun c => absurd c (by decide))
        refine mJ_iload dX2_find_211 rfl ?_
        refine mJ_put_28_0 dX2_find_213 p_X2_61 ?_
        refine mJ_aload_n dX2_find_216 rfl ?_
        refine mJ_iload dX2_find_217 rfl ?_
        refine mJ_if_eq 227 dX2_find_219 rfl (fun _ => ?_) (fun c => absurd c (by decide))
        refine mJ_iload dX2_find_227 rfl ?_
        refine mJ_put_28_1 dX2_find_229 p_X2_64 ?_
        refine mJ_aload_n dX2_find_232 rfl ?_
        refine mJ_aload_n dX2_find_233 rfl ?_
        refine mJ_get_28_0 dX2_find_234 f_X2_61 ?_
        refine mJ_iload dX2_find_237 rfl ?_
        refine mJ_aload_n dX2_find_239 rfl ?_
        refine mJ_iconst (v := 0) dX2_find_240 rfl ?_
        refine mJ_cV1i dX2_find_241 e_X5_get n_X2_36 ⟨Nat.le_of_ble_eq_true rfl, Nat.le_of_ble_eq_true rfl⟩ rfl rfl (Nat.le_of_ble_eq_true rfl) (C_X5_get) ?_
        refine mJ_iload dX2_find_244 rfl ?_
        refine mJ_cS4i dX2_find_246 e_X7_spanLiesIn n_X2_67 ⟨Nat.le_of_ble_eq_true rfl, Nat.le_of_ble_eq_true rfl⟩ (Nat.le_of_ble_eq_true rfl) (C_X7_spanLiesIn) ?_
        refine mJ_b2i (fun b_246 => ?_) (fun b_246 => ?_)
        · refine mJ_if_eq 275 dX2_find_249 rfl (fun c => absurd c (by decide)) (fun _ => ?_)
          refine mJ_aload_n dX2_find_252 rfl ?_
          refine mJ_get_28_1 dX2_find_253 f_X2_64 ?_
          refine mJ_iload dX2_find_256 rfl ?_
          refine mJ_aload_n dX2_find_258 rfl ?_
          refine mJ_iconst (v := 1) dX2_find_259 rfl ?_
          refine mJ_cV1i dX2_find_260 e_X5_get n_X2_36 ⟨Nat.le_of_ble_eq_true rfl, Nat.le_of_ble_eq_true rfl⟩ rfl rfl (Nat.le_of_ble_eq_true rfl) (C_X5_get) ?_
          refine mJ_iload dX2_find_263 rfl ?_
          refine mJ_cS4i dX2_find_265 e_X7_spanLiesIn n_X2_67 ⟨Nat.le_of_ble_eq_true rfl, Nat.le_of_ble_eq_true rfl⟩ (Nat.le_of_ble_eq_true rfl) (C_X7_spanLiesIn) ?_
          refine mJ_b2i (fun b_265 => ?_) (fun b_265 => ?_)
          · refine mJ_if_eq 275 dX2_find_268 rfl (fun c => absurd c (by decide)) (fun _ => ?_)
            refine mJ_iconst (v := 1) dX2_find_271 rfl ?_
            refine mJ_goto 276 dX2_find_272 rfl ?_
            refine mJ_put_28_5 dX2_find_276 p_X2_71 (Or.inr rfl) ?_
            exact mJ_vret dX2_find_279 rfl (rfl) (by simp_all [f_P, f_x, f_y, f_acr, f_arr, f_beg, f_gd, f_in, f_len, f_b0, f_mid, f_shf, iif_t, iif_f, b2i_t, b2i_f])
          · refine mJ_if_eq 275 dX2_find_268 rfl (fun _ => ?_) (fun c => absurd c (by decide))
            refine mJ_iconst (v := 0) dX2_find_275 rfl ?_
            refine mJ_put_28_5 dX2_find_276 p_X2_71 (Or.inl rfl) ?_
            exact mJ_vret dX2_find_279 rfl (rfl) (by simp_all [f_P, f_x, f_y, f_acr, f_arr, f_beg, f_gd, f_in, f_len, f_b0, f_mid, f_shf, iif_t, iif_f, b2i_t, b2i_f])
        · refine mJ_if_eq 275 dX2_find_249 rfl (fun _ => ?_) (fun c => absurd c (by decide))
          refine mJ_iconst (v := 0) dX2_find_275 rfl ?_
          refine mJ_put_28_5 dX2_find_276 p_X2_71 (Or.inl rfl) ?_
          exact mJ_vret dX2_find_279 rfl (rfl) (by simp_all [f_P, f_x, f_y, f_acr, f_arr, f_beg, f_gd, f_in, f_len, f_b0, f_mid, f_shf, iif_t, iif_f, b2i_t, b2i_f])
set_option maxHeartbeats 4000000 in
set_option maxRecDepth 100000 in
theorem C_X7_moveView {C : aF} {Hs : tH} {Sw : tS} {T1 : tT} {P1 : tP} {Od : tO} {T2 : tT} {P2 : tP} {x y : Int32} : mCt k_X7_moveView [.ref 0, .int x, .int y] (cH C Hs Sw T1 P1 Od T2 P2) none (cH (sP (sP C 0 (gG C 0 + x)) 1 (gG (sP C 0 (gG C 0 + x)) 1 + y)) Hs Sw T1 P1 Od T2 P2) := by
  refine mCt_intro (plainFor_of_name rfl) (Nat.le_of_ble_eq_true rfl) (m_all rfl) (ls := [_, _, _]) rfl ?_
  refine mJ_aload_n dX7_moveView_0 rfl ?_
  refine mJ_get dX7_moveView_1 f_X7_12 rfl rfl ?_
  refine mJ_iconst (v := 0) dX7_moveView_4 rfl ?_
  refine mJ_aload_n dX7_moveView_5 rfl ?_
  refine mJ_get dX7_moveView_6 f_X7_12 rfl rfl ?_
  refine mJ_iconst (v := 0) dX7_moveView_9 rfl ?_
  refine mJ_cV1i dX7_moveView_10 e_X5_get n_X7_80 ⟨Nat.le_of_ble_eq_true rfl, Nat.le_of_ble_eq_true rfl⟩ rfl rfl (Nat.le_of_ble_eq_true rfl) (C_X5_get) ?_
  refine mJ_iload_n dX7_moveView_13 rfl ?_
  refine mJ_iadd dX7_moveView_14 ?_
  refine mJ_cV2v dX7_moveView_15 e_X5_put n_X7_59 ⟨Nat.le_of_ble_eq_true rfl, Nat.le_of_ble_eq_true rfl⟩ rfl rfl (Nat.le_of_ble_eq_true rfl) (C_X5_put) ?_
  refine mJ_aload_n dX7_moveView_18 rfl ?_
  refine mJ_get dX7_moveView_19 f_X7_12 rfl rfl ?_
  refine mJ_iconst (v := 1) dX7_moveView_22 rfl ?_
  refine mJ_aload_n dX7_moveView_23 rfl ?_
  refine mJ_get dX7_moveView_24 f_X7_12 rfl rfl ?_
  refine mJ_iconst (v := 1) dX7_moveView_27 rfl ?_
  refine mJ_cV1i dX7_moveView_28 e_X5_get n_X7_80 ⟨Nat.le_of_ble_eq_true rfl, Nat.le_of_ble_eq_true rfl⟩ rfl rfl (Nat.le_of_ble_eq_true rfl) (C_X5_get) ?_
  refine mJ_iload_n dX7_moveView_31 rfl ?_
  refine mJ_iadd dX7_moveView_32 ?_
  refine mJ_cV2v dX7_moveView_33 e_X5_put n_X7_59 ⟨Nat.le_of_ble_eq_true rfl, Nat.le_of_ble_eq_true rfl⟩ rfl rfl (Nat.le_of_ble_eq_true rfl) (C_X5_put) ?_
  exact mJ_vret dX7_moveView_36 rfl (rfl) (rfl)
set_option maxHeartbeats 4000000 in
set_option maxRecDepth 100000 in
theorem C_X7_openHint {C : aF} {Hs : tH} {Sw : tS} {T1 : tT} {P1 : tP} {Od : tO} {T2 : tT} {P2 : tP} {h : Int32} : mCt k_X7_openHint [.ref 0, .int h] (cH C Hs Sw T1 P1 Od T2 P2) none (cH (sH (sP C 6 (gG C 6 + 1)) h 8 (gG C 6 + 1)) Hs Sw T1 P1 Od T2 P2) := by
  refine mCt_intro (plainFor_of_name rfl) (Nat.le_of_ble_eq_true rfl) (m_all rfl) (ls := [_, _, _]) rfl ?_
  refine mJ_aload_n dX7_openHint_0 rfl ?_
  refine mJ_get dX7_openHint_1 f_X7_12 rfl rfl ?_
  refine mJ_bipush (v := 6) dX7_openHint_4 rfl ?_
  refine mJ_cV1i dX7_openHint_6 e_X5_get n_X7_80 ⟨Nat.le_of_ble_eq_true rfl, Nat.le_of_ble_eq_true rfl⟩ rfl rfl (Nat.le_of_ble_eq_true rfl) (C_X5_get) ?_
  refine mJ_iconst (v := 1) dX7_openHint_9 rfl ?_
  refine mJ_iadd dX7_openHint_10 ?_
  refine mJ_istore_n dX7_openHint_11 (Nat.le_of_ble_eq_true rfl) (ls2 := [_, _, _]) rfl ?_
  refine mJ_aload_n dX7_openHint_12 rfl ?_
  refine mJ_get dX7_openHint_13 f_X7_12 rfl rfl ?_
  refine mJ_bipush (v := 6) dX7_openHint_16 rfl ?_
  refine mJ_iload_n dX7_openHint_18 rfl ?_
  refine mJ_cV2v dX7_openHint_19 e_X5_put n_X7_59 ⟨Nat.le_of_ble_eq_true rfl, Nat.le_of_ble_eq_true rfl⟩ rfl rfl (Nat.le_of_ble_eq_true rfl) (C_X5_put) ?_
  refine mJ_aload_n dX7_openHint_22 rfl ?_
  refine mJ_get dX7_openHint_23 f_X7_12 rfl rfl ?_
  refine mJ_iload_n dX7_openHint_26 rfl ?_
  refine mJ_bipush (v := 8) dX7_openHint_27 rfl ?_
  refine mJ_iload_n dX7_openHint_29 rfl ?_
  refine mJ_cV3v dX7_openHint_30 e_X5_putHintValue n_X7_137 ⟨Nat.le_of_ble_eq_true rfl, Nat.le_of_ble_eq_true rfl⟩ rfl rfl (Nat.le_of_ble_eq_true rfl) (C_X5_putHintValue) ?_
  exact mJ_vret dX7_openHint_33 rfl (rfl) (rfl)
set_option maxHeartbeats 4000000 in
set_option maxRecDepth 100000 in
theorem C_X7_closeHint {C : aF} {Hs : tH} {Sw : tS} {T1 : tT} {P1 : tP} {Od : tO} {T2 : tT} {P2 : tP} {h : Int32} : mCt k_X7_closeHint [.ref 0, .int h] (cH C Hs Sw T1 P1 Od T2 P2) none (cH (sH (sH C h 8 0) h 9 (-1)) Hs Sw T1 P1 Od T2 P2) := by
  refine mCt_intro (plainFor_of_name rfl) (Nat.le_of_ble_eq_true rfl) (m_all rfl) (ls := [_, _]) rfl ?_
  refine mJ_aload_n dX7_closeHint_0 rfl ?_
  refine mJ_get dX7_closeHint_1 f_X7_12 rfl rfl ?_
  refine mJ_iload_n dX7_closeHint_4 rfl ?_
  refine mJ_bipush (v := 8) dX7_closeHint_5 rfl ?_
  refine mJ_iconst (v := 0) dX7_closeHint_7 rfl ?_
  refine mJ_cV3v dX7_closeHint_8 e_X5_putHintValue n_X7_137 ⟨Nat.le_of_ble_eq_true rfl, Nat.le_of_ble_eq_true rfl⟩ rfl rfl (Nat.le_of_ble_eq_true rfl) (C_X5_putHintValue) ?_
  refine mJ_aload_n dX7_closeHint_11 rfl ?_
  refine mJ_get dX7_closeHint_12 f_X7_12 rfl rfl ?_
  refine mJ_iload_n dX7_closeHint_15 rfl ?_
  refine mJ_bipush (v := 9) dX7_closeHint_16 rfl ?_
  refine mJ_iconst (v := (-1)) dX7_closeHint_18 rfl ?_
  refine mJ_cV3v dX7_closeHint_19 e_X5_putHintValue n_X7_137 ⟨Nat.le_of_ble_eq_true rfl, Nat.le_of_ble_eq_true rfl⟩ rfl rfl (Nat.le_of_ble_eq_true rfl) (C_X5_putHintValue) ?_
  exact mJ_vret dX7_closeHint_22 rfl (rfl) (rfl)
end
