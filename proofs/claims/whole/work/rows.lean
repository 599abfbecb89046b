section
-- ===== PART A: goes FIRST, ahead of the names: the tables' words, and 'selects' of the private methods out of them =====
/-- a private method of a class that the tables say can be made, by its rows of tables_1 -/
def lw_okq (q : MethodName × Nat) : Prop := (q.1.cls ≠ "java/lang/invoke/MethodHandle" ∧ q.1.cls ≠ "java/lang/invoke/VarHandle") ∧ Cond.instantiable q.1.cls q.2 ∈ tables_1 ∧ Cond.privateMethod q.1 ∈ tables_1 ∧ Cond.instanceMethod q.1 ∈ tables_1
theorem lw_p0 : lw_okq (⟨"LeaningStreet", "isHouse", "(I)Z"⟩, 9) := ⟨⟨by decide +kernel, by decide +kernel⟩, List.mem_of_getElem? (i := 19) (by decide +kernel), List.mem_of_getElem? (i := 264) (by decide +kernel), List.mem_of_getElem? (i := 265) (by decide +kernel)⟩
theorem lw_p1 : lw_okq (⟨"LeaningStreet$Street", "lean", "(II)V"⟩, 12) := ⟨⟨by decide +kernel, by decide +kernel⟩, List.mem_of_getElem? (i := 27) (by decide +kernel), List.mem_of_getElem? (i := 300) (by decide +kernel), List.mem_of_getElem? (i := 301) (by decide +kernel)⟩
theorem lw_p2 : lw_okq (⟨"LeaningStreet$Street", "draw", "()I"⟩, 12) := ⟨⟨by decide +kernel, by decide +kernel⟩, List.mem_of_getElem? (i := 27) (by decide +kernel), List.mem_of_getElem? (i := 380) (by decide +kernel), List.mem_of_getElem? (i := 381) (by decide +kernel)⟩
theorem lw_p3 : lw_okq (⟨"LeaningStreet$Street", "goOneDay", "()Z"⟩, 12) := ⟨⟨by decide +kernel, by decide +kernel⟩, List.mem_of_getElem? (i := 27) (by decide +kernel), List.mem_of_getElem? (i := 398) (by decide +kernel), List.mem_of_getElem? (i := 399) (by decide +kernel)⟩
theorem lw_p4 : lw_okq (⟨"LeaningStreet$Street", "crackAndMove", "()Z"⟩, 12) := ⟨⟨by decide +kernel, by decide +kernel⟩, List.mem_of_getElem? (i := 27) (by decide +kernel), List.mem_of_getElem? (i := 403) (by decide +kernel), List.mem_of_getElem? (i := 404) (by decide +kernel)⟩
theorem lw_p5 : lw_okq (⟨"LeaningStreet$Street", "tooMuch", "(I)I"⟩, 12) := ⟨⟨by decide +kernel, by decide +kernel⟩, List.mem_of_getElem? (i := 27) (by decide +kernel), List.mem_of_getElem? (i := 407) (by decide +kernel), List.mem_of_getElem? (i := 408) (by decide +kernel)⟩
theorem lw_p6 : lw_okq (⟨"LeaningStreet$Street", "fallByCracks", "()Z"⟩, 12) := ⟨⟨by decide +kernel, by decide +kernel⟩, List.mem_of_getElem? (i := 27) (by decide +kernel), List.mem_of_getElem? (i := 416) (by decide +kernel), List.mem_of_getElem? (i := 417) (by decide +kernel)⟩
theorem lw_p7 : lw_okq (⟨"LeaningStreet$Street", "fallByNeighbours", "()V"⟩, 12) := ⟨⟨by decide +kernel, by decide +kernel⟩, List.mem_of_getElem? (i := 27) (by decide +kernel), List.mem_of_getElem? (i := 421) (by decide +kernel), List.mem_of_getElem? (i := 422) (by decide +kernel)⟩
theorem lw_p8 : lw_okq (⟨"LeaningStreet$Street", "hasLostItsRest", "(I)Z"⟩, 12) := ⟨⟨by decide +kernel, by decide +kernel⟩, List.mem_of_getElem? (i := 27) (by decide +kernel), List.mem_of_getElem? (i := 425) (by decide +kernel), List.mem_of_getElem? (i := 426) (by decide +kernel)⟩
theorem lw_p9 : lw_okq (⟨"LeaningStreet", "thinkOf", "(LLeaningStreet$Street;)LLeaningStreet$Street;"⟩, 9) := ⟨⟨by decide +kernel, by decide +kernel⟩, List.mem_of_getElem? (i := 19) (by decide +kernel), List.mem_of_getElem? (i := 451) (by decide +kernel), List.mem_of_getElem? (i := 452) (by decide +kernel)⟩
theorem lw_p10 : lw_okq (⟨"LeaningStreet", "isEnough", "(III)Z"⟩, 9) := ⟨⟨by decide +kernel, by decide +kernel⟩, List.mem_of_getElem? (i := 19) (by decide +kernel), List.mem_of_getElem? (i := 485) (by decide +kernel), List.mem_of_getElem? (i := 486) (by decide +kernel)⟩
theorem lw_p11 : lw_okq (⟨"LeaningStreet", "thinkWithoutWall", "(II)V"⟩, 9) := ⟨⟨by decide +kernel, by decide +kernel⟩, List.mem_of_getElem? (i := 19) (by decide +kernel), List.mem_of_getElem? (i := 493) (by decide +kernel), List.mem_of_getElem? (i := 494) (by decide +kernel)⟩
theorem lw_p12 : lw_okq (⟨"LeaningStreet$Reader", "goNext", "()V"⟩, 9) := ⟨⟨by decide +kernel, by decide +kernel⟩, List.mem_of_getElem? (i := 125) (by decide +kernel), List.mem_of_getElem? (i := 547) (by decide +kernel), List.mem_of_getElem? (i := 548) (by decide +kernel)⟩
theorem lw_p13 : lw_okq (⟨"LeaningStreet$Reader", "keyHere", "()I"⟩, 9) := ⟨⟨by decide +kernel, by decide +kernel⟩, List.mem_of_getElem? (i := 125) (by decide +kernel), List.mem_of_getElem? (i := 554) (by decide +kernel), List.mem_of_getElem? (i := 555) (by decide +kernel)⟩
theorem lw_p14 : lw_okq (⟨"LeaningStreet$Reader", "isWord", "(Ljava/lang/String;)Z"⟩, 9) := ⟨⟨by decide +kernel, by decide +kernel⟩, List.mem_of_getElem? (i := 125) (by decide +kernel), List.mem_of_getElem? (i := 561) (by decide +kernel), List.mem_of_getElem? (i := 562) (by decide +kernel)⟩
theorem lw_p15 : lw_okq (⟨"LeaningStreet$Reader", "isOr", "(II)Z"⟩, 9) := ⟨⟨by decide +kernel, by decide +kernel⟩, List.mem_of_getElem? (i := 125) (by decide +kernel), List.mem_of_getElem? (i := 613) (by decide +kernel), List.mem_of_getElem? (i := 614) (by decide +kernel)⟩
def lw_privs_1 : List (MethodName × Nat) := [(⟨"LeaningStreet", "isHouse", "(I)Z"⟩, 9), (⟨"LeaningStreet$Street", "lean", "(II)V"⟩, 12), (⟨"LeaningStreet$Street", "draw", "()I"⟩, 12), (⟨"LeaningStreet$Street", "goOneDay", "()Z"⟩, 12), (⟨"LeaningStreet$Street", "crackAndMove", "()Z"⟩, 12), (⟨"LeaningStreet$Street", "tooMuch", "(I)I"⟩, 12), (⟨"LeaningStreet$Street", "fallByCracks", "()Z"⟩, 12), (⟨"LeaningStreet$Street", "fallByNeighbours", "()V"⟩, 12), (⟨"LeaningStreet$Street", "hasLostItsRest", "(I)Z"⟩, 12), (⟨"LeaningStreet", "thinkOf", "(LLeaningStreet$Street;)LLeaningStreet$Street;"⟩, 9), (⟨"LeaningStreet", "isEnough", "(III)Z"⟩, 9), (⟨"LeaningStreet", "thinkWithoutWall", "(II)V"⟩, 9), (⟨"LeaningStreet$Reader", "goNext", "()V"⟩, 9), (⟨"LeaningStreet$Reader", "keyHere", "()I"⟩, 9), (⟨"LeaningStreet$Reader", "isWord", "(Ljava/lang/String;)Z"⟩, 9), (⟨"LeaningStreet$Reader", "isOr", "(II)Z"⟩, 9)]
theorem lw_r1 : ∀ q ∈ lw_privs_1, lw_okq q := List.forall_mem_cons.mpr ⟨lw_p0, List.forall_mem_cons.mpr ⟨lw_p1, List.forall_mem_cons.mpr ⟨lw_p2, List.forall_mem_cons.mpr ⟨lw_p3, List.forall_mem_cons.mpr ⟨lw_p4, List.forall_mem_cons.mpr ⟨lw_p5, List.forall_mem_cons.mpr ⟨lw_p6, List.forall_mem_cons.mpr ⟨lw_p7, List.forall_mem_cons.mpr ⟨lw_p8, List.forall_mem_cons.mpr ⟨lw_p9, List.forall_mem_cons.mpr ⟨lw_p10, List.forall_mem_cons.mpr ⟨lw_p11, List.forall_mem_cons.mpr ⟨lw_p12, List.forall_mem_cons.mpr ⟨lw_p13, List.forall_mem_cons.mpr ⟨lw_p14, List.forall_mem_cons.mpr ⟨lw_p15, fun _ h => absurd h List.not_mem_nil⟩⟩⟩⟩⟩⟩⟩⟩⟩⟩⟩⟩⟩⟩⟩⟩
theorem lw_p16 : lw_okq (⟨"LeaningStreet$Reader", "isAnd", "(II)Z"⟩, 9) := ⟨⟨by decide +kernel, by decide +kernel⟩, List.mem_of_getElem? (i := 125) (by decide +kernel), List.mem_of_getElem? (i := 617) (by decide +kernel), List.mem_of_getElem? (i := 618) (by decide +kernel)⟩
theorem lw_p17 : lw_okq (⟨"LeaningStreet$Reader", "isTest", "(II)Z"⟩, 9) := ⟨⟨by decide +kernel, by decide +kernel⟩, List.mem_of_getElem? (i := 125) (by decide +kernel), List.mem_of_getElem? (i := 621) (by decide +kernel), List.mem_of_getElem? (i := 622) (by decide +kernel)⟩
theorem lw_p18 : lw_okq (⟨"LeaningStreet$Reader", "isSum", "(II)Z"⟩, 9) := ⟨⟨by decide +kernel, by decide +kernel⟩, List.mem_of_getElem? (i := 125) (by decide +kernel), List.mem_of_getElem? (i := 625) (by decide +kernel), List.mem_of_getElem? (i := 626) (by decide +kernel)⟩
theorem lw_p19 : lw_okq (⟨"LeaningStreet$Reader", "isTerm", "(II)Z"⟩, 9) := ⟨⟨by decide +kernel, by decide +kernel⟩, List.mem_of_getElem? (i := 125) (by decide +kernel), List.mem_of_getElem? (i := 629) (by decide +kernel), List.mem_of_getElem? (i := 630) (by decide +kernel)⟩
theorem lw_p20 : lw_okq (⟨"LeaningStreet$Reader", "isPiece", "(II)Z"⟩, 9) := ⟨⟨by decide +kernel, by decide +kernel⟩, List.mem_of_getElem? (i := 125) (by decide +kernel), List.mem_of_getElem? (i := 633) (by decide +kernel), List.mem_of_getElem? (i := 634) (by decide +kernel)⟩
theorem lw_p21 : lw_okq (⟨"LeaningStreet$Reader", "isNumber", "()Z"⟩, 9) := ⟨⟨by decide +kernel, by decide +kernel⟩, List.mem_of_getElem? (i := 125) (by decide +kernel), List.mem_of_getElem? (i := 637) (by decide +kernel), List.mem_of_getElem? (i := 638) (by decide +kernel)⟩
theorem lw_p22 : lw_okq (⟨"LeaningStreet$Reader", "takePiece", "(I)Z"⟩, 9) := ⟨⟨by decide +kernel, by decide +kernel⟩, List.mem_of_getElem? (i := 125) (by decide +kernel), List.mem_of_getElem? (i := 641) (by decide +kernel), List.mem_of_getElem? (i := 642) (by decide +kernel)⟩
theorem lw_p23 : lw_okq (⟨"LeaningStreet$Reader", "write", "(I)V"⟩, 9) := ⟨⟨by decide +kernel, by decide +kernel⟩, List.mem_of_getElem? (i := 125) (by decide +kernel), List.mem_of_getElem? (i := 645) (by decide +kernel), List.mem_of_getElem? (i := 646) (by decide +kernel)⟩
theorem lw_p24 : lw_okq (⟨"LeaningStreet$Reader", "isName", "()Z"⟩, 9) := ⟨⟨by decide +kernel, by decide +kernel⟩, List.mem_of_getElem? (i := 125) (by decide +kernel), List.mem_of_getElem? (i := 649) (by decide +kernel), List.mem_of_getElem? (i := 650) (by decide +kernel)⟩
theorem lw_p25 : lw_okq (⟨"LeaningStreet$Reader", "isAt", "(C)Z"⟩, 9) := ⟨⟨by decide +kernel, by decide +kernel⟩, List.mem_of_getElem? (i := 125) (by decide +kernel), List.mem_of_getElem? (i := 711) (by decide +kernel), List.mem_of_getElem? (i := 712) (by decide +kernel)⟩
theorem lw_p26 : lw_okq (⟨"LeaningStreet$Reader", "passed", "(CC)I"⟩, 9) := ⟨⟨by decide +kernel, by decide +kernel⟩, List.mem_of_getElem? (i := 125) (by decide +kernel), List.mem_of_getElem? (i := 715) (by decide +kernel), List.mem_of_getElem? (i := 716) (by decide +kernel)⟩
theorem lw_p27 : lw_okq (⟨"LeaningStreetModel", "comes", "(IIII)V"⟩, 33) := ⟨⟨by decide +kernel, by decide +kernel⟩, List.mem_of_getElem? (i := 867) (by decide +kernel), List.mem_of_getElem? (i := 991) (by decide +kernel), List.mem_of_getElem? (i := 992) (by decide +kernel)⟩
theorem lw_p28 : lw_okq (⟨"LeaningStreetModel", "sets", "(III)V"⟩, 33) := ⟨⟨by decide +kernel, by decide +kernel⟩, List.mem_of_getElem? (i := 867) (by decide +kernel), List.mem_of_getElem? (i := 995) (by decide +kernel), List.mem_of_getElem? (i := 996) (by decide +kernel)⟩
theorem lw_p29 : lw_okq (⟨"LeaningStreetModel", "isHouse", "(I)Z"⟩, 33) := ⟨⟨by decide +kernel, by decide +kernel⟩, List.mem_of_getElem? (i := 867) (by decide +kernel), List.mem_of_getElem? (i := 1003) (by decide +kernel), List.mem_of_getElem? (i := 1004) (by decide +kernel)⟩
theorem lw_p30 : lw_okq (⟨"LeaningStreetModel", "of", "(II)I"⟩, 33) := ⟨⟨by decide +kernel, by decide +kernel⟩, List.mem_of_getElem? (i := 867) (by decide +kernel), List.mem_of_getElem? (i := 1007) (by decide +kernel), List.mem_of_getElem? (i := 1008) (by decide +kernel)⟩
theorem lw_p31 : lw_okq (⟨"LeaningStreetModel", "pushes", "(I)I"⟩, 33) := ⟨⟨by decide +kernel, by decide +kernel⟩, List.mem_of_getElem? (i := 867) (by decide +kernel), List.mem_of_getElem? (i := 1011) (by decide +kernel), List.mem_of_getElem? (i := 1012) (by decide +kernel)⟩
def lw_privs_2 : List (MethodName × Nat) := [(⟨"LeaningStreet$Reader", "isAnd", "(II)Z"⟩, 9), (⟨"LeaningStreet$Reader", "isTest", "(II)Z"⟩, 9), (⟨"LeaningStreet$Reader", "isSum", "(II)Z"⟩, 9), (⟨"LeaningStreet$Reader", "isTerm", "(II)Z"⟩, 9), (⟨"LeaningStreet$Reader", "isPiece", "(II)Z"⟩, 9), (⟨"LeaningStreet$Reader", "isNumber", "()Z"⟩, 9), (⟨"LeaningStreet$Reader", "takePiece", "(I)Z"⟩, 9), (⟨"LeaningStreet$Reader", "write", "(I)V"⟩, 9), (⟨"LeaningStreet$Reader", "isName", "()Z"⟩, 9), (⟨"LeaningStreet$Reader", "isAt", "(C)Z"⟩, 9), (⟨"LeaningStreet$Reader", "passed", "(CC)I"⟩, 9), (⟨"LeaningStreetModel", "comes", "(IIII)V"⟩, 33), (⟨"LeaningStreetModel", "sets", "(III)V"⟩, 33), (⟨"LeaningStreetModel", "isHouse", "(I)Z"⟩, 33), (⟨"LeaningStreetModel", "of", "(II)I"⟩, 33), (⟨"LeaningStreetModel", "pushes", "(I)I"⟩, 33)]
theorem lw_r2 : ∀ q ∈ lw_privs_2, lw_okq q := List.forall_mem_cons.mpr ⟨lw_p16, List.forall_mem_cons.mpr ⟨lw_p17, List.forall_mem_cons.mpr ⟨lw_p18, List.forall_mem_cons.mpr ⟨lw_p19, List.forall_mem_cons.mpr ⟨lw_p20, List.forall_mem_cons.mpr ⟨lw_p21, List.forall_mem_cons.mpr ⟨lw_p22, List.forall_mem_cons.mpr ⟨lw_p23, List.forall_mem_cons.mpr ⟨lw_p24, List.forall_mem_cons.mpr ⟨lw_p25, List.forall_mem_cons.mpr ⟨lw_p26, List.forall_mem_cons.mpr ⟨lw_p27, List.forall_mem_cons.mpr ⟨lw_p28, List.forall_mem_cons.mpr ⟨lw_p29, List.forall_mem_cons.mpr ⟨lw_p30, List.forall_mem_cons.mpr ⟨lw_p31, fun _ h => absurd h List.not_mem_nil⟩⟩⟩⟩⟩⟩⟩⟩⟩⟩⟩⟩⟩⟩⟩⟩
theorem lw_p32 : lw_okq (⟨"LeaningStreetModel", "counts", "(I)I"⟩, 33) := ⟨⟨by decide +kernel, by decide +kernel⟩, List.mem_of_getElem? (i := 867) (by decide +kernel), List.mem_of_getElem? (i := 1018) (by decide +kernel), List.mem_of_getElem? (i := 1019) (by decide +kernel)⟩
theorem lw_p33 : lw_okq (⟨"LeaningStreetModel", "textAt", "(I)I"⟩, 33) := ⟨⟨by decide +kernel, by decide +kernel⟩, List.mem_of_getElem? (i := 867) (by decide +kernel), List.mem_of_getElem? (i := 1022) (by decide +kernel), List.mem_of_getElem? (i := 1023) (by decide +kernel)⟩
theorem lw_p34 : lw_okq (⟨"LeaningStreetModel", "worked", "(I)I"⟩, 33) := ⟨⟨by decide +kernel, by decide +kernel⟩, List.mem_of_getElem? (i := 867) (by decide +kernel), List.mem_of_getElem? (i := 1026) (by decide +kernel), List.mem_of_getElem? (i := 1027) (by decide +kernel)⟩
theorem lw_p35 : lw_okq (⟨"LeaningStreetModel", "bears", "(I)I"⟩, 33) := ⟨⟨by decide +kernel, by decide +kernel⟩, List.mem_of_getElem? (i := 867) (by decide +kernel), List.mem_of_getElem? (i := 1036) (by decide +kernel), List.mem_of_getElem? (i := 1037) (by decide +kernel)⟩
theorem lw_p36 : lw_okq (⟨"LeaningStreetModel", "thrust", "(I)I"⟩, 33) := ⟨⟨by decide +kernel, by decide +kernel⟩, List.mem_of_getElem? (i := 867) (by decide +kernel), List.mem_of_getElem? (i := 1040) (by decide +kernel), List.mem_of_getElem? (i := 1041) (by decide +kernel)⟩
theorem lw_p37 : lw_okq (⟨"LeaningStreetModel", "stands", "(I)Z"⟩, 33) := ⟨⟨by decide +kernel, by decide +kernel⟩, List.mem_of_getElem? (i := 867) (by decide +kernel), List.mem_of_getElem? (i := 1044) (by decide +kernel), List.mem_of_getElem? (i := 1045) (by decide +kernel)⟩
theorem lw_p38 : lw_okq (⟨"LeaningStreetModel", "allStanding", "()I"⟩, 33) := ⟨⟨by decide +kernel, by decide +kernel⟩, List.mem_of_getElem? (i := 867) (by decide +kernel), List.mem_of_getElem? (i := 1048) (by decide +kernel), List.mem_of_getElem? (i := 1049) (by decide +kernel)⟩
theorem lw_p39 : lw_okq (⟨"LeaningStreetModel", "nextOf", "(III)I"⟩, 33) := ⟨⟨by decide +kernel, by decide +kernel⟩, List.mem_of_getElem? (i := 867) (by decide +kernel), List.mem_of_getElem? (i := 1052) (by decide +kernel), List.mem_of_getElem? (i := 1053) (by decide +kernel)⟩
theorem lw_p40 : lw_okq (⟨"LeaningStreetModel", "worth", "(I)I"⟩, 33) := ⟨⟨by decide +kernel, by decide +kernel⟩, List.mem_of_getElem? (i := 867) (by decide +kernel), List.mem_of_getElem? (i := 1056) (by decide +kernel), List.mem_of_getElem? (i := 1057) (by decide +kernel)⟩
theorem lw_p41 : lw_okq (⟨"LeaningStreetModel", "becomes", "(II)I"⟩, 33) := ⟨⟨by decide +kernel, by decide +kernel⟩, List.mem_of_getElem? (i := 867) (by decide +kernel), List.mem_of_getElem? (i := 1072) (by decide +kernel), List.mem_of_getElem? (i := 1073) (by decide +kernel)⟩
theorem lw_p42 : lw_okq (⟨"LeaningStreetModel", "falls", "(I)V"⟩, 33) := ⟨⟨by decide +kernel, by decide +kernel⟩, List.mem_of_getElem? (i := 867) (by decide +kernel), List.mem_of_getElem? (i := 1085) (by decide +kernel), List.mem_of_getElem? (i := 1086) (by decide +kernel)⟩
theorem lw_p43 : lw_okq (⟨"LeaningStreetModel", "drawn", "()I"⟩, 33) := ⟨⟨by decide +kernel, by decide +kernel⟩, List.mem_of_getElem? (i := 867) (by decide +kernel), List.mem_of_getElem? (i := 1106) (by decide +kernel), List.mem_of_getElem? (i := 1107) (by decide +kernel)⟩
theorem lw_p44 : lw_okq (⟨"LeaningStreetModel", "goesOn", "()V"⟩, 33) := ⟨⟨by decide +kernel, by decide +kernel⟩, List.mem_of_getElem? (i := 867) (by decide +kernel), List.mem_of_getElem? (i := 1120) (by decide +kernel), List.mem_of_getElem? (i := 1121) (by decide +kernel)⟩
theorem lw_p45 : lw_okq (⟨"LeaningStreetModel", "fallsWith", "(II)Z"⟩, 33) := ⟨⟨by decide +kernel, by decide +kernel⟩, List.mem_of_getElem? (i := 867) (by decide +kernel), List.mem_of_getElem? (i := 1124) (by decide +kernel), List.mem_of_getElem? (i := 1125) (by decide +kernel)⟩
theorem lw_p46 : lw_okq (⟨"LeaningStreetModel", "allOf", "(I)I"⟩, 33) := ⟨⟨by decide +kernel, by decide +kernel⟩, List.mem_of_getElem? (i := 867) (by decide +kernel), List.mem_of_getElem? (i := 1132) (by decide +kernel), List.mem_of_getElem? (i := 1133) (by decide +kernel)⟩
theorem lw_p47 : lw_okq (⟨"LeaningStreetModel", "looseOnes", "()I"⟩, 33) := ⟨⟨by decide +kernel, by decide +kernel⟩, List.mem_of_getElem? (i := 867) (by decide +kernel), List.mem_of_getElem? (i := 1136) (by decide +kernel), List.mem_of_getElem? (i := 1137) (by decide +kernel)⟩
def lw_privs_3 : List (MethodName × Nat) := [(⟨"LeaningStreetModel", "counts", "(I)I"⟩, 33), (⟨"LeaningStreetModel", "textAt", "(I)I"⟩, 33), (⟨"LeaningStreetModel", "worked", "(I)I"⟩, 33), (⟨"LeaningStreetModel", "bears", "(I)I"⟩, 33), (⟨"LeaningStreetModel", "thrust", "(I)I"⟩, 33), (⟨"LeaningStreetModel", "stands", "(I)Z"⟩, 33), (⟨"LeaningStreetModel", "allStanding", "()I"⟩, 33), (⟨"LeaningStreetModel", "nextOf", "(III)I"⟩, 33), (⟨"LeaningStreetModel", "worth", "(I)I"⟩, 33), (⟨"LeaningStreetModel", "becomes", "(II)I"⟩, 33), (⟨"LeaningStreetModel", "falls", "(I)V"⟩, 33), (⟨"LeaningStreetModel", "drawn", "()I"⟩, 33), (⟨"LeaningStreetModel", "goesOn", "()V"⟩, 33), (⟨"LeaningStreetModel", "fallsWith", "(II)Z"⟩, 33), (⟨"LeaningStreetModel", "allOf", "(I)I"⟩, 33), (⟨"LeaningStreetModel", "looseOnes", "()I"⟩, 33)]
theorem lw_r3 : ∀ q ∈ lw_privs_3, lw_okq q := List.forall_mem_cons.mpr ⟨lw_p32, List.forall_mem_cons.mpr ⟨lw_p33, List.forall_mem_cons.mpr ⟨lw_p34, List.forall_mem_cons.mpr ⟨lw_p35, List.forall_mem_cons.mpr ⟨lw_p36, List.forall_mem_cons.mpr ⟨lw_p37, List.forall_mem_cons.mpr ⟨lw_p38, List.forall_mem_cons.mpr ⟨lw_p39, List.forall_mem_cons.mpr ⟨lw_p40, List.forall_mem_cons.mpr ⟨lw_p41, List.forall_mem_cons.mpr ⟨lw_p42, List.forall_mem_cons.mpr ⟨lw_p43, List.forall_mem_cons.mpr ⟨lw_p44, List.forall_mem_cons.mpr ⟨lw_p45, List.forall_mem_cons.mpr ⟨lw_p46, List.forall_mem_cons.mpr ⟨lw_p47, fun _ h => absurd h List.not_mem_nil⟩⟩⟩⟩⟩⟩⟩⟩⟩⟩⟩⟩⟩⟩⟩⟩
theorem lw_p48 : lw_okq (⟨"LeaningStreetModel", "laysBy", "()V"⟩, 33) := ⟨⟨by decide +kernel, by decide +kernel⟩, List.mem_of_getElem? (i := 867) (by decide +kernel), List.mem_of_getElem? (i := 1144) (by decide +kernel), List.mem_of_getElem? (i := 1145) (by decide +kernel)⟩
theorem lw_p49 : lw_okq (⟨"LeaningStreetModel", "goesOnMany", "(I)V"⟩, 33) := ⟨⟨by decide +kernel, by decide +kernel⟩, List.mem_of_getElem? (i := 867) (by decide +kernel), List.mem_of_getElem? (i := 1148) (by decide +kernel), List.mem_of_getElem? (i := 1149) (by decide +kernel)⟩
theorem lw_p50 : lw_okq (⟨"LeaningStreetModel", "laysBack", "()V"⟩, 33) := ⟨⟨by decide +kernel, by decide +kernel⟩, List.mem_of_getElem? (i := 867) (by decide +kernel), List.mem_of_getElem? (i := 1152) (by decide +kernel), List.mem_of_getElem? (i := 1153) (by decide +kernel)⟩
theorem lw_p51 : lw_okq (⟨"LeaningStreetModel", "keeps", "(I)Z"⟩, 33) := ⟨⟨by decide +kernel, by decide +kernel⟩, List.mem_of_getElem? (i := 867) (by decide +kernel), List.mem_of_getElem? (i := 1174) (by decide +kernel), List.mem_of_getElem? (i := 1175) (by decide +kernel)⟩
theorem lw_p52 : lw_okq (⟨"LeaningStreetModel", "parse", "()I"⟩, 33) := ⟨⟨by decide +kernel, by decide +kernel⟩, List.mem_of_getElem? (i := 867) (by decide +kernel), List.mem_of_getElem? (i := 1206) (by decide +kernel), List.mem_of_getElem? (i := 1207) (by decide +kernel)⟩
theorem lw_p53 : lw_okq (⟨"LeaningStreetModel", "nextToken", "()V"⟩, 33) := ⟨⟨by decide +kernel, by decide +kernel⟩, List.mem_of_getElem? (i := 867) (by decide +kernel), List.mem_of_getElem? (i := 1210) (by decide +kernel), List.mem_of_getElem? (i := 1211) (by decide +kernel)⟩
theorem lw_p54 : lw_okq (⟨"LeaningStreetModel", "isLetter", "(I)Z"⟩, 33) := ⟨⟨by decide +kernel, by decide +kernel⟩, List.mem_of_getElem? (i := 867) (by decide +kernel), List.mem_of_getElem? (i := 1214) (by decide +kernel), List.mem_of_getElem? (i := 1215) (by decide +kernel)⟩
theorem lw_p55 : lw_okq (⟨"LeaningStreetModel", "isDigit", "(I)Z"⟩, 33) := ⟨⟨by decide +kernel, by decide +kernel⟩, List.mem_of_getElem? (i := 867) (by decide +kernel), List.mem_of_getElem? (i := 1220) (by decide +kernel), List.mem_of_getElem? (i := 1221) (by decide +kernel)⟩
theorem lw_p56 : lw_okq (⟨"LeaningStreetModel", "key", "()I"⟩, 33) := ⟨⟨by decide +kernel, by decide +kernel⟩, List.mem_of_getElem? (i := 867) (by decide +kernel), List.mem_of_getElem? (i := 1226) (by decide +kernel), List.mem_of_getElem? (i := 1227) (by decide +kernel)⟩
theorem lw_p57 : lw_okq (⟨"LeaningStreetModel", "isWordAt", "(IIII)Z"⟩, 33) := ⟨⟨by decide +kernel, by decide +kernel⟩, List.mem_of_getElem? (i := 867) (by decide +kernel), List.mem_of_getElem? (i := 1230) (by decide +kernel), List.mem_of_getElem? (i := 1231) (by decide +kernel)⟩
theorem lw_p58 : lw_okq (⟨"LeaningStreetModel", "either", "(I)Z"⟩, 33) := ⟨⟨by decide +kernel, by decide +kernel⟩, List.mem_of_getElem? (i := 867) (by decide +kernel), List.mem_of_getElem? (i := 1234) (by decide +kernel), List.mem_of_getElem? (i := 1235) (by decide +kernel)⟩
theorem lw_p59 : lw_okq (⟨"LeaningStreetModel", "both", "(I)Z"⟩, 33) := ⟨⟨by decide +kernel, by decide +kernel⟩, List.mem_of_getElem? (i := 867) (by decide +kernel), List.mem_of_getElem? (i := 1238) (by decide +kernel), List.mem_of_getElem? (i := 1239) (by decide +kernel)⟩
theorem lw_p60 : lw_okq (⟨"LeaningStreetModel", "test", "(I)Z"⟩, 33) := ⟨⟨by decide +kernel, by decide +kernel⟩, List.mem_of_getElem? (i := 867) (by decide +kernel), List.mem_of_getElem? (i := 1242) (by decide +kernel), List.mem_of_getElem? (i := 1243) (by decide +kernel)⟩
theorem lw_p61 : lw_okq (⟨"LeaningStreetModel", "sum", "(I)Z"⟩, 33) := ⟨⟨by decide +kernel, by decide +kernel⟩, List.mem_of_getElem? (i := 867) (by decide +kernel), List.mem_of_getElem? (i := 1246) (by decide +kernel), List.mem_of_getElem? (i := 1247) (by decide +kernel)⟩
theorem lw_p62 : lw_okq (⟨"LeaningStreetModel", "term", "(I)Z"⟩, 33) := ⟨⟨by decide +kernel, by decide +kernel⟩, List.mem_of_getElem? (i := 867) (by decide +kernel), List.mem_of_getElem? (i := 1250) (by decide +kernel), List.mem_of_getElem? (i := 1251) (by decide +kernel)⟩
theorem lw_p63 : lw_okq (⟨"LeaningStreetModel", "part0", "(I)Z"⟩, 33) := ⟨⟨by decide +kernel, by decide +kernel⟩, List.mem_of_getElem? (i := 867) (by decide +kernel), List.mem_of_getElem? (i := 1254) (by decide +kernel), List.mem_of_getElem? (i := 1255) (by decide +kernel)⟩
def lw_privs_4 : List (MethodName × Nat) := [(⟨"LeaningStreetModel", "laysBy", "()V"⟩, 33), (⟨"LeaningStreetModel", "goesOnMany", "(I)V"⟩, 33), (⟨"LeaningStreetModel", "laysBack", "()V"⟩, 33), (⟨"LeaningStreetModel", "keeps", "(I)Z"⟩, 33), (⟨"LeaningStreetModel", "parse", "()I"⟩, 33), (⟨"LeaningStreetModel", "nextToken", "()V"⟩, 33), (⟨"LeaningStreetModel", "isLetter", "(I)Z"⟩, 33), (⟨"LeaningStreetModel", "isDigit", "(I)Z"⟩, 33), (⟨"LeaningStreetModel", "key", "()I"⟩, 33), (⟨"LeaningStreetModel", "isWordAt", "(IIII)Z"⟩, 33), (⟨"LeaningStreetModel", "either", "(I)Z"⟩, 33), (⟨"LeaningStreetModel", "both", "(I)Z"⟩, 33), (⟨"LeaningStreetModel", "test", "(I)Z"⟩, 33), (⟨"LeaningStreetModel", "sum", "(I)Z"⟩, 33), (⟨"LeaningStreetModel", "term", "(I)Z"⟩, 33), (⟨"LeaningStreetModel", "part0", "(I)Z"⟩, 33)]
theorem lw_r4 : ∀ q ∈ lw_privs_4, lw_okq q := List.forall_mem_cons.mpr ⟨lw_p48, List.forall_mem_cons.mpr ⟨lw_p49, List.forall_mem_cons.mpr ⟨lw_p50, List.forall_mem_cons.mpr ⟨lw_p51, List.forall_mem_cons.mpr ⟨lw_p52, List.forall_mem_cons.mpr ⟨lw_p53, List.forall_mem_cons.mpr ⟨lw_p54, List.forall_mem_cons.mpr ⟨lw_p55, List.forall_mem_cons.mpr ⟨lw_p56, List.forall_mem_cons.mpr ⟨lw_p57, List.forall_mem_cons.mpr ⟨lw_p58, List.forall_mem_cons.mpr ⟨lw_p59, List.forall_mem_cons.mpr ⟨lw_p60, List.forall_mem_cons.mpr ⟨lw_p61, List.forall_mem_cons.mpr ⟨lw_p62, List.forall_mem_cons.mpr ⟨lw_p63, fun _ h => absurd h List.not_mem_nil⟩⟩⟩⟩⟩⟩⟩⟩⟩⟩⟩⟩⟩⟩⟩⟩
theorem lw_p64 : lw_okq (⟨"LeaningStreetModel", "step", "(II)V"⟩, 33) := ⟨⟨by decide +kernel, by decide +kernel⟩, List.mem_of_getElem? (i := 867) (by decide +kernel), List.mem_of_getElem? (i := 1258) (by decide +kernel), List.mem_of_getElem? (i := 1259) (by decide +kernel)⟩
theorem lw_p65 : lw_okq (⟨"LeaningStreetModel", "isSign", "(I)Z"⟩, 33) := ⟨⟨by decide +kernel, by decide +kernel⟩, List.mem_of_getElem? (i := 867) (by decide +kernel), List.mem_of_getElem? (i := 1265) (by decide +kernel), List.mem_of_getElem? (i := 1266) (by decide +kernel)⟩
theorem lw_p66 : lw_okq (⟨"LeaningStreetModel", "isText", "(I)Z"⟩, 33) := ⟨⟨by decide +kernel, by decide +kernel⟩, List.mem_of_getElem? (i := 867) (by decide +kernel), List.mem_of_getElem? (i := 1273) (by decide +kernel), List.mem_of_getElem? (i := 1274) (by decide +kernel)⟩
theorem lw_p67 : lw_okq (⟨"LeaningStreetModel", "setAside", "([I[I)V"⟩, 33) := ⟨⟨by decide +kernel, by decide +kernel⟩, List.mem_of_getElem? (i := 867) (by decide +kernel), List.mem_of_getElem? (i := 1345) (by decide +kernel), List.mem_of_getElem? (i := 1346) (by decide +kernel)⟩
def lw_privs_5 : List (MethodName × Nat) := [(⟨"LeaningStreetModel", "step", "(II)V"⟩, 33), (⟨"LeaningStreetModel", "isSign", "(I)Z"⟩, 33), (⟨"LeaningStreetModel", "isText", "(I)Z"⟩, 33), (⟨"LeaningStreetModel", "setAside", "([I[I)V"⟩, 33)]
theorem lw_r5 : ∀ q ∈ lw_privs_5, lw_okq q := List.forall_mem_cons.mpr ⟨lw_p64, List.forall_mem_cons.mpr ⟨lw_p65, List.forall_mem_cons.mpr ⟨lw_p66, List.forall_mem_cons.mpr ⟨lw_p67, fun _ h => absurd h List.not_mem_nil⟩⟩⟩⟩
def lw_privs : List (MethodName × Nat) := lw_privs_1 ++ (lw_privs_2 ++ (lw_privs_3 ++ (lw_privs_4 ++ (lw_privs_5))))
def lw_tbl : List Cond := k2_sels lw_privs ++ tables_1
theorem lw_privs_ok : ∀ q ∈ lw_privs, lw_okq q := by
  show ∀ q ∈ lw_privs_1 ++ (lw_privs_2 ++ (lw_privs_3 ++ (lw_privs_4 ++ (lw_privs_5)))), lw_okq q
  exact List.forall_mem_append.mpr ⟨lw_r1, List.forall_mem_append.mpr ⟨lw_r2, List.forall_mem_append.mpr ⟨lw_r3, List.forall_mem_append.mpr ⟨lw_r4, lw_r5⟩⟩⟩⟩
end
section
/-! ===== BEGIN words of one list among another's, by their places ===== -/
theorem goodIn_r {big : List Cond} (ws : List Cond) (ps : List Nat) (hp : ws = ps.filterMap (fun i => big[i]?)) (h : ws.all goodWord = true) : GoodIn big ws := by
  intro w hw
  have h1 := List.all_eq_true.mp h w hw
  rw [hp] at hw
  obtain ⟨i, -, hi⟩ := List.mem_filterMap.mp hw
  have hm : w ∈ big := by first | exact List.mem_of_getElem? hi | exact List.getElem?_mem hi
  exact ⟨hm, good_of_word h1⟩
theorem goodIn_app {big a b : List Cond} (ha : GoodIn big a) (hb : GoodIn big b) : GoodIn big (a ++ b) := fun w h => (List.mem_append.mp h).elim (ha w) (hb w)
theorem goodIn_ca {big a b : List Cond} {c : Cond} (ha : GoodIn big (c :: a)) (hb : GoodIn big b) : GoodIn big (c :: (a ++ b)) := fun w h => (List.mem_cons.mp h).elim (fun e => ha w (List.mem_cons.mpr (Or.inl e))) (fun h => (List.mem_append.mp h).elim (fun h => ha w (List.mem_cons.mpr (Or.inr h))) (hb w))
theorem goodIn_sub {big ws : List Cond} (hm : ∀ w ∈ ws, w ∈ big) (h : ws.all goodWord = true) : GoodIn big ws := fun w hw => ⟨hm w hw, good_of_word (List.all_eq_true.mp h w hw)⟩
/-! ===== END ===== -/

/-! ===== BEGIN printed: names, fields, word lists, decode rows ===== -/
def RX0 : String := "LeaningStreet$House"
def TX0 : u_T := fun k => match k with
  | 0 => ("LeaningStreet$House", "kind", "I", false)
  | 1 => ("LeaningStreet$House", "weight", "I", false)
  | 2 => ("LeaningStreet$House", "lean", "I", false)
  | 3 => ("LeaningStreet$House", "wall", "I", false)
  | 4 => ("LeaningStreet$House", "crack", "I", false)
  | 5 => ("LeaningStreet$House", "prop", "I", false)
  | _ => ("LeaningStreet$House", "stands", "Z", false)
def tyX0 : Nat → FieldType := fun k => match k with
  | 0 => .int
  | 1 => .int
  | 2 => .int
  | 3 => .int
  | 4 => .int
  | 5 => .int
  | _ => .boolean
abbrev wsX00 : List Cond := u_ws RX0 TX0 7
theorem nmX0 : ∀ a, a < 7 → ∀ b, b < 7 → a ≠ b → (TX0 a).2.1 ≠ (TX0 b).2.1 := by decide +kernel
theorem tyX0_ok : ∀ k, k < 7 → parseFieldDescriptor (TX0 k).2.2.1 = some (tyX0 k) := by decide +kernel
abbrev cX0_init : ByteArray := prog_2_method_1_code
def yX0_init : MethodName := ⟨RX0, "<init>", "()V"⟩
abbrev cX0_beLike : ByteArray := prog_2_method_2_code
def yX0_beLike : MethodName := ⟨RX0, "beLike", "(LLeaningStreet$House;)V"⟩
abbrev cX0_fall : ByteArray := prog_2_method_3_code
def yX0_fall : MethodName := ⟨RX0, "fall", "()V"⟩
abbrev cX0_rise : ByteArray := prog_2_method_4_code
def yX0_rise : MethodName := ⟨RX0, "rise", "()V"⟩
abbrev cX0_part : ByteArray := prog_2_method_5_code
def yX0_part : MethodName := ⟨RX0, "part", "(I)I"⟩
abbrev cX0_becomes : ByteArray := prog_2_method_6_code
def yX0_becomes : MethodName := ⟨RX0, "becomes", "(II)V"⟩
abbrev cX0_isOf : ByteArray := prog_2_method_7_code
def yX0_isOf : MethodName := ⟨RX0, "isOf", "(I)Z"⟩
abbrev cX0_pushing : ByteArray := prog_2_method_8_code
def yX0_pushing : MethodName := ⟨RX0, "pushing", "(I)I"⟩
abbrev cX0_bearing : ByteArray := prog_2_method_9_code
def yX0_bearing : MethodName := ⟨RX0, "bearing", "()I"⟩
abbrev cX0_worth : ByteArray := prog_2_method_10_code
def yX0_worth : MethodName := ⟨RX0, "worth", "()I"⟩
def RX1 : String := "LeaningStreet$Reader"
def TX1 : u_T := fun k => match k with
  | 0 => ("LeaningStreet$Reader", "bytes", "[I", true)
  | 1 => ("LeaningStreet$Reader", "many", "I", false)
  | 2 => ("LeaningStreet$Reader", "start", "I", false)
  | 3 => ("LeaningStreet$Reader", "end", "I", false)
  | 4 => ("LeaningStreet$Reader", "sort", "I", false)
  | 5 => ("LeaningStreet$Reader", "key", "I", false)
  | 6 => ("LeaningStreet$Reader", "code", "[I", true)
  | 7 => ("LeaningStreet$Reader", "steps", "I", false)
  | _ => ("LeaningStreet$Reader", "pieces", "I", false)
def tyX1 : Nat → FieldType := fun k => match k with
  | 0 => .array .int
  | 1 => .int
  | 2 => .int
  | 3 => .int
  | 4 => .int
  | 5 => .int
  | 6 => .array .int
  | 7 => .int
  | _ => .int
abbrev wsX10 : List Cond := u_ws RX1 TX1 9
theorem nmX1 : ∀ a, a < 9 → ∀ b, b < 9 → a ≠ b → (TX1 a).2.1 ≠ (TX1 b).2.1 := by decide +kernel
theorem tyX1_ok : ∀ k, k < 9 → parseFieldDescriptor (TX1 k).2.2.1 = some (tyX1 k) := by decide +kernel
abbrev cX1_init : ByteArray := prog_3_method_1_code
def yX1_init : MethodName := ⟨RX1, "<init>", "()V"⟩
abbrev cX1_addBytesOf : ByteArray := prog_3_method_2_code
def yX1_addBytesOf : MethodName := ⟨RX1, "addBytesOf", "(I)V"⟩
abbrev cX1_isText : ByteArray := prog_3_method_3_code
def yX1_isText : MethodName := ⟨RX1, "isText", "()Z"⟩
abbrev cX1_madeText : ByteArray := prog_3_method_4_code
def yX1_madeText : MethodName := ⟨RX1, "madeText", "(I)LLeaningStreet$Text;"⟩
abbrev cX1_goNext : ByteArray := prog_3_method_5_code
def yX1_goNext : MethodName := ⟨RX1, "goNext", "()V"⟩
abbrev cX1_sortOf : ByteArray := prog_3_method_6_code
def yX1_sortOf : MethodName := ⟨RX1, "sortOf", "(I)I"⟩
abbrev cX1_keyHere : ByteArray := prog_3_method_7_code
def yX1_keyHere : MethodName := ⟨RX1, "keyHere", "()I"⟩
abbrev cX1_isWord : ByteArray := prog_3_method_8_code
def yX1_isWord : MethodName := ⟨RX1, "isWord", "(Ljava/lang/String;)Z"⟩
abbrev cX1_isAt : ByteArray := prog_3_method_9_code
def yX1_isAt : MethodName := ⟨RX1, "isAt", "(C)Z"⟩
abbrev cX1_write : ByteArray := prog_3_method_10_code
def yX1_write : MethodName := ⟨RX1, "write", "(I)V"⟩
abbrev cX1_passed : ByteArray := prog_3_method_11_code
def yX1_passed : MethodName := ⟨RX1, "passed", "(CC)I"⟩
abbrev cX1_isOr : ByteArray := prog_3_method_12_code
def yX1_isOr : MethodName := ⟨RX1, "isOr", "(II)Z"⟩
abbrev cX1_isAnd : ByteArray := prog_3_method_13_code
def yX1_isAnd : MethodName := ⟨RX1, "isAnd", "(II)Z"⟩
abbrev cX1_isTest : ByteArray := prog_3_method_14_code
def yX1_isTest : MethodName := ⟨RX1, "isTest", "(II)Z"⟩
abbrev cX1_isSum : ByteArray := prog_3_method_15_code
def yX1_isSum : MethodName := ⟨RX1, "isSum", "(II)Z"⟩
abbrev cX1_isTerm : ByteArray := prog_3_method_16_code
def yX1_isTerm : MethodName := ⟨RX1, "isTerm", "(II)Z"⟩
abbrev cX1_isPiece : ByteArray := prog_3_method_17_code
def yX1_isPiece : MethodName := ⟨RX1, "isPiece", "(II)Z"⟩
abbrev cX1_isNumber : ByteArray := prog_3_method_18_code
def yX1_isNumber : MethodName := ⟨RX1, "isNumber", "()Z"⟩
abbrev cX1_isName : ByteArray := prog_3_method_19_code
def yX1_isName : MethodName := ⟨RX1, "isName", "()Z"⟩
abbrev cX1_takePiece : ByteArray := prog_3_method_20_code
def yX1_takePiece : MethodName := ⟨RX1, "takePiece", "(I)Z"⟩
def RX2 : String := "LeaningStreet$Row"
def TX2 : u_T := fun k => match k with
  | 0 => ("LeaningStreet$Row", "places", "[I", true)
  | 1 => ("LeaningStreet$Row", "sort", "I", false)
  | _ => ("LeaningStreet$Row", "many", "I", false)
def tyX2 : Nat → FieldType := fun k => match k with
  | 0 => .array .int
  | 1 => .int
  | _ => .int
abbrev wsX20 : List Cond := u_ws RX2 TX2 3
theorem nmX2 : ∀ a, a < 3 → ∀ b, b < 3 → a ≠ b → (TX2 a).2.1 ≠ (TX2 b).2.1 := by decide +kernel
theorem tyX2_ok : ∀ k, k < 3 → parseFieldDescriptor (TX2 k).2.2.1 = some (tyX2 k) := by decide +kernel
abbrev cX2_init : ByteArray := prog_4_method_1_code
def yX2_init : MethodName := ⟨RX2, "<init>", "()V"⟩
abbrev cX2_begin : ByteArray := prog_4_method_2_code
def yX2_begin : MethodName := ⟨RX2, "begin", "(II)V"⟩
abbrev cX2_beLike : ByteArray := prog_4_method_3_code
def yX2_beLike : MethodName := ⟨RX2, "beLike", "(LLeaningStreet$Row;)V"⟩
abbrev cX2_hasPlace : ByteArray := prog_4_method_4_code
def yX2_hasPlace : MethodName := ⟨RX2, "hasPlace", "(I)Z"⟩
abbrev cX2_hasPlaces : ByteArray := prog_4_method_5_code
def yX2_hasPlaces : MethodName := ⟨RX2, "hasPlaces", "(II)Z"⟩
abbrev cX2_isNumber : ByteArray := prog_4_method_6_code
def yX2_isNumber : MethodName := ⟨RX2, "isNumber", "(I)Z"⟩
def RX3 : String := "LeaningStreet$Slot"
def TX3 : u_T := fun k => match k with
  | 0 => ("LeaningStreet$Slot", "thing", "I", false)
  | 1 => ("LeaningStreet$Slot", "number", "I", false)
  | 2 => ("LeaningStreet$Slot", "house", "LLeaningStreet$House;", true)
  | _ => ("LeaningStreet$Slot", "row", "LLeaningStreet$Row;", true)
def tyX3 : Nat → FieldType := fun k => match k with
  | 0 => .int
  | 1 => .int
  | 2 => .object "LeaningStreet$House"
  | _ => .object "LeaningStreet$Row"
abbrev wsX30 : List Cond := u_ws RX3 TX3 4
theorem nmX3 : ∀ a, a < 4 → ∀ b, b < 4 → a ≠ b → (TX3 a).2.1 ≠ (TX3 b).2.1 := by decide +kernel
theorem tyX3_ok : ∀ k, k < 4 → parseFieldDescriptor (TX3 k).2.2.1 = some (tyX3 k) := by decide +kernel
abbrev cX3_init : ByteArray := prog_5_method_1_code
def yX3_init : MethodName := ⟨RX3, "<init>", "()V"⟩
def RX4 : String := "LeaningStreet$Street"
def TX4 : u_T := fun k => match k with
  | 0 => ("LeaningStreet$Street", "houses", "[LLeaningStreet$House;", true)
  | 1 => ("LeaningStreet$Street", "allTexts", "[LLeaningStreet$Text;", true)
  | 2 => ("LeaningStreet$Street", "counting", "[LLeaningStreet$Text;", true)
  | 3 => ("LeaningStreet$Street", "thrusts", "[I", true)
  | 4 => ("LeaningStreet$Street", "lesser", "[I", true)
  | 5 => ("LeaningStreet$Street", "greater", "[I", true)
  | 6 => ("LeaningStreet$Street", "many", "I", false)
  | 7 => ("LeaningStreet$Street", "texts", "I", false)
  | 8 => ("LeaningStreet$Street", "snow", "I", false)
  | 9 => ("LeaningStreet$Street", "rent", "I", false)
  | 10 => ("LeaningStreet$Street", "day", "I", false)
  | _ => ("LeaningStreet$Street", "z", "I", false)
def tyX4 : Nat → FieldType := fun k => match k with
  | 0 => .array (.object "LeaningStreet$House")
  | 1 => .array (.object "LeaningStreet$Text")
  | 2 => .array (.object "LeaningStreet$Text")
  | 3 => .array .int
  | 4 => .array .int
  | 5 => .array .int
  | 6 => .int
  | 7 => .int
  | 8 => .int
  | 9 => .int
  | 10 => .int
  | _ => .int
abbrev wsX40 : List Cond := u_ws RX4 TX4 12
theorem nmX4 : ∀ a, a < 12 → ∀ b, b < 12 → a ≠ b → (TX4 a).2.1 ≠ (TX4 b).2.1 := by decide +kernel
theorem tyX4_ok : ∀ k, k < 12 → parseFieldDescriptor (TX4 k).2.2.1 = some (tyX4 k) := by decide +kernel
abbrev cX4_init : ByteArray := prog_6_method_1_code
def yX4_init : MethodName := ⟨RX4, "<init>", "()V"⟩
abbrev cX4_beLike : ByteArray := prog_6_method_2_code
def yX4_beLike : MethodName := ⟨RX4, "beLike", "(LLeaningStreet$Street;)V"⟩
abbrev cX4_build : ByteArray := prog_6_method_3_code
def yX4_build : MethodName := ⟨RX4, "build", "(IIII)V"⟩
abbrev cX4_buildByLot : ByteArray := prog_6_method_4_code
def yX4_buildByLot : MethodName := ⟨RX4, "buildByLot", "()V"⟩
abbrev cX4_draw : ByteArray := prog_6_method_5_code
def yX4_draw : MethodName := ⟨RX4, "draw", "()I"⟩
abbrev cX4_addText : ByteArray := prog_6_method_6_code
def yX4_addText : MethodName := ⟨RX4, "addText", "(LLeaningStreet$Text;)V"⟩
abbrev cX4_takeWalls : ByteArray := prog_6_method_7_code
def yX4_takeWalls : MethodName := ⟨RX4, "takeWalls", "(LLeaningStreet$Row;)I"⟩
abbrev cX4_differsFrom : ByteArray := prog_6_method_8_code
def yX4_differsFrom : MethodName := ⟨RX4, "differsFrom", "(LLeaningStreet$Row;)I"⟩
abbrev cX4_pushOf : ByteArray := prog_6_method_9_code
def yX4_pushOf : MethodName := ⟨RX4, "pushOf", "(LLeaningStreet$House;)I"⟩
abbrev cX4_workOutThrusts : ByteArray := prog_6_method_10_code
def yX4_workOutThrusts : MethodName := ⟨RX4, "workOutThrusts", "()V"⟩
abbrev cX4_lean : ByteArray := prog_6_method_11_code
def yX4_lean : MethodName := ⟨RX4, "lean", "(II)V"⟩
abbrev cX4_tooMuch : ByteArray := prog_6_method_12_code
def yX4_tooMuch : MethodName := ⟨RX4, "tooMuch", "(I)I"⟩
abbrev cX4_notHolding : ByteArray := prog_6_method_13_code
def yX4_notHolding : MethodName := ⟨RX4, "notHolding", "()I"⟩
abbrev cX4_goOneDay : ByteArray := prog_6_method_14_code
def yX4_goOneDay : MethodName := ⟨RX4, "goOneDay", "()Z"⟩
abbrev cX4_crackAndMove : ByteArray := prog_6_method_15_code
def yX4_crackAndMove : MethodName := ⟨RX4, "crackAndMove", "()Z"⟩
abbrev cX4_fallByCracks : ByteArray := prog_6_method_16_code
def yX4_fallByCracks : MethodName := ⟨RX4, "fallByCracks", "()Z"⟩
abbrev cX4_fallByNeighbours : ByteArray := prog_6_method_17_code
def yX4_fallByNeighbours : MethodName := ⟨RX4, "fallByNeighbours", "()V"⟩
abbrev cX4_hasLostItsRest : ByteArray := prog_6_method_18_code
def yX4_hasLostItsRest : MethodName := ⟨RX4, "hasLostItsRest", "(I)Z"⟩
abbrev cX4_goOn : ByteArray := prog_6_method_19_code
def yX4_goOn : MethodName := ⟨RX4, "goOn", "(I)V"⟩
abbrev cX4_firstFall : ByteArray := prog_6_method_20_code
def yX4_firstFall : MethodName := ⟨RX4, "firstFall", "(I)I"⟩
abbrev cX4_standing : ByteArray := prog_6_method_21_code
def yX4_standing : MethodName := ⟨RX4, "standing", "()I"⟩
abbrev cX4_crackedSince : ByteArray := prog_6_method_22_code
def yX4_crackedSince : MethodName := ⟨RX4, "crackedSince", "(LLeaningStreet$Street;)I"⟩
abbrev cX4_howManyStand : ByteArray := prog_6_method_23_code
def yX4_howManyStand : MethodName := ⟨RX4, "howManyStand", "()I"⟩
abbrev cX4_cracks : ByteArray := prog_6_method_24_code
def yX4_cracks : MethodName := ⟨RX4, "cracks", "()I"⟩
abbrev cX4_props : ByteArray := prog_6_method_25_code
def yX4_props : MethodName := ⟨RX4, "props", "()I"⟩
def RX5 : String := "LeaningStreet$Text"
def TX5 : u_T := fun k => match k with
  | 0 => ("LeaningStreet$Text", "number", "I", true)
  | 1 => ("LeaningStreet$Text", "key", "I", true)
  | 2 => ("LeaningStreet$Text", "pieces", "I", true)
  | 3 => ("LeaningStreet$Text", "code", "[I", true)
  | _ => ("LeaningStreet$Text", "stack", "[I", true)
def tyX5 : Nat → FieldType := fun k => match k with
  | 0 => .int
  | 1 => .int
  | 2 => .int
  | 3 => .array .int
  | _ => .array .int
abbrev wsX50 : List Cond := u_ws RX5 TX5 5
theorem nmX5 : ∀ a, a < 5 → ∀ b, b < 5 → a ≠ b → (TX5 a).2.1 ≠ (TX5 b).2.1 := by decide +kernel
theorem tyX5_ok : ∀ k, k < 5 → parseFieldDescriptor (TX5 k).2.2.1 = some (tyX5 k) := by decide +kernel
abbrev cX5_init : ByteArray := prog_7_method_1_code
def yX5_init : MethodName := ⟨RX5, "<init>", "(III[I)V"⟩
abbrev cX5_value : ByteArray := prog_7_method_2_code
def yX5_value : MethodName := ⟨RX5, "value", "(III)I"⟩
abbrev cX5_joined : ByteArray := prog_7_method_3_code
def yX5_joined : MethodName := ⟨RX5, "joined", "(III)I"⟩
def RX6 : String := "LeaningStreet"
def TX6 : u_T := fun k => match k with
  | 0 => ("LeaningStreet", "now", "LLeaningStreet$Street;", true)
  | 1 => ("LeaningStreet", "image", "LLeaningStreet$Street;", true)
  | 2 => ("LeaningStreet", "thought", "LLeaningStreet$Street;", true)
  | 3 => ("LeaningStreet", "tape", "LLeaningStreet$Reader;", true)
  | 4 => ("LeaningStreet", "sheets", "[LLeaningStreet$Row;", true)
  | 5 => ("LeaningStreet", "slots", "[LLeaningStreet$Slot;", true)
  | 6 => ("LeaningStreet", "waiting", "[I", true)
  | 7 => ("LeaningStreet", "waits", "I", false)
  | _ => ("LeaningStreet", "kept", "Z", false)
def tyX6 : Nat → FieldType := fun k => match k with
  | 0 => .object "LeaningStreet$Street"
  | 1 => .object "LeaningStreet$Street"
  | 2 => .object "LeaningStreet$Street"
  | 3 => .object "LeaningStreet$Reader"
  | 4 => .array (.object "LeaningStreet$Row")
  | 5 => .array (.object "LeaningStreet$Slot")
  | 6 => .array .int
  | 7 => .int
  | _ => .boolean
abbrev wsX60 : List Cond := u_ws RX6 TX6 9
theorem nmX6 : ∀ a, a < 9 → ∀ b, b < 9 → a ≠ b → (TX6 a).2.1 ≠ (TX6 b).2.1 := by decide +kernel
theorem tyX6_ok : ∀ k, k < 9 → parseFieldDescriptor (TX6 k).2.2.1 = some (tyX6 k) := by decide +kernel
abbrev cX6_init : ByteArray := prog_1_method_1_code
def yX6_init : MethodName := ⟨RX6, "<init>", "()V"⟩
abbrev cX6_house : ByteArray := prog_1_method_2_code
def yX6_house : MethodName := ⟨RX6, "house", "(IIII)I"⟩
abbrev cX6_told : ByteArray := prog_1_method_3_code
def yX6_told : MethodName := ⟨RX6, "told", "(II)I"⟩
abbrev cX6_as : ByteArray := prog_1_method_4_code
def yX6_as : MethodName := ⟨RX6, "as", "(II)I"⟩
abbrev cX6_turns : ByteArray := prog_1_method_5_code
def yX6_turns : MethodName := ⟨RX6, "turns", "(II)I"⟩
abbrev cX6_set : ByteArray := prog_1_method_6_code
def yX6_set : MethodName := ⟨RX6, "set", "(III)I"⟩
abbrev cX6_fells : ByteArray := prog_1_method_7_code
def yX6_fells : MethodName := ⟨RX6, "fells", "(I)I"⟩
abbrev cX6_raises : ByteArray := prog_1_method_8_code
def yX6_raises : MethodName := ⟨RX6, "raises", "(I)I"⟩
abbrev cX6_snow : ByteArray := prog_1_method_9_code
def yX6_snow : MethodName := ⟨RX6, "snow", "(I)I"⟩
abbrev cX6_deal : ByteArray := prog_1_method_10_code
def yX6_deal : MethodName := ⟨RX6, "deal", "(I)I"⟩
abbrev cX6_seed : ByteArray := prog_1_method_11_code
def yX6_seed : MethodName := ⟨RX6, "seed", "(I)I"⟩
abbrev cX6_days : ByteArray := prog_1_method_12_code
def yX6_days : MethodName := ⟨RX6, "days", "(I)I"⟩
abbrev cX6_street : ByteArray := prog_1_method_13_code
def yX6_street : MethodName := ⟨RX6, "street", "(I)I"⟩
abbrev cX6_behind : ByteArray := prog_1_method_14_code
def yX6_behind : MethodName := ⟨RX6, "behind", "(II)I"⟩
abbrev cX6_lasts : ByteArray := prog_1_method_15_code
def yX6_lasts : MethodName := ⟨RX6, "lasts", "()I"⟩
abbrev cX6_taken : ByteArray := prog_1_method_16_code
def yX6_taken : MethodName := ⟨RX6, "taken", "(II)I"⟩
abbrev cX6_propped : ByteArray := prog_1_method_17_code
def yX6_propped : MethodName := ⟨RX6, "propped", "(I)I"⟩
abbrev cX6_wall : ByteArray := prog_1_method_18_code
def yX6_wall : MethodName := ⟨RX6, "wall", "(II)I"⟩
abbrev cX6_snows : ByteArray := prog_1_method_19_code
def yX6_snows : MethodName := ⟨RX6, "snows", "(I)I"⟩
abbrev cX6_began : ByteArray := prog_1_method_20_code
def yX6_began : MethodName := ⟨RX6, "began", "(III)I"⟩
abbrev cX6_fee : ByteArray := prog_1_method_21_code
def yX6_fee : MethodName := ⟨RX6, "fee", "()I"⟩
abbrev cX6_fine : ByteArray := prog_1_method_22_code
def yX6_fine : MethodName := ⟨RX6, "fine", "(I)I"⟩
abbrev cX6_feed : ByteArray := prog_1_method_23_code
def yX6_feed : MethodName := ⟨RX6, "feed", "(III)I"⟩
abbrev cX6_trim : ByteArray := prog_1_method_24_code
def yX6_trim : MethodName := ⟨RX6, "trim", "(I)I"⟩
abbrev cX6_text : ByteArray := prog_1_method_25_code
def yX6_text : MethodName := ⟨RX6, "text", "()I"⟩
abbrev cX6_textTold : ByteArray := prog_1_method_26_code
def yX6_textTold : MethodName := ⟨RX6, "textTold", "(II)I"⟩
abbrev cX6_why : ByteArray := prog_1_method_27_code
def yX6_why : MethodName := ⟨RX6, "why", "(I)I"⟩
abbrev cX6_sheet : ByteArray := prog_1_method_28_code
def yX6_sheet : MethodName := ⟨RX6, "sheet", "(III)I"⟩
abbrev cX6_mark : ByteArray := prog_1_method_29_code
def yX6_mark : MethodName := ⟨RX6, "mark", "(III)I"⟩
abbrev cX6_pour : ByteArray := prog_1_method_30_code
def yX6_pour : MethodName := ⟨RX6, "pour", "(I)I"⟩
abbrev cX6_reads : ByteArray := prog_1_method_31_code
def yX6_reads : MethodName := ⟨RX6, "reads", "(I)I"⟩
abbrev cX6_copy : ByteArray := prog_1_method_32_code
def yX6_copy : MethodName := ⟨RX6, "copy", "(IIIII)I"⟩
abbrev cX6_lay : ByteArray := prog_1_method_33_code
def yX6_lay : MethodName := ⟨RX6, "lay", "(III)I"⟩
abbrev cX6_ask : ByteArray := prog_1_method_34_code
def yX6_ask : MethodName := ⟨RX6, "ask", "(II)I"⟩
abbrev cX6_item : ByteArray := prog_1_method_35_code
def yX6_item : MethodName := ⟨RX6, "item", "(II)I"⟩
abbrev cX6_rest : ByteArray := prog_1_method_36_code
def yX6_rest : MethodName := ⟨RX6, "rest", "(II)I"⟩
abbrev cX6_tell : ByteArray := prog_1_method_37_code
def yX6_tell : MethodName := ⟨RX6, "tell", "(I)I"⟩
abbrev cX6_check : ByteArray := prog_1_method_38_code
def yX6_check : MethodName := ⟨RX6, "check", "(I)I"⟩
abbrev cX6_keep : ByteArray := prog_1_method_39_code
def yX6_keep : MethodName := ⟨RX6, "keep", "()I"⟩
abbrev cX6_back : ByteArray := prog_1_method_40_code
def yX6_back : MethodName := ⟨RX6, "back", "()I"⟩
abbrev cX6_count : ByteArray := prog_1_method_41_code
def yX6_count : MethodName := ⟨RX6, "count", "(I)I"⟩
abbrev cX6_fits : ByteArray := prog_1_method_42_code
def yX6_fits : MethodName := ⟨RX6, "fits", "(II)Z"⟩
abbrev cX6_isHouse : ByteArray := prog_1_method_43_code
def yX6_isHouse : MethodName := ⟨RX6, "isHouse", "(I)Z"⟩
abbrev cX6_isKind : ByteArray := prog_1_method_44_code
def yX6_isKind : MethodName := ⟨RX6, "isKind", "(I)Z"⟩
abbrev cX6_isSheet : ByteArray := prog_1_method_45_code
def yX6_isSheet : MethodName := ⟨RX6, "isSheet", "(I)Z"⟩
abbrev cX6_isSlot : ByteArray := prog_1_method_46_code
def yX6_isSlot : MethodName := ⟨RX6, "isSlot", "(I)Z"⟩
abbrev cX6_thinkOf : ByteArray := prog_1_method_47_code
def yX6_thinkOf : MethodName := ⟨RX6, "thinkOf", "(LLeaningStreet$Street;)LLeaningStreet$Street;"⟩
abbrev cX6_thinkWithoutWall : ByteArray := prog_1_method_48_code
def yX6_thinkWithoutWall : MethodName := ⟨RX6, "thinkWithoutWall", "(II)V"⟩
abbrev cX6_isEnough : ByteArray := prog_1_method_49_code
def yX6_isEnough : MethodName := ⟨RX6, "isEnough", "(III)Z"⟩
def RX7 : String := "LeaningStreetModel"
def TX7 : u_T := fun k => match k with
  | 0 => ("LeaningStreetModel", "s", "[I", true)
  | 1 => ("LeaningStreetModel", "image", "[I", true)
  | 2 => ("LeaningStreetModel", "aside", "[I", true)
  | 3 => ("LeaningStreetModel", "hasImage", "Z", false)
  | 4 => ("LeaningStreetModel", "tSort", "[I", true)
  | 5 => ("LeaningStreetModel", "tSize", "[I", true)
  | 6 => ("LeaningStreetModel", "tNumber", "[I", true)
  | 7 => ("LeaningStreetModel", "held", "[I", true)
  | 8 => ("LeaningStreetModel", "heldNumber", "[I", true)
  | 9 => ("LeaningStreetModel", "heldWorth", "[I", true)
  | 10 => ("LeaningStreetModel", "heldSize", "[I", true)
  | 11 => ("LeaningStreetModel", "heldRow", "[I", true)
  | 12 => ("LeaningStreetModel", "thrusts", "[I", true)
  | 13 => ("LeaningStreetModel", "borne", "[I", true)
  | 14 => ("LeaningStreetModel", "close", "[I", true)
  | 15 => ("LeaningStreetModel", "tape", "[I", true)
  | 16 => ("LeaningStreetModel", "taped", "I", false)
  | 17 => ("LeaningStreetModel", "begin", "I", false)
  | 18 => ("LeaningStreetModel", "behind", "I", false)
  | 19 => ("LeaningStreetModel", "token", "I", false)
  | 20 => ("LeaningStreetModel", "number", "I", false)
  | 21 => ("LeaningStreetModel", "letter", "I", false)
  | 22 => ("LeaningStreetModel", "deep", "I", false)
  | 23 => ("LeaningStreetModel", "turned", "I", false)
  | 24 => ("LeaningStreetModel", "laid", "I", false)
  | 25 => ("LeaningStreetModel", "laidAt", "I", false)
  | 26 => ("LeaningStreetModel", "said", "I", false)
  | 27 => ("LeaningStreetModel", "named", "[I", true)
  | 28 => ("LeaningStreetModel", "pile", "[I", true)
  | 29 => ("LeaningStreetModel", "carried", "[I", true)
  | 30 => ("LeaningStreetModel", "waits", "[I", true)
  | 31 => ("LeaningStreetModel", "waiting", "I", false)
  | _ => ("LeaningStreetModel", "rowDue", "[I", true)
def tyX7 : Nat → FieldType := fun k => match k with
  | 0 => .array .int
  | 1 => .array .int
  | 2 => .array .int
  | 3 => .boolean
  | 4 => .array .int
  | 5 => .array .int
  | 6 => .array .int
  | 7 => .array .int
  | 8 => .array .int
  | 9 => .array .int
  | 10 => .array .int
  | 11 => .array .int
  | 12 => .array .int
  | 13 => .array .int
  | 14 => .array .int
  | 15 => .array .int
  | 16 => .int
  | 17 => .int
  | 18 => .int
  | 19 => .int
  | 20 => .int
  | 21 => .int
  | 22 => .int
  | 23 => .int
  | 24 => .int
  | 25 => .int
  | 26 => .int
  | 27 => .array .int
  | 28 => .array .int
  | 29 => .array .int
  | 30 => .array .int
  | 31 => .int
  | _ => .array .int
abbrev wsX70 : List Cond := u_ws RX7 TX7 33
theorem nmX7 : ∀ a, a < 33 → ∀ b, b < 33 → a ≠ b → (TX7 a).2.1 ≠ (TX7 b).2.1 := by decide +kernel
theorem tyX7_ok : ∀ k, k < 33 → parseFieldDescriptor (TX7 k).2.2.1 = some (tyX7 k) := by decide +kernel
abbrev cX7_init : ByteArray := prog_9_method_1_code
def yX7_init : MethodName := ⟨RX7, "<init>", "()V"⟩
abbrev cX7_isIn : ByteArray := prog_9_method_2_code
def yX7_isIn : MethodName := ⟨RX7, "isIn", "(JJJ)Z"⟩
abbrev cX7_orNone : ByteArray := prog_9_method_3_code
def yX7_orNone : MethodName := ⟨RX7, "orNone", "(I)I"⟩
abbrev cX7_held : ByteArray := prog_9_method_4_code
def yX7_held : MethodName := ⟨RX7, "held", "(III)I"⟩
abbrev cX7_off : ByteArray := prog_9_method_5_code
def yX7_off : MethodName := ⟨RX7, "off", "(II)I"⟩
abbrev cX7_manyIn : ByteArray := prog_9_method_6_code
def yX7_manyIn : MethodName := ⟨RX7, "manyIn", "(I)I"⟩
abbrev cX7_becomes : ByteArray := prog_9_method_7_code
def yX7_becomes : MethodName := ⟨RX7, "becomes", "(II)I"⟩
abbrev cX7_textAt : ByteArray := prog_9_method_8_code
def yX7_textAt : MethodName := ⟨RX7, "textAt", "(I)I"⟩
abbrev cX7_of : ByteArray := prog_9_method_9_code
def yX7_of : MethodName := ⟨RX7, "of", "(II)I"⟩
abbrev cX7_sets : ByteArray := prog_9_method_10_code
def yX7_sets : MethodName := ⟨RX7, "sets", "(III)V"⟩
abbrev cX7_isHouse : ByteArray := prog_9_method_11_code
def yX7_isHouse : MethodName := ⟨RX7, "isHouse", "(I)Z"⟩
abbrev cX7_stands : ByteArray := prog_9_method_12_code
def yX7_stands : MethodName := ⟨RX7, "stands", "(I)Z"⟩
abbrev cX7_isText : ByteArray := prog_9_method_13_code
def yX7_isText : MethodName := ⟨RX7, "isText", "(I)Z"⟩
abbrev cX7_drawn : ByteArray := prog_9_method_14_code
def yX7_drawn : MethodName := ⟨RX7, "drawn", "()I"⟩
abbrev cX7_comes : ByteArray := prog_9_method_15_code
def yX7_comes : MethodName := ⟨RX7, "comes", "(IIII)V"⟩
abbrev cX7_mayBe : ByteArray := prog_9_method_16_code
def yX7_mayBe : MethodName := ⟨RX7, "mayBe", "(II)Z"⟩
abbrev cX7_house : ByteArray := prog_9_method_17_code
def yX7_house : MethodName := ⟨RX7, "house", "(IIII)I"⟩
abbrev cX7_pushes : ByteArray := prog_9_method_18_code
def yX7_pushes : MethodName := ⟨RX7, "pushes", "(I)I"⟩
abbrev cX7_bears : ByteArray := prog_9_method_19_code
def yX7_bears : MethodName := ⟨RX7, "bears", "(I)I"⟩
abbrev cX7_worth : ByteArray := prog_9_method_20_code
def yX7_worth : MethodName := ⟨RX7, "worth", "(I)I"⟩
abbrev cX7_allStanding : ByteArray := prog_9_method_21_code
def yX7_allStanding : MethodName := ⟨RX7, "allStanding", "()I"⟩
abbrev cX7_nextOf : ByteArray := prog_9_method_22_code
def yX7_nextOf : MethodName := ⟨RX7, "nextOf", "(III)I"⟩
abbrev cX7_thrust : ByteArray := prog_9_method_23_code
def yX7_thrust : MethodName := ⟨RX7, "thrust", "(I)I"⟩
abbrev cX7_told : ByteArray := prog_9_method_24_code
def yX7_told : MethodName := ⟨RX7, "told", "(II)I"⟩
abbrev cX7_isOf : ByteArray := prog_9_method_25_code
def yX7_isOf : MethodName := ⟨RX7, "isOf", "(II)Z"⟩
abbrev cX7_as : ByteArray := prog_9_method_26_code
def yX7_as : MethodName := ⟨RX7, "as", "(II)I"⟩
abbrev cX7_turns : ByteArray := prog_9_method_27_code
def yX7_turns : MethodName := ⟨RX7, "turns", "(II)I"⟩
abbrev cX7_set : ByteArray := prog_9_method_28_code
def yX7_set : MethodName := ⟨RX7, "set", "(III)I"⟩
abbrev cX7_falls : ByteArray := prog_9_method_29_code
def yX7_falls : MethodName := ⟨RX7, "falls", "(I)V"⟩
abbrev cX7_fells : ByteArray := prog_9_method_30_code
def yX7_fells : MethodName := ⟨RX7, "fells", "(I)I"⟩
abbrev cX7_raises : ByteArray := prog_9_method_31_code
def yX7_raises : MethodName := ⟨RX7, "raises", "(I)I"⟩
abbrev cX7_snow : ByteArray := prog_9_method_32_code
def yX7_snow : MethodName := ⟨RX7, "snow", "(I)I"⟩
abbrev cX7_deal : ByteArray := prog_9_method_33_code
def yX7_deal : MethodName := ⟨RX7, "deal", "(I)I"⟩
abbrev cX7_seed : ByteArray := prog_9_method_34_code
def yX7_seed : MethodName := ⟨RX7, "seed", "(I)I"⟩
abbrev cX7_fallsWith : ByteArray := prog_9_method_35_code
def yX7_fallsWith : MethodName := ⟨RX7, "fallsWith", "(II)Z"⟩
abbrev cX7_goesOn : ByteArray := prog_9_method_36_code
def yX7_goesOn : MethodName := ⟨RX7, "goesOn", "()V"⟩
abbrev cX7_days : ByteArray := prog_9_method_37_code
def yX7_days : MethodName := ⟨RX7, "days", "(I)I"⟩
abbrev cX7_allOf : ByteArray := prog_9_method_38_code
def yX7_allOf : MethodName := ⟨RX7, "allOf", "(I)I"⟩
abbrev cX7_looseOnes : ByteArray := prog_9_method_39_code
def yX7_looseOnes : MethodName := ⟨RX7, "looseOnes", "()I"⟩
abbrev cX7_street : ByteArray := prog_9_method_40_code
def yX7_street : MethodName := ⟨RX7, "street", "(I)I"⟩
abbrev cX7_laysBy : ByteArray := prog_9_method_41_code
def yX7_laysBy : MethodName := ⟨RX7, "laysBy", "()V"⟩
abbrev cX7_laysBack : ByteArray := prog_9_method_42_code
def yX7_laysBack : MethodName := ⟨RX7, "laysBack", "()V"⟩
abbrev cX7_goesOnMany : ByteArray := prog_9_method_43_code
def yX7_goesOnMany : MethodName := ⟨RX7, "goesOnMany", "(I)V"⟩
abbrev cX7_behind : ByteArray := prog_9_method_44_code
def yX7_behind : MethodName := ⟨RX7, "behind", "(II)I"⟩
abbrev cX7_lasts : ByteArray := prog_9_method_45_code
def yX7_lasts : MethodName := ⟨RX7, "lasts", "()I"⟩
abbrev cX7_taken : ByteArray := prog_9_method_46_code
def yX7_taken : MethodName := ⟨RX7, "taken", "(II)I"⟩
abbrev cX7_keeps : ByteArray := prog_9_method_47_code
def yX7_keeps : MethodName := ⟨RX7, "keeps", "(I)Z"⟩
abbrev cX7_propped : ByteArray := prog_9_method_48_code
def yX7_propped : MethodName := ⟨RX7, "propped", "(I)I"⟩
abbrev cX7_wall : ByteArray := prog_9_method_49_code
def yX7_wall : MethodName := ⟨RX7, "wall", "(II)I"⟩
abbrev cX7_snows : ByteArray := prog_9_method_50_code
def yX7_snows : MethodName := ⟨RX7, "snows", "(I)I"⟩
abbrev cX7_fee : ByteArray := prog_9_method_51_code
def yX7_fee : MethodName := ⟨RX7, "fee", "()I"⟩
abbrev cX7_fine : ByteArray := prog_9_method_52_code
def yX7_fine : MethodName := ⟨RX7, "fine", "(I)I"⟩
abbrev cX7_feed : ByteArray := prog_9_method_53_code
def yX7_feed : MethodName := ⟨RX7, "feed", "(III)I"⟩
abbrev cX7_trim : ByteArray := prog_9_method_54_code
def yX7_trim : MethodName := ⟨RX7, "trim", "(I)I"⟩
abbrev cX7_isLetter : ByteArray := prog_9_method_55_code
def yX7_isLetter : MethodName := ⟨RX7, "isLetter", "(I)Z"⟩
abbrev cX7_isDigit : ByteArray := prog_9_method_56_code
def yX7_isDigit : MethodName := ⟨RX7, "isDigit", "(I)Z"⟩
abbrev cX7_nextToken : ByteArray := prog_9_method_57_code
def yX7_nextToken : MethodName := ⟨RX7, "nextToken", "()V"⟩
abbrev cX7_isSign : ByteArray := prog_9_method_58_code
def yX7_isSign : MethodName := ⟨RX7, "isSign", "(I)Z"⟩
abbrev cX7_isWordAt : ByteArray := prog_9_method_59_code
def yX7_isWordAt : MethodName := ⟨RX7, "isWordAt", "(IIII)Z"⟩
abbrev cX7_key : ByteArray := prog_9_method_60_code
def yX7_key : MethodName := ⟨RX7, "key", "()I"⟩
abbrev cX7_isName : ByteArray := prog_9_method_61_code
def yX7_isName : MethodName := ⟨RX7, "isName", "(II)Z"⟩
abbrev cX7_step : ByteArray := prog_9_method_62_code
def yX7_step : MethodName := ⟨RX7, "step", "(II)V"⟩
abbrev cX7_either : ByteArray := prog_9_method_63_code
def yX7_either : MethodName := ⟨RX7, "either", "(I)Z"⟩
abbrev cX7_both : ByteArray := prog_9_method_64_code
def yX7_both : MethodName := ⟨RX7, "both", "(I)Z"⟩
abbrev cX7_test : ByteArray := prog_9_method_65_code
def yX7_test : MethodName := ⟨RX7, "test", "(I)Z"⟩
abbrev cX7_sum : ByteArray := prog_9_method_66_code
def yX7_sum : MethodName := ⟨RX7, "sum", "(I)Z"⟩
abbrev cX7_term : ByteArray := prog_9_method_67_code
def yX7_term : MethodName := ⟨RX7, "term", "(I)Z"⟩
abbrev cX7_part0 : ByteArray := prog_9_method_68_code
def yX7_part0 : MethodName := ⟨RX7, "part0", "(I)Z"⟩
abbrev cX7_parse : ByteArray := prog_9_method_69_code
def yX7_parse : MethodName := ⟨RX7, "parse", "()I"⟩
abbrev cX7_text : ByteArray := prog_9_method_70_code
def yX7_text : MethodName := ⟨RX7, "text", "()I"⟩
abbrev cX7_textTold : ByteArray := prog_9_method_71_code
def yX7_textTold : MethodName := ⟨RX7, "textTold", "(II)I"⟩
abbrev cX7_counts : ByteArray := prog_9_method_72_code
def yX7_counts : MethodName := ⟨RX7, "counts", "(I)I"⟩
abbrev cX7_why : ByteArray := prog_9_method_73_code
def yX7_why : MethodName := ⟨RX7, "why", "(I)I"⟩
abbrev cX7_joined : ByteArray := prog_9_method_74_code
def yX7_joined : MethodName := ⟨RX7, "joined", "(III)I"⟩
abbrev cX7_worked : ByteArray := prog_9_method_75_code
def yX7_worked : MethodName := ⟨RX7, "worked", "(I)I"⟩
abbrev cX7_isSheet : ByteArray := prog_9_method_76_code
def yX7_isSheet : MethodName := ⟨RX7, "isSheet", "(I)Z"⟩
abbrev cX7_sheet : ByteArray := prog_9_method_77_code
def yX7_sheet : MethodName := ⟨RX7, "sheet", "(III)I"⟩
abbrev cX7_mark : ByteArray := prog_9_method_78_code
def yX7_mark : MethodName := ⟨RX7, "mark", "(III)I"⟩
abbrev cX7_pour : ByteArray := prog_9_method_79_code
def yX7_pour : MethodName := ⟨RX7, "pour", "(I)I"⟩
abbrev cX7_reads : ByteArray := prog_9_method_80_code
def yX7_reads : MethodName := ⟨RX7, "reads", "(I)I"⟩
abbrev cX7_began : ByteArray := prog_9_method_81_code
def yX7_began : MethodName := ⟨RX7, "began", "(III)I"⟩
abbrev cX7_copy : ByteArray := prog_9_method_82_code
def yX7_copy : MethodName := ⟨RX7, "copy", "(IIIII)I"⟩
abbrev cX7_isSlot : ByteArray := prog_9_method_83_code
def yX7_isSlot : MethodName := ⟨RX7, "isSlot", "(I)Z"⟩
abbrev cX7_lay : ByteArray := prog_9_method_84_code
def yX7_lay : MethodName := ⟨RX7, "lay", "(III)I"⟩
abbrev cX7_ask : ByteArray := prog_9_method_85_code
def yX7_ask : MethodName := ⟨RX7, "ask", "(II)I"⟩
abbrev cX7_item : ByteArray := prog_9_method_86_code
def yX7_item : MethodName := ⟨RX7, "item", "(II)I"⟩
abbrev cX7_rest : ByteArray := prog_9_method_87_code
def yX7_rest : MethodName := ⟨RX7, "rest", "(II)I"⟩
abbrev cX7_tell : ByteArray := prog_9_method_88_code
def yX7_tell : MethodName := ⟨RX7, "tell", "(I)I"⟩
abbrev cX7_setAside : ByteArray := prog_9_method_89_code
def yX7_setAside : MethodName := ⟨RX7, "setAside", "([I[I)V"⟩
abbrev cX7_check : ByteArray := prog_9_method_90_code
def yX7_check : MethodName := ⟨RX7, "check", "(I)I"⟩
abbrev cX7_keep : ByteArray := prog_9_method_91_code
def yX7_keep : MethodName := ⟨RX7, "keep", "()I"⟩
abbrev cX7_back : ByteArray := prog_9_method_92_code
def yX7_back : MethodName := ⟨RX7, "back", "()I"⟩
abbrev cX7_count : ByteArray := prog_9_method_93_code
def yX7_count : MethodName := ⟨RX7, "count", "(I)I"⟩
def RJx145de : String := "java/io/Serializable"
def TJx145de : u_T := fun k => match k with
  | _ => ("", "", "", false)
def tyJx145de : Nat → FieldType := fun k => match k with
  | _ => .int
abbrev wsJx145de0 : List Cond := u_ws RJx145de TJx145de 0
theorem nmJx145de : ∀ a, a < 0 → ∀ b, b < 0 → a ≠ b → (TJx145de a).2.1 ≠ (TJx145de b).2.1 := by decide +kernel
theorem tyJx145de_ok : ∀ k, k < 0 → parseFieldDescriptor (TJx145de k).2.2.1 = some (tyJx145de k) := by decide +kernel
def RJx9f9b0 : String := "java/lang/CharSequence"
def TJx9f9b0 : u_T := fun k => match k with
  | _ => ("", "", "", false)
def tyJx9f9b0 : Nat → FieldType := fun k => match k with
  | _ => .int
abbrev wsJx9f9b00 : List Cond := u_ws RJx9f9b0 TJx9f9b0 0
theorem nmJx9f9b0 : ∀ a, a < 0 → ∀ b, b < 0 → a ≠ b → (TJx9f9b0 a).2.1 ≠ (TJx9f9b0 b).2.1 := by decide +kernel
theorem tyJx9f9b0_ok : ∀ k, k < 0 → parseFieldDescriptor (TJx9f9b0 k).2.2.1 = some (tyJx9f9b0 k) := by decide +kernel
def RJ11 : String := "java/lang/Character"
def TJ11 : u_T := fun k => match k with
  | _ => ("", "", "", false)
def tyJ11 : Nat → FieldType := fun k => match k with
  | _ => .int
abbrev wsJ110 : List Cond := u_ws RJ11 TJ11 0
theorem nmJ11 : ∀ a, a < 0 → ∀ b, b < 0 → a ≠ b → (TJ11 a).2.1 ≠ (TJ11 b).2.1 := by decide +kernel
theorem tyJ11_ok : ∀ k, k < 0 → parseFieldDescriptor (TJ11 k).2.2.1 = some (tyJ11 k) := by decide +kernel
abbrev cJ11_isValidCodePoint_9a6ad : ByteArray := prog_10_method_11_code
def yJ11_isValidCodePoint_9a6ad : MethodName := ⟨RJ11, "isValidCodePoint", "(I)Z"⟩
abbrev cJ11_highSurrogate_5068e : ByteArray := prog_10_method_28_code
def yJ11_highSurrogate_5068e : MethodName := ⟨RJ11, "highSurrogate", "(I)C"⟩
abbrev cJ11_lowSurrogate_5068e : ByteArray := prog_10_method_29_code
def yJ11_lowSurrogate_5068e : MethodName := ⟨RJ11, "lowSurrogate", "(I)C"⟩
def RJx8e188 : String := "java/lang/Cloneable"
def TJx8e188 : u_T := fun k => match k with
  | _ => ("", "", "", false)
def tyJx8e188 : Nat → FieldType := fun k => match k with
  | _ => .int
abbrev wsJx8e1880 : List Cond := u_ws RJx8e188 TJx8e188 0
theorem nmJx8e188 : ∀ a, a < 0 → ∀ b, b < 0 → a ≠ b → (TJx8e188 a).2.1 ≠ (TJx8e188 b).2.1 := by decide +kernel
theorem tyJx8e188_ok : ∀ k, k < 0 → parseFieldDescriptor (TJx8e188 k).2.2.1 = some (tyJx8e188 k) := by decide +kernel
def RJxb160c : String := "java/lang/Comparable"
def TJxb160c : u_T := fun k => match k with
  | _ => ("", "", "", false)
def tyJxb160c : Nat → FieldType := fun k => match k with
  | _ => .int
abbrev wsJxb160c0 : List Cond := u_ws RJxb160c TJxb160c 0
theorem nmJxb160c : ∀ a, a < 0 → ∀ b, b < 0 → a ≠ b → (TJxb160c a).2.1 ≠ (TJxb160c b).2.1 := by decide +kernel
theorem tyJxb160c_ok : ∀ k, k < 0 → parseFieldDescriptor (TJxb160c k).2.2.1 = some (tyJxb160c k) := by decide +kernel
def RJ6 : String := "java/lang/Integer"
def TJ6 : u_T := fun k => match k with
  | _ => ("", "", "", false)
def tyJ6 : Nat → FieldType := fun k => match k with
  | _ => .int
abbrev wsJ60 : List Cond := u_ws RJ6 TJ6 0
theorem nmJ6 : ∀ a, a < 0 → ∀ b, b < 0 → a ≠ b → (TJ6 a).2.1 ≠ (TJ6 b).2.1 := by decide +kernel
theorem tyJ6_ok : ∀ k, k < 0 → parseFieldDescriptor (TJ6 k).2.2.1 = some (tyJ6 k) := by decide +kernel
abbrev cJ6_bitCount_0f7a4 : ByteArray := prog_12_method_49_code
def yJ6_bitCount_0f7a4 : MethodName := ⟨RJ6, "bitCount", "(I)I"⟩
def RJ9 : String := "java/lang/Math"
def TJ9 : u_T := fun k => match k with
  | _ => ("", "", "", false)
def tyJ9 : Nat → FieldType := fun k => match k with
  | _ => .int
abbrev wsJ90 : List Cond := u_ws RJ9 TJ9 0
theorem nmJ9 : ∀ a, a < 0 → ∀ b, b < 0 → a ≠ b → (TJ9 a).2.1 ≠ (TJ9 b).2.1 := by decide +kernel
theorem tyJ9_ok : ∀ k, k < 0 → parseFieldDescriptor (TJ9 k).2.2.1 = some (tyJ9 k) := by decide +kernel
abbrev cJ9_abs_0f7a4 : ByteArray := prog_13_method_59_code
def yJ9_abs_0f7a4 : MethodName := ⟨RJ9, "abs", "(I)I"⟩
abbrev cJ9_max_7cf53 : ByteArray := prog_13_method_65_code
def yJ9_max_7cf53 : MethodName := ⟨RJ9, "max", "(II)I"⟩
abbrev cJ9_min_7cf53 : ByteArray := prog_13_method_69_code
def yJ9_min_7cf53 : MethodName := ⟨RJ9, "min", "(II)I"⟩
def RJ0 : String := "java/lang/String"
def TJ0 : u_T := fun k => match k with
  | _ => ("", "", "", false)
def tyJ0 : Nat → FieldType := fun k => match k with
  | _ => .int
abbrev wsJ00 : List Cond := u_ws RJ0 TJ0 0
theorem nmJ0 : ∀ a, a < 0 → ∀ b, b < 0 → a ≠ b → (TJ0 a).2.1 ≠ (TJ0 b).2.1 := by decide +kernel
theorem tyJ0_ok : ∀ k, k < 0 → parseFieldDescriptor (TJ0 k).2.2.1 = some (tyJ0 k) := by decide +kernel
abbrev cJ0_length_8abf5 : ByteArray := prog_14_method_54_code
def yJ0_length_8abf5 : MethodName := ⟨RJ0, "length", "()I"⟩
abbrev cJ0_charAt_5068e : ByteArray := prog_14_method_56_code
def yJ0_charAt_5068e : MethodName := ⟨RJ0, "charAt", "(I)C"⟩
abbrev cJ0_indexOf_0f7a4 : ByteArray := prog_14_method_79_code
def yJ0_indexOf_0f7a4 : MethodName := ⟨RJ0, "indexOf", "(I)I"⟩
abbrev cJ0_indexOf_7cf53 : ByteArray := prog_14_method_80_code
def yJ0_indexOf_7cf53 : MethodName := ⟨RJ0, "indexOf", "(II)I"⟩
abbrev cJ0_coder_7d493 : ByteArray := prog_14_method_152_code
def yJ0_coder_7d493 : MethodName := ⟨RJ0, "coder", "()B"⟩
abbrev cJ0_isLatin1_aae02 : ByteArray := prog_14_method_154_code
def yJ0_isLatin1_aae02 : MethodName := ⟨RJ0, "isLatin1", "()Z"⟩
abbrev cJ0_checkIndex_df160 : ByteArray := prog_14_method_155_code
def yJ0_checkIndex_df160 : MethodName := ⟨RJ0, "checkIndex", "(II)V"⟩
abbrev cJ0_checkBoundsBeginEnd_23922 : ByteArray := prog_14_method_158_code
def yJ0_checkBoundsBeginEnd_23922 : MethodName := ⟨RJ0, "checkBoundsBeginEnd", "(III)V"⟩
def RJ1 : String := "java/lang/StringLatin1"
def TJ1 : u_T := fun k => match k with
  | _ => ("", "", "", false)
def tyJ1 : Nat → FieldType := fun k => match k with
  | _ => .int
abbrev wsJ10 : List Cond := u_ws RJ1 TJ1 0
theorem nmJ1 : ∀ a, a < 0 → ∀ b, b < 0 → a ≠ b → (TJ1 a).2.1 ≠ (TJ1 b).2.1 := by decide +kernel
theorem tyJ1_ok : ∀ k, k < 0 → parseFieldDescriptor (TJ1 k).2.2.1 = some (tyJ1 k) := by decide +kernel
abbrev cJ1_charAt_3b067 : ByteArray := prog_15_method_2_code
def yJ1_charAt_3b067 : MethodName := ⟨RJ1, "charAt", "([BI)C"⟩
abbrev cJ1_canEncode_9a6ad : ByteArray := prog_15_method_4_code
def yJ1_canEncode_9a6ad : MethodName := ⟨RJ1, "canEncode", "(I)Z"⟩
abbrev cJ1_indexOf_4cfef : ByteArray := prog_15_method_22_code
def yJ1_indexOf_4cfef : MethodName := ⟨RJ1, "indexOf", "([BIII)I"⟩
abbrev cJ1_indexOfChar_4cfef : ByteArray := prog_15_method_23_code
def yJ1_indexOfChar_4cfef : MethodName := ⟨RJ1, "indexOfChar", "([BIII)I"⟩
def RJ2 : String := "java/lang/StringUTF16"
def TJ2 : u_T := fun k => match k with
  | _ => ("", "", "", false)
def tyJ2 : Nat → FieldType := fun k => match k with
  | _ => .int
abbrev wsJ20 : List Cond := u_ws RJ2 TJ2 0
theorem nmJ2 : ∀ a, a < 0 → ∀ b, b < 0 → a ≠ b → (TJ2 a).2.1 ≠ (TJ2 b).2.1 := by decide +kernel
theorem tyJ2_ok : ∀ k, k < 0 → parseFieldDescriptor (TJ2 k).2.2.1 = some (tyJ2 k) := by decide +kernel
abbrev cJ2_getChar_3b067 : ByteArray := prog_16_method_5_code
def yJ2_getChar_3b067 : MethodName := ⟨RJ2, "getChar", "([BI)C"⟩
abbrev cJ2_length_9d52b : ByteArray := prog_16_method_6_code
def yJ2_length_9d52b : MethodName := ⟨RJ2, "length", "([B)I"⟩
abbrev cJ2_indexOf_4cfef : ByteArray := prog_16_method_40_code
def yJ2_indexOf_4cfef : MethodName := ⟨RJ2, "indexOf", "([BIII)I"⟩
abbrev cJ2_indexOfChar_4cfef : ByteArray := prog_16_method_47_code
def yJ2_indexOfChar_4cfef : MethodName := ⟨RJ2, "indexOfChar", "([BIII)I"⟩
abbrev cJ2_indexOfCharUnsafe_4cfef : ByteArray := prog_16_method_48_code
def yJ2_indexOfCharUnsafe_4cfef : MethodName := ⟨RJ2, "indexOfCharUnsafe", "([BIII)I"⟩
abbrev cJ2_indexOfSupplementary_4cfef : ByteArray := prog_16_method_49_code
def yJ2_indexOfSupplementary_4cfef : MethodName := ⟨RJ2, "indexOfSupplementary", "([BIII)I"⟩
abbrev cJ2_charAt_3b067 : ByteArray := prog_16_method_83_code
def yJ2_charAt_3b067 : MethodName := ⟨RJ2, "charAt", "([BI)C"⟩
abbrev cJ2_checkIndex_2214a : ByteArray := prog_16_method_91_code
def yJ2_checkIndex_2214a : MethodName := ⟨RJ2, "checkIndex", "(I[B)V"⟩
abbrev cJ2_checkBoundsBeginEnd_d044e : ByteArray := prog_16_method_93_code
def yJ2_checkBoundsBeginEnd_d044e : MethodName := ⟨RJ2, "checkBoundsBeginEnd", "(II[B)V"⟩
def RJ10 : String := "java/lang/System"
def TJ10 : u_T := fun k => match k with
  | _ => ("", "", "", false)
def tyJ10 : Nat → FieldType := fun k => match k with
  | _ => .int
abbrev wsJ100 : List Cond := u_ws RJ10 TJ10 0
theorem nmJ10 : ∀ a, a < 0 → ∀ b, b < 0 → a ≠ b → (TJ10 a).2.1 ≠ (TJ10 b).2.1 := by decide +kernel
theorem tyJ10_ok : ∀ k, k < 0 → parseFieldDescriptor (TJ10 k).2.2.1 = some (tyJ10 k) := by decide +kernel
def RJxfd54e : String := "java/lang/constant/Constable"
def TJxfd54e : u_T := fun k => match k with
  | _ => ("", "", "", false)
def tyJxfd54e : Nat → FieldType := fun k => match k with
  | _ => .int
abbrev wsJxfd54e0 : List Cond := u_ws RJxfd54e TJxfd54e 0
theorem nmJxfd54e : ∀ a, a < 0 → ∀ b, b < 0 → a ≠ b → (TJxfd54e a).2.1 ≠ (TJxfd54e b).2.1 := by decide +kernel
theorem tyJxfd54e_ok : ∀ k, k < 0 → parseFieldDescriptor (TJxfd54e k).2.2.1 = some (tyJxfd54e k) := by decide +kernel
def RJx3cf43 : String := "java/lang/constant/ConstantDesc"
def TJx3cf43 : u_T := fun k => match k with
  | _ => ("", "", "", false)
def tyJx3cf43 : Nat → FieldType := fun k => match k with
  | _ => .int
abbrev wsJx3cf430 : List Cond := u_ws RJx3cf43 TJx3cf43 0
theorem nmJx3cf43 : ∀ a, a < 0 → ∀ b, b < 0 → a ≠ b → (TJx3cf43 a).2.1 ≠ (TJx3cf43 b).2.1 := by decide +kernel
theorem tyJx3cf43_ok : ∀ k, k < 0 → parseFieldDescriptor (TJx3cf43 k).2.2.1 = some (tyJx3cf43 k) := by decide +kernel
def RJ7 : String := "java/util/Arrays"
def TJ7 : u_T := fun k => match k with
  | _ => ("", "", "", false)
def tyJ7 : Nat → FieldType := fun k => match k with
  | _ => .int
abbrev wsJ70 : List Cond := u_ws RJ7 TJ7 0
theorem nmJ7 : ∀ a, a < 0 → ∀ b, b < 0 → a ≠ b → (TJ7 a).2.1 ≠ (TJ7 b).2.1 := by decide +kernel
theorem tyJ7_ok : ∀ k, k < 0 → parseFieldDescriptor (TJ7 k).2.2.1 = some (tyJ7 k) := by decide +kernel
abbrev cJ7_fill_53178 : ByteArray := prog_18_method_103_code
def yJ7_fill_53178 : MethodName := ⟨RJ7, "fill", "([II)V"⟩
abbrev cJ7_copyOf_59c91 : ByteArray := prog_18_method_123_code
def yJ7_copyOf_59c91 : MethodName := ⟨RJ7, "copyOf", "([II)[I"⟩
def RJ3 : String := "jdk/internal/util/Preconditions"
def TJ3 : u_T := fun k => match k with
  | _ => ("", "", "", false)
def tyJ3 : Nat → FieldType := fun k => match k with
  | _ => .int
abbrev wsJ30 : List Cond := u_ws RJ3 TJ3 0
theorem nmJ3 : ∀ a, a < 0 → ∀ b, b < 0 → a ≠ b → (TJ3 a).2.1 ≠ (TJ3 b).2.1 := by decide +kernel
theorem tyJ3_ok : ∀ k, k < 0 → parseFieldDescriptor (TJ3 k).2.2.1 = some (tyJ3 k) := by decide +kernel
abbrev cJ3_checkIndex_8e157 : ByteArray := prog_19_method_11_code
def yJ3_checkIndex_8e157 : MethodName := ⟨RJ3, "checkIndex", "(IILjava/util/function/BiFunction;)I"⟩
abbrev cJ3_checkFromToIndex_8c36e : ByteArray := prog_19_method_12_code
def yJ3_checkFromToIndex_8c36e : MethodName := ⟨RJ3, "checkFromToIndex", "(IIILjava/util/function/BiFunction;)I"⟩
def RL : String := "LeaningStreetLaw"
abbrev cL_law : ByteArray := code
def yL_law : MethodName := ⟨RL, "law", "([I)Z"⟩
abbrev vwCl : List vw_C := [(RX0, TX0, 7), (RX1, TX1, 9), (RX2, TX2, 3), (RX3, TX3, 4), (RX4, TX4, 12), (RX5, TX5, 5), (RX6, TX6, 9), (RX7, TX7, 33)]
end
section
theorem tSel_X6_isHouse : Cond.selects RX6 yX6_isHouse yX6_isHouse ∈ lw_tbl := List.mem_of_getElem? (i := 0) (by decide +kernel)
theorem tSel_X4_lean : Cond.selects RX4 yX4_lean yX4_lean ∈ lw_tbl := List.mem_of_getElem? (i := 1) (by decide +kernel)
theorem tSel_X4_draw : Cond.selects RX4 yX4_draw yX4_draw ∈ lw_tbl := List.mem_of_getElem? (i := 2) (by decide +kernel)
theorem tSel_X4_goOneDay : Cond.selects RX4 yX4_goOneDay yX4_goOneDay ∈ lw_tbl := List.mem_of_getElem? (i := 3) (by decide +kernel)
theorem tSel_X4_crackAndMove : Cond.selects RX4 yX4_crackAndMove yX4_crackAndMove ∈ lw_tbl := List.mem_of_getElem? (i := 4) (by decide +kernel)
theorem tSel_X4_tooMuch : Cond.selects RX4 yX4_tooMuch yX4_tooMuch ∈ lw_tbl := List.mem_of_getElem? (i := 5) (by decide +kernel)
theorem tSel_X4_fallByCracks : Cond.selects RX4 yX4_fallByCracks yX4_fallByCracks ∈ lw_tbl := List.mem_of_getElem? (i := 6) (by decide +kernel)
theorem tSel_X4_fallByNeighbours : Cond.selects RX4 yX4_fallByNeighbours yX4_fallByNeighbours ∈ lw_tbl := List.mem_of_getElem? (i := 7) (by decide +kernel)
theorem tSel_X4_hasLostItsRest : Cond.selects RX4 yX4_hasLostItsRest yX4_hasLostItsRest ∈ lw_tbl := List.mem_of_getElem? (i := 8) (by decide +kernel)
theorem tSel_X6_thinkOf : Cond.selects RX6 yX6_thinkOf yX6_thinkOf ∈ lw_tbl := List.mem_of_getElem? (i := 9) (by decide +kernel)
theorem tSel_X6_isEnough : Cond.selects RX6 yX6_isEnough yX6_isEnough ∈ lw_tbl := List.mem_of_getElem? (i := 10) (by decide +kernel)
theorem tSel_X6_thinkWithoutWall : Cond.selects RX6 yX6_thinkWithoutWall yX6_thinkWithoutWall ∈ lw_tbl := List.mem_of_getElem? (i := 11) (by decide +kernel)
theorem tSel_X1_goNext : Cond.selects RX1 yX1_goNext yX1_goNext ∈ lw_tbl := List.mem_of_getElem? (i := 12) (by decide +kernel)
theorem tSel_X1_keyHere : Cond.selects RX1 yX1_keyHere yX1_keyHere ∈ lw_tbl := List.mem_of_getElem? (i := 13) (by decide +kernel)
theorem tSel_X1_isWord : Cond.selects RX1 yX1_isWord yX1_isWord ∈ lw_tbl := List.mem_of_getElem? (i := 14) (by decide +kernel)
theorem tSel_X1_isOr : Cond.selects RX1 yX1_isOr yX1_isOr ∈ lw_tbl := List.mem_of_getElem? (i := 15) (by decide +kernel)
theorem tSel_X1_isAnd : Cond.selects RX1 yX1_isAnd yX1_isAnd ∈ lw_tbl := List.mem_of_getElem? (i := 16) (by decide +kernel)
theorem tSel_X1_isTest : Cond.selects RX1 yX1_isTest yX1_isTest ∈ lw_tbl := List.mem_of_getElem? (i := 17) (by decide +kernel)
theorem tSel_X1_isSum : Cond.selects RX1 yX1_isSum yX1_isSum ∈ lw_tbl := List.mem_of_getElem? (i := 18) (by decide +kernel)
theorem tSel_X1_isTerm : Cond.selects RX1 yX1_isTerm yX1_isTerm ∈ lw_tbl := List.mem_of_getElem? (i := 19) (by decide +kernel)
theorem tSel_X1_isPiece : Cond.selects RX1 yX1_isPiece yX1_isPiece ∈ lw_tbl := List.mem_of_getElem? (i := 20) (by decide +kernel)
theorem tSel_X1_isNumber : Cond.selects RX1 yX1_isNumber yX1_isNumber ∈ lw_tbl := List.mem_of_getElem? (i := 21) (by decide +kernel)
theorem tSel_X1_takePiece : Cond.selects RX1 yX1_takePiece yX1_takePiece ∈ lw_tbl := List.mem_of_getElem? (i := 22) (by decide +kernel)
theorem tSel_X1_write : Cond.selects RX1 yX1_write yX1_write ∈ lw_tbl := List.mem_of_getElem? (i := 23) (by decide +kernel)
theorem tSel_X1_isName : Cond.selects RX1 yX1_isName yX1_isName ∈ lw_tbl := List.mem_of_getElem? (i := 24) (by decide +kernel)
theorem tSel_X1_isAt : Cond.selects RX1 yX1_isAt yX1_isAt ∈ lw_tbl := List.mem_of_getElem? (i := 25) (by decide +kernel)
theorem tSel_X1_passed : Cond.selects RX1 yX1_passed yX1_passed ∈ lw_tbl := List.mem_of_getElem? (i := 26) (by decide +kernel)
theorem tSel_X7_comes : Cond.selects RX7 yX7_comes yX7_comes ∈ lw_tbl := List.mem_of_getElem? (i := 27) (by decide +kernel)
theorem tSel_X7_sets : Cond.selects RX7 yX7_sets yX7_sets ∈ lw_tbl := List.mem_of_getElem? (i := 28) (by decide +kernel)
theorem tSel_X7_isHouse : Cond.selects RX7 yX7_isHouse yX7_isHouse ∈ lw_tbl := List.mem_of_getElem? (i := 29) (by decide +kernel)
theorem tSel_X7_of : Cond.selects RX7 yX7_of yX7_of ∈ lw_tbl := List.mem_of_getElem? (i := 30) (by decide +kernel)
theorem tSel_X7_pushes : Cond.selects RX7 yX7_pushes yX7_pushes ∈ lw_tbl := List.mem_of_getElem? (i := 31) (by decide +kernel)
theorem tSel_X7_counts : Cond.selects RX7 yX7_counts yX7_counts ∈ lw_tbl := List.mem_of_getElem? (i := 32) (by decide +kernel)
theorem tSel_X7_textAt : Cond.selects RX7 yX7_textAt yX7_textAt ∈ lw_tbl := List.mem_of_getElem? (i := 33) (by decide +kernel)
theorem tSel_X7_worked : Cond.selects RX7 yX7_worked yX7_worked ∈ lw_tbl := List.mem_of_getElem? (i := 34) (by decide +kernel)
theorem tSel_X7_bears : Cond.selects RX7 yX7_bears yX7_bears ∈ lw_tbl := List.mem_of_getElem? (i := 35) (by decide +kernel)
theorem tSel_X7_thrust : Cond.selects RX7 yX7_thrust yX7_thrust ∈ lw_tbl := List.mem_of_getElem? (i := 36) (by decide +kernel)
theorem tSel_X7_stands : Cond.selects RX7 yX7_stands yX7_stands ∈ lw_tbl := List.mem_of_getElem? (i := 37) (by decide +kernel)
theorem tSel_X7_allStanding : Cond.selects RX7 yX7_allStanding yX7_allStanding ∈ lw_tbl := List.mem_of_getElem? (i := 38) (by decide +kernel)
theorem tSel_X7_nextOf : Cond.selects RX7 yX7_nextOf yX7_nextOf ∈ lw_tbl := List.mem_of_getElem? (i := 39) (by decide +kernel)
theorem tSel_X7_worth : Cond.selects RX7 yX7_worth yX7_worth ∈ lw_tbl := List.mem_of_getElem? (i := 40) (by decide +kernel)
theorem tSel_X7_becomes : Cond.selects RX7 yX7_becomes yX7_becomes ∈ lw_tbl := List.mem_of_getElem? (i := 41) (by decide +kernel)
theorem tSel_X7_falls : Cond.selects RX7 yX7_falls yX7_falls ∈ lw_tbl := List.mem_of_getElem? (i := 42) (by decide +kernel)
theorem tSel_X7_drawn : Cond.selects RX7 yX7_drawn yX7_drawn ∈ lw_tbl := List.mem_of_getElem? (i := 43) (by decide +kernel)
theorem tSel_X7_goesOn : Cond.selects RX7 yX7_goesOn yX7_goesOn ∈ lw_tbl := List.mem_of_getElem? (i := 44) (by decide +kernel)
theorem tSel_X7_fallsWith : Cond.selects RX7 yX7_fallsWith yX7_fallsWith ∈ lw_tbl := List.mem_of_getElem? (i := 45) (by decide +kernel)
theorem tSel_X7_allOf : Cond.selects RX7 yX7_allOf yX7_allOf ∈ lw_tbl := List.mem_of_getElem? (i := 46) (by decide +kernel)
theorem tSel_X7_looseOnes : Cond.selects RX7 yX7_looseOnes yX7_looseOnes ∈ lw_tbl := List.mem_of_getElem? (i := 47) (by decide +kernel)
theorem tSel_X7_laysBy : Cond.selects RX7 yX7_laysBy yX7_laysBy ∈ lw_tbl := List.mem_of_getElem? (i := 48) (by decide +kernel)
theorem tSel_X7_goesOnMany : Cond.selects RX7 yX7_goesOnMany yX7_goesOnMany ∈ lw_tbl := List.mem_of_getElem? (i := 49) (by decide +kernel)
theorem tSel_X7_laysBack : Cond.selects RX7 yX7_laysBack yX7_laysBack ∈ lw_tbl := List.mem_of_getElem? (i := 50) (by decide +kernel)
theorem tSel_X7_keeps : Cond.selects RX7 yX7_keeps yX7_keeps ∈ lw_tbl := List.mem_of_getElem? (i := 51) (by decide +kernel)
theorem tSel_X7_parse : Cond.selects RX7 yX7_parse yX7_parse ∈ lw_tbl := List.mem_of_getElem? (i := 52) (by decide +kernel)
theorem tSel_X7_nextToken : Cond.selects RX7 yX7_nextToken yX7_nextToken ∈ lw_tbl := List.mem_of_getElem? (i := 53) (by decide +kernel)
theorem tSel_X7_isLetter : Cond.selects RX7 yX7_isLetter yX7_isLetter ∈ lw_tbl := List.mem_of_getElem? (i := 54) (by decide +kernel)
theorem tSel_X7_isDigit : Cond.selects RX7 yX7_isDigit yX7_isDigit ∈ lw_tbl := List.mem_of_getElem? (i := 55) (by decide +kernel)
theorem tSel_X7_key : Cond.selects RX7 yX7_key yX7_key ∈ lw_tbl := List.mem_of_getElem? (i := 56) (by decide +kernel)
theorem tSel_X7_isWordAt : Cond.selects RX7 yX7_isWordAt yX7_isWordAt ∈ lw_tbl := List.mem_of_getElem? (i := 57) (by decide +kernel)
theorem tSel_X7_either : Cond.selects RX7 yX7_either yX7_either ∈ lw_tbl := List.mem_of_getElem? (i := 58) (by decide +kernel)
theorem tSel_X7_both : Cond.selects RX7 yX7_both yX7_both ∈ lw_tbl := List.mem_of_getElem? (i := 59) (by decide +kernel)
theorem tSel_X7_test : Cond.selects RX7 yX7_test yX7_test ∈ lw_tbl := List.mem_of_getElem? (i := 60) (by decide +kernel)
theorem tSel_X7_sum : Cond.selects RX7 yX7_sum yX7_sum ∈ lw_tbl := List.mem_of_getElem? (i := 61) (by decide +kernel)
theorem tSel_X7_term : Cond.selects RX7 yX7_term yX7_term ∈ lw_tbl := List.mem_of_getElem? (i := 62) (by decide +kernel)
theorem tSel_X7_part0 : Cond.selects RX7 yX7_part0 yX7_part0 ∈ lw_tbl := List.mem_of_getElem? (i := 63) (by decide +kernel)
theorem tSel_X7_step : Cond.selects RX7 yX7_step yX7_step ∈ lw_tbl := List.mem_of_getElem? (i := 64) (by decide +kernel)
theorem tSel_X7_isSign : Cond.selects RX7 yX7_isSign yX7_isSign ∈ lw_tbl := List.mem_of_getElem? (i := 65) (by decide +kernel)
theorem tSel_X7_isText : Cond.selects RX7 yX7_isText yX7_isText ∈ lw_tbl := List.mem_of_getElem? (i := 66) (by decide +kernel)
theorem tSel_X7_setAside : Cond.selects RX7 yX7_setAside yX7_setAside ∈ lw_tbl := List.mem_of_getElem? (i := 67) (by decide +kernel)
theorem tIni_L : Cond.initialized RL ∈ lw_tbl := List.mem_of_getElem? (i := 68) (by decide +kernel)
theorem tIni_X6 : Cond.initialized RX6 ∈ lw_tbl := List.mem_of_getElem? (i := 69) (by decide +kernel)
theorem tIni_X4 : Cond.initialized RX4 ∈ lw_tbl := List.mem_of_getElem? (i := 70) (by decide +kernel)
theorem tIni_X0 : Cond.initialized RX0 ∈ lw_tbl := List.mem_of_getElem? (i := 71) (by decide +kernel)
theorem tIni_X1 : Cond.initialized RX1 ∈ lw_tbl := List.mem_of_getElem? (i := 72) (by decide +kernel)
theorem tIni_X2 : Cond.initialized RX2 ∈ lw_tbl := List.mem_of_getElem? (i := 73) (by decide +kernel)
theorem tIni_X3 : Cond.initialized RX3 ∈ lw_tbl := List.mem_of_getElem? (i := 74) (by decide +kernel)
theorem tIni_X7 : Cond.initialized RX7 ∈ lw_tbl := List.mem_of_getElem? (i := 75) (by decide +kernel)
theorem tIni_J9 : Cond.initialized RJ9 ∈ lw_tbl := List.mem_of_getElem? (i := 76) (by decide +kernel)
theorem tIni_X5 : Cond.initialized RX5 ∈ lw_tbl := List.mem_of_getElem? (i := 77) (by decide +kernel)
theorem tIni_J6 : Cond.initialized RJ6 ∈ lw_tbl := List.mem_of_getElem? (i := 78) (by decide +kernel)
theorem tIni_J0 : Cond.initialized RJ0 ∈ lw_tbl := List.mem_of_getElem? (i := 79) (by decide +kernel)
theorem tIni_J1 : Cond.initialized RJ1 ∈ lw_tbl := List.mem_of_getElem? (i := 80) (by decide +kernel)
theorem tIni_J3 : Cond.initialized RJ3 ∈ lw_tbl := List.mem_of_getElem? (i := 81) (by decide +kernel)
theorem tIni_J2 : Cond.initialized RJ2 ∈ lw_tbl := List.mem_of_getElem? (i := 82) (by decide +kernel)
theorem tIni_J11 : Cond.initialized RJ11 ∈ lw_tbl := List.mem_of_getElem? (i := 83) (by decide +kernel)
theorem tIni_J7 : Cond.initialized RJ7 ∈ lw_tbl := List.mem_of_getElem? (i := 84) (by decide +kernel)
theorem tIni_J10 : Cond.initialized RJ10 ∈ lw_tbl := List.mem_of_getElem? (i := 85) (by decide +kernel)
theorem tCls_L_7 : Cond.classLink RL 7 RX6 ∈ lw_tbl := List.mem_of_getElem? (i := 86) (by decide +kernel)
theorem tIst_X6 : Cond.instantiable RX6 9 ∈ lw_tbl := List.mem_of_getElem? (i := 87) (by decide +kernel)
theorem tMet_L_9 : Cond.methodLink RL 9 yX6_init ∈ lw_tbl := List.mem_of_getElem? (i := 88) (by decide +kernel)
theorem tIns_X6_init : Cond.instanceMethod yX6_init ∈ lw_tbl := List.mem_of_getElem? (i := 89) (by decide +kernel)
theorem tCod_X6_init : Cond.code yX6_init cX6_init 2 none ∈ lw_tbl := List.mem_of_getElem? (i := 90) (by decide +kernel)
theorem tMet_X6_1 : Cond.methodLink RX6 1 objectInit ∈ lw_tbl := List.mem_of_getElem? (i := 91) (by decide +kernel)
theorem tIns_objectInit : Cond.instanceMethod objectInit ∈ lw_tbl := List.mem_of_getElem? (i := 92) (by decide +kernel)
theorem tCls_X6_7 : Cond.classLink RX6 7 RX4 ∈ lw_tbl := List.mem_of_getElem? (i := 94) (by decide +kernel)
theorem tIst_X4 : Cond.instantiable RX4 12 ∈ lw_tbl := List.mem_of_getElem? (i := 95) (by decide +kernel)
theorem tMet_X6_9 : Cond.methodLink RX6 9 yX4_init ∈ lw_tbl := List.mem_of_getElem? (i := 96) (by decide +kernel)
theorem tIns_X4_init : Cond.instanceMethod yX4_init ∈ lw_tbl := List.mem_of_getElem? (i := 97) (by decide +kernel)
theorem tCod_X4_init : Cond.code yX4_init cX4_init 2 none ∈ lw_tbl := List.mem_of_getElem? (i := 98) (by decide +kernel)
theorem tMet_X4_3 : Cond.methodLink RX4 3 objectInit ∈ lw_tbl := List.mem_of_getElem? (i := 99) (by decide +kernel)
theorem tCls_X4_9 : Cond.classLink RX4 9 RX0 ∈ lw_tbl := List.mem_of_getElem? (i := 100) (by decide +kernel)
theorem tCls_X4_17 : Cond.classLink RX4 17 RX5 ∈ lw_tbl := List.mem_of_getElem? (i := 102) (by decide +kernel)
theorem tIst_X0 : Cond.instantiable RX0 7 ∈ lw_tbl := List.mem_of_getElem? (i := 104) (by decide +kernel)
theorem tIns_X0_init : Cond.instanceMethod yX0_init ∈ lw_tbl := List.mem_of_getElem? (i := 106) (by decide +kernel)
theorem tCod_X0_init : Cond.code yX0_init cX0_init 1 none ∈ lw_tbl := List.mem_of_getElem? (i := 107) (by decide +kernel)
theorem tMet_X0_3 : Cond.methodLink RX0 3 objectInit ∈ lw_tbl := List.mem_of_getElem? (i := 108) (by decide +kernel)
theorem tFld_X0_9 : Cond.fieldLink RX0 9 "LeaningStreet$House" "kind" "I" ∈ lw_tbl := List.mem_of_getElem? (i := 109) (by decide +kernel)
theorem tFld_X4_63 : Cond.fieldLink RX4 63 "LeaningStreet$House" "kind" "I" ∈ lw_tbl := List.mem_of_getElem? (i := 110) (by decide +kernel)
theorem tFld_X6_112 : Cond.fieldLink RX6 112 "LeaningStreet$House" "kind" "I" ∈ lw_tbl := List.mem_of_getElem? (i := 111) (by decide +kernel)
theorem tFld_X0_15 : Cond.fieldLink RX0 15 "LeaningStreet$House" "weight" "I" ∈ lw_tbl := List.mem_of_getElem? (i := 112) (by decide +kernel)
theorem tFld_X4_66 : Cond.fieldLink RX4 66 "LeaningStreet$House" "weight" "I" ∈ lw_tbl := List.mem_of_getElem? (i := 113) (by decide +kernel)
theorem tFld_X0_18 : Cond.fieldLink RX0 18 "LeaningStreet$House" "lean" "I" ∈ lw_tbl := List.mem_of_getElem? (i := 114) (by decide +kernel)
theorem tFld_X4_69 : Cond.fieldLink RX4 69 "LeaningStreet$House" "lean" "I" ∈ lw_tbl := List.mem_of_getElem? (i := 115) (by decide +kernel)
theorem tFld_X6_170 : Cond.fieldLink RX6 170 "LeaningStreet$House" "lean" "I" ∈ lw_tbl := List.mem_of_getElem? (i := 116) (by decide +kernel)
theorem tFld_X0_21 : Cond.fieldLink RX0 21 "LeaningStreet$House" "wall" "I" ∈ lw_tbl := List.mem_of_getElem? (i := 117) (by decide +kernel)
theorem tFld_X4_72 : Cond.fieldLink RX4 72 "LeaningStreet$House" "wall" "I" ∈ lw_tbl := List.mem_of_getElem? (i := 118) (by decide +kernel)
theorem tFld_X6_108 : Cond.fieldLink RX6 108 "LeaningStreet$House" "wall" "I" ∈ lw_tbl := List.mem_of_getElem? (i := 119) (by decide +kernel)
theorem tFld_X0_24 : Cond.fieldLink RX0 24 "LeaningStreet$House" "crack" "I" ∈ lw_tbl := List.mem_of_getElem? (i := 120) (by decide +kernel)
theorem tFld_X4_115 : Cond.fieldLink RX4 115 "LeaningStreet$House" "crack" "I" ∈ lw_tbl := List.mem_of_getElem? (i := 121) (by decide +kernel)
theorem tFld_X6_212 : Cond.fieldLink RX6 212 "LeaningStreet$House" "crack" "I" ∈ lw_tbl := List.mem_of_getElem? (i := 122) (by decide +kernel)
theorem tFld_X0_27 : Cond.fieldLink RX0 27 "LeaningStreet$House" "prop" "I" ∈ lw_tbl := List.mem_of_getElem? (i := 123) (by decide +kernel)
theorem tFld_X4_75 : Cond.fieldLink RX4 75 "LeaningStreet$House" "prop" "I" ∈ lw_tbl := List.mem_of_getElem? (i := 124) (by decide +kernel)
theorem tFld_X6_215 : Cond.fieldLink RX6 215 "LeaningStreet$House" "prop" "I" ∈ lw_tbl := List.mem_of_getElem? (i := 125) (by decide +kernel)
theorem tFld_X0_30 : Cond.fieldLink RX0 30 "LeaningStreet$House" "stands" "Z" ∈ lw_tbl := List.mem_of_getElem? (i := 126) (by decide +kernel)
theorem tFld_X6_76 : Cond.fieldLink RX6 76 "LeaningStreet$House" "stands" "Z" ∈ lw_tbl := List.mem_of_getElem? (i := 127) (by decide +kernel)
theorem tFld_X4_129 : Cond.fieldLink RX4 129 "LeaningStreet$House" "stands" "Z" ∈ lw_tbl := List.mem_of_getElem? (i := 128) (by decide +kernel)
theorem tFld_X4_11 : Cond.fieldLink RX4 11 "LeaningStreet$Street" "houses" "[LLeaningStreet$House;" ∈ lw_tbl := List.mem_of_getElem? (i := 145) (by decide +kernel)
theorem tFld_X6_72 : Cond.fieldLink RX6 72 "LeaningStreet$Street" "houses" "[LLeaningStreet$House;" ∈ lw_tbl := List.mem_of_getElem? (i := 146) (by decide +kernel)
theorem tFld_X4_19 : Cond.fieldLink RX4 19 "LeaningStreet$Street" "allTexts" "[LLeaningStreet$Text;" ∈ lw_tbl := List.mem_of_getElem? (i := 147) (by decide +kernel)
theorem tFld_X6_240 : Cond.fieldLink RX6 240 "LeaningStreet$Street" "allTexts" "[LLeaningStreet$Text;" ∈ lw_tbl := List.mem_of_getElem? (i := 148) (by decide +kernel)
theorem tFld_X4_23 : Cond.fieldLink RX4 23 "LeaningStreet$Street" "counting" "[LLeaningStreet$Text;" ∈ lw_tbl := List.mem_of_getElem? (i := 149) (by decide +kernel)
theorem tFld_X6_202 : Cond.fieldLink RX6 202 "LeaningStreet$Street" "counting" "[LLeaningStreet$Text;" ∈ lw_tbl := List.mem_of_getElem? (i := 150) (by decide +kernel)
theorem tFld_X4_26 : Cond.fieldLink RX4 26 "LeaningStreet$Street" "thrusts" "[I" ∈ lw_tbl := List.mem_of_getElem? (i := 151) (by decide +kernel)
theorem tFld_X6_92 : Cond.fieldLink RX6 92 "LeaningStreet$Street" "thrusts" "[I" ∈ lw_tbl := List.mem_of_getElem? (i := 152) (by decide +kernel)
theorem tFld_X4_30 : Cond.fieldLink RX4 30 "LeaningStreet$Street" "lesser" "[I" ∈ lw_tbl := List.mem_of_getElem? (i := 153) (by decide +kernel)
theorem tFld_X4_33 : Cond.fieldLink RX4 33 "LeaningStreet$Street" "greater" "[I" ∈ lw_tbl := List.mem_of_getElem? (i := 154) (by decide +kernel)
theorem tFld_X4_36 : Cond.fieldLink RX4 36 "LeaningStreet$Street" "many" "I" ∈ lw_tbl := List.mem_of_getElem? (i := 155) (by decide +kernel)
theorem tFld_X6_60 : Cond.fieldLink RX6 60 "LeaningStreet$Street" "many" "I" ∈ lw_tbl := List.mem_of_getElem? (i := 156) (by decide +kernel)
theorem tFld_X4_40 : Cond.fieldLink RX4 40 "LeaningStreet$Street" "texts" "I" ∈ lw_tbl := List.mem_of_getElem? (i := 157) (by decide +kernel)
theorem tFld_X6_229 : Cond.fieldLink RX6 229 "LeaningStreet$Street" "texts" "I" ∈ lw_tbl := List.mem_of_getElem? (i := 158) (by decide +kernel)
theorem tFld_X4_43 : Cond.fieldLink RX4 43 "LeaningStreet$Street" "snow" "I" ∈ lw_tbl := List.mem_of_getElem? (i := 159) (by decide +kernel)
theorem tFld_X6_129 : Cond.fieldLink RX6 129 "LeaningStreet$Street" "snow" "I" ∈ lw_tbl := List.mem_of_getElem? (i := 160) (by decide +kernel)
theorem tFld_X4_46 : Cond.fieldLink RX4 46 "LeaningStreet$Street" "rent" "I" ∈ lw_tbl := List.mem_of_getElem? (i := 161) (by decide +kernel)
theorem tFld_X6_151 : Cond.fieldLink RX6 151 "LeaningStreet$Street" "rent" "I" ∈ lw_tbl := List.mem_of_getElem? (i := 162) (by decide +kernel)
theorem tFld_X4_49 : Cond.fieldLink RX4 49 "LeaningStreet$Street" "day" "I" ∈ lw_tbl := List.mem_of_getElem? (i := 163) (by decide +kernel)
theorem tFld_X6_144 : Cond.fieldLink RX6 144 "LeaningStreet$Street" "day" "I" ∈ lw_tbl := List.mem_of_getElem? (i := 164) (by decide +kernel)
theorem tFld_X4_52 : Cond.fieldLink RX4 52 "LeaningStreet$Street" "z" "I" ∈ lw_tbl := List.mem_of_getElem? (i := 165) (by decide +kernel)
theorem tFld_X6_141 : Cond.fieldLink RX6 141 "LeaningStreet$Street" "z" "I" ∈ lw_tbl := List.mem_of_getElem? (i := 166) (by decide +kernel)
theorem tCls_X6_22 : Cond.classLink RX6 22 RX1 ∈ lw_tbl := List.mem_of_getElem? (i := 192) (by decide +kernel)
theorem tIst_X1 : Cond.instantiable RX1 9 ∈ lw_tbl := List.mem_of_getElem? (i := 193) (by decide +kernel)
theorem tIns_X1_init : Cond.instanceMethod yX1_init ∈ lw_tbl := List.mem_of_getElem? (i := 195) (by decide +kernel)
theorem tCod_X1_init : Cond.code yX1_init cX1_init 1 none ∈ lw_tbl := List.mem_of_getElem? (i := 196) (by decide +kernel)
theorem tMet_X1_3 : Cond.methodLink RX1 3 objectInit ∈ lw_tbl := List.mem_of_getElem? (i := 197) (by decide +kernel)
theorem tFld_X1_9 : Cond.fieldLink RX1 9 "LeaningStreet$Reader" "bytes" "[I" ∈ lw_tbl := List.mem_of_getElem? (i := 198) (by decide +kernel)
theorem tFld_X1_15 : Cond.fieldLink RX1 15 "LeaningStreet$Reader" "many" "I" ∈ lw_tbl := List.mem_of_getElem? (i := 199) (by decide +kernel)
theorem tFld_X6_218 : Cond.fieldLink RX6 218 "LeaningStreet$Reader" "many" "I" ∈ lw_tbl := List.mem_of_getElem? (i := 200) (by decide +kernel)
theorem tFld_X1_19 : Cond.fieldLink RX1 19 "LeaningStreet$Reader" "start" "I" ∈ lw_tbl := List.mem_of_getElem? (i := 201) (by decide +kernel)
theorem tFld_X6_226 : Cond.fieldLink RX6 226 "LeaningStreet$Reader" "start" "I" ∈ lw_tbl := List.mem_of_getElem? (i := 202) (by decide +kernel)
theorem tFld_X1_22 : Cond.fieldLink RX1 22 "LeaningStreet$Reader" "end" "I" ∈ lw_tbl := List.mem_of_getElem? (i := 203) (by decide +kernel)
theorem tFld_X1_25 : Cond.fieldLink RX1 25 "LeaningStreet$Reader" "sort" "I" ∈ lw_tbl := List.mem_of_getElem? (i := 204) (by decide +kernel)
theorem tFld_X1_28 : Cond.fieldLink RX1 28 "LeaningStreet$Reader" "key" "I" ∈ lw_tbl := List.mem_of_getElem? (i := 205) (by decide +kernel)
theorem tFld_X1_31 : Cond.fieldLink RX1 31 "LeaningStreet$Reader" "code" "[I" ∈ lw_tbl := List.mem_of_getElem? (i := 206) (by decide +kernel)
theorem tFld_X1_34 : Cond.fieldLink RX1 34 "LeaningStreet$Reader" "steps" "I" ∈ lw_tbl := List.mem_of_getElem? (i := 207) (by decide +kernel)
theorem tFld_X1_37 : Cond.fieldLink RX1 37 "LeaningStreet$Reader" "pieces" "I" ∈ lw_tbl := List.mem_of_getElem? (i := 208) (by decide +kernel)
theorem tCls_X6_29 : Cond.classLink RX6 29 RX2 ∈ lw_tbl := List.mem_of_getElem? (i := 228) (by decide +kernel)
theorem tCls_X6_35 : Cond.classLink RX6 35 RX3 ∈ lw_tbl := List.mem_of_getElem? (i := 230) (by decide +kernel)
theorem tIst_X2 : Cond.instantiable RX2 3 ∈ lw_tbl := List.mem_of_getElem? (i := 232) (by decide +kernel)
theorem tIns_X2_init : Cond.instanceMethod yX2_init ∈ lw_tbl := List.mem_of_getElem? (i := 234) (by decide +kernel)
theorem tCod_X2_init : Cond.code yX2_init cX2_init 1 none ∈ lw_tbl := List.mem_of_getElem? (i := 235) (by decide +kernel)
theorem tMet_X2_3 : Cond.methodLink RX2 3 objectInit ∈ lw_tbl := List.mem_of_getElem? (i := 236) (by decide +kernel)
theorem tFld_X2_9 : Cond.fieldLink RX2 9 "LeaningStreet$Row" "places" "[I" ∈ lw_tbl := List.mem_of_getElem? (i := 237) (by decide +kernel)
theorem tFld_X4_103 : Cond.fieldLink RX4 103 "LeaningStreet$Row" "places" "[I" ∈ lw_tbl := List.mem_of_getElem? (i := 238) (by decide +kernel)
theorem tFld_X6_260 : Cond.fieldLink RX6 260 "LeaningStreet$Row" "places" "[I" ∈ lw_tbl := List.mem_of_getElem? (i := 239) (by decide +kernel)
theorem tFld_X2_15 : Cond.fieldLink RX2 15 "LeaningStreet$Row" "sort" "I" ∈ lw_tbl := List.mem_of_getElem? (i := 240) (by decide +kernel)
theorem tFld_X6_194 : Cond.fieldLink RX6 194 "LeaningStreet$Row" "sort" "I" ∈ lw_tbl := List.mem_of_getElem? (i := 241) (by decide +kernel)
theorem tFld_X2_19 : Cond.fieldLink RX2 19 "LeaningStreet$Row" "many" "I" ∈ lw_tbl := List.mem_of_getElem? (i := 242) (by decide +kernel)
theorem tFld_X4_90 : Cond.fieldLink RX4 90 "LeaningStreet$Row" "many" "I" ∈ lw_tbl := List.mem_of_getElem? (i := 243) (by decide +kernel)
theorem tFld_X6_268 : Cond.fieldLink RX6 268 "LeaningStreet$Row" "many" "I" ∈ lw_tbl := List.mem_of_getElem? (i := 244) (by decide +kernel)
theorem tIst_X3 : Cond.instantiable RX3 4 ∈ lw_tbl := List.mem_of_getElem? (i := 252) (by decide +kernel)
theorem tIns_X3_init : Cond.instanceMethod yX3_init ∈ lw_tbl := List.mem_of_getElem? (i := 254) (by decide +kernel)
theorem tCod_X3_init : Cond.code yX3_init cX3_init 1 none ∈ lw_tbl := List.mem_of_getElem? (i := 255) (by decide +kernel)
theorem tMet_X3_3 : Cond.methodLink RX3 3 objectInit ∈ lw_tbl := List.mem_of_getElem? (i := 256) (by decide +kernel)
theorem tCls_X3_18 : Cond.classLink RX3 18 RX0 ∈ lw_tbl := List.mem_of_getElem? (i := 257) (by decide +kernel)
theorem tCls_X3_25 : Cond.classLink RX3 25 RX2 ∈ lw_tbl := List.mem_of_getElem? (i := 259) (by decide +kernel)
theorem tFld_X3_9 : Cond.fieldLink RX3 9 "LeaningStreet$Slot" "thing" "I" ∈ lw_tbl := List.mem_of_getElem? (i := 261) (by decide +kernel)
theorem tFld_X6_284 : Cond.fieldLink RX6 284 "LeaningStreet$Slot" "thing" "I" ∈ lw_tbl := List.mem_of_getElem? (i := 262) (by decide +kernel)
theorem tFld_X3_15 : Cond.fieldLink RX3 15 "LeaningStreet$Slot" "number" "I" ∈ lw_tbl := List.mem_of_getElem? (i := 263) (by decide +kernel)
theorem tFld_X6_302 : Cond.fieldLink RX6 302 "LeaningStreet$Slot" "number" "I" ∈ lw_tbl := List.mem_of_getElem? (i := 264) (by decide +kernel)
theorem tFld_X3_21 : Cond.fieldLink RX3 21 "LeaningStreet$Slot" "house" "LLeaningStreet$House;" ∈ lw_tbl := List.mem_of_getElem? (i := 265) (by decide +kernel)
theorem tFld_X6_287 : Cond.fieldLink RX6 287 "LeaningStreet$Slot" "house" "LLeaningStreet$House;" ∈ lw_tbl := List.mem_of_getElem? (i := 266) (by decide +kernel)
theorem tFld_X3_28 : Cond.fieldLink RX3 28 "LeaningStreet$Slot" "row" "LLeaningStreet$Row;" ∈ lw_tbl := List.mem_of_getElem? (i := 267) (by decide +kernel)
theorem tFld_X6_295 : Cond.fieldLink RX6 295 "LeaningStreet$Slot" "row" "LLeaningStreet$Row;" ∈ lw_tbl := List.mem_of_getElem? (i := 268) (by decide +kernel)
theorem tFld_X6_10 : Cond.fieldLink RX6 10 "LeaningStreet" "now" "LLeaningStreet$Street;" ∈ lw_tbl := List.mem_of_getElem? (i := 278) (by decide +kernel)
theorem tFld_X6_16 : Cond.fieldLink RX6 16 "LeaningStreet" "image" "LLeaningStreet$Street;" ∈ lw_tbl := List.mem_of_getElem? (i := 279) (by decide +kernel)
theorem tFld_X6_19 : Cond.fieldLink RX6 19 "LeaningStreet" "thought" "LLeaningStreet$Street;" ∈ lw_tbl := List.mem_of_getElem? (i := 280) (by decide +kernel)
theorem tFld_X6_25 : Cond.fieldLink RX6 25 "LeaningStreet" "tape" "LLeaningStreet$Reader;" ∈ lw_tbl := List.mem_of_getElem? (i := 281) (by decide +kernel)
theorem tFld_X6_31 : Cond.fieldLink RX6 31 "LeaningStreet" "sheets" "[LLeaningStreet$Row;" ∈ lw_tbl := List.mem_of_getElem? (i := 282) (by decide +kernel)
theorem tFld_X6_37 : Cond.fieldLink RX6 37 "LeaningStreet" "slots" "[LLeaningStreet$Slot;" ∈ lw_tbl := List.mem_of_getElem? (i := 283) (by decide +kernel)
theorem tFld_X6_41 : Cond.fieldLink RX6 41 "LeaningStreet" "waiting" "[I" ∈ lw_tbl := List.mem_of_getElem? (i := 284) (by decide +kernel)
theorem tFld_X6_45 : Cond.fieldLink RX6 45 "LeaningStreet" "waits" "I" ∈ lw_tbl := List.mem_of_getElem? (i := 285) (by decide +kernel)
theorem tFld_X6_49 : Cond.fieldLink RX6 49 "LeaningStreet" "kept" "Z" ∈ lw_tbl := List.mem_of_getElem? (i := 286) (by decide +kernel)
theorem tMet_L_13 : Cond.methodLink RL 13 yX6_house ∈ lw_tbl := List.mem_of_getElem? (i := 306) (by decide +kernel)
theorem tIns_X6_house : Cond.instanceMethod yX6_house ∈ lw_tbl := List.mem_of_getElem? (i := 307) (by decide +kernel)
theorem tSel_X6_house : Cond.selects RX6 yX6_house yX6_house ∈ lw_tbl := List.mem_of_getElem? (i := 308) (by decide +kernel)
theorem tCod_X6_house : Cond.code yX6_house cX6_house 5 (some .int) ∈ lw_tbl := List.mem_of_getElem? (i := 309) (by decide +kernel)
theorem tMet_X6_55 : Cond.methodLink RX6 55 yX6_fits ∈ lw_tbl := List.mem_of_getElem? (i := 310) (by decide +kernel)
theorem tSta_X6_fits : Cond.static yX6_fits ∈ lw_tbl := List.mem_of_getElem? (i := 311) (by decide +kernel)
theorem tCod_X6_fits : Cond.code yX6_fits cX6_fits 2 (some .boolean) ∈ lw_tbl := List.mem_of_getElem? (i := 312) (by decide +kernel)
theorem tFld_X6_306 : Cond.fieldLink RX6 306 "LeaningStreet" "LEAST" "[I" ∈ lw_tbl := List.mem_of_getElem? (i := 313) (by decide +kernel)
theorem tFld_X6_181 : Cond.fieldLink RX6 181 "LeaningStreet" "MOST" "[I" ∈ lw_tbl := List.mem_of_getElem? (i := 315) (by decide +kernel)
theorem tCon_X6_59 : Cond.constant RX6 59 (-1000000001) ∈ lw_tbl := List.mem_of_getElem? (i := 317) (by decide +kernel)
theorem tCon_X6_63 : Cond.constant RX6 63 (-1000000003) ∈ lw_tbl := List.mem_of_getElem? (i := 318) (by decide +kernel)
theorem tMet_X6_64 : Cond.methodLink RX6 64 yX4_build ∈ lw_tbl := List.mem_of_getElem? (i := 319) (by decide +kernel)
theorem tIns_X4_build : Cond.instanceMethod yX4_build ∈ lw_tbl := List.mem_of_getElem? (i := 320) (by decide +kernel)
theorem tSel_X4_build : Cond.selects RX4 yX4_build yX4_build ∈ lw_tbl := List.mem_of_getElem? (i := 321) (by decide +kernel)
theorem tCod_X4_build : Cond.code yX4_build cX4_build 6 none ∈ lw_tbl := List.mem_of_getElem? (i := 322) (by decide +kernel)
theorem tMet_X4_60 : Cond.methodLink RX4 60 yX0_rise ∈ lw_tbl := List.mem_of_getElem? (i := 323) (by decide +kernel)
theorem tIns_X0_rise : Cond.instanceMethod yX0_rise ∈ lw_tbl := List.mem_of_getElem? (i := 324) (by decide +kernel)
theorem tSel_X0_rise : Cond.selects RX0 yX0_rise yX0_rise ∈ lw_tbl := List.mem_of_getElem? (i := 325) (by decide +kernel)
theorem tCod_X0_rise : Cond.code yX0_rise cX0_rise 1 none ∈ lw_tbl := List.mem_of_getElem? (i := 326) (by decide +kernel)
theorem tMet_L_18 : Cond.methodLink RL 18 yX6_told ∈ lw_tbl := List.mem_of_getElem? (i := 327) (by decide +kernel)
theorem tIns_X6_told : Cond.instanceMethod yX6_told ∈ lw_tbl := List.mem_of_getElem? (i := 328) (by decide +kernel)
theorem tSel_X6_told : Cond.selects RX6 yX6_told yX6_told ∈ lw_tbl := List.mem_of_getElem? (i := 329) (by decide +kernel)
theorem tCod_X6_told : Cond.code yX6_told cX6_told 4 (some .int) ∈ lw_tbl := List.mem_of_getElem? (i := 330) (by decide +kernel)
theorem tMet_X6_68 : Cond.methodLink RX6 68 yX6_isHouse ∈ lw_tbl := List.mem_of_getElem? (i := 331) (by decide +kernel)
theorem tIns_X6_isHouse : Cond.instanceMethod yX6_isHouse ∈ lw_tbl := List.mem_of_getElem? (i := 333) (by decide +kernel)
theorem tCod_X6_isHouse : Cond.code yX6_isHouse cX6_isHouse 2 (some .boolean) ∈ lw_tbl := List.mem_of_getElem? (i := 334) (by decide +kernel)
theorem tMet_X6_81 : Cond.methodLink RX6 81 yX4_pushOf ∈ lw_tbl := List.mem_of_getElem? (i := 335) (by decide +kernel)
theorem tIns_X4_pushOf : Cond.instanceMethod yX4_pushOf ∈ lw_tbl := List.mem_of_getElem? (i := 336) (by decide +kernel)
theorem tSel_X4_pushOf : Cond.selects RX4 yX4_pushOf yX4_pushOf ∈ lw_tbl := List.mem_of_getElem? (i := 337) (by decide +kernel)
theorem tCod_X4_pushOf : Cond.code yX4_pushOf cX4_pushOf 4 (some .int) ∈ lw_tbl := List.mem_of_getElem? (i := 338) (by decide +kernel)
theorem tMet_X4_118 : Cond.methodLink RX4 118 yJ9_abs_0f7a4 ∈ lw_tbl := List.mem_of_getElem? (i := 339) (by decide +kernel)
theorem tSta_J9_abs_0f7a4 : Cond.static yJ9_abs_0f7a4 ∈ lw_tbl := List.mem_of_getElem? (i := 340) (by decide +kernel)
theorem tCod_J9_abs_0f7a4 : Cond.code yJ9_abs_0f7a4 cJ9_abs_0f7a4 1 (some .int) ∈ lw_tbl := List.mem_of_getElem? (i := 341) (by decide +kernel)
theorem tMet_X4_122 : Cond.methodLink RX4 122 yX5_value ∈ lw_tbl := List.mem_of_getElem? (i := 342) (by decide +kernel)
theorem tIns_X5_value : Cond.instanceMethod yX5_value ∈ lw_tbl := List.mem_of_getElem? (i := 343) (by decide +kernel)
theorem tSel_X5_value : Cond.selects RX5 yX5_value yX5_value ∈ lw_tbl := List.mem_of_getElem? (i := 344) (by decide +kernel)
theorem tCod_X5_value : Cond.code yX5_value cX5_value 9 (some .int) ∈ lw_tbl := List.mem_of_getElem? (i := 345) (by decide +kernel)
theorem tMet_X5_34 : Cond.methodLink RX5 34 yX5_joined ∈ lw_tbl := List.mem_of_getElem? (i := 346) (by decide +kernel)
theorem tSta_X5_joined : Cond.static yX5_joined ∈ lw_tbl := List.mem_of_getElem? (i := 347) (by decide +kernel)
theorem tCod_X5_joined : Cond.code yX5_joined cX5_joined 3 (some .int) ∈ lw_tbl := List.mem_of_getElem? (i := 348) (by decide +kernel)
theorem tMet_X4_126 : Cond.methodLink RX4 126 yX0_pushing ∈ lw_tbl := List.mem_of_getElem? (i := 349) (by decide +kernel)
theorem tIns_X0_pushing : Cond.instanceMethod yX0_pushing ∈ lw_tbl := List.mem_of_getElem? (i := 350) (by decide +kernel)
theorem tSel_X0_pushing : Cond.selects RX0 yX0_pushing yX0_pushing ∈ lw_tbl := List.mem_of_getElem? (i := 351) (by decide +kernel)
theorem tCod_X0_pushing : Cond.code yX0_pushing cX0_pushing 3 (some .int) ∈ lw_tbl := List.mem_of_getElem? (i := 352) (by decide +kernel)
theorem tMet_X0_38 : Cond.methodLink RX0 38 yJ9_min_7cf53 ∈ lw_tbl := List.mem_of_getElem? (i := 353) (by decide +kernel)
theorem tSta_J9_min_7cf53 : Cond.static yJ9_min_7cf53 ∈ lw_tbl := List.mem_of_getElem? (i := 354) (by decide +kernel)
theorem tCod_J9_min_7cf53 : Cond.code yJ9_min_7cf53 cJ9_min_7cf53 2 (some .int) ∈ lw_tbl := List.mem_of_getElem? (i := 355) (by decide +kernel)
theorem tMet_X0_44 : Cond.methodLink RX0 44 yJ9_max_7cf53 ∈ lw_tbl := List.mem_of_getElem? (i := 356) (by decide +kernel)
theorem tSta_J9_max_7cf53 : Cond.static yJ9_max_7cf53 ∈ lw_tbl := List.mem_of_getElem? (i := 357) (by decide +kernel)
theorem tCod_J9_max_7cf53 : Cond.code yJ9_max_7cf53 cJ9_max_7cf53 2 (some .int) ∈ lw_tbl := List.mem_of_getElem? (i := 358) (by decide +kernel)
theorem tMet_X6_85 : Cond.methodLink RX6 85 yX0_bearing ∈ lw_tbl := List.mem_of_getElem? (i := 359) (by decide +kernel)
theorem tIns_X0_bearing : Cond.instanceMethod yX0_bearing ∈ lw_tbl := List.mem_of_getElem? (i := 360) (by decide +kernel)
theorem tSel_X0_bearing : Cond.selects RX0 yX0_bearing yX0_bearing ∈ lw_tbl := List.mem_of_getElem? (i := 361) (by decide +kernel)
theorem tCod_X0_bearing : Cond.code yX0_bearing cX0_bearing 2 (some .int) ∈ lw_tbl := List.mem_of_getElem? (i := 362) (by decide +kernel)
theorem tMet_X6_89 : Cond.methodLink RX6 89 yX4_workOutThrusts ∈ lw_tbl := List.mem_of_getElem? (i := 363) (by decide +kernel)
theorem tIns_X4_workOutThrusts : Cond.instanceMethod yX4_workOutThrusts ∈ lw_tbl := List.mem_of_getElem? (i := 364) (by decide +kernel)
theorem tSel_X4_workOutThrusts : Cond.selects RX4 yX4_workOutThrusts yX4_workOutThrusts ∈ lw_tbl := List.mem_of_getElem? (i := 365) (by decide +kernel)
theorem tCod_X4_workOutThrusts : Cond.code yX4_workOutThrusts cX4_workOutThrusts 3 none ∈ lw_tbl := List.mem_of_getElem? (i := 366) (by decide +kernel)
theorem tMet_X4_133 : Cond.methodLink RX4 133 yX4_lean ∈ lw_tbl := List.mem_of_getElem? (i := 367) (by decide +kernel)
theorem tIns_X4_lean : Cond.instanceMethod yX4_lean ∈ lw_tbl := List.mem_of_getElem? (i := 369) (by decide +kernel)
theorem tCod_X4_lean : Cond.code yX4_lean cX4_lean 3 none ∈ lw_tbl := List.mem_of_getElem? (i := 370) (by decide +kernel)
theorem tMet_X4_136 : Cond.methodLink RX4 136 yX4_pushOf ∈ lw_tbl := List.mem_of_getElem? (i := 371) (by decide +kernel)
theorem tMet_X6_95 : Cond.methodLink RX6 95 yX0_worth ∈ lw_tbl := List.mem_of_getElem? (i := 372) (by decide +kernel)
theorem tIns_X0_worth : Cond.instanceMethod yX0_worth ∈ lw_tbl := List.mem_of_getElem? (i := 373) (by decide +kernel)
theorem tSel_X0_worth : Cond.selects RX0 yX0_worth yX0_worth ∈ lw_tbl := List.mem_of_getElem? (i := 374) (by decide +kernel)
theorem tCod_X0_worth : Cond.code yX0_worth cX0_worth 1 (some .int) ∈ lw_tbl := List.mem_of_getElem? (i := 375) (by decide +kernel)
theorem tMet_X6_98 : Cond.methodLink RX6 98 yX0_part ∈ lw_tbl := List.mem_of_getElem? (i := 376) (by decide +kernel)
theorem tIns_X0_part : Cond.instanceMethod yX0_part ∈ lw_tbl := List.mem_of_getElem? (i := 377) (by decide +kernel)
theorem tSel_X0_part : Cond.selects RX0 yX0_part yX0_part ∈ lw_tbl := List.mem_of_getElem? (i := 378) (by decide +kernel)
theorem tCod_X0_part : Cond.code yX0_part cX0_part 2 (some .int) ∈ lw_tbl := List.mem_of_getElem? (i := 379) (by decide +kernel)
theorem tMet_L_23 : Cond.methodLink RL 23 yX6_as ∈ lw_tbl := List.mem_of_getElem? (i := 380) (by decide +kernel)
theorem tIns_X6_as : Cond.instanceMethod yX6_as ∈ lw_tbl := List.mem_of_getElem? (i := 381) (by decide +kernel)
theorem tSel_X6_as : Cond.selects RX6 yX6_as yX6_as ∈ lw_tbl := List.mem_of_getElem? (i := 382) (by decide +kernel)
theorem tCod_X6_as : Cond.code yX6_as cX6_as 3 (some .int) ∈ lw_tbl := List.mem_of_getElem? (i := 383) (by decide +kernel)
theorem tMet_X6_102 : Cond.methodLink RX6 102 yX6_isKind ∈ lw_tbl := List.mem_of_getElem? (i := 384) (by decide +kernel)
theorem tSta_X6_isKind : Cond.static yX6_isKind ∈ lw_tbl := List.mem_of_getElem? (i := 385) (by decide +kernel)
theorem tCod_X6_isKind : Cond.code yX6_isKind cX6_isKind 1 (some .boolean) ∈ lw_tbl := List.mem_of_getElem? (i := 386) (by decide +kernel)
theorem tMet_X6_105 : Cond.methodLink RX6 105 yX0_isOf ∈ lw_tbl := List.mem_of_getElem? (i := 387) (by decide +kernel)
theorem tIns_X0_isOf : Cond.instanceMethod yX0_isOf ∈ lw_tbl := List.mem_of_getElem? (i := 388) (by decide +kernel)
theorem tSel_X0_isOf : Cond.selects RX0 yX0_isOf yX0_isOf ∈ lw_tbl := List.mem_of_getElem? (i := 389) (by decide +kernel)
theorem tCod_X0_isOf : Cond.code yX0_isOf cX0_isOf 4 (some .boolean) ∈ lw_tbl := List.mem_of_getElem? (i := 390) (by decide +kernel)
theorem tCon_X6_111 : Cond.constant RX6 111 (-1000000012) ∈ lw_tbl := List.mem_of_getElem? (i := 393) (by decide +kernel)
theorem tMet_L_27 : Cond.methodLink RL 27 yX6_turns ∈ lw_tbl := List.mem_of_getElem? (i := 394) (by decide +kernel)
theorem tIns_X6_turns : Cond.instanceMethod yX6_turns ∈ lw_tbl := List.mem_of_getElem? (i := 395) (by decide +kernel)
theorem tSel_X6_turns : Cond.selects RX6 yX6_turns yX6_turns ∈ lw_tbl := List.mem_of_getElem? (i := 396) (by decide +kernel)
theorem tCod_X6_turns : Cond.code yX6_turns cX6_turns 4 (some .int) ∈ lw_tbl := List.mem_of_getElem? (i := 397) (by decide +kernel)
theorem tMet_L_31 : Cond.methodLink RL 31 yX6_set ∈ lw_tbl := List.mem_of_getElem? (i := 398) (by decide +kernel)
theorem tIns_X6_set : Cond.instanceMethod yX6_set ∈ lw_tbl := List.mem_of_getElem? (i := 399) (by decide +kernel)
theorem tSel_X6_set : Cond.selects RX6 yX6_set yX6_set ∈ lw_tbl := List.mem_of_getElem? (i := 400) (by decide +kernel)
theorem tCod_X6_set : Cond.code yX6_set cX6_set 5 (some .int) ∈ lw_tbl := List.mem_of_getElem? (i := 401) (by decide +kernel)
theorem tMet_X6_115 : Cond.methodLink RX6 115 yX0_becomes ∈ lw_tbl := List.mem_of_getElem? (i := 402) (by decide +kernel)
theorem tIns_X0_becomes : Cond.instanceMethod yX0_becomes ∈ lw_tbl := List.mem_of_getElem? (i := 403) (by decide +kernel)
theorem tSel_X0_becomes : Cond.selects RX0 yX0_becomes yX0_becomes ∈ lw_tbl := List.mem_of_getElem? (i := 404) (by decide +kernel)
theorem tCod_X0_becomes : Cond.code yX0_becomes cX0_becomes 3 none ∈ lw_tbl := List.mem_of_getElem? (i := 405) (by decide +kernel)
theorem tMet_L_36 : Cond.methodLink RL 36 yX6_fells ∈ lw_tbl := List.mem_of_getElem? (i := 406) (by decide +kernel)
theorem tIns_X6_fells : Cond.instanceMethod yX6_fells ∈ lw_tbl := List.mem_of_getElem? (i := 407) (by decide +kernel)
theorem tSel_X6_fells : Cond.selects RX6 yX6_fells yX6_fells ∈ lw_tbl := List.mem_of_getElem? (i := 408) (by decide +kernel)
theorem tCod_X6_fells : Cond.code yX6_fells cX6_fells 2 (some .int) ∈ lw_tbl := List.mem_of_getElem? (i := 409) (by decide +kernel)
theorem tCon_X6_119 : Cond.constant RX6 119 (-1000000002) ∈ lw_tbl := List.mem_of_getElem? (i := 410) (by decide +kernel)
theorem tMet_X6_120 : Cond.methodLink RX6 120 yX0_fall ∈ lw_tbl := List.mem_of_getElem? (i := 411) (by decide +kernel)
theorem tIns_X0_fall : Cond.instanceMethod yX0_fall ∈ lw_tbl := List.mem_of_getElem? (i := 412) (by decide +kernel)
theorem tSel_X0_fall : Cond.selects RX0 yX0_fall yX0_fall ∈ lw_tbl := List.mem_of_getElem? (i := 413) (by decide +kernel)
theorem tCod_X0_fall : Cond.code yX0_fall cX0_fall 1 none ∈ lw_tbl := List.mem_of_getElem? (i := 414) (by decide +kernel)
theorem tMet_X6_123 : Cond.methodLink RX6 123 yX4_howManyStand ∈ lw_tbl := List.mem_of_getElem? (i := 415) (by decide +kernel)
theorem tIns_X4_howManyStand : Cond.instanceMethod yX4_howManyStand ∈ lw_tbl := List.mem_of_getElem? (i := 416) (by decide +kernel)
theorem tSel_X4_howManyStand : Cond.selects RX4 yX4_howManyStand yX4_howManyStand ∈ lw_tbl := List.mem_of_getElem? (i := 417) (by decide +kernel)
theorem tCod_X4_howManyStand : Cond.code yX4_howManyStand cX4_howManyStand 1 (some .int) ∈ lw_tbl := List.mem_of_getElem? (i := 418) (by decide +kernel)
theorem tMet_X4_174 : Cond.methodLink RX4 174 yX4_standing ∈ lw_tbl := List.mem_of_getElem? (i := 419) (by decide +kernel)
theorem tIns_X4_standing : Cond.instanceMethod yX4_standing ∈ lw_tbl := List.mem_of_getElem? (i := 420) (by decide +kernel)
theorem tSel_X4_standing : Cond.selects RX4 yX4_standing yX4_standing ∈ lw_tbl := List.mem_of_getElem? (i := 421) (by decide +kernel)
theorem tCod_X4_standing : Cond.code yX4_standing cX4_standing 3 (some .int) ∈ lw_tbl := List.mem_of_getElem? (i := 422) (by decide +kernel)
theorem tMet_X4_177 : Cond.methodLink RX4 177 yJ6_bitCount_0f7a4 ∈ lw_tbl := List.mem_of_getElem? (i := 423) (by decide +kernel)
theorem tSta_J6_bitCount_0f7a4 : Cond.static yJ6_bitCount_0f7a4 ∈ lw_tbl := List.mem_of_getElem? (i := 424) (by decide +kernel)
theorem tCod_J6_bitCount_0f7a4 : Cond.code yJ6_bitCount_0f7a4 cJ6_bitCount_0f7a4 1 (some .int) ∈ lw_tbl := List.mem_of_getElem? (i := 425) (by decide +kernel)
theorem tCon_J6_265 : Cond.constant RJ6 265 (1431655765) ∈ lw_tbl := List.mem_of_getElem? (i := 426) (by decide +kernel)
theorem tCon_J6_266 : Cond.constant RJ6 266 (858993459) ∈ lw_tbl := List.mem_of_getElem? (i := 427) (by decide +kernel)
theorem tCon_J6_267 : Cond.constant RJ6 267 (252645135) ∈ lw_tbl := List.mem_of_getElem? (i := 428) (by decide +kernel)
theorem tMet_L_41 : Cond.methodLink RL 41 yX6_raises ∈ lw_tbl := List.mem_of_getElem? (i := 429) (by decide +kernel)
theorem tIns_X6_raises : Cond.instanceMethod yX6_raises ∈ lw_tbl := List.mem_of_getElem? (i := 430) (by decide +kernel)
theorem tSel_X6_raises : Cond.selects RX6 yX6_raises yX6_raises ∈ lw_tbl := List.mem_of_getElem? (i := 431) (by decide +kernel)
theorem tCod_X6_raises : Cond.code yX6_raises cX6_raises 2 (some .int) ∈ lw_tbl := List.mem_of_getElem? (i := 432) (by decide +kernel)
theorem tMet_X6_126 : Cond.methodLink RX6 126 yX0_rise ∈ lw_tbl := List.mem_of_getElem? (i := 433) (by decide +kernel)
theorem tMet_L_45 : Cond.methodLink RL 45 yX6_snow ∈ lw_tbl := List.mem_of_getElem? (i := 434) (by decide +kernel)
theorem tIns_X6_snow : Cond.instanceMethod yX6_snow ∈ lw_tbl := List.mem_of_getElem? (i := 435) (by decide +kernel)
theorem tSel_X6_snow : Cond.selects RX6 yX6_snow yX6_snow ∈ lw_tbl := List.mem_of_getElem? (i := 436) (by decide +kernel)
theorem tCod_X6_snow : Cond.code yX6_snow cX6_snow 3 (some .int) ∈ lw_tbl := List.mem_of_getElem? (i := 437) (by decide +kernel)
theorem tMet_L_49 : Cond.methodLink RL 49 yX6_deal ∈ lw_tbl := List.mem_of_getElem? (i := 438) (by decide +kernel)
theorem tIns_X6_deal : Cond.instanceMethod yX6_deal ∈ lw_tbl := List.mem_of_getElem? (i := 439) (by decide +kernel)
theorem tSel_X6_deal : Cond.selects RX6 yX6_deal yX6_deal ∈ lw_tbl := List.mem_of_getElem? (i := 440) (by decide +kernel)
theorem tCod_X6_deal : Cond.code yX6_deal cX6_deal 4 (some .int) ∈ lw_tbl := List.mem_of_getElem? (i := 441) (by decide +kernel)
theorem tMet_X6_132 : Cond.methodLink RX6 132 yJ9_min_7cf53 ∈ lw_tbl := List.mem_of_getElem? (i := 442) (by decide +kernel)
theorem tMet_X6_138 : Cond.methodLink RX6 138 yX4_buildByLot ∈ lw_tbl := List.mem_of_getElem? (i := 443) (by decide +kernel)
theorem tIns_X4_buildByLot : Cond.instanceMethod yX4_buildByLot ∈ lw_tbl := List.mem_of_getElem? (i := 444) (by decide +kernel)
theorem tSel_X4_buildByLot : Cond.selects RX4 yX4_buildByLot yX4_buildByLot ∈ lw_tbl := List.mem_of_getElem? (i := 445) (by decide +kernel)
theorem tCod_X4_buildByLot : Cond.code yX4_buildByLot cX4_buildByLot 5 none ∈ lw_tbl := List.mem_of_getElem? (i := 446) (by decide +kernel)
theorem tMet_X4_78 : Cond.methodLink RX4 78 yX4_draw ∈ lw_tbl := List.mem_of_getElem? (i := 447) (by decide +kernel)
theorem tIns_X4_draw : Cond.instanceMethod yX4_draw ∈ lw_tbl := List.mem_of_getElem? (i := 449) (by decide +kernel)
theorem tCod_X4_draw : Cond.code yX4_draw cX4_draw 1 (some .int) ∈ lw_tbl := List.mem_of_getElem? (i := 450) (by decide +kernel)
theorem tCon_X4_86 : Cond.constant RX4 86 (1103515245) ∈ lw_tbl := List.mem_of_getElem? (i := 451) (by decide +kernel)
theorem tMet_X4_82 : Cond.methodLink RX4 82 yX4_build ∈ lw_tbl := List.mem_of_getElem? (i := 452) (by decide +kernel)
theorem tMet_L_53 : Cond.methodLink RL 53 yX6_seed ∈ lw_tbl := List.mem_of_getElem? (i := 453) (by decide +kernel)
theorem tIns_X6_seed : Cond.instanceMethod yX6_seed ∈ lw_tbl := List.mem_of_getElem? (i := 454) (by decide +kernel)
theorem tSel_X6_seed : Cond.selects RX6 yX6_seed yX6_seed ∈ lw_tbl := List.mem_of_getElem? (i := 455) (by decide +kernel)
theorem tCod_X6_seed : Cond.code yX6_seed cX6_seed 3 (some .int) ∈ lw_tbl := List.mem_of_getElem? (i := 456) (by decide +kernel)
theorem tMet_L_57 : Cond.methodLink RL 57 yX6_days ∈ lw_tbl := List.mem_of_getElem? (i := 457) (by decide +kernel)
theorem tIns_X6_days : Cond.instanceMethod yX6_days ∈ lw_tbl := List.mem_of_getElem? (i := 458) (by decide +kernel)
theorem tSel_X6_days : Cond.selects RX6 yX6_days yX6_days ∈ lw_tbl := List.mem_of_getElem? (i := 459) (by decide +kernel)
theorem tCod_X6_days : Cond.code yX6_days cX6_days 3 (some .int) ∈ lw_tbl := List.mem_of_getElem? (i := 460) (by decide +kernel)
theorem tMet_X6_147 : Cond.methodLink RX6 147 yX4_goOn ∈ lw_tbl := List.mem_of_getElem? (i := 461) (by decide +kernel)
theorem tIns_X4_goOn : Cond.instanceMethod yX4_goOn ∈ lw_tbl := List.mem_of_getElem? (i := 462) (by decide +kernel)
theorem tSel_X4_goOn : Cond.selects RX4 yX4_goOn yX4_goOn ∈ lw_tbl := List.mem_of_getElem? (i := 463) (by decide +kernel)
theorem tCod_X4_goOn : Cond.code yX4_goOn cX4_goOn 3 none ∈ lw_tbl := List.mem_of_getElem? (i := 464) (by decide +kernel)
theorem tMet_X4_168 : Cond.methodLink RX4 168 yX4_goOneDay ∈ lw_tbl := List.mem_of_getElem? (i := 465) (by decide +kernel)
theorem tIns_X4_goOneDay : Cond.instanceMethod yX4_goOneDay ∈ lw_tbl := List.mem_of_getElem? (i := 467) (by decide +kernel)
theorem tCod_X4_goOneDay : Cond.code yX4_goOneDay cX4_goOneDay 3 (some .boolean) ∈ lw_tbl := List.mem_of_getElem? (i := 468) (by decide +kernel)
theorem tMet_X4_143 : Cond.methodLink RX4 143 yX4_workOutThrusts ∈ lw_tbl := List.mem_of_getElem? (i := 469) (by decide +kernel)
theorem tMet_X4_149 : Cond.methodLink RX4 149 yX4_crackAndMove ∈ lw_tbl := List.mem_of_getElem? (i := 470) (by decide +kernel)
theorem tIns_X4_crackAndMove : Cond.instanceMethod yX4_crackAndMove ∈ lw_tbl := List.mem_of_getElem? (i := 472) (by decide +kernel)
theorem tCod_X4_crackAndMove : Cond.code yX4_crackAndMove cX4_crackAndMove 6 (some .boolean) ∈ lw_tbl := List.mem_of_getElem? (i := 473) (by decide +kernel)
theorem tMet_X4_146 : Cond.methodLink RX4 146 yX4_tooMuch ∈ lw_tbl := List.mem_of_getElem? (i := 474) (by decide +kernel)
theorem tIns_X4_tooMuch : Cond.instanceMethod yX4_tooMuch ∈ lw_tbl := List.mem_of_getElem? (i := 476) (by decide +kernel)
theorem tCod_X4_tooMuch : Cond.code yX4_tooMuch cX4_tooMuch 2 (some .int) ∈ lw_tbl := List.mem_of_getElem? (i := 477) (by decide +kernel)
theorem tMet_X4_140 : Cond.methodLink RX4 140 yX0_bearing ∈ lw_tbl := List.mem_of_getElem? (i := 478) (by decide +kernel)
theorem tMet_X4_106 : Cond.methodLink RX4 106 yJ9_min_7cf53 ∈ lw_tbl := List.mem_of_getElem? (i := 480) (by decide +kernel)
theorem tMet_X4_112 : Cond.methodLink RX4 112 yJ9_max_7cf53 ∈ lw_tbl := List.mem_of_getElem? (i := 482) (by decide +kernel)
theorem tMet_X4_153 : Cond.methodLink RX4 153 yX4_fallByCracks ∈ lw_tbl := List.mem_of_getElem? (i := 483) (by decide +kernel)
theorem tIns_X4_fallByCracks : Cond.instanceMethod yX4_fallByCracks ∈ lw_tbl := List.mem_of_getElem? (i := 485) (by decide +kernel)
theorem tCod_X4_fallByCracks : Cond.code yX4_fallByCracks cX4_fallByCracks 3 (some .boolean) ∈ lw_tbl := List.mem_of_getElem? (i := 486) (by decide +kernel)
theorem tMet_X4_162 : Cond.methodLink RX4 162 yX0_fall ∈ lw_tbl := List.mem_of_getElem? (i := 487) (by decide +kernel)
theorem tMet_X4_156 : Cond.methodLink RX4 156 yX4_fallByNeighbours ∈ lw_tbl := List.mem_of_getElem? (i := 488) (by decide +kernel)
theorem tIns_X4_fallByNeighbours : Cond.instanceMethod yX4_fallByNeighbours ∈ lw_tbl := List.mem_of_getElem? (i := 490) (by decide +kernel)
theorem tCod_X4_fallByNeighbours : Cond.code yX4_fallByNeighbours cX4_fallByNeighbours 4 none ∈ lw_tbl := List.mem_of_getElem? (i := 491) (by decide +kernel)
theorem tMet_X4_165 : Cond.methodLink RX4 165 yX4_hasLostItsRest ∈ lw_tbl := List.mem_of_getElem? (i := 492) (by decide +kernel)
theorem tIns_X4_hasLostItsRest : Cond.instanceMethod yX4_hasLostItsRest ∈ lw_tbl := List.mem_of_getElem? (i := 494) (by decide +kernel)
theorem tCod_X4_hasLostItsRest : Cond.code yX4_hasLostItsRest cX4_hasLostItsRest 3 (some .boolean) ∈ lw_tbl := List.mem_of_getElem? (i := 495) (by decide +kernel)
theorem tMet_X4_159 : Cond.methodLink RX4 159 yX4_props ∈ lw_tbl := List.mem_of_getElem? (i := 496) (by decide +kernel)
theorem tIns_X4_props : Cond.instanceMethod yX4_props ∈ lw_tbl := List.mem_of_getElem? (i := 497) (by decide +kernel)
theorem tSel_X4_props : Cond.selects RX4 yX4_props yX4_props ∈ lw_tbl := List.mem_of_getElem? (i := 498) (by decide +kernel)
theorem tCod_X4_props : Cond.code yX4_props cX4_props 3 (some .int) ∈ lw_tbl := List.mem_of_getElem? (i := 499) (by decide +kernel)
theorem tMet_L_61 : Cond.methodLink RL 61 yX6_street ∈ lw_tbl := List.mem_of_getElem? (i := 500) (by decide +kernel)
theorem tIns_X6_street : Cond.instanceMethod yX6_street ∈ lw_tbl := List.mem_of_getElem? (i := 501) (by decide +kernel)
theorem tSel_X6_street : Cond.selects RX6 yX6_street yX6_street ∈ lw_tbl := List.mem_of_getElem? (i := 502) (by decide +kernel)
theorem tCod_X6_street : Cond.code yX6_street cX6_street 2 (some .int) ∈ lw_tbl := List.mem_of_getElem? (i := 503) (by decide +kernel)
theorem tMet_X6_154 : Cond.methodLink RX6 154 yX4_standing ∈ lw_tbl := List.mem_of_getElem? (i := 504) (by decide +kernel)
theorem tMet_X6_157 : Cond.methodLink RX6 157 yX4_cracks ∈ lw_tbl := List.mem_of_getElem? (i := 505) (by decide +kernel)
theorem tIns_X4_cracks : Cond.instanceMethod yX4_cracks ∈ lw_tbl := List.mem_of_getElem? (i := 506) (by decide +kernel)
theorem tSel_X4_cracks : Cond.selects RX4 yX4_cracks yX4_cracks ∈ lw_tbl := List.mem_of_getElem? (i := 507) (by decide +kernel)
theorem tCod_X4_cracks : Cond.code yX4_cracks cX4_cracks 3 (some .int) ∈ lw_tbl := List.mem_of_getElem? (i := 508) (by decide +kernel)
theorem tMet_X6_160 : Cond.methodLink RX6 160 yX4_props ∈ lw_tbl := List.mem_of_getElem? (i := 509) (by decide +kernel)
theorem tMet_X6_163 : Cond.methodLink RX6 163 yX4_notHolding ∈ lw_tbl := List.mem_of_getElem? (i := 510) (by decide +kernel)
theorem tIns_X4_notHolding : Cond.instanceMethod yX4_notHolding ∈ lw_tbl := List.mem_of_getElem? (i := 511) (by decide +kernel)
theorem tSel_X4_notHolding : Cond.selects RX4 yX4_notHolding yX4_notHolding ∈ lw_tbl := List.mem_of_getElem? (i := 512) (by decide +kernel)
theorem tCod_X4_notHolding : Cond.code yX4_notHolding cX4_notHolding 3 (some .int) ∈ lw_tbl := List.mem_of_getElem? (i := 513) (by decide +kernel)
theorem tMet_L_65 : Cond.methodLink RL 65 yX6_behind ∈ lw_tbl := List.mem_of_getElem? (i := 514) (by decide +kernel)
theorem tIns_X6_behind : Cond.instanceMethod yX6_behind ∈ lw_tbl := List.mem_of_getElem? (i := 515) (by decide +kernel)
theorem tSel_X6_behind : Cond.selects RX6 yX6_behind yX6_behind ∈ lw_tbl := List.mem_of_getElem? (i := 516) (by decide +kernel)
theorem tCod_X6_behind : Cond.code yX6_behind cX6_behind 3 (some .int) ∈ lw_tbl := List.mem_of_getElem? (i := 517) (by decide +kernel)
theorem tMet_X6_166 : Cond.methodLink RX6 166 yX6_thinkOf ∈ lw_tbl := List.mem_of_getElem? (i := 518) (by decide +kernel)
theorem tIns_X6_thinkOf : Cond.instanceMethod yX6_thinkOf ∈ lw_tbl := List.mem_of_getElem? (i := 520) (by decide +kernel)
theorem tCod_X6_thinkOf : Cond.code yX6_thinkOf cX6_thinkOf 2 (some (.object "LeaningStreet$Street")) ∈ lw_tbl := List.mem_of_getElem? (i := 521) (by decide +kernel)
theorem tMet_X6_303 : Cond.methodLink RX6 303 yX4_beLike ∈ lw_tbl := List.mem_of_getElem? (i := 522) (by decide +kernel)
theorem tIns_X4_beLike : Cond.instanceMethod yX4_beLike ∈ lw_tbl := List.mem_of_getElem? (i := 523) (by decide +kernel)
theorem tSel_X4_beLike : Cond.selects RX4 yX4_beLike yX4_beLike ∈ lw_tbl := List.mem_of_getElem? (i := 524) (by decide +kernel)
theorem tCod_X4_beLike : Cond.code yX4_beLike cX4_beLike 3 none ∈ lw_tbl := List.mem_of_getElem? (i := 525) (by decide +kernel)
theorem tMet_X4_56 : Cond.methodLink RX4 56 yX0_beLike ∈ lw_tbl := List.mem_of_getElem? (i := 526) (by decide +kernel)
theorem tIns_X0_beLike : Cond.instanceMethod yX0_beLike ∈ lw_tbl := List.mem_of_getElem? (i := 527) (by decide +kernel)
theorem tSel_X0_beLike : Cond.selects RX0 yX0_beLike yX0_beLike ∈ lw_tbl := List.mem_of_getElem? (i := 528) (by decide +kernel)
theorem tCod_X0_beLike : Cond.code yX0_beLike cX0_beLike 2 none ∈ lw_tbl := List.mem_of_getElem? (i := 529) (by decide +kernel)
theorem tMet_L_69 : Cond.methodLink RL 69 yX6_lasts ∈ lw_tbl := List.mem_of_getElem? (i := 530) (by decide +kernel)
theorem tIns_X6_lasts : Cond.instanceMethod yX6_lasts ∈ lw_tbl := List.mem_of_getElem? (i := 531) (by decide +kernel)
theorem tSel_X6_lasts : Cond.selects RX6 yX6_lasts yX6_lasts ∈ lw_tbl := List.mem_of_getElem? (i := 532) (by decide +kernel)
theorem tCod_X6_lasts : Cond.code yX6_lasts cX6_lasts 2 (some .int) ∈ lw_tbl := List.mem_of_getElem? (i := 533) (by decide +kernel)
theorem tMet_X6_173 : Cond.methodLink RX6 173 yX4_firstFall ∈ lw_tbl := List.mem_of_getElem? (i := 534) (by decide +kernel)
theorem tIns_X4_firstFall : Cond.instanceMethod yX4_firstFall ∈ lw_tbl := List.mem_of_getElem? (i := 535) (by decide +kernel)
theorem tSel_X4_firstFall : Cond.selects RX4 yX4_firstFall yX4_firstFall ∈ lw_tbl := List.mem_of_getElem? (i := 536) (by decide +kernel)
theorem tCod_X4_firstFall : Cond.code yX4_firstFall cX4_firstFall 5 (some .int) ∈ lw_tbl := List.mem_of_getElem? (i := 537) (by decide +kernel)
theorem tMet_X4_171 : Cond.methodLink RX4 171 yX4_howManyStand ∈ lw_tbl := List.mem_of_getElem? (i := 538) (by decide +kernel)
theorem tCon_X6_176 : Cond.constant RX6 176 (-1000000005) ∈ lw_tbl := List.mem_of_getElem? (i := 539) (by decide +kernel)
theorem tMet_L_74 : Cond.methodLink RL 74 yX6_taken ∈ lw_tbl := List.mem_of_getElem? (i := 540) (by decide +kernel)
theorem tIns_X6_taken : Cond.instanceMethod yX6_taken ∈ lw_tbl := List.mem_of_getElem? (i := 541) (by decide +kernel)
theorem tSel_X6_taken : Cond.selects RX6 yX6_taken yX6_taken ∈ lw_tbl := List.mem_of_getElem? (i := 542) (by decide +kernel)
theorem tCod_X6_taken : Cond.code yX6_taken cX6_taken 4 (some .int) ∈ lw_tbl := List.mem_of_getElem? (i := 543) (by decide +kernel)
theorem tMet_L_78 : Cond.methodLink RL 78 yX6_propped ∈ lw_tbl := List.mem_of_getElem? (i := 544) (by decide +kernel)
theorem tIns_X6_propped : Cond.instanceMethod yX6_propped ∈ lw_tbl := List.mem_of_getElem? (i := 545) (by decide +kernel)
theorem tSel_X6_propped : Cond.selects RX6 yX6_propped yX6_propped ∈ lw_tbl := List.mem_of_getElem? (i := 546) (by decide +kernel)
theorem tCod_X6_propped : Cond.code yX6_propped cX6_propped 5 (some .int) ∈ lw_tbl := List.mem_of_getElem? (i := 547) (by decide +kernel)
theorem tMet_X6_177 : Cond.methodLink RX6 177 yX4_crackedSince ∈ lw_tbl := List.mem_of_getElem? (i := 548) (by decide +kernel)
theorem tIns_X4_crackedSince : Cond.instanceMethod yX4_crackedSince ∈ lw_tbl := List.mem_of_getElem? (i := 549) (by decide +kernel)
theorem tSel_X4_crackedSince : Cond.selects RX4 yX4_crackedSince yX4_crackedSince ∈ lw_tbl := List.mem_of_getElem? (i := 550) (by decide +kernel)
theorem tCod_X4_crackedSince : Cond.code yX4_crackedSince cX4_crackedSince 4 (some .int) ∈ lw_tbl := List.mem_of_getElem? (i := 551) (by decide +kernel)
theorem tMet_X6_184 : Cond.methodLink RX6 184 yX6_isEnough ∈ lw_tbl := List.mem_of_getElem? (i := 552) (by decide +kernel)
theorem tIns_X6_isEnough : Cond.instanceMethod yX6_isEnough ∈ lw_tbl := List.mem_of_getElem? (i := 554) (by decide +kernel)
theorem tCod_X6_isEnough : Cond.code yX6_isEnough cX6_isEnough 4 (some .boolean) ∈ lw_tbl := List.mem_of_getElem? (i := 555) (by decide +kernel)
theorem tMet_L_82 : Cond.methodLink RL 82 yX6_wall ∈ lw_tbl := List.mem_of_getElem? (i := 556) (by decide +kernel)
theorem tIns_X6_wall : Cond.instanceMethod yX6_wall ∈ lw_tbl := List.mem_of_getElem? (i := 557) (by decide +kernel)
theorem tSel_X6_wall : Cond.selects RX6 yX6_wall yX6_wall ∈ lw_tbl := List.mem_of_getElem? (i := 558) (by decide +kernel)
theorem tCod_X6_wall : Cond.code yX6_wall cX6_wall 7 (some .int) ∈ lw_tbl := List.mem_of_getElem? (i := 559) (by decide +kernel)
theorem tMet_X6_188 : Cond.methodLink RX6 188 yX6_thinkWithoutWall ∈ lw_tbl := List.mem_of_getElem? (i := 560) (by decide +kernel)
theorem tIns_X6_thinkWithoutWall : Cond.instanceMethod yX6_thinkWithoutWall ∈ lw_tbl := List.mem_of_getElem? (i := 562) (by decide +kernel)
theorem tCod_X6_thinkWithoutWall : Cond.code yX6_thinkWithoutWall cX6_thinkWithoutWall 3 none ∈ lw_tbl := List.mem_of_getElem? (i := 563) (by decide +kernel)
theorem tMet_L_86 : Cond.methodLink RL 86 yX6_snows ∈ lw_tbl := List.mem_of_getElem? (i := 564) (by decide +kernel)
theorem tIns_X6_snows : Cond.instanceMethod yX6_snows ∈ lw_tbl := List.mem_of_getElem? (i := 565) (by decide +kernel)
theorem tSel_X6_snows : Cond.selects RX6 yX6_snows yX6_snows ∈ lw_tbl := List.mem_of_getElem? (i := 566) (by decide +kernel)
theorem tCod_X6_snows : Cond.code yX6_snows cX6_snows 3 (some .int) ∈ lw_tbl := List.mem_of_getElem? (i := 567) (by decide +kernel)
theorem tMet_L_90 : Cond.methodLink RL 90 yX6_began ∈ lw_tbl := List.mem_of_getElem? (i := 568) (by decide +kernel)
theorem tIns_X6_began : Cond.instanceMethod yX6_began ∈ lw_tbl := List.mem_of_getElem? (i := 569) (by decide +kernel)
theorem tSel_X6_began : Cond.selects RX6 yX6_began yX6_began ∈ lw_tbl := List.mem_of_getElem? (i := 570) (by decide +kernel)
theorem tCod_X6_began : Cond.code yX6_began cX6_began 8 (some .int) ∈ lw_tbl := List.mem_of_getElem? (i := 571) (by decide +kernel)
theorem tMet_X6_191 : Cond.methodLink RX6 191 yX6_isSheet ∈ lw_tbl := List.mem_of_getElem? (i := 572) (by decide +kernel)
theorem tSta_X6_isSheet : Cond.static yX6_isSheet ∈ lw_tbl := List.mem_of_getElem? (i := 573) (by decide +kernel)
theorem tCod_X6_isSheet : Cond.code yX6_isSheet cX6_isSheet 1 (some .boolean) ∈ lw_tbl := List.mem_of_getElem? (i := 574) (by decide +kernel)
theorem tCon_X6_197 : Cond.constant RX6 197 (-1000000011) ∈ lw_tbl := List.mem_of_getElem? (i := 575) (by decide +kernel)
theorem tMet_X6_198 : Cond.methodLink RX6 198 yX4_differsFrom ∈ lw_tbl := List.mem_of_getElem? (i := 576) (by decide +kernel)
theorem tIns_X4_differsFrom : Cond.instanceMethod yX4_differsFrom ∈ lw_tbl := List.mem_of_getElem? (i := 577) (by decide +kernel)
theorem tSel_X4_differsFrom : Cond.selects RX4 yX4_differsFrom yX4_differsFrom ∈ lw_tbl := List.mem_of_getElem? (i := 578) (by decide +kernel)
theorem tCod_X4_differsFrom : Cond.code yX4_differsFrom cX4_differsFrom 5 (some .int) ∈ lw_tbl := List.mem_of_getElem? (i := 579) (by decide +kernel)
theorem tMet_X4_93 : Cond.methodLink RX4 93 yX2_isNumber ∈ lw_tbl := List.mem_of_getElem? (i := 580) (by decide +kernel)
theorem tIns_X2_isNumber : Cond.instanceMethod yX2_isNumber ∈ lw_tbl := List.mem_of_getElem? (i := 581) (by decide +kernel)
theorem tSel_X2_isNumber : Cond.selects RX2 yX2_isNumber yX2_isNumber ∈ lw_tbl := List.mem_of_getElem? (i := 582) (by decide +kernel)
theorem tCod_X2_isNumber : Cond.code yX2_isNumber cX2_isNumber 2 (some .boolean) ∈ lw_tbl := List.mem_of_getElem? (i := 583) (by decide +kernel)
theorem tCon_X2_34 : Cond.constant RX2 34 (-1000000005) ∈ lw_tbl := List.mem_of_getElem? (i := 584) (by decide +kernel)
theorem tMet_L_94 : Cond.methodLink RL 94 yX6_fee ∈ lw_tbl := List.mem_of_getElem? (i := 585) (by decide +kernel)
theorem tIns_X6_fee : Cond.instanceMethod yX6_fee ∈ lw_tbl := List.mem_of_getElem? (i := 586) (by decide +kernel)
theorem tSel_X6_fee : Cond.selects RX6 yX6_fee yX6_fee ∈ lw_tbl := List.mem_of_getElem? (i := 587) (by decide +kernel)
theorem tCod_X6_fee : Cond.code yX6_fee cX6_fee 2 (some .int) ∈ lw_tbl := List.mem_of_getElem? (i := 588) (by decide +kernel)
theorem tMet_X6_206 : Cond.methodLink RX6 206 yX5_value ∈ lw_tbl := List.mem_of_getElem? (i := 589) (by decide +kernel)
theorem tMet_L_98 : Cond.methodLink RL 98 yX6_fine ∈ lw_tbl := List.mem_of_getElem? (i := 590) (by decide +kernel)
theorem tIns_X6_fine : Cond.instanceMethod yX6_fine ∈ lw_tbl := List.mem_of_getElem? (i := 591) (by decide +kernel)
theorem tSel_X6_fine : Cond.selects RX6 yX6_fine yX6_fine ∈ lw_tbl := List.mem_of_getElem? (i := 592) (by decide +kernel)
theorem tCod_X6_fine : Cond.code yX6_fine cX6_fine 4 (some .int) ∈ lw_tbl := List.mem_of_getElem? (i := 593) (by decide +kernel)
theorem tMet_L_102 : Cond.methodLink RL 102 yX6_feed ∈ lw_tbl := List.mem_of_getElem? (i := 594) (by decide +kernel)
theorem tIns_X6_feed : Cond.instanceMethod yX6_feed ∈ lw_tbl := List.mem_of_getElem? (i := 595) (by decide +kernel)
theorem tSel_X6_feed : Cond.selects RX6 yX6_feed yX6_feed ∈ lw_tbl := List.mem_of_getElem? (i := 596) (by decide +kernel)
theorem tCod_X6_feed : Cond.code yX6_feed cX6_feed 4 (some .int) ∈ lw_tbl := List.mem_of_getElem? (i := 597) (by decide +kernel)
theorem tMet_X6_219 : Cond.methodLink RX6 219 yX1_addBytesOf ∈ lw_tbl := List.mem_of_getElem? (i := 598) (by decide +kernel)
theorem tIns_X1_addBytesOf : Cond.instanceMethod yX1_addBytesOf ∈ lw_tbl := List.mem_of_getElem? (i := 599) (by decide +kernel)
theorem tSel_X1_addBytesOf : Cond.selects RX1 yX1_addBytesOf yX1_addBytesOf ∈ lw_tbl := List.mem_of_getElem? (i := 600) (by decide +kernel)
theorem tCod_X1_addBytesOf : Cond.code yX1_addBytesOf cX1_addBytesOf 3 none ∈ lw_tbl := List.mem_of_getElem? (i := 601) (by decide +kernel)
theorem tMet_L_106 : Cond.methodLink RL 106 yX6_trim ∈ lw_tbl := List.mem_of_getElem? (i := 602) (by decide +kernel)
theorem tIns_X6_trim : Cond.instanceMethod yX6_trim ∈ lw_tbl := List.mem_of_getElem? (i := 603) (by decide +kernel)
theorem tSel_X6_trim : Cond.selects RX6 yX6_trim yX6_trim ∈ lw_tbl := List.mem_of_getElem? (i := 604) (by decide +kernel)
theorem tCod_X6_trim : Cond.code yX6_trim cX6_trim 2 (some .int) ∈ lw_tbl := List.mem_of_getElem? (i := 605) (by decide +kernel)
theorem tMet_L_110 : Cond.methodLink RL 110 yX6_text ∈ lw_tbl := List.mem_of_getElem? (i := 606) (by decide +kernel)
theorem tIns_X6_text : Cond.instanceMethod yX6_text ∈ lw_tbl := List.mem_of_getElem? (i := 607) (by decide +kernel)
theorem tSel_X6_text : Cond.selects RX6 yX6_text yX6_text ∈ lw_tbl := List.mem_of_getElem? (i := 608) (by decide +kernel)
theorem tCod_X6_text : Cond.code yX6_text cX6_text 2 (some .int) ∈ lw_tbl := List.mem_of_getElem? (i := 609) (by decide +kernel)
theorem tMet_X6_222 : Cond.methodLink RX6 222 yX1_isText ∈ lw_tbl := List.mem_of_getElem? (i := 610) (by decide +kernel)
theorem tIns_X1_isText : Cond.instanceMethod yX1_isText ∈ lw_tbl := List.mem_of_getElem? (i := 611) (by decide +kernel)
theorem tSel_X1_isText : Cond.selects RX1 yX1_isText yX1_isText ∈ lw_tbl := List.mem_of_getElem? (i := 612) (by decide +kernel)
theorem tCod_X1_isText : Cond.code yX1_isText cX1_isText 1 (some .boolean) ∈ lw_tbl := List.mem_of_getElem? (i := 613) (by decide +kernel)
theorem tMet_X1_40 : Cond.methodLink RX1 40 yX1_goNext ∈ lw_tbl := List.mem_of_getElem? (i := 614) (by decide +kernel)
theorem tIns_X1_goNext : Cond.instanceMethod yX1_goNext ∈ lw_tbl := List.mem_of_getElem? (i := 616) (by decide +kernel)
theorem tCod_X1_goNext : Cond.code yX1_goNext cX1_goNext 3 none ∈ lw_tbl := List.mem_of_getElem? (i := 617) (by decide +kernel)
theorem tMet_X1_62 : Cond.methodLink RX1 62 yX1_sortOf ∈ lw_tbl := List.mem_of_getElem? (i := 618) (by decide +kernel)
theorem tSta_X1_sortOf : Cond.static yX1_sortOf ∈ lw_tbl := List.mem_of_getElem? (i := 619) (by decide +kernel)
theorem tCod_X1_sortOf : Cond.code yX1_sortOf cX1_sortOf 1 (some .int) ∈ lw_tbl := List.mem_of_getElem? (i := 620) (by decide +kernel)
theorem tMet_X1_43 : Cond.methodLink RX1 43 yX1_keyHere ∈ lw_tbl := List.mem_of_getElem? (i := 621) (by decide +kernel)
theorem tIns_X1_keyHere : Cond.instanceMethod yX1_keyHere ∈ lw_tbl := List.mem_of_getElem? (i := 623) (by decide +kernel)
theorem tCod_X1_keyHere : Cond.code yX1_keyHere cX1_keyHere 2 (some .int) ∈ lw_tbl := List.mem_of_getElem? (i := 624) (by decide +kernel)
theorem tMet_X1_72 : Cond.methodLink RX1 72 yX1_isWord ∈ lw_tbl := List.mem_of_getElem? (i := 628) (by decide +kernel)
theorem tIns_X1_isWord : Cond.instanceMethod yX1_isWord ∈ lw_tbl := List.mem_of_getElem? (i := 630) (by decide +kernel)
theorem tCod_X1_isWord : Cond.code yX1_isWord cX1_isWord 3 (some .boolean) ∈ lw_tbl := List.mem_of_getElem? (i := 631) (by decide +kernel)
theorem tMet_X1_76 : Cond.methodLink RX1 76 yJ0_length_8abf5 ∈ lw_tbl := List.mem_of_getElem? (i := 632) (by decide +kernel)
theorem tIns_J0_length_8abf5 : Cond.instanceMethod yJ0_length_8abf5 ∈ lw_tbl := List.mem_of_getElem? (i := 633) (by decide +kernel)
theorem tSel_J0_length_8abf5 : Cond.selects RJ0 yJ0_length_8abf5 yJ0_length_8abf5 ∈ lw_tbl := List.mem_of_getElem? (i := 634) (by decide +kernel)
theorem tCod_J0_length_8abf5 : Cond.code yJ0_length_8abf5 cJ0_length_8abf5 1 (some .int) ∈ lw_tbl := List.mem_of_getElem? (i := 635) (by decide +kernel)
theorem tMet_J0_335 : Cond.methodLink RJ0 335 yJ0_coder_7d493 ∈ lw_tbl := List.mem_of_getElem? (i := 636) (by decide +kernel)
theorem tIns_J0_coder_7d493 : Cond.instanceMethod yJ0_coder_7d493 ∈ lw_tbl := List.mem_of_getElem? (i := 637) (by decide +kernel)
theorem tSel_J0_coder_7d493 : Cond.selects RJ0 yJ0_coder_7d493 yJ0_coder_7d493 ∈ lw_tbl := List.mem_of_getElem? (i := 638) (by decide +kernel)
theorem tCod_J0_coder_7d493 : Cond.code yJ0_coder_7d493 cJ0_coder_7d493 1 (some .byte) ∈ lw_tbl := List.mem_of_getElem? (i := 639) (by decide +kernel)
theorem tFld_J0_38 : Cond.fieldLink RJ0 38 "java/lang/String" "COMPACT_STRINGS" "Z" ∈ lw_tbl := List.mem_of_getElem? (i := 640) (by decide +kernel)
theorem tMet_X1_81 : Cond.methodLink RX1 81 yJ0_charAt_5068e ∈ lw_tbl := List.mem_of_getElem? (i := 642) (by decide +kernel)
theorem tIns_J0_charAt_5068e : Cond.instanceMethod yJ0_charAt_5068e ∈ lw_tbl := List.mem_of_getElem? (i := 643) (by decide +kernel)
theorem tSel_J0_charAt_5068e : Cond.selects RJ0 yJ0_charAt_5068e yJ0_charAt_5068e ∈ lw_tbl := List.mem_of_getElem? (i := 644) (by decide +kernel)
theorem tCod_J0_charAt_5068e : Cond.code yJ0_charAt_5068e cJ0_charAt_5068e 2 (some .char) ∈ lw_tbl := List.mem_of_getElem? (i := 645) (by decide +kernel)
theorem tMet_J0_492 : Cond.methodLink RJ0 492 yJ0_isLatin1_aae02 ∈ lw_tbl := List.mem_of_getElem? (i := 646) (by decide +kernel)
theorem tIns_J0_isLatin1_aae02 : Cond.instanceMethod yJ0_isLatin1_aae02 ∈ lw_tbl := List.mem_of_getElem? (i := 647) (by decide +kernel)
theorem tSel_J0_isLatin1_aae02 : Cond.selects RJ0 yJ0_isLatin1_aae02 yJ0_isLatin1_aae02 ∈ lw_tbl := List.mem_of_getElem? (i := 648) (by decide +kernel)
theorem tCod_J0_isLatin1_aae02 : Cond.code yJ0_isLatin1_aae02 cJ0_isLatin1_aae02 1 (some .boolean) ∈ lw_tbl := List.mem_of_getElem? (i := 649) (by decide +kernel)
theorem tMet_J0_495 : Cond.methodLink RJ0 495 yJ1_charAt_3b067 ∈ lw_tbl := List.mem_of_getElem? (i := 650) (by decide +kernel)
theorem tSta_J1_charAt_3b067 : Cond.static yJ1_charAt_3b067 ∈ lw_tbl := List.mem_of_getElem? (i := 651) (by decide +kernel)
theorem tCod_J1_charAt_3b067 : Cond.code yJ1_charAt_3b067 cJ1_charAt_3b067 2 (some .char) ∈ lw_tbl := List.mem_of_getElem? (i := 652) (by decide +kernel)
theorem tMet_J1_9 : Cond.methodLink RJ1 9 yJ0_checkIndex_df160 ∈ lw_tbl := List.mem_of_getElem? (i := 653) (by decide +kernel)
theorem tSta_J0_checkIndex_df160 : Cond.static yJ0_checkIndex_df160 ∈ lw_tbl := List.mem_of_getElem? (i := 654) (by decide +kernel)
theorem tCod_J0_checkIndex_df160 : Cond.code yJ0_checkIndex_df160 cJ0_checkIndex_df160 2 none ∈ lw_tbl := List.mem_of_getElem? (i := 655) (by decide +kernel)
theorem tFld_J0_1053 : Cond.fieldLink RJ0 1053 "jdk/internal/util/Preconditions" "SIOOBE_FORMATTER" "Ljava/util/function/BiFunction;" ∈ lw_tbl := List.mem_of_getElem? (i := 656) (by decide +kernel)
theorem tMet_J0_1059 : Cond.methodLink RJ0 1059 yJ3_checkIndex_8e157 ∈ lw_tbl := List.mem_of_getElem? (i := 658) (by decide +kernel)
theorem tSta_J3_checkIndex_8e157 : Cond.static yJ3_checkIndex_8e157 ∈ lw_tbl := List.mem_of_getElem? (i := 659) (by decide +kernel)
theorem tCod_J3_checkIndex_8e157 : Cond.code yJ3_checkIndex_8e157 cJ3_checkIndex_8e157 3 (some .int) ∈ lw_tbl := List.mem_of_getElem? (i := 660) (by decide +kernel)
theorem tMet_J0_498 : Cond.methodLink RJ0 498 yJ2_charAt_3b067 ∈ lw_tbl := List.mem_of_getElem? (i := 661) (by decide +kernel)
theorem tSta_J2_charAt_3b067 : Cond.static yJ2_charAt_3b067 ∈ lw_tbl := List.mem_of_getElem? (i := 662) (by decide +kernel)
theorem tCod_J2_charAt_3b067 : Cond.code yJ2_charAt_3b067 cJ2_charAt_3b067 2 (some .char) ∈ lw_tbl := List.mem_of_getElem? (i := 663) (by decide +kernel)
theorem tMet_J2_67 : Cond.methodLink RJ2 67 yJ2_checkIndex_2214a ∈ lw_tbl := List.mem_of_getElem? (i := 664) (by decide +kernel)
theorem tSta_J2_checkIndex_2214a : Cond.static yJ2_checkIndex_2214a ∈ lw_tbl := List.mem_of_getElem? (i := 665) (by decide +kernel)
theorem tCod_J2_checkIndex_2214a : Cond.code yJ2_checkIndex_2214a cJ2_checkIndex_2214a 2 none ∈ lw_tbl := List.mem_of_getElem? (i := 666) (by decide +kernel)
theorem tMet_J2_48 : Cond.methodLink RJ2 48 yJ2_length_9d52b ∈ lw_tbl := List.mem_of_getElem? (i := 667) (by decide +kernel)
theorem tSta_J2_length_9d52b : Cond.static yJ2_length_9d52b ∈ lw_tbl := List.mem_of_getElem? (i := 668) (by decide +kernel)
theorem tCod_J2_length_9d52b : Cond.code yJ2_length_9d52b cJ2_length_9d52b 1 (some .int) ∈ lw_tbl := List.mem_of_getElem? (i := 669) (by decide +kernel)
theorem tMet_J2_414 : Cond.methodLink RJ2 414 yJ0_checkIndex_df160 ∈ lw_tbl := List.mem_of_getElem? (i := 670) (by decide +kernel)
theorem tMet_J2_71 : Cond.methodLink RJ2 71 yJ2_getChar_3b067 ∈ lw_tbl := List.mem_of_getElem? (i := 671) (by decide +kernel)
theorem tSta_J2_getChar_3b067 : Cond.static yJ2_getChar_3b067 ∈ lw_tbl := List.mem_of_getElem? (i := 672) (by decide +kernel)
theorem tCod_J2_getChar_3b067 : Cond.code yJ2_getChar_3b067 cJ2_getChar_3b067 2 (some .char) ∈ lw_tbl := List.mem_of_getElem? (i := 673) (by decide +kernel)
theorem tFld_J2_44 : Cond.fieldLink RJ2 44 "java/lang/StringUTF16" "$assertionsDisabled" "Z" ∈ lw_tbl := List.mem_of_getElem? (i := 674) (by decide +kernel)
theorem tFld_J2_59 : Cond.fieldLink RJ2 59 "java/lang/StringUTF16" "HI_BYTE_SHIFT" "I" ∈ lw_tbl := List.mem_of_getElem? (i := 676) (by decide +kernel)
theorem tFld_J2_63 : Cond.fieldLink RJ2 63 "java/lang/StringUTF16" "LO_BYTE_SHIFT" "I" ∈ lw_tbl := List.mem_of_getElem? (i := 678) (by decide +kernel)
theorem tMet_X1_47 : Cond.methodLink RX1 47 yX1_isOr ∈ lw_tbl := List.mem_of_getElem? (i := 680) (by decide +kernel)
theorem tIns_X1_isOr : Cond.instanceMethod yX1_isOr ∈ lw_tbl := List.mem_of_getElem? (i := 682) (by decide +kernel)
theorem tCod_X1_isOr : Cond.code yX1_isOr cX1_isOr 5 (some .boolean) ∈ lw_tbl := List.mem_of_getElem? (i := 683) (by decide +kernel)
theorem tMet_X1_89 : Cond.methodLink RX1 89 yX1_isAnd ∈ lw_tbl := List.mem_of_getElem? (i := 684) (by decide +kernel)
theorem tIns_X1_isAnd : Cond.instanceMethod yX1_isAnd ∈ lw_tbl := List.mem_of_getElem? (i := 686) (by decide +kernel)
theorem tCod_X1_isAnd : Cond.code yX1_isAnd cX1_isAnd 5 (some .boolean) ∈ lw_tbl := List.mem_of_getElem? (i := 687) (by decide +kernel)
theorem tMet_X1_100 : Cond.methodLink RX1 100 yX1_isTest ∈ lw_tbl := List.mem_of_getElem? (i := 688) (by decide +kernel)
theorem tIns_X1_isTest : Cond.instanceMethod yX1_isTest ∈ lw_tbl := List.mem_of_getElem? (i := 690) (by decide +kernel)
theorem tCod_X1_isTest : Cond.code yX1_isTest cX1_isTest 5 (some .boolean) ∈ lw_tbl := List.mem_of_getElem? (i := 691) (by decide +kernel)
theorem tMet_X1_103 : Cond.methodLink RX1 103 yX1_isSum ∈ lw_tbl := List.mem_of_getElem? (i := 692) (by decide +kernel)
theorem tIns_X1_isSum : Cond.instanceMethod yX1_isSum ∈ lw_tbl := List.mem_of_getElem? (i := 694) (by decide +kernel)
theorem tCod_X1_isSum : Cond.code yX1_isSum cX1_isSum 6 (some .boolean) ∈ lw_tbl := List.mem_of_getElem? (i := 695) (by decide +kernel)
theorem tMet_X1_106 : Cond.methodLink RX1 106 yX1_isTerm ∈ lw_tbl := List.mem_of_getElem? (i := 696) (by decide +kernel)
theorem tIns_X1_isTerm : Cond.instanceMethod yX1_isTerm ∈ lw_tbl := List.mem_of_getElem? (i := 698) (by decide +kernel)
theorem tCod_X1_isTerm : Cond.code yX1_isTerm cX1_isTerm 6 (some .boolean) ∈ lw_tbl := List.mem_of_getElem? (i := 699) (by decide +kernel)
theorem tMet_X1_109 : Cond.methodLink RX1 109 yX1_isPiece ∈ lw_tbl := List.mem_of_getElem? (i := 700) (by decide +kernel)
theorem tIns_X1_isPiece : Cond.instanceMethod yX1_isPiece ∈ lw_tbl := List.mem_of_getElem? (i := 702) (by decide +kernel)
theorem tCod_X1_isPiece : Cond.code yX1_isPiece cX1_isPiece 4 (some .boolean) ∈ lw_tbl := List.mem_of_getElem? (i := 703) (by decide +kernel)
theorem tMet_X1_112 : Cond.methodLink RX1 112 yX1_isNumber ∈ lw_tbl := List.mem_of_getElem? (i := 704) (by decide +kernel)
theorem tIns_X1_isNumber : Cond.instanceMethod yX1_isNumber ∈ lw_tbl := List.mem_of_getElem? (i := 706) (by decide +kernel)
theorem tCod_X1_isNumber : Cond.code yX1_isNumber cX1_isNumber 3 (some .boolean) ∈ lw_tbl := List.mem_of_getElem? (i := 707) (by decide +kernel)
theorem tMet_X1_119 : Cond.methodLink RX1 119 yX1_takePiece ∈ lw_tbl := List.mem_of_getElem? (i := 708) (by decide +kernel)
theorem tIns_X1_takePiece : Cond.instanceMethod yX1_takePiece ∈ lw_tbl := List.mem_of_getElem? (i := 710) (by decide +kernel)
theorem tCod_X1_takePiece : Cond.code yX1_takePiece cX1_takePiece 2 (some .boolean) ∈ lw_tbl := List.mem_of_getElem? (i := 711) (by decide +kernel)
theorem tMet_X1_96 : Cond.methodLink RX1 96 yX1_write ∈ lw_tbl := List.mem_of_getElem? (i := 712) (by decide +kernel)
theorem tIns_X1_write : Cond.instanceMethod yX1_write ∈ lw_tbl := List.mem_of_getElem? (i := 714) (by decide +kernel)
theorem tCod_X1_write : Cond.code yX1_write cX1_write 2 none ∈ lw_tbl := List.mem_of_getElem? (i := 715) (by decide +kernel)
theorem tMet_X1_116 : Cond.methodLink RX1 116 yX1_isName ∈ lw_tbl := List.mem_of_getElem? (i := 716) (by decide +kernel)
theorem tIns_X1_isName : Cond.instanceMethod yX1_isName ∈ lw_tbl := List.mem_of_getElem? (i := 718) (by decide +kernel)
theorem tCod_X1_isName : Cond.code yX1_isName cX1_isName 3 (some .boolean) ∈ lw_tbl := List.mem_of_getElem? (i := 719) (by decide +kernel)
theorem tMet_X1_129 : Cond.methodLink RX1 129 yJ0_indexOf_0f7a4 ∈ lw_tbl := List.mem_of_getElem? (i := 723) (by decide +kernel)
theorem tIns_J0_indexOf_0f7a4 : Cond.instanceMethod yJ0_indexOf_0f7a4 ∈ lw_tbl := List.mem_of_getElem? (i := 724) (by decide +kernel)
theorem tSel_J0_indexOf_0f7a4 : Cond.selects RJ0 yJ0_indexOf_0f7a4 yJ0_indexOf_0f7a4 ∈ lw_tbl := List.mem_of_getElem? (i := 725) (by decide +kernel)
theorem tCod_J0_indexOf_0f7a4 : Cond.code yJ0_indexOf_0f7a4 cJ0_indexOf_0f7a4 2 (some .int) ∈ lw_tbl := List.mem_of_getElem? (i := 726) (by decide +kernel)
theorem tMet_J0_633 : Cond.methodLink RJ0 633 yJ0_indexOf_7cf53 ∈ lw_tbl := List.mem_of_getElem? (i := 727) (by decide +kernel)
theorem tIns_J0_indexOf_7cf53 : Cond.instanceMethod yJ0_indexOf_7cf53 ∈ lw_tbl := List.mem_of_getElem? (i := 728) (by decide +kernel)
theorem tSel_J0_indexOf_7cf53 : Cond.selects RJ0 yJ0_indexOf_7cf53 yJ0_indexOf_7cf53 ∈ lw_tbl := List.mem_of_getElem? (i := 729) (by decide +kernel)
theorem tCod_J0_indexOf_7cf53 : Cond.code yJ0_indexOf_7cf53 cJ0_indexOf_7cf53 3 (some .int) ∈ lw_tbl := List.mem_of_getElem? (i := 730) (by decide +kernel)
theorem tMet_J0_505 : Cond.methodLink RJ0 505 yJ0_length_8abf5 ∈ lw_tbl := List.mem_of_getElem? (i := 731) (by decide +kernel)
theorem tMet_J0_637 : Cond.methodLink RJ0 637 yJ1_indexOf_4cfef ∈ lw_tbl := List.mem_of_getElem? (i := 732) (by decide +kernel)
theorem tSta_J1_indexOf_4cfef : Cond.static yJ1_indexOf_4cfef ∈ lw_tbl := List.mem_of_getElem? (i := 733) (by decide +kernel)
theorem tCod_J1_indexOf_4cfef : Cond.code yJ1_indexOf_4cfef cJ1_indexOf_4cfef 4 (some .int) ∈ lw_tbl := List.mem_of_getElem? (i := 734) (by decide +kernel)
theorem tMet_J1_88 : Cond.methodLink RJ1 88 yJ1_canEncode_9a6ad ∈ lw_tbl := List.mem_of_getElem? (i := 735) (by decide +kernel)
theorem tSta_J1_canEncode_9a6ad : Cond.static yJ1_canEncode_9a6ad ∈ lw_tbl := List.mem_of_getElem? (i := 736) (by decide +kernel)
theorem tCod_J1_canEncode_9a6ad : Cond.code yJ1_canEncode_9a6ad cJ1_canEncode_9a6ad 1 (some .boolean) ∈ lw_tbl := List.mem_of_getElem? (i := 737) (by decide +kernel)
theorem tMet_J1_92 : Cond.methodLink RJ1 92 yJ9_max_7cf53 ∈ lw_tbl := List.mem_of_getElem? (i := 738) (by decide +kernel)
theorem tMet_J1_38 : Cond.methodLink RJ1 38 yJ9_min_7cf53 ∈ lw_tbl := List.mem_of_getElem? (i := 739) (by decide +kernel)
theorem tMet_J1_95 : Cond.methodLink RJ1 95 yJ1_indexOfChar_4cfef ∈ lw_tbl := List.mem_of_getElem? (i := 740) (by decide +kernel)
theorem tSta_J1_indexOfChar_4cfef : Cond.static yJ1_indexOfChar_4cfef ∈ lw_tbl := List.mem_of_getElem? (i := 741) (by decide +kernel)
theorem tCod_J1_indexOfChar_4cfef : Cond.code yJ1_indexOfChar_4cfef cJ1_indexOfChar_4cfef 6 (some .int) ∈ lw_tbl := List.mem_of_getElem? (i := 742) (by decide +kernel)
theorem tMet_J0_640 : Cond.methodLink RJ0 640 yJ2_indexOf_4cfef ∈ lw_tbl := List.mem_of_getElem? (i := 743) (by decide +kernel)
theorem tSta_J2_indexOf_4cfef : Cond.static yJ2_indexOf_4cfef ∈ lw_tbl := List.mem_of_getElem? (i := 744) (by decide +kernel)
theorem tCod_J2_indexOf_4cfef : Cond.code yJ2_indexOf_4cfef cJ2_indexOf_4cfef 4 (some .int) ∈ lw_tbl := List.mem_of_getElem? (i := 745) (by decide +kernel)
theorem tMet_J2_224 : Cond.methodLink RJ2 224 yJ9_max_7cf53 ∈ lw_tbl := List.mem_of_getElem? (i := 746) (by decide +kernel)
theorem tMet_J2_183 : Cond.methodLink RJ2 183 yJ9_min_7cf53 ∈ lw_tbl := List.mem_of_getElem? (i := 747) (by decide +kernel)
theorem tCon_J2_227 : Cond.constant RJ2 227 (65536) ∈ lw_tbl := List.mem_of_getElem? (i := 748) (by decide +kernel)
theorem tMet_J2_228 : Cond.methodLink RJ2 228 yJ2_indexOfChar_4cfef ∈ lw_tbl := List.mem_of_getElem? (i := 749) (by decide +kernel)
theorem tSta_J2_indexOfChar_4cfef : Cond.static yJ2_indexOfChar_4cfef ∈ lw_tbl := List.mem_of_getElem? (i := 750) (by decide +kernel)
theorem tCod_J2_indexOfChar_4cfef : Cond.code yJ2_indexOfChar_4cfef cJ2_indexOfChar_4cfef 4 (some .int) ∈ lw_tbl := List.mem_of_getElem? (i := 751) (by decide +kernel)
theorem tMet_J2_96 : Cond.methodLink RJ2 96 yJ2_checkBoundsBeginEnd_d044e ∈ lw_tbl := List.mem_of_getElem? (i := 752) (by decide +kernel)
theorem tSta_J2_checkBoundsBeginEnd_d044e : Cond.static yJ2_checkBoundsBeginEnd_d044e ∈ lw_tbl := List.mem_of_getElem? (i := 753) (by decide +kernel)
theorem tCod_J2_checkBoundsBeginEnd_d044e : Cond.code yJ2_checkBoundsBeginEnd_d044e cJ2_checkBoundsBeginEnd_d044e 3 none ∈ lw_tbl := List.mem_of_getElem? (i := 754) (by decide +kernel)
theorem tMet_J2_241 : Cond.methodLink RJ2 241 yJ0_checkBoundsBeginEnd_23922 ∈ lw_tbl := List.mem_of_getElem? (i := 755) (by decide +kernel)
theorem tSta_J0_checkBoundsBeginEnd_23922 : Cond.static yJ0_checkBoundsBeginEnd_23922 ∈ lw_tbl := List.mem_of_getElem? (i := 756) (by decide +kernel)
theorem tCod_J0_checkBoundsBeginEnd_23922 : Cond.code yJ0_checkBoundsBeginEnd_23922 cJ0_checkBoundsBeginEnd_23922 3 none ∈ lw_tbl := List.mem_of_getElem? (i := 757) (by decide +kernel)
theorem tMet_J0_1062 : Cond.methodLink RJ0 1062 yJ3_checkFromToIndex_8c36e ∈ lw_tbl := List.mem_of_getElem? (i := 758) (by decide +kernel)
theorem tSta_J3_checkFromToIndex_8c36e : Cond.static yJ3_checkFromToIndex_8c36e ∈ lw_tbl := List.mem_of_getElem? (i := 759) (by decide +kernel)
theorem tCod_J3_checkFromToIndex_8c36e : Cond.code yJ3_checkFromToIndex_8c36e cJ3_checkFromToIndex_8c36e 4 (some .int) ∈ lw_tbl := List.mem_of_getElem? (i := 760) (by decide +kernel)
theorem tMet_J2_244 : Cond.methodLink RJ2 244 yJ2_indexOfCharUnsafe_4cfef ∈ lw_tbl := List.mem_of_getElem? (i := 761) (by decide +kernel)
theorem tSta_J2_indexOfCharUnsafe_4cfef : Cond.static yJ2_indexOfCharUnsafe_4cfef ∈ lw_tbl := List.mem_of_getElem? (i := 762) (by decide +kernel)
theorem tCod_J2_indexOfCharUnsafe_4cfef : Cond.code yJ2_indexOfCharUnsafe_4cfef cJ2_indexOfCharUnsafe_4cfef 5 (some .int) ∈ lw_tbl := List.mem_of_getElem? (i := 763) (by decide +kernel)
theorem tMet_J2_232 : Cond.methodLink RJ2 232 yJ2_indexOfSupplementary_4cfef ∈ lw_tbl := List.mem_of_getElem? (i := 764) (by decide +kernel)
theorem tSta_J2_indexOfSupplementary_4cfef : Cond.static yJ2_indexOfSupplementary_4cfef ∈ lw_tbl := List.mem_of_getElem? (i := 765) (by decide +kernel)
theorem tCod_J2_indexOfSupplementary_4cfef : Cond.code yJ2_indexOfSupplementary_4cfef cJ2_indexOfSupplementary_4cfef 7 (some .int) ∈ lw_tbl := List.mem_of_getElem? (i := 766) (by decide +kernel)
theorem tMet_J2_164 : Cond.methodLink RJ2 164 yJ11_isValidCodePoint_9a6ad ∈ lw_tbl := List.mem_of_getElem? (i := 767) (by decide +kernel)
theorem tSta_J11_isValidCodePoint_9a6ad : Cond.static yJ11_isValidCodePoint_9a6ad ∈ lw_tbl := List.mem_of_getElem? (i := 768) (by decide +kernel)
theorem tCod_J11_isValidCodePoint_9a6ad : Cond.code yJ11_isValidCodePoint_9a6ad cJ11_isValidCodePoint_9a6ad 2 (some .boolean) ∈ lw_tbl := List.mem_of_getElem? (i := 769) (by decide +kernel)
theorem tMet_J2_157 : Cond.methodLink RJ2 157 yJ11_highSurrogate_5068e ∈ lw_tbl := List.mem_of_getElem? (i := 770) (by decide +kernel)
theorem tSta_J11_highSurrogate_5068e : Cond.static yJ11_highSurrogate_5068e ∈ lw_tbl := List.mem_of_getElem? (i := 771) (by decide +kernel)
theorem tCod_J11_highSurrogate_5068e : Cond.code yJ11_highSurrogate_5068e cJ11_highSurrogate_5068e 1 (some .char) ∈ lw_tbl := List.mem_of_getElem? (i := 772) (by decide +kernel)
theorem tCon_J11_110 : Cond.constant RJ11 110 (55232) ∈ lw_tbl := List.mem_of_getElem? (i := 773) (by decide +kernel)
theorem tMet_J2_161 : Cond.methodLink RJ2 161 yJ11_lowSurrogate_5068e ∈ lw_tbl := List.mem_of_getElem? (i := 774) (by decide +kernel)
theorem tSta_J11_lowSurrogate_5068e : Cond.static yJ11_lowSurrogate_5068e ∈ lw_tbl := List.mem_of_getElem? (i := 775) (by decide +kernel)
theorem tCod_J11_lowSurrogate_5068e : Cond.code yJ11_lowSurrogate_5068e cJ11_lowSurrogate_5068e 1 (some .char) ∈ lw_tbl := List.mem_of_getElem? (i := 776) (by decide +kernel)
theorem tCon_J11_76 : Cond.constant RJ11 76 (56320) ∈ lw_tbl := List.mem_of_getElem? (i := 777) (by decide +kernel)
theorem tMet_X1_85 : Cond.methodLink RX1 85 yX1_isAt ∈ lw_tbl := List.mem_of_getElem? (i := 778) (by decide +kernel)
theorem tIns_X1_isAt : Cond.instanceMethod yX1_isAt ∈ lw_tbl := List.mem_of_getElem? (i := 780) (by decide +kernel)
theorem tCod_X1_isAt : Cond.code yX1_isAt cX1_isAt 2 (some .boolean) ∈ lw_tbl := List.mem_of_getElem? (i := 781) (by decide +kernel)
theorem tMet_X1_92 : Cond.methodLink RX1 92 yX1_passed ∈ lw_tbl := List.mem_of_getElem? (i := 782) (by decide +kernel)
theorem tIns_X1_passed : Cond.instanceMethod yX1_passed ∈ lw_tbl := List.mem_of_getElem? (i := 784) (by decide +kernel)
theorem tCod_X1_passed : Cond.code yX1_passed cX1_passed 4 (some .int) ∈ lw_tbl := List.mem_of_getElem? (i := 785) (by decide +kernel)
theorem tMet_X6_232 : Cond.methodLink RX6 232 yX1_madeText ∈ lw_tbl := List.mem_of_getElem? (i := 786) (by decide +kernel)
theorem tIns_X1_madeText : Cond.instanceMethod yX1_madeText ∈ lw_tbl := List.mem_of_getElem? (i := 787) (by decide +kernel)
theorem tSel_X1_madeText : Cond.selects RX1 yX1_madeText yX1_madeText ∈ lw_tbl := List.mem_of_getElem? (i := 788) (by decide +kernel)
theorem tCod_X1_madeText : Cond.code yX1_madeText cX1_madeText 2 (some (.object "LeaningStreet$Text")) ∈ lw_tbl := List.mem_of_getElem? (i := 789) (by decide +kernel)
theorem tCls_X1_51 : Cond.classLink RX1 51 RX5 ∈ lw_tbl := List.mem_of_getElem? (i := 790) (by decide +kernel)
theorem tIst_X5 : Cond.instantiable RX5 5 ∈ lw_tbl := List.mem_of_getElem? (i := 791) (by decide +kernel)
theorem tMet_X1_53 : Cond.methodLink RX1 53 yJ7_copyOf_59c91 ∈ lw_tbl := List.mem_of_getElem? (i := 792) (by decide +kernel)
theorem tSta_J7_copyOf_59c91 : Cond.static yJ7_copyOf_59c91 ∈ lw_tbl := List.mem_of_getElem? (i := 793) (by decide +kernel)
theorem tCod_J7_copyOf_59c91 : Cond.code yJ7_copyOf_59c91 cJ7_copyOf_59c91 3 (some (.array .int)) ∈ lw_tbl := List.mem_of_getElem? (i := 794) (by decide +kernel)
theorem tMet_J7_316 : Cond.methodLink RJ7 316 ⟨"[I", "clone", "()Ljava/lang/Object;"⟩ ∈ lw_tbl := List.mem_of_getElem? (i := 795) (by decide +kernel)
theorem tIns_java_lang_Object_clone___Ljava_lang_Object_ : Cond.instanceMethod ⟨"java/lang/Object", "clone", "()Ljava/lang/Object;"⟩ ∈ lw_tbl := List.mem_of_getElem? (i := 798) (by decide +kernel)
theorem tCls_J7_317 : Cond.classLink RJ7 317 "[I" ∈ lw_tbl := List.mem_of_getElem? (i := 801) (by decide +kernel)
theorem tMet_J7_304 : Cond.methodLink RJ7 304 yJ9_min_7cf53 ∈ lw_tbl := List.mem_of_getElem? (i := 802) (by decide +kernel)
theorem tMet_J7_150 : Cond.methodLink RJ7 150 ⟨"java/lang/System", "arraycopy", "(Ljava/lang/Object;ILjava/lang/Object;II)V"⟩ ∈ lw_tbl := List.mem_of_getElem? (i := 803) (by decide +kernel)
theorem tSta_java_lang_System_arraycopy__Ljava_lang_Object_ILjava_lang_Object_II_V : Cond.static ⟨"java/lang/System", "arraycopy", "(Ljava/lang/Object;ILjava/lang/Object;II)V"⟩ ∈ lw_tbl := List.mem_of_getElem? (i := 804) (by decide +kernel)
theorem tMet_X1_59 : Cond.methodLink RX1 59 yX5_init ∈ lw_tbl := List.mem_of_getElem? (i := 806) (by decide +kernel)
theorem tIns_X5_init : Cond.instanceMethod yX5_init ∈ lw_tbl := List.mem_of_getElem? (i := 807) (by decide +kernel)
theorem tCod_X5_init : Cond.code yX5_init cX5_init 5 none ∈ lw_tbl := List.mem_of_getElem? (i := 808) (by decide +kernel)
theorem tMet_X5_3 : Cond.methodLink RX5 3 objectInit ∈ lw_tbl := List.mem_of_getElem? (i := 809) (by decide +kernel)
theorem tMet_X5_25 : Cond.methodLink RX5 25 yJ9_max_7cf53 ∈ lw_tbl := List.mem_of_getElem? (i := 810) (by decide +kernel)
theorem tFld_X5_9 : Cond.fieldLink RX5 9 "LeaningStreet$Text" "number" "I" ∈ lw_tbl := List.mem_of_getElem? (i := 811) (by decide +kernel)
theorem tFld_X6_249 : Cond.fieldLink RX6 249 "LeaningStreet$Text" "number" "I" ∈ lw_tbl := List.mem_of_getElem? (i := 812) (by decide +kernel)
theorem tFld_X5_15 : Cond.fieldLink RX5 15 "LeaningStreet$Text" "key" "I" ∈ lw_tbl := List.mem_of_getElem? (i := 813) (by decide +kernel)
theorem tFld_X4_87 : Cond.fieldLink RX4 87 "LeaningStreet$Text" "key" "I" ∈ lw_tbl := List.mem_of_getElem? (i := 814) (by decide +kernel)
theorem tFld_X6_243 : Cond.fieldLink RX6 243 "LeaningStreet$Text" "key" "I" ∈ lw_tbl := List.mem_of_getElem? (i := 815) (by decide +kernel)
theorem tFld_X5_18 : Cond.fieldLink RX5 18 "LeaningStreet$Text" "pieces" "I" ∈ lw_tbl := List.mem_of_getElem? (i := 816) (by decide +kernel)
theorem tFld_X6_246 : Cond.fieldLink RX6 246 "LeaningStreet$Text" "pieces" "I" ∈ lw_tbl := List.mem_of_getElem? (i := 817) (by decide +kernel)
theorem tFld_X5_21 : Cond.fieldLink RX5 21 "LeaningStreet$Text" "code" "[I" ∈ lw_tbl := List.mem_of_getElem? (i := 818) (by decide +kernel)
theorem tFld_X5_31 : Cond.fieldLink RX5 31 "LeaningStreet$Text" "stack" "[I" ∈ lw_tbl := List.mem_of_getElem? (i := 819) (by decide +kernel)
theorem tMet_X6_236 : Cond.methodLink RX6 236 yX4_addText ∈ lw_tbl := List.mem_of_getElem? (i := 832) (by decide +kernel)
theorem tIns_X4_addText : Cond.instanceMethod yX4_addText ∈ lw_tbl := List.mem_of_getElem? (i := 833) (by decide +kernel)
theorem tSel_X4_addText : Cond.selects RX4 yX4_addText yX4_addText ∈ lw_tbl := List.mem_of_getElem? (i := 834) (by decide +kernel)
theorem tCod_X4_addText : Cond.code yX4_addText cX4_addText 2 none ∈ lw_tbl := List.mem_of_getElem? (i := 835) (by decide +kernel)
theorem tMet_L_114 : Cond.methodLink RL 114 yX6_textTold ∈ lw_tbl := List.mem_of_getElem? (i := 836) (by decide +kernel)
theorem tIns_X6_textTold : Cond.instanceMethod yX6_textTold ∈ lw_tbl := List.mem_of_getElem? (i := 837) (by decide +kernel)
theorem tSel_X6_textTold : Cond.selects RX6 yX6_textTold yX6_textTold ∈ lw_tbl := List.mem_of_getElem? (i := 838) (by decide +kernel)
theorem tCod_X6_textTold : Cond.code yX6_textTold cX6_textTold 4 (some .int) ∈ lw_tbl := List.mem_of_getElem? (i := 839) (by decide +kernel)
theorem tMet_L_118 : Cond.methodLink RL 118 yX6_why ∈ lw_tbl := List.mem_of_getElem? (i := 840) (by decide +kernel)
theorem tIns_X6_why : Cond.instanceMethod yX6_why ∈ lw_tbl := List.mem_of_getElem? (i := 841) (by decide +kernel)
theorem tSel_X6_why : Cond.selects RX6 yX6_why yX6_why ∈ lw_tbl := List.mem_of_getElem? (i := 842) (by decide +kernel)
theorem tCod_X6_why : Cond.code yX6_why cX6_why 3 (some .int) ∈ lw_tbl := List.mem_of_getElem? (i := 843) (by decide +kernel)
theorem tMet_L_122 : Cond.methodLink RL 122 yX6_sheet ∈ lw_tbl := List.mem_of_getElem? (i := 844) (by decide +kernel)
theorem tIns_X6_sheet : Cond.instanceMethod yX6_sheet ∈ lw_tbl := List.mem_of_getElem? (i := 845) (by decide +kernel)
theorem tSel_X6_sheet : Cond.selects RX6 yX6_sheet yX6_sheet ∈ lw_tbl := List.mem_of_getElem? (i := 846) (by decide +kernel)
theorem tCod_X6_sheet : Cond.code yX6_sheet cX6_sheet 4 (some .int) ∈ lw_tbl := List.mem_of_getElem? (i := 847) (by decide +kernel)
theorem tMet_X6_252 : Cond.methodLink RX6 252 yX2_begin ∈ lw_tbl := List.mem_of_getElem? (i := 848) (by decide +kernel)
theorem tIns_X2_begin : Cond.instanceMethod yX2_begin ∈ lw_tbl := List.mem_of_getElem? (i := 849) (by decide +kernel)
theorem tSel_X2_begin : Cond.selects RX2 yX2_begin yX2_begin ∈ lw_tbl := List.mem_of_getElem? (i := 850) (by decide +kernel)
theorem tCod_X2_begin : Cond.code yX2_begin cX2_begin 3 none ∈ lw_tbl := List.mem_of_getElem? (i := 851) (by decide +kernel)
theorem tMet_X2_22 : Cond.methodLink RX2 22 yJ7_fill_53178 ∈ lw_tbl := List.mem_of_getElem? (i := 852) (by decide +kernel)
theorem tSta_J7_fill_53178 : Cond.static yJ7_fill_53178 ∈ lw_tbl := List.mem_of_getElem? (i := 853) (by decide +kernel)
theorem tCod_J7_fill_53178 : Cond.code yJ7_fill_53178 cJ7_fill_53178 4 none ∈ lw_tbl := List.mem_of_getElem? (i := 854) (by decide +kernel)
theorem tCon_X6_255 : Cond.constant RX6 255 (-1000000014) ∈ lw_tbl := List.mem_of_getElem? (i := 855) (by decide +kernel)
theorem tMet_L_126 : Cond.methodLink RL 126 yX6_mark ∈ lw_tbl := List.mem_of_getElem? (i := 856) (by decide +kernel)
theorem tIns_X6_mark : Cond.instanceMethod yX6_mark ∈ lw_tbl := List.mem_of_getElem? (i := 857) (by decide +kernel)
theorem tSel_X6_mark : Cond.selects RX6 yX6_mark yX6_mark ∈ lw_tbl := List.mem_of_getElem? (i := 858) (by decide +kernel)
theorem tCod_X6_mark : Cond.code yX6_mark cX6_mark 5 (some .int) ∈ lw_tbl := List.mem_of_getElem? (i := 859) (by decide +kernel)
theorem tMet_X6_256 : Cond.methodLink RX6 256 yX2_hasPlace ∈ lw_tbl := List.mem_of_getElem? (i := 860) (by decide +kernel)
theorem tIns_X2_hasPlace : Cond.instanceMethod yX2_hasPlace ∈ lw_tbl := List.mem_of_getElem? (i := 861) (by decide +kernel)
theorem tSel_X2_hasPlace : Cond.selects RX2 yX2_hasPlace yX2_hasPlace ∈ lw_tbl := List.mem_of_getElem? (i := 862) (by decide +kernel)
theorem tCod_X2_hasPlace : Cond.code yX2_hasPlace cX2_hasPlace 2 (some .boolean) ∈ lw_tbl := List.mem_of_getElem? (i := 863) (by decide +kernel)
theorem tCon_X6_259 : Cond.constant RX6 259 (-1000000013) ∈ lw_tbl := List.mem_of_getElem? (i := 864) (by decide +kernel)
theorem tCon_X6_263 : Cond.constant RX6 263 (-99999) ∈ lw_tbl := List.mem_of_getElem? (i := 865) (by decide +kernel)
theorem tCon_X6_264 : Cond.constant RX6 264 (99999) ∈ lw_tbl := List.mem_of_getElem? (i := 866) (by decide +kernel)
theorem tMet_L_130 : Cond.methodLink RL 130 yX6_pour ∈ lw_tbl := List.mem_of_getElem? (i := 867) (by decide +kernel)
theorem tIns_X6_pour : Cond.instanceMethod yX6_pour ∈ lw_tbl := List.mem_of_getElem? (i := 868) (by decide +kernel)
theorem tSel_X6_pour : Cond.selects RX6 yX6_pour yX6_pour ∈ lw_tbl := List.mem_of_getElem? (i := 869) (by decide +kernel)
theorem tCod_X6_pour : Cond.code yX6_pour cX6_pour 2 (some .int) ∈ lw_tbl := List.mem_of_getElem? (i := 870) (by decide +kernel)
theorem tMet_X6_265 : Cond.methodLink RX6 265 yX4_takeWalls ∈ lw_tbl := List.mem_of_getElem? (i := 871) (by decide +kernel)
theorem tIns_X4_takeWalls : Cond.instanceMethod yX4_takeWalls ∈ lw_tbl := List.mem_of_getElem? (i := 872) (by decide +kernel)
theorem tSel_X4_takeWalls : Cond.selects RX4 yX4_takeWalls yX4_takeWalls ∈ lw_tbl := List.mem_of_getElem? (i := 873) (by decide +kernel)
theorem tCod_X4_takeWalls : Cond.code yX4_takeWalls cX4_takeWalls 5 (some .int) ∈ lw_tbl := List.mem_of_getElem? (i := 874) (by decide +kernel)
theorem tMet_L_134 : Cond.methodLink RL 134 yX6_reads ∈ lw_tbl := List.mem_of_getElem? (i := 875) (by decide +kernel)
theorem tIns_X6_reads : Cond.instanceMethod yX6_reads ∈ lw_tbl := List.mem_of_getElem? (i := 876) (by decide +kernel)
theorem tSel_X6_reads : Cond.selects RX6 yX6_reads yX6_reads ∈ lw_tbl := List.mem_of_getElem? (i := 877) (by decide +kernel)
theorem tCod_X6_reads : Cond.code yX6_reads cX6_reads 4 (some .int) ∈ lw_tbl := List.mem_of_getElem? (i := 878) (by decide +kernel)
theorem tMet_X6_269 : Cond.methodLink RX6 269 yX2_isNumber ∈ lw_tbl := List.mem_of_getElem? (i := 879) (by decide +kernel)
theorem tMet_L_138 : Cond.methodLink RL 138 yX6_copy ∈ lw_tbl := List.mem_of_getElem? (i := 880) (by decide +kernel)
theorem tIns_X6_copy : Cond.instanceMethod yX6_copy ∈ lw_tbl := List.mem_of_getElem? (i := 881) (by decide +kernel)
theorem tSel_X6_copy : Cond.selects RX6 yX6_copy yX6_copy ∈ lw_tbl := List.mem_of_getElem? (i := 882) (by decide +kernel)
theorem tCod_X6_copy : Cond.code yX6_copy cX6_copy 8 (some .int) ∈ lw_tbl := List.mem_of_getElem? (i := 883) (by decide +kernel)
theorem tMet_X6_272 : Cond.methodLink RX6 272 yX2_hasPlaces ∈ lw_tbl := List.mem_of_getElem? (i := 884) (by decide +kernel)
theorem tIns_X2_hasPlaces : Cond.instanceMethod yX2_hasPlaces ∈ lw_tbl := List.mem_of_getElem? (i := 885) (by decide +kernel)
theorem tSel_X2_hasPlaces : Cond.selects RX2 yX2_hasPlaces yX2_hasPlaces ∈ lw_tbl := List.mem_of_getElem? (i := 886) (by decide +kernel)
theorem tCod_X2_hasPlaces : Cond.code yX2_hasPlaces cX2_hasPlaces 3 (some .boolean) ∈ lw_tbl := List.mem_of_getElem? (i := 887) (by decide +kernel)
theorem tMet_X6_275 : Cond.methodLink RX6 275 ⟨"java/lang/System", "arraycopy", "(Ljava/lang/Object;ILjava/lang/Object;II)V"⟩ ∈ lw_tbl := List.mem_of_getElem? (i := 888) (by decide +kernel)
theorem tMet_L_143 : Cond.methodLink RL 143 yX6_lay ∈ lw_tbl := List.mem_of_getElem? (i := 889) (by decide +kernel)
theorem tIns_X6_lay : Cond.instanceMethod yX6_lay ∈ lw_tbl := List.mem_of_getElem? (i := 890) (by decide +kernel)
theorem tSel_X6_lay : Cond.selects RX6 yX6_lay yX6_lay ∈ lw_tbl := List.mem_of_getElem? (i := 891) (by decide +kernel)
theorem tCod_X6_lay : Cond.code yX6_lay cX6_lay 6 (some .int) ∈ lw_tbl := List.mem_of_getElem? (i := 892) (by decide +kernel)
theorem tMet_X6_281 : Cond.methodLink RX6 281 yX6_isSlot ∈ lw_tbl := List.mem_of_getElem? (i := 893) (by decide +kernel)
theorem tSta_X6_isSlot : Cond.static yX6_isSlot ∈ lw_tbl := List.mem_of_getElem? (i := 894) (by decide +kernel)
theorem tCod_X6_isSlot : Cond.code yX6_isSlot cX6_isSlot 1 (some .boolean) ∈ lw_tbl := List.mem_of_getElem? (i := 895) (by decide +kernel)
theorem tMet_X6_291 : Cond.methodLink RX6 291 yX0_beLike ∈ lw_tbl := List.mem_of_getElem? (i := 896) (by decide +kernel)
theorem tMet_X6_299 : Cond.methodLink RX6 299 yX2_beLike ∈ lw_tbl := List.mem_of_getElem? (i := 897) (by decide +kernel)
theorem tIns_X2_beLike : Cond.instanceMethod yX2_beLike ∈ lw_tbl := List.mem_of_getElem? (i := 898) (by decide +kernel)
theorem tSel_X2_beLike : Cond.selects RX2 yX2_beLike yX2_beLike ∈ lw_tbl := List.mem_of_getElem? (i := 899) (by decide +kernel)
theorem tCod_X2_beLike : Cond.code yX2_beLike cX2_beLike 2 none ∈ lw_tbl := List.mem_of_getElem? (i := 900) (by decide +kernel)
theorem tMet_X2_28 : Cond.methodLink RX2 28 ⟨"java/lang/System", "arraycopy", "(Ljava/lang/Object;ILjava/lang/Object;II)V"⟩ ∈ lw_tbl := List.mem_of_getElem? (i := 901) (by decide +kernel)
theorem tMet_L_147 : Cond.methodLink RL 147 yX6_ask ∈ lw_tbl := List.mem_of_getElem? (i := 902) (by decide +kernel)
theorem tIns_X6_ask : Cond.instanceMethod yX6_ask ∈ lw_tbl := List.mem_of_getElem? (i := 903) (by decide +kernel)
theorem tSel_X6_ask : Cond.selects RX6 yX6_ask yX6_ask ∈ lw_tbl := List.mem_of_getElem? (i := 904) (by decide +kernel)
theorem tCod_X6_ask : Cond.code yX6_ask cX6_ask 4 (some .int) ∈ lw_tbl := List.mem_of_getElem? (i := 905) (by decide +kernel)
theorem tMet_L_151 : Cond.methodLink RL 151 yX6_item ∈ lw_tbl := List.mem_of_getElem? (i := 906) (by decide +kernel)
theorem tIns_X6_item : Cond.instanceMethod yX6_item ∈ lw_tbl := List.mem_of_getElem? (i := 907) (by decide +kernel)
theorem tSel_X6_item : Cond.selects RX6 yX6_item yX6_item ∈ lw_tbl := List.mem_of_getElem? (i := 908) (by decide +kernel)
theorem tCod_X6_item : Cond.code yX6_item cX6_item 4 (some .int) ∈ lw_tbl := List.mem_of_getElem? (i := 909) (by decide +kernel)
theorem tMet_L_155 : Cond.methodLink RL 155 yX6_rest ∈ lw_tbl := List.mem_of_getElem? (i := 910) (by decide +kernel)
theorem tIns_X6_rest : Cond.instanceMethod yX6_rest ∈ lw_tbl := List.mem_of_getElem? (i := 911) (by decide +kernel)
theorem tSel_X6_rest : Cond.selects RX6 yX6_rest yX6_rest ∈ lw_tbl := List.mem_of_getElem? (i := 912) (by decide +kernel)
theorem tCod_X6_rest : Cond.code yX6_rest cX6_rest 4 (some .int) ∈ lw_tbl := List.mem_of_getElem? (i := 913) (by decide +kernel)
theorem tMet_L_159 : Cond.methodLink RL 159 yX6_tell ∈ lw_tbl := List.mem_of_getElem? (i := 914) (by decide +kernel)
theorem tIns_X6_tell : Cond.instanceMethod yX6_tell ∈ lw_tbl := List.mem_of_getElem? (i := 915) (by decide +kernel)
theorem tSel_X6_tell : Cond.selects RX6 yX6_tell yX6_tell ∈ lw_tbl := List.mem_of_getElem? (i := 916) (by decide +kernel)
theorem tCod_X6_tell : Cond.code yX6_tell cX6_tell 2 (some .int) ∈ lw_tbl := List.mem_of_getElem? (i := 917) (by decide +kernel)
theorem tMet_L_163 : Cond.methodLink RL 163 yX6_check ∈ lw_tbl := List.mem_of_getElem? (i := 918) (by decide +kernel)
theorem tIns_X6_check : Cond.instanceMethod yX6_check ∈ lw_tbl := List.mem_of_getElem? (i := 919) (by decide +kernel)
theorem tSel_X6_check : Cond.selects RX6 yX6_check yX6_check ∈ lw_tbl := List.mem_of_getElem? (i := 920) (by decide +kernel)
theorem tCod_X6_check : Cond.code yX6_check cX6_check 6 (some .int) ∈ lw_tbl := List.mem_of_getElem? (i := 921) (by decide +kernel)
theorem tMet_L_167 : Cond.methodLink RL 167 yX6_keep ∈ lw_tbl := List.mem_of_getElem? (i := 922) (by decide +kernel)
theorem tIns_X6_keep : Cond.instanceMethod yX6_keep ∈ lw_tbl := List.mem_of_getElem? (i := 923) (by decide +kernel)
theorem tSel_X6_keep : Cond.selects RX6 yX6_keep yX6_keep ∈ lw_tbl := List.mem_of_getElem? (i := 924) (by decide +kernel)
theorem tCod_X6_keep : Cond.code yX6_keep cX6_keep 1 (some .int) ∈ lw_tbl := List.mem_of_getElem? (i := 925) (by decide +kernel)
theorem tMet_L_171 : Cond.methodLink RL 171 yX6_back ∈ lw_tbl := List.mem_of_getElem? (i := 926) (by decide +kernel)
theorem tIns_X6_back : Cond.instanceMethod yX6_back ∈ lw_tbl := List.mem_of_getElem? (i := 927) (by decide +kernel)
theorem tSel_X6_back : Cond.selects RX6 yX6_back yX6_back ∈ lw_tbl := List.mem_of_getElem? (i := 928) (by decide +kernel)
theorem tCod_X6_back : Cond.code yX6_back cX6_back 1 (some .int) ∈ lw_tbl := List.mem_of_getElem? (i := 929) (by decide +kernel)
theorem tMet_L_175 : Cond.methodLink RL 175 yX6_count ∈ lw_tbl := List.mem_of_getElem? (i := 930) (by decide +kernel)
theorem tIns_X6_count : Cond.instanceMethod yX6_count ∈ lw_tbl := List.mem_of_getElem? (i := 931) (by decide +kernel)
theorem tSel_X6_count : Cond.selects RX6 yX6_count yX6_count ∈ lw_tbl := List.mem_of_getElem? (i := 932) (by decide +kernel)
theorem tCod_X6_count : Cond.code yX6_count cX6_count 2 (some .int) ∈ lw_tbl := List.mem_of_getElem? (i := 933) (by decide +kernel)
theorem tCls_L_10 : Cond.classLink RL 10 RX7 ∈ lw_tbl := List.mem_of_getElem? (i := 934) (by decide +kernel)
theorem tIst_X7 : Cond.instantiable RX7 33 ∈ lw_tbl := List.mem_of_getElem? (i := 935) (by decide +kernel)
theorem tMet_L_12 : Cond.methodLink RL 12 yX7_init ∈ lw_tbl := List.mem_of_getElem? (i := 936) (by decide +kernel)
theorem tIns_X7_init : Cond.instanceMethod yX7_init ∈ lw_tbl := List.mem_of_getElem? (i := 937) (by decide +kernel)
theorem tCod_X7_init : Cond.code yX7_init cX7_init 2 none ∈ lw_tbl := List.mem_of_getElem? (i := 938) (by decide +kernel)
theorem tMet_X7_1 : Cond.methodLink RX7 1 objectInit ∈ lw_tbl := List.mem_of_getElem? (i := 939) (by decide +kernel)
theorem tFld_X7_7 : Cond.fieldLink RX7 7 "LeaningStreetModel" "s" "[I" ∈ lw_tbl := List.mem_of_getElem? (i := 940) (by decide +kernel)
theorem tFld_X7_13 : Cond.fieldLink RX7 13 "LeaningStreetModel" "image" "[I" ∈ lw_tbl := List.mem_of_getElem? (i := 941) (by decide +kernel)
theorem tFld_X7_16 : Cond.fieldLink RX7 16 "LeaningStreetModel" "aside" "[I" ∈ lw_tbl := List.mem_of_getElem? (i := 942) (by decide +kernel)
theorem tFld_X7_324 : Cond.fieldLink RX7 324 "LeaningStreetModel" "hasImage" "Z" ∈ lw_tbl := List.mem_of_getElem? (i := 943) (by decide +kernel)
theorem tFld_X7_19 : Cond.fieldLink RX7 19 "LeaningStreetModel" "tSort" "[I" ∈ lw_tbl := List.mem_of_getElem? (i := 944) (by decide +kernel)
theorem tFld_X7_22 : Cond.fieldLink RX7 22 "LeaningStreetModel" "tSize" "[I" ∈ lw_tbl := List.mem_of_getElem? (i := 945) (by decide +kernel)
theorem tFld_X7_25 : Cond.fieldLink RX7 25 "LeaningStreetModel" "tNumber" "[I" ∈ lw_tbl := List.mem_of_getElem? (i := 946) (by decide +kernel)
theorem tFld_X7_28 : Cond.fieldLink RX7 28 "LeaningStreetModel" "held" "[I" ∈ lw_tbl := List.mem_of_getElem? (i := 947) (by decide +kernel)
theorem tFld_X7_31 : Cond.fieldLink RX7 31 "LeaningStreetModel" "heldNumber" "[I" ∈ lw_tbl := List.mem_of_getElem? (i := 948) (by decide +kernel)
theorem tFld_X7_34 : Cond.fieldLink RX7 34 "LeaningStreetModel" "heldWorth" "[I" ∈ lw_tbl := List.mem_of_getElem? (i := 949) (by decide +kernel)
theorem tFld_X7_37 : Cond.fieldLink RX7 37 "LeaningStreetModel" "heldSize" "[I" ∈ lw_tbl := List.mem_of_getElem? (i := 950) (by decide +kernel)
theorem tFld_X7_40 : Cond.fieldLink RX7 40 "LeaningStreetModel" "heldRow" "[I" ∈ lw_tbl := List.mem_of_getElem? (i := 951) (by decide +kernel)
theorem tFld_X7_43 : Cond.fieldLink RX7 43 "LeaningStreetModel" "thrusts" "[I" ∈ lw_tbl := List.mem_of_getElem? (i := 952) (by decide +kernel)
theorem tFld_X7_46 : Cond.fieldLink RX7 46 "LeaningStreetModel" "borne" "[I" ∈ lw_tbl := List.mem_of_getElem? (i := 953) (by decide +kernel)
theorem tFld_X7_49 : Cond.fieldLink RX7 49 "LeaningStreetModel" "close" "[I" ∈ lw_tbl := List.mem_of_getElem? (i := 954) (by decide +kernel)
theorem tFld_X7_52 : Cond.fieldLink RX7 52 "LeaningStreetModel" "tape" "[I" ∈ lw_tbl := List.mem_of_getElem? (i := 955) (by decide +kernel)
theorem tFld_X7_200 : Cond.fieldLink RX7 200 "LeaningStreetModel" "taped" "I" ∈ lw_tbl := List.mem_of_getElem? (i := 956) (by decide +kernel)
theorem tFld_X7_218 : Cond.fieldLink RX7 218 "LeaningStreetModel" "begin" "I" ∈ lw_tbl := List.mem_of_getElem? (i := 957) (by decide +kernel)
theorem tFld_X7_212 : Cond.fieldLink RX7 212 "LeaningStreetModel" "behind" "I" ∈ lw_tbl := List.mem_of_getElem? (i := 958) (by decide +kernel)
theorem tFld_X7_215 : Cond.fieldLink RX7 215 "LeaningStreetModel" "token" "I" ∈ lw_tbl := List.mem_of_getElem? (i := 959) (by decide +kernel)
theorem tFld_X7_230 : Cond.fieldLink RX7 230 "LeaningStreetModel" "number" "I" ∈ lw_tbl := List.mem_of_getElem? (i := 960) (by decide +kernel)
theorem tFld_X7_224 : Cond.fieldLink RX7 224 "LeaningStreetModel" "letter" "I" ∈ lw_tbl := List.mem_of_getElem? (i := 961) (by decide +kernel)
theorem tFld_X7_277 : Cond.fieldLink RX7 277 "LeaningStreetModel" "deep" "I" ∈ lw_tbl := List.mem_of_getElem? (i := 962) (by decide +kernel)
theorem tFld_X7_274 : Cond.fieldLink RX7 274 "LeaningStreetModel" "turned" "I" ∈ lw_tbl := List.mem_of_getElem? (i := 963) (by decide +kernel)
theorem tFld_X7_240 : Cond.fieldLink RX7 240 "LeaningStreetModel" "laid" "I" ∈ lw_tbl := List.mem_of_getElem? (i := 964) (by decide +kernel)
theorem tFld_X7_237 : Cond.fieldLink RX7 237 "LeaningStreetModel" "laidAt" "I" ∈ lw_tbl := List.mem_of_getElem? (i := 965) (by decide +kernel)
theorem tFld_X7_268 : Cond.fieldLink RX7 268 "LeaningStreetModel" "said" "I" ∈ lw_tbl := List.mem_of_getElem? (i := 966) (by decide +kernel)
theorem tFld_X7_55 : Cond.fieldLink RX7 55 "LeaningStreetModel" "named" "[I" ∈ lw_tbl := List.mem_of_getElem? (i := 967) (by decide +kernel)
theorem tFld_X7_58 : Cond.fieldLink RX7 58 "LeaningStreetModel" "pile" "[I" ∈ lw_tbl := List.mem_of_getElem? (i := 968) (by decide +kernel)
theorem tFld_X7_61 : Cond.fieldLink RX7 61 "LeaningStreetModel" "carried" "[I" ∈ lw_tbl := List.mem_of_getElem? (i := 969) (by decide +kernel)
theorem tFld_X7_64 : Cond.fieldLink RX7 64 "LeaningStreetModel" "waits" "[I" ∈ lw_tbl := List.mem_of_getElem? (i := 970) (by decide +kernel)
theorem tFld_X7_319 : Cond.fieldLink RX7 319 "LeaningStreetModel" "waiting" "I" ∈ lw_tbl := List.mem_of_getElem? (i := 971) (by decide +kernel)
theorem tFld_X7_67 : Cond.fieldLink RX7 67 "LeaningStreetModel" "rowDue" "[I" ∈ lw_tbl := List.mem_of_getElem? (i := 972) (by decide +kernel)
theorem tMet_L_17 : Cond.methodLink RL 17 yX7_house ∈ lw_tbl := List.mem_of_getElem? (i := 1040) (by decide +kernel)
theorem tIns_X7_house : Cond.instanceMethod yX7_house ∈ lw_tbl := List.mem_of_getElem? (i := 1041) (by decide +kernel)
theorem tSel_X7_house : Cond.selects RX7 yX7_house yX7_house ∈ lw_tbl := List.mem_of_getElem? (i := 1042) (by decide +kernel)
theorem tCod_X7_house : Cond.code yX7_house cX7_house 5 (some .int) ∈ lw_tbl := List.mem_of_getElem? (i := 1043) (by decide +kernel)
theorem tCoL_X7_94 : Cond.constantLong RX7 94 (5) ∈ lw_tbl := List.mem_of_getElem? (i := 1044) (by decide +kernel)
theorem tMet_X7_71 : Cond.methodLink RX7 71 yX7_isIn ∈ lw_tbl := List.mem_of_getElem? (i := 1045) (by decide +kernel)
theorem tSta_X7_isIn : Cond.static yX7_isIn ∈ lw_tbl := List.mem_of_getElem? (i := 1046) (by decide +kernel)
theorem tCod_X7_isIn : Cond.code yX7_isIn cX7_isIn 6 (some .boolean) ∈ lw_tbl := List.mem_of_getElem? (i := 1047) (by decide +kernel)
theorem tMet_X7_96 : Cond.methodLink RX7 96 yX7_mayBe ∈ lw_tbl := List.mem_of_getElem? (i := 1048) (by decide +kernel)
theorem tSta_X7_mayBe : Cond.static yX7_mayBe ∈ lw_tbl := List.mem_of_getElem? (i := 1049) (by decide +kernel)
theorem tCod_X7_mayBe : Cond.code yX7_mayBe cX7_mayBe 2 (some .boolean) ∈ lw_tbl := List.mem_of_getElem? (i := 1050) (by decide +kernel)
theorem tCoL_X7_84 : Cond.constantLong RX7 84 (99) ∈ lw_tbl := List.mem_of_getElem? (i := 1051) (by decide +kernel)
theorem tCoL_X7_86 : Cond.constantLong RX7 86 (-50) ∈ lw_tbl := List.mem_of_getElem? (i := 1052) (by decide +kernel)
theorem tCoL_X7_88 : Cond.constantLong RX7 88 (50) ∈ lw_tbl := List.mem_of_getElem? (i := 1053) (by decide +kernel)
theorem tCoL_X7_90 : Cond.constantLong RX7 90 (999) ∈ lw_tbl := List.mem_of_getElem? (i := 1054) (by decide +kernel)
theorem tCoL_X7_92 : Cond.constantLong RX7 92 (9) ∈ lw_tbl := List.mem_of_getElem? (i := 1055) (by decide +kernel)
theorem tCon_X7_100 : Cond.constant RX7 100 (-1000000001) ∈ lw_tbl := List.mem_of_getElem? (i := 1056) (by decide +kernel)
theorem tCon_X7_101 : Cond.constant RX7 101 (-1000000003) ∈ lw_tbl := List.mem_of_getElem? (i := 1057) (by decide +kernel)
theorem tMet_X7_102 : Cond.methodLink RX7 102 yX7_comes ∈ lw_tbl := List.mem_of_getElem? (i := 1058) (by decide +kernel)
theorem tIns_X7_comes : Cond.instanceMethod yX7_comes ∈ lw_tbl := List.mem_of_getElem? (i := 1060) (by decide +kernel)
theorem tCod_X7_comes : Cond.code yX7_comes cX7_comes 6 none ∈ lw_tbl := List.mem_of_getElem? (i := 1061) (by decide +kernel)
theorem tMet_X7_80 : Cond.methodLink RX7 80 yX7_sets ∈ lw_tbl := List.mem_of_getElem? (i := 1062) (by decide +kernel)
theorem tIns_X7_sets : Cond.instanceMethod yX7_sets ∈ lw_tbl := List.mem_of_getElem? (i := 1064) (by decide +kernel)
theorem tCod_X7_sets : Cond.code yX7_sets cX7_sets 4 none ∈ lw_tbl := List.mem_of_getElem? (i := 1065) (by decide +kernel)
theorem tMet_L_22 : Cond.methodLink RL 22 yX7_told ∈ lw_tbl := List.mem_of_getElem? (i := 1066) (by decide +kernel)
theorem tIns_X7_told : Cond.instanceMethod yX7_told ∈ lw_tbl := List.mem_of_getElem? (i := 1067) (by decide +kernel)
theorem tSel_X7_told : Cond.selects RX7 yX7_told yX7_told ∈ lw_tbl := List.mem_of_getElem? (i := 1068) (by decide +kernel)
theorem tCod_X7_told : Cond.code yX7_told cX7_told 3 (some .int) ∈ lw_tbl := List.mem_of_getElem? (i := 1069) (by decide +kernel)
theorem tMet_X7_133 : Cond.methodLink RX7 133 yX7_isHouse ∈ lw_tbl := List.mem_of_getElem? (i := 1070) (by decide +kernel)
theorem tIns_X7_isHouse : Cond.instanceMethod yX7_isHouse ∈ lw_tbl := List.mem_of_getElem? (i := 1072) (by decide +kernel)
theorem tCod_X7_isHouse : Cond.code yX7_isHouse cX7_isHouse 2 (some .boolean) ∈ lw_tbl := List.mem_of_getElem? (i := 1073) (by decide +kernel)
theorem tMet_X7_75 : Cond.methodLink RX7 75 yX7_of ∈ lw_tbl := List.mem_of_getElem? (i := 1074) (by decide +kernel)
theorem tIns_X7_of : Cond.instanceMethod yX7_of ∈ lw_tbl := List.mem_of_getElem? (i := 1076) (by decide +kernel)
theorem tCod_X7_of : Cond.code yX7_of cX7_of 3 (some .int) ∈ lw_tbl := List.mem_of_getElem? (i := 1077) (by decide +kernel)
theorem tMet_X7_130 : Cond.methodLink RX7 130 yX7_pushes ∈ lw_tbl := List.mem_of_getElem? (i := 1078) (by decide +kernel)
theorem tIns_X7_pushes : Cond.instanceMethod yX7_pushes ∈ lw_tbl := List.mem_of_getElem? (i := 1080) (by decide +kernel)
theorem tCod_X7_pushes : Cond.code yX7_pushes cX7_pushes 5 (some .int) ∈ lw_tbl := List.mem_of_getElem? (i := 1081) (by decide +kernel)
theorem tMet_X7_106 : Cond.methodLink RX7 106 yX7_off ∈ lw_tbl := List.mem_of_getElem? (i := 1082) (by decide +kernel)
theorem tSta_X7_off : Cond.static yX7_off ∈ lw_tbl := List.mem_of_getElem? (i := 1083) (by decide +kernel)
theorem tCod_X7_off : Cond.code yX7_off cX7_off 2 (some .int) ∈ lw_tbl := List.mem_of_getElem? (i := 1084) (by decide +kernel)
theorem tMet_X7_109 : Cond.methodLink RX7 109 yX7_counts ∈ lw_tbl := List.mem_of_getElem? (i := 1085) (by decide +kernel)
theorem tIns_X7_counts : Cond.instanceMethod yX7_counts ∈ lw_tbl := List.mem_of_getElem? (i := 1087) (by decide +kernel)
theorem tCod_X7_counts : Cond.code yX7_counts cX7_counts 4 (some .int) ∈ lw_tbl := List.mem_of_getElem? (i := 1088) (by decide +kernel)
theorem tMet_X7_283 : Cond.methodLink RX7 283 yX7_textAt ∈ lw_tbl := List.mem_of_getElem? (i := 1089) (by decide +kernel)
theorem tIns_X7_textAt : Cond.instanceMethod yX7_textAt ∈ lw_tbl := List.mem_of_getElem? (i := 1091) (by decide +kernel)
theorem tCod_X7_textAt : Cond.code yX7_textAt cX7_textAt 2 (some .int) ∈ lw_tbl := List.mem_of_getElem? (i := 1092) (by decide +kernel)
theorem tMet_X7_113 : Cond.methodLink RX7 113 yX7_worked ∈ lw_tbl := List.mem_of_getElem? (i := 1093) (by decide +kernel)
theorem tIns_X7_worked : Cond.instanceMethod yX7_worked ∈ lw_tbl := List.mem_of_getElem? (i := 1095) (by decide +kernel)
theorem tCod_X7_worked : Cond.code yX7_worked cX7_worked 6 (some .int) ∈ lw_tbl := List.mem_of_getElem? (i := 1096) (by decide +kernel)
theorem tMet_X7_297 : Cond.methodLink RX7 297 yX7_joined ∈ lw_tbl := List.mem_of_getElem? (i := 1097) (by decide +kernel)
theorem tSta_X7_joined : Cond.static yX7_joined ∈ lw_tbl := List.mem_of_getElem? (i := 1098) (by decide +kernel)
theorem tCod_X7_joined : Cond.code yX7_joined cX7_joined 3 (some .int) ∈ lw_tbl := List.mem_of_getElem? (i := 1099) (by decide +kernel)
theorem tMet_X7_116 : Cond.methodLink RX7 116 yX7_held ∈ lw_tbl := List.mem_of_getElem? (i := 1100) (by decide +kernel)
theorem tSta_X7_held : Cond.static yX7_held ∈ lw_tbl := List.mem_of_getElem? (i := 1101) (by decide +kernel)
theorem tCod_X7_held : Cond.code yX7_held cX7_held 3 (some .int) ∈ lw_tbl := List.mem_of_getElem? (i := 1102) (by decide +kernel)
theorem tMet_X7_136 : Cond.methodLink RX7 136 yX7_bears ∈ lw_tbl := List.mem_of_getElem? (i := 1103) (by decide +kernel)
theorem tIns_X7_bears : Cond.instanceMethod yX7_bears ∈ lw_tbl := List.mem_of_getElem? (i := 1105) (by decide +kernel)
theorem tCod_X7_bears : Cond.code yX7_bears cX7_bears 3 (some .int) ∈ lw_tbl := List.mem_of_getElem? (i := 1106) (by decide +kernel)
theorem tMet_X7_139 : Cond.methodLink RX7 139 yX7_thrust ∈ lw_tbl := List.mem_of_getElem? (i := 1107) (by decide +kernel)
theorem tIns_X7_thrust : Cond.instanceMethod yX7_thrust ∈ lw_tbl := List.mem_of_getElem? (i := 1109) (by decide +kernel)
theorem tCod_X7_thrust : Cond.code yX7_thrust cX7_thrust 6 (some .int) ∈ lw_tbl := List.mem_of_getElem? (i := 1110) (by decide +kernel)
theorem tMet_X7_119 : Cond.methodLink RX7 119 yX7_stands ∈ lw_tbl := List.mem_of_getElem? (i := 1111) (by decide +kernel)
theorem tIns_X7_stands : Cond.instanceMethod yX7_stands ∈ lw_tbl := List.mem_of_getElem? (i := 1113) (by decide +kernel)
theorem tCod_X7_stands : Cond.code yX7_stands cX7_stands 2 (some .boolean) ∈ lw_tbl := List.mem_of_getElem? (i := 1114) (by decide +kernel)
theorem tMet_X7_123 : Cond.methodLink RX7 123 yX7_allStanding ∈ lw_tbl := List.mem_of_getElem? (i := 1115) (by decide +kernel)
theorem tIns_X7_allStanding : Cond.instanceMethod yX7_allStanding ∈ lw_tbl := List.mem_of_getElem? (i := 1117) (by decide +kernel)
theorem tCod_X7_allStanding : Cond.code yX7_allStanding cX7_allStanding 3 (some .int) ∈ lw_tbl := List.mem_of_getElem? (i := 1118) (by decide +kernel)
theorem tMet_X7_127 : Cond.methodLink RX7 127 yX7_nextOf ∈ lw_tbl := List.mem_of_getElem? (i := 1119) (by decide +kernel)
theorem tIns_X7_nextOf : Cond.instanceMethod yX7_nextOf ∈ lw_tbl := List.mem_of_getElem? (i := 1121) (by decide +kernel)
theorem tCod_X7_nextOf : Cond.code yX7_nextOf cX7_nextOf 5 (some .int) ∈ lw_tbl := List.mem_of_getElem? (i := 1122) (by decide +kernel)
theorem tMet_X7_142 : Cond.methodLink RX7 142 yX7_worth ∈ lw_tbl := List.mem_of_getElem? (i := 1123) (by decide +kernel)
theorem tIns_X7_worth : Cond.instanceMethod yX7_worth ∈ lw_tbl := List.mem_of_getElem? (i := 1125) (by decide +kernel)
theorem tCod_X7_worth : Cond.code yX7_worth cX7_worth 3 (some .int) ∈ lw_tbl := List.mem_of_getElem? (i := 1126) (by decide +kernel)
theorem tMet_L_26 : Cond.methodLink RL 26 yX7_as ∈ lw_tbl := List.mem_of_getElem? (i := 1127) (by decide +kernel)
theorem tIns_X7_as : Cond.instanceMethod yX7_as ∈ lw_tbl := List.mem_of_getElem? (i := 1128) (by decide +kernel)
theorem tSel_X7_as : Cond.selects RX7 yX7_as yX7_as ∈ lw_tbl := List.mem_of_getElem? (i := 1129) (by decide +kernel)
theorem tCod_X7_as : Cond.code yX7_as cX7_as 3 (some .int) ∈ lw_tbl := List.mem_of_getElem? (i := 1130) (by decide +kernel)
theorem tMet_X7_145 : Cond.methodLink RX7 145 yX7_isOf ∈ lw_tbl := List.mem_of_getElem? (i := 1131) (by decide +kernel)
theorem tSta_X7_isOf : Cond.static yX7_isOf ∈ lw_tbl := List.mem_of_getElem? (i := 1132) (by decide +kernel)
theorem tCod_X7_isOf : Cond.code yX7_isOf cX7_isOf 2 (some .boolean) ∈ lw_tbl := List.mem_of_getElem? (i := 1133) (by decide +kernel)
theorem tCon_X7_148 : Cond.constant RX7 148 (-1000000012) ∈ lw_tbl := List.mem_of_getElem? (i := 1134) (by decide +kernel)
theorem tMet_L_30 : Cond.methodLink RL 30 yX7_turns ∈ lw_tbl := List.mem_of_getElem? (i := 1135) (by decide +kernel)
theorem tIns_X7_turns : Cond.instanceMethod yX7_turns ∈ lw_tbl := List.mem_of_getElem? (i := 1136) (by decide +kernel)
theorem tSel_X7_turns : Cond.selects RX7 yX7_turns yX7_turns ∈ lw_tbl := List.mem_of_getElem? (i := 1137) (by decide +kernel)
theorem tCod_X7_turns : Cond.code yX7_turns cX7_turns 3 (some .int) ∈ lw_tbl := List.mem_of_getElem? (i := 1138) (by decide +kernel)
theorem tMet_X7_149 : Cond.methodLink RX7 149 yX7_becomes ∈ lw_tbl := List.mem_of_getElem? (i := 1139) (by decide +kernel)
theorem tIns_X7_becomes : Cond.instanceMethod yX7_becomes ∈ lw_tbl := List.mem_of_getElem? (i := 1141) (by decide +kernel)
theorem tCod_X7_becomes : Cond.code yX7_becomes cX7_becomes 4 (some .int) ∈ lw_tbl := List.mem_of_getElem? (i := 1142) (by decide +kernel)
theorem tMet_L_35 : Cond.methodLink RL 35 yX7_set ∈ lw_tbl := List.mem_of_getElem? (i := 1143) (by decide +kernel)
theorem tIns_X7_set : Cond.instanceMethod yX7_set ∈ lw_tbl := List.mem_of_getElem? (i := 1144) (by decide +kernel)
theorem tSel_X7_set : Cond.selects RX7 yX7_set yX7_set ∈ lw_tbl := List.mem_of_getElem? (i := 1145) (by decide +kernel)
theorem tCod_X7_set : Cond.code yX7_set cX7_set 4 (some .int) ∈ lw_tbl := List.mem_of_getElem? (i := 1146) (by decide +kernel)
theorem tMet_L_40 : Cond.methodLink RL 40 yX7_fells ∈ lw_tbl := List.mem_of_getElem? (i := 1147) (by decide +kernel)
theorem tIns_X7_fells : Cond.instanceMethod yX7_fells ∈ lw_tbl := List.mem_of_getElem? (i := 1148) (by decide +kernel)
theorem tSel_X7_fells : Cond.selects RX7 yX7_fells yX7_fells ∈ lw_tbl := List.mem_of_getElem? (i := 1149) (by decide +kernel)
theorem tCod_X7_fells : Cond.code yX7_fells cX7_fells 2 (some .int) ∈ lw_tbl := List.mem_of_getElem? (i := 1150) (by decide +kernel)
theorem tCon_X7_152 : Cond.constant RX7 152 (-1000000002) ∈ lw_tbl := List.mem_of_getElem? (i := 1151) (by decide +kernel)
theorem tMet_X7_153 : Cond.methodLink RX7 153 yX7_falls ∈ lw_tbl := List.mem_of_getElem? (i := 1152) (by decide +kernel)
theorem tIns_X7_falls : Cond.instanceMethod yX7_falls ∈ lw_tbl := List.mem_of_getElem? (i := 1154) (by decide +kernel)
theorem tCod_X7_falls : Cond.code yX7_falls cX7_falls 2 none ∈ lw_tbl := List.mem_of_getElem? (i := 1155) (by decide +kernel)
theorem tMet_X7_157 : Cond.methodLink RX7 157 yX7_manyIn ∈ lw_tbl := List.mem_of_getElem? (i := 1156) (by decide +kernel)
theorem tSta_X7_manyIn : Cond.static yX7_manyIn ∈ lw_tbl := List.mem_of_getElem? (i := 1157) (by decide +kernel)
theorem tCod_X7_manyIn : Cond.code yX7_manyIn cX7_manyIn 3 (some .int) ∈ lw_tbl := List.mem_of_getElem? (i := 1158) (by decide +kernel)
theorem tMet_L_44 : Cond.methodLink RL 44 yX7_raises ∈ lw_tbl := List.mem_of_getElem? (i := 1159) (by decide +kernel)
theorem tIns_X7_raises : Cond.instanceMethod yX7_raises ∈ lw_tbl := List.mem_of_getElem? (i := 1160) (by decide +kernel)
theorem tSel_X7_raises : Cond.selects RX7 yX7_raises yX7_raises ∈ lw_tbl := List.mem_of_getElem? (i := 1161) (by decide +kernel)
theorem tCod_X7_raises : Cond.code yX7_raises cX7_raises 2 (some .int) ∈ lw_tbl := List.mem_of_getElem? (i := 1162) (by decide +kernel)
theorem tMet_L_48 : Cond.methodLink RL 48 yX7_snow ∈ lw_tbl := List.mem_of_getElem? (i := 1163) (by decide +kernel)
theorem tIns_X7_snow : Cond.instanceMethod yX7_snow ∈ lw_tbl := List.mem_of_getElem? (i := 1164) (by decide +kernel)
theorem tSel_X7_snow : Cond.selects RX7 yX7_snow yX7_snow ∈ lw_tbl := List.mem_of_getElem? (i := 1165) (by decide +kernel)
theorem tCod_X7_snow : Cond.code yX7_snow cX7_snow 2 (some .int) ∈ lw_tbl := List.mem_of_getElem? (i := 1166) (by decide +kernel)
theorem tCoL_X7_160 : Cond.constantLong RX7 160 (-20) ∈ lw_tbl := List.mem_of_getElem? (i := 1167) (by decide +kernel)
theorem tCoL_X7_162 : Cond.constantLong RX7 162 (20) ∈ lw_tbl := List.mem_of_getElem? (i := 1168) (by decide +kernel)
theorem tMet_L_52 : Cond.methodLink RL 52 yX7_deal ∈ lw_tbl := List.mem_of_getElem? (i := 1169) (by decide +kernel)
theorem tIns_X7_deal : Cond.instanceMethod yX7_deal ∈ lw_tbl := List.mem_of_getElem? (i := 1170) (by decide +kernel)
theorem tSel_X7_deal : Cond.selects RX7 yX7_deal yX7_deal ∈ lw_tbl := List.mem_of_getElem? (i := 1171) (by decide +kernel)
theorem tCod_X7_deal : Cond.code yX7_deal cX7_deal 6 (some .int) ∈ lw_tbl := List.mem_of_getElem? (i := 1172) (by decide +kernel)
theorem tMet_X7_164 : Cond.methodLink RX7 164 yX7_drawn ∈ lw_tbl := List.mem_of_getElem? (i := 1173) (by decide +kernel)
theorem tIns_X7_drawn : Cond.instanceMethod yX7_drawn ∈ lw_tbl := List.mem_of_getElem? (i := 1175) (by decide +kernel)
theorem tCod_X7_drawn : Cond.code yX7_drawn cX7_drawn 1 (some .int) ∈ lw_tbl := List.mem_of_getElem? (i := 1176) (by decide +kernel)
theorem tCon_X7_79 : Cond.constant RX7 79 (1103515245) ∈ lw_tbl := List.mem_of_getElem? (i := 1177) (by decide +kernel)
theorem tMet_L_56 : Cond.methodLink RL 56 yX7_seed ∈ lw_tbl := List.mem_of_getElem? (i := 1178) (by decide +kernel)
theorem tIns_X7_seed : Cond.instanceMethod yX7_seed ∈ lw_tbl := List.mem_of_getElem? (i := 1179) (by decide +kernel)
theorem tSel_X7_seed : Cond.selects RX7 yX7_seed yX7_seed ∈ lw_tbl := List.mem_of_getElem? (i := 1180) (by decide +kernel)
theorem tCod_X7_seed : Cond.code yX7_seed cX7_seed 2 (some .int) ∈ lw_tbl := List.mem_of_getElem? (i := 1181) (by decide +kernel)
theorem tMet_L_60 : Cond.methodLink RL 60 yX7_days ∈ lw_tbl := List.mem_of_getElem? (i := 1182) (by decide +kernel)
theorem tIns_X7_days : Cond.instanceMethod yX7_days ∈ lw_tbl := List.mem_of_getElem? (i := 1183) (by decide +kernel)
theorem tSel_X7_days : Cond.selects RX7 yX7_days yX7_days ∈ lw_tbl := List.mem_of_getElem? (i := 1184) (by decide +kernel)
theorem tCod_X7_days : Cond.code yX7_days cX7_days 4 (some .int) ∈ lw_tbl := List.mem_of_getElem? (i := 1185) (by decide +kernel)
theorem tCoL_X7_170 : Cond.constantLong RX7 170 (100) ∈ lw_tbl := List.mem_of_getElem? (i := 1186) (by decide +kernel)
theorem tMet_X7_172 : Cond.methodLink RX7 172 yX7_goesOn ∈ lw_tbl := List.mem_of_getElem? (i := 1187) (by decide +kernel)
theorem tIns_X7_goesOn : Cond.instanceMethod yX7_goesOn ∈ lw_tbl := List.mem_of_getElem? (i := 1189) (by decide +kernel)
theorem tCod_X7_goesOn : Cond.code yX7_goesOn cX7_goesOn 5 none ∈ lw_tbl := List.mem_of_getElem? (i := 1190) (by decide +kernel)
theorem tMet_X7_167 : Cond.methodLink RX7 167 yX7_fallsWith ∈ lw_tbl := List.mem_of_getElem? (i := 1191) (by decide +kernel)
theorem tIns_X7_fallsWith : Cond.instanceMethod yX7_fallsWith ∈ lw_tbl := List.mem_of_getElem? (i := 1193) (by decide +kernel)
theorem tCod_X7_fallsWith : Cond.code yX7_fallsWith cX7_fallsWith 5 (some .boolean) ∈ lw_tbl := List.mem_of_getElem? (i := 1194) (by decide +kernel)
theorem tMet_L_64 : Cond.methodLink RL 64 yX7_street ∈ lw_tbl := List.mem_of_getElem? (i := 1195) (by decide +kernel)
theorem tIns_X7_street : Cond.instanceMethod yX7_street ∈ lw_tbl := List.mem_of_getElem? (i := 1196) (by decide +kernel)
theorem tSel_X7_street : Cond.selects RX7 yX7_street yX7_street ∈ lw_tbl := List.mem_of_getElem? (i := 1197) (by decide +kernel)
theorem tCod_X7_street : Cond.code yX7_street cX7_street 2 (some .int) ∈ lw_tbl := List.mem_of_getElem? (i := 1198) (by decide +kernel)
theorem tMet_X7_175 : Cond.methodLink RX7 175 yX7_allOf ∈ lw_tbl := List.mem_of_getElem? (i := 1199) (by decide +kernel)
theorem tIns_X7_allOf : Cond.instanceMethod yX7_allOf ∈ lw_tbl := List.mem_of_getElem? (i := 1201) (by decide +kernel)
theorem tCod_X7_allOf : Cond.code yX7_allOf cX7_allOf 4 (some .int) ∈ lw_tbl := List.mem_of_getElem? (i := 1202) (by decide +kernel)
theorem tMet_X7_178 : Cond.methodLink RX7 178 yX7_looseOnes ∈ lw_tbl := List.mem_of_getElem? (i := 1203) (by decide +kernel)
theorem tIns_X7_looseOnes : Cond.instanceMethod yX7_looseOnes ∈ lw_tbl := List.mem_of_getElem? (i := 1205) (by decide +kernel)
theorem tCod_X7_looseOnes : Cond.code yX7_looseOnes cX7_looseOnes 3 (some .int) ∈ lw_tbl := List.mem_of_getElem? (i := 1206) (by decide +kernel)
theorem tMet_L_68 : Cond.methodLink RL 68 yX7_behind ∈ lw_tbl := List.mem_of_getElem? (i := 1207) (by decide +kernel)
theorem tIns_X7_behind : Cond.instanceMethod yX7_behind ∈ lw_tbl := List.mem_of_getElem? (i := 1208) (by decide +kernel)
theorem tSel_X7_behind : Cond.selects RX7 yX7_behind yX7_behind ∈ lw_tbl := List.mem_of_getElem? (i := 1209) (by decide +kernel)
theorem tCod_X7_behind : Cond.code yX7_behind cX7_behind 4 (some .int) ∈ lw_tbl := List.mem_of_getElem? (i := 1210) (by decide +kernel)
theorem tMet_X7_181 : Cond.methodLink RX7 181 yX7_laysBy ∈ lw_tbl := List.mem_of_getElem? (i := 1211) (by decide +kernel)
theorem tIns_X7_laysBy : Cond.instanceMethod yX7_laysBy ∈ lw_tbl := List.mem_of_getElem? (i := 1213) (by decide +kernel)
theorem tCod_X7_laysBy : Cond.code yX7_laysBy cX7_laysBy 2 none ∈ lw_tbl := List.mem_of_getElem? (i := 1214) (by decide +kernel)
theorem tMet_X7_184 : Cond.methodLink RX7 184 yX7_goesOnMany ∈ lw_tbl := List.mem_of_getElem? (i := 1215) (by decide +kernel)
theorem tIns_X7_goesOnMany : Cond.instanceMethod yX7_goesOnMany ∈ lw_tbl := List.mem_of_getElem? (i := 1217) (by decide +kernel)
theorem tCod_X7_goesOnMany : Cond.code yX7_goesOnMany cX7_goesOnMany 3 none ∈ lw_tbl := List.mem_of_getElem? (i := 1218) (by decide +kernel)
theorem tMet_X7_187 : Cond.methodLink RX7 187 yX7_laysBack ∈ lw_tbl := List.mem_of_getElem? (i := 1219) (by decide +kernel)
theorem tIns_X7_laysBack : Cond.instanceMethod yX7_laysBack ∈ lw_tbl := List.mem_of_getElem? (i := 1221) (by decide +kernel)
theorem tCod_X7_laysBack : Cond.code yX7_laysBack cX7_laysBack 2 none ∈ lw_tbl := List.mem_of_getElem? (i := 1222) (by decide +kernel)
theorem tMet_L_73 : Cond.methodLink RL 73 yX7_lasts ∈ lw_tbl := List.mem_of_getElem? (i := 1223) (by decide +kernel)
theorem tIns_X7_lasts : Cond.instanceMethod yX7_lasts ∈ lw_tbl := List.mem_of_getElem? (i := 1224) (by decide +kernel)
theorem tSel_X7_lasts : Cond.selects RX7 yX7_lasts yX7_lasts ∈ lw_tbl := List.mem_of_getElem? (i := 1225) (by decide +kernel)
theorem tCod_X7_lasts : Cond.code yX7_lasts cX7_lasts 4 (some .int) ∈ lw_tbl := List.mem_of_getElem? (i := 1226) (by decide +kernel)
theorem tMet_X7_190 : Cond.methodLink RX7 190 yX7_orNone ∈ lw_tbl := List.mem_of_getElem? (i := 1227) (by decide +kernel)
theorem tSta_X7_orNone : Cond.static yX7_orNone ∈ lw_tbl := List.mem_of_getElem? (i := 1228) (by decide +kernel)
theorem tCod_X7_orNone : Cond.code yX7_orNone cX7_orNone 1 (some .int) ∈ lw_tbl := List.mem_of_getElem? (i := 1229) (by decide +kernel)
theorem tCon_X7_70 : Cond.constant RX7 70 (-1000000005) ∈ lw_tbl := List.mem_of_getElem? (i := 1230) (by decide +kernel)
theorem tMet_L_77 : Cond.methodLink RL 77 yX7_taken ∈ lw_tbl := List.mem_of_getElem? (i := 1231) (by decide +kernel)
theorem tIns_X7_taken : Cond.instanceMethod yX7_taken ∈ lw_tbl := List.mem_of_getElem? (i := 1232) (by decide +kernel)
theorem tSel_X7_taken : Cond.selects RX7 yX7_taken yX7_taken ∈ lw_tbl := List.mem_of_getElem? (i := 1233) (by decide +kernel)
theorem tCod_X7_taken : Cond.code yX7_taken cX7_taken 5 (some .int) ∈ lw_tbl := List.mem_of_getElem? (i := 1234) (by decide +kernel)
theorem tCoL_X7_193 : Cond.constantLong RX7 193 (60) ∈ lw_tbl := List.mem_of_getElem? (i := 1235) (by decide +kernel)
theorem tMet_L_81 : Cond.methodLink RL 81 yX7_propped ∈ lw_tbl := List.mem_of_getElem? (i := 1236) (by decide +kernel)
theorem tIns_X7_propped : Cond.instanceMethod yX7_propped ∈ lw_tbl := List.mem_of_getElem? (i := 1237) (by decide +kernel)
theorem tSel_X7_propped : Cond.selects RX7 yX7_propped yX7_propped ∈ lw_tbl := List.mem_of_getElem? (i := 1238) (by decide +kernel)
theorem tCod_X7_propped : Cond.code yX7_propped cX7_propped 4 (some .int) ∈ lw_tbl := List.mem_of_getElem? (i := 1239) (by decide +kernel)
theorem tCoL_X7_195 : Cond.constantLong RX7 195 (40) ∈ lw_tbl := List.mem_of_getElem? (i := 1240) (by decide +kernel)
theorem tMet_X7_197 : Cond.methodLink RX7 197 yX7_keeps ∈ lw_tbl := List.mem_of_getElem? (i := 1241) (by decide +kernel)
theorem tIns_X7_keeps : Cond.instanceMethod yX7_keeps ∈ lw_tbl := List.mem_of_getElem? (i := 1243) (by decide +kernel)
theorem tCod_X7_keeps : Cond.code yX7_keeps cX7_keeps 4 (some .boolean) ∈ lw_tbl := List.mem_of_getElem? (i := 1244) (by decide +kernel)
theorem tMet_L_85 : Cond.methodLink RL 85 yX7_wall ∈ lw_tbl := List.mem_of_getElem? (i := 1245) (by decide +kernel)
theorem tIns_X7_wall : Cond.instanceMethod yX7_wall ∈ lw_tbl := List.mem_of_getElem? (i := 1246) (by decide +kernel)
theorem tSel_X7_wall : Cond.selects RX7 yX7_wall yX7_wall ∈ lw_tbl := List.mem_of_getElem? (i := 1247) (by decide +kernel)
theorem tCod_X7_wall : Cond.code yX7_wall cX7_wall 7 (some .int) ∈ lw_tbl := List.mem_of_getElem? (i := 1248) (by decide +kernel)
theorem tMet_L_89 : Cond.methodLink RL 89 yX7_snows ∈ lw_tbl := List.mem_of_getElem? (i := 1249) (by decide +kernel)
theorem tIns_X7_snows : Cond.instanceMethod yX7_snows ∈ lw_tbl := List.mem_of_getElem? (i := 1250) (by decide +kernel)
theorem tSel_X7_snows : Cond.selects RX7 yX7_snows yX7_snows ∈ lw_tbl := List.mem_of_getElem? (i := 1251) (by decide +kernel)
theorem tCod_X7_snows : Cond.code yX7_snows cX7_snows 3 (some .int) ∈ lw_tbl := List.mem_of_getElem? (i := 1252) (by decide +kernel)
theorem tMet_L_97 : Cond.methodLink RL 97 yX7_fee ∈ lw_tbl := List.mem_of_getElem? (i := 1253) (by decide +kernel)
theorem tIns_X7_fee : Cond.instanceMethod yX7_fee ∈ lw_tbl := List.mem_of_getElem? (i := 1254) (by decide +kernel)
theorem tSel_X7_fee : Cond.selects RX7 yX7_fee yX7_fee ∈ lw_tbl := List.mem_of_getElem? (i := 1255) (by decide +kernel)
theorem tCod_X7_fee : Cond.code yX7_fee cX7_fee 2 (some .int) ∈ lw_tbl := List.mem_of_getElem? (i := 1256) (by decide +kernel)
theorem tMet_L_101 : Cond.methodLink RL 101 yX7_fine ∈ lw_tbl := List.mem_of_getElem? (i := 1257) (by decide +kernel)
theorem tIns_X7_fine : Cond.instanceMethod yX7_fine ∈ lw_tbl := List.mem_of_getElem? (i := 1258) (by decide +kernel)
theorem tSel_X7_fine : Cond.selects RX7 yX7_fine yX7_fine ∈ lw_tbl := List.mem_of_getElem? (i := 1259) (by decide +kernel)
theorem tCod_X7_fine : Cond.code yX7_fine cX7_fine 3 (some .int) ∈ lw_tbl := List.mem_of_getElem? (i := 1260) (by decide +kernel)
theorem tMet_L_105 : Cond.methodLink RL 105 yX7_feed ∈ lw_tbl := List.mem_of_getElem? (i := 1261) (by decide +kernel)
theorem tIns_X7_feed : Cond.instanceMethod yX7_feed ∈ lw_tbl := List.mem_of_getElem? (i := 1262) (by decide +kernel)
theorem tSel_X7_feed : Cond.selects RX7 yX7_feed yX7_feed ∈ lw_tbl := List.mem_of_getElem? (i := 1263) (by decide +kernel)
theorem tCod_X7_feed : Cond.code yX7_feed cX7_feed 6 (some .int) ∈ lw_tbl := List.mem_of_getElem? (i := 1264) (by decide +kernel)
theorem tMet_L_109 : Cond.methodLink RL 109 yX7_trim ∈ lw_tbl := List.mem_of_getElem? (i := 1265) (by decide +kernel)
theorem tIns_X7_trim : Cond.instanceMethod yX7_trim ∈ lw_tbl := List.mem_of_getElem? (i := 1266) (by decide +kernel)
theorem tSel_X7_trim : Cond.selects RX7 yX7_trim yX7_trim ∈ lw_tbl := List.mem_of_getElem? (i := 1267) (by decide +kernel)
theorem tCod_X7_trim : Cond.code yX7_trim cX7_trim 2 (some .int) ∈ lw_tbl := List.mem_of_getElem? (i := 1268) (by decide +kernel)
theorem tMet_L_113 : Cond.methodLink RL 113 yX7_text ∈ lw_tbl := List.mem_of_getElem? (i := 1269) (by decide +kernel)
theorem tIns_X7_text : Cond.instanceMethod yX7_text ∈ lw_tbl := List.mem_of_getElem? (i := 1270) (by decide +kernel)
theorem tSel_X7_text : Cond.selects RX7 yX7_text yX7_text ∈ lw_tbl := List.mem_of_getElem? (i := 1271) (by decide +kernel)
theorem tCod_X7_text : Cond.code yX7_text cX7_text 3 (some .int) ∈ lw_tbl := List.mem_of_getElem? (i := 1272) (by decide +kernel)
theorem tMet_X7_289 : Cond.methodLink RX7 289 yX7_parse ∈ lw_tbl := List.mem_of_getElem? (i := 1273) (by decide +kernel)
theorem tIns_X7_parse : Cond.instanceMethod yX7_parse ∈ lw_tbl := List.mem_of_getElem? (i := 1275) (by decide +kernel)
theorem tCod_X7_parse : Cond.code yX7_parse cX7_parse 3 (some .int) ∈ lw_tbl := List.mem_of_getElem? (i := 1276) (by decide +kernel)
theorem tMet_X7_249 : Cond.methodLink RX7 249 yX7_nextToken ∈ lw_tbl := List.mem_of_getElem? (i := 1277) (by decide +kernel)
theorem tIns_X7_nextToken : Cond.instanceMethod yX7_nextToken ∈ lw_tbl := List.mem_of_getElem? (i := 1279) (by decide +kernel)
theorem tCod_X7_nextToken : Cond.code yX7_nextToken cX7_nextToken 3 none ∈ lw_tbl := List.mem_of_getElem? (i := 1280) (by decide +kernel)
theorem tMet_X7_221 : Cond.methodLink RX7 221 yX7_isLetter ∈ lw_tbl := List.mem_of_getElem? (i := 1281) (by decide +kernel)
theorem tIns_X7_isLetter : Cond.instanceMethod yX7_isLetter ∈ lw_tbl := List.mem_of_getElem? (i := 1283) (by decide +kernel)
theorem tCod_X7_isLetter : Cond.code yX7_isLetter cX7_isLetter 2 (some .boolean) ∈ lw_tbl := List.mem_of_getElem? (i := 1284) (by decide +kernel)
theorem tCoL_X7_204 : Cond.constantLong RX7 204 (97) ∈ lw_tbl := List.mem_of_getElem? (i := 1285) (by decide +kernel)
theorem tCoL_X7_206 : Cond.constantLong RX7 206 (122) ∈ lw_tbl := List.mem_of_getElem? (i := 1286) (by decide +kernel)
theorem tMet_X7_227 : Cond.methodLink RX7 227 yX7_isDigit ∈ lw_tbl := List.mem_of_getElem? (i := 1287) (by decide +kernel)
theorem tIns_X7_isDigit : Cond.instanceMethod yX7_isDigit ∈ lw_tbl := List.mem_of_getElem? (i := 1289) (by decide +kernel)
theorem tCod_X7_isDigit : Cond.code yX7_isDigit cX7_isDigit 2 (some .boolean) ∈ lw_tbl := List.mem_of_getElem? (i := 1290) (by decide +kernel)
theorem tCoL_X7_208 : Cond.constantLong RX7 208 (48) ∈ lw_tbl := List.mem_of_getElem? (i := 1291) (by decide +kernel)
theorem tCoL_X7_210 : Cond.constantLong RX7 210 (57) ∈ lw_tbl := List.mem_of_getElem? (i := 1292) (by decide +kernel)
theorem tMet_X7_286 : Cond.methodLink RX7 286 yX7_key ∈ lw_tbl := List.mem_of_getElem? (i := 1293) (by decide +kernel)
theorem tIns_X7_key : Cond.instanceMethod yX7_key ∈ lw_tbl := List.mem_of_getElem? (i := 1295) (by decide +kernel)
theorem tCod_X7_key : Cond.code yX7_key cX7_key 1 (some .int) ∈ lw_tbl := List.mem_of_getElem? (i := 1296) (by decide +kernel)
theorem tMet_X7_233 : Cond.methodLink RX7 233 yX7_isWordAt ∈ lw_tbl := List.mem_of_getElem? (i := 1297) (by decide +kernel)
theorem tIns_X7_isWordAt : Cond.instanceMethod yX7_isWordAt ∈ lw_tbl := List.mem_of_getElem? (i := 1299) (by decide +kernel)
theorem tCod_X7_isWordAt : Cond.code yX7_isWordAt cX7_isWordAt 6 (some .boolean) ∈ lw_tbl := List.mem_of_getElem? (i := 1300) (by decide +kernel)
theorem tMet_X7_280 : Cond.methodLink RX7 280 yX7_either ∈ lw_tbl := List.mem_of_getElem? (i := 1301) (by decide +kernel)
theorem tIns_X7_either : Cond.instanceMethod yX7_either ∈ lw_tbl := List.mem_of_getElem? (i := 1303) (by decide +kernel)
theorem tCod_X7_either : Cond.code yX7_either cX7_either 2 (some .boolean) ∈ lw_tbl := List.mem_of_getElem? (i := 1304) (by decide +kernel)
theorem tMet_X7_243 : Cond.methodLink RX7 243 yX7_both ∈ lw_tbl := List.mem_of_getElem? (i := 1305) (by decide +kernel)
theorem tIns_X7_both : Cond.instanceMethod yX7_both ∈ lw_tbl := List.mem_of_getElem? (i := 1307) (by decide +kernel)
theorem tCod_X7_both : Cond.code yX7_both cX7_both 2 (some .boolean) ∈ lw_tbl := List.mem_of_getElem? (i := 1308) (by decide +kernel)
theorem tMet_X7_256 : Cond.methodLink RX7 256 yX7_test ∈ lw_tbl := List.mem_of_getElem? (i := 1309) (by decide +kernel)
theorem tIns_X7_test : Cond.instanceMethod yX7_test ∈ lw_tbl := List.mem_of_getElem? (i := 1311) (by decide +kernel)
theorem tCod_X7_test : Cond.code yX7_test cX7_test 3 (some .boolean) ∈ lw_tbl := List.mem_of_getElem? (i := 1312) (by decide +kernel)
theorem tMet_X7_259 : Cond.methodLink RX7 259 yX7_sum ∈ lw_tbl := List.mem_of_getElem? (i := 1313) (by decide +kernel)
theorem tIns_X7_sum : Cond.instanceMethod yX7_sum ∈ lw_tbl := List.mem_of_getElem? (i := 1315) (by decide +kernel)
theorem tCod_X7_sum : Cond.code yX7_sum cX7_sum 3 (some .boolean) ∈ lw_tbl := List.mem_of_getElem? (i := 1316) (by decide +kernel)
theorem tMet_X7_262 : Cond.methodLink RX7 262 yX7_term ∈ lw_tbl := List.mem_of_getElem? (i := 1317) (by decide +kernel)
theorem tIns_X7_term : Cond.instanceMethod yX7_term ∈ lw_tbl := List.mem_of_getElem? (i := 1319) (by decide +kernel)
theorem tCod_X7_term : Cond.code yX7_term cX7_term 3 (some .boolean) ∈ lw_tbl := List.mem_of_getElem? (i := 1320) (by decide +kernel)
theorem tMet_X7_265 : Cond.methodLink RX7 265 yX7_part0 ∈ lw_tbl := List.mem_of_getElem? (i := 1321) (by decide +kernel)
theorem tIns_X7_part0 : Cond.instanceMethod yX7_part0 ∈ lw_tbl := List.mem_of_getElem? (i := 1323) (by decide +kernel)
theorem tCod_X7_part0 : Cond.code yX7_part0 cX7_part0 2 (some .boolean) ∈ lw_tbl := List.mem_of_getElem? (i := 1324) (by decide +kernel)
theorem tMet_X7_252 : Cond.methodLink RX7 252 yX7_step ∈ lw_tbl := List.mem_of_getElem? (i := 1325) (by decide +kernel)
theorem tIns_X7_step : Cond.instanceMethod yX7_step ∈ lw_tbl := List.mem_of_getElem? (i := 1327) (by decide +kernel)
theorem tCod_X7_step : Cond.code yX7_step cX7_step 3 none ∈ lw_tbl := List.mem_of_getElem? (i := 1328) (by decide +kernel)
theorem tMet_X7_271 : Cond.methodLink RX7 271 yX7_isName ∈ lw_tbl := List.mem_of_getElem? (i := 1329) (by decide +kernel)
theorem tSta_X7_isName : Cond.static yX7_isName ∈ lw_tbl := List.mem_of_getElem? (i := 1330) (by decide +kernel)
theorem tCod_X7_isName : Cond.code yX7_isName cX7_isName 2 (some .boolean) ∈ lw_tbl := List.mem_of_getElem? (i := 1331) (by decide +kernel)
theorem tMet_X7_246 : Cond.methodLink RX7 246 yX7_isSign ∈ lw_tbl := List.mem_of_getElem? (i := 1332) (by decide +kernel)
theorem tIns_X7_isSign : Cond.instanceMethod yX7_isSign ∈ lw_tbl := List.mem_of_getElem? (i := 1334) (by decide +kernel)
theorem tCod_X7_isSign : Cond.code yX7_isSign cX7_isSign 2 (some .boolean) ∈ lw_tbl := List.mem_of_getElem? (i := 1335) (by decide +kernel)
theorem tMet_L_117 : Cond.methodLink RL 117 yX7_textTold ∈ lw_tbl := List.mem_of_getElem? (i := 1336) (by decide +kernel)
theorem tIns_X7_textTold : Cond.instanceMethod yX7_textTold ∈ lw_tbl := List.mem_of_getElem? (i := 1337) (by decide +kernel)
theorem tSel_X7_textTold : Cond.selects RX7 yX7_textTold yX7_textTold ∈ lw_tbl := List.mem_of_getElem? (i := 1338) (by decide +kernel)
theorem tCod_X7_textTold : Cond.code yX7_textTold cX7_textTold 3 (some .int) ∈ lw_tbl := List.mem_of_getElem? (i := 1339) (by decide +kernel)
theorem tMet_X7_292 : Cond.methodLink RX7 292 yX7_isText ∈ lw_tbl := List.mem_of_getElem? (i := 1340) (by decide +kernel)
theorem tIns_X7_isText : Cond.instanceMethod yX7_isText ∈ lw_tbl := List.mem_of_getElem? (i := 1342) (by decide +kernel)
theorem tCod_X7_isText : Cond.code yX7_isText cX7_isText 2 (some .boolean) ∈ lw_tbl := List.mem_of_getElem? (i := 1343) (by decide +kernel)
theorem tMet_L_121 : Cond.methodLink RL 121 yX7_why ∈ lw_tbl := List.mem_of_getElem? (i := 1344) (by decide +kernel)
theorem tIns_X7_why : Cond.instanceMethod yX7_why ∈ lw_tbl := List.mem_of_getElem? (i := 1345) (by decide +kernel)
theorem tSel_X7_why : Cond.selects RX7 yX7_why yX7_why ∈ lw_tbl := List.mem_of_getElem? (i := 1346) (by decide +kernel)
theorem tCod_X7_why : Cond.code yX7_why cX7_why 2 (some .int) ∈ lw_tbl := List.mem_of_getElem? (i := 1347) (by decide +kernel)
theorem tCoL_X7_295 : Cond.constantLong RX7 295 (2) ∈ lw_tbl := List.mem_of_getElem? (i := 1348) (by decide +kernel)
theorem tMet_L_125 : Cond.methodLink RL 125 yX7_sheet ∈ lw_tbl := List.mem_of_getElem? (i := 1349) (by decide +kernel)
theorem tIns_X7_sheet : Cond.instanceMethod yX7_sheet ∈ lw_tbl := List.mem_of_getElem? (i := 1350) (by decide +kernel)
theorem tSel_X7_sheet : Cond.selects RX7 yX7_sheet yX7_sheet ∈ lw_tbl := List.mem_of_getElem? (i := 1351) (by decide +kernel)
theorem tCod_X7_sheet : Cond.code yX7_sheet cX7_sheet 5 (some .int) ∈ lw_tbl := List.mem_of_getElem? (i := 1352) (by decide +kernel)
theorem tMet_X7_302 : Cond.methodLink RX7 302 yX7_isSheet ∈ lw_tbl := List.mem_of_getElem? (i := 1353) (by decide +kernel)
theorem tSta_X7_isSheet : Cond.static yX7_isSheet ∈ lw_tbl := List.mem_of_getElem? (i := 1354) (by decide +kernel)
theorem tCod_X7_isSheet : Cond.code yX7_isSheet cX7_isSheet 1 (some .boolean) ∈ lw_tbl := List.mem_of_getElem? (i := 1355) (by decide +kernel)
theorem tCoL_X7_300 : Cond.constantLong RX7 300 (3) ∈ lw_tbl := List.mem_of_getElem? (i := 1356) (by decide +kernel)
theorem tCoL_X7_305 : Cond.constantLong RX7 305 (-1) ∈ lw_tbl := List.mem_of_getElem? (i := 1357) (by decide +kernel)
theorem tCon_X7_307 : Cond.constant RX7 307 (-1000000014) ∈ lw_tbl := List.mem_of_getElem? (i := 1358) (by decide +kernel)
theorem tMet_L_129 : Cond.methodLink RL 129 yX7_mark ∈ lw_tbl := List.mem_of_getElem? (i := 1359) (by decide +kernel)
theorem tIns_X7_mark : Cond.instanceMethod yX7_mark ∈ lw_tbl := List.mem_of_getElem? (i := 1360) (by decide +kernel)
theorem tSel_X7_mark : Cond.selects RX7 yX7_mark yX7_mark ∈ lw_tbl := List.mem_of_getElem? (i := 1361) (by decide +kernel)
theorem tCod_X7_mark : Cond.code yX7_mark cX7_mark 4 (some .int) ∈ lw_tbl := List.mem_of_getElem? (i := 1362) (by decide +kernel)
theorem tCon_X7_308 : Cond.constant RX7 308 (-1000000011) ∈ lw_tbl := List.mem_of_getElem? (i := 1363) (by decide +kernel)
theorem tCon_X7_309 : Cond.constant RX7 309 (-1000000013) ∈ lw_tbl := List.mem_of_getElem? (i := 1364) (by decide +kernel)
theorem tCoL_X7_310 : Cond.constantLong RX7 310 (-99999) ∈ lw_tbl := List.mem_of_getElem? (i := 1365) (by decide +kernel)
theorem tCoL_X7_312 : Cond.constantLong RX7 312 (99999) ∈ lw_tbl := List.mem_of_getElem? (i := 1366) (by decide +kernel)
theorem tMet_L_133 : Cond.methodLink RL 133 yX7_pour ∈ lw_tbl := List.mem_of_getElem? (i := 1367) (by decide +kernel)
theorem tIns_X7_pour : Cond.instanceMethod yX7_pour ∈ lw_tbl := List.mem_of_getElem? (i := 1368) (by decide +kernel)
theorem tSel_X7_pour : Cond.selects RX7 yX7_pour yX7_pour ∈ lw_tbl := List.mem_of_getElem? (i := 1369) (by decide +kernel)
theorem tCod_X7_pour : Cond.code yX7_pour cX7_pour 6 (some .int) ∈ lw_tbl := List.mem_of_getElem? (i := 1370) (by decide +kernel)
theorem tMet_L_137 : Cond.methodLink RL 137 yX7_reads ∈ lw_tbl := List.mem_of_getElem? (i := 1371) (by decide +kernel)
theorem tIns_X7_reads : Cond.instanceMethod yX7_reads ∈ lw_tbl := List.mem_of_getElem? (i := 1372) (by decide +kernel)
theorem tSel_X7_reads : Cond.selects RX7 yX7_reads yX7_reads ∈ lw_tbl := List.mem_of_getElem? (i := 1373) (by decide +kernel)
theorem tCod_X7_reads : Cond.code yX7_reads cX7_reads 4 (some .int) ∈ lw_tbl := List.mem_of_getElem? (i := 1374) (by decide +kernel)
theorem tMet_L_93 : Cond.methodLink RL 93 yX7_began ∈ lw_tbl := List.mem_of_getElem? (i := 1375) (by decide +kernel)
theorem tIns_X7_began : Cond.instanceMethod yX7_began ∈ lw_tbl := List.mem_of_getElem? (i := 1376) (by decide +kernel)
theorem tSel_X7_began : Cond.selects RX7 yX7_began yX7_began ∈ lw_tbl := List.mem_of_getElem? (i := 1377) (by decide +kernel)
theorem tCod_X7_began : Cond.code yX7_began cX7_began 10 (some .int) ∈ lw_tbl := List.mem_of_getElem? (i := 1378) (by decide +kernel)
theorem tMet_L_142 : Cond.methodLink RL 142 yX7_copy ∈ lw_tbl := List.mem_of_getElem? (i := 1379) (by decide +kernel)
theorem tIns_X7_copy : Cond.instanceMethod yX7_copy ∈ lw_tbl := List.mem_of_getElem? (i := 1380) (by decide +kernel)
theorem tSel_X7_copy : Cond.selects RX7 yX7_copy yX7_copy ∈ lw_tbl := List.mem_of_getElem? (i := 1381) (by decide +kernel)
theorem tCod_X7_copy : Cond.code yX7_copy cX7_copy 7 (some .int) ∈ lw_tbl := List.mem_of_getElem? (i := 1382) (by decide +kernel)
theorem tMet_L_146 : Cond.methodLink RL 146 yX7_lay ∈ lw_tbl := List.mem_of_getElem? (i := 1383) (by decide +kernel)
theorem tIns_X7_lay : Cond.instanceMethod yX7_lay ∈ lw_tbl := List.mem_of_getElem? (i := 1384) (by decide +kernel)
theorem tSel_X7_lay : Cond.selects RX7 yX7_lay yX7_lay ∈ lw_tbl := List.mem_of_getElem? (i := 1385) (by decide +kernel)
theorem tCod_X7_lay : Cond.code yX7_lay cX7_lay 7 (some .int) ∈ lw_tbl := List.mem_of_getElem? (i := 1386) (by decide +kernel)
theorem tMet_X7_316 : Cond.methodLink RX7 316 yX7_isSlot ∈ lw_tbl := List.mem_of_getElem? (i := 1387) (by decide +kernel)
theorem tSta_X7_isSlot : Cond.static yX7_isSlot ∈ lw_tbl := List.mem_of_getElem? (i := 1388) (by decide +kernel)
theorem tCod_X7_isSlot : Cond.code yX7_isSlot cX7_isSlot 1 (some .boolean) ∈ lw_tbl := List.mem_of_getElem? (i := 1389) (by decide +kernel)
theorem tCoL_X7_314 : Cond.constantLong RX7 314 (4) ∈ lw_tbl := List.mem_of_getElem? (i := 1390) (by decide +kernel)
theorem tMet_L_150 : Cond.methodLink RL 150 yX7_ask ∈ lw_tbl := List.mem_of_getElem? (i := 1391) (by decide +kernel)
theorem tIns_X7_ask : Cond.instanceMethod yX7_ask ∈ lw_tbl := List.mem_of_getElem? (i := 1392) (by decide +kernel)
theorem tSel_X7_ask : Cond.selects RX7 yX7_ask yX7_ask ∈ lw_tbl := List.mem_of_getElem? (i := 1393) (by decide +kernel)
theorem tCod_X7_ask : Cond.code yX7_ask cX7_ask 3 (some .int) ∈ lw_tbl := List.mem_of_getElem? (i := 1394) (by decide +kernel)
theorem tMet_L_154 : Cond.methodLink RL 154 yX7_item ∈ lw_tbl := List.mem_of_getElem? (i := 1395) (by decide +kernel)
theorem tIns_X7_item : Cond.instanceMethod yX7_item ∈ lw_tbl := List.mem_of_getElem? (i := 1396) (by decide +kernel)
theorem tSel_X7_item : Cond.selects RX7 yX7_item yX7_item ∈ lw_tbl := List.mem_of_getElem? (i := 1397) (by decide +kernel)
theorem tCod_X7_item : Cond.code yX7_item cX7_item 4 (some .int) ∈ lw_tbl := List.mem_of_getElem? (i := 1398) (by decide +kernel)
theorem tMet_L_158 : Cond.methodLink RL 158 yX7_rest ∈ lw_tbl := List.mem_of_getElem? (i := 1399) (by decide +kernel)
theorem tIns_X7_rest : Cond.instanceMethod yX7_rest ∈ lw_tbl := List.mem_of_getElem? (i := 1400) (by decide +kernel)
theorem tSel_X7_rest : Cond.selects RX7 yX7_rest yX7_rest ∈ lw_tbl := List.mem_of_getElem? (i := 1401) (by decide +kernel)
theorem tCod_X7_rest : Cond.code yX7_rest cX7_rest 3 (some .int) ∈ lw_tbl := List.mem_of_getElem? (i := 1402) (by decide +kernel)
theorem tMet_L_162 : Cond.methodLink RL 162 yX7_tell ∈ lw_tbl := List.mem_of_getElem? (i := 1403) (by decide +kernel)
theorem tIns_X7_tell : Cond.instanceMethod yX7_tell ∈ lw_tbl := List.mem_of_getElem? (i := 1404) (by decide +kernel)
theorem tSel_X7_tell : Cond.selects RX7 yX7_tell yX7_tell ∈ lw_tbl := List.mem_of_getElem? (i := 1405) (by decide +kernel)
theorem tCod_X7_tell : Cond.code yX7_tell cX7_tell 2 (some .int) ∈ lw_tbl := List.mem_of_getElem? (i := 1406) (by decide +kernel)
theorem tMet_L_166 : Cond.methodLink RL 166 yX7_check ∈ lw_tbl := List.mem_of_getElem? (i := 1407) (by decide +kernel)
theorem tIns_X7_check : Cond.instanceMethod yX7_check ∈ lw_tbl := List.mem_of_getElem? (i := 1408) (by decide +kernel)
theorem tSel_X7_check : Cond.selects RX7 yX7_check yX7_check ∈ lw_tbl := List.mem_of_getElem? (i := 1409) (by decide +kernel)
theorem tCod_X7_check : Cond.code yX7_check cX7_check 5 (some .int) ∈ lw_tbl := List.mem_of_getElem? (i := 1410) (by decide +kernel)
theorem tCoL_X7_322 : Cond.constantLong RX7 322 (30) ∈ lw_tbl := List.mem_of_getElem? (i := 1411) (by decide +kernel)
theorem tMet_X7_328 : Cond.methodLink RX7 328 yX7_setAside ∈ lw_tbl := List.mem_of_getElem? (i := 1412) (by decide +kernel)
theorem tIns_X7_setAside : Cond.instanceMethod yX7_setAside ∈ lw_tbl := List.mem_of_getElem? (i := 1414) (by decide +kernel)
theorem tCod_X7_setAside : Cond.code yX7_setAside cX7_setAside 4 none ∈ lw_tbl := List.mem_of_getElem? (i := 1415) (by decide +kernel)
theorem tMet_L_170 : Cond.methodLink RL 170 yX7_keep ∈ lw_tbl := List.mem_of_getElem? (i := 1416) (by decide +kernel)
theorem tIns_X7_keep : Cond.instanceMethod yX7_keep ∈ lw_tbl := List.mem_of_getElem? (i := 1417) (by decide +kernel)
theorem tSel_X7_keep : Cond.selects RX7 yX7_keep yX7_keep ∈ lw_tbl := List.mem_of_getElem? (i := 1418) (by decide +kernel)
theorem tCod_X7_keep : Cond.code yX7_keep cX7_keep 1 (some .int) ∈ lw_tbl := List.mem_of_getElem? (i := 1419) (by decide +kernel)
theorem tMet_L_174 : Cond.methodLink RL 174 yX7_back ∈ lw_tbl := List.mem_of_getElem? (i := 1420) (by decide +kernel)
theorem tIns_X7_back : Cond.instanceMethod yX7_back ∈ lw_tbl := List.mem_of_getElem? (i := 1421) (by decide +kernel)
theorem tSel_X7_back : Cond.selects RX7 yX7_back yX7_back ∈ lw_tbl := List.mem_of_getElem? (i := 1422) (by decide +kernel)
theorem tCod_X7_back : Cond.code yX7_back cX7_back 1 (some .int) ∈ lw_tbl := List.mem_of_getElem? (i := 1423) (by decide +kernel)
theorem tMet_L_178 : Cond.methodLink RL 178 yX7_count ∈ lw_tbl := List.mem_of_getElem? (i := 1424) (by decide +kernel)
theorem tIns_X7_count : Cond.instanceMethod yX7_count ∈ lw_tbl := List.mem_of_getElem? (i := 1425) (by decide +kernel)
theorem tSel_X7_count : Cond.selects RX7 yX7_count yX7_count ∈ lw_tbl := List.mem_of_getElem? (i := 1426) (by decide +kernel)
theorem tCod_X7_count : Cond.code yX7_count cX7_count 2 (some .int) ∈ lw_tbl := List.mem_of_getElem? (i := 1427) (by decide +kernel)
theorem tFld_J0_9 : Cond.fieldLink RJ0 9 "java/lang/String" "value" "[B" ∈ lw_tbl := List.mem_of_getElem? (i := 1428) (by decide +kernel)
theorem tFld_J0_15 : Cond.fieldLink RJ0 15 "java/lang/String" "coder" "B" ∈ lw_tbl := List.mem_of_getElem? (i := 1429) (by decide +kernel)
end
section
theorem mem_places {big : List Cond} (ws : List Cond) (ps : List Nat) (hp : ws = ps.filterMap (fun i => big[i]?)) : ∀ w ∈ ws, w ∈ big := by
  intro w hw
  rw [hp] at hw
  obtain ⟨i, -, hi⟩ := List.mem_filterMap.mp hw
  exact List.mem_of_getElem? hi
/-- the tables' words that calls carry along -/
def zT : List Cond := lw_tbl.filter goodWord
/-- a method's words here: its code, then all of zT -/
abbrev zW (y : MethodName) (c : ByteArray) (n : Nat) (r : Option FieldType) : List Cond := Cond.code y c n r :: zT
theorem z_in {w : Cond} (h : w ∈ lw_tbl) (hg : goodWord w = true) : w ∈ zT := List.mem_filter.mpr ⟨h, hg⟩
theorem z_good {w : Cond} (h : w ∈ zT) : goodWord w = true := (List.mem_filter.mp h).2
theorem zu {w w0 : Cond} (h : w ∈ lw_tbl) (hg : goodWord w = true) : w ∈ w0 :: zT := List.mem_cons_of_mem _ (z_in h hg)
theorem z_V {w0 : Cond} {own C : String} {idx : Nat} {y : MethodName} {c : ByteArray} {n : Nat} {r : Option FieldType} (h1 : Cond.methodLink own idx y ∈ lw_tbl) (h2 : Cond.instanceMethod y ∈ lw_tbl) (h3 : Cond.selects C y y ∈ lw_tbl) (h4 : Cond.initialized C ∈ lw_tbl) (h5 : Cond.code y c n r ∈ lw_tbl) : GoodIn (w0 :: zT) (wsV own idx C y (zW y c n r)) := by
  intro w hw
  have hm : w ∈ zT := by
    simp only [wsV, List.mem_append, List.mem_cons, List.not_mem_nil, or_false] at hw
    rcases hw with (rfl | rfl | rfl | rfl) | rfl | h
    · exact z_in h1 rfl
    · exact z_in h2 rfl
    · exact z_in h3 rfl
    · exact z_in h4 rfl
    · exact z_in h5 rfl
    · exact h
  exact ⟨List.mem_cons_of_mem _ hm, good_of_word (z_good hm)⟩
theorem z_S {w0 : Cond} {own : String} {idx : Nat} {y : MethodName} {c : ByteArray} {n : Nat} {r : Option FieldType} (h1 : Cond.methodLink own idx y ∈ lw_tbl) (h2 : Cond.static y ∈ lw_tbl) (h4 : Cond.initialized y.cls ∈ lw_tbl) (h5 : Cond.code y c n r ∈ lw_tbl) : GoodIn (w0 :: zT) (va_wsS own idx y (zW y c n r)) := by
  intro w hw
  have hm : w ∈ zT := by
    simp only [va_wsS, List.mem_append, List.mem_cons, List.not_mem_nil, or_false] at hw
    rcases hw with (rfl | rfl | rfl) | rfl | h
    · exact z_in h1 rfl
    · exact z_in h2 rfl
    · exact z_in h4 rfl
    · exact z_in h5 rfl
    · exact h
  exact ⟨List.mem_cons_of_mem _ hm, good_of_word (z_good hm)⟩
theorem zin_X0 {w0 : Cond} : ∀ w ∈ wsX00, w ∈ w0 :: zT := fun w h => zu (mem_places _ [129, 131, 133, 135, 137, 139, 141] (by decide +kernel) w h) (List.all_eq_true.mp (show wsX00.all goodWord = true by decide +kernel) w h)
theorem zin_X1 {w0 : Cond} : ∀ w ∈ wsX10, w ∈ w0 :: zT := fun w h => zu (mem_places _ [209, 211, 213, 215, 217, 219, 221, 223, 225] (by decide +kernel) w h) (List.all_eq_true.mp (show wsX10.all goodWord = true by decide +kernel) w h)
theorem zin_X2 {w0 : Cond} : ∀ w ∈ wsX20, w ∈ w0 :: zT := fun w h => zu (mem_places _ [245, 247, 249] (by decide +kernel) w h) (List.all_eq_true.mp (show wsX20.all goodWord = true by decide +kernel) w h)
theorem zin_X3 {w0 : Cond} : ∀ w ∈ wsX30, w ∈ w0 :: zT := fun w h => zu (mem_places _ [269, 271, 273, 275] (by decide +kernel) w h) (List.all_eq_true.mp (show wsX30.all goodWord = true by decide +kernel) w h)
theorem zin_X4 {w0 : Cond} : ∀ w ∈ wsX40, w ∈ w0 :: zT := fun w h => zu (mem_places _ [167, 169, 171, 173, 175, 177, 179, 181, 183, 185, 187, 189] (by decide +kernel) w h) (List.all_eq_true.mp (show wsX40.all goodWord = true by decide +kernel) w h)
theorem zin_X5 {w0 : Cond} : ∀ w ∈ wsX50, w ∈ w0 :: zT := fun w h => zu (mem_places _ [820, 822, 824, 826, 828] (by decide +kernel) w h) (List.all_eq_true.mp (show wsX50.all goodWord = true by decide +kernel) w h)
theorem zin_X6 {w0 : Cond} : ∀ w ∈ wsX60, w ∈ w0 :: zT := fun w h => zu (mem_places _ [287, 289, 291, 293, 295, 297, 299, 301, 303] (by decide +kernel) w h) (List.all_eq_true.mp (show wsX60.all goodWord = true by decide +kernel) w h)
theorem zin_X7 {w0 : Cond} : ∀ w ∈ wsX70, w ∈ w0 :: zT := fun w h => zu (mem_places _ [973, 975, 977, 979, 981, 983, 985, 987, 989, 991, 993, 995, 997, 999, 1001, 1003, 1005, 1007, 1009, 1011, 1013, 1015, 1017, 1019, 1021, 1023, 1025, 1027, 1029, 1031, 1033, 1035, 1037] (by decide +kernel) w h) (List.all_eq_true.mp (show wsX70.all goodWord = true by decide +kernel) w h)
end
section
/-! ===== the machine's fixed things in one tuple; the judgement GW; contracts GM ===== -/
abbrev GC : Type := Program × Launch × Env × Room × State × MethodId × Array Value × List Frame × Method × Code × (State → Prop) × (Nat → Prop) × va_G × (Nat → ClassId) × Nat × ((Nat → Prop) → State → Heap → Prop)
/-- the array classes that worlds name: ints, houses, rows, slots, texts -/
def zTy (c : Nat → ClassId) : List (ClassId × FieldType) := [(c 0, .int), (c 1, .object "LeaningStreet$House"), (c 2, .object "LeaningStreet$Row"), (c 3, .object "LeaningStreet$Slot"), (c 4, .object "LeaningStreet$Text")]
/-- what is carried along beside the world: it may be narrowed, moved, and stays where nobody writes -/
def zOK (Z : (Nat → Prop) → State → Heap → Prop) : Prop := (∀ (A B : Nat → Prop) (U : State) (H : Heap), (∀ q, B q → A q) → Z A U H → Z B U H) ∧ (∀ (A : Nat → Prop) (u U : State) (H : Heap), u.vm.Alike U.vm → Z A u H → Z A U H) ∧ (∀ (A : Nat → Prop) (U : State) (H H1 : Heap), (∀ a : Nat, a < H.size → ¬ A a → H1[a]? = H[a]?) → Z A U H → Z A U H1)
def Kl (κ : GC) : Launch := κ.2.1
def KD (κ : GC) : va_G := κ.2.2.2.2.2.2.2.2.2.2.2.2.1
def GN (κ : GC) (n : Nat) : Prop := κ.2.2.2.2.2.2.2.2.2.2.2.2.2.2.1 = n
/-- from here on: with the world w, at pc, locals lv, operands st, n1 cells of n2 slots made so far, it comes to its end -/
def GW (κ : GC) (n1 n2 : Nat) (w : va_W) (pc : Nat) (lv : List (Nat × Value)) (st : List Value) : Prop :=
  match κ with
  | (p, l, e, R, s, m, args, below, meth, c, Q, A, D, cy, nL, Z) => ∀ (H : Heap) (locs : List Loc) (ls : Array Slot), va_P D vwCl w H → va_D A w → va_S A s.heap H locs → lv_has ls nL lv → W p l e R s m args below meth c H locs n1 n2 Q (F0 m pc ls st)
/-- the fixed facts of a body: machine, code, words, own class, the tables, the room -/
def GX (κ : GC) (cy0 : Nat → ClassId) (Z0 : (Nat → Prop) → State → Heap → Prop) (cc : ByteArray) (Ts : List Cond) (own : String) (rm : Room) : Prop :=
  match κ with
  | (p, l, e, R, s, m, args, below, meth, c, Q, A, D, cy, nL, Z) => p.tables.exec = Jvm.exec ∧ c.code = cc ∧ (∀ w ∈ Ts, w.before args s = true) ∧ s.vm.findClass own = some m.cls ∧ va_K D vwCl (zTy cy) s ∧ c.maxLocals = nL ∧ (∀ q, s.heap.size ≤ q → A q) ∧ meth.locks = false ∧ R = rm ∧ cy = cy0 ∧ Z = Z0 ∧ Z A s s.heap
/-- a contract: from the world w the method answers res and leaves the world w2, with Po res w2; mc cells of ms slots are new -/
def GM (l : Launch) (D : va_G) (cy : Nat → ClassId) (Z : (Nat → Prop) → State → Heap → Prop) (y : MethodName) (ws : List Cond) (rm : Room) (av : List Value) (w : va_W) (Po : Option Value → va_W → Prop) (mc ms : Nat) : Prop :=
  ∀ sz : Nat, Met l y ws rm (va_Pc av (fun U => U.heap.size = sz ∧ va_P D vwCl w U.heap ∧ va_K D vwCl (zTy cy) U ∧ va_D (fun _ => True) w ∧ Z (va_A w sz) U U.heap)) (fun _ st oc t => (∃ (res : Option Value) (w2 : va_W), Po res w2 ∧ oc = .returned res ∧ va_P D vwCl w2 t.heap ∧ va_D (va_A w sz) w2) ∧ va_F (va_A w sz) st t) mc ms (va_A w sz)
/-- a contract with one answer and one world -/
def GD (l : Launch) (D : va_G) (cy : Nat → ClassId) (Z : (Nat → Prop) → State → Heap → Prop) (y : MethodName) (ws : List Cond) (rm : Room) (av : List Value) (w : va_W) (res : Option Value) (w2 : va_W) (mc ms : Nat) : Prop := GM l D cy Z y ws rm av w (fun x y => x = res ∧ y = w2) mc ms
/-- the end of a body -/
def GR (κ : GC) (cc : ByteArray) (mc ms : Nat) (ret : Option FieldType) (Po : Option Value → va_W → Prop) : Prop := ∀ (res : Option Value) (w2 : va_W), Po res w2 →
  (∀ (ty : FieldType) (x : Int32) (pc : Nat) (lv : List (Nat × Value)), ret = some ty → res = some (.int x) → narrow ty (.int x) = .int x → decode cc pc = .ok (.ireturn, 1) → GW κ mc ms w2 pc lv [.int x]) ∧
  (∀ (pc : Nat) (lv : List (Nat × Value)), ret = none → res = none → decode cc pc = .ok (.return_, 1) → GW κ mc ms w2 pc lv []) ∧
  (∀ (rt : FieldType) (v : Value) (pc : Nat) (lv : List (Nat × Value)), ret = some rt → ((∃ n, rt = .object n) ∨ ∃ t, rt = .array t) → (v = .null ∨ ∃ a, v = .ref a) → res = some v → decode cc pc = .ok (.areturn, 1) → GW κ mc ms w2 pc lv [v])
set_option maxHeartbeats 4000000 in
theorem g_entry {l : Launch} {D : va_G} {cy : Nat → ClassId} {Z : (Nat → Prop) → State → Heap → Prop} {y : MethodName} {ws ws' : List Cond} {rm : Room} {cc : ByteArray} {maxL : Nat} {ret : Option FieldType} {av : List Value} {w : va_W} {Po : Option Value → va_W → Prop} {mc ms : Nat} (hy : plainName y.cls = true) (hw : ws = Cond.code y cc maxL ret :: ws') (hlen : (lg_sl av).length ≤ maxL)
    (body : ∀ κ : GC, GN κ maxL → GX κ cy Z cc ws y.cls rm → GR κ cc mc ms ret Po → GW κ 0 0 w 0 (lv_args 0 av) []) : GM l D cy Z y ws rm av w Po mc ms := by
  intro sz
  refine Met.ofW (cc := cc) (maxL := maxL) (ret := ret) hy hw ?_
  intro p e s m args below meth c s₁ B hml hv
  obtain ⟨rfl, hsz, hP, hK, hD0, hZ⟩ := hv
  have hx := B.exec
  have hb := B.bytes
  have hr := B.returns
  have hts := atoms_spec (ws := ws) B.pre
  have hown : s.vm.findClass y.cls = some m.cls := findClass_of_methodNamed B.named
  have hlocks := B.notSynchronized
  subst hsz
  have hD := hD0.self (sz := s.heap.size)
  have hl := lv_entry av (n := maxL) hlen
  rw [lg_entry_eq]
  have hS : va_S (va_A w s.heap.size) s.heap s.heap [] := va_S.rf
  refine body (p, l, e, (headSpec ws rm).room, s, m, av.toArray, below, meth, c, (MQ below (fun _ st oc t => (∃ (res : Option Value) (w2 : va_W), Po res w2 ∧ oc = .returned res ∧ va_P D vwCl w2 t.heap ∧ va_D (va_A w s.heap.size) w2) ∧ va_F (va_A w s.heap.size) st t) av.toArray s mc ms (va_A w s.heap.size)), va_A w s.heap.size, D, cy, maxL, Z) rfl ⟨hx, hb, hts, hown, hK, hml, fun q h => Or.inr h, hlocks, rfl, rfl, rfl, hZ⟩ (fun res w2 hPo => ⟨?_, ?_, ?_⟩) s.heap [] _ hP hD hS hl
  · intro ty x pc lv e1 e2 hn hdg H locs ls hP hD hS hl
    exact W.zret hx hb (hr.trans e1) hn (fun t ht hW => ⟨⟨_, w2, hPo, by rw [e2], by rw [ht]; exact hP, hD⟩, hS.F ht⟩) hS.2.2 hdg hlocks
  · intro pc lv e1 e2 hdg H locs ls hP hD hS hl
    exact W.vret hx hb (hr.trans e1) (fun t ht hW => ⟨⟨_, w2, hPo, by rw [e2], by rw [ht]; exact hP, hD⟩, hS.F ht⟩) hS.2.2 hdg hlocks
  · intro rt v pc lv e1 hrt hv e2 hdg H locs ls hP hD hS hl
    exact W.aret hx hb (hr.trans e1) hrt hv (fun t ht hW => ⟨⟨_, w2, hPo, by rw [e2], by rw [ht]; exact hP, hD⟩, hS.F ht⟩) hS.2.2 hdg hlocks

section GG
variable {κ : GC} {cy : Nat → ClassId} {Z : (Nat → Prop) → State → Heap → Prop} {cc : ByteArray} {Ts : List Cond} {own : String} {rm : Room} {n1 n2 : Nat} {w : va_W} {pc : Nat} {lv : List (Nat × Value)} {st : List Value}
theorem g_iconst (hX : GX κ cy Z cc Ts own rm) {n : Int} {v : Int32} (hv : Int32.ofInt n = v) (d : decode cc pc = .ok (.iconst n, 1)) (k : GW κ n1 n2 w (pc + 1) lv (.int v :: st)) : GW κ n1 n2 w pc lv (st) := by
  obtain ⟨p, l, e, R, s, m, args, below, meth, c, Q, A, D, cy', nL', Z'⟩ := κ
  obtain ⟨hx, hb, hts, hown, hK, hml, hA, hlk, hR, hcy, hZe, hZ⟩ := hX
  intro H locs ls hP hD hS hl
  exact lv_iconst hx hb d hv (k H locs ls hP hD hS hl)
theorem g_bipush (hX : GX κ cy Z cc Ts own rm) {n : Int} {v : Int32} (hv : (Int8.ofInt n).toInt32 = v) (d : decode cc pc = .ok (.bipush n, 2)) (k : GW κ n1 n2 w (pc + 2) lv (.int v :: st)) : GW κ n1 n2 w pc lv (st) := by
  obtain ⟨p, l, e, R, s, m, args, below, meth, c, Q, A, D, cy', nL', Z'⟩ := κ
  obtain ⟨hx, hb, hts, hown, hK, hml, hA, hlk, hR, hcy, hZe, hZ⟩ := hX
  intro H locs ls hP hD hS hl
  exact lv_bipush hx hb d hv (k H locs ls hP hD hS hl)
theorem g_sipush (hX : GX κ cy Z cc Ts own rm) {n : Int} {v : Int32} (hv : (Int16.ofInt n).toInt32 = v) (d : decode cc pc = .ok (.sipush n, 3)) (k : GW κ n1 n2 w (pc + 3) lv (.int v :: st)) : GW κ n1 n2 w pc lv (st) := by
  obtain ⟨p, l, e, R, s, m, args, below, meth, c, Q, A, D, cy', nL', Z'⟩ := κ
  obtain ⟨hx, hb, hts, hown, hK, hml, hA, hlk, hR, hcy, hZe, hZ⟩ := hX
  intro H locs ls hP hD hS hl
  exact lv_sipush hx hb d hv (k H locs ls hP hD hS hl)
theorem g_lconst (hX : GX κ cy Z cc Ts own rm) {n : Fin 2} {v : Int64} (hv : Int64.ofNat (n : Nat) = v) (d : decode cc pc = .ok (.lconst n, 1)) (k : GW κ n1 n2 w (pc + 1) lv (.long v :: st)) : GW κ n1 n2 w pc lv (st) := by
  obtain ⟨p, l, e, R, s, m, args, below, meth, c, Q, A, D, cy', nL', Z'⟩ := κ
  obtain ⟨hx, hb, hts, hown, hK, hml, hA, hlk, hR, hcy, hZe, hZ⟩ := hX
  intro H locs ls hP hD hS hl
  exact lv_lconst hx hb d hv (k H locs ls hP hD hS hl)
theorem g_ldc (hX : GX κ cy Z cc Ts own rm) {index : Nat} {v : Int32} (hm : Cond.constant own index v ∈ Ts) (d : decode cc pc = .ok (.ldc index, 2)) (k : GW κ n1 n2 w (pc + 2) lv (.int v :: st)) : GW κ n1 n2 w pc lv (st) := by
  obtain ⟨p, l, e, R, s, m, args, below, meth, c, Q, A, D, cy', nL', Z'⟩ := κ
  obtain ⟨hx, hb, hts, hown, hK, hml, hA, hlk, hR, hcy, hZe, hZ⟩ := hX
  intro H locs ls hP hD hS hl
  exact lv_ldc hx hb hown (hts _ hm) d (k H locs ls hP hD hS hl)
theorem g_ldcw (hX : GX κ cy Z cc Ts own rm) {index : Nat} {v : Int32} (hm : Cond.constant own index v ∈ Ts) (d : decode cc pc = .ok (.ldc_w index, 3)) (k : GW κ n1 n2 w (pc + 3) lv (.int v :: st)) : GW κ n1 n2 w pc lv (st) := by
  obtain ⟨p, l, e, R, s, m, args, below, meth, c, Q, A, D, cy', nL', Z'⟩ := κ
  obtain ⟨hx, hb, hts, hown, hK, hml, hA, hlk, hR, hcy, hZe, hZ⟩ := hX
  intro H locs ls hP hD hS hl
  exact lv_ldcw hx hb hown (hts _ hm) d (k H locs ls hP hD hS hl)
theorem g_ldc2 (hX : GX κ cy Z cc Ts own rm) {index : Nat} {v : Int64} (hm : Cond.constantLong own index v ∈ Ts) (d : decode cc pc = .ok (.ldc2_w index, 3)) (k : GW κ n1 n2 w (pc + 3) lv (.long v :: st)) : GW κ n1 n2 w pc lv (st) := by
  obtain ⟨p, l, e, R, s, m, args, below, meth, c, Q, A, D, cy', nL', Z'⟩ := κ
  obtain ⟨hx, hb, hts, hown, hK, hml, hA, hlk, hR, hcy, hZe, hZ⟩ := hX
  intro H locs ls hP hD hS hl
  exact lv_ldc2 hx hb hown (hts _ hm) d (k H locs ls hP hD hS hl)
theorem g_iload_n (hX : GX κ cy Z cc Ts own rm) (i : Nat) {q : Fin 4} {j : Nat} {x : Int32} (hl0 : lv[i]? = some (j, .int x)) (hq : (q : Nat) = j) (d : decode cc pc = .ok (.iload_n q, 1)) (k : GW κ n1 n2 w (pc + 1) lv (.int x :: st)) : GW κ n1 n2 w pc lv (st) := by
  obtain ⟨p, l, e, R, s, m, args, below, meth, c, Q, A, D, cy', nL', Z'⟩ := κ
  obtain ⟨hx, hb, hts, hown, hK, hml, hA, hlk, hR, hcy, hZe, hZ⟩ := hX
  intro H locs ls hP hD hS hl
  exact lv_iload_n hx hb d hq (lv_at hl i hl0) (k H locs ls hP hD hS hl)
theorem g_iload (hX : GX κ cy Z cc Ts own rm) (i : Nat) {j : Nat} {x : Int32} (hl0 : lv[i]? = some (j, .int x)) (d : decode cc pc = .ok (.iload j, 2)) (k : GW κ n1 n2 w (pc + 2) lv (.int x :: st)) : GW κ n1 n2 w pc lv (st) := by
  obtain ⟨p, l, e, R, s, m, args, below, meth, c, Q, A, D, cy', nL', Z'⟩ := κ
  obtain ⟨hx, hb, hts, hown, hK, hml, hA, hlk, hR, hcy, hZe, hZ⟩ := hX
  intro H locs ls hP hD hS hl
  exact lv_iload hx hb d (lv_at hl i hl0) (k H locs ls hP hD hS hl)
theorem g_lload_n (hX : GX κ cy Z cc Ts own rm) (i : Nat) {q : Fin 4} {j : Nat} {x : Int64} (hl0 : lv[i]? = some (j, .long x)) (hq : (q : Nat) = j) (d : decode cc pc = .ok (.lload_n q, 1)) (k : GW κ n1 n2 w (pc + 1) lv (.long x :: st)) : GW κ n1 n2 w pc lv (st) := by
  obtain ⟨p, l, e, R, s, m, args, below, meth, c, Q, A, D, cy', nL', Z'⟩ := κ
  obtain ⟨hx, hb, hts, hown, hK, hml, hA, hlk, hR, hcy, hZe, hZ⟩ := hX
  intro H locs ls hP hD hS hl
  exact lv_lload_n hx hb d hq (lv_at hl i hl0) (k H locs ls hP hD hS hl)
theorem g_lload (hX : GX κ cy Z cc Ts own rm) (i : Nat) {j : Nat} {x : Int64} (hl0 : lv[i]? = some (j, .long x)) (d : decode cc pc = .ok (.lload j, 2)) (k : GW κ n1 n2 w (pc + 2) lv (.long x :: st)) : GW κ n1 n2 w pc lv (st) := by
  obtain ⟨p, l, e, R, s, m, args, below, meth, c, Q, A, D, cy', nL', Z'⟩ := κ
  obtain ⟨hx, hb, hts, hown, hK, hml, hA, hlk, hR, hcy, hZe, hZ⟩ := hX
  intro H locs ls hP hD hS hl
  exact lv_lload hx hb d (lv_at hl i hl0) (k H locs ls hP hD hS hl)
theorem g_aload_n (hX : GX κ cy Z cc Ts own rm) (i : Nat) {q : Fin 4} {j : Nat} {x : Nat} (hl0 : lv[i]? = some (j, .ref x)) (hq : (q : Nat) = j) (d : decode cc pc = .ok (.aload_n q, 1)) (k : GW κ n1 n2 w (pc + 1) lv (.ref x :: st)) : GW κ n1 n2 w pc lv (st) := by
  obtain ⟨p, l, e, R, s, m, args, below, meth, c, Q, A, D, cy', nL', Z'⟩ := κ
  obtain ⟨hx, hb, hts, hown, hK, hml, hA, hlk, hR, hcy, hZe, hZ⟩ := hX
  intro H locs ls hP hD hS hl
  exact lv_aload_n hx hb d hq (lv_at hl i hl0) (k H locs ls hP hD hS hl)
theorem g_aload (hX : GX κ cy Z cc Ts own rm) (i : Nat) {j : Nat} {x : Nat} (hl0 : lv[i]? = some (j, .ref x)) (d : decode cc pc = .ok (.aload j, 2)) (k : GW κ n1 n2 w (pc + 2) lv (.ref x :: st)) : GW κ n1 n2 w pc lv (st) := by
  obtain ⟨p, l, e, R, s, m, args, below, meth, c, Q, A, D, cy', nL', Z'⟩ := κ
  obtain ⟨hx, hb, hts, hown, hK, hml, hA, hlk, hR, hcy, hZe, hZ⟩ := hX
  intro H locs ls hP hD hS hl
  exact lv_aload hx hb d (lv_at hl i hl0) (k H locs ls hP hD hS hl)
theorem g_aload_nN (hX : GX κ cy Z cc Ts own rm) (i : Nat) {q : Fin 4} {j : Nat} (hl0 : lv[i]? = some (j, .null)) (hq : (q : Nat) = j) (d : decode cc pc = .ok (.aload_n q, 1)) (k : GW κ n1 n2 w (pc + 1) lv (.null :: st)) : GW κ n1 n2 w pc lv (st) := by
  obtain ⟨p, l, e, R, s, m, args, below, meth, c, Q, A, D, cy', nL', Z'⟩ := κ
  obtain ⟨hx, hb, hts, hown, hK, hml, hA, hlk, hR, hcy, hZe, hZ⟩ := hX
  intro H locs ls hP hD hS hl
  exact lv_aload_nN hx hb d hq (lv_at hl i hl0) (k H locs ls hP hD hS hl)
theorem g_aloadN (hX : GX κ cy Z cc Ts own rm) (i : Nat) {j : Nat} (hl0 : lv[i]? = some (j, .null)) (d : decode cc pc = .ok (.aload j, 2)) (k : GW κ n1 n2 w (pc + 2) lv (.null :: st)) : GW κ n1 n2 w pc lv (st) := by
  obtain ⟨p, l, e, R, s, m, args, below, meth, c, Q, A, D, cy', nL', Z'⟩ := κ
  obtain ⟨hx, hb, hts, hown, hK, hml, hA, hlk, hR, hcy, hZe, hZ⟩ := hX
  intro H locs ls hP hD hS hl
  exact lv_aloadN hx hb d (lv_at hl i hl0) (k H locs ls hP hD hS hl)
theorem g_istore_n (hX : GX κ cy Z cc Ts own rm) {q : Fin 4} {x : Int32} {lv2 : List (Nat × Value)} (j nL : Nat) (hn : GN κ nL) (hq : (q : Nat) = j) (hj : j < nL) (h2 : (j, Value.int x) :: lv.filter (fun q => !(q.1 == j) && !(q.1 + 1 == j && q.2.category == 2)) = lv2) (d : decode cc pc = .ok (.istore_n q, 1)) (k : GW κ n1 n2 w (pc + 1) lv2 st) : GW κ n1 n2 w pc lv (.int x :: st) := by
  obtain ⟨p, l, e, R, s, m, args, below, meth, c, Q, A, D, cy', nL', Z'⟩ := κ
  obtain ⟨hx, hb, hts, hown, hK, hml, hA, hlk, hR, hcy, hZe, hZ⟩ := hX
  intro H locs ls hP hD hS hl
  have hn : nL' = nL := hn
  subst hn
  exact lv_istore_n (lv' := lv2) hx hb d hq hl hj h2 (fun ls2 hl2 => k H locs ls2 hP hD hS hl2)
theorem g_istore (hX : GX κ cy Z cc Ts own rm) {x : Int32} {lv2 : List (Nat × Value)} (j nL : Nat) (hn : GN κ nL) (hj : j < nL) (h2 : (j, Value.int x) :: lv.filter (fun q => !(q.1 == j) && !(q.1 + 1 == j && q.2.category == 2)) = lv2) (d : decode cc pc = .ok (.istore j, 2)) (k : GW κ n1 n2 w (pc + 2) lv2 st) : GW κ n1 n2 w pc lv (.int x :: st) := by
  obtain ⟨p, l, e, R, s, m, args, below, meth, c, Q, A, D, cy', nL', Z'⟩ := κ
  obtain ⟨hx, hb, hts, hown, hK, hml, hA, hlk, hR, hcy, hZe, hZ⟩ := hX
  intro H locs ls hP hD hS hl
  have hn : nL' = nL := hn
  subst hn
  exact lv_istore (lv' := lv2) hx hb d hl hj h2 (fun ls2 hl2 => k H locs ls2 hP hD hS hl2)
theorem g_astore_n (hX : GX κ cy Z cc Ts own rm) {q : Fin 4} {x : Nat} {lv2 : List (Nat × Value)} (j nL : Nat) (hn : GN κ nL) (hq : (q : Nat) = j) (hj : j < nL) (h2 : (j, Value.ref x) :: lv.filter (fun q => !(q.1 == j) && !(q.1 + 1 == j && q.2.category == 2)) = lv2) (d : decode cc pc = .ok (.astore_n q, 1)) (k : GW κ n1 n2 w (pc + 1) lv2 st) : GW κ n1 n2 w pc lv (.ref x :: st) := by
  obtain ⟨p, l, e, R, s, m, args, below, meth, c, Q, A, D, cy', nL', Z'⟩ := κ
  obtain ⟨hx, hb, hts, hown, hK, hml, hA, hlk, hR, hcy, hZe, hZ⟩ := hX
  intro H locs ls hP hD hS hl
  have hn : nL' = nL := hn
  subst hn
  exact lv_astore_n (lv' := lv2) hx hb d hq hl hj h2 (fun ls2 hl2 => k H locs ls2 hP hD hS hl2)
theorem g_astore (hX : GX κ cy Z cc Ts own rm) {x : Nat} {lv2 : List (Nat × Value)} (j nL : Nat) (hn : GN κ nL) (hj : j < nL) (h2 : (j, Value.ref x) :: lv.filter (fun q => !(q.1 == j) && !(q.1 + 1 == j && q.2.category == 2)) = lv2) (d : decode cc pc = .ok (.astore j, 2)) (k : GW κ n1 n2 w (pc + 2) lv2 st) : GW κ n1 n2 w pc lv (.ref x :: st) := by
  obtain ⟨p, l, e, R, s, m, args, below, meth, c, Q, A, D, cy', nL', Z'⟩ := κ
  obtain ⟨hx, hb, hts, hown, hK, hml, hA, hlk, hR, hcy, hZe, hZ⟩ := hX
  intro H locs ls hP hD hS hl
  have hn : nL' = nL := hn
  subst hn
  exact lv_astore (lv' := lv2) hx hb d hl hj h2 (fun ls2 hl2 => k H locs ls2 hP hD hS hl2)
theorem g_iinc (hX : GX κ cy Z cc Ts own rm) {n : Int} {x v : Int32} {lv2 : List (Nat × Value)} (i j nL : Nat) (hn : GN κ nL) (hl0 : lv[i]? = some (j, .int x)) (hv : x + Int32.ofInt n = v) (hj : j < nL) (h2 : (j, Value.int v) :: lv.filter (fun q => !(q.1 == j) && !(q.1 + 1 == j && q.2.category == 2)) = lv2) (d : decode cc pc = .ok (.iinc j n, 3)) (k : GW κ n1 n2 w (pc + 3) lv2 st) : GW κ n1 n2 w pc lv st := by
  obtain ⟨p, l, e, R, s, m, args, below, meth, c, Q, A, D, cy', nL', Z'⟩ := κ
  obtain ⟨hx, hb, hts, hown, hK, hml, hA, hlk, hR, hcy, hZe, hZ⟩ := hX
  intro H locs ls hP hD hS hl
  have hn : nL' = nL := hn
  subst hn
  exact lv_iinc (lv' := lv2) hx hb d hl hl0 hv hj h2 (fun ls2 hl2 => k H locs ls2 hP hD hS hl2)
theorem g_iadd (hX : GX κ cy Z cc Ts own rm) {x y : Int32} (d : decode cc pc = .ok (.iadd, 1)) (k : GW κ n1 n2 w (pc + 1) lv (.int (x + y) :: st)) : GW κ n1 n2 w pc lv (.int y :: .int x :: st) := by
  obtain ⟨p, l, e, R, s, m, args, below, meth, c, Q, A, D, cy', nL', Z'⟩ := κ
  obtain ⟨hx, hb, hts, hown, hK, hml, hA, hlk, hR, hcy, hZe, hZ⟩ := hX
  intro H locs ls hP hD hS hl
  exact lv_iadd hx hb d (k H locs ls hP hD hS hl)
theorem g_isub (hX : GX κ cy Z cc Ts own rm) {x y : Int32} (d : decode cc pc = .ok (.isub, 1)) (k : GW κ n1 n2 w (pc + 1) lv (.int (x - y) :: st)) : GW κ n1 n2 w pc lv (.int y :: .int x :: st) := by
  obtain ⟨p, l, e, R, s, m, args, below, meth, c, Q, A, D, cy', nL', Z'⟩ := κ
  obtain ⟨hx, hb, hts, hown, hK, hml, hA, hlk, hR, hcy, hZe, hZ⟩ := hX
  intro H locs ls hP hD hS hl
  exact lv_isub hx hb d (k H locs ls hP hD hS hl)
theorem g_imul (hX : GX κ cy Z cc Ts own rm) {x y : Int32} (d : decode cc pc = .ok (.imul, 1)) (k : GW κ n1 n2 w (pc + 1) lv (.int (x * y) :: st)) : GW κ n1 n2 w pc lv (.int y :: .int x :: st) := by
  obtain ⟨p, l, e, R, s, m, args, below, meth, c, Q, A, D, cy', nL', Z'⟩ := κ
  obtain ⟨hx, hb, hts, hown, hK, hml, hA, hlk, hR, hcy, hZe, hZ⟩ := hX
  intro H locs ls hP hD hS hl
  exact lv_imul hx hb d (k H locs ls hP hD hS hl)
theorem g_iand (hX : GX κ cy Z cc Ts own rm) {x y : Int32} (d : decode cc pc = .ok (.iand, 1)) (k : GW κ n1 n2 w (pc + 1) lv (.int (x &&& y) :: st)) : GW κ n1 n2 w pc lv (.int y :: .int x :: st) := by
  obtain ⟨p, l, e, R, s, m, args, below, meth, c, Q, A, D, cy', nL', Z'⟩ := κ
  obtain ⟨hx, hb, hts, hown, hK, hml, hA, hlk, hR, hcy, hZe, hZ⟩ := hX
  intro H locs ls hP hD hS hl
  exact lv_iand hx hb d (k H locs ls hP hD hS hl)
theorem g_ior (hX : GX κ cy Z cc Ts own rm) {x y : Int32} (d : decode cc pc = .ok (.ior, 1)) (k : GW κ n1 n2 w (pc + 1) lv (.int (x ||| y) :: st)) : GW κ n1 n2 w pc lv (.int y :: .int x :: st) := by
  obtain ⟨p, l, e, R, s, m, args, below, meth, c, Q, A, D, cy', nL', Z'⟩ := κ
  obtain ⟨hx, hb, hts, hown, hK, hml, hA, hlk, hR, hcy, hZe, hZ⟩ := hX
  intro H locs ls hP hD hS hl
  exact lv_ior hx hb d (k H locs ls hP hD hS hl)
theorem g_ixor (hX : GX κ cy Z cc Ts own rm) {x y : Int32} (d : decode cc pc = .ok (.ixor, 1)) (k : GW κ n1 n2 w (pc + 1) lv (.int (x ^^^ y) :: st)) : GW κ n1 n2 w pc lv (.int y :: .int x :: st) := by
  obtain ⟨p, l, e, R, s, m, args, below, meth, c, Q, A, D, cy', nL', Z'⟩ := κ
  obtain ⟨hx, hb, hts, hown, hK, hml, hA, hlk, hR, hcy, hZe, hZ⟩ := hX
  intro H locs ls hP hD hS hl
  exact lv_ixor hx hb d (k H locs ls hP hD hS hl)
theorem g_ishl (hX : GX κ cy Z cc Ts own rm) {x y : Int32} (d : decode cc pc = .ok (.ishl, 1)) (k : GW κ n1 n2 w (pc + 1) lv (.int (x <<< (y &&& 31)) :: st)) : GW κ n1 n2 w pc lv (.int y :: .int x :: st) := by
  obtain ⟨p, l, e, R, s, m, args, below, meth, c, Q, A, D, cy', nL', Z'⟩ := κ
  obtain ⟨hx, hb, hts, hown, hK, hml, hA, hlk, hR, hcy, hZe, hZ⟩ := hX
  intro H locs ls hP hD hS hl
  exact lv_ishl hx hb d (k H locs ls hP hD hS hl)
theorem g_ishr (hX : GX κ cy Z cc Ts own rm) {x y : Int32} (d : decode cc pc = .ok (.ishr, 1)) (k : GW κ n1 n2 w (pc + 1) lv (.int (x >>> (y &&& 31)) :: st)) : GW κ n1 n2 w pc lv (.int y :: .int x :: st) := by
  obtain ⟨p, l, e, R, s, m, args, below, meth, c, Q, A, D, cy', nL', Z'⟩ := κ
  obtain ⟨hx, hb, hts, hown, hK, hml, hA, hlk, hR, hcy, hZe, hZ⟩ := hX
  intro H locs ls hP hD hS hl
  exact lv_ishr hx hb d (k H locs ls hP hD hS hl)
theorem g_lcmp (hX : GX κ cy Z cc Ts own rm) {x y : Int64} (d : decode cc pc = .ok (.lcmp, 1)) (k : GW κ n1 n2 w (pc + 1) lv (.int (lg_cmp x y) :: st)) : GW κ n1 n2 w pc lv (.long y :: .long x :: st) := by
  obtain ⟨p, l, e, R, s, m, args, below, meth, c, Q, A, D, cy', nL', Z'⟩ := κ
  obtain ⟨hx, hb, hts, hown, hK, hml, hA, hlk, hR, hcy, hZe, hZ⟩ := hX
  intro H locs ls hP hD hS hl
  exact W.lcmp hx hb d (k H locs ls hP hD hS hl)
theorem g_ladd (hX : GX κ cy Z cc Ts own rm) {x y : Int64} (d : decode cc pc = .ok (.ladd, 1)) (k : GW κ n1 n2 w (pc + 1) lv (.long (x + y) :: st)) : GW κ n1 n2 w pc lv (.long y :: .long x :: st) := by
  obtain ⟨p, l, e, R, s, m, args, below, meth, c, Q, A, D, cy', nL', Z'⟩ := κ
  obtain ⟨hx, hb, hts, hown, hK, hml, hA, hlk, hR, hcy, hZe, hZ⟩ := hX
  intro H locs ls hP hD hS hl
  exact lv_ladd hx hb d (k H locs ls hP hD hS hl)
theorem g_idiv (hX : GX κ cy Z cc Ts own rm) {x y : Int32} (hne : ¬ y = 0) (d : decode cc pc = .ok (.idiv, 1)) (k : GW κ n1 n2 w (pc + 1) lv (.int (x / y) :: st)) : GW κ n1 n2 w pc lv (.int y :: .int x :: st) := by
  obtain ⟨p, l, e, R, s, m, args, below, meth, c, Q, A, D, cy', nL', Z'⟩ := κ
  obtain ⟨hx, hb, hts, hown, hK, hml, hA, hlk, hR, hcy, hZe, hZ⟩ := hX
  intro H locs ls hP hD hS hl
  exact lv_idiv hx hb d hne (k H locs ls hP hD hS hl)
theorem g_irem (hX : GX κ cy Z cc Ts own rm) {x y : Int32} (hne : ¬ y = 0) (d : decode cc pc = .ok (.irem, 1)) (k : GW κ n1 n2 w (pc + 1) lv (.int (x - x / y * y) :: st)) : GW κ n1 n2 w pc lv (.int y :: .int x :: st) := by
  obtain ⟨p, l, e, R, s, m, args, below, meth, c, Q, A, D, cy', nL', Z'⟩ := κ
  obtain ⟨hx, hb, hts, hown, hK, hml, hA, hlk, hR, hcy, hZe, hZ⟩ := hX
  intro H locs ls hP hD hS hl
  exact lv_irem hx hb d hne (k H locs ls hP hD hS hl)
theorem g_ineg (hX : GX κ cy Z cc Ts own rm) {x : Int32} (d : decode cc pc = .ok (.ineg, 1)) (k : GW κ n1 n2 w (pc + 1) lv (.int (-x) :: st)) : GW κ n1 n2 w pc lv (.int x :: st) := by
  obtain ⟨p, l, e, R, s, m, args, below, meth, c, Q, A, D, cy', nL', Z'⟩ := κ
  obtain ⟨hx, hb, hts, hown, hK, hml, hA, hlk, hR, hcy, hZe, hZ⟩ := hX
  intro H locs ls hP hD hS hl
  exact lv_ineg hx hb d (k H locs ls hP hD hS hl)
theorem g_iushr (hX : GX κ cy Z cc Ts own rm) {x y : Int32} (d : decode cc pc = .ok (.iushr, 1)) (k : GW κ n1 n2 w (pc + 1) lv (.int ((x.toUInt32 >>> (y.toUInt32 &&& Int32.toUInt32 31)).toInt32) :: st)) : GW κ n1 n2 w pc lv (.int y :: .int x :: st) := by
  obtain ⟨p, l, e, R, s, m, args, below, meth, c, Q, A, D, cy', nL', Z'⟩ := κ
  obtain ⟨hx, hb, hts, hown, hK, hml, hA, hlk, hR, hcy, hZe, hZ⟩ := hX
  intro H locs ls hP hD hS hl
  exact lv_iushr hx hb d rfl (k H locs ls hP hD hS hl)
theorem g_i2l (hX : GX κ cy Z cc Ts own rm) {x : Int32} (d : decode cc pc = .ok (.i2l, 1)) (k : GW κ n1 n2 w (pc + 1) lv (.long x.toInt64 :: st)) : GW κ n1 n2 w pc lv (.int x :: st) := by
  obtain ⟨p, l, e, R, s, m, args, below, meth, c, Q, A, D, cy', nL', Z'⟩ := κ
  obtain ⟨hx, hb, hts, hown, hK, hml, hA, hlk, hR, hcy, hZe, hZ⟩ := hX
  intro H locs ls hP hD hS hl
  exact lv_i2l hx hb d rfl (k H locs ls hP hD hS hl)
theorem g_i2s (hX : GX κ cy Z cc Ts own rm) {x : Int32} (d : decode cc pc = .ok (.i2s, 1)) (k : GW κ n1 n2 w (pc + 1) lv (.int x.toInt16.toInt32 :: st)) : GW κ n1 n2 w pc lv (.int x :: st) := by
  obtain ⟨p, l, e, R, s, m, args, below, meth, c, Q, A, D, cy', nL', Z'⟩ := κ
  obtain ⟨hx, hb, hts, hown, hK, hml, hA, hlk, hR, hcy, hZe, hZ⟩ := hX
  intro H locs ls hP hD hS hl
  exact lv_i2s hx hb d rfl (k H locs ls hP hD hS hl)
theorem g_i2c (hX : GX κ cy Z cc Ts own rm) {x : Int32} (d : decode cc pc = .ok (.i2c, 1)) (k : GW κ n1 n2 w (pc + 1) lv (.int (x.toUInt32 % 65536).toInt32 :: st)) : GW κ n1 n2 w pc lv (.int x :: st) := by
  obtain ⟨p, l, e, R, s, m, args, below, meth, c, Q, A, D, cy', nL', Z'⟩ := κ
  obtain ⟨hx, hb, hts, hown, hK, hml, hA, hlk, hR, hcy, hZe, hZ⟩ := hX
  intro H locs ls hP hD hS hl
  exact lv_i2c hx hb d rfl (k H locs ls hP hD hS hl)
theorem g_dup (hX : GX κ cy Z cc Ts own rm) {v : Value} (hv : v.category = 1) (d : decode cc pc = .ok (.dup, 1)) (k : GW κ n1 n2 w (pc + 1) lv (v :: v :: st)) : GW κ n1 n2 w pc lv (v :: st) := by
  obtain ⟨p, l, e, R, s, m, args, below, meth, c, Q, A, D, cy', nL', Z'⟩ := κ
  obtain ⟨hx, hb, hts, hown, hK, hml, hA, hlk, hR, hcy, hZe, hZ⟩ := hX
  intro H locs ls hP hD hS hl
  exact lv_dup hx hb d hv (k H locs ls hP hD hS hl)
theorem g_pop (hX : GX κ cy Z cc Ts own rm) {v : Value} (hv : v.category = 1) (d : decode cc pc = .ok (.pop, 1)) (k : GW κ n1 n2 w (pc + 1) lv (st)) : GW κ n1 n2 w pc lv (v :: st) := by
  obtain ⟨p, l, e, R, s, m, args, below, meth, c, Q, A, D, cy', nL', Z'⟩ := κ
  obtain ⟨hx, hb, hts, hown, hK, hml, hA, hlk, hR, hcy, hZe, hZ⟩ := hX
  intro H locs ls hP hD hS hl
  exact lv_pop hx hb d hv (k H locs ls hP hD hS hl)
theorem g_dup2 (hX : GX κ cy Z cc Ts own rm) {v u : Value} (hv : v.category = 1) (hu : u.category = 1) (d : decode cc pc = .ok (.dup2, 1)) (k : GW κ n1 n2 w (pc + 1) lv (v :: u :: v :: u :: st)) : GW κ n1 n2 w pc lv (v :: u :: st) := by
  obtain ⟨p, l, e, R, s, m, args, below, meth, c, Q, A, D, cy', nL', Z'⟩ := κ
  obtain ⟨hx, hb, hts, hown, hK, hml, hA, hlk, hR, hcy, hZe, hZ⟩ := hX
  intro H locs ls hP hD hS hl
  exact lv_dup2_11 hx hb d hv hu (k H locs ls hP hD hS hl)
theorem g_if_eq (hX : GX κ cy Z cc Ts own rm) {x : Int32} {off : Int} (tgt : Nat) (ht : (pc : Int) + off = (tgt : Int)) (d : decode cc pc = .ok (.ifCond .eq off, 3)) (kt : x = 0 → GW κ n1 n2 w tgt lv st) (kf : ¬ x = 0 → GW κ n1 n2 w (pc + 3) lv st) : GW κ n1 n2 w pc lv (.int x :: st) := by
  obtain ⟨p, l, e, R, s, m, args, below, meth, c, Q, A, D, cy', nL', Z'⟩ := κ
  obtain ⟨hx, hb, hts, hown, hK, hml, hA, hlk, hR, hcy, hZe, hZ⟩ := hX
  intro H locs ls hP hD hS hl
  exact lv_if_eq hx hb d ht (fun q => kt q H locs ls hP hD hS hl) (fun q => kf q H locs ls hP hD hS hl)
theorem g_icmp_eq (hX : GX κ cy Z cc Ts own rm) {x y : Int32} {off : Int} (tgt : Nat) (ht : (pc : Int) + off = (tgt : Int)) (d : decode cc pc = .ok (.if_icmp .eq off, 3)) (kt : x = y → GW κ n1 n2 w tgt lv st) (kf : ¬ x = y → GW κ n1 n2 w (pc + 3) lv st) : GW κ n1 n2 w pc lv (.int y :: .int x :: st) := by
  obtain ⟨p, l, e, R, s, m, args, below, meth, c, Q, A, D, cy', nL', Z'⟩ := κ
  obtain ⟨hx, hb, hts, hown, hK, hml, hA, hlk, hR, hcy, hZe, hZ⟩ := hX
  intro H locs ls hP hD hS hl
  exact lv_icmp_eq hx hb d ht (fun q => kt q H locs ls hP hD hS hl) (fun q => kf q H locs ls hP hD hS hl)
theorem g_if_ne (hX : GX κ cy Z cc Ts own rm) {x : Int32} {off : Int} (tgt : Nat) (ht : (pc : Int) + off = (tgt : Int)) (d : decode cc pc = .ok (.ifCond .ne off, 3)) (kt : ¬ x = 0 → GW κ n1 n2 w tgt lv st) (kf : x = 0 → GW κ n1 n2 w (pc + 3) lv st) : GW κ n1 n2 w pc lv (.int x :: st) := by
  obtain ⟨p, l, e, R, s, m, args, below, meth, c, Q, A, D, cy', nL', Z'⟩ := κ
  obtain ⟨hx, hb, hts, hown, hK, hml, hA, hlk, hR, hcy, hZe, hZ⟩ := hX
  intro H locs ls hP hD hS hl
  exact lv_if_ne hx hb d ht (fun q => kt q H locs ls hP hD hS hl) (fun q => kf q H locs ls hP hD hS hl)
theorem g_icmp_ne (hX : GX κ cy Z cc Ts own rm) {x y : Int32} {off : Int} (tgt : Nat) (ht : (pc : Int) + off = (tgt : Int)) (d : decode cc pc = .ok (.if_icmp .ne off, 3)) (kt : ¬ x = y → GW κ n1 n2 w tgt lv st) (kf : x = y → GW κ n1 n2 w (pc + 3) lv st) : GW κ n1 n2 w pc lv (.int y :: .int x :: st) := by
  obtain ⟨p, l, e, R, s, m, args, below, meth, c, Q, A, D, cy', nL', Z'⟩ := κ
  obtain ⟨hx, hb, hts, hown, hK, hml, hA, hlk, hR, hcy, hZe, hZ⟩ := hX
  intro H locs ls hP hD hS hl
  exact lv_icmp_ne hx hb d ht (fun q => kt q H locs ls hP hD hS hl) (fun q => kf q H locs ls hP hD hS hl)
theorem g_if_lt (hX : GX κ cy Z cc Ts own rm) {x : Int32} {off : Int} (tgt : Nat) (ht : (pc : Int) + off = (tgt : Int)) (d : decode cc pc = .ok (.ifCond .lt off, 3)) (kt : x < 0 → GW κ n1 n2 w tgt lv st) (kf : ¬ x < 0 → GW κ n1 n2 w (pc + 3) lv st) : GW κ n1 n2 w pc lv (.int x :: st) := by
  obtain ⟨p, l, e, R, s, m, args, below, meth, c, Q, A, D, cy', nL', Z'⟩ := κ
  obtain ⟨hx, hb, hts, hown, hK, hml, hA, hlk, hR, hcy, hZe, hZ⟩ := hX
  intro H locs ls hP hD hS hl
  exact lv_if_lt hx hb d ht (fun q => kt q H locs ls hP hD hS hl) (fun q => kf q H locs ls hP hD hS hl)
theorem g_icmp_lt (hX : GX κ cy Z cc Ts own rm) {x y : Int32} {off : Int} (tgt : Nat) (ht : (pc : Int) + off = (tgt : Int)) (d : decode cc pc = .ok (.if_icmp .lt off, 3)) (kt : x < y → GW κ n1 n2 w tgt lv st) (kf : ¬ x < y → GW κ n1 n2 w (pc + 3) lv st) : GW κ n1 n2 w pc lv (.int y :: .int x :: st) := by
  obtain ⟨p, l, e, R, s, m, args, below, meth, c, Q, A, D, cy', nL', Z'⟩ := κ
  obtain ⟨hx, hb, hts, hown, hK, hml, hA, hlk, hR, hcy, hZe, hZ⟩ := hX
  intro H locs ls hP hD hS hl
  exact lv_icmp_lt hx hb d ht (fun q => kt q H locs ls hP hD hS hl) (fun q => kf q H locs ls hP hD hS hl)
theorem g_if_ge (hX : GX κ cy Z cc Ts own rm) {x : Int32} {off : Int} (tgt : Nat) (ht : (pc : Int) + off = (tgt : Int)) (d : decode cc pc = .ok (.ifCond .ge off, 3)) (kt : 0 ≤ x → GW κ n1 n2 w tgt lv st) (kf : ¬ 0 ≤ x → GW κ n1 n2 w (pc + 3) lv st) : GW κ n1 n2 w pc lv (.int x :: st) := by
  obtain ⟨p, l, e, R, s, m, args, below, meth, c, Q, A, D, cy', nL', Z'⟩ := κ
  obtain ⟨hx, hb, hts, hown, hK, hml, hA, hlk, hR, hcy, hZe, hZ⟩ := hX
  intro H locs ls hP hD hS hl
  exact lv_if_ge hx hb d ht (fun q => kt q H locs ls hP hD hS hl) (fun q => kf q H locs ls hP hD hS hl)
theorem g_icmp_ge (hX : GX κ cy Z cc Ts own rm) {x y : Int32} {off : Int} (tgt : Nat) (ht : (pc : Int) + off = (tgt : Int)) (d : decode cc pc = .ok (.if_icmp .ge off, 3)) (kt : y ≤ x → GW κ n1 n2 w tgt lv st) (kf : ¬ y ≤ x → GW κ n1 n2 w (pc + 3) lv st) : GW κ n1 n2 w pc lv (.int y :: .int x :: st) := by
  obtain ⟨p, l, e, R, s, m, args, below, meth, c, Q, A, D, cy', nL', Z'⟩ := κ
  obtain ⟨hx, hb, hts, hown, hK, hml, hA, hlk, hR, hcy, hZe, hZ⟩ := hX
  intro H locs ls hP hD hS hl
  exact lv_icmp_ge hx hb d ht (fun q => kt q H locs ls hP hD hS hl) (fun q => kf q H locs ls hP hD hS hl)
theorem g_if_gt (hX : GX κ cy Z cc Ts own rm) {x : Int32} {off : Int} (tgt : Nat) (ht : (pc : Int) + off = (tgt : Int)) (d : decode cc pc = .ok (.ifCond .gt off, 3)) (kt : 0 < x → GW κ n1 n2 w tgt lv st) (kf : ¬ 0 < x → GW κ n1 n2 w (pc + 3) lv st) : GW κ n1 n2 w pc lv (.int x :: st) := by
  obtain ⟨p, l, e, R, s, m, args, below, meth, c, Q, A, D, cy', nL', Z'⟩ := κ
  obtain ⟨hx, hb, hts, hown, hK, hml, hA, hlk, hR, hcy, hZe, hZ⟩ := hX
  intro H locs ls hP hD hS hl
  exact lv_if_gt hx hb d ht (fun q => kt q H locs ls hP hD hS hl) (fun q => kf q H locs ls hP hD hS hl)
theorem g_icmp_gt (hX : GX κ cy Z cc Ts own rm) {x y : Int32} {off : Int} (tgt : Nat) (ht : (pc : Int) + off = (tgt : Int)) (d : decode cc pc = .ok (.if_icmp .gt off, 3)) (kt : y < x → GW κ n1 n2 w tgt lv st) (kf : ¬ y < x → GW κ n1 n2 w (pc + 3) lv st) : GW κ n1 n2 w pc lv (.int y :: .int x :: st) := by
  obtain ⟨p, l, e, R, s, m, args, below, meth, c, Q, A, D, cy', nL', Z'⟩ := κ
  obtain ⟨hx, hb, hts, hown, hK, hml, hA, hlk, hR, hcy, hZe, hZ⟩ := hX
  intro H locs ls hP hD hS hl
  exact lv_icmp_gt hx hb d ht (fun q => kt q H locs ls hP hD hS hl) (fun q => kf q H locs ls hP hD hS hl)
theorem g_if_le (hX : GX κ cy Z cc Ts own rm) {x : Int32} {off : Int} (tgt : Nat) (ht : (pc : Int) + off = (tgt : Int)) (d : decode cc pc = .ok (.ifCond .le off, 3)) (kt : x ≤ 0 → GW κ n1 n2 w tgt lv st) (kf : ¬ x ≤ 0 → GW κ n1 n2 w (pc + 3) lv st) : GW κ n1 n2 w pc lv (.int x :: st) := by
  obtain ⟨p, l, e, R, s, m, args, below, meth, c, Q, A, D, cy', nL', Z'⟩ := κ
  obtain ⟨hx, hb, hts, hown, hK, hml, hA, hlk, hR, hcy, hZe, hZ⟩ := hX
  intro H locs ls hP hD hS hl
  exact lv_if_le hx hb d ht (fun q => kt q H locs ls hP hD hS hl) (fun q => kf q H locs ls hP hD hS hl)
theorem g_icmp_le (hX : GX κ cy Z cc Ts own rm) {x y : Int32} {off : Int} (tgt : Nat) (ht : (pc : Int) + off = (tgt : Int)) (d : decode cc pc = .ok (.if_icmp .le off, 3)) (kt : x ≤ y → GW κ n1 n2 w tgt lv st) (kf : ¬ x ≤ y → GW κ n1 n2 w (pc + 3) lv st) : GW κ n1 n2 w pc lv (.int y :: .int x :: st) := by
  obtain ⟨p, l, e, R, s, m, args, below, meth, c, Q, A, D, cy', nL', Z'⟩ := κ
  obtain ⟨hx, hb, hts, hown, hK, hml, hA, hlk, hR, hcy, hZe, hZ⟩ := hX
  intro H locs ls hP hD hS hl
  exact lv_icmp_le hx hb d ht (fun q => kt q H locs ls hP hD hS hl) (fun q => kf q H locs ls hP hD hS hl)
theorem g_goto (hX : GX κ cy Z cc Ts own rm) {off : Int} (tgt : Nat) (ht : (pc : Int) + off = (tgt : Int)) (d : decode cc pc = .ok (.goto off, 3)) (k : GW κ n1 n2 w tgt lv st) : GW κ n1 n2 w pc lv st := by
  obtain ⟨p, l, e, R, s, m, args, below, meth, c, Q, A, D, cy', nL', Z'⟩ := κ
  obtain ⟨hx, hb, hts, hown, hK, hml, hA, hlk, hR, hcy, hZe, hZ⟩ := hX
  intro H locs ls hP hD hS hl
  exact lv_goto hx hb d ht (k H locs ls hP hD hS hl)
theorem g_ifnonnull (hX : GX κ cy Z cc Ts own rm) {x : Nat} {off : Int} (tgt : Nat) (ht : (pc : Int) + off = (tgt : Int)) (d : decode cc pc = .ok (.ifnonnull off, 3)) (k : GW κ n1 n2 w tgt lv st) : GW κ n1 n2 w pc lv (.ref x :: st) := by
  obtain ⟨p, l, e, R, s, m, args, below, meth, c, Q, A, D, cy', nL', Z'⟩ := κ
  obtain ⟨hx, hb, hts, hown, hK, hml, hA, hlk, hR, hcy, hZe, hZ⟩ := hX
  intro H locs ls hP hD hS hl
  exact lv_ifnonnull hx hb d ht (k H locs ls hP hD hS hl)
theorem g_ifnonnullN (hX : GX κ cy Z cc Ts own rm) {off : Int} (d : decode cc pc = .ok (.ifnonnull off, 3)) (k : GW κ n1 n2 w (pc + 3) lv st) : GW κ n1 n2 w pc lv (.null :: st) := by
  obtain ⟨p, l, e, R, s, m, args, below, meth, c, Q, A, D, cy', nL', Z'⟩ := κ
  obtain ⟨hx, hb, hts, hown, hK, hml, hA, hlk, hR, hcy, hZe, hZ⟩ := hX
  intro H locs ls hP hD hS hl
  exact lv_ifnonnullN hx hb d (k H locs ls hP hD hS hl)
theorem g_tableIn (hX : GX κ cy Z cc Ts own rm) {dflt lo hi : Int} {offs : Array Int} {len : Nat} {x : Int32} {off : Int} (tgt : Nat) (h1 : ¬ x.toInt < lo) (h2 : ¬ hi < x.toInt) (ho : offs[(x.toInt - lo).toNat]? = some off) (ht : (pc : Int) + off = (tgt : Int)) (d : decode cc pc = .ok (.tableswitch dflt lo hi offs, len)) (k : GW κ n1 n2 w tgt lv st) : GW κ n1 n2 w pc lv (.int x :: st) := by
  obtain ⟨p, l, e, R, s, m, args, below, meth, c, Q, A, D, cy', nL', Z'⟩ := κ
  obtain ⟨hx, hb, hts, hown, hK, hml, hA, hlk, hR, hcy, hZe, hZ⟩ := hX
  intro H locs ls hP hD hS hl
  exact lv_tableIn hx hb d h1 h2 ho ht (k H locs ls hP hD hS hl)
theorem g_tableOut (hX : GX κ cy Z cc Ts own rm) {dflt lo hi : Int} {offs : Array Int} {len : Nat} {x : Int32} (tgt : Nat) (h : x.toInt < lo ∨ hi < x.toInt) (ht : (pc : Int) + dflt = (tgt : Int)) (d : decode cc pc = .ok (.tableswitch dflt lo hi offs, len)) (k : GW κ n1 n2 w tgt lv st) : GW κ n1 n2 w pc lv (.int x :: st) := by
  obtain ⟨p, l, e, R, s, m, args, below, meth, c, Q, A, D, cy', nL', Z'⟩ := κ
  obtain ⟨hx, hb, hts, hown, hK, hml, hA, hlk, hR, hcy, hZe, hZ⟩ := hX
  intro H locs ls hP hD hS hl
  exact lv_tableOut hx hb d h ht (k H locs ls hP hD hS hl)
theorem g_lookup (hX : GX κ cy Z cc Ts own rm) {dflt : Int} {ps : Array (Int × Int)} {len : Nat} {x : Int32} {off : Int} (tgt : Nat) (hp : (ps.toList.zip (ps.toList.drop 1)).all (fun (a, next) => a.1 < next.1) = true) (ho : Op.lookupswitch.offset ps.toList dflt x.toInt = off) (ht : (pc : Int) + off = (tgt : Int)) (d : decode cc pc = .ok (.lookupswitch dflt ps, len)) (k : GW κ n1 n2 w tgt lv st) : GW κ n1 n2 w pc lv (.int x :: st) := by
  obtain ⟨p, l, e, R, s, m, args, below, meth, c, Q, A, D, cy', nL', Z'⟩ := κ
  obtain ⟨hx, hb, hts, hown, hK, hml, hA, hlk, hR, hcy, hZe, hZ⟩ := hX
  intro H locs ls hP hD hS hl
  exact lv_lookup hx hb d hp ho ht (k H locs ls hP hD hS hl)
theorem g_get (hX : GX κ cy Z cc Ts own rm) {C ref : String} {T : u_T} {N index : Nat} {a : Nat} {fs : List Value} {v : Value} (ci q0 k0 : Nat) (hin : ∀ x ∈ u_ws C T N, x ∈ Ts) (he : w[q0]? = some (a, .inr (ci, fs))) (hc : vwCl[ci]? = some (C, T, N)) (hk : k0 < N) (hlk0 : Cond.fieldLink own index ref (T k0).2.1 (T k0).2.2.1 ∈ Ts) (href : (T k0).1 = ref) (hv : fs[k0]? = some v) (d : decode cc pc = .ok (.getfield index, 3)) (k : GW κ n1 n2 w (pc + 3) lv (v :: st)) : GW κ n1 n2 w pc lv (.ref a :: st) := by
  obtain ⟨p, l, e, R, s, m, args, below, meth, c, Q, A, D, cy', nL', Z'⟩ := κ
  obtain ⟨hx, hb, hts, hown, hK, hml, hA, hlk, hR, hcy, hZe, hZ⟩ := hX
  intro H locs ls hP hD hS hl
  exact va_get (D := D) hx hb hts hin hown hK hP q0 he hc k0 hk (hts _ hlk0) (fun _ h9 => by rw [← href]; exact h9) hv d (k H locs ls hP hD hS hl)
theorem g_put (hX : GX κ cy Z cc Ts own rm) {C ref : String} {T : u_T} {N index : Nat} {a : Nat} {fs : List Value} {v : Value} {w2 : va_W} {ty : FieldType} (ci q0 k0 : Nat) (hin : ∀ x ∈ u_ws C T N, x ∈ Ts) (ty0 : Nat → FieldType) (hty : ∀ k, k < N → parseFieldDescriptor (T k).2.2.1 = some (ty0 k)) (hnm : ∀ a, a < N → ∀ b, b < N → a ≠ b → (T a).2.1 ≠ (T b).2.1) (he : w[q0]? = some (a, .inr (ci, fs))) (hc : vwCl[ci]? = some (C, T, N)) (hk : k0 < N) (hlk0 : Cond.fieldLink own index ref (T k0).2.1 (T k0).2.2.1 ∈ Ts) (href : (T k0).1 = ref) (hfin : (T k0).2.2.2 = false) (hd : parseFieldDescriptor (T k0).2.2.1 = some ty) (hn : narrow ty v = v) (hfit : fits ty v = true) (hl9 : k0 < fs.length) (hw2 : w.set q0 (a, .inr (ci, fs.set k0 v)) = w2) (d : decode cc pc = .ok (.putfield index, 3)) (k : GW κ n1 n2 w2 (pc + 3) lv st) : GW κ n1 n2 w pc lv (v :: .ref a :: st) := by
  obtain ⟨p, l, e, R, s, m, args, below, meth, c, Q, A, D, cy', nL', Z'⟩ := κ
  obtain ⟨hx, hb, hts, hown, hK, hml, hA, hlk, hR, hcy, hZe, hZ⟩ := hX
  intro H locs ls hP hD hS hl
  subst hw2
  exact va_put (D := D) hx hb hts hin ty0 hty hnm hown hK hP hD hS q0 he hc k0 hk (hts _ hlk0) (fun _ h9 => by rw [← href]; exact h9) hfin hd hn hfit hl9 d (fun H1 locs1 hP hD hS => k H1 locs1 ls hP hD hS hl)
theorem g_ald (hX : GX κ cy Z cc Ts own rm) {a n : Nat} {f : Nat → Int32} {i : Int32} (q0 : Nat) (he : w[q0]? = some (a, .inl (cy 0, n, .inl f))) (hi : vp_in i n) (d : decode cc pc = .ok (.iaload, 1)) (k : GW κ n1 n2 w (pc + 1) lv (.int (f i.toNatClampNeg) :: st)) : GW κ n1 n2 w pc lv (.int i :: .ref a :: st) := by
  obtain ⟨p, l, e, R, s, m, args, below, meth, c, Q, A, D, cy', nL', Z'⟩ := κ
  obtain ⟨hx, hb, hts, hown, hK, hml, hA, hlk, hR, hcy, hZe, hZ⟩ := hX
  intro H locs ls hP hD hS hl
  subst hcy
  exact va_iald hx hb hK hP q0 0 he rfl hi d (k H locs ls hP hD hS hl)
theorem g_ast (hX : GX κ cy Z cc Ts own rm) {a n : Nat} {f : Nat → Int32} {i x : Int32} {w2 : va_W} (q0 : Nat) (he : w[q0]? = some (a, .inl (cy 0, n, .inl f))) (hi : vp_in i n) (hw2 : w.set q0 (a, .inl (cy 0, n, .inl (upd f i.toNatClampNeg x))) = w2) (d : decode cc pc = .ok (.iastore, 1)) (k : GW κ n1 n2 w2 (pc + 1) lv st) : GW κ n1 n2 w pc lv (.int x :: .int i :: .ref a :: st) := by
  obtain ⟨p, l, e, R, s, m, args, below, meth, c, Q, A, D, cy', nL', Z'⟩ := κ
  obtain ⟨hx, hb, hts, hown, hK, hml, hA, hlk, hR, hcy, hZe, hZ⟩ := hX
  intro H locs ls hP hD hS hl
  subst hw2
  subst hcy
  exact va_iast hx hb hK hP hD hS q0 0 he rfl hi d (fun H1 locs1 hP hD hS => k H1 locs1 ls hP hD hS hl)
theorem g_aald (hX : GX κ cy Z cc Ts own rm) {a n : Nat} {f : Nat → Option Nat} {i : Int32} {C : String} (q0 t0 : Nat) (he : w[q0]? = some (a, .inl (cy t0, n, .inr (.inr (.inr (.inr f)))))) (ht : (zTy cy)[t0]? = some (cy t0, .object C)) (hi : vp_in i n) (d : decode cc pc = .ok (.aaload, 1)) (k : GW κ n1 n2 w (pc + 1) lv (va_rf (f i.toNatClampNeg) :: st)) : GW κ n1 n2 w pc lv (.int i :: .ref a :: st) := by
  obtain ⟨p, l, e, R, s, m, args, below, meth, c, Q, A, D, cy', nL', Z'⟩ := κ
  obtain ⟨hx, hb, hts, hown, hK, hml, hA, hlk, hR, hcy, hZe, hZ⟩ := hX
  intro H locs ls hP hD hS hl
  subst hcy
  exact va_aldq hx hb hK hP q0 t0 he ht hi d (k H locs ls hP hD hS hl)
theorem g_alen (hX : GX κ cy Z cc Ts own rm) {a n : Nat} {f : Nat → Int32} {v : Int32} (q0 : Nat) (he : w[q0]? = some (a, .inl (cy 0, n, .inl f))) (hv : Int32.ofNat n = v) (d : decode cc pc = .ok (.arraylength, 1)) (k : GW κ n1 n2 w (pc + 1) lv (.int v :: st)) : GW κ n1 n2 w pc lv (.ref a :: st) := by
  obtain ⟨p, l, e, R, s, m, args, below, meth, c, Q, A, D, cy', nL', Z'⟩ := κ
  obtain ⟨hx, hb, hts, hown, hK, hml, hA, hlk, hR, hcy, hZe, hZ⟩ := hX
  intro H locs ls hP hD hS hl
  subst hcy
  exact va_alen hx hb hK hP q0 0 he rfl hv d (k H locs ls hP hD hS hl)
theorem g_callV (hX : GX κ cy Z cc Ts own rm) (hzo : zOK Z) {y : MethodName} {ws ws2 : List Cond} {rm2 : Room} {bytes : ByteArray} {maxL index mc ms : Nat} {ret : Option FieldType} {Po : Option Value → va_W → Prop} {C : String} {b : Nat} (As rest : List Value) (ci q0 : Nat) {qc : vw_C} {fs : List Value} (hcl : vwCl[ci]? = some qc) (hcn : qc.1 = C) (he : w[q0]? = some (b, .inr (ci, fs))) (hM : GM (Kl κ) (KD κ) cy Z y ws rm2 (.ref b :: As) w Po mc ms) (hG : GoodIn Ts (wsV own index C y ws)) (hw : ws = Cond.code y bytes maxL ret :: ws2) (hrc : rm2.cells = mc) (hrs : rm2.slots = ms) (hd : y.cls = C ∧ y.cls ≠ "java/lang/invoke/MethodHandle" ∧ y.cls ≠ "java/lang/invoke/VarHandle" ∧ (parseMethodDescriptor y.desc).map (fun d => d.parameters.length) = some As.length) (hR1 : rm2.frames + 1 ≤ rm.frames) (hR2 : 8 + (maxL + 11) + rm2.locals ≤ rm.locals) {st0 : List Value} (hst : st0 = As.reverse ++ .ref b :: rest) (hrest : (rest.map fun v => v.category).sum ≤ 8) (hf : n1 + mc ≤ rm.cells ∧ n2 + ms ≤ rm.slots) (d : decode cc pc = .ok (.invokevirtual index, 3)) (k : ∀ (res : Option Value) (w2 : va_W), Po res w2 → GW κ (n1 + mc) (n2 + ms) w2 (pc + 3) lv (res.toList ++ rest)) : GW κ n1 n2 w pc lv st0 := by
  obtain ⟨p, l, e, R, s, m, args, below, meth, c, Q, A, D, cy', nL', Z'⟩ := κ
  obtain ⟨hx, hb, hts, hown, hK, hml, hA, hlk, hR, hcy, hZe, hZ⟩ := hX
  intro H locs ls hP hD hS hl
  subst hR
  subst hcy
  subst hZe
  have hF : ∀ q, va_A w H.size q → A q := fun q h => by
    rcases h with ⟨k9, e9, h⟩ | h
    · exact hD.2 k9 (q, e9) h
    · exact hA q (Nat.le_trans hS.1 h)
  have hpre : ∀ U : State, U.heap = H → s.WarmedH U.vm → U.heap.size = H.size ∧ va_P D vwCl w U.heap ∧ va_K D vwCl (zTy cy') U ∧ va_D (fun _ => True) w ∧ Z' (va_A w H.size) U U.heap := fun U hU hW => by
    refine ⟨by rw [hU], by rw [hU]; exact hP, va_K.moved hW.alike hK, hD.weaken (fun _ _ _ _ => trivial), ?_⟩
    rw [hU]
    exact hzo.1 A _ U H hF (hzo.2.1 A s U H hW.alike (hzo.2.2 A s s.heap H hS.2.1 hZ))
  have hrv : ∃ cellB : Cell, H[b]? = some cellB ∧ cellB.vm.isStatics = false ∧ s.vm.findClass C = some cellB.cls := by rw [← hcn]; exact va_recv hK hP hcl he
  intro T hT X
  have hr := va_runV (l := l) (e := e) (below := below) (meth := meth) (As := As) (rest := rest) (n := As.length) (locs := locs) (cells := n1) (slots := n2) (g := F0 m pc ls st0) ⟨hx, hb, hml, hown, hts⟩ (hM H.size) (cwV As.length hts hG hw hrc hrs hd ⟨hR1, hR2⟩) ⟨fun a U g mk q => by obtain ⟨q0, q1, qP, qK, qD, qZ⟩ := q; exact ⟨q0, q1, qP, va_K.moved (u := U) (U := U.calling g mk a) (Vm.Alike.refl U.vm) qK, qD, hzo.2.1 _ U _ _ (Vm.Alike.refl U.vm) qZ⟩, hrv, fun U hU hW => ⟨rfl, hpre U hU hW⟩⟩ rfl rfl hl.1 hst (lv_room hrest) d hf
  obtain ⟨v9, st₀, t, T', L, h0, X', hL, e1, e2, ⟨⟨res, w2, hPo, hv, hP1, hD1⟩, hz, hk⟩, stp⟩ := hr T hT X
  cases hv
  rw [h0] at hz hk
  obtain ⟨t2, a1, b1⟩ := k _ w2 hPo T'.heap (locs ++ L) ls (by rw [e1]; exact hP1) (hD1.weaken (fun _ q _ h => hF q.1 h))
    ⟨Nat.le_trans hS.1 (by rw [e1]; exact hz), fun q h1 h2 => by rw [e1, hk q (Nat.lt_of_lt_of_le h1 hS.1) (fun z => h2 (hF q z))]; exact hS.2.1 q h1 h2, fun q hq => by
      rcases List.mem_append.mp hq with h | h
      · exact hS.2.2 q h
      · exact hF _ (hL q h)⟩ hl T' rfl X'
  exact ⟨t2, stp t2 a1, b1⟩
theorem g_callS (hX : GX κ cy Z cc Ts own rm) (hzo : zOK Z) {y : MethodName} {ws ws2 : List Cond} {rm2 : Room} {bytes : ByteArray} {maxL index mc ms : Nat} {ret : Option FieldType} {Po : Option Value → va_W → Prop}  (As rest : List Value)  (hM : GM (Kl κ) (KD κ) cy Z y ws rm2 (As) w Po mc ms) (hG : GoodIn Ts (va_wsS own index y ws)) (hw : ws = Cond.code y bytes maxL ret :: ws2) (hrc : rm2.cells = mc) (hrs : rm2.slots = ms) (hd : y.cls ≠ "java/lang/invoke/MethodHandle" ∧ y.cls ≠ "java/lang/invoke/VarHandle" ∧ (parseMethodDescriptor y.desc).map (fun d => d.parameters.length) = some As.length) (hR1 : rm2.frames + 1 ≤ rm.frames) (hR2 : 8 + (maxL + 11) + rm2.locals ≤ rm.locals) {st0 : List Value} (hst : st0 = As.reverse ++ rest) (hrest : (rest.map fun v => v.category).sum ≤ 8) (hf : n1 + mc ≤ rm.cells ∧ n2 + ms ≤ rm.slots) (d : decode cc pc = .ok (.invokestatic index, 3)) (k : ∀ (res : Option Value) (w2 : va_W), Po res w2 → GW κ (n1 + mc) (n2 + ms) w2 (pc + 3) lv (res.toList ++ rest)) : GW κ n1 n2 w pc lv st0 := by
  obtain ⟨p, l, e, R, s, m, args, below, meth, c, Q, A, D, cy', nL', Z'⟩ := κ
  obtain ⟨hx, hb, hts, hown, hK, hml, hA, hlk, hR, hcy, hZe, hZ⟩ := hX
  intro H locs ls hP hD hS hl
  subst hR
  subst hcy
  subst hZe
  have hF : ∀ q, va_A w H.size q → A q := fun q h => by
    rcases h with ⟨k9, e9, h⟩ | h
    · exact hD.2 k9 (q, e9) h
    · exact hA q (Nat.le_trans hS.1 h)
  have hpre : ∀ U : State, U.heap = H → s.WarmedH U.vm → U.heap.size = H.size ∧ va_P D vwCl w U.heap ∧ va_K D vwCl (zTy cy') U ∧ va_D (fun _ => True) w ∧ Z' (va_A w H.size) U U.heap := fun U hU hW => by
    refine ⟨by rw [hU], by rw [hU]; exact hP, va_K.moved hW.alike hK, hD.weaken (fun _ _ _ _ => trivial), ?_⟩
    rw [hU]
    exact hzo.1 A _ U H hF (hzo.2.1 A s U H hW.alike (hzo.2.2 A s s.heap H hS.2.1 hZ))
  intro T hT X
  have hr := va_runS (l := l) (e := e) (below := below) (meth := meth) (As := As) (rest := rest) (n := As.length) (locs := locs) (cells := n1) (slots := n2) (g := F0 m pc ls st0) ⟨hx, hb, hml, hown, hts⟩ (hM H.size) (va_cwS As.length hts hG hw hrc hrs hd ⟨hR1, hR2⟩) ⟨fun a U g mk q => by obtain ⟨q0, q1, qP, qK, qD, qZ⟩ := q; exact ⟨q0, q1, qP, va_K.moved (u := U) (U := U.calling g mk a) (Vm.Alike.refl U.vm) qK, qD, hzo.2.1 _ U _ _ (Vm.Alike.refl U.vm) qZ⟩, fun U hU hW => ⟨rfl, hpre U hU hW⟩⟩ rfl rfl hl.1 hst (lv_room hrest) d hf
  obtain ⟨v9, st₀, t, T', L, h0, X', hL, e1, e2, ⟨⟨res, w2, hPo, hv, hP1, hD1⟩, hz, hk⟩, stp⟩ := hr T hT X
  cases hv
  rw [h0] at hz hk
  obtain ⟨t2, a1, b1⟩ := k _ w2 hPo T'.heap (locs ++ L) ls (by rw [e1]; exact hP1) (hD1.weaken (fun _ q _ h => hF q.1 h))
    ⟨Nat.le_trans hS.1 (by rw [e1]; exact hz), fun q h1 h2 => by rw [e1, hk q (Nat.lt_of_lt_of_le h1 hS.1) (fun z => h2 (hF q z))]; exact hS.2.1 q h1 h2, fun q hq => by
      rcases List.mem_append.mp hq with h | h
      · exact hS.2.2 q h
      · exact hF _ (hL q h)⟩ hl T' rfl X'
  exact ⟨t2, stp t2 a1, b1⟩
end GG
end
section
def bI (b : Bool) : Int32 := if b then 1 else 0
theorem bI_t : bI true = 1 := rfl
theorem bI_f : bI false = 0 := rfl
theorem bI_ne {b : Bool} (h : ¬ bI b = 0) : b = true := by cases b with | false => exact absurd rfl h | true => rfl
theorem bI_eq {b : Bool} (h : bI b = 0) : b = false := by cases b with | false => rfl | true => exact absurd h (by decide)
theorem bI_nar (b : Bool) : narrow .boolean (.int (bI b)) = .int (bI b) := by cases b <;> rfl
theorem bI_one (b : Bool) (h : b = true) : (1 : Int32) = bI b := by rw [h]; rfl
theorem bI_zero (b : Bool) (h : b = false) : (0 : Int32) = bI b := by rw [h]; rfl
/-- the row j of the family becomes f -/
def mU (r : Nat → Nat → Int32) (j : Nat) (f : Nat → Int32) : Nat → Nat → Int32 := fun k => if k = j then f else r k
theorem mU_s (r : Nat → Nat → Int32) (j : Nat) (f : Nat → Int32) : mU r j f j = f := by simp [mU]
theorem mU_n (r : Nat → Nat → Int32) {j k : Nat} (f : Nat → Int32) (h : k ≠ j) : mU r j f k = r k := by simp [mU, h]
theorem mU_mU (r : Nat → Nat → Int32) (j : Nat) (f g : Nat → Int32) : mU (mU r j f) j g = mU r j g := by funext k; by_cases h : k = j <;> simp [mU, h]
theorem mU_self (r : Nat → Nat → Int32) (j : Nat) : mU r j (r j) = r := by funext k; by_cases h : k = j <;> simp [mU, h]
def mF (a : Nat → Nat) (v : Nat → Int32) : List Value := [.ref (a 0), .ref (a 1), .ref (a 2), .int (v 3), .ref (a 4), .ref (a 5), .ref (a 6), .ref (a 7), .ref (a 8), .ref (a 9), .ref (a 10), .ref (a 11), .ref (a 12), .ref (a 13), .ref (a 14), .ref (a 15), .int (v 16), .int (v 17), .int (v 18), .int (v 19), .int (v 20), .int (v 21), .int (v 22), .int (v 23), .int (v 24), .int (v 25), .int (v 26), .ref (a 27), .ref (a 28), .ref (a 29), .ref (a 30), .int (v 31), .ref (a 32)]
def mN : Nat → Nat := fun j => match j with
  | 0 => 3069
  | 1 => 3069
  | 2 => 3069
  | 4 => 4
  | 5 => 4
  | 6 => 96
  | 7 => 5
  | 8 => 5
  | 9 => 5
  | 10 => 5
  | 11 => 120
  | 12 => 9
  | 13 => 9
  | 14 => 69
  | 15 => 96
  | 27 => 128
  | 28 => 100
  | 29 => 24
  | 30 => 60
  | 32 => 60
  | _ => 0
def mA (j : Nat) : Bool := [1, 2, 4, 5, 6, 7, 8, 9, 10, 11, 14, 15, 29, 30, 32].contains j
/-- scratch rows: nobody asks what they hold between calls -/
def mB (j : Nat) : Bool := [12, 13, 27, 28].contains j
def mI (j : Nat) : Bool := [3, 16, 17, 18, 19, 20, 21, 22, 23, 24, 25, 26, 31].contains j
/-- C is a family of worlds that hold the reference at h0: its object at the place q 33, its row j at the place q j -/
def mLens (cI : ClassId) (h0 : Nat) (a q : Nat → Nat) (C : (Nat → Int32) → (Nat → Int32) → (Nat → Nat → Int32) → (Nat → Nat → Int32) → va_W) : Prop :=
  (∀ v s r x, (C v s r x)[q 33]? = some (h0, .inr (7, mF a v))) ∧ (∀ v s r x k y, mI k = true → (C v s r x).set (q 33) (h0, .inr (7, (mF a v).set k (.int y))) = C (upd v k y) s r x) ∧
  (∀ v s r x j, mA j = true → (C v s r x)[q j]? = some (a j, .inl (cI, mN j, .inl (r j)))) ∧ (∀ v s r x j f, mA j = true → (C v s r x).set (q j) (a j, .inl (cI, mN j, .inl f)) = C v s (mU r j f) x) ∧
  (∀ v s r x j, mB j = true → (C v s r x)[q j]? = some (a j, .inl (cI, mN j, .inl (x j)))) ∧ (∀ v s r x j f, mB j = true → (C v s r x).set (q j) (a j, .inl (cI, mN j, .inl f)) = C v s r (mU x j f)) ∧
  (∀ v s r x, (C v s r x)[q 0]? = some (a 0, .inl (cI, 3069, .inl s))) ∧ (∀ v s r x f, (C v s r x).set (q 0) (a 0, .inl (cI, 3069, .inl f)) = C v f r x)
theorem m_ref : ∀ k : Nat, (TX7 k).1 = "LeaningStreetModel" := by intro k; unfold TX7; split <;> rfl
/-- what a caller needs of a callee beside its contract -/
def mKV (C : String) (y : MethodName) (c : ByteArray) (n : Nat) (r : Option FieldType) (na : Nat) : Prop := Cond.instanceMethod y ∈ lw_tbl ∧ Cond.selects C y y ∈ lw_tbl ∧ Cond.initialized C ∈ lw_tbl ∧ Cond.code y c n r ∈ lw_tbl ∧ (y.cls = C ∧ y.cls ≠ "java/lang/invoke/MethodHandle" ∧ y.cls ≠ "java/lang/invoke/VarHandle" ∧ (parseMethodDescriptor y.desc).map (fun d => d.parameters.length) = some na)
def mKS (y : MethodName) (c : ByteArray) (n : Nat) (r : Option FieldType) (na : Nat) : Prop := Cond.static y ∈ lw_tbl ∧ Cond.initialized y.cls ∈ lw_tbl ∧ Cond.code y c n r ∈ lw_tbl ∧ (y.cls ≠ "java/lang/invoke/MethodHandle" ∧ y.cls ≠ "java/lang/invoke/VarHandle" ∧ (parseMethodDescriptor y.desc).map (fun d => d.parameters.length) = some na)
section MM
variable {κ : GC} {cy : Nat → ClassId} {Z : (Nat → Prop) → State → Heap → Prop} {cc : ByteArray} {w0 : Cond} {rm : Room} {n1 n2 : Nat} {pc : Nat} {lv : List (Nat × Value)} {st : List Value} {h0 : Nat} {a q : Nat → Nat} {C : (Nat → Int32) → (Nat → Int32) → (Nat → Nat → Int32) → (Nat → Nat → Int32) → va_W} {v s : Nat → Int32} {r x : Nat → Nat → Int32}
theorem m_getA (hX : GX κ cy Z cc (w0 :: zT) RX7 rm) (hC : mLens (cy 0) h0 a q C) (j : Nat) (hj : j < 33) {index : Nat} (hv : (mF a v)[j]? = some (.ref (a j))) (hl : Cond.fieldLink RX7 index "LeaningStreetModel" (TX7 j).2.1 (TX7 j).2.2.1 ∈ lw_tbl) (d : decode cc pc = .ok (.getfield index, 3)) (k : GW κ n1 n2 (C v s r x) (pc + 3) lv (.ref (a j) :: st)) : GW κ n1 n2 (C v s r x) pc lv (.ref h0 :: st) := g_get hX 7 (q 33) j zin_X7 (hC.1 v s r x) rfl hj (zu hl rfl) (m_ref j) hv d k
theorem m_getI (hX : GX κ cy Z cc (w0 :: zT) RX7 rm) (hC : mLens (cy 0) h0 a q C) (j : Nat) (hj : j < 33) {index : Nat} {z : Int32} (hv : (mF a v)[j]? = some (.int z)) (hl : Cond.fieldLink RX7 index "LeaningStreetModel" (TX7 j).2.1 (TX7 j).2.2.1 ∈ lw_tbl) (d : decode cc pc = .ok (.getfield index, 3)) (k : GW κ n1 n2 (C v s r x) (pc + 3) lv (.int z :: st)) : GW κ n1 n2 (C v s r x) pc lv (.ref h0 :: st) := g_get hX 7 (q 33) j zin_X7 (hC.1 v s r x) rfl hj (zu hl rfl) (m_ref j) hv d k
theorem m_putI (hX : GX κ cy Z cc (w0 :: zT) RX7 rm) (hC : mLens (cy 0) h0 a q C) (j : Nat) (hj : j < 33) (hI : mI j = true) {index : Nat} {z : Int32} {ty : FieldType} (hfin : (TX7 j).2.2.2 = false) (hd : parseFieldDescriptor (TX7 j).2.2.1 = some ty) (hn : narrow ty (.int z) = .int z) (hfit : fits ty (.int z) = true) (hl : Cond.fieldLink RX7 index "LeaningStreetModel" (TX7 j).2.1 (TX7 j).2.2.1 ∈ lw_tbl) (d : decode cc pc = .ok (.putfield index, 3)) (k : GW κ n1 n2 (C (upd v j z) s r x) (pc + 3) lv st) : GW κ n1 n2 (C v s r x) pc lv (.int z :: .ref h0 :: st) := g_put hX 7 (q 33) j zin_X7 tyX7 tyX7_ok nmX7 (hC.1 v s r x) rfl hj (zu hl rfl) (m_ref j) hfin hd hn hfit hj (hC.2.1 v s r x j z hI) d k
theorem m_ald (hX : GX κ cy Z cc (w0 :: zT) RX7 rm) (hC : mLens (cy 0) h0 a q C) (j : Nat) (hA : mA j = true) {i : Int32} (hi : vp_in i (mN j)) (d : decode cc pc = .ok (.iaload, 1)) (k : GW κ n1 n2 (C v s r x) (pc + 1) lv (.int (r j i.toNatClampNeg) :: st)) : GW κ n1 n2 (C v s r x) pc lv (.int i :: .ref (a j) :: st) := g_ald hX (q j) (hC.2.2.1 v s r x j hA) hi d k
theorem m_aldN (hX : GX κ cy Z cc (w0 :: zT) RX7 rm) (hC : mLens (cy 0) h0 a q C) (j : Nat) (hA : mA j = true) {i : Nat} (hi : i < mN j) (hN : mN j < 2 ^ 31) (d : decode cc pc = .ok (.iaload, 1)) (k : GW κ n1 n2 (C v s r x) (pc + 1) lv (.int (r j i) :: st)) : GW κ n1 n2 (C v s r x) pc lv (.int (nI i) :: .ref (a j) :: st) := m_ald hX hC j hA (vp_in_nI hi hN) d (by rw [nI_clamp (Nat.lt_trans hi hN)]; exact k)
theorem m_ast (hX : GX κ cy Z cc (w0 :: zT) RX7 rm) (hC : mLens (cy 0) h0 a q C) (j : Nat) (hA : mA j = true) {i z : Int32} (hi : vp_in i (mN j)) (d : decode cc pc = .ok (.iastore, 1)) (k : GW κ n1 n2 (C v s (mU r j (upd (r j) i.toNatClampNeg z)) x) (pc + 1) lv st) : GW κ n1 n2 (C v s r x) pc lv (.int z :: .int i :: .ref (a j) :: st) := g_ast hX (q j) (hC.2.2.1 v s r x j hA) hi (hC.2.2.2.1 v s r x j _ hA) d k
theorem m_astN (hX : GX κ cy Z cc (w0 :: zT) RX7 rm) (hC : mLens (cy 0) h0 a q C) (j : Nat) (hA : mA j = true) {i : Nat} {z : Int32} (hi : i < mN j) (hN : mN j < 2 ^ 31) (d : decode cc pc = .ok (.iastore, 1)) (k : GW κ n1 n2 (C v s (mU r j (upd (r j) i z)) x) (pc + 1) lv st) : GW κ n1 n2 (C v s r x) pc lv (.int z :: .int (nI i) :: .ref (a j) :: st) := m_ast hX hC j hA (vp_in_nI hi hN) d (by rw [nI_clamp (Nat.lt_trans hi hN)]; exact k)
theorem mb_ald (hX : GX κ cy Z cc (w0 :: zT) RX7 rm) (hC : mLens (cy 0) h0 a q C) (j : Nat) (hB : mB j = true) {i : Int32} (hi : vp_in i (mN j)) (d : decode cc pc = .ok (.iaload, 1)) (k : GW κ n1 n2 (C v s r x) (pc + 1) lv (.int (x j i.toNatClampNeg) :: st)) : GW κ n1 n2 (C v s r x) pc lv (.int i :: .ref (a j) :: st) := g_ald hX (q j) (hC.2.2.2.2.1 v s r x j hB) hi d k
theorem mb_aldN (hX : GX κ cy Z cc (w0 :: zT) RX7 rm) (hC : mLens (cy 0) h0 a q C) (j : Nat) (hB : mB j = true) {i : Nat} (hi : i < mN j) (hN : mN j < 2 ^ 31) (d : decode cc pc = .ok (.iaload, 1)) (k : GW κ n1 n2 (C v s r x) (pc + 1) lv (.int (x j i) :: st)) : GW κ n1 n2 (C v s r x) pc lv (.int (nI i) :: .ref (a j) :: st) := mb_ald hX hC j hB (vp_in_nI hi hN) d (by rw [nI_clamp (Nat.lt_trans hi hN)]; exact k)
theorem mb_ast (hX : GX κ cy Z cc (w0 :: zT) RX7 rm) (hC : mLens (cy 0) h0 a q C) (j : Nat) (hB : mB j = true) {i z : Int32} (hi : vp_in i (mN j)) (d : decode cc pc = .ok (.iastore, 1)) (k : GW κ n1 n2 (C v s r (mU x j (upd (x j) i.toNatClampNeg z))) (pc + 1) lv st) : GW κ n1 n2 (C v s r x) pc lv (.int z :: .int i :: .ref (a j) :: st) := g_ast hX (q j) (hC.2.2.2.2.1 v s r x j hB) hi (hC.2.2.2.2.2.1 v s r x j _ hB) d k
theorem mb_astN (hX : GX κ cy Z cc (w0 :: zT) RX7 rm) (hC : mLens (cy 0) h0 a q C) (j : Nat) (hB : mB j = true) {i : Nat} {z : Int32} (hi : i < mN j) (hN : mN j < 2 ^ 31) (d : decode cc pc = .ok (.iastore, 1)) (k : GW κ n1 n2 (C v s r (mU x j (upd (x j) i z))) (pc + 1) lv st) : GW κ n1 n2 (C v s r x) pc lv (.int z :: .int (nI i) :: .ref (a j) :: st) := mb_ast hX hC j hB (vp_in_nI hi hN) d (by rw [nI_clamp (Nat.lt_trans hi hN)]; exact k)
theorem m0_ald (hX : GX κ cy Z cc (w0 :: zT) RX7 rm) (hC : mLens (cy 0) h0 a q C) {i : Int32} (hi : vp_in i 3069) (d : decode cc pc = .ok (.iaload, 1)) (k : GW κ n1 n2 (C v s r x) (pc + 1) lv (.int (s i.toNatClampNeg) :: st)) : GW κ n1 n2 (C v s r x) pc lv (.int i :: .ref (a 0) :: st) := g_ald hX (q 0) (hC.2.2.2.2.2.2.1 v s r x) hi d k
theorem m0_aldN (hX : GX κ cy Z cc (w0 :: zT) RX7 rm) (hC : mLens (cy 0) h0 a q C) {i : Nat} (hi : i < 3069) (d : decode cc pc = .ok (.iaload, 1)) (k : GW κ n1 n2 (C v s r x) (pc + 1) lv (.int (s i) :: st)) : GW κ n1 n2 (C v s r x) pc lv (.int (nI i) :: .ref (a 0) :: st) := m0_ald hX hC (vp_in_nI hi (by decide)) d (by rw [nI_clamp (Nat.lt_trans hi (by decide))]; exact k)
theorem m0_ast (hX : GX κ cy Z cc (w0 :: zT) RX7 rm) (hC : mLens (cy 0) h0 a q C) {i z : Int32} (hi : vp_in i 3069) (d : decode cc pc = .ok (.iastore, 1)) (k : GW κ n1 n2 (C v (upd s i.toNatClampNeg z) r x) (pc + 1) lv st) : GW κ n1 n2 (C v s r x) pc lv (.int z :: .int i :: .ref (a 0) :: st) := g_ast hX (q 0) (hC.2.2.2.2.2.2.1 v s r x) hi (hC.2.2.2.2.2.2.2 v s r x _) d k
theorem m0_astN (hX : GX κ cy Z cc (w0 :: zT) RX7 rm) (hC : mLens (cy 0) h0 a q C) {i : Nat} {z : Int32} (hi : i < 3069) (d : decode cc pc = .ok (.iastore, 1)) (k : GW κ n1 n2 (C v (upd s i z) r x) (pc + 1) lv st) : GW κ n1 n2 (C v s r x) pc lv (.int z :: .int (nI i) :: .ref (a 0) :: st) := m0_ast hX hC (vp_in_nI hi (by decide)) d (by rw [nI_clamp (Nat.lt_trans hi (by decide))]; exact k)
theorem m_call (hX : GX κ cy Z cc (w0 :: zT) RX7 rm) (hzo : zOK Z) (hC : mLens (cy 0) h0 a q C) {y : MethodName} {cb : ByteArray} {nl : Nat} {rt : Option FieldType} {rm2 : Room} {index : Nat} {Po : Option Value → va_W → Prop} (As rest : List Value) (hM : GM (Kl κ) (KD κ) cy Z y (zW y cb nl rt) rm2 (.ref h0 :: As) (C v s r x) Po 0 0) (hk : mKV RX7 y cb nl rt As.length) (h1 : Cond.methodLink RX7 index y ∈ lw_tbl) (hrc : rm2.cells = 0) (hrs : rm2.slots = 0) (hR1 : rm2.frames + 1 ≤ rm.frames) (hR2 : 8 + (nl + 11) + rm2.locals ≤ rm.locals) (hf : n1 + 0 ≤ rm.cells ∧ n2 + 0 ≤ rm.slots) {st0 : List Value} (hst : st0 = As.reverse ++ .ref h0 :: rest) (hrest : (rest.map fun v => v.category).sum ≤ 8) (d : decode cc pc = .ok (.invokevirtual index, 3)) (k : ∀ (res : Option Value) (w2 : va_W), Po res w2 → GW κ n1 n2 w2 (pc + 3) lv (res.toList ++ rest)) : GW κ n1 n2 (C v s r x) pc lv st0 :=
  g_callV hX hzo As rest 7 (q 33) (qc := (RX7, TX7, 33)) rfl rfl (hC.1 v s r x) hM (z_V h1 hk.1 hk.2.1 hk.2.2.1 hk.2.2.2.1) rfl hrc hrs hk.2.2.2.2 hR1 hR2 hst hrest hf d k
theorem m_callD (hX : GX κ cy Z cc (w0 :: zT) RX7 rm) (hzo : zOK Z) (hC : mLens (cy 0) h0 a q C) {y : MethodName} {cb : ByteArray} {nl : Nat} {rt : Option FieldType} {rm2 : Room} {index : Nat} {res : Option Value} {w2 : va_W} (As rest : List Value) (hM : GD (Kl κ) (KD κ) cy Z y (zW y cb nl rt) rm2 (.ref h0 :: As) (C v s r x) res w2 0 0) (hk : mKV RX7 y cb nl rt As.length) (h1 : Cond.methodLink RX7 index y ∈ lw_tbl) (hrc : rm2.cells = 0) (hrs : rm2.slots = 0) (hR1 : rm2.frames + 1 ≤ rm.frames) (hR2 : 8 + (nl + 11) + rm2.locals ≤ rm.locals) (hf : n1 + 0 ≤ rm.cells ∧ n2 + 0 ≤ rm.slots) {st0 st1 : List Value} (hst : st0 = As.reverse ++ .ref h0 :: rest) (hst1 : res.toList ++ rest = st1) (hrest : (rest.map fun v => v.category).sum ≤ 8) (d : decode cc pc = .ok (.invokevirtual index, 3)) (k : GW κ n1 n2 w2 (pc + 3) lv st1) : GW κ n1 n2 (C v s r x) pc lv st0 := by
  refine m_call hX hzo hC As rest hM hk h1 hrc hrs hR1 hR2 hf hst hrest d ?_
  rintro res' w' ⟨rfl, rfl⟩
  rw [hst1]
  exact k
end MM
/-- a static method's call, the world as it is -/
theorem s_call {κ : GC} {cy : Nat → ClassId} {Z : (Nat → Prop) → State → Heap → Prop} {cc : ByteArray} {w0 : Cond} {own : String} {rm : Room} {n1 n2 : Nat} {pc : Nat} {lv : List (Nat × Value)} {w : va_W} (hX : GX κ cy Z cc (w0 :: zT) own rm) (hzo : zOK Z) {y : MethodName} {cb : ByteArray} {nl : Nat} {rt : Option FieldType} {rm2 : Room} {index : Nat} {res : Option Value} (As rest : List Value) (hM : GD (Kl κ) (KD κ) cy Z y (zW y cb nl rt) rm2 As w res w 0 0) (hk : mKS y cb nl rt As.length) (h1 : Cond.methodLink own index y ∈ lw_tbl) (hrc : rm2.cells = 0) (hrs : rm2.slots = 0) (hR1 : rm2.frames + 1 ≤ rm.frames) (hR2 : 8 + (nl + 11) + rm2.locals ≤ rm.locals) (hf : n1 + 0 ≤ rm.cells ∧ n2 + 0 ≤ rm.slots) {st0 st1 : List Value} (hst : st0 = As.reverse ++ rest) (hst1 : res.toList ++ rest = st1) (hrest : (rest.map fun v => v.category).sum ≤ 8) (d : decode cc pc = .ok (.invokestatic index, 3)) (k : GW κ n1 n2 w (pc + 3) lv st1) : GW κ n1 n2 w pc lv st0 := by
  refine g_callS hX hzo As rest hM (z_S h1 hk.1 hk.2.1 hk.2.2.1) rfl hrc hrs hk.2.2.2 hR1 hR2 hst hrest hf d ?_
  rintro res' w' ⟨rfl, rfl⟩
  rw [hst1]
  exact k
section NN
variable {κ : GC} {cy : Nat → ClassId} {Z : (Nat → Prop) → State → Heap → Prop} {cc : ByteArray} {Ts : List Cond} {own : String} {rm : Room} {n1 n2 : Nat} {w : va_W} {pc : Nat} {lv : List (Nat × Value)} {st : List Value}
theorem g_iaddN (hX : GX κ cy Z cc Ts own rm) {x y : Nat} (d : decode cc pc = .ok (.iadd, 1)) (k : GW κ n1 n2 w (pc + 1) lv (.int (nI (x + y)) :: st)) : GW κ n1 n2 w pc lv (.int (nI y) :: .int (nI x) :: st) := g_iadd hX d (by rw [nI_add]; exact k)
theorem g_imulN (hX : GX κ cy Z cc Ts own rm) {x y : Nat} (d : decode cc pc = .ok (.imul, 1)) (k : GW κ n1 n2 w (pc + 1) lv (.int (nI (x * y)) :: st)) : GW κ n1 n2 w pc lv (.int (nI y) :: .int (nI x) :: st) := g_imul hX d (by rw [pk_mul]; exact k)
theorem g_isubN (hX : GX κ cy Z cc Ts own rm) {x y : Nat} (h : y ≤ x) (d : decode cc pc = .ok (.isub, 1)) (k : GW κ n1 n2 w (pc + 1) lv (.int (nI (x - y)) :: st)) : GW κ n1 n2 w pc lv (.int (nI y) :: .int (nI x) :: st) := g_isub hX d (by rw [pk_sub h]; exact k)
theorem g_iincN (hX : GX κ cy Z cc Ts own rm) {n x : Nat} {lv2 : List (Nat × Value)} (i j nL : Nat) (hn : GN κ nL) (hl0 : lv[i]? = some (j, .int (nI x))) (hj : j < nL) (h2 : (j, Value.int (nI (x + n))) :: lv.filter (fun q => !(q.1 == j) && !(q.1 + 1 == j && q.2.category == 2)) = lv2) (d : decode cc pc = .ok (.iinc j (n : Int), 3)) (k : GW κ n1 n2 w (pc + 3) lv2 st) : GW κ n1 n2 w pc lv st := g_iinc hX i j nL hn hl0 (by rw [show Int32.ofInt (n : Int) = nI n from Int32.ofInt_eq_ofNat]; exact nI_add x n) hj h2 d k
theorem g_ifb_eq (hX : GX κ cy Z cc Ts own rm) {b : Bool} {off : Int} (tgt : Nat) (ht : (pc : Int) + off = (tgt : Int)) (d : decode cc pc = .ok (.ifCond .eq off, 3)) (kt : b = false → GW κ n1 n2 w tgt lv st) (kf : b = true → GW κ n1 n2 w (pc + 3) lv st) : GW κ n1 n2 w pc lv (.int (bI b) :: st) := g_if_eq hX tgt ht d (fun h => kt (bI_eq h)) (fun h => kf (bI_ne h))
theorem g_ifb_ne (hX : GX κ cy Z cc Ts own rm) {b : Bool} {off : Int} (tgt : Nat) (ht : (pc : Int) + off = (tgt : Int)) (d : decode cc pc = .ok (.ifCond .ne off, 3)) (kt : b = true → GW κ n1 n2 w tgt lv st) (kf : b = false → GW κ n1 n2 w (pc + 3) lv st) : GW κ n1 n2 w pc lv (.int (bI b) :: st) := g_if_ne hX tgt ht d (fun h => kt (bI_ne h)) (fun h => kf (bI_eq h))
theorem g_icmpN_eq (hX : GX κ cy Z cc Ts own rm) {x y : Nat} (hx : x < 2147483648) (hy : y < 2147483648) {off : Int} (tgt : Nat) (ht : (pc : Int) + off = (tgt : Int)) (d : decode cc pc = .ok (.if_icmp .eq off, 3)) (kt : x = y → GW κ n1 n2 w tgt lv st) (kf : ¬ x = y → GW κ n1 n2 w (pc + 3) lv st) : GW κ n1 n2 w pc lv (.int (nI y) :: .int (nI x) :: st) := g_icmp_eq hX tgt ht d (fun h => kt ((nI_eq hx hy).mp h)) (fun h => kf (fun z => h ((nI_eq hx hy).mpr z)))
theorem g_icmpN_ne (hX : GX κ cy Z cc Ts own rm) {x y : Nat} (hx : x < 2147483648) (hy : y < 2147483648) {off : Int} (tgt : Nat) (ht : (pc : Int) + off = (tgt : Int)) (d : decode cc pc = .ok (.if_icmp .ne off, 3)) (kt : ¬ x = y → GW κ n1 n2 w tgt lv st) (kf : x = y → GW κ n1 n2 w (pc + 3) lv st) : GW κ n1 n2 w pc lv (.int (nI y) :: .int (nI x) :: st) := g_icmp_ne hX tgt ht d (fun h => kt (fun z => h ((nI_eq hx hy).mpr z))) (fun h => kf ((nI_eq hx hy).mp h))
theorem g_icmpN_lt (hX : GX κ cy Z cc Ts own rm) {x y : Nat} (hx : x < 2147483648) (hy : y < 2147483648) {off : Int} (tgt : Nat) (ht : (pc : Int) + off = (tgt : Int)) (d : decode cc pc = .ok (.if_icmp .lt off, 3)) (kt : x < y → GW κ n1 n2 w tgt lv st) (kf : y ≤ x → GW κ n1 n2 w (pc + 3) lv st) : GW κ n1 n2 w pc lv (.int (nI y) :: .int (nI x) :: st) := g_icmp_lt hX tgt ht d (fun h => kt ((nI_ltI hx hy).mp h)) (fun h => kf (Nat.not_lt.mp (fun z => h ((nI_ltI hx hy).mpr z))))
theorem g_icmpN_ge (hX : GX κ cy Z cc Ts own rm) {x y : Nat} (hx : x < 2147483648) (hy : y < 2147483648) {off : Int} (tgt : Nat) (ht : (pc : Int) + off = (tgt : Int)) (d : decode cc pc = .ok (.if_icmp .ge off, 3)) (kt : y ≤ x → GW κ n1 n2 w tgt lv st) (kf : x < y → GW κ n1 n2 w (pc + 3) lv st) : GW κ n1 n2 w pc lv (.int (nI y) :: .int (nI x) :: st) := g_icmp_ge hX tgt ht d (fun h => kt ((nI_leI hy hx).mp h)) (fun h => kf (Nat.not_le.mp (fun z => h ((nI_leI hy hx).mpr z))))
theorem g_icmpN_gt (hX : GX κ cy Z cc Ts own rm) {x y : Nat} (hx : x < 2147483648) (hy : y < 2147483648) {off : Int} (tgt : Nat) (ht : (pc : Int) + off = (tgt : Int)) (d : decode cc pc = .ok (.if_icmp .gt off, 3)) (kt : y < x → GW κ n1 n2 w tgt lv st) (kf : x ≤ y → GW κ n1 n2 w (pc + 3) lv st) : GW κ n1 n2 w pc lv (.int (nI y) :: .int (nI x) :: st) := g_icmp_gt hX tgt ht d (fun h => kt ((nI_ltI hy hx).mp h)) (fun h => kf (Nat.not_lt.mp (fun z => h ((nI_ltI hy hx).mpr z))))
theorem g_icmpN_le (hX : GX κ cy Z cc Ts own rm) {x y : Nat} (hx : x < 2147483648) (hy : y < 2147483648) {off : Int} (tgt : Nat) (ht : (pc : Int) + off = (tgt : Int)) (d : decode cc pc = .ok (.if_icmp .le off, 3)) (kt : x ≤ y → GW κ n1 n2 w tgt lv st) (kf : y < x → GW κ n1 n2 w (pc + 3) lv st) : GW κ n1 n2 w pc lv (.int (nI y) :: .int (nI x) :: st) := g_icmp_le hX tgt ht d (fun h => kt ((nI_leI hx hy).mp h)) (fun h => kf (Nat.not_le.mp (fun z => h ((nI_leI hx hy).mpr z))))
theorem g_ifN_eq (hX : GX κ cy Z cc Ts own rm) {x : Nat} (hx : x < 2147483648) {off : Int} (tgt : Nat) (ht : (pc : Int) + off = (tgt : Int)) (d : decode cc pc = .ok (.ifCond .eq off, 3)) (kt : x = 0 → GW κ n1 n2 w tgt lv st) (kf : ¬ x = 0 → GW κ n1 n2 w (pc + 3) lv st) : GW κ n1 n2 w pc lv (.int (nI x) :: st) := g_if_eq hX tgt ht d (fun h => kt ((nI_eq hx (by decide)).mp (h.trans nI_0.symm))) (fun h => kf (fun z => h (by rw [z]; exact nI_0)))
theorem g_ifN_ne (hX : GX κ cy Z cc Ts own rm) {x : Nat} (hx : x < 2147483648) {off : Int} (tgt : Nat) (ht : (pc : Int) + off = (tgt : Int)) (d : decode cc pc = .ok (.ifCond .ne off, 3)) (kt : ¬ x = 0 → GW κ n1 n2 w tgt lv st) (kf : x = 0 → GW κ n1 n2 w (pc + 3) lv st) : GW κ n1 n2 w pc lv (.int (nI x) :: st) := g_if_ne hX tgt ht d (fun h => kt (fun z => h (by rw [z]; exact nI_0))) (fun h => kf ((nI_eq hx (by decide)).mp (h.trans nI_0.symm)))
theorem g_ifN_lt (hX : GX κ cy Z cc Ts own rm) {x : Nat} (hx : x < 2147483648) {off : Int} (tgt : Nat) (ht : (pc : Int) + off = (tgt : Int)) (d : decode cc pc = .ok (.ifCond .lt off, 3)) (kf : GW κ n1 n2 w (pc + 3) lv st) : GW κ n1 n2 w pc lv (.int (nI x) :: st) := g_if_lt hX tgt ht d (fun h => absurd h (nI_pos hx)) (fun _ => kf)
theorem g_ifN_ge (hX : GX κ cy Z cc Ts own rm) {x : Nat} (hx : x < 2147483648) {off : Int} (tgt : Nat) (ht : (pc : Int) + off = (tgt : Int)) (d : decode cc pc = .ok (.ifCond .ge off, 3)) (kt : GW κ n1 n2 w tgt lv st) : GW κ n1 n2 w pc lv (.int (nI x) :: st) := g_if_ge hX tgt ht d (fun _ => kt) (fun h => absurd (nI_pos' hx) h)
theorem sw_in (z : Int32) (lo hi : Nat) (h : hi < 2147483648) : (z.toInt < (lo : Int) ∨ (hi : Int) < z.toInt) ∨ ∃ j : Nat, lo ≤ j ∧ j ≤ hi ∧ z = nI j := by
  by_cases h1 : z.toInt < (lo : Int)
  · exact Or.inl (Or.inl h1)
  · by_cases h2 : (hi : Int) < z.toInt
    · exact Or.inl (Or.inr h2)
    · refine Or.inr ⟨z.toInt.toNat, by omega, by omega, ?_⟩
      apply Int32.toInt_inj.mp
      rw [nI_toInt (by omega)]
      omega
theorem sw_out {z : Int32} {lo hi : Int} (h : z.toInt < lo ∨ hi < z.toInt) (j : Nat) (h1 : lo ≤ j) (h2 : (j : Int) ≤ hi) (h3 : j < 2147483648) : ¬ z = nI j := by
  intro e
  rw [e, nI_toInt h3] at h
  omega
theorem g_reti {mc ms : Nat} {res : Int32} {w2 : va_W} (hR : GR κ cc mc ms (some .int) (fun x y => x = some (.int res) ∧ y = w2)) {x : Int32} (hx : x = res) (hw : w = w2) (d : decode cc pc = .ok (.ireturn, 1)) : GW κ mc ms w pc lv [.int x] := by subst hx; subst hw; exact (hR _ _ ⟨rfl, rfl⟩).1 .int x pc lv rfl rfl rfl d
theorem g_retz {mc ms : Nat} {res : Bool} {w2 : va_W} (hR : GR κ cc mc ms (some .boolean) (fun x y => x = some (.int (bI res)) ∧ y = w2)) {x : Int32} (hx : x = bI res) (hw : w = w2) (d : decode cc pc = .ok (.ireturn, 1)) : GW κ mc ms w pc lv [.int x] := by subst hx; subst hw; exact (hR _ _ ⟨rfl, rfl⟩).1 .boolean _ pc lv rfl rfl (bI_nar res) d
theorem g_retv {mc ms : Nat} {w2 : va_W} (hR : GR κ cc mc ms none (fun x y => x = none ∧ y = w2)) (hw : w = w2) (d : decode cc pc = .ok (.return_, 1)) : GW κ mc ms w pc lv [] := by subst hw; exact (hR _ _ ⟨rfl, rfl⟩).2.1 pc lv rfl rfl d
theorem g_retiP {mc ms : Nat} {Po : Option Value → va_W → Prop} (hR : GR κ cc mc ms (some .int) Po) {x : Int32} (hx : Po (some (.int x)) w) (d : decode cc pc = .ok (.ireturn, 1)) : GW κ mc ms w pc lv [.int x] := (hR _ _ hx).1 .int x pc lv rfl rfl rfl d
theorem g_retzP {mc ms : Nat} {Po : Option Value → va_W → Prop} (hR : GR κ cc mc ms (some .boolean) Po) {x : Bool} (hx : Po (some (.int (bI x))) w) (d : decode cc pc = .ok (.ireturn, 1)) : GW κ mc ms w pc lv [.int (bI x)] := (hR _ _ hx).1 .boolean _ pc lv rfl rfl (bI_nar x) d
theorem g_retvP {mc ms : Nat} {Po : Option Value → va_W → Prop} (hR : GR κ cc mc ms none Po) (hx : Po none w) (d : decode cc pc = .ok (.return_, 1)) : GW κ mc ms w pc lv [] := (hR _ _ hx).2.1 pc lv rfl rfl d
/-- another name for what stands on top, by an equation -/
theorem g_top {x y : Value} (h : x = y) (k : GW κ n1 n2 w pc lv (y :: st)) : GW κ n1 n2 w pc lv (x :: st) := by rw [h]; exact k
/-- the locals in another order, or fewer -/
theorem g_lv {lv2 : List (Nat × Value)} (ks : List Nat) (h : lv_pick lv ks = lv2) (k : GW κ n1 n2 w pc lv2 st) : GW κ n1 n2 w pc lv st := by
  obtain ⟨p, l, e, R, s, m, args, below, meth, c, Q, A, D, cy', nL', Z'⟩ := κ
  intro H locs ls hP hD hS hl
  exact k H locs ls hP hD hS (lv_sub hl ks h)
end NN
end
section
theorem dX7_init_0 : decode cX7_init 0 = .ok (.aload_n 0, 1) := by decide +kernel
theorem dX7_init_1 : decode cX7_init 1 = .ok (.invokespecial 1, 3) := by decide +kernel
theorem dX7_init_4 : decode cX7_init 4 = .ok (.aload_n 0, 1) := by decide +kernel
theorem dX7_init_5 : decode cX7_init 5 = .ok (.sipush 3069, 3) := by decide +kernel
theorem dX7_init_8 : decode cX7_init 8 = .ok (.newarray .int, 2) := by decide +kernel
theorem dX7_init_10 : decode cX7_init 10 = .ok (.putfield 7, 3) := by decide +kernel
theorem dX7_init_13 : decode cX7_init 13 = .ok (.aload_n 0, 1) := by decide +kernel
theorem dX7_init_14 : decode cX7_init 14 = .ok (.sipush 3069, 3) := by decide +kernel
theorem dX7_init_17 : decode cX7_init 17 = .ok (.newarray .int, 2) := by decide +kernel
theorem dX7_init_19 : decode cX7_init 19 = .ok (.putfield 13, 3) := by decide +kernel
theorem dX7_init_22 : decode cX7_init 22 = .ok (.aload_n 0, 1) := by decide +kernel
theorem dX7_init_23 : decode cX7_init 23 = .ok (.sipush 3069, 3) := by decide +kernel
theorem dX7_init_26 : decode cX7_init 26 = .ok (.newarray .int, 2) := by decide +kernel
theorem dX7_init_28 : decode cX7_init 28 = .ok (.putfield 16, 3) := by decide +kernel
theorem dX7_init_31 : decode cX7_init 31 = .ok (.aload_n 0, 1) := by decide +kernel
theorem dX7_init_32 : decode cX7_init 32 = .ok (.iconst 4, 1) := by decide +kernel
theorem dX7_init_33 : decode cX7_init 33 = .ok (.newarray .int, 2) := by decide +kernel
theorem dX7_init_35 : decode cX7_init 35 = .ok (.putfield 19, 3) := by decide +kernel
theorem dX7_init_38 : decode cX7_init 38 = .ok (.aload_n 0, 1) := by decide +kernel
theorem dX7_init_39 : decode cX7_init 39 = .ok (.iconst 4, 1) := by decide +kernel
theorem dX7_init_40 : decode cX7_init 40 = .ok (.newarray .int, 2) := by decide +kernel
theorem dX7_init_42 : decode cX7_init 42 = .ok (.putfield 22, 3) := by decide +kernel
theorem dX7_init_45 : decode cX7_init 45 = .ok (.aload_n 0, 1) := by decide +kernel
theorem dX7_init_46 : decode cX7_init 46 = .ok (.bipush 96, 2) := by decide +kernel
theorem dX7_init_48 : decode cX7_init 48 = .ok (.newarray .int, 2) := by decide +kernel
theorem dX7_init_50 : decode cX7_init 50 = .ok (.putfield 25, 3) := by decide +kernel
theorem dX7_init_53 : decode cX7_init 53 = .ok (.aload_n 0, 1) := by decide +kernel
theorem dX7_init_54 : decode cX7_init 54 = .ok (.iconst 5, 1) := by decide +kernel
theorem dX7_init_55 : decode cX7_init 55 = .ok (.newarray .int, 2) := by decide +kernel
theorem dX7_init_57 : decode cX7_init 57 = .ok (.putfield 28, 3) := by decide +kernel
theorem dX7_init_60 : decode cX7_init 60 = .ok (.aload_n 0, 1) := by decide +kernel
theorem dX7_init_61 : decode cX7_init 61 = .ok (.iconst 5, 1) := by decide +kernel
theorem dX7_init_62 : decode cX7_init 62 = .ok (.newarray .int, 2) := by decide +kernel
theorem dX7_init_64 : decode cX7_init 64 = .ok (.putfield 31, 3) := by decide +kernel
theorem dX7_init_67 : decode cX7_init 67 = .ok (.aload_n 0, 1) := by decide +kernel
theorem dX7_init_68 : decode cX7_init 68 = .ok (.iconst 5, 1) := by decide +kernel
theorem dX7_init_69 : decode cX7_init 69 = .ok (.newarray .int, 2) := by decide +kernel
theorem dX7_init_71 : decode cX7_init 71 = .ok (.putfield 34, 3) := by decide +kernel
theorem dX7_init_74 : decode cX7_init 74 = .ok (.aload_n 0, 1) := by decide +kernel
theorem dX7_init_75 : decode cX7_init 75 = .ok (.iconst 5, 1) := by decide +kernel
theorem dX7_init_76 : decode cX7_init 76 = .ok (.newarray .int, 2) := by decide +kernel
theorem dX7_init_78 : decode cX7_init 78 = .ok (.putfield 37, 3) := by decide +kernel
theorem dX7_init_81 : decode cX7_init 81 = .ok (.aload_n 0, 1) := by decide +kernel
theorem dX7_init_82 : decode cX7_init 82 = .ok (.bipush 120, 2) := by decide +kernel
theorem dX7_init_84 : decode cX7_init 84 = .ok (.newarray .int, 2) := by decide +kernel
theorem dX7_init_86 : decode cX7_init 86 = .ok (.putfield 40, 3) := by decide +kernel
theorem dX7_init_89 : decode cX7_init 89 = .ok (.aload_n 0, 1) := by decide +kernel
theorem dX7_init_90 : decode cX7_init 90 = .ok (.bipush 9, 2) := by decide +kernel
theorem dX7_init_92 : decode cX7_init 92 = .ok (.newarray .int, 2) := by decide +kernel
theorem dX7_init_94 : decode cX7_init 94 = .ok (.putfield 43, 3) := by decide +kernel
theorem dX7_init_97 : decode cX7_init 97 = .ok (.aload_n 0, 1) := by decide +kernel
theorem dX7_init_98 : decode cX7_init 98 = .ok (.bipush 9, 2) := by decide +kernel
theorem dX7_init_100 : decode cX7_init 100 = .ok (.newarray .int, 2) := by decide +kernel
theorem dX7_init_102 : decode cX7_init 102 = .ok (.putfield 46, 3) := by decide +kernel
theorem dX7_init_105 : decode cX7_init 105 = .ok (.aload_n 0, 1) := by decide +kernel
theorem dX7_init_106 : decode cX7_init 106 = .ok (.bipush 69, 2) := by decide +kernel
theorem dX7_init_108 : decode cX7_init 108 = .ok (.newarray .int, 2) := by decide +kernel
theorem dX7_init_110 : decode cX7_init 110 = .ok (.putfield 49, 3) := by decide +kernel
theorem dX7_init_113 : decode cX7_init 113 = .ok (.aload_n 0, 1) := by decide +kernel
theorem dX7_init_114 : decode cX7_init 114 = .ok (.bipush 96, 2) := by decide +kernel
theorem dX7_init_116 : decode cX7_init 116 = .ok (.newarray .int, 2) := by decide +kernel
theorem dX7_init_118 : decode cX7_init 118 = .ok (.putfield 52, 3) := by decide +kernel
theorem dX7_init_121 : decode cX7_init 121 = .ok (.aload_n 0, 1) := by decide +kernel
theorem dX7_init_122 : decode cX7_init 122 = .ok (.sipush 128, 3) := by decide +kernel
theorem dX7_init_125 : decode cX7_init 125 = .ok (.newarray .int, 2) := by decide +kernel
theorem dX7_init_127 : decode cX7_init 127 = .ok (.putfield 55, 3) := by decide +kernel
theorem dX7_init_130 : decode cX7_init 130 = .ok (.aload_n 0, 1) := by decide +kernel
theorem dX7_init_131 : decode cX7_init 131 = .ok (.bipush 100, 2) := by decide +kernel
theorem dX7_init_133 : decode cX7_init 133 = .ok (.newarray .int, 2) := by decide +kernel
theorem dX7_init_135 : decode cX7_init 135 = .ok (.putfield 58, 3) := by decide +kernel
theorem dX7_init_138 : decode cX7_init 138 = .ok (.aload_n 0, 1) := by decide +kernel
theorem dX7_init_139 : decode cX7_init 139 = .ok (.bipush 24, 2) := by decide +kernel
theorem dX7_init_141 : decode cX7_init 141 = .ok (.newarray .int, 2) := by decide +kernel
theorem dX7_init_143 : decode cX7_init 143 = .ok (.putfield 61, 3) := by decide +kernel
theorem dX7_init_146 : decode cX7_init 146 = .ok (.aload_n 0, 1) := by decide +kernel
theorem dX7_init_147 : decode cX7_init 147 = .ok (.bipush 60, 2) := by decide +kernel
theorem dX7_init_149 : decode cX7_init 149 = .ok (.newarray .int, 2) := by decide +kernel
theorem dX7_init_151 : decode cX7_init 151 = .ok (.putfield 64, 3) := by decide +kernel
theorem dX7_init_154 : decode cX7_init 154 = .ok (.aload_n 0, 1) := by decide +kernel
theorem dX7_init_155 : decode cX7_init 155 = .ok (.bipush 60, 2) := by decide +kernel
theorem dX7_init_157 : decode cX7_init 157 = .ok (.newarray .int, 2) := by decide +kernel
theorem dX7_init_159 : decode cX7_init 159 = .ok (.putfield 67, 3) := by decide +kernel
theorem dX7_init_162 : decode cX7_init 162 = .ok (.aload_n 0, 1) := by decide +kernel
theorem dX7_init_163 : decode cX7_init 163 = .ok (.getfield 7, 3) := by decide +kernel
theorem dX7_init_166 : decode cX7_init 166 = .ok (.iconst 5, 1) := by decide +kernel
theorem dX7_init_167 : decode cX7_init 167 = .ok (.iconst 1, 1) := by decide +kernel
theorem dX7_init_168 : decode cX7_init 168 = .ok (.iastore, 1) := by decide +kernel
theorem dX7_init_169 : decode cX7_init 169 = .ok (.iconst 0, 1) := by decide +kernel
theorem dX7_init_170 : decode cX7_init 170 = .ok (.istore_n 1, 1) := by decide +kernel
theorem dX7_init_171 : decode cX7_init 171 = .ok (.iload_n 1, 1) := by decide +kernel
theorem dX7_init_172 : decode cX7_init 172 = .ok (.iconst 4, 1) := by decide +kernel
theorem dX7_init_173 : decode cX7_init 173 = .ok (.if_icmp .ge 16, 3) := by decide +kernel
theorem dX7_init_176 : decode cX7_init 176 = .ok (.aload_n 0, 1) := by decide +kernel
theorem dX7_init_177 : decode cX7_init 177 = .ok (.getfield 19, 3) := by decide +kernel
theorem dX7_init_180 : decode cX7_init 180 = .ok (.iload_n 1, 1) := by decide +kernel
theorem dX7_init_181 : decode cX7_init 181 = .ok (.iconst (-1), 1) := by decide +kernel
theorem dX7_init_182 : decode cX7_init 182 = .ok (.iastore, 1) := by decide +kernel
theorem dX7_init_183 : decode cX7_init 183 = .ok (.iinc 1 1, 3) := by decide +kernel
theorem dX7_init_186 : decode cX7_init 186 = .ok (.goto (-15), 3) := by decide +kernel
theorem dX7_init_189 : decode cX7_init 189 = .ok (.return_, 1) := by decide +kernel
theorem dX7_isIn_0 : decode cX7_isIn 0 = .ok (.lload_n 0, 1) := by decide +kernel
theorem dX7_isIn_1 : decode cX7_isIn 1 = .ok (.lload_n 2, 1) := by decide +kernel
theorem dX7_isIn_2 : decode cX7_isIn 2 = .ok (.lcmp, 1) := by decide +kernel
theorem dX7_isIn_3 : decode cX7_isIn 3 = .ok (.ifCond .lt 14, 3) := by decide +kernel
theorem dX7_isIn_6 : decode cX7_isIn 6 = .ok (.lload_n 0, 1) := by decide +kernel
theorem dX7_isIn_7 : decode cX7_isIn 7 = .ok (.lload 4, 2) := by decide +kernel
theorem dX7_isIn_9 : decode cX7_isIn 9 = .ok (.lcmp, 1) := by decide +kernel
theorem dX7_isIn_10 : decode cX7_isIn 10 = .ok (.ifCond .gt 7, 3) := by decide +kernel
theorem dX7_isIn_13 : decode cX7_isIn 13 = .ok (.iconst 1, 1) := by decide +kernel
theorem dX7_isIn_14 : decode cX7_isIn 14 = .ok (.goto 4, 3) := by decide +kernel
theorem dX7_isIn_17 : decode cX7_isIn 17 = .ok (.iconst 0, 1) := by decide +kernel
theorem dX7_isIn_18 : decode cX7_isIn 18 = .ok (.ireturn, 1) := by decide +kernel
theorem dX7_orNone_0 : decode cX7_orNone 0 = .ok (.iload_n 0, 1) := by decide +kernel
theorem dX7_orNone_1 : decode cX7_orNone 1 = .ok (.ifCond .ge 8, 3) := by decide +kernel
theorem dX7_orNone_4 : decode cX7_orNone 4 = .ok (.ldc 70, 2) := by decide +kernel
theorem dX7_orNone_6 : decode cX7_orNone 6 = .ok (.goto 4, 3) := by decide +kernel
theorem dX7_orNone_9 : decode cX7_orNone 9 = .ok (.iload_n 0, 1) := by decide +kernel
theorem dX7_orNone_10 : decode cX7_orNone 10 = .ok (.ireturn, 1) := by decide +kernel
theorem dX7_held_0 : decode cX7_held 0 = .ok (.iload_n 0, 1) := by decide +kernel
theorem dX7_held_1 : decode cX7_held 1 = .ok (.iload_n 1, 1) := by decide +kernel
theorem dX7_held_2 : decode cX7_held 2 = .ok (.if_icmp .ge 7, 3) := by decide +kernel
theorem dX7_held_5 : decode cX7_held 5 = .ok (.iload_n 1, 1) := by decide +kernel
theorem dX7_held_6 : decode cX7_held 6 = .ok (.goto 13, 3) := by decide +kernel
theorem dX7_held_9 : decode cX7_held 9 = .ok (.iload_n 0, 1) := by decide +kernel
theorem dX7_held_10 : decode cX7_held 10 = .ok (.iload_n 2, 1) := by decide +kernel
theorem dX7_held_11 : decode cX7_held 11 = .ok (.if_icmp .le 7, 3) := by decide +kernel
theorem dX7_held_14 : decode cX7_held 14 = .ok (.iload_n 2, 1) := by decide +kernel
theorem dX7_held_15 : decode cX7_held 15 = .ok (.goto 4, 3) := by decide +kernel
theorem dX7_held_18 : decode cX7_held 18 = .ok (.iload_n 0, 1) := by decide +kernel
theorem dX7_held_19 : decode cX7_held 19 = .ok (.ireturn, 1) := by decide +kernel
theorem dX7_off_0 : decode cX7_off 0 = .ok (.iload_n 0, 1) := by decide +kernel
theorem dX7_off_1 : decode cX7_off 1 = .ok (.iload_n 1, 1) := by decide +kernel
theorem dX7_off_2 : decode cX7_off 2 = .ok (.if_icmp .ge 9, 3) := by decide +kernel
theorem dX7_off_5 : decode cX7_off 5 = .ok (.iload_n 1, 1) := by decide +kernel
theorem dX7_off_6 : decode cX7_off 6 = .ok (.iload_n 0, 1) := by decide +kernel
theorem dX7_off_7 : decode cX7_off 7 = .ok (.isub, 1) := by decide +kernel
theorem dX7_off_8 : decode cX7_off 8 = .ok (.goto 6, 3) := by decide +kernel
theorem dX7_off_11 : decode cX7_off 11 = .ok (.iload_n 0, 1) := by decide +kernel
theorem dX7_off_12 : decode cX7_off 12 = .ok (.iload_n 1, 1) := by decide +kernel
theorem dX7_off_13 : decode cX7_off 13 = .ok (.isub, 1) := by decide +kernel
theorem dX7_off_14 : decode cX7_off 14 = .ok (.ireturn, 1) := by decide +kernel
theorem dX7_manyIn_0 : decode cX7_manyIn 0 = .ok (.iconst 0, 1) := by decide +kernel
theorem dX7_manyIn_1 : decode cX7_manyIn 1 = .ok (.istore_n 1, 1) := by decide +kernel
theorem dX7_manyIn_2 : decode cX7_manyIn 2 = .ok (.iload_n 0, 1) := by decide +kernel
theorem dX7_manyIn_3 : decode cX7_manyIn 3 = .ok (.istore_n 2, 1) := by decide +kernel
theorem dX7_manyIn_4 : decode cX7_manyIn 4 = .ok (.iload_n 2, 1) := by decide +kernel
theorem dX7_manyIn_5 : decode cX7_manyIn 5 = .ok (.ifCond .eq 15, 3) := by decide +kernel
theorem dX7_manyIn_8 : decode cX7_manyIn 8 = .ok (.iinc 1 1, 3) := by decide +kernel
theorem dX7_manyIn_11 : decode cX7_manyIn 11 = .ok (.iload_n 2, 1) := by decide +kernel
theorem dX7_manyIn_12 : decode cX7_manyIn 12 = .ok (.iload_n 2, 1) := by decide +kernel
theorem dX7_manyIn_13 : decode cX7_manyIn 13 = .ok (.iconst 1, 1) := by decide +kernel
theorem dX7_manyIn_14 : decode cX7_manyIn 14 = .ok (.isub, 1) := by decide +kernel
theorem dX7_manyIn_15 : decode cX7_manyIn 15 = .ok (.iand, 1) := by decide +kernel
theorem dX7_manyIn_16 : decode cX7_manyIn 16 = .ok (.istore_n 2, 1) := by decide +kernel
theorem dX7_manyIn_17 : decode cX7_manyIn 17 = .ok (.goto (-13), 3) := by decide +kernel
theorem dX7_manyIn_20 : decode cX7_manyIn 20 = .ok (.iload_n 1, 1) := by decide +kernel
theorem dX7_manyIn_21 : decode cX7_manyIn 21 = .ok (.ireturn, 1) := by decide +kernel
theorem dX7_becomes_0 : decode cX7_becomes 0 = .ok (.aload_n 0, 1) := by decide +kernel
theorem dX7_becomes_1 : decode cX7_becomes 1 = .ok (.getfield 7, 3) := by decide +kernel
theorem dX7_becomes_4 : decode cX7_becomes 4 = .ok (.iload_n 1, 1) := by decide +kernel
theorem dX7_becomes_5 : decode cX7_becomes 5 = .ok (.iaload, 1) := by decide +kernel
theorem dX7_becomes_6 : decode cX7_becomes 6 = .ok (.istore_n 3, 1) := by decide +kernel
theorem dX7_becomes_7 : decode cX7_becomes 7 = .ok (.aload_n 0, 1) := by decide +kernel
theorem dX7_becomes_8 : decode cX7_becomes 8 = .ok (.getfield 7, 3) := by decide +kernel
theorem dX7_becomes_11 : decode cX7_becomes 11 = .ok (.iload_n 1, 1) := by decide +kernel
theorem dX7_becomes_12 : decode cX7_becomes 12 = .ok (.iload_n 2, 1) := by decide +kernel
theorem dX7_becomes_13 : decode cX7_becomes 13 = .ok (.iastore, 1) := by decide +kernel
theorem dX7_becomes_14 : decode cX7_becomes 14 = .ok (.iload_n 3, 1) := by decide +kernel
theorem dX7_becomes_15 : decode cX7_becomes 15 = .ok (.ireturn, 1) := by decide +kernel
theorem dX7_textAt_0 : decode cX7_textAt 0 = .ok (.bipush 69, 2) := by decide +kernel
theorem dX7_textAt_2 : decode cX7_textAt 2 = .ok (.sipush 200, 3) := by decide +kernel
theorem dX7_textAt_5 : decode cX7_textAt 5 = .ok (.iload_n 1, 1) := by decide +kernel
theorem dX7_textAt_6 : decode cX7_textAt 6 = .ok (.imul, 1) := by decide +kernel
theorem dX7_textAt_7 : decode cX7_textAt 7 = .ok (.iadd, 1) := by decide +kernel
theorem dX7_textAt_8 : decode cX7_textAt 8 = .ok (.ireturn, 1) := by decide +kernel
theorem dX7_of_0 : decode cX7_of 0 = .ok (.aload_n 0, 1) := by decide +kernel
theorem dX7_of_1 : decode cX7_of 1 = .ok (.getfield 7, 3) := by decide +kernel
theorem dX7_of_4 : decode cX7_of 4 = .ok (.bipush 6, 2) := by decide +kernel
theorem dX7_of_6 : decode cX7_of 6 = .ok (.bipush 7, 2) := by decide +kernel
theorem dX7_of_8 : decode cX7_of 8 = .ok (.iload_n 1, 1) := by decide +kernel
theorem dX7_of_9 : decode cX7_of 9 = .ok (.imul, 1) := by decide +kernel
theorem dX7_of_10 : decode cX7_of 10 = .ok (.iadd, 1) := by decide +kernel
theorem dX7_of_11 : decode cX7_of 11 = .ok (.iload_n 2, 1) := by decide +kernel
theorem dX7_of_12 : decode cX7_of 12 = .ok (.iadd, 1) := by decide +kernel
theorem dX7_of_13 : decode cX7_of 13 = .ok (.iaload, 1) := by decide +kernel
theorem dX7_of_14 : decode cX7_of 14 = .ok (.ireturn, 1) := by decide +kernel
theorem dX7_sets_0 : decode cX7_sets 0 = .ok (.aload_n 0, 1) := by decide +kernel
theorem dX7_sets_1 : decode cX7_sets 1 = .ok (.getfield 7, 3) := by decide +kernel
theorem dX7_sets_4 : decode cX7_sets 4 = .ok (.bipush 6, 2) := by decide +kernel
theorem dX7_sets_6 : decode cX7_sets 6 = .ok (.bipush 7, 2) := by decide +kernel
theorem dX7_sets_8 : decode cX7_sets 8 = .ok (.iload_n 1, 1) := by decide +kernel
theorem dX7_sets_9 : decode cX7_sets 9 = .ok (.imul, 1) := by decide +kernel
theorem dX7_sets_10 : decode cX7_sets 10 = .ok (.iadd, 1) := by decide +kernel
theorem dX7_sets_11 : decode cX7_sets 11 = .ok (.iload_n 2, 1) := by decide +kernel
theorem dX7_sets_12 : decode cX7_sets 12 = .ok (.iadd, 1) := by decide +kernel
theorem dX7_sets_13 : decode cX7_sets 13 = .ok (.iload_n 3, 1) := by decide +kernel
theorem dX7_sets_14 : decode cX7_sets 14 = .ok (.iastore, 1) := by decide +kernel
theorem dX7_sets_15 : decode cX7_sets 15 = .ok (.return_, 1) := by decide +kernel
theorem dX7_isHouse_0 : decode cX7_isHouse 0 = .ok (.iload_n 1, 1) := by decide +kernel
theorem dX7_isHouse_1 : decode cX7_isHouse 1 = .ok (.i2l, 1) := by decide +kernel
theorem dX7_isHouse_2 : decode cX7_isHouse 2 = .ok (.lconst 0, 1) := by decide +kernel
theorem dX7_isHouse_3 : decode cX7_isHouse 3 = .ok (.aload_n 0, 1) := by decide +kernel
theorem dX7_isHouse_4 : decode cX7_isHouse 4 = .ok (.getfield 7, 3) := by decide +kernel
theorem dX7_isHouse_7 : decode cX7_isHouse 7 = .ok (.iconst 0, 1) := by decide +kernel
theorem dX7_isHouse_8 : decode cX7_isHouse 8 = .ok (.iaload, 1) := by decide +kernel
theorem dX7_isHouse_9 : decode cX7_isHouse 9 = .ok (.iconst 1, 1) := by decide +kernel
theorem dX7_isHouse_10 : decode cX7_isHouse 10 = .ok (.isub, 1) := by decide +kernel
theorem dX7_isHouse_11 : decode cX7_isHouse 11 = .ok (.i2l, 1) := by decide +kernel
theorem dX7_isHouse_12 : decode cX7_isHouse 12 = .ok (.invokestatic 71, 3) := by decide +kernel
theorem dX7_isHouse_15 : decode cX7_isHouse 15 = .ok (.ireturn, 1) := by decide +kernel
theorem dX7_stands_0 : decode cX7_stands 0 = .ok (.aload_n 0, 1) := by decide +kernel
theorem dX7_stands_1 : decode cX7_stands 1 = .ok (.iload_n 1, 1) := by decide +kernel
theorem dX7_stands_2 : decode cX7_stands 2 = .ok (.bipush 6, 2) := by decide +kernel
theorem dX7_stands_4 : decode cX7_stands 4 = .ok (.invokevirtual 75, 3) := by decide +kernel
theorem dX7_stands_7 : decode cX7_stands 7 = .ok (.ifCond .ne 7, 3) := by decide +kernel
theorem dX7_stands_10 : decode cX7_stands 10 = .ok (.iconst 1, 1) := by decide +kernel
theorem dX7_stands_11 : decode cX7_stands 11 = .ok (.goto 4, 3) := by decide +kernel
theorem dX7_stands_14 : decode cX7_stands 14 = .ok (.iconst 0, 1) := by decide +kernel
theorem dX7_stands_15 : decode cX7_stands 15 = .ok (.ireturn, 1) := by decide +kernel
theorem dX7_isText_0 : decode cX7_isText 0 = .ok (.iload_n 1, 1) := by decide +kernel
theorem dX7_isText_1 : decode cX7_isText 1 = .ok (.i2l, 1) := by decide +kernel
theorem dX7_isText_2 : decode cX7_isText 2 = .ok (.lconst 0, 1) := by decide +kernel
theorem dX7_isText_3 : decode cX7_isText 3 = .ok (.aload_n 0, 1) := by decide +kernel
theorem dX7_isText_4 : decode cX7_isText 4 = .ok (.getfield 7, 3) := by decide +kernel
theorem dX7_isText_7 : decode cX7_isText 7 = .ok (.iconst 1, 1) := by decide +kernel
theorem dX7_isText_8 : decode cX7_isText 8 = .ok (.iaload, 1) := by decide +kernel
theorem dX7_isText_9 : decode cX7_isText 9 = .ok (.iconst 1, 1) := by decide +kernel
theorem dX7_isText_10 : decode cX7_isText 10 = .ok (.isub, 1) := by decide +kernel
theorem dX7_isText_11 : decode cX7_isText 11 = .ok (.i2l, 1) := by decide +kernel
theorem dX7_isText_12 : decode cX7_isText 12 = .ok (.invokestatic 71, 3) := by decide +kernel
theorem dX7_isText_15 : decode cX7_isText 15 = .ok (.ireturn, 1) := by decide +kernel
theorem dX7_drawn_0 : decode cX7_drawn 0 = .ok (.aload_n 0, 1) := by decide +kernel
theorem dX7_drawn_1 : decode cX7_drawn 1 = .ok (.getfield 7, 3) := by decide +kernel
theorem dX7_drawn_4 : decode cX7_drawn 4 = .ok (.iconst 5, 1) := by decide +kernel
theorem dX7_drawn_5 : decode cX7_drawn 5 = .ok (.aload_n 0, 1) := by decide +kernel
theorem dX7_drawn_6 : decode cX7_drawn 6 = .ok (.getfield 7, 3) := by decide +kernel
theorem dX7_drawn_9 : decode cX7_drawn 9 = .ok (.iconst 5, 1) := by decide +kernel
theorem dX7_drawn_10 : decode cX7_drawn 10 = .ok (.iaload, 1) := by decide +kernel
theorem dX7_drawn_11 : decode cX7_drawn 11 = .ok (.ldc 79, 2) := by decide +kernel
theorem dX7_drawn_13 : decode cX7_drawn 13 = .ok (.imul, 1) := by decide +kernel
theorem dX7_drawn_14 : decode cX7_drawn 14 = .ok (.sipush 12345, 3) := by decide +kernel
theorem dX7_drawn_17 : decode cX7_drawn 17 = .ok (.iadd, 1) := by decide +kernel
theorem dX7_drawn_18 : decode cX7_drawn 18 = .ok (.iastore, 1) := by decide +kernel
theorem dX7_drawn_19 : decode cX7_drawn 19 = .ok (.aload_n 0, 1) := by decide +kernel
theorem dX7_drawn_20 : decode cX7_drawn 20 = .ok (.getfield 7, 3) := by decide +kernel
theorem dX7_drawn_23 : decode cX7_drawn 23 = .ok (.iconst 5, 1) := by decide +kernel
theorem dX7_drawn_24 : decode cX7_drawn 24 = .ok (.iaload, 1) := by decide +kernel
theorem dX7_drawn_25 : decode cX7_drawn 25 = .ok (.bipush 8, 2) := by decide +kernel
theorem dX7_drawn_27 : decode cX7_drawn 27 = .ok (.iushr, 1) := by decide +kernel
theorem dX7_drawn_28 : decode cX7_drawn 28 = .ok (.ireturn, 1) := by decide +kernel
theorem dX7_comes_0 : decode cX7_comes 0 = .ok (.aload_n 0, 1) := by decide +kernel
theorem dX7_comes_1 : decode cX7_comes 1 = .ok (.getfield 7, 3) := by decide +kernel
theorem dX7_comes_4 : decode cX7_comes 4 = .ok (.iconst 0, 1) := by decide +kernel
theorem dX7_comes_5 : decode cX7_comes 5 = .ok (.iaload, 1) := by decide +kernel
theorem dX7_comes_6 : decode cX7_comes 6 = .ok (.istore 5, 2) := by decide +kernel
theorem dX7_comes_8 : decode cX7_comes 8 = .ok (.aload_n 0, 1) := by decide +kernel
theorem dX7_comes_9 : decode cX7_comes 9 = .ok (.getfield 7, 3) := by decide +kernel
theorem dX7_comes_12 : decode cX7_comes 12 = .ok (.iconst 0, 1) := by decide +kernel
theorem dX7_comes_13 : decode cX7_comes 13 = .ok (.dup2, 1) := by decide +kernel
theorem dX7_comes_14 : decode cX7_comes 14 = .ok (.iaload, 1) := by decide +kernel
theorem dX7_comes_15 : decode cX7_comes 15 = .ok (.iconst 1, 1) := by decide +kernel
theorem dX7_comes_16 : decode cX7_comes 16 = .ok (.iadd, 1) := by decide +kernel
theorem dX7_comes_17 : decode cX7_comes 17 = .ok (.iastore, 1) := by decide +kernel
theorem dX7_comes_18 : decode cX7_comes 18 = .ok (.aload_n 0, 1) := by decide +kernel
theorem dX7_comes_19 : decode cX7_comes 19 = .ok (.iload 5, 2) := by decide +kernel
theorem dX7_comes_21 : decode cX7_comes 21 = .ok (.iconst 0, 1) := by decide +kernel
theorem dX7_comes_22 : decode cX7_comes 22 = .ok (.iload_n 1, 1) := by decide +kernel
theorem dX7_comes_23 : decode cX7_comes 23 = .ok (.invokevirtual 80, 3) := by decide +kernel
theorem dX7_comes_26 : decode cX7_comes 26 = .ok (.aload_n 0, 1) := by decide +kernel
theorem dX7_comes_27 : decode cX7_comes 27 = .ok (.iload 5, 2) := by decide +kernel
theorem dX7_comes_29 : decode cX7_comes 29 = .ok (.iconst 1, 1) := by decide +kernel
theorem dX7_comes_30 : decode cX7_comes 30 = .ok (.iload_n 2, 1) := by decide +kernel
theorem dX7_comes_31 : decode cX7_comes 31 = .ok (.invokevirtual 80, 3) := by decide +kernel
theorem dX7_comes_34 : decode cX7_comes 34 = .ok (.aload_n 0, 1) := by decide +kernel
theorem dX7_comes_35 : decode cX7_comes 35 = .ok (.iload 5, 2) := by decide +kernel
theorem dX7_comes_37 : decode cX7_comes 37 = .ok (.iconst 2, 1) := by decide +kernel
theorem dX7_comes_38 : decode cX7_comes 38 = .ok (.iload_n 3, 1) := by decide +kernel
theorem dX7_comes_39 : decode cX7_comes 39 = .ok (.invokevirtual 80, 3) := by decide +kernel
theorem dX7_comes_42 : decode cX7_comes 42 = .ok (.aload_n 0, 1) := by decide +kernel
theorem dX7_comes_43 : decode cX7_comes 43 = .ok (.iload 5, 2) := by decide +kernel
theorem dX7_comes_45 : decode cX7_comes 45 = .ok (.iconst 3, 1) := by decide +kernel
theorem dX7_comes_46 : decode cX7_comes 46 = .ok (.iload 4, 2) := by decide +kernel
theorem dX7_comes_48 : decode cX7_comes 48 = .ok (.invokevirtual 80, 3) := by decide +kernel
theorem dX7_comes_51 : decode cX7_comes 51 = .ok (.aload_n 0, 1) := by decide +kernel
theorem dX7_comes_52 : decode cX7_comes 52 = .ok (.iload 5, 2) := by decide +kernel
theorem dX7_comes_54 : decode cX7_comes 54 = .ok (.iconst 4, 1) := by decide +kernel
theorem dX7_comes_55 : decode cX7_comes 55 = .ok (.iconst 0, 1) := by decide +kernel
theorem dX7_comes_56 : decode cX7_comes 56 = .ok (.invokevirtual 80, 3) := by decide +kernel
theorem dX7_comes_59 : decode cX7_comes 59 = .ok (.aload_n 0, 1) := by decide +kernel
theorem dX7_comes_60 : decode cX7_comes 60 = .ok (.iload 5, 2) := by decide +kernel
theorem dX7_comes_62 : decode cX7_comes 62 = .ok (.iconst 5, 1) := by decide +kernel
theorem dX7_comes_63 : decode cX7_comes 63 = .ok (.iconst 0, 1) := by decide +kernel
theorem dX7_comes_64 : decode cX7_comes 64 = .ok (.invokevirtual 80, 3) := by decide +kernel
theorem dX7_comes_67 : decode cX7_comes 67 = .ok (.aload_n 0, 1) := by decide +kernel
theorem dX7_comes_68 : decode cX7_comes 68 = .ok (.iload 5, 2) := by decide +kernel
theorem dX7_comes_70 : decode cX7_comes 70 = .ok (.bipush 6, 2) := by decide +kernel
theorem dX7_comes_72 : decode cX7_comes 72 = .ok (.iconst 0, 1) := by decide +kernel
theorem dX7_comes_73 : decode cX7_comes 73 = .ok (.invokevirtual 80, 3) := by decide +kernel
theorem dX7_comes_76 : decode cX7_comes 76 = .ok (.return_, 1) := by decide +kernel
theorem dX7_mayBe_0 : decode cX7_mayBe 0 = .ok (.iload_n 0, 1) := by decide +kernel
theorem dX7_mayBe_1 : decode cX7_mayBe 1 = .ok (.tableswitch 87 1 5 #[35, 45, 57, 67, 77], 35) := by decide +kernel
theorem dX7_mayBe_36 : decode cX7_mayBe 36 = .ok (.iload_n 1, 1) := by decide +kernel
theorem dX7_mayBe_37 : decode cX7_mayBe 37 = .ok (.i2l, 1) := by decide +kernel
theorem dX7_mayBe_38 : decode cX7_mayBe 38 = .ok (.lconst 1, 1) := by decide +kernel
theorem dX7_mayBe_39 : decode cX7_mayBe 39 = .ok (.ldc2_w 84, 3) := by decide +kernel
theorem dX7_mayBe_42 : decode cX7_mayBe 42 = .ok (.invokestatic 71, 3) := by decide +kernel
theorem dX7_mayBe_45 : decode cX7_mayBe 45 = .ok (.ireturn, 1) := by decide +kernel
theorem dX7_mayBe_46 : decode cX7_mayBe 46 = .ok (.iload_n 1, 1) := by decide +kernel
theorem dX7_mayBe_47 : decode cX7_mayBe 47 = .ok (.i2l, 1) := by decide +kernel
theorem dX7_mayBe_48 : decode cX7_mayBe 48 = .ok (.ldc2_w 86, 3) := by decide +kernel
theorem dX7_mayBe_51 : decode cX7_mayBe 51 = .ok (.ldc2_w 88, 3) := by decide +kernel
theorem dX7_mayBe_54 : decode cX7_mayBe 54 = .ok (.invokestatic 71, 3) := by decide +kernel
theorem dX7_mayBe_57 : decode cX7_mayBe 57 = .ok (.ireturn, 1) := by decide +kernel
theorem dX7_mayBe_58 : decode cX7_mayBe 58 = .ok (.iload_n 1, 1) := by decide +kernel
theorem dX7_mayBe_59 : decode cX7_mayBe 59 = .ok (.i2l, 1) := by decide +kernel
theorem dX7_mayBe_60 : decode cX7_mayBe 60 = .ok (.lconst 0, 1) := by decide +kernel
theorem dX7_mayBe_61 : decode cX7_mayBe 61 = .ok (.ldc2_w 84, 3) := by decide +kernel
theorem dX7_mayBe_64 : decode cX7_mayBe 64 = .ok (.invokestatic 71, 3) := by decide +kernel
theorem dX7_mayBe_67 : decode cX7_mayBe 67 = .ok (.ireturn, 1) := by decide +kernel
theorem dX7_mayBe_68 : decode cX7_mayBe 68 = .ok (.iload_n 1, 1) := by decide +kernel
theorem dX7_mayBe_69 : decode cX7_mayBe 69 = .ok (.i2l, 1) := by decide +kernel
theorem dX7_mayBe_70 : decode cX7_mayBe 70 = .ok (.lconst 0, 1) := by decide +kernel
theorem dX7_mayBe_71 : decode cX7_mayBe 71 = .ok (.ldc2_w 90, 3) := by decide +kernel
theorem dX7_mayBe_74 : decode cX7_mayBe 74 = .ok (.invokestatic 71, 3) := by decide +kernel
theorem dX7_mayBe_77 : decode cX7_mayBe 77 = .ok (.ireturn, 1) := by decide +kernel
theorem dX7_mayBe_78 : decode cX7_mayBe 78 = .ok (.iload_n 1, 1) := by decide +kernel
theorem dX7_mayBe_79 : decode cX7_mayBe 79 = .ok (.i2l, 1) := by decide +kernel
theorem dX7_mayBe_80 : decode cX7_mayBe 80 = .ok (.lconst 0, 1) := by decide +kernel
theorem dX7_mayBe_81 : decode cX7_mayBe 81 = .ok (.ldc2_w 92, 3) := by decide +kernel
theorem dX7_mayBe_84 : decode cX7_mayBe 84 = .ok (.invokestatic 71, 3) := by decide +kernel
theorem dX7_mayBe_87 : decode cX7_mayBe 87 = .ok (.ireturn, 1) := by decide +kernel
theorem dX7_mayBe_88 : decode cX7_mayBe 88 = .ok (.iconst 0, 1) := by decide +kernel
theorem dX7_mayBe_89 : decode cX7_mayBe 89 = .ok (.ireturn, 1) := by decide +kernel
theorem dX7_house_0 : decode cX7_house 0 = .ok (.iload_n 1, 1) := by decide +kernel
theorem dX7_house_1 : decode cX7_house 1 = .ok (.i2l, 1) := by decide +kernel
theorem dX7_house_2 : decode cX7_house 2 = .ok (.lconst 0, 1) := by decide +kernel
theorem dX7_house_3 : decode cX7_house 3 = .ok (.ldc2_w 94, 3) := by decide +kernel
theorem dX7_house_6 : decode cX7_house 6 = .ok (.invokestatic 71, 3) := by decide +kernel
theorem dX7_house_9 : decode cX7_house 9 = .ok (.ifCond .eq 28, 3) := by decide +kernel
theorem dX7_house_12 : decode cX7_house 12 = .ok (.iconst 1, 1) := by decide +kernel
theorem dX7_house_13 : decode cX7_house 13 = .ok (.iload_n 2, 1) := by decide +kernel
theorem dX7_house_14 : decode cX7_house 14 = .ok (.invokestatic 96, 3) := by decide +kernel
theorem dX7_house_17 : decode cX7_house 17 = .ok (.ifCond .eq 20, 3) := by decide +kernel
theorem dX7_house_20 : decode cX7_house 20 = .ok (.iconst 2, 1) := by decide +kernel
theorem dX7_house_21 : decode cX7_house 21 = .ok (.iload_n 3, 1) := by decide +kernel
theorem dX7_house_22 : decode cX7_house 22 = .ok (.invokestatic 96, 3) := by decide +kernel
theorem dX7_house_25 : decode cX7_house 25 = .ok (.ifCond .eq 12, 3) := by decide +kernel
theorem dX7_house_28 : decode cX7_house 28 = .ok (.iconst 3, 1) := by decide +kernel
theorem dX7_house_29 : decode cX7_house 29 = .ok (.iload 4, 2) := by decide +kernel
theorem dX7_house_31 : decode cX7_house 31 = .ok (.invokestatic 96, 3) := by decide +kernel
theorem dX7_house_34 : decode cX7_house 34 = .ok (.ifCond .ne 6, 3) := by decide +kernel
theorem dX7_house_37 : decode cX7_house 37 = .ok (.ldc 100, 2) := by decide +kernel
theorem dX7_house_39 : decode cX7_house 39 = .ok (.ireturn, 1) := by decide +kernel
theorem dX7_house_40 : decode cX7_house 40 = .ok (.aload_n 0, 1) := by decide +kernel
theorem dX7_house_41 : decode cX7_house 41 = .ok (.getfield 7, 3) := by decide +kernel
theorem dX7_house_44 : decode cX7_house 44 = .ok (.iconst 0, 1) := by decide +kernel
theorem dX7_house_45 : decode cX7_house 45 = .ok (.iaload, 1) := by decide +kernel
theorem dX7_house_46 : decode cX7_house 46 = .ok (.bipush 9, 2) := by decide +kernel
theorem dX7_house_48 : decode cX7_house 48 = .ok (.if_icmp .ne 6, 3) := by decide +kernel
theorem dX7_house_51 : decode cX7_house 51 = .ok (.ldc 101, 2) := by decide +kernel
theorem dX7_house_53 : decode cX7_house 53 = .ok (.ireturn, 1) := by decide +kernel
theorem dX7_house_54 : decode cX7_house 54 = .ok (.aload_n 0, 1) := by decide +kernel
theorem dX7_house_55 : decode cX7_house 55 = .ok (.iload_n 1, 1) := by decide +kernel
theorem dX7_house_56 : decode cX7_house 56 = .ok (.iload_n 2, 1) := by decide +kernel
theorem dX7_house_57 : decode cX7_house 57 = .ok (.iload_n 3, 1) := by decide +kernel
theorem dX7_house_58 : decode cX7_house 58 = .ok (.iload 4, 2) := by decide +kernel
theorem dX7_house_60 : decode cX7_house 60 = .ok (.invokevirtual 102, 3) := by decide +kernel
theorem dX7_house_63 : decode cX7_house 63 = .ok (.aload_n 0, 1) := by decide +kernel
theorem dX7_house_64 : decode cX7_house 64 = .ok (.getfield 7, 3) := by decide +kernel
theorem dX7_house_67 : decode cX7_house 67 = .ok (.iconst 0, 1) := by decide +kernel
theorem dX7_house_68 : decode cX7_house 68 = .ok (.iaload, 1) := by decide +kernel
theorem dX7_house_69 : decode cX7_house 69 = .ok (.iconst 1, 1) := by decide +kernel
theorem dX7_house_70 : decode cX7_house 70 = .ok (.isub, 1) := by decide +kernel
theorem dX7_house_71 : decode cX7_house 71 = .ok (.ireturn, 1) := by decide +kernel
theorem dX7_pushes_0 : decode cX7_pushes 0 = .ok (.aload_n 0, 1) := by decide +kernel
theorem dX7_pushes_1 : decode cX7_pushes 1 = .ok (.iload_n 1, 1) := by decide +kernel
theorem dX7_pushes_2 : decode cX7_pushes 2 = .ok (.iconst 2, 1) := by decide +kernel
theorem dX7_pushes_3 : decode cX7_pushes 3 = .ok (.invokevirtual 75, 3) := by decide +kernel
theorem dX7_pushes_6 : decode cX7_pushes 6 = .ok (.iconst 0, 1) := by decide +kernel
theorem dX7_pushes_7 : decode cX7_pushes 7 = .ok (.invokestatic 106, 3) := by decide +kernel
theorem dX7_pushes_10 : decode cX7_pushes 10 = .ok (.istore_n 2, 1) := by decide +kernel
theorem dX7_pushes_11 : decode cX7_pushes 11 = .ok (.aload_n 0, 1) := by decide +kernel
theorem dX7_pushes_12 : decode cX7_pushes 12 = .ok (.iload_n 1, 1) := by decide +kernel
theorem dX7_pushes_13 : decode cX7_pushes 13 = .ok (.iconst 1, 1) := by decide +kernel
theorem dX7_pushes_14 : decode cX7_pushes 14 = .ok (.invokevirtual 75, 3) := by decide +kernel
theorem dX7_pushes_17 : decode cX7_pushes 17 = .ok (.iload_n 2, 1) := by decide +kernel
theorem dX7_pushes_18 : decode cX7_pushes 18 = .ok (.imul, 1) := by decide +kernel
theorem dX7_pushes_19 : decode cX7_pushes 19 = .ok (.bipush 10, 2) := by decide +kernel
theorem dX7_pushes_21 : decode cX7_pushes 21 = .ok (.idiv, 1) := by decide +kernel
theorem dX7_pushes_22 : decode cX7_pushes 22 = .ok (.istore_n 3, 1) := by decide +kernel
theorem dX7_pushes_23 : decode cX7_pushes 23 = .ok (.aload_n 0, 1) := by decide +kernel
theorem dX7_pushes_24 : decode cX7_pushes 24 = .ok (.iconst 0, 1) := by decide +kernel
theorem dX7_pushes_25 : decode cX7_pushes 25 = .ok (.invokevirtual 109, 3) := by decide +kernel
theorem dX7_pushes_28 : decode cX7_pushes 28 = .ok (.istore 4, 2) := by decide +kernel
theorem dX7_pushes_30 : decode cX7_pushes 30 = .ok (.iload 4, 2) := by decide +kernel
theorem dX7_pushes_32 : decode cX7_pushes 32 = .ok (.ifCond .lt 51, 3) := by decide +kernel
theorem dX7_pushes_35 : decode cX7_pushes 35 = .ok (.aload_n 0, 1) := by decide +kernel
theorem dX7_pushes_36 : decode cX7_pushes 36 = .ok (.getfield 55, 3) := by decide +kernel
theorem dX7_pushes_39 : decode cX7_pushes 39 = .ok (.bipush 119, 2) := by decide +kernel
theorem dX7_pushes_41 : decode cX7_pushes 41 = .ok (.aload_n 0, 1) := by decide +kernel
theorem dX7_pushes_42 : decode cX7_pushes 42 = .ok (.iload_n 1, 1) := by decide +kernel
theorem dX7_pushes_43 : decode cX7_pushes 43 = .ok (.iconst 1, 1) := by decide +kernel
theorem dX7_pushes_44 : decode cX7_pushes 44 = .ok (.invokevirtual 75, 3) := by decide +kernel
theorem dX7_pushes_47 : decode cX7_pushes 47 = .ok (.iastore, 1) := by decide +kernel
theorem dX7_pushes_48 : decode cX7_pushes 48 = .ok (.aload_n 0, 1) := by decide +kernel
theorem dX7_pushes_49 : decode cX7_pushes 49 = .ok (.getfield 55, 3) := by decide +kernel
theorem dX7_pushes_52 : decode cX7_pushes 52 = .ok (.bipush 108, 2) := by decide +kernel
theorem dX7_pushes_54 : decode cX7_pushes 54 = .ok (.iload_n 2, 1) := by decide +kernel
theorem dX7_pushes_55 : decode cX7_pushes 55 = .ok (.iastore, 1) := by decide +kernel
theorem dX7_pushes_56 : decode cX7_pushes 56 = .ok (.aload_n 0, 1) := by decide +kernel
theorem dX7_pushes_57 : decode cX7_pushes 57 = .ok (.getfield 55, 3) := by decide +kernel
theorem dX7_pushes_60 : decode cX7_pushes 60 = .ok (.bipush 99, 2) := by decide +kernel
theorem dX7_pushes_62 : decode cX7_pushes 62 = .ok (.aload_n 0, 1) := by decide +kernel
theorem dX7_pushes_63 : decode cX7_pushes 63 = .ok (.iload_n 1, 1) := by decide +kernel
theorem dX7_pushes_64 : decode cX7_pushes 64 = .ok (.iconst 4, 1) := by decide +kernel
theorem dX7_pushes_65 : decode cX7_pushes 65 = .ok (.invokevirtual 75, 3) := by decide +kernel
theorem dX7_pushes_68 : decode cX7_pushes 68 = .ok (.iastore, 1) := by decide +kernel
theorem dX7_pushes_69 : decode cX7_pushes 69 = .ok (.aload_n 0, 1) := by decide +kernel
theorem dX7_pushes_70 : decode cX7_pushes 70 = .ok (.iload 4, 2) := by decide +kernel
theorem dX7_pushes_72 : decode cX7_pushes 72 = .ok (.invokevirtual 113, 3) := by decide +kernel
theorem dX7_pushes_75 : decode cX7_pushes 75 = .ok (.iconst 0, 1) := by decide +kernel
theorem dX7_pushes_76 : decode cX7_pushes 76 = .ok (.sipush 999, 3) := by decide +kernel
theorem dX7_pushes_79 : decode cX7_pushes 79 = .ok (.invokestatic 116, 3) := by decide +kernel
theorem dX7_pushes_82 : decode cX7_pushes 82 = .ok (.istore_n 3, 1) := by decide +kernel
theorem dX7_pushes_83 : decode cX7_pushes 83 = .ok (.aload_n 0, 1) := by decide +kernel
theorem dX7_pushes_84 : decode cX7_pushes 84 = .ok (.iload_n 1, 1) := by decide +kernel
theorem dX7_pushes_85 : decode cX7_pushes 85 = .ok (.iconst 0, 1) := by decide +kernel
theorem dX7_pushes_86 : decode cX7_pushes 86 = .ok (.invokevirtual 75, 3) := by decide +kernel
theorem dX7_pushes_89 : decode cX7_pushes 89 = .ok (.tableswitch 68 1 5 #[35, 39, 43, 60, 66], 35) := by decide +kernel
theorem dX7_pushes_124 : decode cX7_pushes 124 = .ok (.iload_n 3, 1) := by decide +kernel
theorem dX7_pushes_125 : decode cX7_pushes 125 = .ok (.iconst 2, 1) := by decide +kernel
theorem dX7_pushes_126 : decode cX7_pushes 126 = .ok (.idiv, 1) := by decide +kernel
theorem dX7_pushes_127 : decode cX7_pushes 127 = .ok (.ireturn, 1) := by decide +kernel
theorem dX7_pushes_128 : decode cX7_pushes 128 = .ok (.iload_n 3, 1) := by decide +kernel
theorem dX7_pushes_129 : decode cX7_pushes 129 = .ok (.iconst 4, 1) := by decide +kernel
theorem dX7_pushes_130 : decode cX7_pushes 130 = .ok (.iadd, 1) := by decide +kernel
theorem dX7_pushes_131 : decode cX7_pushes 131 = .ok (.ireturn, 1) := by decide +kernel
theorem dX7_pushes_132 : decode cX7_pushes 132 = .ok (.iload_n 3, 1) := by decide +kernel
theorem dX7_pushes_133 : decode cX7_pushes 133 = .ok (.iconst 2, 1) := by decide +kernel
theorem dX7_pushes_134 : decode cX7_pushes 134 = .ok (.idiv, 1) := by decide +kernel
theorem dX7_pushes_135 : decode cX7_pushes 135 = .ok (.iconst 5, 1) := by decide +kernel
theorem dX7_pushes_136 : decode cX7_pushes 136 = .ok (.if_icmp .le 11, 3) := by decide +kernel
theorem dX7_pushes_139 : decode cX7_pushes 139 = .ok (.iload_n 3, 1) := by decide +kernel
theorem dX7_pushes_140 : decode cX7_pushes 140 = .ok (.iconst 2, 1) := by decide +kernel
theorem dX7_pushes_141 : decode cX7_pushes 141 = .ok (.idiv, 1) := by decide +kernel
theorem dX7_pushes_142 : decode cX7_pushes 142 = .ok (.iconst 5, 1) := by decide +kernel
theorem dX7_pushes_143 : decode cX7_pushes 143 = .ok (.isub, 1) := by decide +kernel
theorem dX7_pushes_144 : decode cX7_pushes 144 = .ok (.goto 4, 3) := by decide +kernel
theorem dX7_pushes_147 : decode cX7_pushes 147 = .ok (.iconst 0, 1) := by decide +kernel
theorem dX7_pushes_148 : decode cX7_pushes 148 = .ok (.ireturn, 1) := by decide +kernel
theorem dX7_pushes_149 : decode cX7_pushes 149 = .ok (.iconst 2, 1) := by decide +kernel
theorem dX7_pushes_150 : decode cX7_pushes 150 = .ok (.iload_n 3, 1) := by decide +kernel
theorem dX7_pushes_151 : decode cX7_pushes 151 = .ok (.iconst 4, 1) := by decide +kernel
theorem dX7_pushes_152 : decode cX7_pushes 152 = .ok (.iadd, 1) := by decide +kernel
theorem dX7_pushes_153 : decode cX7_pushes 153 = .ok (.imul, 1) := by decide +kernel
theorem dX7_pushes_154 : decode cX7_pushes 154 = .ok (.ireturn, 1) := by decide +kernel
theorem dX7_pushes_155 : decode cX7_pushes 155 = .ok (.iconst 0, 1) := by decide +kernel
theorem dX7_pushes_156 : decode cX7_pushes 156 = .ok (.ireturn, 1) := by decide +kernel
theorem dX7_pushes_157 : decode cX7_pushes 157 = .ok (.iload_n 3, 1) := by decide +kernel
theorem dX7_pushes_158 : decode cX7_pushes 158 = .ok (.ireturn, 1) := by decide +kernel
theorem dX7_bears_0 : decode cX7_bears 0 = .ok (.aload_n 0, 1) := by decide +kernel
theorem dX7_bears_1 : decode cX7_bears 1 = .ok (.iload_n 1, 1) := by decide +kernel
theorem dX7_bears_2 : decode cX7_bears 2 = .ok (.iconst 3, 1) := by decide +kernel
theorem dX7_bears_3 : decode cX7_bears 3 = .ok (.invokevirtual 75, 3) := by decide +kernel
theorem dX7_bears_6 : decode cX7_bears 6 = .ok (.bipush 10, 2) := by decide +kernel
theorem dX7_bears_8 : decode cX7_bears 8 = .ok (.aload_n 0, 1) := by decide +kernel
theorem dX7_bears_9 : decode cX7_bears 9 = .ok (.iload_n 1, 1) := by decide +kernel
theorem dX7_bears_10 : decode cX7_bears 10 = .ok (.iconst 5, 1) := by decide +kernel
theorem dX7_bears_11 : decode cX7_bears 11 = .ok (.invokevirtual 75, 3) := by decide +kernel
theorem dX7_bears_14 : decode cX7_bears 14 = .ok (.imul, 1) := by decide +kernel
theorem dX7_bears_15 : decode cX7_bears 15 = .ok (.iadd, 1) := by decide +kernel
theorem dX7_bears_16 : decode cX7_bears 16 = .ok (.istore_n 2, 1) := by decide +kernel
theorem dX7_bears_17 : decode cX7_bears 17 = .ok (.aload_n 0, 1) := by decide +kernel
theorem dX7_bears_18 : decode cX7_bears 18 = .ok (.iload_n 1, 1) := by decide +kernel
theorem dX7_bears_19 : decode cX7_bears 19 = .ok (.iconst 0, 1) := by decide +kernel
theorem dX7_bears_20 : decode cX7_bears 20 = .ok (.invokevirtual 75, 3) := by decide +kernel
theorem dX7_bears_23 : decode cX7_bears 23 = .ok (.tableswitch 45 1 5 #[33, 37, 33, 37, 41], 33) := by decide +kernel
theorem dX7_bears_56 : decode cX7_bears 56 = .ok (.iload_n 2, 1) := by decide +kernel
theorem dX7_bears_57 : decode cX7_bears 57 = .ok (.iconst 5, 1) := by decide +kernel
theorem dX7_bears_58 : decode cX7_bears 58 = .ok (.iadd, 1) := by decide +kernel
theorem dX7_bears_59 : decode cX7_bears 59 = .ok (.ireturn, 1) := by decide +kernel
theorem dX7_bears_60 : decode cX7_bears 60 = .ok (.iconst 2, 1) := by decide +kernel
theorem dX7_bears_61 : decode cX7_bears 61 = .ok (.iload_n 2, 1) := by decide +kernel
theorem dX7_bears_62 : decode cX7_bears 62 = .ok (.imul, 1) := by decide +kernel
theorem dX7_bears_63 : decode cX7_bears 63 = .ok (.ireturn, 1) := by decide +kernel
theorem dX7_bears_64 : decode cX7_bears 64 = .ok (.sipush 999, 3) := by decide +kernel
theorem dX7_bears_67 : decode cX7_bears 67 = .ok (.ireturn, 1) := by decide +kernel
theorem dX7_bears_68 : decode cX7_bears 68 = .ok (.iload_n 2, 1) := by decide +kernel
theorem dX7_bears_69 : decode cX7_bears 69 = .ok (.ireturn, 1) := by decide +kernel
theorem dX7_worth_0 : decode cX7_worth 0 = .ok (.aload_n 0, 1) := by decide +kernel
theorem dX7_worth_1 : decode cX7_worth 1 = .ok (.iload_n 1, 1) := by decide +kernel
theorem dX7_worth_2 : decode cX7_worth 2 = .ok (.iconst 3, 1) := by decide +kernel
theorem dX7_worth_3 : decode cX7_worth 3 = .ok (.invokevirtual 75, 3) := by decide +kernel
theorem dX7_worth_6 : decode cX7_worth 6 = .ok (.istore_n 2, 1) := by decide +kernel
theorem dX7_worth_7 : decode cX7_worth 7 = .ok (.aload_n 0, 1) := by decide +kernel
theorem dX7_worth_8 : decode cX7_worth 8 = .ok (.iload_n 1, 1) := by decide +kernel
theorem dX7_worth_9 : decode cX7_worth 9 = .ok (.iconst 0, 1) := by decide +kernel
theorem dX7_worth_10 : decode cX7_worth 10 = .ok (.invokevirtual 75, 3) := by decide +kernel
theorem dX7_worth_13 : decode cX7_worth 13 = .ok (.tableswitch 60 1 5 #[35, 40, 45, 52, 57], 35) := by decide +kernel
theorem dX7_worth_48 : decode cX7_worth 48 = .ok (.iload_n 2, 1) := by decide +kernel
theorem dX7_worth_49 : decode cX7_worth 49 = .ok (.bipush 7, 2) := by decide +kernel
theorem dX7_worth_51 : decode cX7_worth 51 = .ok (.iadd, 1) := by decide +kernel
theorem dX7_worth_52 : decode cX7_worth 52 = .ok (.ireturn, 1) := by decide +kernel
theorem dX7_worth_53 : decode cX7_worth 53 = .ok (.bipush 99, 2) := by decide +kernel
theorem dX7_worth_55 : decode cX7_worth 55 = .ok (.iload_n 2, 1) := by decide +kernel
theorem dX7_worth_56 : decode cX7_worth 56 = .ok (.isub, 1) := by decide +kernel
theorem dX7_worth_57 : decode cX7_worth 57 = .ok (.ireturn, 1) := by decide +kernel
theorem dX7_worth_58 : decode cX7_worth 58 = .ok (.iconst 2, 1) := by decide +kernel
theorem dX7_worth_59 : decode cX7_worth 59 = .ok (.iload_n 2, 1) := by decide +kernel
theorem dX7_worth_60 : decode cX7_worth 60 = .ok (.bipush 7, 2) := by decide +kernel
theorem dX7_worth_62 : decode cX7_worth 62 = .ok (.iadd, 1) := by decide +kernel
theorem dX7_worth_63 : decode cX7_worth 63 = .ok (.imul, 1) := by decide +kernel
theorem dX7_worth_64 : decode cX7_worth 64 = .ok (.ireturn, 1) := by decide +kernel
theorem dX7_worth_65 : decode cX7_worth 65 = .ok (.bipush 94, 2) := by decide +kernel
theorem dX7_worth_67 : decode cX7_worth 67 = .ok (.iload_n 2, 1) := by decide +kernel
theorem dX7_worth_68 : decode cX7_worth 68 = .ok (.isub, 1) := by decide +kernel
theorem dX7_worth_69 : decode cX7_worth 69 = .ok (.ireturn, 1) := by decide +kernel
theorem dX7_worth_70 : decode cX7_worth 70 = .ok (.bipush 6, 2) := by decide +kernel
theorem dX7_worth_72 : decode cX7_worth 72 = .ok (.ireturn, 1) := by decide +kernel
theorem dX7_worth_73 : decode cX7_worth 73 = .ok (.iload_n 2, 1) := by decide +kernel
theorem dX7_worth_74 : decode cX7_worth 74 = .ok (.ireturn, 1) := by decide +kernel
theorem dX7_allStanding_0 : decode cX7_allStanding 0 = .ok (.iconst 0, 1) := by decide +kernel
theorem dX7_allStanding_1 : decode cX7_allStanding 1 = .ok (.istore_n 1, 1) := by decide +kernel
theorem dX7_allStanding_2 : decode cX7_allStanding 2 = .ok (.iconst 0, 1) := by decide +kernel
theorem dX7_allStanding_3 : decode cX7_allStanding 3 = .ok (.istore_n 2, 1) := by decide +kernel
theorem dX7_allStanding_4 : decode cX7_allStanding 4 = .ok (.iload_n 2, 1) := by decide +kernel
theorem dX7_allStanding_5 : decode cX7_allStanding 5 = .ok (.aload_n 0, 1) := by decide +kernel
theorem dX7_allStanding_6 : decode cX7_allStanding 6 = .ok (.getfield 7, 3) := by decide +kernel
theorem dX7_allStanding_9 : decode cX7_allStanding 9 = .ok (.iconst 0, 1) := by decide +kernel
theorem dX7_allStanding_10 : decode cX7_allStanding 10 = .ok (.iaload, 1) := by decide +kernel
theorem dX7_allStanding_11 : decode cX7_allStanding 11 = .ok (.if_icmp .ge 27, 3) := by decide +kernel
theorem dX7_allStanding_14 : decode cX7_allStanding 14 = .ok (.iload_n 1, 1) := by decide +kernel
theorem dX7_allStanding_15 : decode cX7_allStanding 15 = .ok (.aload_n 0, 1) := by decide +kernel
theorem dX7_allStanding_16 : decode cX7_allStanding 16 = .ok (.iload_n 2, 1) := by decide +kernel
theorem dX7_allStanding_17 : decode cX7_allStanding 17 = .ok (.invokevirtual 119, 3) := by decide +kernel
theorem dX7_allStanding_20 : decode cX7_allStanding 20 = .ok (.ifCond .eq 9, 3) := by decide +kernel
theorem dX7_allStanding_23 : decode cX7_allStanding 23 = .ok (.iconst 1, 1) := by decide +kernel
theorem dX7_allStanding_24 : decode cX7_allStanding 24 = .ok (.iload_n 2, 1) := by decide +kernel
theorem dX7_allStanding_25 : decode cX7_allStanding 25 = .ok (.ishl, 1) := by decide +kernel
theorem dX7_allStanding_26 : decode cX7_allStanding 26 = .ok (.goto 4, 3) := by decide +kernel
theorem dX7_allStanding_29 : decode cX7_allStanding 29 = .ok (.iconst 0, 1) := by decide +kernel
theorem dX7_allStanding_30 : decode cX7_allStanding 30 = .ok (.ior, 1) := by decide +kernel
theorem dX7_allStanding_31 : decode cX7_allStanding 31 = .ok (.istore_n 1, 1) := by decide +kernel
theorem dX7_allStanding_32 : decode cX7_allStanding 32 = .ok (.iinc 2 1, 3) := by decide +kernel
theorem dX7_allStanding_35 : decode cX7_allStanding 35 = .ok (.goto (-31), 3) := by decide +kernel
theorem dX7_allStanding_38 : decode cX7_allStanding 38 = .ok (.iload_n 1, 1) := by decide +kernel
theorem dX7_allStanding_39 : decode cX7_allStanding 39 = .ok (.ireturn, 1) := by decide +kernel
theorem dX7_nextOf_0 : decode cX7_nextOf 0 = .ok (.iload_n 1, 1) := by decide +kernel
theorem dX7_nextOf_1 : decode cX7_nextOf 1 = .ok (.iload_n 2, 1) := by decide +kernel
theorem dX7_nextOf_2 : decode cX7_nextOf 2 = .ok (.iadd, 1) := by decide +kernel
theorem dX7_nextOf_3 : decode cX7_nextOf 3 = .ok (.istore 4, 2) := by decide +kernel
theorem dX7_nextOf_5 : decode cX7_nextOf 5 = .ok (.iload 4, 2) := by decide +kernel
theorem dX7_nextOf_7 : decode cX7_nextOf 7 = .ok (.ifCond .lt 32, 3) := by decide +kernel
theorem dX7_nextOf_10 : decode cX7_nextOf 10 = .ok (.iload 4, 2) := by decide +kernel
theorem dX7_nextOf_12 : decode cX7_nextOf 12 = .ok (.aload_n 0, 1) := by decide +kernel
theorem dX7_nextOf_13 : decode cX7_nextOf 13 = .ok (.getfield 7, 3) := by decide +kernel
theorem dX7_nextOf_16 : decode cX7_nextOf 16 = .ok (.iconst 0, 1) := by decide +kernel
theorem dX7_nextOf_17 : decode cX7_nextOf 17 = .ok (.iaload, 1) := by decide +kernel
theorem dX7_nextOf_18 : decode cX7_nextOf 18 = .ok (.if_icmp .ge 21, 3) := by decide +kernel
theorem dX7_nextOf_21 : decode cX7_nextOf 21 = .ok (.iload_n 3, 1) := by decide +kernel
theorem dX7_nextOf_22 : decode cX7_nextOf 22 = .ok (.iload 4, 2) := by decide +kernel
theorem dX7_nextOf_24 : decode cX7_nextOf 24 = .ok (.ishr, 1) := by decide +kernel
theorem dX7_nextOf_25 : decode cX7_nextOf 25 = .ok (.iconst 1, 1) := by decide +kernel
theorem dX7_nextOf_26 : decode cX7_nextOf 26 = .ok (.iand, 1) := by decide +kernel
theorem dX7_nextOf_27 : decode cX7_nextOf 27 = .ok (.ifCond .ne 12, 3) := by decide +kernel
theorem dX7_nextOf_30 : decode cX7_nextOf 30 = .ok (.iload 4, 2) := by decide +kernel
theorem dX7_nextOf_32 : decode cX7_nextOf 32 = .ok (.iload_n 2, 1) := by decide +kernel
theorem dX7_nextOf_33 : decode cX7_nextOf 33 = .ok (.iadd, 1) := by decide +kernel
theorem dX7_nextOf_34 : decode cX7_nextOf 34 = .ok (.istore 4, 2) := by decide +kernel
theorem dX7_nextOf_36 : decode cX7_nextOf 36 = .ok (.goto (-31), 3) := by decide +kernel
theorem dX7_nextOf_39 : decode cX7_nextOf 39 = .ok (.iload 4, 2) := by decide +kernel
theorem dX7_nextOf_41 : decode cX7_nextOf 41 = .ok (.ifCond .lt 19, 3) := by decide +kernel
theorem dX7_nextOf_44 : decode cX7_nextOf 44 = .ok (.iload 4, 2) := by decide +kernel
theorem dX7_nextOf_46 : decode cX7_nextOf 46 = .ok (.aload_n 0, 1) := by decide +kernel
theorem dX7_nextOf_47 : decode cX7_nextOf 47 = .ok (.getfield 7, 3) := by decide +kernel
theorem dX7_nextOf_50 : decode cX7_nextOf 50 = .ok (.iconst 0, 1) := by decide +kernel
theorem dX7_nextOf_51 : decode cX7_nextOf 51 = .ok (.iaload, 1) := by decide +kernel
theorem dX7_nextOf_52 : decode cX7_nextOf 52 = .ok (.if_icmp .ge 8, 3) := by decide +kernel
theorem dX7_nextOf_55 : decode cX7_nextOf 55 = .ok (.iload 4, 2) := by decide +kernel
theorem dX7_nextOf_57 : decode cX7_nextOf 57 = .ok (.goto 4, 3) := by decide +kernel
theorem dX7_nextOf_60 : decode cX7_nextOf 60 = .ok (.iconst (-1), 1) := by decide +kernel
theorem dX7_nextOf_61 : decode cX7_nextOf 61 = .ok (.ireturn, 1) := by decide +kernel
theorem dX7_thrust_0 : decode cX7_thrust 0 = .ok (.aload_n 0, 1) := by decide +kernel
theorem dX7_thrust_1 : decode cX7_thrust 1 = .ok (.iload_n 1, 1) := by decide +kernel
theorem dX7_thrust_2 : decode cX7_thrust 2 = .ok (.invokevirtual 119, 3) := by decide +kernel
theorem dX7_thrust_5 : decode cX7_thrust 5 = .ok (.ifCond .ne 5, 3) := by decide +kernel
theorem dX7_thrust_8 : decode cX7_thrust 8 = .ok (.iconst 0, 1) := by decide +kernel
theorem dX7_thrust_9 : decode cX7_thrust 9 = .ok (.ireturn, 1) := by decide +kernel
theorem dX7_thrust_10 : decode cX7_thrust 10 = .ok (.aload_n 0, 1) := by decide +kernel
theorem dX7_thrust_11 : decode cX7_thrust 11 = .ok (.invokevirtual 123, 3) := by decide +kernel
theorem dX7_thrust_14 : decode cX7_thrust 14 = .ok (.istore_n 2, 1) := by decide +kernel
theorem dX7_thrust_15 : decode cX7_thrust 15 = .ok (.aload_n 0, 1) := by decide +kernel
theorem dX7_thrust_16 : decode cX7_thrust 16 = .ok (.iload_n 1, 1) := by decide +kernel
theorem dX7_thrust_17 : decode cX7_thrust 17 = .ok (.iconst (-1), 1) := by decide +kernel
theorem dX7_thrust_18 : decode cX7_thrust 18 = .ok (.iload_n 2, 1) := by decide +kernel
theorem dX7_thrust_19 : decode cX7_thrust 19 = .ok (.invokevirtual 127, 3) := by decide +kernel
theorem dX7_thrust_22 : decode cX7_thrust 22 = .ok (.istore_n 3, 1) := by decide +kernel
theorem dX7_thrust_23 : decode cX7_thrust 23 = .ok (.aload_n 0, 1) := by decide +kernel
theorem dX7_thrust_24 : decode cX7_thrust 24 = .ok (.iload_n 1, 1) := by decide +kernel
theorem dX7_thrust_25 : decode cX7_thrust 25 = .ok (.iconst 1, 1) := by decide +kernel
theorem dX7_thrust_26 : decode cX7_thrust 26 = .ok (.iload_n 2, 1) := by decide +kernel
theorem dX7_thrust_27 : decode cX7_thrust 27 = .ok (.invokevirtual 127, 3) := by decide +kernel
theorem dX7_thrust_30 : decode cX7_thrust 30 = .ok (.istore 4, 2) := by decide +kernel
theorem dX7_thrust_32 : decode cX7_thrust 32 = .ok (.aload_n 0, 1) := by decide +kernel
theorem dX7_thrust_33 : decode cX7_thrust 33 = .ok (.getfield 7, 3) := by decide +kernel
theorem dX7_thrust_36 : decode cX7_thrust 36 = .ok (.iconst 4, 1) := by decide +kernel
theorem dX7_thrust_37 : decode cX7_thrust 37 = .ok (.iaload, 1) := by decide +kernel
theorem dX7_thrust_38 : decode cX7_thrust 38 = .ok (.istore 5, 2) := by decide +kernel
theorem dX7_thrust_40 : decode cX7_thrust 40 = .ok (.iload 5, 2) := by decide +kernel
theorem dX7_thrust_42 : decode cX7_thrust 42 = .ok (.iload_n 3, 1) := by decide +kernel
theorem dX7_thrust_43 : decode cX7_thrust 43 = .ok (.ifCond .lt 20, 3) := by decide +kernel
theorem dX7_thrust_46 : decode cX7_thrust 46 = .ok (.aload_n 0, 1) := by decide +kernel
theorem dX7_thrust_47 : decode cX7_thrust 47 = .ok (.iload_n 3, 1) := by decide +kernel
theorem dX7_thrust_48 : decode cX7_thrust 48 = .ok (.iconst 2, 1) := by decide +kernel
theorem dX7_thrust_49 : decode cX7_thrust 49 = .ok (.invokevirtual 75, 3) := by decide +kernel
theorem dX7_thrust_52 : decode cX7_thrust 52 = .ok (.ifCond .le 11, 3) := by decide +kernel
theorem dX7_thrust_55 : decode cX7_thrust 55 = .ok (.aload_n 0, 1) := by decide +kernel
theorem dX7_thrust_56 : decode cX7_thrust 56 = .ok (.iload_n 3, 1) := by decide +kernel
theorem dX7_thrust_57 : decode cX7_thrust 57 = .ok (.invokevirtual 130, 3) := by decide +kernel
theorem dX7_thrust_60 : decode cX7_thrust 60 = .ok (.goto 4, 3) := by decide +kernel
theorem dX7_thrust_63 : decode cX7_thrust 63 = .ok (.iconst 0, 1) := by decide +kernel
theorem dX7_thrust_64 : decode cX7_thrust 64 = .ok (.iadd, 1) := by decide +kernel
theorem dX7_thrust_65 : decode cX7_thrust 65 = .ok (.istore 5, 2) := by decide +kernel
theorem dX7_thrust_67 : decode cX7_thrust 67 = .ok (.iload 5, 2) := by decide +kernel
theorem dX7_thrust_69 : decode cX7_thrust 69 = .ok (.iload 4, 2) := by decide +kernel
theorem dX7_thrust_71 : decode cX7_thrust 71 = .ok (.ifCond .lt 22, 3) := by decide +kernel
theorem dX7_thrust_74 : decode cX7_thrust 74 = .ok (.aload_n 0, 1) := by decide +kernel
theorem dX7_thrust_75 : decode cX7_thrust 75 = .ok (.iload 4, 2) := by decide +kernel
theorem dX7_thrust_77 : decode cX7_thrust 77 = .ok (.iconst 2, 1) := by decide +kernel
theorem dX7_thrust_78 : decode cX7_thrust 78 = .ok (.invokevirtual 75, 3) := by decide +kernel
theorem dX7_thrust_81 : decode cX7_thrust 81 = .ok (.ifCond .ge 12, 3) := by decide +kernel
theorem dX7_thrust_84 : decode cX7_thrust 84 = .ok (.aload_n 0, 1) := by decide +kernel
theorem dX7_thrust_85 : decode cX7_thrust 85 = .ok (.iload 4, 2) := by decide +kernel
theorem dX7_thrust_87 : decode cX7_thrust 87 = .ok (.invokevirtual 130, 3) := by decide +kernel
theorem dX7_thrust_90 : decode cX7_thrust 90 = .ok (.goto 4, 3) := by decide +kernel
theorem dX7_thrust_93 : decode cX7_thrust 93 = .ok (.iconst 0, 1) := by decide +kernel
theorem dX7_thrust_94 : decode cX7_thrust 94 = .ok (.isub, 1) := by decide +kernel
theorem dX7_thrust_95 : decode cX7_thrust 95 = .ok (.istore 5, 2) := by decide +kernel
theorem dX7_thrust_97 : decode cX7_thrust 97 = .ok (.iload 5, 2) := by decide +kernel
theorem dX7_thrust_99 : decode cX7_thrust 99 = .ok (.ireturn, 1) := by decide +kernel
theorem dX7_told_0 : decode cX7_told 0 = .ok (.aload_n 0, 1) := by decide +kernel
theorem dX7_told_1 : decode cX7_told 1 = .ok (.iload_n 1, 1) := by decide +kernel
theorem dX7_told_2 : decode cX7_told 2 = .ok (.invokevirtual 133, 3) := by decide +kernel
theorem dX7_told_5 : decode cX7_told 5 = .ok (.ifCond .ne 6, 3) := by decide +kernel
theorem dX7_told_8 : decode cX7_told 8 = .ok (.ldc 100, 2) := by decide +kernel
theorem dX7_told_10 : decode cX7_told 10 = .ok (.ireturn, 1) := by decide +kernel
theorem dX7_told_11 : decode cX7_told 11 = .ok (.iload_n 2, 1) := by decide +kernel
theorem dX7_told_12 : decode cX7_told 12 = .ok (.tableswitch 101 0 10 #[60, 60, 60, 60, 60, 60, 67, 77, 83, 89, 95], 60) := by decide +kernel
theorem dX7_told_72 : decode cX7_told 72 = .ok (.aload_n 0, 1) := by decide +kernel
theorem dX7_told_73 : decode cX7_told 73 = .ok (.iload_n 1, 1) := by decide +kernel
theorem dX7_told_74 : decode cX7_told 74 = .ok (.iload_n 2, 1) := by decide +kernel
theorem dX7_told_75 : decode cX7_told 75 = .ok (.invokevirtual 75, 3) := by decide +kernel
theorem dX7_told_78 : decode cX7_told 78 = .ok (.ireturn, 1) := by decide +kernel
theorem dX7_told_79 : decode cX7_told 79 = .ok (.iconst 1, 1) := by decide +kernel
theorem dX7_told_80 : decode cX7_told 80 = .ok (.aload_n 0, 1) := by decide +kernel
theorem dX7_told_81 : decode cX7_told 81 = .ok (.iload_n 1, 1) := by decide +kernel
theorem dX7_told_82 : decode cX7_told 82 = .ok (.bipush 6, 2) := by decide +kernel
theorem dX7_told_84 : decode cX7_told 84 = .ok (.invokevirtual 75, 3) := by decide +kernel
theorem dX7_told_87 : decode cX7_told 87 = .ok (.isub, 1) := by decide +kernel
theorem dX7_told_88 : decode cX7_told 88 = .ok (.ireturn, 1) := by decide +kernel
theorem dX7_told_89 : decode cX7_told 89 = .ok (.aload_n 0, 1) := by decide +kernel
theorem dX7_told_90 : decode cX7_told 90 = .ok (.iload_n 1, 1) := by decide +kernel
theorem dX7_told_91 : decode cX7_told 91 = .ok (.invokevirtual 130, 3) := by decide +kernel
theorem dX7_told_94 : decode cX7_told 94 = .ok (.ireturn, 1) := by decide +kernel
theorem dX7_told_95 : decode cX7_told 95 = .ok (.aload_n 0, 1) := by decide +kernel
theorem dX7_told_96 : decode cX7_told 96 = .ok (.iload_n 1, 1) := by decide +kernel
theorem dX7_told_97 : decode cX7_told 97 = .ok (.invokevirtual 136, 3) := by decide +kernel
theorem dX7_told_100 : decode cX7_told 100 = .ok (.ireturn, 1) := by decide +kernel
theorem dX7_told_101 : decode cX7_told 101 = .ok (.aload_n 0, 1) := by decide +kernel
theorem dX7_told_102 : decode cX7_told 102 = .ok (.iload_n 1, 1) := by decide +kernel
theorem dX7_told_103 : decode cX7_told 103 = .ok (.invokevirtual 139, 3) := by decide +kernel
theorem dX7_told_106 : decode cX7_told 106 = .ok (.ireturn, 1) := by decide +kernel
theorem dX7_told_107 : decode cX7_told 107 = .ok (.aload_n 0, 1) := by decide +kernel
theorem dX7_told_108 : decode cX7_told 108 = .ok (.iload_n 1, 1) := by decide +kernel
theorem dX7_told_109 : decode cX7_told 109 = .ok (.invokevirtual 142, 3) := by decide +kernel
theorem dX7_told_112 : decode cX7_told 112 = .ok (.ireturn, 1) := by decide +kernel
theorem dX7_told_113 : decode cX7_told 113 = .ok (.ldc 100, 2) := by decide +kernel
theorem dX7_told_115 : decode cX7_told 115 = .ok (.ireturn, 1) := by decide +kernel
theorem dX7_isOf_0 : decode cX7_isOf 0 = .ok (.iload_n 0, 1) := by decide +kernel
theorem dX7_isOf_1 : decode cX7_isOf 1 = .ok (.iload_n 1, 1) := by decide +kernel
theorem dX7_isOf_2 : decode cX7_isOf 2 = .ok (.if_icmp .eq 27, 3) := by decide +kernel
theorem dX7_isOf_5 : decode cX7_isOf 5 = .ok (.iload_n 1, 1) := by decide +kernel
theorem dX7_isOf_6 : decode cX7_isOf 6 = .ok (.ifCond .eq 23, 3) := by decide +kernel
theorem dX7_isOf_9 : decode cX7_isOf 9 = .ok (.iload_n 1, 1) := by decide +kernel
theorem dX7_isOf_10 : decode cX7_isOf 10 = .ok (.iconst 1, 1) := by decide +kernel
theorem dX7_isOf_11 : decode cX7_isOf 11 = .ok (.if_icmp .ne 8, 3) := by decide +kernel
theorem dX7_isOf_14 : decode cX7_isOf 14 = .ok (.iload_n 0, 1) := by decide +kernel
theorem dX7_isOf_15 : decode cX7_isOf 15 = .ok (.iconst 3, 1) := by decide +kernel
theorem dX7_isOf_16 : decode cX7_isOf 16 = .ok (.if_icmp .eq 13, 3) := by decide +kernel
theorem dX7_isOf_19 : decode cX7_isOf 19 = .ok (.iload_n 1, 1) := by decide +kernel
theorem dX7_isOf_20 : decode cX7_isOf 20 = .ok (.iconst 2, 1) := by decide +kernel
theorem dX7_isOf_21 : decode cX7_isOf 21 = .ok (.if_icmp .ne 12, 3) := by decide +kernel
theorem dX7_isOf_24 : decode cX7_isOf 24 = .ok (.iload_n 0, 1) := by decide +kernel
theorem dX7_isOf_25 : decode cX7_isOf 25 = .ok (.iconst 4, 1) := by decide +kernel
theorem dX7_isOf_26 : decode cX7_isOf 26 = .ok (.if_icmp .ne 7, 3) := by decide +kernel
theorem dX7_isOf_29 : decode cX7_isOf 29 = .ok (.iconst 1, 1) := by decide +kernel
theorem dX7_isOf_30 : decode cX7_isOf 30 = .ok (.goto 4, 3) := by decide +kernel
theorem dX7_isOf_33 : decode cX7_isOf 33 = .ok (.iconst 0, 1) := by decide +kernel
theorem dX7_isOf_34 : decode cX7_isOf 34 = .ok (.ireturn, 1) := by decide +kernel
theorem dX7_as_0 : decode cX7_as 0 = .ok (.aload_n 0, 1) := by decide +kernel
theorem dX7_as_1 : decode cX7_as 1 = .ok (.iload_n 1, 1) := by decide +kernel
theorem dX7_as_2 : decode cX7_as 2 = .ok (.invokevirtual 133, 3) := by decide +kernel
theorem dX7_as_5 : decode cX7_as 5 = .ok (.ifCond .eq 15, 3) := by decide +kernel
theorem dX7_as_8 : decode cX7_as 8 = .ok (.iload_n 2, 1) := by decide +kernel
theorem dX7_as_9 : decode cX7_as 9 = .ok (.i2l, 1) := by decide +kernel
theorem dX7_as_10 : decode cX7_as 10 = .ok (.lconst 0, 1) := by decide +kernel
theorem dX7_as_11 : decode cX7_as 11 = .ok (.ldc2_w 94, 3) := by decide +kernel
theorem dX7_as_14 : decode cX7_as 14 = .ok (.invokestatic 71, 3) := by decide +kernel
theorem dX7_as_17 : decode cX7_as 17 = .ok (.ifCond .ne 6, 3) := by decide +kernel
theorem dX7_as_20 : decode cX7_as 20 = .ok (.ldc 100, 2) := by decide +kernel
theorem dX7_as_22 : decode cX7_as 22 = .ok (.ireturn, 1) := by decide +kernel
theorem dX7_as_23 : decode cX7_as 23 = .ok (.aload_n 0, 1) := by decide +kernel
theorem dX7_as_24 : decode cX7_as 24 = .ok (.iload_n 1, 1) := by decide +kernel
theorem dX7_as_25 : decode cX7_as 25 = .ok (.iconst 0, 1) := by decide +kernel
theorem dX7_as_26 : decode cX7_as 26 = .ok (.invokevirtual 75, 3) := by decide +kernel
theorem dX7_as_29 : decode cX7_as 29 = .ok (.iload_n 2, 1) := by decide +kernel
theorem dX7_as_30 : decode cX7_as 30 = .ok (.invokestatic 145, 3) := by decide +kernel
theorem dX7_as_33 : decode cX7_as 33 = .ok (.ifCond .eq 12, 3) := by decide +kernel
theorem dX7_as_36 : decode cX7_as 36 = .ok (.aload_n 0, 1) := by decide +kernel
theorem dX7_as_37 : decode cX7_as 37 = .ok (.iload_n 1, 1) := by decide +kernel
theorem dX7_as_38 : decode cX7_as 38 = .ok (.iconst 3, 1) := by decide +kernel
theorem dX7_as_39 : decode cX7_as 39 = .ok (.invokevirtual 75, 3) := by decide +kernel
theorem dX7_as_42 : decode cX7_as 42 = .ok (.goto 5, 3) := by decide +kernel
theorem dX7_as_45 : decode cX7_as 45 = .ok (.ldc 148, 2) := by decide +kernel
theorem dX7_as_47 : decode cX7_as 47 = .ok (.ireturn, 1) := by decide +kernel
theorem dX7_turns_0 : decode cX7_turns 0 = .ok (.aload_n 0, 1) := by decide +kernel
theorem dX7_turns_1 : decode cX7_turns 1 = .ok (.iload_n 1, 1) := by decide +kernel
theorem dX7_turns_2 : decode cX7_turns 2 = .ok (.invokevirtual 133, 3) := by decide +kernel
theorem dX7_turns_5 : decode cX7_turns 5 = .ok (.ifCond .eq 30, 3) := by decide +kernel
theorem dX7_turns_8 : decode cX7_turns 8 = .ok (.iload_n 2, 1) := by decide +kernel
theorem dX7_turns_9 : decode cX7_turns 9 = .ok (.i2l, 1) := by decide +kernel
theorem dX7_turns_10 : decode cX7_turns 10 = .ok (.lconst 0, 1) := by decide +kernel
theorem dX7_turns_11 : decode cX7_turns 11 = .ok (.ldc2_w 94, 3) := by decide +kernel
theorem dX7_turns_14 : decode cX7_turns 14 = .ok (.invokestatic 71, 3) := by decide +kernel
theorem dX7_turns_17 : decode cX7_turns 17 = .ok (.ifCond .eq 18, 3) := by decide +kernel
theorem dX7_turns_20 : decode cX7_turns 20 = .ok (.aload_n 0, 1) := by decide +kernel
theorem dX7_turns_21 : decode cX7_turns 21 = .ok (.bipush 6, 2) := by decide +kernel
theorem dX7_turns_23 : decode cX7_turns 23 = .ok (.bipush 7, 2) := by decide +kernel
theorem dX7_turns_25 : decode cX7_turns 25 = .ok (.iload_n 1, 1) := by decide +kernel
theorem dX7_turns_26 : decode cX7_turns 26 = .ok (.imul, 1) := by decide +kernel
theorem dX7_turns_27 : decode cX7_turns 27 = .ok (.iadd, 1) := by decide +kernel
theorem dX7_turns_28 : decode cX7_turns 28 = .ok (.iload_n 2, 1) := by decide +kernel
theorem dX7_turns_29 : decode cX7_turns 29 = .ok (.invokevirtual 149, 3) := by decide +kernel
theorem dX7_turns_32 : decode cX7_turns 32 = .ok (.goto 5, 3) := by decide +kernel
theorem dX7_turns_35 : decode cX7_turns 35 = .ok (.ldc 100, 2) := by decide +kernel
theorem dX7_turns_37 : decode cX7_turns 37 = .ok (.ireturn, 1) := by decide +kernel
theorem dX7_set_0 : decode cX7_set 0 = .ok (.aload_n 0, 1) := by decide +kernel
theorem dX7_set_1 : decode cX7_set 1 = .ok (.iload_n 1, 1) := by decide +kernel
theorem dX7_set_2 : decode cX7_set 2 = .ok (.invokevirtual 133, 3) := by decide +kernel
theorem dX7_set_5 : decode cX7_set 5 = .ok (.ifCond .eq 28, 3) := by decide +kernel
theorem dX7_set_8 : decode cX7_set 8 = .ok (.iload_n 2, 1) := by decide +kernel
theorem dX7_set_9 : decode cX7_set 9 = .ok (.iload_n 3, 1) := by decide +kernel
theorem dX7_set_10 : decode cX7_set 10 = .ok (.invokestatic 96, 3) := by decide +kernel
theorem dX7_set_13 : decode cX7_set 13 = .ok (.ifCond .eq 20, 3) := by decide +kernel
theorem dX7_set_16 : decode cX7_set 16 = .ok (.aload_n 0, 1) := by decide +kernel
theorem dX7_set_17 : decode cX7_set 17 = .ok (.bipush 6, 2) := by decide +kernel
theorem dX7_set_19 : decode cX7_set 19 = .ok (.bipush 7, 2) := by decide +kernel
theorem dX7_set_21 : decode cX7_set 21 = .ok (.iload_n 1, 1) := by decide +kernel
theorem dX7_set_22 : decode cX7_set 22 = .ok (.imul, 1) := by decide +kernel
theorem dX7_set_23 : decode cX7_set 23 = .ok (.iadd, 1) := by decide +kernel
theorem dX7_set_24 : decode cX7_set 24 = .ok (.iload_n 2, 1) := by decide +kernel
theorem dX7_set_25 : decode cX7_set 25 = .ok (.iadd, 1) := by decide +kernel
theorem dX7_set_26 : decode cX7_set 26 = .ok (.iload_n 3, 1) := by decide +kernel
theorem dX7_set_27 : decode cX7_set 27 = .ok (.invokevirtual 149, 3) := by decide +kernel
theorem dX7_set_30 : decode cX7_set 30 = .ok (.goto 5, 3) := by decide +kernel
theorem dX7_set_33 : decode cX7_set 33 = .ok (.ldc 100, 2) := by decide +kernel
theorem dX7_set_35 : decode cX7_set 35 = .ok (.ireturn, 1) := by decide +kernel
theorem dX7_falls_0 : decode cX7_falls 0 = .ok (.aload_n 0, 1) := by decide +kernel
theorem dX7_falls_1 : decode cX7_falls 1 = .ok (.iload_n 1, 1) := by decide +kernel
theorem dX7_falls_2 : decode cX7_falls 2 = .ok (.bipush 6, 2) := by decide +kernel
theorem dX7_falls_4 : decode cX7_falls 4 = .ok (.iconst 1, 1) := by decide +kernel
theorem dX7_falls_5 : decode cX7_falls 5 = .ok (.invokevirtual 80, 3) := by decide +kernel
theorem dX7_falls_8 : decode cX7_falls 8 = .ok (.aload_n 0, 1) := by decide +kernel
theorem dX7_falls_9 : decode cX7_falls 9 = .ok (.iload_n 1, 1) := by decide +kernel
theorem dX7_falls_10 : decode cX7_falls 10 = .ok (.iconst 5, 1) := by decide +kernel
theorem dX7_falls_11 : decode cX7_falls 11 = .ok (.iconst 0, 1) := by decide +kernel
theorem dX7_falls_12 : decode cX7_falls 12 = .ok (.invokevirtual 80, 3) := by decide +kernel
theorem dX7_falls_15 : decode cX7_falls 15 = .ok (.return_, 1) := by decide +kernel
theorem dX7_fells_0 : decode cX7_fells 0 = .ok (.aload_n 0, 1) := by decide +kernel
theorem dX7_fells_1 : decode cX7_fells 1 = .ok (.iload_n 1, 1) := by decide +kernel
theorem dX7_fells_2 : decode cX7_fells 2 = .ok (.invokevirtual 133, 3) := by decide +kernel
theorem dX7_fells_5 : decode cX7_fells 5 = .ok (.ifCond .ne 6, 3) := by decide +kernel
theorem dX7_fells_8 : decode cX7_fells 8 = .ok (.ldc 100, 2) := by decide +kernel
theorem dX7_fells_10 : decode cX7_fells 10 = .ok (.ireturn, 1) := by decide +kernel
theorem dX7_fells_11 : decode cX7_fells 11 = .ok (.aload_n 0, 1) := by decide +kernel
theorem dX7_fells_12 : decode cX7_fells 12 = .ok (.iload_n 1, 1) := by decide +kernel
theorem dX7_fells_13 : decode cX7_fells 13 = .ok (.invokevirtual 119, 3) := by decide +kernel
theorem dX7_fells_16 : decode cX7_fells 16 = .ok (.ifCond .ne 6, 3) := by decide +kernel
theorem dX7_fells_19 : decode cX7_fells 19 = .ok (.ldc 152, 2) := by decide +kernel
theorem dX7_fells_21 : decode cX7_fells 21 = .ok (.ireturn, 1) := by decide +kernel
theorem dX7_fells_22 : decode cX7_fells 22 = .ok (.aload_n 0, 1) := by decide +kernel
theorem dX7_fells_23 : decode cX7_fells 23 = .ok (.iload_n 1, 1) := by decide +kernel
theorem dX7_fells_24 : decode cX7_fells 24 = .ok (.invokevirtual 153, 3) := by decide +kernel
theorem dX7_fells_27 : decode cX7_fells 27 = .ok (.aload_n 0, 1) := by decide +kernel
theorem dX7_fells_28 : decode cX7_fells 28 = .ok (.invokevirtual 123, 3) := by decide +kernel
theorem dX7_fells_31 : decode cX7_fells 31 = .ok (.invokestatic 157, 3) := by decide +kernel
theorem dX7_fells_34 : decode cX7_fells 34 = .ok (.ireturn, 1) := by decide +kernel
theorem dX7_raises_0 : decode cX7_raises 0 = .ok (.aload_n 0, 1) := by decide +kernel
theorem dX7_raises_1 : decode cX7_raises 1 = .ok (.iload_n 1, 1) := by decide +kernel
theorem dX7_raises_2 : decode cX7_raises 2 = .ok (.invokevirtual 133, 3) := by decide +kernel
theorem dX7_raises_5 : decode cX7_raises 5 = .ok (.ifCond .ne 6, 3) := by decide +kernel
theorem dX7_raises_8 : decode cX7_raises 8 = .ok (.ldc 100, 2) := by decide +kernel
theorem dX7_raises_10 : decode cX7_raises 10 = .ok (.ireturn, 1) := by decide +kernel
theorem dX7_raises_11 : decode cX7_raises 11 = .ok (.aload_n 0, 1) := by decide +kernel
theorem dX7_raises_12 : decode cX7_raises 12 = .ok (.iload_n 1, 1) := by decide +kernel
theorem dX7_raises_13 : decode cX7_raises 13 = .ok (.invokevirtual 119, 3) := by decide +kernel
theorem dX7_raises_16 : decode cX7_raises 16 = .ok (.ifCond .eq 6, 3) := by decide +kernel
theorem dX7_raises_19 : decode cX7_raises 19 = .ok (.ldc 152, 2) := by decide +kernel
theorem dX7_raises_21 : decode cX7_raises 21 = .ok (.ireturn, 1) := by decide +kernel
theorem dX7_raises_22 : decode cX7_raises 22 = .ok (.aload_n 0, 1) := by decide +kernel
theorem dX7_raises_23 : decode cX7_raises 23 = .ok (.iload_n 1, 1) := by decide +kernel
theorem dX7_raises_24 : decode cX7_raises 24 = .ok (.bipush 6, 2) := by decide +kernel
theorem dX7_raises_26 : decode cX7_raises 26 = .ok (.iconst 0, 1) := by decide +kernel
theorem dX7_raises_27 : decode cX7_raises 27 = .ok (.invokevirtual 80, 3) := by decide +kernel
theorem dX7_raises_30 : decode cX7_raises 30 = .ok (.aload_n 0, 1) := by decide +kernel
theorem dX7_raises_31 : decode cX7_raises 31 = .ok (.iload_n 1, 1) := by decide +kernel
theorem dX7_raises_32 : decode cX7_raises 32 = .ok (.iconst 2, 1) := by decide +kernel
theorem dX7_raises_33 : decode cX7_raises 33 = .ok (.iconst 0, 1) := by decide +kernel
theorem dX7_raises_34 : decode cX7_raises 34 = .ok (.invokevirtual 80, 3) := by decide +kernel
theorem dX7_raises_37 : decode cX7_raises 37 = .ok (.aload_n 0, 1) := by decide +kernel
theorem dX7_raises_38 : decode cX7_raises 38 = .ok (.iload_n 1, 1) := by decide +kernel
theorem dX7_raises_39 : decode cX7_raises 39 = .ok (.iconst 4, 1) := by decide +kernel
theorem dX7_raises_40 : decode cX7_raises 40 = .ok (.iconst 0, 1) := by decide +kernel
theorem dX7_raises_41 : decode cX7_raises 41 = .ok (.invokevirtual 80, 3) := by decide +kernel
theorem dX7_raises_44 : decode cX7_raises 44 = .ok (.aload_n 0, 1) := by decide +kernel
theorem dX7_raises_45 : decode cX7_raises 45 = .ok (.invokevirtual 123, 3) := by decide +kernel
theorem dX7_raises_48 : decode cX7_raises 48 = .ok (.invokestatic 157, 3) := by decide +kernel
theorem dX7_raises_51 : decode cX7_raises 51 = .ok (.ireturn, 1) := by decide +kernel
theorem dX7_snow_0 : decode cX7_snow 0 = .ok (.iload_n 1, 1) := by decide +kernel
theorem dX7_snow_1 : decode cX7_snow 1 = .ok (.i2l, 1) := by decide +kernel
theorem dX7_snow_2 : decode cX7_snow 2 = .ok (.ldc2_w 160, 3) := by decide +kernel
theorem dX7_snow_5 : decode cX7_snow 5 = .ok (.ldc2_w 162, 3) := by decide +kernel
theorem dX7_snow_8 : decode cX7_snow 8 = .ok (.invokestatic 71, 3) := by decide +kernel
theorem dX7_snow_11 : decode cX7_snow 11 = .ok (.ifCond .eq 12, 3) := by decide +kernel
theorem dX7_snow_14 : decode cX7_snow 14 = .ok (.aload_n 0, 1) := by decide +kernel
theorem dX7_snow_15 : decode cX7_snow 15 = .ok (.iconst 4, 1) := by decide +kernel
theorem dX7_snow_16 : decode cX7_snow 16 = .ok (.iload_n 1, 1) := by decide +kernel
theorem dX7_snow_17 : decode cX7_snow 17 = .ok (.invokevirtual 149, 3) := by decide +kernel
theorem dX7_snow_20 : decode cX7_snow 20 = .ok (.goto 5, 3) := by decide +kernel
theorem dX7_snow_23 : decode cX7_snow 23 = .ok (.ldc 100, 2) := by decide +kernel
theorem dX7_snow_25 : decode cX7_snow 25 = .ok (.ireturn, 1) := by decide +kernel
theorem dX7_deal_0 : decode cX7_deal 0 = .ok (.iload_n 1, 1) := by decide +kernel
theorem dX7_deal_1 : decode cX7_deal 1 = .ok (.i2l, 1) := by decide +kernel
theorem dX7_deal_2 : decode cX7_deal 2 = .ok (.lconst 1, 1) := by decide +kernel
theorem dX7_deal_3 : decode cX7_deal 3 = .ok (.ldc2_w 92, 3) := by decide +kernel
theorem dX7_deal_6 : decode cX7_deal 6 = .ok (.invokestatic 71, 3) := by decide +kernel
theorem dX7_deal_9 : decode cX7_deal 9 = .ok (.ifCond .ne 6, 3) := by decide +kernel
theorem dX7_deal_12 : decode cX7_deal 12 = .ok (.ldc 100, 2) := by decide +kernel
theorem dX7_deal_14 : decode cX7_deal 14 = .ok (.ireturn, 1) := by decide +kernel
theorem dX7_deal_15 : decode cX7_deal 15 = .ok (.iconst 0, 1) := by decide +kernel
theorem dX7_deal_16 : decode cX7_deal 16 = .ok (.istore_n 2, 1) := by decide +kernel
theorem dX7_deal_17 : decode cX7_deal 17 = .ok (.iload_n 2, 1) := by decide +kernel
theorem dX7_deal_18 : decode cX7_deal 18 = .ok (.iload_n 1, 1) := by decide +kernel
theorem dX7_deal_19 : decode cX7_deal 19 = .ok (.if_icmp .ge 67, 3) := by decide +kernel
theorem dX7_deal_22 : decode cX7_deal 22 = .ok (.aload_n 0, 1) := by decide +kernel
theorem dX7_deal_23 : decode cX7_deal 23 = .ok (.getfield 7, 3) := by decide +kernel
theorem dX7_deal_26 : decode cX7_deal 26 = .ok (.iconst 0, 1) := by decide +kernel
theorem dX7_deal_27 : decode cX7_deal 27 = .ok (.iaload, 1) := by decide +kernel
theorem dX7_deal_28 : decode cX7_deal 28 = .ok (.bipush 9, 2) := by decide +kernel
theorem dX7_deal_30 : decode cX7_deal 30 = .ok (.if_icmp .ge 56, 3) := by decide +kernel
theorem dX7_deal_33 : decode cX7_deal 33 = .ok (.aload_n 0, 1) := by decide +kernel
theorem dX7_deal_34 : decode cX7_deal 34 = .ok (.invokevirtual 164, 3) := by decide +kernel
theorem dX7_deal_37 : decode cX7_deal 37 = .ok (.bipush 6, 2) := by decide +kernel
theorem dX7_deal_39 : decode cX7_deal 39 = .ok (.irem, 1) := by decide +kernel
theorem dX7_deal_40 : decode cX7_deal 40 = .ok (.istore_n 3, 1) := by decide +kernel
theorem dX7_deal_41 : decode cX7_deal 41 = .ok (.iconst 1, 1) := by decide +kernel
theorem dX7_deal_42 : decode cX7_deal 42 = .ok (.aload_n 0, 1) := by decide +kernel
theorem dX7_deal_43 : decode cX7_deal 43 = .ok (.invokevirtual 164, 3) := by decide +kernel
theorem dX7_deal_46 : decode cX7_deal 46 = .ok (.bipush 60, 2) := by decide +kernel
theorem dX7_deal_48 : decode cX7_deal 48 = .ok (.irem, 1) := by decide +kernel
theorem dX7_deal_49 : decode cX7_deal 49 = .ok (.iadd, 1) := by decide +kernel
theorem dX7_deal_50 : decode cX7_deal 50 = .ok (.istore 4, 2) := by decide +kernel
theorem dX7_deal_52 : decode cX7_deal 52 = .ok (.aload_n 0, 1) := by decide +kernel
theorem dX7_deal_53 : decode cX7_deal 53 = .ok (.invokevirtual 164, 3) := by decide +kernel
theorem dX7_deal_56 : decode cX7_deal 56 = .ok (.bipush 41, 2) := by decide +kernel
theorem dX7_deal_58 : decode cX7_deal 58 = .ok (.irem, 1) := by decide +kernel
theorem dX7_deal_59 : decode cX7_deal 59 = .ok (.bipush 20, 2) := by decide +kernel
theorem dX7_deal_61 : decode cX7_deal 61 = .ok (.isub, 1) := by decide +kernel
theorem dX7_deal_62 : decode cX7_deal 62 = .ok (.istore 5, 2) := by decide +kernel
theorem dX7_deal_64 : decode cX7_deal 64 = .ok (.aload_n 0, 1) := by decide +kernel
theorem dX7_deal_65 : decode cX7_deal 65 = .ok (.iload_n 3, 1) := by decide +kernel
theorem dX7_deal_66 : decode cX7_deal 66 = .ok (.iload 4, 2) := by decide +kernel
theorem dX7_deal_68 : decode cX7_deal 68 = .ok (.iload 5, 2) := by decide +kernel
theorem dX7_deal_70 : decode cX7_deal 70 = .ok (.aload_n 0, 1) := by decide +kernel
theorem dX7_deal_71 : decode cX7_deal 71 = .ok (.invokevirtual 164, 3) := by decide +kernel
theorem dX7_deal_74 : decode cX7_deal 74 = .ok (.bipush 60, 2) := by decide +kernel
theorem dX7_deal_76 : decode cX7_deal 76 = .ok (.irem, 1) := by decide +kernel
theorem dX7_deal_77 : decode cX7_deal 77 = .ok (.invokevirtual 102, 3) := by decide +kernel
theorem dX7_deal_80 : decode cX7_deal 80 = .ok (.iinc 2 1, 3) := by decide +kernel
theorem dX7_deal_83 : decode cX7_deal 83 = .ok (.goto (-66), 3) := by decide +kernel
theorem dX7_deal_86 : decode cX7_deal 86 = .ok (.iload_n 2, 1) := by decide +kernel
theorem dX7_deal_87 : decode cX7_deal 87 = .ok (.ireturn, 1) := by decide +kernel
theorem dX7_seed_0 : decode cX7_seed 0 = .ok (.aload_n 0, 1) := by decide +kernel
theorem dX7_seed_1 : decode cX7_seed 1 = .ok (.iconst 5, 1) := by decide +kernel
theorem dX7_seed_2 : decode cX7_seed 2 = .ok (.iload_n 1, 1) := by decide +kernel
theorem dX7_seed_3 : decode cX7_seed 3 = .ok (.invokevirtual 149, 3) := by decide +kernel
theorem dX7_seed_6 : decode cX7_seed 6 = .ok (.ireturn, 1) := by decide +kernel
theorem dX7_fallsWith_0 : decode cX7_fallsWith 0 = .ok (.aload_n 0, 1) := by decide +kernel
theorem dX7_fallsWith_1 : decode cX7_fallsWith 1 = .ok (.iload_n 1, 1) := by decide +kernel
theorem dX7_fallsWith_2 : decode cX7_fallsWith 2 = .ok (.iconst 2, 1) := by decide +kernel
theorem dX7_fallsWith_3 : decode cX7_fallsWith 3 = .ok (.invokevirtual 75, 3) := by decide +kernel
theorem dX7_fallsWith_6 : decode cX7_fallsWith 6 = .ok (.istore_n 3, 1) := by decide +kernel
theorem dX7_fallsWith_7 : decode cX7_fallsWith 7 = .ok (.iload_n 3, 1) := by decide +kernel
theorem dX7_fallsWith_8 : decode cX7_fallsWith 8 = .ok (.iconst 0, 1) := by decide +kernel
theorem dX7_fallsWith_9 : decode cX7_fallsWith 9 = .ok (.invokestatic 106, 3) := by decide +kernel
theorem dX7_fallsWith_12 : decode cX7_fallsWith 12 = .ok (.bipush 20, 2) := by decide +kernel
theorem dX7_fallsWith_14 : decode cX7_fallsWith 14 = .ok (.if_icmp .ge 5, 3) := by decide +kernel
theorem dX7_fallsWith_17 : decode cX7_fallsWith 17 = .ok (.iconst 0, 1) := by decide +kernel
theorem dX7_fallsWith_18 : decode cX7_fallsWith 18 = .ok (.ireturn, 1) := by decide +kernel
theorem dX7_fallsWith_19 : decode cX7_fallsWith 19 = .ok (.aload_n 0, 1) := by decide +kernel
theorem dX7_fallsWith_20 : decode cX7_fallsWith 20 = .ok (.iload_n 1, 1) := by decide +kernel
theorem dX7_fallsWith_21 : decode cX7_fallsWith 21 = .ok (.iload_n 3, 1) := by decide +kernel
theorem dX7_fallsWith_22 : decode cX7_fallsWith 22 = .ok (.ifCond .le 7, 3) := by decide +kernel
theorem dX7_fallsWith_25 : decode cX7_fallsWith 25 = .ok (.iconst 1, 1) := by decide +kernel
theorem dX7_fallsWith_26 : decode cX7_fallsWith 26 = .ok (.goto 4, 3) := by decide +kernel
theorem dX7_fallsWith_29 : decode cX7_fallsWith 29 = .ok (.iconst (-1), 1) := by decide +kernel
theorem dX7_fallsWith_30 : decode cX7_fallsWith 30 = .ok (.iload_n 2, 1) := by decide +kernel
theorem dX7_fallsWith_31 : decode cX7_fallsWith 31 = .ok (.invokevirtual 127, 3) := by decide +kernel
theorem dX7_fallsWith_34 : decode cX7_fallsWith 34 = .ok (.istore 4, 2) := by decide +kernel
theorem dX7_fallsWith_36 : decode cX7_fallsWith 36 = .ok (.iload 4, 2) := by decide +kernel
theorem dX7_fallsWith_38 : decode cX7_fallsWith 38 = .ok (.ifCond .lt 16, 3) := by decide +kernel
theorem dX7_fallsWith_41 : decode cX7_fallsWith 41 = .ok (.aload_n 0, 1) := by decide +kernel
theorem dX7_fallsWith_42 : decode cX7_fallsWith 42 = .ok (.iload 4, 2) := by decide +kernel
theorem dX7_fallsWith_44 : decode cX7_fallsWith 44 = .ok (.invokevirtual 119, 3) := by decide +kernel
theorem dX7_fallsWith_47 : decode cX7_fallsWith 47 = .ok (.ifCond .ne 7, 3) := by decide +kernel
theorem dX7_fallsWith_50 : decode cX7_fallsWith 50 = .ok (.iconst 1, 1) := by decide +kernel
theorem dX7_fallsWith_51 : decode cX7_fallsWith 51 = .ok (.goto 4, 3) := by decide +kernel
theorem dX7_fallsWith_54 : decode cX7_fallsWith 54 = .ok (.iconst 0, 1) := by decide +kernel
theorem dX7_fallsWith_55 : decode cX7_fallsWith 55 = .ok (.ireturn, 1) := by decide +kernel
theorem dX7_goesOn_0 : decode cX7_goesOn 0 = .ok (.aload_n 0, 1) := by decide +kernel
theorem dX7_goesOn_1 : decode cX7_goesOn 1 = .ok (.invokevirtual 123, 3) := by decide +kernel
theorem dX7_goesOn_4 : decode cX7_goesOn 4 = .ok (.istore_n 1, 1) := by decide +kernel
theorem dX7_goesOn_5 : decode cX7_goesOn 5 = .ok (.iconst 0, 1) := by decide +kernel
theorem dX7_goesOn_6 : decode cX7_goesOn 6 = .ok (.istore_n 2, 1) := by decide +kernel
theorem dX7_goesOn_7 : decode cX7_goesOn 7 = .ok (.iconst 0, 1) := by decide +kernel
theorem dX7_goesOn_8 : decode cX7_goesOn 8 = .ok (.istore_n 3, 1) := by decide +kernel
theorem dX7_goesOn_9 : decode cX7_goesOn 9 = .ok (.iload_n 3, 1) := by decide +kernel
theorem dX7_goesOn_10 : decode cX7_goesOn 10 = .ok (.aload_n 0, 1) := by decide +kernel
theorem dX7_goesOn_11 : decode cX7_goesOn 11 = .ok (.getfield 7, 3) := by decide +kernel
theorem dX7_goesOn_14 : decode cX7_goesOn 14 = .ok (.iconst 0, 1) := by decide +kernel
theorem dX7_goesOn_15 : decode cX7_goesOn 15 = .ok (.iaload, 1) := by decide +kernel
theorem dX7_goesOn_16 : decode cX7_goesOn 16 = .ok (.if_icmp .ge 31, 3) := by decide +kernel
theorem dX7_goesOn_19 : decode cX7_goesOn 19 = .ok (.aload_n 0, 1) := by decide +kernel
theorem dX7_goesOn_20 : decode cX7_goesOn 20 = .ok (.getfield 43, 3) := by decide +kernel
theorem dX7_goesOn_23 : decode cX7_goesOn 23 = .ok (.iload_n 3, 1) := by decide +kernel
theorem dX7_goesOn_24 : decode cX7_goesOn 24 = .ok (.aload_n 0, 1) := by decide +kernel
theorem dX7_goesOn_25 : decode cX7_goesOn 25 = .ok (.iload_n 3, 1) := by decide +kernel
theorem dX7_goesOn_26 : decode cX7_goesOn 26 = .ok (.invokevirtual 139, 3) := by decide +kernel
theorem dX7_goesOn_29 : decode cX7_goesOn 29 = .ok (.iastore, 1) := by decide +kernel
theorem dX7_goesOn_30 : decode cX7_goesOn 30 = .ok (.aload_n 0, 1) := by decide +kernel
theorem dX7_goesOn_31 : decode cX7_goesOn 31 = .ok (.getfield 46, 3) := by decide +kernel
theorem dX7_goesOn_34 : decode cX7_goesOn 34 = .ok (.iload_n 3, 1) := by decide +kernel
theorem dX7_goesOn_35 : decode cX7_goesOn 35 = .ok (.aload_n 0, 1) := by decide +kernel
theorem dX7_goesOn_36 : decode cX7_goesOn 36 = .ok (.iload_n 3, 1) := by decide +kernel
theorem dX7_goesOn_37 : decode cX7_goesOn 37 = .ok (.invokevirtual 136, 3) := by decide +kernel
theorem dX7_goesOn_40 : decode cX7_goesOn 40 = .ok (.iastore, 1) := by decide +kernel
theorem dX7_goesOn_41 : decode cX7_goesOn 41 = .ok (.iinc 3 1, 3) := by decide +kernel
theorem dX7_goesOn_44 : decode cX7_goesOn 44 = .ok (.goto (-35), 3) := by decide +kernel
theorem dX7_goesOn_47 : decode cX7_goesOn 47 = .ok (.iconst 0, 1) := by decide +kernel
theorem dX7_goesOn_48 : decode cX7_goesOn 48 = .ok (.istore_n 3, 1) := by decide +kernel
theorem dX7_goesOn_49 : decode cX7_goesOn 49 = .ok (.iload_n 3, 1) := by decide +kernel
theorem dX7_goesOn_50 : decode cX7_goesOn 50 = .ok (.aload_n 0, 1) := by decide +kernel
theorem dX7_goesOn_51 : decode cX7_goesOn 51 = .ok (.getfield 7, 3) := by decide +kernel
theorem dX7_goesOn_54 : decode cX7_goesOn 54 = .ok (.iconst 0, 1) := by decide +kernel
theorem dX7_goesOn_55 : decode cX7_goesOn 55 = .ok (.iaload, 1) := by decide +kernel
theorem dX7_goesOn_56 : decode cX7_goesOn 56 = .ok (.if_icmp .ge 97, 3) := by decide +kernel
theorem dX7_goesOn_59 : decode cX7_goesOn 59 = .ok (.aload_n 0, 1) := by decide +kernel
theorem dX7_goesOn_60 : decode cX7_goesOn 60 = .ok (.getfield 43, 3) := by decide +kernel
theorem dX7_goesOn_63 : decode cX7_goesOn 63 = .ok (.iload_n 3, 1) := by decide +kernel
theorem dX7_goesOn_64 : decode cX7_goesOn 64 = .ok (.iaload, 1) := by decide +kernel
theorem dX7_goesOn_65 : decode cX7_goesOn 65 = .ok (.iconst 0, 1) := by decide +kernel
theorem dX7_goesOn_66 : decode cX7_goesOn 66 = .ok (.invokestatic 106, 3) := by decide +kernel
theorem dX7_goesOn_69 : decode cX7_goesOn 69 = .ok (.aload_n 0, 1) := by decide +kernel
theorem dX7_goesOn_70 : decode cX7_goesOn 70 = .ok (.getfield 46, 3) := by decide +kernel
theorem dX7_goesOn_73 : decode cX7_goesOn 73 = .ok (.iload_n 3, 1) := by decide +kernel
theorem dX7_goesOn_74 : decode cX7_goesOn 74 = .ok (.iaload, 1) := by decide +kernel
theorem dX7_goesOn_75 : decode cX7_goesOn 75 = .ok (.isub, 1) := by decide +kernel
theorem dX7_goesOn_76 : decode cX7_goesOn 76 = .ok (.istore 4, 2) := by decide +kernel
theorem dX7_goesOn_78 : decode cX7_goesOn 78 = .ok (.aload_n 0, 1) := by decide +kernel
theorem dX7_goesOn_79 : decode cX7_goesOn 79 = .ok (.iload_n 3, 1) := by decide +kernel
theorem dX7_goesOn_80 : decode cX7_goesOn 80 = .ok (.invokevirtual 119, 3) := by decide +kernel
theorem dX7_goesOn_83 : decode cX7_goesOn 83 = .ok (.ifCond .eq 64, 3) := by decide +kernel
theorem dX7_goesOn_86 : decode cX7_goesOn 86 = .ok (.iload 4, 2) := by decide +kernel
theorem dX7_goesOn_88 : decode cX7_goesOn 88 = .ok (.ifCond .le 59, 3) := by decide +kernel
theorem dX7_goesOn_91 : decode cX7_goesOn 91 = .ok (.aload_n 0, 1) := by decide +kernel
theorem dX7_goesOn_92 : decode cX7_goesOn 92 = .ok (.iload_n 3, 1) := by decide +kernel
theorem dX7_goesOn_93 : decode cX7_goesOn 93 = .ok (.iconst 4, 1) := by decide +kernel
theorem dX7_goesOn_94 : decode cX7_goesOn 94 = .ok (.aload_n 0, 1) := by decide +kernel
theorem dX7_goesOn_95 : decode cX7_goesOn 95 = .ok (.iload_n 3, 1) := by decide +kernel
theorem dX7_goesOn_96 : decode cX7_goesOn 96 = .ok (.iconst 4, 1) := by decide +kernel
theorem dX7_goesOn_97 : decode cX7_goesOn 97 = .ok (.invokevirtual 75, 3) := by decide +kernel
theorem dX7_goesOn_100 : decode cX7_goesOn 100 = .ok (.iload 4, 2) := by decide +kernel
theorem dX7_goesOn_102 : decode cX7_goesOn 102 = .ok (.iadd, 1) := by decide +kernel
theorem dX7_goesOn_103 : decode cX7_goesOn 103 = .ok (.iconst 0, 1) := by decide +kernel
theorem dX7_goesOn_104 : decode cX7_goesOn 104 = .ok (.sipush 999, 3) := by decide +kernel
theorem dX7_goesOn_107 : decode cX7_goesOn 107 = .ok (.invokestatic 116, 3) := by decide +kernel
theorem dX7_goesOn_110 : decode cX7_goesOn 110 = .ok (.invokevirtual 80, 3) := by decide +kernel
theorem dX7_goesOn_113 : decode cX7_goesOn 113 = .ok (.aload_n 0, 1) := by decide +kernel
theorem dX7_goesOn_114 : decode cX7_goesOn 114 = .ok (.iload_n 3, 1) := by decide +kernel
theorem dX7_goesOn_115 : decode cX7_goesOn 115 = .ok (.iconst 2, 1) := by decide +kernel
theorem dX7_goesOn_116 : decode cX7_goesOn 116 = .ok (.aload_n 0, 1) := by decide +kernel
theorem dX7_goesOn_117 : decode cX7_goesOn 117 = .ok (.iload_n 3, 1) := by decide +kernel
theorem dX7_goesOn_118 : decode cX7_goesOn 118 = .ok (.iconst 2, 1) := by decide +kernel
theorem dX7_goesOn_119 : decode cX7_goesOn 119 = .ok (.invokevirtual 75, 3) := by decide +kernel
theorem dX7_goesOn_122 : decode cX7_goesOn 122 = .ok (.aload_n 0, 1) := by decide +kernel
theorem dX7_goesOn_123 : decode cX7_goesOn 123 = .ok (.getfield 43, 3) := by decide +kernel
theorem dX7_goesOn_126 : decode cX7_goesOn 126 = .ok (.iload_n 3, 1) := by decide +kernel
theorem dX7_goesOn_127 : decode cX7_goesOn 127 = .ok (.iaload, 1) := by decide +kernel
theorem dX7_goesOn_128 : decode cX7_goesOn 128 = .ok (.ifCond .le 7, 3) := by decide +kernel
theorem dX7_goesOn_131 : decode cX7_goesOn 131 = .ok (.iconst 1, 1) := by decide +kernel
theorem dX7_goesOn_132 : decode cX7_goesOn 132 = .ok (.goto 4, 3) := by decide +kernel
theorem dX7_goesOn_135 : decode cX7_goesOn 135 = .ok (.iconst (-1), 1) := by decide +kernel
theorem dX7_goesOn_136 : decode cX7_goesOn 136 = .ok (.iadd, 1) := by decide +kernel
theorem dX7_goesOn_137 : decode cX7_goesOn 137 = .ok (.bipush (-50), 2) := by decide +kernel
theorem dX7_goesOn_139 : decode cX7_goesOn 139 = .ok (.bipush 50, 2) := by decide +kernel
theorem dX7_goesOn_141 : decode cX7_goesOn 141 = .ok (.invokestatic 116, 3) := by decide +kernel
theorem dX7_goesOn_144 : decode cX7_goesOn 144 = .ok (.invokevirtual 80, 3) := by decide +kernel
theorem dX7_goesOn_147 : decode cX7_goesOn 147 = .ok (.iinc 3 1, 3) := by decide +kernel
theorem dX7_goesOn_150 : decode cX7_goesOn 150 = .ok (.goto (-101), 3) := by decide +kernel
theorem dX7_goesOn_153 : decode cX7_goesOn 153 = .ok (.iconst 0, 1) := by decide +kernel
theorem dX7_goesOn_154 : decode cX7_goesOn 154 = .ok (.istore_n 3, 1) := by decide +kernel
theorem dX7_goesOn_155 : decode cX7_goesOn 155 = .ok (.iload_n 3, 1) := by decide +kernel
theorem dX7_goesOn_156 : decode cX7_goesOn 156 = .ok (.aload_n 0, 1) := by decide +kernel
theorem dX7_goesOn_157 : decode cX7_goesOn 157 = .ok (.getfield 7, 3) := by decide +kernel
theorem dX7_goesOn_160 : decode cX7_goesOn 160 = .ok (.iconst 0, 1) := by decide +kernel
theorem dX7_goesOn_161 : decode cX7_goesOn 161 = .ok (.iaload, 1) := by decide +kernel
theorem dX7_goesOn_162 : decode cX7_goesOn 162 = .ok (.if_icmp .ge 33, 3) := by decide +kernel
theorem dX7_goesOn_165 : decode cX7_goesOn 165 = .ok (.aload_n 0, 1) := by decide +kernel
theorem dX7_goesOn_166 : decode cX7_goesOn 166 = .ok (.iload_n 3, 1) := by decide +kernel
theorem dX7_goesOn_167 : decode cX7_goesOn 167 = .ok (.invokevirtual 119, 3) := by decide +kernel
theorem dX7_goesOn_170 : decode cX7_goesOn 170 = .ok (.ifCond .eq 19, 3) := by decide +kernel
theorem dX7_goesOn_173 : decode cX7_goesOn 173 = .ok (.aload_n 0, 1) := by decide +kernel
theorem dX7_goesOn_174 : decode cX7_goesOn 174 = .ok (.iload_n 3, 1) := by decide +kernel
theorem dX7_goesOn_175 : decode cX7_goesOn 175 = .ok (.iconst 4, 1) := by decide +kernel
theorem dX7_goesOn_176 : decode cX7_goesOn 176 = .ok (.invokevirtual 75, 3) := by decide +kernel
theorem dX7_goesOn_179 : decode cX7_goesOn 179 = .ok (.bipush 100, 2) := by decide +kernel
theorem dX7_goesOn_181 : decode cX7_goesOn 181 = .ok (.if_icmp .lt 8, 3) := by decide +kernel
theorem dX7_goesOn_184 : decode cX7_goesOn 184 = .ok (.aload_n 0, 1) := by decide +kernel
theorem dX7_goesOn_185 : decode cX7_goesOn 185 = .ok (.iload_n 3, 1) := by decide +kernel
theorem dX7_goesOn_186 : decode cX7_goesOn 186 = .ok (.invokevirtual 153, 3) := by decide +kernel
theorem dX7_goesOn_189 : decode cX7_goesOn 189 = .ok (.iinc 3 1, 3) := by decide +kernel
theorem dX7_goesOn_192 : decode cX7_goesOn 192 = .ok (.goto (-37), 3) := by decide +kernel
theorem dX7_goesOn_195 : decode cX7_goesOn 195 = .ok (.iconst 1, 1) := by decide +kernel
theorem dX7_goesOn_196 : decode cX7_goesOn 196 = .ok (.istore_n 3, 1) := by decide +kernel
theorem dX7_goesOn_197 : decode cX7_goesOn 197 = .ok (.iload_n 3, 1) := by decide +kernel
theorem dX7_goesOn_198 : decode cX7_goesOn 198 = .ok (.ifCond .eq 55, 3) := by decide +kernel
theorem dX7_goesOn_201 : decode cX7_goesOn 201 = .ok (.iconst 0, 1) := by decide +kernel
theorem dX7_goesOn_202 : decode cX7_goesOn 202 = .ok (.istore_n 3, 1) := by decide +kernel
theorem dX7_goesOn_203 : decode cX7_goesOn 203 = .ok (.iconst 0, 1) := by decide +kernel
theorem dX7_goesOn_204 : decode cX7_goesOn 204 = .ok (.istore 4, 2) := by decide +kernel
theorem dX7_goesOn_206 : decode cX7_goesOn 206 = .ok (.iload 4, 2) := by decide +kernel
theorem dX7_goesOn_208 : decode cX7_goesOn 208 = .ok (.aload_n 0, 1) := by decide +kernel
theorem dX7_goesOn_209 : decode cX7_goesOn 209 = .ok (.getfield 7, 3) := by decide +kernel
theorem dX7_goesOn_212 : decode cX7_goesOn 212 = .ok (.iconst 0, 1) := by decide +kernel
theorem dX7_goesOn_213 : decode cX7_goesOn 213 = .ok (.iaload, 1) := by decide +kernel
theorem dX7_goesOn_214 : decode cX7_goesOn 214 = .ok (.if_icmp .ge 36, 3) := by decide +kernel
theorem dX7_goesOn_217 : decode cX7_goesOn 217 = .ok (.aload_n 0, 1) := by decide +kernel
theorem dX7_goesOn_218 : decode cX7_goesOn 218 = .ok (.iload 4, 2) := by decide +kernel
theorem dX7_goesOn_220 : decode cX7_goesOn 220 = .ok (.invokevirtual 119, 3) := by decide +kernel
theorem dX7_goesOn_223 : decode cX7_goesOn 223 = .ok (.ifCond .eq 21, 3) := by decide +kernel
theorem dX7_goesOn_226 : decode cX7_goesOn 226 = .ok (.aload_n 0, 1) := by decide +kernel
theorem dX7_goesOn_227 : decode cX7_goesOn 227 = .ok (.iload 4, 2) := by decide +kernel
theorem dX7_goesOn_229 : decode cX7_goesOn 229 = .ok (.iload_n 1, 1) := by decide +kernel
theorem dX7_goesOn_230 : decode cX7_goesOn 230 = .ok (.invokevirtual 167, 3) := by decide +kernel
theorem dX7_goesOn_233 : decode cX7_goesOn 233 = .ok (.ifCond .eq 11, 3) := by decide +kernel
theorem dX7_goesOn_236 : decode cX7_goesOn 236 = .ok (.aload_n 0, 1) := by decide +kernel
theorem dX7_goesOn_237 : decode cX7_goesOn 237 = .ok (.iload 4, 2) := by decide +kernel
theorem dX7_goesOn_239 : decode cX7_goesOn 239 = .ok (.invokevirtual 153, 3) := by decide +kernel
theorem dX7_goesOn_242 : decode cX7_goesOn 242 = .ok (.iconst 1, 1) := by decide +kernel
theorem dX7_goesOn_243 : decode cX7_goesOn 243 = .ok (.istore_n 3, 1) := by decide +kernel
theorem dX7_goesOn_244 : decode cX7_goesOn 244 = .ok (.iinc 4 1, 3) := by decide +kernel
theorem dX7_goesOn_247 : decode cX7_goesOn 247 = .ok (.goto (-41), 3) := by decide +kernel
theorem dX7_goesOn_250 : decode cX7_goesOn 250 = .ok (.goto (-53), 3) := by decide +kernel
theorem dX7_goesOn_253 : decode cX7_goesOn 253 = .ok (.iconst 0, 1) := by decide +kernel
theorem dX7_goesOn_254 : decode cX7_goesOn 254 = .ok (.istore 4, 2) := by decide +kernel
theorem dX7_goesOn_256 : decode cX7_goesOn 256 = .ok (.iload 4, 2) := by decide +kernel
theorem dX7_goesOn_258 : decode cX7_goesOn 258 = .ok (.aload_n 0, 1) := by decide +kernel
theorem dX7_goesOn_259 : decode cX7_goesOn 259 = .ok (.getfield 7, 3) := by decide +kernel
theorem dX7_goesOn_262 : decode cX7_goesOn 262 = .ok (.iconst 0, 1) := by decide +kernel
theorem dX7_goesOn_263 : decode cX7_goesOn 263 = .ok (.iaload, 1) := by decide +kernel
theorem dX7_goesOn_264 : decode cX7_goesOn 264 = .ok (.if_icmp .ge 19, 3) := by decide +kernel
theorem dX7_goesOn_267 : decode cX7_goesOn 267 = .ok (.iload_n 2, 1) := by decide +kernel
theorem dX7_goesOn_268 : decode cX7_goesOn 268 = .ok (.aload_n 0, 1) := by decide +kernel
theorem dX7_goesOn_269 : decode cX7_goesOn 269 = .ok (.iload 4, 2) := by decide +kernel
theorem dX7_goesOn_271 : decode cX7_goesOn 271 = .ok (.iconst 5, 1) := by decide +kernel
theorem dX7_goesOn_272 : decode cX7_goesOn 272 = .ok (.invokevirtual 75, 3) := by decide +kernel
theorem dX7_goesOn_275 : decode cX7_goesOn 275 = .ok (.iadd, 1) := by decide +kernel
theorem dX7_goesOn_276 : decode cX7_goesOn 276 = .ok (.istore_n 2, 1) := by decide +kernel
theorem dX7_goesOn_277 : decode cX7_goesOn 277 = .ok (.iinc 4 1, 3) := by decide +kernel
theorem dX7_goesOn_280 : decode cX7_goesOn 280 = .ok (.goto (-24), 3) := by decide +kernel
theorem dX7_goesOn_283 : decode cX7_goesOn 283 = .ok (.aload_n 0, 1) := by decide +kernel
theorem dX7_goesOn_284 : decode cX7_goesOn 284 = .ok (.getfield 7, 3) := by decide +kernel
theorem dX7_goesOn_287 : decode cX7_goesOn 287 = .ok (.iconst 3, 1) := by decide +kernel
theorem dX7_goesOn_288 : decode cX7_goesOn 288 = .ok (.dup2, 1) := by decide +kernel
theorem dX7_goesOn_289 : decode cX7_goesOn 289 = .ok (.iaload, 1) := by decide +kernel
theorem dX7_goesOn_290 : decode cX7_goesOn 290 = .ok (.iload_n 2, 1) := by decide +kernel
theorem dX7_goesOn_291 : decode cX7_goesOn 291 = .ok (.iadd, 1) := by decide +kernel
theorem dX7_goesOn_292 : decode cX7_goesOn 292 = .ok (.iastore, 1) := by decide +kernel
theorem dX7_goesOn_293 : decode cX7_goesOn 293 = .ok (.aload_n 0, 1) := by decide +kernel
theorem dX7_goesOn_294 : decode cX7_goesOn 294 = .ok (.getfield 7, 3) := by decide +kernel
theorem dX7_goesOn_297 : decode cX7_goesOn 297 = .ok (.iconst 2, 1) := by decide +kernel
theorem dX7_goesOn_298 : decode cX7_goesOn 298 = .ok (.dup2, 1) := by decide +kernel
theorem dX7_goesOn_299 : decode cX7_goesOn 299 = .ok (.iaload, 1) := by decide +kernel
theorem dX7_goesOn_300 : decode cX7_goesOn 300 = .ok (.iconst 1, 1) := by decide +kernel
theorem dX7_goesOn_301 : decode cX7_goesOn 301 = .ok (.iadd, 1) := by decide +kernel
theorem dX7_goesOn_302 : decode cX7_goesOn 302 = .ok (.iastore, 1) := by decide +kernel
theorem dX7_goesOn_303 : decode cX7_goesOn 303 = .ok (.return_, 1) := by decide +kernel
theorem dX7_days_0 : decode cX7_days 0 = .ok (.iload_n 1, 1) := by decide +kernel
theorem dX7_days_1 : decode cX7_days 1 = .ok (.i2l, 1) := by decide +kernel
theorem dX7_days_2 : decode cX7_days 2 = .ok (.lconst 1, 1) := by decide +kernel
theorem dX7_days_3 : decode cX7_days 3 = .ok (.ldc2_w 170, 3) := by decide +kernel
theorem dX7_days_6 : decode cX7_days 6 = .ok (.invokestatic 71, 3) := by decide +kernel
theorem dX7_days_9 : decode cX7_days 9 = .ok (.ifCond .ne 6, 3) := by decide +kernel
theorem dX7_days_12 : decode cX7_days 12 = .ok (.ldc 100, 2) := by decide +kernel
theorem dX7_days_14 : decode cX7_days 14 = .ok (.ireturn, 1) := by decide +kernel
theorem dX7_days_15 : decode cX7_days 15 = .ok (.aload_n 0, 1) := by decide +kernel
theorem dX7_days_16 : decode cX7_days 16 = .ok (.invokevirtual 123, 3) := by decide +kernel
theorem dX7_days_19 : decode cX7_days 19 = .ok (.invokestatic 157, 3) := by decide +kernel
theorem dX7_days_22 : decode cX7_days 22 = .ok (.istore_n 2, 1) := by decide +kernel
theorem dX7_days_23 : decode cX7_days 23 = .ok (.iconst 0, 1) := by decide +kernel
theorem dX7_days_24 : decode cX7_days 24 = .ok (.istore_n 3, 1) := by decide +kernel
theorem dX7_days_25 : decode cX7_days 25 = .ok (.iload_n 3, 1) := by decide +kernel
theorem dX7_days_26 : decode cX7_days 26 = .ok (.iload_n 1, 1) := by decide +kernel
theorem dX7_days_27 : decode cX7_days 27 = .ok (.if_icmp .ge 25, 3) := by decide +kernel
theorem dX7_days_30 : decode cX7_days 30 = .ok (.aload_n 0, 1) := by decide +kernel
theorem dX7_days_31 : decode cX7_days 31 = .ok (.getfield 7, 3) := by decide +kernel
theorem dX7_days_34 : decode cX7_days 34 = .ok (.iconst 2, 1) := by decide +kernel
theorem dX7_days_35 : decode cX7_days 35 = .ok (.iaload, 1) := by decide +kernel
theorem dX7_days_36 : decode cX7_days 36 = .ok (.sipush 9999, 3) := by decide +kernel
theorem dX7_days_39 : decode cX7_days 39 = .ok (.if_icmp .ge 13, 3) := by decide +kernel
theorem dX7_days_42 : decode cX7_days 42 = .ok (.aload_n 0, 1) := by decide +kernel
theorem dX7_days_43 : decode cX7_days 43 = .ok (.invokevirtual 172, 3) := by decide +kernel
theorem dX7_days_46 : decode cX7_days 46 = .ok (.iinc 3 1, 3) := by decide +kernel
theorem dX7_days_49 : decode cX7_days 49 = .ok (.goto (-24), 3) := by decide +kernel
theorem dX7_days_52 : decode cX7_days 52 = .ok (.iload_n 2, 1) := by decide +kernel
theorem dX7_days_53 : decode cX7_days 53 = .ok (.aload_n 0, 1) := by decide +kernel
theorem dX7_days_54 : decode cX7_days 54 = .ok (.invokevirtual 123, 3) := by decide +kernel
theorem dX7_days_57 : decode cX7_days 57 = .ok (.invokestatic 157, 3) := by decide +kernel
theorem dX7_days_60 : decode cX7_days 60 = .ok (.isub, 1) := by decide +kernel
theorem dX7_days_61 : decode cX7_days 61 = .ok (.ireturn, 1) := by decide +kernel
theorem dX7_allOf_0 : decode cX7_allOf 0 = .ok (.iconst 0, 1) := by decide +kernel
theorem dX7_allOf_1 : decode cX7_allOf 1 = .ok (.istore_n 2, 1) := by decide +kernel
theorem dX7_allOf_2 : decode cX7_allOf 2 = .ok (.iconst 0, 1) := by decide +kernel
theorem dX7_allOf_3 : decode cX7_allOf 3 = .ok (.istore_n 3, 1) := by decide +kernel
theorem dX7_allOf_4 : decode cX7_allOf 4 = .ok (.iload_n 3, 1) := by decide +kernel
theorem dX7_allOf_5 : decode cX7_allOf 5 = .ok (.aload_n 0, 1) := by decide +kernel
theorem dX7_allOf_6 : decode cX7_allOf 6 = .ok (.getfield 7, 3) := by decide +kernel
theorem dX7_allOf_9 : decode cX7_allOf 9 = .ok (.iconst 0, 1) := by decide +kernel
theorem dX7_allOf_10 : decode cX7_allOf 10 = .ok (.iaload, 1) := by decide +kernel
theorem dX7_allOf_11 : decode cX7_allOf 11 = .ok (.if_icmp .ge 18, 3) := by decide +kernel
theorem dX7_allOf_14 : decode cX7_allOf 14 = .ok (.iload_n 2, 1) := by decide +kernel
theorem dX7_allOf_15 : decode cX7_allOf 15 = .ok (.aload_n 0, 1) := by decide +kernel
theorem dX7_allOf_16 : decode cX7_allOf 16 = .ok (.iload_n 3, 1) := by decide +kernel
theorem dX7_allOf_17 : decode cX7_allOf 17 = .ok (.iload_n 1, 1) := by decide +kernel
theorem dX7_allOf_18 : decode cX7_allOf 18 = .ok (.invokevirtual 75, 3) := by decide +kernel
theorem dX7_allOf_21 : decode cX7_allOf 21 = .ok (.iadd, 1) := by decide +kernel
theorem dX7_allOf_22 : decode cX7_allOf 22 = .ok (.istore_n 2, 1) := by decide +kernel
theorem dX7_allOf_23 : decode cX7_allOf 23 = .ok (.iinc 3 1, 3) := by decide +kernel
theorem dX7_allOf_26 : decode cX7_allOf 26 = .ok (.goto (-22), 3) := by decide +kernel
theorem dX7_allOf_29 : decode cX7_allOf 29 = .ok (.iload_n 2, 1) := by decide +kernel
theorem dX7_allOf_30 : decode cX7_allOf 30 = .ok (.ireturn, 1) := by decide +kernel
theorem dX7_looseOnes_0 : decode cX7_looseOnes 0 = .ok (.iconst 0, 1) := by decide +kernel
theorem dX7_looseOnes_1 : decode cX7_looseOnes 1 = .ok (.istore_n 1, 1) := by decide +kernel
theorem dX7_looseOnes_2 : decode cX7_looseOnes 2 = .ok (.iconst 0, 1) := by decide +kernel
theorem dX7_looseOnes_3 : decode cX7_looseOnes 3 = .ok (.istore_n 2, 1) := by decide +kernel
theorem dX7_looseOnes_4 : decode cX7_looseOnes 4 = .ok (.iload_n 2, 1) := by decide +kernel
theorem dX7_looseOnes_5 : decode cX7_looseOnes 5 = .ok (.aload_n 0, 1) := by decide +kernel
theorem dX7_looseOnes_6 : decode cX7_looseOnes 6 = .ok (.getfield 7, 3) := by decide +kernel
theorem dX7_looseOnes_9 : decode cX7_looseOnes 9 = .ok (.iconst 0, 1) := by decide +kernel
theorem dX7_looseOnes_10 : decode cX7_looseOnes 10 = .ok (.iaload, 1) := by decide +kernel
theorem dX7_looseOnes_11 : decode cX7_looseOnes 11 = .ok (.if_icmp .ge 44, 3) := by decide +kernel
theorem dX7_looseOnes_14 : decode cX7_looseOnes 14 = .ok (.iload_n 1, 1) := by decide +kernel
theorem dX7_looseOnes_15 : decode cX7_looseOnes 15 = .ok (.aload_n 0, 1) := by decide +kernel
theorem dX7_looseOnes_16 : decode cX7_looseOnes 16 = .ok (.iload_n 2, 1) := by decide +kernel
theorem dX7_looseOnes_17 : decode cX7_looseOnes 17 = .ok (.invokevirtual 119, 3) := by decide +kernel
theorem dX7_looseOnes_20 : decode cX7_looseOnes 20 = .ok (.ifCond .eq 26, 3) := by decide +kernel
theorem dX7_looseOnes_23 : decode cX7_looseOnes 23 = .ok (.aload_n 0, 1) := by decide +kernel
theorem dX7_looseOnes_24 : decode cX7_looseOnes 24 = .ok (.iload_n 2, 1) := by decide +kernel
theorem dX7_looseOnes_25 : decode cX7_looseOnes 25 = .ok (.invokevirtual 139, 3) := by decide +kernel
theorem dX7_looseOnes_28 : decode cX7_looseOnes 28 = .ok (.iconst 0, 1) := by decide +kernel
theorem dX7_looseOnes_29 : decode cX7_looseOnes 29 = .ok (.invokestatic 106, 3) := by decide +kernel
theorem dX7_looseOnes_32 : decode cX7_looseOnes 32 = .ok (.aload_n 0, 1) := by decide +kernel
theorem dX7_looseOnes_33 : decode cX7_looseOnes 33 = .ok (.iload_n 2, 1) := by decide +kernel
theorem dX7_looseOnes_34 : decode cX7_looseOnes 34 = .ok (.invokevirtual 136, 3) := by decide +kernel
theorem dX7_looseOnes_37 : decode cX7_looseOnes 37 = .ok (.if_icmp .le 9, 3) := by decide +kernel
theorem dX7_looseOnes_40 : decode cX7_looseOnes 40 = .ok (.iconst 1, 1) := by decide +kernel
theorem dX7_looseOnes_41 : decode cX7_looseOnes 41 = .ok (.iload_n 2, 1) := by decide +kernel
theorem dX7_looseOnes_42 : decode cX7_looseOnes 42 = .ok (.ishl, 1) := by decide +kernel
theorem dX7_looseOnes_43 : decode cX7_looseOnes 43 = .ok (.goto 4, 3) := by decide +kernel
theorem dX7_looseOnes_46 : decode cX7_looseOnes 46 = .ok (.iconst 0, 1) := by decide +kernel
theorem dX7_looseOnes_47 : decode cX7_looseOnes 47 = .ok (.ior, 1) := by decide +kernel
theorem dX7_looseOnes_48 : decode cX7_looseOnes 48 = .ok (.istore_n 1, 1) := by decide +kernel
theorem dX7_looseOnes_49 : decode cX7_looseOnes 49 = .ok (.iinc 2 1, 3) := by decide +kernel
theorem dX7_looseOnes_52 : decode cX7_looseOnes 52 = .ok (.goto (-48), 3) := by decide +kernel
theorem dX7_looseOnes_55 : decode cX7_looseOnes 55 = .ok (.iload_n 1, 1) := by decide +kernel
theorem dX7_looseOnes_56 : decode cX7_looseOnes 56 = .ok (.ireturn, 1) := by decide +kernel
theorem dX7_street_0 : decode cX7_street 0 = .ok (.iload_n 1, 1) := by decide +kernel
theorem dX7_street_1 : decode cX7_street 1 = .ok (.tableswitch 64 0 4 #[35, 42, 47, 53, 59], 35) := by decide +kernel
theorem dX7_street_36 : decode cX7_street 36 = .ok (.aload_n 0, 1) := by decide +kernel
theorem dX7_street_37 : decode cX7_street 37 = .ok (.getfield 7, 3) := by decide +kernel
theorem dX7_street_40 : decode cX7_street 40 = .ok (.iconst 3, 1) := by decide +kernel
theorem dX7_street_41 : decode cX7_street 41 = .ok (.iaload, 1) := by decide +kernel
theorem dX7_street_42 : decode cX7_street 42 = .ok (.ireturn, 1) := by decide +kernel
theorem dX7_street_43 : decode cX7_street 43 = .ok (.aload_n 0, 1) := by decide +kernel
theorem dX7_street_44 : decode cX7_street 44 = .ok (.invokevirtual 123, 3) := by decide +kernel
theorem dX7_street_47 : decode cX7_street 47 = .ok (.ireturn, 1) := by decide +kernel
theorem dX7_street_48 : decode cX7_street 48 = .ok (.aload_n 0, 1) := by decide +kernel
theorem dX7_street_49 : decode cX7_street 49 = .ok (.iconst 4, 1) := by decide +kernel
theorem dX7_street_50 : decode cX7_street 50 = .ok (.invokevirtual 175, 3) := by decide +kernel
theorem dX7_street_53 : decode cX7_street 53 = .ok (.ireturn, 1) := by decide +kernel
theorem dX7_street_54 : decode cX7_street 54 = .ok (.aload_n 0, 1) := by decide +kernel
theorem dX7_street_55 : decode cX7_street 55 = .ok (.iconst 5, 1) := by decide +kernel
theorem dX7_street_56 : decode cX7_street 56 = .ok (.invokevirtual 175, 3) := by decide +kernel
theorem dX7_street_59 : decode cX7_street 59 = .ok (.ireturn, 1) := by decide +kernel
theorem dX7_street_60 : decode cX7_street 60 = .ok (.aload_n 0, 1) := by decide +kernel
theorem dX7_street_61 : decode cX7_street 61 = .ok (.invokevirtual 178, 3) := by decide +kernel
theorem dX7_street_64 : decode cX7_street 64 = .ok (.ireturn, 1) := by decide +kernel
theorem dX7_street_65 : decode cX7_street 65 = .ok (.ldc 100, 2) := by decide +kernel
theorem dX7_street_67 : decode cX7_street 67 = .ok (.ireturn, 1) := by decide +kernel
theorem dX7_laysBy_0 : decode cX7_laysBy 0 = .ok (.iconst 0, 1) := by decide +kernel
theorem dX7_laysBy_1 : decode cX7_laysBy 1 = .ok (.istore_n 1, 1) := by decide +kernel
theorem dX7_laysBy_2 : decode cX7_laysBy 2 = .ok (.iload_n 1, 1) := by decide +kernel
theorem dX7_laysBy_3 : decode cX7_laysBy 3 = .ok (.bipush 69, 2) := by decide +kernel
theorem dX7_laysBy_5 : decode cX7_laysBy 5 = .ok (.if_icmp .ge 21, 3) := by decide +kernel
theorem dX7_laysBy_8 : decode cX7_laysBy 8 = .ok (.aload_n 0, 1) := by decide +kernel
theorem dX7_laysBy_9 : decode cX7_laysBy 9 = .ok (.getfield 49, 3) := by decide +kernel
theorem dX7_laysBy_12 : decode cX7_laysBy 12 = .ok (.iload_n 1, 1) := by decide +kernel
theorem dX7_laysBy_13 : decode cX7_laysBy 13 = .ok (.aload_n 0, 1) := by decide +kernel
theorem dX7_laysBy_14 : decode cX7_laysBy 14 = .ok (.getfield 7, 3) := by decide +kernel
theorem dX7_laysBy_17 : decode cX7_laysBy 17 = .ok (.iload_n 1, 1) := by decide +kernel
theorem dX7_laysBy_18 : decode cX7_laysBy 18 = .ok (.iaload, 1) := by decide +kernel
theorem dX7_laysBy_19 : decode cX7_laysBy 19 = .ok (.iastore, 1) := by decide +kernel
theorem dX7_laysBy_20 : decode cX7_laysBy 20 = .ok (.iinc 1 1, 3) := by decide +kernel
theorem dX7_laysBy_23 : decode cX7_laysBy 23 = .ok (.goto (-21), 3) := by decide +kernel
theorem dX7_laysBy_26 : decode cX7_laysBy 26 = .ok (.return_, 1) := by decide +kernel
theorem dX7_laysBack_0 : decode cX7_laysBack 0 = .ok (.iconst 0, 1) := by decide +kernel
theorem dX7_laysBack_1 : decode cX7_laysBack 1 = .ok (.istore_n 1, 1) := by decide +kernel
theorem dX7_laysBack_2 : decode cX7_laysBack 2 = .ok (.iload_n 1, 1) := by decide +kernel
theorem dX7_laysBack_3 : decode cX7_laysBack 3 = .ok (.bipush 69, 2) := by decide +kernel
theorem dX7_laysBack_5 : decode cX7_laysBack 5 = .ok (.if_icmp .ge 21, 3) := by decide +kernel
theorem dX7_laysBack_8 : decode cX7_laysBack 8 = .ok (.aload_n 0, 1) := by decide +kernel
theorem dX7_laysBack_9 : decode cX7_laysBack 9 = .ok (.getfield 7, 3) := by decide +kernel
theorem dX7_laysBack_12 : decode cX7_laysBack 12 = .ok (.iload_n 1, 1) := by decide +kernel
theorem dX7_laysBack_13 : decode cX7_laysBack 13 = .ok (.aload_n 0, 1) := by decide +kernel
theorem dX7_laysBack_14 : decode cX7_laysBack 14 = .ok (.getfield 49, 3) := by decide +kernel
theorem dX7_laysBack_17 : decode cX7_laysBack 17 = .ok (.iload_n 1, 1) := by decide +kernel
theorem dX7_laysBack_18 : decode cX7_laysBack 18 = .ok (.iaload, 1) := by decide +kernel
theorem dX7_laysBack_19 : decode cX7_laysBack 19 = .ok (.iastore, 1) := by decide +kernel
theorem dX7_laysBack_20 : decode cX7_laysBack 20 = .ok (.iinc 1 1, 3) := by decide +kernel
theorem dX7_laysBack_23 : decode cX7_laysBack 23 = .ok (.goto (-21), 3) := by decide +kernel
end
section
theorem dX7_laysBack_26 : decode cX7_laysBack 26 = .ok (.return_, 1) := by decide +kernel
theorem dX7_goesOnMany_0 : decode cX7_goesOnMany 0 = .ok (.iconst 0, 1) := by decide +kernel
theorem dX7_goesOnMany_1 : decode cX7_goesOnMany 1 = .ok (.istore_n 2, 1) := by decide +kernel
theorem dX7_goesOnMany_2 : decode cX7_goesOnMany 2 = .ok (.iload_n 2, 1) := by decide +kernel
theorem dX7_goesOnMany_3 : decode cX7_goesOnMany 3 = .ok (.iload_n 1, 1) := by decide +kernel
theorem dX7_goesOnMany_4 : decode cX7_goesOnMany 4 = .ok (.if_icmp .ge 13, 3) := by decide +kernel
theorem dX7_goesOnMany_7 : decode cX7_goesOnMany 7 = .ok (.aload_n 0, 1) := by decide +kernel
theorem dX7_goesOnMany_8 : decode cX7_goesOnMany 8 = .ok (.invokevirtual 172, 3) := by decide +kernel
theorem dX7_goesOnMany_11 : decode cX7_goesOnMany 11 = .ok (.iinc 2 1, 3) := by decide +kernel
theorem dX7_goesOnMany_14 : decode cX7_goesOnMany 14 = .ok (.goto (-12), 3) := by decide +kernel
theorem dX7_goesOnMany_17 : decode cX7_goesOnMany 17 = .ok (.return_, 1) := by decide +kernel
theorem dX7_behind_0 : decode cX7_behind 0 = .ok (.iload_n 1, 1) := by decide +kernel
theorem dX7_behind_1 : decode cX7_behind 1 = .ok (.i2l, 1) := by decide +kernel
theorem dX7_behind_2 : decode cX7_behind 2 = .ok (.lconst 0, 1) := by decide +kernel
theorem dX7_behind_3 : decode cX7_behind 3 = .ok (.ldc2_w 170, 3) := by decide +kernel
theorem dX7_behind_6 : decode cX7_behind 6 = .ok (.invokestatic 71, 3) := by decide +kernel
theorem dX7_behind_9 : decode cX7_behind 9 = .ok (.ifCond .eq 21, 3) := by decide +kernel
theorem dX7_behind_12 : decode cX7_behind 12 = .ok (.iload_n 2, 1) := by decide +kernel
theorem dX7_behind_13 : decode cX7_behind 13 = .ok (.i2l, 1) := by decide +kernel
theorem dX7_behind_14 : decode cX7_behind 14 = .ok (.lconst 0, 1) := by decide +kernel
theorem dX7_behind_15 : decode cX7_behind 15 = .ok (.iconst 2, 1) := by decide +kernel
theorem dX7_behind_16 : decode cX7_behind 16 = .ok (.aload_n 0, 1) := by decide +kernel
theorem dX7_behind_17 : decode cX7_behind 17 = .ok (.getfield 7, 3) := by decide +kernel
theorem dX7_behind_20 : decode cX7_behind 20 = .ok (.iconst 0, 1) := by decide +kernel
theorem dX7_behind_21 : decode cX7_behind 21 = .ok (.iaload, 1) := by decide +kernel
theorem dX7_behind_22 : decode cX7_behind 22 = .ok (.iadd, 1) := by decide +kernel
theorem dX7_behind_23 : decode cX7_behind 23 = .ok (.i2l, 1) := by decide +kernel
theorem dX7_behind_24 : decode cX7_behind 24 = .ok (.invokestatic 71, 3) := by decide +kernel
theorem dX7_behind_27 : decode cX7_behind 27 = .ok (.ifCond .ne 6, 3) := by decide +kernel
theorem dX7_behind_30 : decode cX7_behind 30 = .ok (.ldc 100, 2) := by decide +kernel
theorem dX7_behind_32 : decode cX7_behind 32 = .ok (.ireturn, 1) := by decide +kernel
theorem dX7_behind_33 : decode cX7_behind 33 = .ok (.aload_n 0, 1) := by decide +kernel
theorem dX7_behind_34 : decode cX7_behind 34 = .ok (.invokevirtual 181, 3) := by decide +kernel
theorem dX7_behind_37 : decode cX7_behind 37 = .ok (.aload_n 0, 1) := by decide +kernel
theorem dX7_behind_38 : decode cX7_behind 38 = .ok (.iload_n 1, 1) := by decide +kernel
theorem dX7_behind_39 : decode cX7_behind 39 = .ok (.invokevirtual 184, 3) := by decide +kernel
theorem dX7_behind_42 : decode cX7_behind 42 = .ok (.iload_n 2, 1) := by decide +kernel
theorem dX7_behind_43 : decode cX7_behind 43 = .ok (.ifCond .ne 10, 3) := by decide +kernel
theorem dX7_behind_46 : decode cX7_behind 46 = .ok (.aload_n 0, 1) := by decide +kernel
theorem dX7_behind_47 : decode cX7_behind 47 = .ok (.invokevirtual 123, 3) := by decide +kernel
theorem dX7_behind_50 : decode cX7_behind 50 = .ok (.goto 38, 3) := by decide +kernel
theorem dX7_behind_53 : decode cX7_behind 53 = .ok (.iload_n 2, 1) := by decide +kernel
theorem dX7_behind_54 : decode cX7_behind 54 = .ok (.iconst 1, 1) := by decide +kernel
theorem dX7_behind_55 : decode cX7_behind 55 = .ok (.if_icmp .ne 11, 3) := by decide +kernel
theorem dX7_behind_58 : decode cX7_behind 58 = .ok (.aload_n 0, 1) := by decide +kernel
theorem dX7_behind_59 : decode cX7_behind 59 = .ok (.iconst 4, 1) := by decide +kernel
theorem dX7_behind_60 : decode cX7_behind 60 = .ok (.invokevirtual 175, 3) := by decide +kernel
theorem dX7_behind_63 : decode cX7_behind 63 = .ok (.goto 25, 3) := by decide +kernel
theorem dX7_behind_66 : decode cX7_behind 66 = .ok (.iload_n 2, 1) := by decide +kernel
theorem dX7_behind_67 : decode cX7_behind 67 = .ok (.iconst 2, 1) := by decide +kernel
theorem dX7_behind_68 : decode cX7_behind 68 = .ok (.if_icmp .ne 12, 3) := by decide +kernel
theorem dX7_behind_71 : decode cX7_behind 71 = .ok (.aload_n 0, 1) := by decide +kernel
theorem dX7_behind_72 : decode cX7_behind 72 = .ok (.getfield 7, 3) := by decide +kernel
theorem dX7_behind_75 : decode cX7_behind 75 = .ok (.iconst 3, 1) := by decide +kernel
theorem dX7_behind_76 : decode cX7_behind 76 = .ok (.iaload, 1) := by decide +kernel
theorem dX7_behind_77 : decode cX7_behind 77 = .ok (.goto 11, 3) := by decide +kernel
theorem dX7_behind_80 : decode cX7_behind 80 = .ok (.aload_n 0, 1) := by decide +kernel
theorem dX7_behind_81 : decode cX7_behind 81 = .ok (.iload_n 2, 1) := by decide +kernel
theorem dX7_behind_82 : decode cX7_behind 82 = .ok (.iconst 3, 1) := by decide +kernel
theorem dX7_behind_83 : decode cX7_behind 83 = .ok (.isub, 1) := by decide +kernel
theorem dX7_behind_84 : decode cX7_behind 84 = .ok (.iconst 2, 1) := by decide +kernel
theorem dX7_behind_85 : decode cX7_behind 85 = .ok (.invokevirtual 75, 3) := by decide +kernel
theorem dX7_behind_88 : decode cX7_behind 88 = .ok (.istore_n 3, 1) := by decide +kernel
theorem dX7_behind_89 : decode cX7_behind 89 = .ok (.aload_n 0, 1) := by decide +kernel
theorem dX7_behind_90 : decode cX7_behind 90 = .ok (.invokevirtual 187, 3) := by decide +kernel
theorem dX7_behind_93 : decode cX7_behind 93 = .ok (.iload_n 3, 1) := by decide +kernel
theorem dX7_behind_94 : decode cX7_behind 94 = .ok (.ireturn, 1) := by decide +kernel
theorem dX7_lasts_0 : decode cX7_lasts 0 = .ok (.aload_n 0, 1) := by decide +kernel
theorem dX7_lasts_1 : decode cX7_lasts 1 = .ok (.invokevirtual 181, 3) := by decide +kernel
theorem dX7_lasts_4 : decode cX7_lasts 4 = .ok (.aload_n 0, 1) := by decide +kernel
theorem dX7_lasts_5 : decode cX7_lasts 5 = .ok (.invokevirtual 123, 3) := by decide +kernel
theorem dX7_lasts_8 : decode cX7_lasts 8 = .ok (.istore_n 1, 1) := by decide +kernel
theorem dX7_lasts_9 : decode cX7_lasts 9 = .ok (.iconst (-1), 1) := by decide +kernel
theorem dX7_lasts_10 : decode cX7_lasts 10 = .ok (.istore_n 2, 1) := by decide +kernel
theorem dX7_lasts_11 : decode cX7_lasts 11 = .ok (.iconst 1, 1) := by decide +kernel
theorem dX7_lasts_12 : decode cX7_lasts 12 = .ok (.istore_n 3, 1) := by decide +kernel
theorem dX7_lasts_13 : decode cX7_lasts 13 = .ok (.iload_n 3, 1) := by decide +kernel
theorem dX7_lasts_14 : decode cX7_lasts 14 = .ok (.sipush 300, 3) := by decide +kernel
theorem dX7_lasts_17 : decode cX7_lasts 17 = .ok (.if_icmp .gt 31, 3) := by decide +kernel
theorem dX7_lasts_20 : decode cX7_lasts 20 = .ok (.iload_n 2, 1) := by decide +kernel
theorem dX7_lasts_21 : decode cX7_lasts 21 = .ok (.ifCond .ge 27, 3) := by decide +kernel
theorem dX7_lasts_24 : decode cX7_lasts 24 = .ok (.aload_n 0, 1) := by decide +kernel
theorem dX7_lasts_25 : decode cX7_lasts 25 = .ok (.invokevirtual 172, 3) := by decide +kernel
theorem dX7_lasts_28 : decode cX7_lasts 28 = .ok (.aload_n 0, 1) := by decide +kernel
theorem dX7_lasts_29 : decode cX7_lasts 29 = .ok (.invokevirtual 123, 3) := by decide +kernel
theorem dX7_lasts_32 : decode cX7_lasts 32 = .ok (.iload_n 1, 1) := by decide +kernel
theorem dX7_lasts_33 : decode cX7_lasts 33 = .ok (.if_icmp .eq 7, 3) := by decide +kernel
theorem dX7_lasts_36 : decode cX7_lasts 36 = .ok (.iload_n 3, 1) := by decide +kernel
theorem dX7_lasts_37 : decode cX7_lasts 37 = .ok (.goto 4, 3) := by decide +kernel
theorem dX7_lasts_40 : decode cX7_lasts 40 = .ok (.iconst (-1), 1) := by decide +kernel
theorem dX7_lasts_41 : decode cX7_lasts 41 = .ok (.istore_n 2, 1) := by decide +kernel
theorem dX7_lasts_42 : decode cX7_lasts 42 = .ok (.iinc 3 1, 3) := by decide +kernel
theorem dX7_lasts_45 : decode cX7_lasts 45 = .ok (.goto (-32), 3) := by decide +kernel
theorem dX7_lasts_48 : decode cX7_lasts 48 = .ok (.aload_n 0, 1) := by decide +kernel
theorem dX7_lasts_49 : decode cX7_lasts 49 = .ok (.invokevirtual 187, 3) := by decide +kernel
theorem dX7_lasts_52 : decode cX7_lasts 52 = .ok (.iload_n 2, 1) := by decide +kernel
theorem dX7_lasts_53 : decode cX7_lasts 53 = .ok (.invokestatic 190, 3) := by decide +kernel
theorem dX7_lasts_56 : decode cX7_lasts 56 = .ok (.ireturn, 1) := by decide +kernel
theorem dX7_taken_0 : decode cX7_taken 0 = .ok (.aload_n 0, 1) := by decide +kernel
theorem dX7_taken_1 : decode cX7_taken 1 = .ok (.iload_n 1, 1) := by decide +kernel
theorem dX7_taken_2 : decode cX7_taken 2 = .ok (.invokevirtual 133, 3) := by decide +kernel
theorem dX7_taken_5 : decode cX7_taken 5 = .ok (.ifCond .eq 15, 3) := by decide +kernel
theorem dX7_taken_8 : decode cX7_taken 8 = .ok (.iload_n 2, 1) := by decide +kernel
theorem dX7_taken_9 : decode cX7_taken 9 = .ok (.i2l, 1) := by decide +kernel
theorem dX7_taken_10 : decode cX7_taken 10 = .ok (.lconst 1, 1) := by decide +kernel
theorem dX7_taken_11 : decode cX7_taken 11 = .ok (.ldc2_w 193, 3) := by decide +kernel
theorem dX7_taken_14 : decode cX7_taken 14 = .ok (.invokestatic 71, 3) := by decide +kernel
theorem dX7_taken_17 : decode cX7_taken 17 = .ok (.ifCond .ne 6, 3) := by decide +kernel
theorem dX7_taken_20 : decode cX7_taken 20 = .ok (.ldc 100, 2) := by decide +kernel
theorem dX7_taken_22 : decode cX7_taken 22 = .ok (.ireturn, 1) := by decide +kernel
theorem dX7_taken_23 : decode cX7_taken 23 = .ok (.aload_n 0, 1) := by decide +kernel
theorem dX7_taken_24 : decode cX7_taken 24 = .ok (.iload_n 1, 1) := by decide +kernel
theorem dX7_taken_25 : decode cX7_taken 25 = .ok (.invokevirtual 119, 3) := by decide +kernel
theorem dX7_taken_28 : decode cX7_taken 28 = .ok (.ifCond .ne 6, 3) := by decide +kernel
theorem dX7_taken_31 : decode cX7_taken 31 = .ok (.ldc 152, 2) := by decide +kernel
theorem dX7_taken_33 : decode cX7_taken 33 = .ok (.ireturn, 1) := by decide +kernel
theorem dX7_taken_34 : decode cX7_taken 34 = .ok (.aload_n 0, 1) := by decide +kernel
theorem dX7_taken_35 : decode cX7_taken 35 = .ok (.invokevirtual 181, 3) := by decide +kernel
theorem dX7_taken_38 : decode cX7_taken 38 = .ok (.aload_n 0, 1) := by decide +kernel
theorem dX7_taken_39 : decode cX7_taken 39 = .ok (.iload_n 2, 1) := by decide +kernel
theorem dX7_taken_40 : decode cX7_taken 40 = .ok (.invokevirtual 184, 3) := by decide +kernel
theorem dX7_taken_43 : decode cX7_taken 43 = .ok (.aload_n 0, 1) := by decide +kernel
theorem dX7_taken_44 : decode cX7_taken 44 = .ok (.invokevirtual 123, 3) := by decide +kernel
theorem dX7_taken_47 : decode cX7_taken 47 = .ok (.istore_n 3, 1) := by decide +kernel
theorem dX7_taken_48 : decode cX7_taken 48 = .ok (.aload_n 0, 1) := by decide +kernel
theorem dX7_taken_49 : decode cX7_taken 49 = .ok (.invokevirtual 187, 3) := by decide +kernel
theorem dX7_taken_52 : decode cX7_taken 52 = .ok (.aload_n 0, 1) := by decide +kernel
theorem dX7_taken_53 : decode cX7_taken 53 = .ok (.iload_n 1, 1) := by decide +kernel
theorem dX7_taken_54 : decode cX7_taken 54 = .ok (.invokevirtual 153, 3) := by decide +kernel
theorem dX7_taken_57 : decode cX7_taken 57 = .ok (.aload_n 0, 1) := by decide +kernel
theorem dX7_taken_58 : decode cX7_taken 58 = .ok (.iload_n 2, 1) := by decide +kernel
theorem dX7_taken_59 : decode cX7_taken 59 = .ok (.invokevirtual 184, 3) := by decide +kernel
theorem dX7_taken_62 : decode cX7_taken 62 = .ok (.iload_n 3, 1) := by decide +kernel
theorem dX7_taken_63 : decode cX7_taken 63 = .ok (.aload_n 0, 1) := by decide +kernel
theorem dX7_taken_64 : decode cX7_taken 64 = .ok (.invokevirtual 123, 3) := by decide +kernel
theorem dX7_taken_67 : decode cX7_taken 67 = .ok (.iconst (-1), 1) := by decide +kernel
theorem dX7_taken_68 : decode cX7_taken 68 = .ok (.ixor, 1) := by decide +kernel
theorem dX7_taken_69 : decode cX7_taken 69 = .ok (.iand, 1) := by decide +kernel
theorem dX7_taken_70 : decode cX7_taken 70 = .ok (.iconst 1, 1) := by decide +kernel
theorem dX7_taken_71 : decode cX7_taken 71 = .ok (.iload_n 1, 1) := by decide +kernel
theorem dX7_taken_72 : decode cX7_taken 72 = .ok (.ishl, 1) := by decide +kernel
theorem dX7_taken_73 : decode cX7_taken 73 = .ok (.iconst (-1), 1) := by decide +kernel
theorem dX7_taken_74 : decode cX7_taken 74 = .ok (.ixor, 1) := by decide +kernel
theorem dX7_taken_75 : decode cX7_taken 75 = .ok (.iand, 1) := by decide +kernel
theorem dX7_taken_76 : decode cX7_taken 76 = .ok (.istore 4, 2) := by decide +kernel
theorem dX7_taken_78 : decode cX7_taken 78 = .ok (.aload_n 0, 1) := by decide +kernel
theorem dX7_taken_79 : decode cX7_taken 79 = .ok (.invokevirtual 187, 3) := by decide +kernel
theorem dX7_taken_82 : decode cX7_taken 82 = .ok (.iload 4, 2) := by decide +kernel
theorem dX7_taken_84 : decode cX7_taken 84 = .ok (.ireturn, 1) := by decide +kernel
theorem dX7_keeps_0 : decode cX7_keeps 0 = .ok (.aload_n 0, 1) := by decide +kernel
theorem dX7_keeps_1 : decode cX7_keeps 1 = .ok (.invokevirtual 123, 3) := by decide +kernel
theorem dX7_keeps_4 : decode cX7_keeps 4 = .ok (.istore_n 2, 1) := by decide +kernel
theorem dX7_keeps_5 : decode cX7_keeps 5 = .ok (.aload_n 0, 1) := by decide +kernel
theorem dX7_keeps_6 : decode cX7_keeps 6 = .ok (.iload_n 1, 1) := by decide +kernel
theorem dX7_keeps_7 : decode cX7_keeps 7 = .ok (.invokevirtual 184, 3) := by decide +kernel
theorem dX7_keeps_10 : decode cX7_keeps 10 = .ok (.aload_n 0, 1) := by decide +kernel
theorem dX7_keeps_11 : decode cX7_keeps 11 = .ok (.invokevirtual 123, 3) := by decide +kernel
theorem dX7_keeps_14 : decode cX7_keeps 14 = .ok (.iload_n 2, 1) := by decide +kernel
theorem dX7_keeps_15 : decode cX7_keeps 15 = .ok (.if_icmp .ne 7, 3) := by decide +kernel
theorem dX7_keeps_18 : decode cX7_keeps 18 = .ok (.iconst 1, 1) := by decide +kernel
theorem dX7_keeps_19 : decode cX7_keeps 19 = .ok (.goto 4, 3) := by decide +kernel
theorem dX7_keeps_22 : decode cX7_keeps 22 = .ok (.iconst 0, 1) := by decide +kernel
theorem dX7_keeps_23 : decode cX7_keeps 23 = .ok (.istore_n 3, 1) := by decide +kernel
theorem dX7_keeps_24 : decode cX7_keeps 24 = .ok (.aload_n 0, 1) := by decide +kernel
theorem dX7_keeps_25 : decode cX7_keeps 25 = .ok (.invokevirtual 187, 3) := by decide +kernel
theorem dX7_keeps_28 : decode cX7_keeps 28 = .ok (.iload_n 3, 1) := by decide +kernel
theorem dX7_keeps_29 : decode cX7_keeps 29 = .ok (.ireturn, 1) := by decide +kernel
theorem dX7_propped_0 : decode cX7_propped 0 = .ok (.iload_n 1, 1) := by decide +kernel
theorem dX7_propped_1 : decode cX7_propped 1 = .ok (.i2l, 1) := by decide +kernel
theorem dX7_propped_2 : decode cX7_propped 2 = .ok (.lconst 1, 1) := by decide +kernel
theorem dX7_propped_3 : decode cX7_propped 3 = .ok (.ldc2_w 195, 3) := by decide +kernel
theorem dX7_propped_6 : decode cX7_propped 6 = .ok (.invokestatic 71, 3) := by decide +kernel
theorem dX7_propped_9 : decode cX7_propped 9 = .ok (.ifCond .ne 6, 3) := by decide +kernel
theorem dX7_propped_12 : decode cX7_propped 12 = .ok (.ldc 100, 2) := by decide +kernel
theorem dX7_propped_14 : decode cX7_propped 14 = .ok (.ireturn, 1) := by decide +kernel
theorem dX7_propped_15 : decode cX7_propped 15 = .ok (.aload_n 0, 1) := by decide +kernel
theorem dX7_propped_16 : decode cX7_propped 16 = .ok (.invokevirtual 181, 3) := by decide +kernel
theorem dX7_propped_19 : decode cX7_propped 19 = .ok (.aload_n 0, 1) := by decide +kernel
theorem dX7_propped_20 : decode cX7_propped 20 = .ok (.iload_n 1, 1) := by decide +kernel
theorem dX7_propped_21 : decode cX7_propped 21 = .ok (.invokevirtual 197, 3) := by decide +kernel
theorem dX7_propped_24 : decode cX7_propped 24 = .ok (.ifCond .eq 5, 3) := by decide +kernel
theorem dX7_propped_27 : decode cX7_propped 27 = .ok (.iconst 0, 1) := by decide +kernel
theorem dX7_propped_28 : decode cX7_propped 28 = .ok (.ireturn, 1) := by decide +kernel
theorem dX7_propped_29 : decode cX7_propped 29 = .ok (.iconst 1, 1) := by decide +kernel
theorem dX7_propped_30 : decode cX7_propped 30 = .ok (.istore_n 2, 1) := by decide +kernel
theorem dX7_propped_31 : decode cX7_propped 31 = .ok (.iload_n 2, 1) := by decide +kernel
theorem dX7_propped_32 : decode cX7_propped 32 = .ok (.bipush 9, 2) := by decide +kernel
theorem dX7_propped_34 : decode cX7_propped 34 = .ok (.if_icmp .gt 69, 3) := by decide +kernel
theorem dX7_propped_37 : decode cX7_propped 37 = .ok (.iconst 0, 1) := by decide +kernel
theorem dX7_propped_38 : decode cX7_propped 38 = .ok (.istore_n 3, 1) := by decide +kernel
theorem dX7_propped_39 : decode cX7_propped 39 = .ok (.iload_n 3, 1) := by decide +kernel
theorem dX7_propped_40 : decode cX7_propped 40 = .ok (.aload_n 0, 1) := by decide +kernel
theorem dX7_propped_41 : decode cX7_propped 41 = .ok (.getfield 7, 3) := by decide +kernel
theorem dX7_propped_44 : decode cX7_propped 44 = .ok (.iconst 0, 1) := by decide +kernel
theorem dX7_propped_45 : decode cX7_propped 45 = .ok (.iaload, 1) := by decide +kernel
theorem dX7_propped_46 : decode cX7_propped 46 = .ok (.if_icmp .ge 51, 3) := by decide +kernel
theorem dX7_propped_49 : decode cX7_propped 49 = .ok (.aload_n 0, 1) := by decide +kernel
theorem dX7_propped_50 : decode cX7_propped 50 = .ok (.iload_n 3, 1) := by decide +kernel
theorem dX7_propped_51 : decode cX7_propped 51 = .ok (.iconst 5, 1) := by decide +kernel
theorem dX7_propped_52 : decode cX7_propped 52 = .ok (.invokevirtual 75, 3) := by decide +kernel
theorem dX7_propped_55 : decode cX7_propped 55 = .ok (.iload_n 2, 1) := by decide +kernel
theorem dX7_propped_56 : decode cX7_propped 56 = .ok (.iadd, 1) := by decide +kernel
theorem dX7_propped_57 : decode cX7_propped 57 = .ok (.bipush 9, 2) := by decide +kernel
theorem dX7_propped_59 : decode cX7_propped 59 = .ok (.if_icmp .gt 32, 3) := by decide +kernel
theorem dX7_propped_62 : decode cX7_propped 62 = .ok (.aload_n 0, 1) := by decide +kernel
theorem dX7_propped_63 : decode cX7_propped 63 = .ok (.iload_n 3, 1) := by decide +kernel
theorem dX7_propped_64 : decode cX7_propped 64 = .ok (.iconst 5, 1) := by decide +kernel
theorem dX7_propped_65 : decode cX7_propped 65 = .ok (.aload_n 0, 1) := by decide +kernel
theorem dX7_propped_66 : decode cX7_propped 66 = .ok (.iload_n 3, 1) := by decide +kernel
theorem dX7_propped_67 : decode cX7_propped 67 = .ok (.iconst 5, 1) := by decide +kernel
theorem dX7_propped_68 : decode cX7_propped 68 = .ok (.invokevirtual 75, 3) := by decide +kernel
theorem dX7_propped_71 : decode cX7_propped 71 = .ok (.iload_n 2, 1) := by decide +kernel
theorem dX7_propped_72 : decode cX7_propped 72 = .ok (.iadd, 1) := by decide +kernel
theorem dX7_propped_73 : decode cX7_propped 73 = .ok (.invokevirtual 80, 3) := by decide +kernel
theorem dX7_propped_76 : decode cX7_propped 76 = .ok (.aload_n 0, 1) := by decide +kernel
theorem dX7_propped_77 : decode cX7_propped 77 = .ok (.iload_n 1, 1) := by decide +kernel
theorem dX7_propped_78 : decode cX7_propped 78 = .ok (.invokevirtual 197, 3) := by decide +kernel
theorem dX7_propped_81 : decode cX7_propped 81 = .ok (.ifCond .eq 10, 3) := by decide +kernel
theorem dX7_propped_84 : decode cX7_propped 84 = .ok (.bipush 10, 2) := by decide +kernel
theorem dX7_propped_86 : decode cX7_propped 86 = .ok (.iload_n 3, 1) := by decide +kernel
theorem dX7_propped_87 : decode cX7_propped 87 = .ok (.imul, 1) := by decide +kernel
theorem dX7_propped_88 : decode cX7_propped 88 = .ok (.iload_n 2, 1) := by decide +kernel
theorem dX7_propped_89 : decode cX7_propped 89 = .ok (.iadd, 1) := by decide +kernel
theorem dX7_propped_90 : decode cX7_propped 90 = .ok (.ireturn, 1) := by decide +kernel
theorem dX7_propped_91 : decode cX7_propped 91 = .ok (.iinc 3 1, 3) := by decide +kernel
theorem dX7_propped_94 : decode cX7_propped 94 = .ok (.goto (-55), 3) := by decide +kernel
theorem dX7_propped_97 : decode cX7_propped 97 = .ok (.iinc 2 1, 3) := by decide +kernel
theorem dX7_propped_100 : decode cX7_propped 100 = .ok (.goto (-69), 3) := by decide +kernel
theorem dX7_propped_103 : decode cX7_propped 103 = .ok (.ldc 70, 2) := by decide +kernel
theorem dX7_propped_105 : decode cX7_propped 105 = .ok (.ireturn, 1) := by decide +kernel
theorem dX7_wall_0 : decode cX7_wall 0 = .ok (.iload_n 1, 1) := by decide +kernel
theorem dX7_wall_1 : decode cX7_wall 1 = .ok (.i2l, 1) := by decide +kernel
theorem dX7_wall_2 : decode cX7_wall 2 = .ok (.lconst 1, 1) := by decide +kernel
theorem dX7_wall_3 : decode cX7_wall 3 = .ok (.ldc2_w 193, 3) := by decide +kernel
theorem dX7_wall_6 : decode cX7_wall 6 = .ok (.invokestatic 71, 3) := by decide +kernel
theorem dX7_wall_9 : decode cX7_wall 9 = .ok (.ifCond .eq 13, 3) := by decide +kernel
theorem dX7_wall_12 : decode cX7_wall 12 = .ok (.iload_n 2, 1) := by decide +kernel
theorem dX7_wall_13 : decode cX7_wall 13 = .ok (.i2l, 1) := by decide +kernel
theorem dX7_wall_14 : decode cX7_wall 14 = .ok (.lconst 0, 1) := by decide +kernel
theorem dX7_wall_15 : decode cX7_wall 15 = .ok (.lconst 1, 1) := by decide +kernel
theorem dX7_wall_16 : decode cX7_wall 16 = .ok (.invokestatic 71, 3) := by decide +kernel
theorem dX7_wall_19 : decode cX7_wall 19 = .ok (.ifCond .ne 6, 3) := by decide +kernel
theorem dX7_wall_22 : decode cX7_wall 22 = .ok (.ldc 100, 2) := by decide +kernel
theorem dX7_wall_24 : decode cX7_wall 24 = .ok (.ireturn, 1) := by decide +kernel
theorem dX7_wall_25 : decode cX7_wall 25 = .ok (.aload_n 0, 1) := by decide +kernel
theorem dX7_wall_26 : decode cX7_wall 26 = .ok (.invokevirtual 181, 3) := by decide +kernel
theorem dX7_wall_29 : decode cX7_wall 29 = .ok (.iconst (-1), 1) := by decide +kernel
theorem dX7_wall_30 : decode cX7_wall 30 = .ok (.istore_n 3, 1) := by decide +kernel
theorem dX7_wall_31 : decode cX7_wall 31 = .ok (.iconst 0, 1) := by decide +kernel
theorem dX7_wall_32 : decode cX7_wall 32 = .ok (.istore 4, 2) := by decide +kernel
theorem dX7_wall_34 : decode cX7_wall 34 = .ok (.iconst 0, 1) := by decide +kernel
theorem dX7_wall_35 : decode cX7_wall 35 = .ok (.istore 5, 2) := by decide +kernel
theorem dX7_wall_37 : decode cX7_wall 37 = .ok (.iload 5, 2) := by decide +kernel
theorem dX7_wall_39 : decode cX7_wall 39 = .ok (.aload_n 0, 1) := by decide +kernel
theorem dX7_wall_40 : decode cX7_wall 40 = .ok (.getfield 7, 3) := by decide +kernel
theorem dX7_wall_43 : decode cX7_wall 43 = .ok (.iconst 0, 1) := by decide +kernel
theorem dX7_wall_44 : decode cX7_wall 44 = .ok (.iaload, 1) := by decide +kernel
theorem dX7_wall_45 : decode cX7_wall 45 = .ok (.if_icmp .ge 52, 3) := by decide +kernel
theorem dX7_wall_48 : decode cX7_wall 48 = .ok (.aload_n 0, 1) := by decide +kernel
theorem dX7_wall_49 : decode cX7_wall 49 = .ok (.iload 5, 2) := by decide +kernel
theorem dX7_wall_51 : decode cX7_wall 51 = .ok (.iconst 3, 1) := by decide +kernel
theorem dX7_wall_52 : decode cX7_wall 52 = .ok (.iconst 0, 1) := by decide +kernel
theorem dX7_wall_53 : decode cX7_wall 53 = .ok (.invokevirtual 80, 3) := by decide +kernel
theorem dX7_wall_56 : decode cX7_wall 56 = .ok (.aload_n 0, 1) := by decide +kernel
theorem dX7_wall_57 : decode cX7_wall 57 = .ok (.iload_n 1, 1) := by decide +kernel
theorem dX7_wall_58 : decode cX7_wall 58 = .ok (.invokevirtual 184, 3) := by decide +kernel
theorem dX7_wall_61 : decode cX7_wall 61 = .ok (.aload_n 0, 1) := by decide +kernel
theorem dX7_wall_62 : decode cX7_wall 62 = .ok (.bipush 6, 2) := by decide +kernel
theorem dX7_wall_64 : decode cX7_wall 64 = .ok (.invokevirtual 175, 3) := by decide +kernel
theorem dX7_wall_67 : decode cX7_wall 67 = .ok (.istore 6, 2) := by decide +kernel
theorem dX7_wall_69 : decode cX7_wall 69 = .ok (.aload_n 0, 1) := by decide +kernel
theorem dX7_wall_70 : decode cX7_wall 70 = .ok (.invokevirtual 187, 3) := by decide +kernel
theorem dX7_wall_73 : decode cX7_wall 73 = .ok (.iload_n 3, 1) := by decide +kernel
theorem dX7_wall_74 : decode cX7_wall 74 = .ok (.ifCond .lt 10, 3) := by decide +kernel
theorem dX7_wall_77 : decode cX7_wall 77 = .ok (.iload 6, 2) := by decide +kernel
theorem dX7_wall_79 : decode cX7_wall 79 = .ok (.iload 4, 2) := by decide +kernel
theorem dX7_wall_81 : decode cX7_wall 81 = .ok (.if_icmp .le 10, 3) := by decide +kernel
theorem dX7_wall_84 : decode cX7_wall 84 = .ok (.iload 5, 2) := by decide +kernel
theorem dX7_wall_86 : decode cX7_wall 86 = .ok (.istore_n 3, 1) := by decide +kernel
theorem dX7_wall_87 : decode cX7_wall 87 = .ok (.iload 6, 2) := by decide +kernel
theorem dX7_wall_89 : decode cX7_wall 89 = .ok (.istore 4, 2) := by decide +kernel
theorem dX7_wall_91 : decode cX7_wall 91 = .ok (.iinc 5 1, 3) := by decide +kernel
theorem dX7_wall_94 : decode cX7_wall 94 = .ok (.goto (-57), 3) := by decide +kernel
theorem dX7_wall_97 : decode cX7_wall 97 = .ok (.iload_n 3, 1) := by decide +kernel
theorem dX7_wall_98 : decode cX7_wall 98 = .ok (.ifCond .ge 8, 3) := by decide +kernel
theorem dX7_wall_101 : decode cX7_wall 101 = .ok (.ldc 70, 2) := by decide +kernel
theorem dX7_wall_103 : decode cX7_wall 103 = .ok (.goto 13, 3) := by decide +kernel
theorem dX7_wall_106 : decode cX7_wall 106 = .ok (.iload_n 2, 1) := by decide +kernel
theorem dX7_wall_107 : decode cX7_wall 107 = .ok (.ifCond .ne 7, 3) := by decide +kernel
theorem dX7_wall_110 : decode cX7_wall 110 = .ok (.iload_n 3, 1) := by decide +kernel
theorem dX7_wall_111 : decode cX7_wall 111 = .ok (.goto 5, 3) := by decide +kernel
theorem dX7_wall_114 : decode cX7_wall 114 = .ok (.iload 4, 2) := by decide +kernel
theorem dX7_wall_116 : decode cX7_wall 116 = .ok (.ireturn, 1) := by decide +kernel
theorem dX7_snows_0 : decode cX7_snows 0 = .ok (.iload_n 1, 1) := by decide +kernel
theorem dX7_snows_1 : decode cX7_snows 1 = .ok (.i2l, 1) := by decide +kernel
theorem dX7_snows_2 : decode cX7_snows 2 = .ok (.lconst 1, 1) := by decide +kernel
theorem dX7_snows_3 : decode cX7_snows 3 = .ok (.ldc2_w 193, 3) := by decide +kernel
theorem dX7_snows_6 : decode cX7_snows 6 = .ok (.invokestatic 71, 3) := by decide +kernel
theorem dX7_snows_9 : decode cX7_snows 9 = .ok (.ifCond .ne 6, 3) := by decide +kernel
theorem dX7_snows_12 : decode cX7_snows 12 = .ok (.ldc 100, 2) := by decide +kernel
theorem dX7_snows_14 : decode cX7_snows 14 = .ok (.ireturn, 1) := by decide +kernel
theorem dX7_snows_15 : decode cX7_snows 15 = .ok (.aload_n 0, 1) := by decide +kernel
theorem dX7_snows_16 : decode cX7_snows 16 = .ok (.invokevirtual 181, 3) := by decide +kernel
theorem dX7_snows_19 : decode cX7_snows 19 = .ok (.bipush 20, 2) := by decide +kernel
theorem dX7_snows_21 : decode cX7_snows 21 = .ok (.istore_n 2, 1) := by decide +kernel
theorem dX7_snows_22 : decode cX7_snows 22 = .ok (.iload_n 2, 1) := by decide +kernel
theorem dX7_snows_23 : decode cX7_snows 23 = .ok (.ifCond .lt 26, 3) := by decide +kernel
theorem dX7_snows_26 : decode cX7_snows 26 = .ok (.aload_n 0, 1) := by decide +kernel
theorem dX7_snows_27 : decode cX7_snows 27 = .ok (.getfield 7, 3) := by decide +kernel
theorem dX7_snows_30 : decode cX7_snows 30 = .ok (.iconst 4, 1) := by decide +kernel
theorem dX7_snows_31 : decode cX7_snows 31 = .ok (.iload_n 2, 1) := by decide +kernel
theorem dX7_snows_32 : decode cX7_snows 32 = .ok (.iastore, 1) := by decide +kernel
theorem dX7_snows_33 : decode cX7_snows 33 = .ok (.aload_n 0, 1) := by decide +kernel
theorem dX7_snows_34 : decode cX7_snows 34 = .ok (.iload_n 1, 1) := by decide +kernel
theorem dX7_snows_35 : decode cX7_snows 35 = .ok (.invokevirtual 197, 3) := by decide +kernel
theorem dX7_snows_38 : decode cX7_snows 38 = .ok (.ifCond .eq 5, 3) := by decide +kernel
theorem dX7_snows_41 : decode cX7_snows 41 = .ok (.iload_n 2, 1) := by decide +kernel
theorem dX7_snows_42 : decode cX7_snows 42 = .ok (.ireturn, 1) := by decide +kernel
theorem dX7_snows_43 : decode cX7_snows 43 = .ok (.iinc 2 (-1), 3) := by decide +kernel
theorem dX7_snows_46 : decode cX7_snows 46 = .ok (.goto (-24), 3) := by decide +kernel
theorem dX7_snows_49 : decode cX7_snows 49 = .ok (.ldc 70, 2) := by decide +kernel
theorem dX7_snows_51 : decode cX7_snows 51 = .ok (.ireturn, 1) := by decide +kernel
theorem dX7_fee_0 : decode cX7_fee 0 = .ok (.aload_n 0, 1) := by decide +kernel
theorem dX7_fee_1 : decode cX7_fee 1 = .ok (.iconst 1, 1) := by decide +kernel
theorem dX7_fee_2 : decode cX7_fee 2 = .ok (.invokevirtual 109, 3) := by decide +kernel
theorem dX7_fee_5 : decode cX7_fee 5 = .ok (.istore_n 1, 1) := by decide +kernel
theorem dX7_fee_6 : decode cX7_fee 6 = .ok (.iload_n 1, 1) := by decide +kernel
theorem dX7_fee_7 : decode cX7_fee 7 = .ok (.ifCond .ge 10, 3) := by decide +kernel
theorem dX7_fee_10 : decode cX7_fee 10 = .ok (.aload_n 0, 1) := by decide +kernel
theorem dX7_fee_11 : decode cX7_fee 11 = .ok (.getfield 7, 3) := by decide +kernel
theorem dX7_fee_14 : decode cX7_fee 14 = .ok (.iconst 3, 1) := by decide +kernel
theorem dX7_fee_15 : decode cX7_fee 15 = .ok (.iaload, 1) := by decide +kernel
theorem dX7_fee_16 : decode cX7_fee 16 = .ok (.ireturn, 1) := by decide +kernel
theorem dX7_fee_17 : decode cX7_fee 17 = .ok (.aload_n 0, 1) := by decide +kernel
theorem dX7_fee_18 : decode cX7_fee 18 = .ok (.getfield 55, 3) := by decide +kernel
theorem dX7_fee_21 : decode cX7_fee 21 = .ok (.bipush 114, 2) := by decide +kernel
theorem dX7_fee_23 : decode cX7_fee 23 = .ok (.aload_n 0, 1) := by decide +kernel
theorem dX7_fee_24 : decode cX7_fee 24 = .ok (.getfield 7, 3) := by decide +kernel
theorem dX7_fee_27 : decode cX7_fee 27 = .ok (.iconst 3, 1) := by decide +kernel
theorem dX7_fee_28 : decode cX7_fee 28 = .ok (.iaload, 1) := by decide +kernel
theorem dX7_fee_29 : decode cX7_fee 29 = .ok (.iastore, 1) := by decide +kernel
theorem dX7_fee_30 : decode cX7_fee 30 = .ok (.aload_n 0, 1) := by decide +kernel
theorem dX7_fee_31 : decode cX7_fee 31 = .ok (.getfield 55, 3) := by decide +kernel
theorem dX7_fee_34 : decode cX7_fee 34 = .ok (.bipush 100, 2) := by decide +kernel
theorem dX7_fee_36 : decode cX7_fee 36 = .ok (.aload_n 0, 1) := by decide +kernel
theorem dX7_fee_37 : decode cX7_fee 37 = .ok (.getfield 7, 3) := by decide +kernel
theorem dX7_fee_40 : decode cX7_fee 40 = .ok (.iconst 2, 1) := by decide +kernel
theorem dX7_fee_41 : decode cX7_fee 41 = .ok (.iaload, 1) := by decide +kernel
theorem dX7_fee_42 : decode cX7_fee 42 = .ok (.iastore, 1) := by decide +kernel
theorem dX7_fee_43 : decode cX7_fee 43 = .ok (.aload_n 0, 1) := by decide +kernel
theorem dX7_fee_44 : decode cX7_fee 44 = .ok (.iload_n 1, 1) := by decide +kernel
theorem dX7_fee_45 : decode cX7_fee 45 = .ok (.invokevirtual 113, 3) := by decide +kernel
theorem dX7_fee_48 : decode cX7_fee 48 = .ok (.ireturn, 1) := by decide +kernel
theorem dX7_fine_0 : decode cX7_fine 0 = .ok (.aload_n 0, 1) := by decide +kernel
theorem dX7_fine_1 : decode cX7_fine 1 = .ok (.iload_n 1, 1) := by decide +kernel
theorem dX7_fine_2 : decode cX7_fine 2 = .ok (.invokevirtual 133, 3) := by decide +kernel
theorem dX7_fine_5 : decode cX7_fine 5 = .ok (.ifCond .ne 6, 3) := by decide +kernel
theorem dX7_fine_8 : decode cX7_fine 8 = .ok (.ldc 100, 2) := by decide +kernel
theorem dX7_fine_10 : decode cX7_fine 10 = .ok (.ireturn, 1) := by decide +kernel
theorem dX7_fine_11 : decode cX7_fine 11 = .ok (.aload_n 0, 1) := by decide +kernel
theorem dX7_fine_12 : decode cX7_fine 12 = .ok (.iconst 2, 1) := by decide +kernel
theorem dX7_fine_13 : decode cX7_fine 13 = .ok (.invokevirtual 109, 3) := by decide +kernel
theorem dX7_fine_16 : decode cX7_fine 16 = .ok (.istore_n 2, 1) := by decide +kernel
theorem dX7_fine_17 : decode cX7_fine 17 = .ok (.iload_n 2, 1) := by decide +kernel
theorem dX7_fine_18 : decode cX7_fine 18 = .ok (.ifCond .ge 10, 3) := by decide +kernel
theorem dX7_fine_21 : decode cX7_fine 21 = .ok (.aload_n 0, 1) := by decide +kernel
theorem dX7_fine_22 : decode cX7_fine 22 = .ok (.iload_n 1, 1) := by decide +kernel
theorem dX7_fine_23 : decode cX7_fine 23 = .ok (.iconst 4, 1) := by decide +kernel
theorem dX7_fine_24 : decode cX7_fine 24 = .ok (.invokevirtual 75, 3) := by decide +kernel
theorem dX7_fine_27 : decode cX7_fine 27 = .ok (.ireturn, 1) := by decide +kernel
theorem dX7_fine_28 : decode cX7_fine 28 = .ok (.aload_n 0, 1) := by decide +kernel
theorem dX7_fine_29 : decode cX7_fine 29 = .ok (.getfield 55, 3) := by decide +kernel
theorem dX7_fine_32 : decode cX7_fine 32 = .ok (.bipush 99, 2) := by decide +kernel
theorem dX7_fine_34 : decode cX7_fine 34 = .ok (.aload_n 0, 1) := by decide +kernel
theorem dX7_fine_35 : decode cX7_fine 35 = .ok (.iload_n 1, 1) := by decide +kernel
theorem dX7_fine_36 : decode cX7_fine 36 = .ok (.iconst 4, 1) := by decide +kernel
theorem dX7_fine_37 : decode cX7_fine 37 = .ok (.invokevirtual 75, 3) := by decide +kernel
theorem dX7_fine_40 : decode cX7_fine 40 = .ok (.iastore, 1) := by decide +kernel
theorem dX7_fine_41 : decode cX7_fine 41 = .ok (.aload_n 0, 1) := by decide +kernel
theorem dX7_fine_42 : decode cX7_fine 42 = .ok (.getfield 55, 3) := by decide +kernel
theorem dX7_fine_45 : decode cX7_fine 45 = .ok (.bipush 112, 2) := by decide +kernel
theorem dX7_fine_47 : decode cX7_fine 47 = .ok (.aload_n 0, 1) := by decide +kernel
theorem dX7_fine_48 : decode cX7_fine 48 = .ok (.iload_n 1, 1) := by decide +kernel
theorem dX7_fine_49 : decode cX7_fine 49 = .ok (.iconst 5, 1) := by decide +kernel
theorem dX7_fine_50 : decode cX7_fine 50 = .ok (.invokevirtual 75, 3) := by decide +kernel
theorem dX7_fine_53 : decode cX7_fine 53 = .ok (.iastore, 1) := by decide +kernel
theorem dX7_fine_54 : decode cX7_fine 54 = .ok (.aload_n 0, 1) := by decide +kernel
theorem dX7_fine_55 : decode cX7_fine 55 = .ok (.iload_n 2, 1) := by decide +kernel
theorem dX7_fine_56 : decode cX7_fine 56 = .ok (.invokevirtual 113, 3) := by decide +kernel
theorem dX7_fine_59 : decode cX7_fine 59 = .ok (.ireturn, 1) := by decide +kernel
theorem dX7_feed_0 : decode cX7_feed 0 = .ok (.aload_n 0, 1) := by decide +kernel
theorem dX7_feed_1 : decode cX7_feed 1 = .ok (.getfield 200, 3) := by decide +kernel
theorem dX7_feed_4 : decode cX7_feed 4 = .ok (.bipush 12, 2) := by decide +kernel
theorem dX7_feed_6 : decode cX7_feed 6 = .ok (.iadd, 1) := by decide +kernel
theorem dX7_feed_7 : decode cX7_feed 7 = .ok (.bipush 96, 2) := by decide +kernel
theorem dX7_feed_9 : decode cX7_feed 9 = .ok (.if_icmp .le 6, 3) := by decide +kernel
theorem dX7_feed_12 : decode cX7_feed 12 = .ok (.ldc 101, 2) := by decide +kernel
theorem dX7_feed_14 : decode cX7_feed 14 = .ok (.ireturn, 1) := by decide +kernel
theorem dX7_feed_15 : decode cX7_feed 15 = .ok (.iconst 0, 1) := by decide +kernel
theorem dX7_feed_16 : decode cX7_feed 16 = .ok (.istore 4, 2) := by decide +kernel
theorem dX7_feed_18 : decode cX7_feed 18 = .ok (.iload 4, 2) := by decide +kernel
theorem dX7_feed_20 : decode cX7_feed 20 = .ok (.bipush 12, 2) := by decide +kernel
theorem dX7_feed_22 : decode cX7_feed 22 = .ok (.if_icmp .ge 69, 3) := by decide +kernel
theorem dX7_feed_25 : decode cX7_feed 25 = .ok (.iload 4, 2) := by decide +kernel
theorem dX7_feed_27 : decode cX7_feed 27 = .ok (.iconst 4, 1) := by decide +kernel
theorem dX7_feed_28 : decode cX7_feed 28 = .ok (.if_icmp .ge 7, 3) := by decide +kernel
theorem dX7_feed_31 : decode cX7_feed 31 = .ok (.iload_n 1, 1) := by decide +kernel
theorem dX7_feed_32 : decode cX7_feed 32 = .ok (.goto 15, 3) := by decide +kernel
theorem dX7_feed_35 : decode cX7_feed 35 = .ok (.iload 4, 2) := by decide +kernel
theorem dX7_feed_37 : decode cX7_feed 37 = .ok (.bipush 8, 2) := by decide +kernel
theorem dX7_feed_39 : decode cX7_feed 39 = .ok (.if_icmp .ge 7, 3) := by decide +kernel
theorem dX7_feed_42 : decode cX7_feed 42 = .ok (.iload_n 2, 1) := by decide +kernel
theorem dX7_feed_43 : decode cX7_feed 43 = .ok (.goto 4, 3) := by decide +kernel
theorem dX7_feed_46 : decode cX7_feed 46 = .ok (.iload_n 3, 1) := by decide +kernel
theorem dX7_feed_47 : decode cX7_feed 47 = .ok (.istore 5, 2) := by decide +kernel
theorem dX7_feed_49 : decode cX7_feed 49 = .ok (.aload_n 0, 1) := by decide +kernel
theorem dX7_feed_50 : decode cX7_feed 50 = .ok (.getfield 52, 3) := by decide +kernel
theorem dX7_feed_53 : decode cX7_feed 53 = .ok (.aload_n 0, 1) := by decide +kernel
theorem dX7_feed_54 : decode cX7_feed 54 = .ok (.getfield 200, 3) := by decide +kernel
theorem dX7_feed_57 : decode cX7_feed 57 = .ok (.iload 5, 2) := by decide +kernel
theorem dX7_feed_59 : decode cX7_feed 59 = .ok (.bipush 24, 2) := by decide +kernel
theorem dX7_feed_61 : decode cX7_feed 61 = .ok (.bipush 8, 2) := by decide +kernel
theorem dX7_feed_63 : decode cX7_feed 63 = .ok (.iload 4, 2) := by decide +kernel
theorem dX7_feed_65 : decode cX7_feed 65 = .ok (.iconst 4, 1) := by decide +kernel
theorem dX7_feed_66 : decode cX7_feed 66 = .ok (.irem, 1) := by decide +kernel
theorem dX7_feed_67 : decode cX7_feed 67 = .ok (.imul, 1) := by decide +kernel
theorem dX7_feed_68 : decode cX7_feed 68 = .ok (.isub, 1) := by decide +kernel
theorem dX7_feed_69 : decode cX7_feed 69 = .ok (.ishr, 1) := by decide +kernel
theorem dX7_feed_70 : decode cX7_feed 70 = .ok (.sipush 255, 3) := by decide +kernel
theorem dX7_feed_73 : decode cX7_feed 73 = .ok (.iand, 1) := by decide +kernel
theorem dX7_feed_74 : decode cX7_feed 74 = .ok (.iastore, 1) := by decide +kernel
theorem dX7_feed_75 : decode cX7_feed 75 = .ok (.aload_n 0, 1) := by decide +kernel
theorem dX7_feed_76 : decode cX7_feed 76 = .ok (.dup, 1) := by decide +kernel
theorem dX7_feed_77 : decode cX7_feed 77 = .ok (.getfield 200, 3) := by decide +kernel
theorem dX7_feed_80 : decode cX7_feed 80 = .ok (.iconst 1, 1) := by decide +kernel
theorem dX7_feed_81 : decode cX7_feed 81 = .ok (.iadd, 1) := by decide +kernel
theorem dX7_feed_82 : decode cX7_feed 82 = .ok (.putfield 200, 3) := by decide +kernel
theorem dX7_feed_85 : decode cX7_feed 85 = .ok (.iinc 4 1, 3) := by decide +kernel
theorem dX7_feed_88 : decode cX7_feed 88 = .ok (.goto (-70), 3) := by decide +kernel
theorem dX7_feed_91 : decode cX7_feed 91 = .ok (.aload_n 0, 1) := by decide +kernel
theorem dX7_feed_92 : decode cX7_feed 92 = .ok (.getfield 200, 3) := by decide +kernel
theorem dX7_feed_95 : decode cX7_feed 95 = .ok (.ireturn, 1) := by decide +kernel
theorem dX7_trim_0 : decode cX7_trim 0 = .ok (.iload_n 1, 1) := by decide +kernel
theorem dX7_trim_1 : decode cX7_trim 1 = .ok (.i2l, 1) := by decide +kernel
theorem dX7_trim_2 : decode cX7_trim 2 = .ok (.lconst 0, 1) := by decide +kernel
theorem dX7_trim_3 : decode cX7_trim 3 = .ok (.aload_n 0, 1) := by decide +kernel
theorem dX7_trim_4 : decode cX7_trim 4 = .ok (.getfield 200, 3) := by decide +kernel
theorem dX7_trim_7 : decode cX7_trim 7 = .ok (.i2l, 1) := by decide +kernel
theorem dX7_trim_8 : decode cX7_trim 8 = .ok (.invokestatic 71, 3) := by decide +kernel
theorem dX7_trim_11 : decode cX7_trim 11 = .ok (.ifCond .ne 6, 3) := by decide +kernel
theorem dX7_trim_14 : decode cX7_trim 14 = .ok (.ldc 100, 2) := by decide +kernel
theorem dX7_trim_16 : decode cX7_trim 16 = .ok (.ireturn, 1) := by decide +kernel
theorem dX7_trim_17 : decode cX7_trim 17 = .ok (.aload_n 0, 1) := by decide +kernel
theorem dX7_trim_18 : decode cX7_trim 18 = .ok (.iload_n 1, 1) := by decide +kernel
theorem dX7_trim_19 : decode cX7_trim 19 = .ok (.putfield 200, 3) := by decide +kernel
theorem dX7_trim_22 : decode cX7_trim 22 = .ok (.iload_n 1, 1) := by decide +kernel
theorem dX7_trim_23 : decode cX7_trim 23 = .ok (.ireturn, 1) := by decide +kernel
theorem dX7_isLetter_0 : decode cX7_isLetter 0 = .ok (.iload_n 1, 1) := by decide +kernel
theorem dX7_isLetter_1 : decode cX7_isLetter 1 = .ok (.aload_n 0, 1) := by decide +kernel
theorem dX7_isLetter_2 : decode cX7_isLetter 2 = .ok (.getfield 200, 3) := by decide +kernel
theorem dX7_isLetter_5 : decode cX7_isLetter 5 = .ok (.if_icmp .ge 26, 3) := by decide +kernel
theorem dX7_isLetter_8 : decode cX7_isLetter 8 = .ok (.aload_n 0, 1) := by decide +kernel
theorem dX7_isLetter_9 : decode cX7_isLetter 9 = .ok (.getfield 52, 3) := by decide +kernel
theorem dX7_isLetter_12 : decode cX7_isLetter 12 = .ok (.iload_n 1, 1) := by decide +kernel
theorem dX7_isLetter_13 : decode cX7_isLetter 13 = .ok (.iaload, 1) := by decide +kernel
theorem dX7_isLetter_14 : decode cX7_isLetter 14 = .ok (.i2l, 1) := by decide +kernel
theorem dX7_isLetter_15 : decode cX7_isLetter 15 = .ok (.ldc2_w 204, 3) := by decide +kernel
theorem dX7_isLetter_18 : decode cX7_isLetter 18 = .ok (.ldc2_w 206, 3) := by decide +kernel
theorem dX7_isLetter_21 : decode cX7_isLetter 21 = .ok (.invokestatic 71, 3) := by decide +kernel
theorem dX7_isLetter_24 : decode cX7_isLetter 24 = .ok (.ifCond .eq 7, 3) := by decide +kernel
theorem dX7_isLetter_27 : decode cX7_isLetter 27 = .ok (.iconst 1, 1) := by decide +kernel
theorem dX7_isLetter_28 : decode cX7_isLetter 28 = .ok (.goto 4, 3) := by decide +kernel
theorem dX7_isLetter_31 : decode cX7_isLetter 31 = .ok (.iconst 0, 1) := by decide +kernel
theorem dX7_isLetter_32 : decode cX7_isLetter 32 = .ok (.ireturn, 1) := by decide +kernel
theorem dX7_isDigit_0 : decode cX7_isDigit 0 = .ok (.iload_n 1, 1) := by decide +kernel
theorem dX7_isDigit_1 : decode cX7_isDigit 1 = .ok (.aload_n 0, 1) := by decide +kernel
theorem dX7_isDigit_2 : decode cX7_isDigit 2 = .ok (.getfield 200, 3) := by decide +kernel
theorem dX7_isDigit_5 : decode cX7_isDigit 5 = .ok (.if_icmp .ge 26, 3) := by decide +kernel
theorem dX7_isDigit_8 : decode cX7_isDigit 8 = .ok (.aload_n 0, 1) := by decide +kernel
theorem dX7_isDigit_9 : decode cX7_isDigit 9 = .ok (.getfield 52, 3) := by decide +kernel
theorem dX7_isDigit_12 : decode cX7_isDigit 12 = .ok (.iload_n 1, 1) := by decide +kernel
theorem dX7_isDigit_13 : decode cX7_isDigit 13 = .ok (.iaload, 1) := by decide +kernel
theorem dX7_isDigit_14 : decode cX7_isDigit 14 = .ok (.i2l, 1) := by decide +kernel
theorem dX7_isDigit_15 : decode cX7_isDigit 15 = .ok (.ldc2_w 208, 3) := by decide +kernel
theorem dX7_isDigit_18 : decode cX7_isDigit 18 = .ok (.ldc2_w 210, 3) := by decide +kernel
theorem dX7_isDigit_21 : decode cX7_isDigit 21 = .ok (.invokestatic 71, 3) := by decide +kernel
theorem dX7_isDigit_24 : decode cX7_isDigit 24 = .ok (.ifCond .eq 7, 3) := by decide +kernel
theorem dX7_isDigit_27 : decode cX7_isDigit 27 = .ok (.iconst 1, 1) := by decide +kernel
theorem dX7_isDigit_28 : decode cX7_isDigit 28 = .ok (.goto 4, 3) := by decide +kernel
theorem dX7_isDigit_31 : decode cX7_isDigit 31 = .ok (.iconst 0, 1) := by decide +kernel
theorem dX7_isDigit_32 : decode cX7_isDigit 32 = .ok (.ireturn, 1) := by decide +kernel
theorem dX7_nextToken_0 : decode cX7_nextToken 0 = .ok (.aload_n 0, 1) := by decide +kernel
theorem dX7_nextToken_1 : decode cX7_nextToken 1 = .ok (.getfield 212, 3) := by decide +kernel
theorem dX7_nextToken_4 : decode cX7_nextToken 4 = .ok (.ifCond .le 23, 3) := by decide +kernel
theorem dX7_nextToken_7 : decode cX7_nextToken 7 = .ok (.aload_n 0, 1) := by decide +kernel
theorem dX7_nextToken_8 : decode cX7_nextToken 8 = .ok (.getfield 215, 3) := by decide +kernel
theorem dX7_nextToken_11 : decode cX7_nextToken 11 = .ok (.iconst 1, 1) := by decide +kernel
theorem dX7_nextToken_12 : decode cX7_nextToken 12 = .ok (.if_icmp .eq 11, 3) := by decide +kernel
theorem dX7_nextToken_15 : decode cX7_nextToken 15 = .ok (.aload_n 0, 1) := by decide +kernel
theorem dX7_nextToken_16 : decode cX7_nextToken 16 = .ok (.getfield 215, 3) := by decide +kernel
theorem dX7_nextToken_19 : decode cX7_nextToken 19 = .ok (.iconst 2, 1) := by decide +kernel
theorem dX7_nextToken_20 : decode cX7_nextToken 20 = .ok (.if_icmp .ne 7, 3) := by decide +kernel
theorem dX7_nextToken_23 : decode cX7_nextToken 23 = .ok (.iconst 1, 1) := by decide +kernel
theorem dX7_nextToken_24 : decode cX7_nextToken 24 = .ok (.goto 4, 3) := by decide +kernel
theorem dX7_nextToken_27 : decode cX7_nextToken 27 = .ok (.iconst 0, 1) := by decide +kernel
theorem dX7_nextToken_28 : decode cX7_nextToken 28 = .ok (.istore_n 1, 1) := by decide +kernel
theorem dX7_nextToken_29 : decode cX7_nextToken 29 = .ok (.aload_n 0, 1) := by decide +kernel
theorem dX7_nextToken_30 : decode cX7_nextToken 30 = .ok (.getfield 212, 3) := by decide +kernel
theorem dX7_nextToken_33 : decode cX7_nextToken 33 = .ok (.istore_n 2, 1) := by decide +kernel
theorem dX7_nextToken_34 : decode cX7_nextToken 34 = .ok (.aload_n 0, 1) := by decide +kernel
theorem dX7_nextToken_35 : decode cX7_nextToken 35 = .ok (.getfield 212, 3) := by decide +kernel
theorem dX7_nextToken_38 : decode cX7_nextToken 38 = .ok (.aload_n 0, 1) := by decide +kernel
theorem dX7_nextToken_39 : decode cX7_nextToken 39 = .ok (.getfield 200, 3) := by decide +kernel
theorem dX7_nextToken_42 : decode cX7_nextToken 42 = .ok (.if_icmp .ge 30, 3) := by decide +kernel
theorem dX7_nextToken_45 : decode cX7_nextToken 45 = .ok (.aload_n 0, 1) := by decide +kernel
theorem dX7_nextToken_46 : decode cX7_nextToken 46 = .ok (.getfield 52, 3) := by decide +kernel
theorem dX7_nextToken_49 : decode cX7_nextToken 49 = .ok (.aload_n 0, 1) := by decide +kernel
theorem dX7_nextToken_50 : decode cX7_nextToken 50 = .ok (.getfield 212, 3) := by decide +kernel
theorem dX7_nextToken_53 : decode cX7_nextToken 53 = .ok (.iaload, 1) := by decide +kernel
theorem dX7_nextToken_54 : decode cX7_nextToken 54 = .ok (.bipush 32, 2) := by decide +kernel
theorem dX7_nextToken_56 : decode cX7_nextToken 56 = .ok (.if_icmp .ne 16, 3) := by decide +kernel
theorem dX7_nextToken_59 : decode cX7_nextToken 59 = .ok (.aload_n 0, 1) := by decide +kernel
theorem dX7_nextToken_60 : decode cX7_nextToken 60 = .ok (.dup, 1) := by decide +kernel
theorem dX7_nextToken_61 : decode cX7_nextToken 61 = .ok (.getfield 212, 3) := by decide +kernel
theorem dX7_nextToken_64 : decode cX7_nextToken 64 = .ok (.iconst 1, 1) := by decide +kernel
theorem dX7_nextToken_65 : decode cX7_nextToken 65 = .ok (.iadd, 1) := by decide +kernel
theorem dX7_nextToken_66 : decode cX7_nextToken 66 = .ok (.putfield 212, 3) := by decide +kernel
theorem dX7_nextToken_69 : decode cX7_nextToken 69 = .ok (.goto (-35), 3) := by decide +kernel
theorem dX7_nextToken_72 : decode cX7_nextToken 72 = .ok (.iload_n 1, 1) := by decide +kernel
theorem dX7_nextToken_73 : decode cX7_nextToken 73 = .ok (.ifCond .eq 15, 3) := by decide +kernel
theorem dX7_nextToken_76 : decode cX7_nextToken 76 = .ok (.iload_n 2, 1) := by decide +kernel
theorem dX7_nextToken_77 : decode cX7_nextToken 77 = .ok (.aload_n 0, 1) := by decide +kernel
theorem dX7_nextToken_78 : decode cX7_nextToken 78 = .ok (.getfield 212, 3) := by decide +kernel
theorem dX7_nextToken_81 : decode cX7_nextToken 81 = .ok (.if_icmp .ne 7, 3) := by decide +kernel
theorem dX7_nextToken_84 : decode cX7_nextToken 84 = .ok (.iconst 1, 1) := by decide +kernel
theorem dX7_nextToken_85 : decode cX7_nextToken 85 = .ok (.goto 4, 3) := by decide +kernel
theorem dX7_nextToken_88 : decode cX7_nextToken 88 = .ok (.iconst 0, 1) := by decide +kernel
theorem dX7_nextToken_89 : decode cX7_nextToken 89 = .ok (.istore_n 1, 1) := by decide +kernel
theorem dX7_nextToken_90 : decode cX7_nextToken 90 = .ok (.aload_n 0, 1) := by decide +kernel
theorem dX7_nextToken_91 : decode cX7_nextToken 91 = .ok (.aload_n 0, 1) := by decide +kernel
theorem dX7_nextToken_92 : decode cX7_nextToken 92 = .ok (.getfield 212, 3) := by decide +kernel
theorem dX7_nextToken_95 : decode cX7_nextToken 95 = .ok (.putfield 218, 3) := by decide +kernel
theorem dX7_nextToken_98 : decode cX7_nextToken 98 = .ok (.aload_n 0, 1) := by decide +kernel
theorem dX7_nextToken_99 : decode cX7_nextToken 99 = .ok (.getfield 218, 3) := by decide +kernel
theorem dX7_nextToken_102 : decode cX7_nextToken 102 = .ok (.aload_n 0, 1) := by decide +kernel
theorem dX7_nextToken_103 : decode cX7_nextToken 103 = .ok (.getfield 200, 3) := by decide +kernel
theorem dX7_nextToken_106 : decode cX7_nextToken 106 = .ok (.if_icmp .ne 11, 3) := by decide +kernel
theorem dX7_nextToken_109 : decode cX7_nextToken 109 = .ok (.aload_n 0, 1) := by decide +kernel
theorem dX7_nextToken_110 : decode cX7_nextToken 110 = .ok (.iconst 0, 1) := by decide +kernel
theorem dX7_nextToken_111 : decode cX7_nextToken 111 = .ok (.putfield 215, 3) := by decide +kernel
theorem dX7_nextToken_114 : decode cX7_nextToken 114 = .ok (.goto 225, 3) := by decide +kernel
theorem dX7_nextToken_117 : decode cX7_nextToken 117 = .ok (.aload_n 0, 1) := by decide +kernel
theorem dX7_nextToken_118 : decode cX7_nextToken 118 = .ok (.aload_n 0, 1) := by decide +kernel
theorem dX7_nextToken_119 : decode cX7_nextToken 119 = .ok (.getfield 218, 3) := by decide +kernel
theorem dX7_nextToken_122 : decode cX7_nextToken 122 = .ok (.invokevirtual 221, 3) := by decide +kernel
theorem dX7_nextToken_125 : decode cX7_nextToken 125 = .ok (.ifCond .eq 73, 3) := by decide +kernel
theorem dX7_nextToken_128 : decode cX7_nextToken 128 = .ok (.aload_n 0, 1) := by decide +kernel
theorem dX7_nextToken_129 : decode cX7_nextToken 129 = .ok (.aload_n 0, 1) := by decide +kernel
theorem dX7_nextToken_130 : decode cX7_nextToken 130 = .ok (.getfield 212, 3) := by decide +kernel
theorem dX7_nextToken_133 : decode cX7_nextToken 133 = .ok (.invokevirtual 221, 3) := by decide +kernel
theorem dX7_nextToken_136 : decode cX7_nextToken 136 = .ok (.ifCond .eq 16, 3) := by decide +kernel
theorem dX7_nextToken_139 : decode cX7_nextToken 139 = .ok (.aload_n 0, 1) := by decide +kernel
theorem dX7_nextToken_140 : decode cX7_nextToken 140 = .ok (.dup, 1) := by decide +kernel
theorem dX7_nextToken_141 : decode cX7_nextToken 141 = .ok (.getfield 212, 3) := by decide +kernel
theorem dX7_nextToken_144 : decode cX7_nextToken 144 = .ok (.iconst 1, 1) := by decide +kernel
theorem dX7_nextToken_145 : decode cX7_nextToken 145 = .ok (.iadd, 1) := by decide +kernel
theorem dX7_nextToken_146 : decode cX7_nextToken 146 = .ok (.putfield 212, 3) := by decide +kernel
theorem dX7_nextToken_149 : decode cX7_nextToken 149 = .ok (.goto (-21), 3) := by decide +kernel
theorem dX7_nextToken_152 : decode cX7_nextToken 152 = .ok (.aload_n 0, 1) := by decide +kernel
theorem dX7_nextToken_153 : decode cX7_nextToken 153 = .ok (.iload_n 1, 1) := by decide +kernel
theorem dX7_nextToken_154 : decode cX7_nextToken 154 = .ok (.ifCond .eq 7, 3) := by decide +kernel
theorem dX7_nextToken_157 : decode cX7_nextToken 157 = .ok (.iconst 4, 1) := by decide +kernel
theorem dX7_nextToken_158 : decode cX7_nextToken 158 = .ok (.goto 4, 3) := by decide +kernel
theorem dX7_nextToken_161 : decode cX7_nextToken 161 = .ok (.iconst 1, 1) := by decide +kernel
theorem dX7_nextToken_162 : decode cX7_nextToken 162 = .ok (.putfield 215, 3) := by decide +kernel
theorem dX7_nextToken_165 : decode cX7_nextToken 165 = .ok (.aload_n 0, 1) := by decide +kernel
theorem dX7_nextToken_166 : decode cX7_nextToken 166 = .ok (.aload_n 0, 1) := by decide +kernel
theorem dX7_nextToken_167 : decode cX7_nextToken 167 = .ok (.getfield 212, 3) := by decide +kernel
theorem dX7_nextToken_170 : decode cX7_nextToken 170 = .ok (.aload_n 0, 1) := by decide +kernel
theorem dX7_nextToken_171 : decode cX7_nextToken 171 = .ok (.getfield 218, 3) := by decide +kernel
theorem dX7_nextToken_174 : decode cX7_nextToken 174 = .ok (.isub, 1) := by decide +kernel
theorem dX7_nextToken_175 : decode cX7_nextToken 175 = .ok (.iconst 1, 1) := by decide +kernel
theorem dX7_nextToken_176 : decode cX7_nextToken 176 = .ok (.if_icmp .ne 15, 3) := by decide +kernel
theorem dX7_nextToken_179 : decode cX7_nextToken 179 = .ok (.aload_n 0, 1) := by decide +kernel
theorem dX7_nextToken_180 : decode cX7_nextToken 180 = .ok (.getfield 52, 3) := by decide +kernel
theorem dX7_nextToken_183 : decode cX7_nextToken 183 = .ok (.aload_n 0, 1) := by decide +kernel
theorem dX7_nextToken_184 : decode cX7_nextToken 184 = .ok (.getfield 218, 3) := by decide +kernel
theorem dX7_nextToken_187 : decode cX7_nextToken 187 = .ok (.iaload, 1) := by decide +kernel
theorem dX7_nextToken_188 : decode cX7_nextToken 188 = .ok (.goto 4, 3) := by decide +kernel
theorem dX7_nextToken_191 : decode cX7_nextToken 191 = .ok (.iconst 0, 1) := by decide +kernel
theorem dX7_nextToken_192 : decode cX7_nextToken 192 = .ok (.putfield 224, 3) := by decide +kernel
theorem dX7_nextToken_195 : decode cX7_nextToken 195 = .ok (.goto 144, 3) := by decide +kernel
theorem dX7_nextToken_198 : decode cX7_nextToken 198 = .ok (.aload_n 0, 1) := by decide +kernel
theorem dX7_nextToken_199 : decode cX7_nextToken 199 = .ok (.aload_n 0, 1) := by decide +kernel
theorem dX7_nextToken_200 : decode cX7_nextToken 200 = .ok (.getfield 218, 3) := by decide +kernel
theorem dX7_nextToken_203 : decode cX7_nextToken 203 = .ok (.invokevirtual 227, 3) := by decide +kernel
theorem dX7_nextToken_206 : decode cX7_nextToken 206 = .ok (.ifCond .eq 105, 3) := by decide +kernel
theorem dX7_nextToken_209 : decode cX7_nextToken 209 = .ok (.aload_n 0, 1) := by decide +kernel
theorem dX7_nextToken_210 : decode cX7_nextToken 210 = .ok (.iconst 0, 1) := by decide +kernel
theorem dX7_nextToken_211 : decode cX7_nextToken 211 = .ok (.putfield 230, 3) := by decide +kernel
theorem dX7_nextToken_214 : decode cX7_nextToken 214 = .ok (.aload_n 0, 1) := by decide +kernel
theorem dX7_nextToken_215 : decode cX7_nextToken 215 = .ok (.aload_n 0, 1) := by decide +kernel
theorem dX7_nextToken_216 : decode cX7_nextToken 216 = .ok (.getfield 212, 3) := by decide +kernel
theorem dX7_nextToken_219 : decode cX7_nextToken 219 = .ok (.invokevirtual 227, 3) := by decide +kernel
theorem dX7_nextToken_222 : decode cX7_nextToken 222 = .ok (.ifCond .eq 60, 3) := by decide +kernel
theorem dX7_nextToken_225 : decode cX7_nextToken 225 = .ok (.aload_n 0, 1) := by decide +kernel
theorem dX7_nextToken_226 : decode cX7_nextToken 226 = .ok (.aload_n 0, 1) := by decide +kernel
theorem dX7_nextToken_227 : decode cX7_nextToken 227 = .ok (.getfield 212, 3) := by decide +kernel
theorem dX7_nextToken_230 : decode cX7_nextToken 230 = .ok (.aload_n 0, 1) := by decide +kernel
theorem dX7_nextToken_231 : decode cX7_nextToken 231 = .ok (.getfield 218, 3) := by decide +kernel
theorem dX7_nextToken_234 : decode cX7_nextToken 234 = .ok (.isub, 1) := by decide +kernel
theorem dX7_nextToken_235 : decode cX7_nextToken 235 = .ok (.iconst 4, 1) := by decide +kernel
theorem dX7_nextToken_236 : decode cX7_nextToken 236 = .ok (.if_icmp .ge 26, 3) := by decide +kernel
theorem dX7_nextToken_239 : decode cX7_nextToken 239 = .ok (.bipush 10, 2) := by decide +kernel
theorem dX7_nextToken_241 : decode cX7_nextToken 241 = .ok (.aload_n 0, 1) := by decide +kernel
theorem dX7_nextToken_242 : decode cX7_nextToken 242 = .ok (.getfield 230, 3) := by decide +kernel
theorem dX7_nextToken_245 : decode cX7_nextToken 245 = .ok (.imul, 1) := by decide +kernel
theorem dX7_nextToken_246 : decode cX7_nextToken 246 = .ok (.aload_n 0, 1) := by decide +kernel
theorem dX7_nextToken_247 : decode cX7_nextToken 247 = .ok (.getfield 52, 3) := by decide +kernel
theorem dX7_nextToken_250 : decode cX7_nextToken 250 = .ok (.aload_n 0, 1) := by decide +kernel
theorem dX7_nextToken_251 : decode cX7_nextToken 251 = .ok (.getfield 212, 3) := by decide +kernel
theorem dX7_nextToken_254 : decode cX7_nextToken 254 = .ok (.iaload, 1) := by decide +kernel
theorem dX7_nextToken_255 : decode cX7_nextToken 255 = .ok (.iadd, 1) := by decide +kernel
theorem dX7_nextToken_256 : decode cX7_nextToken 256 = .ok (.bipush 48, 2) := by decide +kernel
theorem dX7_nextToken_258 : decode cX7_nextToken 258 = .ok (.isub, 1) := by decide +kernel
theorem dX7_nextToken_259 : decode cX7_nextToken 259 = .ok (.goto 7, 3) := by decide +kernel
theorem dX7_nextToken_262 : decode cX7_nextToken 262 = .ok (.aload_n 0, 1) := by decide +kernel
theorem dX7_nextToken_263 : decode cX7_nextToken 263 = .ok (.getfield 230, 3) := by decide +kernel
theorem dX7_nextToken_266 : decode cX7_nextToken 266 = .ok (.putfield 230, 3) := by decide +kernel
theorem dX7_nextToken_269 : decode cX7_nextToken 269 = .ok (.aload_n 0, 1) := by decide +kernel
theorem dX7_nextToken_270 : decode cX7_nextToken 270 = .ok (.dup, 1) := by decide +kernel
theorem dX7_nextToken_271 : decode cX7_nextToken 271 = .ok (.getfield 212, 3) := by decide +kernel
theorem dX7_nextToken_274 : decode cX7_nextToken 274 = .ok (.iconst 1, 1) := by decide +kernel
theorem dX7_nextToken_275 : decode cX7_nextToken 275 = .ok (.iadd, 1) := by decide +kernel
theorem dX7_nextToken_276 : decode cX7_nextToken 276 = .ok (.putfield 212, 3) := by decide +kernel
theorem dX7_nextToken_279 : decode cX7_nextToken 279 = .ok (.goto (-65), 3) := by decide +kernel
theorem dX7_nextToken_282 : decode cX7_nextToken 282 = .ok (.aload_n 0, 1) := by decide +kernel
theorem dX7_nextToken_283 : decode cX7_nextToken 283 = .ok (.iload_n 1, 1) := by decide +kernel
theorem dX7_nextToken_284 : decode cX7_nextToken 284 = .ok (.ifCond .ne 16, 3) := by decide +kernel
theorem dX7_nextToken_287 : decode cX7_nextToken 287 = .ok (.aload_n 0, 1) := by decide +kernel
theorem dX7_nextToken_288 : decode cX7_nextToken 288 = .ok (.getfield 212, 3) := by decide +kernel
theorem dX7_nextToken_291 : decode cX7_nextToken 291 = .ok (.aload_n 0, 1) := by decide +kernel
theorem dX7_nextToken_292 : decode cX7_nextToken 292 = .ok (.getfield 218, 3) := by decide +kernel
theorem dX7_nextToken_295 : decode cX7_nextToken 295 = .ok (.isub, 1) := by decide +kernel
theorem dX7_nextToken_296 : decode cX7_nextToken 296 = .ok (.iconst 4, 1) := by decide +kernel
theorem dX7_nextToken_297 : decode cX7_nextToken 297 = .ok (.if_icmp .le 7, 3) := by decide +kernel
theorem dX7_nextToken_300 : decode cX7_nextToken 300 = .ok (.iconst 4, 1) := by decide +kernel
theorem dX7_nextToken_301 : decode cX7_nextToken 301 = .ok (.goto 4, 3) := by decide +kernel
theorem dX7_nextToken_304 : decode cX7_nextToken 304 = .ok (.iconst 2, 1) := by decide +kernel
theorem dX7_nextToken_305 : decode cX7_nextToken 305 = .ok (.putfield 215, 3) := by decide +kernel
theorem dX7_nextToken_308 : decode cX7_nextToken 308 = .ok (.goto 31, 3) := by decide +kernel
theorem dX7_nextToken_311 : decode cX7_nextToken 311 = .ok (.aload_n 0, 1) := by decide +kernel
theorem dX7_nextToken_312 : decode cX7_nextToken 312 = .ok (.iconst 3, 1) := by decide +kernel
theorem dX7_nextToken_313 : decode cX7_nextToken 313 = .ok (.putfield 215, 3) := by decide +kernel
theorem dX7_nextToken_316 : decode cX7_nextToken 316 = .ok (.aload_n 0, 1) := by decide +kernel
theorem dX7_nextToken_317 : decode cX7_nextToken 317 = .ok (.aload_n 0, 1) := by decide +kernel
theorem dX7_nextToken_318 : decode cX7_nextToken 318 = .ok (.getfield 52, 3) := by decide +kernel
theorem dX7_nextToken_321 : decode cX7_nextToken 321 = .ok (.aload_n 0, 1) := by decide +kernel
theorem dX7_nextToken_322 : decode cX7_nextToken 322 = .ok (.getfield 218, 3) := by decide +kernel
theorem dX7_nextToken_325 : decode cX7_nextToken 325 = .ok (.iaload, 1) := by decide +kernel
theorem dX7_nextToken_326 : decode cX7_nextToken 326 = .ok (.putfield 224, 3) := by decide +kernel
theorem dX7_nextToken_329 : decode cX7_nextToken 329 = .ok (.aload_n 0, 1) := by decide +kernel
theorem dX7_nextToken_330 : decode cX7_nextToken 330 = .ok (.dup, 1) := by decide +kernel
theorem dX7_nextToken_331 : decode cX7_nextToken 331 = .ok (.getfield 212, 3) := by decide +kernel
theorem dX7_nextToken_334 : decode cX7_nextToken 334 = .ok (.iconst 1, 1) := by decide +kernel
theorem dX7_nextToken_335 : decode cX7_nextToken 335 = .ok (.iadd, 1) := by decide +kernel
theorem dX7_nextToken_336 : decode cX7_nextToken 336 = .ok (.putfield 212, 3) := by decide +kernel
theorem dX7_nextToken_339 : decode cX7_nextToken 339 = .ok (.return_, 1) := by decide +kernel
theorem dX7_isSign_0 : decode cX7_isSign 0 = .ok (.aload_n 0, 1) := by decide +kernel
theorem dX7_isSign_1 : decode cX7_isSign 1 = .ok (.getfield 215, 3) := by decide +kernel
theorem dX7_isSign_4 : decode cX7_isSign 4 = .ok (.iconst 3, 1) := by decide +kernel
theorem dX7_isSign_5 : decode cX7_isSign 5 = .ok (.if_icmp .ne 15, 3) := by decide +kernel
theorem dX7_isSign_8 : decode cX7_isSign 8 = .ok (.aload_n 0, 1) := by decide +kernel
theorem dX7_isSign_9 : decode cX7_isSign 9 = .ok (.getfield 224, 3) := by decide +kernel
theorem dX7_isSign_12 : decode cX7_isSign 12 = .ok (.iload_n 1, 1) := by decide +kernel
theorem dX7_isSign_13 : decode cX7_isSign 13 = .ok (.if_icmp .ne 7, 3) := by decide +kernel
theorem dX7_isSign_16 : decode cX7_isSign 16 = .ok (.iconst 1, 1) := by decide +kernel
theorem dX7_isSign_17 : decode cX7_isSign 17 = .ok (.goto 4, 3) := by decide +kernel
theorem dX7_isSign_20 : decode cX7_isSign 20 = .ok (.iconst 0, 1) := by decide +kernel
theorem dX7_isSign_21 : decode cX7_isSign 21 = .ok (.ireturn, 1) := by decide +kernel
theorem dX7_isWordAt_0 : decode cX7_isWordAt 0 = .ok (.iload 4, 2) := by decide +kernel
theorem dX7_isWordAt_2 : decode cX7_isWordAt 2 = .ok (.ifCond .ne 7, 3) := by decide +kernel
theorem dX7_isWordAt_5 : decode cX7_isWordAt 5 = .ok (.iconst 3, 1) := by decide +kernel
theorem dX7_isWordAt_6 : decode cX7_isWordAt 6 = .ok (.goto 4, 3) := by decide +kernel
theorem dX7_isWordAt_9 : decode cX7_isWordAt 9 = .ok (.iconst 4, 1) := by decide +kernel
theorem dX7_isWordAt_10 : decode cX7_isWordAt 10 = .ok (.istore 5, 2) := by decide +kernel
theorem dX7_isWordAt_12 : decode cX7_isWordAt 12 = .ok (.aload_n 0, 1) := by decide +kernel
theorem dX7_isWordAt_13 : decode cX7_isWordAt 13 = .ok (.getfield 215, 3) := by decide +kernel
theorem dX7_isWordAt_16 : decode cX7_isWordAt 16 = .ok (.iconst 1, 1) := by decide +kernel
theorem dX7_isWordAt_17 : decode cX7_isWordAt 17 = .ok (.if_icmp .ne 85, 3) := by decide +kernel
theorem dX7_isWordAt_20 : decode cX7_isWordAt 20 = .ok (.aload_n 0, 1) := by decide +kernel
theorem dX7_isWordAt_21 : decode cX7_isWordAt 21 = .ok (.getfield 212, 3) := by decide +kernel
theorem dX7_isWordAt_24 : decode cX7_isWordAt 24 = .ok (.aload_n 0, 1) := by decide +kernel
theorem dX7_isWordAt_25 : decode cX7_isWordAt 25 = .ok (.getfield 218, 3) := by decide +kernel
theorem dX7_isWordAt_28 : decode cX7_isWordAt 28 = .ok (.isub, 1) := by decide +kernel
theorem dX7_isWordAt_29 : decode cX7_isWordAt 29 = .ok (.iload 5, 2) := by decide +kernel
theorem dX7_isWordAt_31 : decode cX7_isWordAt 31 = .ok (.if_icmp .ne 71, 3) := by decide +kernel
theorem dX7_isWordAt_34 : decode cX7_isWordAt 34 = .ok (.aload_n 0, 1) := by decide +kernel
theorem dX7_isWordAt_35 : decode cX7_isWordAt 35 = .ok (.getfield 52, 3) := by decide +kernel
theorem dX7_isWordAt_38 : decode cX7_isWordAt 38 = .ok (.aload_n 0, 1) := by decide +kernel
theorem dX7_isWordAt_39 : decode cX7_isWordAt 39 = .ok (.getfield 218, 3) := by decide +kernel
theorem dX7_isWordAt_42 : decode cX7_isWordAt 42 = .ok (.iaload, 1) := by decide +kernel
theorem dX7_isWordAt_43 : decode cX7_isWordAt 43 = .ok (.iload_n 1, 1) := by decide +kernel
theorem dX7_isWordAt_44 : decode cX7_isWordAt 44 = .ok (.if_icmp .ne 58, 3) := by decide +kernel
theorem dX7_isWordAt_47 : decode cX7_isWordAt 47 = .ok (.aload_n 0, 1) := by decide +kernel
theorem dX7_isWordAt_48 : decode cX7_isWordAt 48 = .ok (.getfield 52, 3) := by decide +kernel
theorem dX7_isWordAt_51 : decode cX7_isWordAt 51 = .ok (.aload_n 0, 1) := by decide +kernel
theorem dX7_isWordAt_52 : decode cX7_isWordAt 52 = .ok (.getfield 218, 3) := by decide +kernel
theorem dX7_isWordAt_55 : decode cX7_isWordAt 55 = .ok (.iconst 1, 1) := by decide +kernel
theorem dX7_isWordAt_56 : decode cX7_isWordAt 56 = .ok (.iadd, 1) := by decide +kernel
theorem dX7_isWordAt_57 : decode cX7_isWordAt 57 = .ok (.iaload, 1) := by decide +kernel
theorem dX7_isWordAt_58 : decode cX7_isWordAt 58 = .ok (.iload_n 2, 1) := by decide +kernel
theorem dX7_isWordAt_59 : decode cX7_isWordAt 59 = .ok (.if_icmp .ne 43, 3) := by decide +kernel
theorem dX7_isWordAt_62 : decode cX7_isWordAt 62 = .ok (.aload_n 0, 1) := by decide +kernel
theorem dX7_isWordAt_63 : decode cX7_isWordAt 63 = .ok (.getfield 52, 3) := by decide +kernel
theorem dX7_isWordAt_66 : decode cX7_isWordAt 66 = .ok (.aload_n 0, 1) := by decide +kernel
theorem dX7_isWordAt_67 : decode cX7_isWordAt 67 = .ok (.getfield 218, 3) := by decide +kernel
theorem dX7_isWordAt_70 : decode cX7_isWordAt 70 = .ok (.iconst 2, 1) := by decide +kernel
theorem dX7_isWordAt_71 : decode cX7_isWordAt 71 = .ok (.iadd, 1) := by decide +kernel
theorem dX7_isWordAt_72 : decode cX7_isWordAt 72 = .ok (.iaload, 1) := by decide +kernel
theorem dX7_isWordAt_73 : decode cX7_isWordAt 73 = .ok (.iload_n 3, 1) := by decide +kernel
theorem dX7_isWordAt_74 : decode cX7_isWordAt 74 = .ok (.if_icmp .ne 28, 3) := by decide +kernel
theorem dX7_isWordAt_77 : decode cX7_isWordAt 77 = .ok (.iload 4, 2) := by decide +kernel
theorem dX7_isWordAt_79 : decode cX7_isWordAt 79 = .ok (.ifCond .eq 19, 3) := by decide +kernel
theorem dX7_isWordAt_82 : decode cX7_isWordAt 82 = .ok (.aload_n 0, 1) := by decide +kernel
theorem dX7_isWordAt_83 : decode cX7_isWordAt 83 = .ok (.getfield 52, 3) := by decide +kernel
theorem dX7_isWordAt_86 : decode cX7_isWordAt 86 = .ok (.aload_n 0, 1) := by decide +kernel
theorem dX7_isWordAt_87 : decode cX7_isWordAt 87 = .ok (.getfield 218, 3) := by decide +kernel
theorem dX7_isWordAt_90 : decode cX7_isWordAt 90 = .ok (.iconst 3, 1) := by decide +kernel
theorem dX7_isWordAt_91 : decode cX7_isWordAt 91 = .ok (.iadd, 1) := by decide +kernel
theorem dX7_isWordAt_92 : decode cX7_isWordAt 92 = .ok (.iaload, 1) := by decide +kernel
theorem dX7_isWordAt_93 : decode cX7_isWordAt 93 = .ok (.iload 4, 2) := by decide +kernel
theorem dX7_isWordAt_95 : decode cX7_isWordAt 95 = .ok (.if_icmp .ne 7, 3) := by decide +kernel
theorem dX7_isWordAt_98 : decode cX7_isWordAt 98 = .ok (.iconst 1, 1) := by decide +kernel
theorem dX7_isWordAt_99 : decode cX7_isWordAt 99 = .ok (.goto 4, 3) := by decide +kernel
theorem dX7_isWordAt_102 : decode cX7_isWordAt 102 = .ok (.iconst 0, 1) := by decide +kernel
theorem dX7_isWordAt_103 : decode cX7_isWordAt 103 = .ok (.ireturn, 1) := by decide +kernel
theorem dX7_key_0 : decode cX7_key 0 = .ok (.aload_n 0, 1) := by decide +kernel
theorem dX7_key_1 : decode cX7_key 1 = .ok (.bipush 112, 2) := by decide +kernel
theorem dX7_key_3 : decode cX7_key 3 = .ok (.bipush 117, 2) := by decide +kernel
theorem dX7_key_5 : decode cX7_key 5 = .ok (.bipush 115, 2) := by decide +kernel
theorem dX7_key_7 : decode cX7_key 7 = .ok (.bipush 104, 2) := by decide +kernel
theorem dX7_key_9 : decode cX7_key 9 = .ok (.invokevirtual 233, 3) := by decide +kernel
theorem dX7_key_12 : decode cX7_key 12 = .ok (.ifCond .eq 5, 3) := by decide +kernel
theorem dX7_key_15 : decode cX7_key 15 = .ok (.iconst 0, 1) := by decide +kernel
theorem dX7_key_16 : decode cX7_key 16 = .ok (.ireturn, 1) := by decide +kernel
theorem dX7_key_17 : decode cX7_key 17 = .ok (.aload_n 0, 1) := by decide +kernel
theorem dX7_key_18 : decode cX7_key 18 = .ok (.bipush 102, 2) := by decide +kernel
theorem dX7_key_20 : decode cX7_key 20 = .ok (.bipush 101, 2) := by decide +kernel
theorem dX7_key_22 : decode cX7_key 22 = .ok (.bipush 101, 2) := by decide +kernel
theorem dX7_key_24 : decode cX7_key 24 = .ok (.iconst 0, 1) := by decide +kernel
theorem dX7_key_25 : decode cX7_key 25 = .ok (.invokevirtual 233, 3) := by decide +kernel
theorem dX7_key_28 : decode cX7_key 28 = .ok (.ifCond .eq 5, 3) := by decide +kernel
theorem dX7_key_31 : decode cX7_key 31 = .ok (.iconst 1, 1) := by decide +kernel
theorem dX7_key_32 : decode cX7_key 32 = .ok (.ireturn, 1) := by decide +kernel
theorem dX7_key_33 : decode cX7_key 33 = .ok (.aload_n 0, 1) := by decide +kernel
theorem dX7_key_34 : decode cX7_key 34 = .ok (.bipush 102, 2) := by decide +kernel
theorem dX7_key_36 : decode cX7_key 36 = .ok (.bipush 105, 2) := by decide +kernel
theorem dX7_key_38 : decode cX7_key 38 = .ok (.bipush 110, 2) := by decide +kernel
theorem dX7_key_40 : decode cX7_key 40 = .ok (.bipush 101, 2) := by decide +kernel
theorem dX7_key_42 : decode cX7_key 42 = .ok (.invokevirtual 233, 3) := by decide +kernel
theorem dX7_key_45 : decode cX7_key 45 = .ok (.ifCond .eq 7, 3) := by decide +kernel
theorem dX7_key_48 : decode cX7_key 48 = .ok (.iconst 2, 1) := by decide +kernel
theorem dX7_key_49 : decode cX7_key 49 = .ok (.goto 4, 3) := by decide +kernel
theorem dX7_key_52 : decode cX7_key 52 = .ok (.iconst (-1), 1) := by decide +kernel
theorem dX7_key_53 : decode cX7_key 53 = .ok (.ireturn, 1) := by decide +kernel
theorem dX7_isName_0 : decode cX7_isName 0 = .ok (.iload_n 0, 1) := by decide +kernel
theorem dX7_isName_1 : decode cX7_isName 1 = .ok (.lookupswitch 69 #[(0, 27), (1, 51)], 27) := by decide +kernel
theorem dX7_isName_28 : decode cX7_isName 28 = .ok (.iload_n 1, 1) := by decide +kernel
theorem dX7_isName_29 : decode cX7_isName 29 = .ok (.bipush 119, 2) := by decide +kernel
theorem dX7_isName_31 : decode cX7_isName 31 = .ok (.if_icmp .eq 15, 3) := by decide +kernel
theorem dX7_isName_34 : decode cX7_isName 34 = .ok (.iload_n 1, 1) := by decide +kernel
theorem dX7_isName_35 : decode cX7_isName 35 = .ok (.bipush 108, 2) := by decide +kernel
theorem dX7_isName_37 : decode cX7_isName 37 = .ok (.if_icmp .eq 9, 3) := by decide +kernel
theorem dX7_isName_40 : decode cX7_isName 40 = .ok (.iload_n 1, 1) := by decide +kernel
theorem dX7_isName_41 : decode cX7_isName 41 = .ok (.bipush 99, 2) := by decide +kernel
theorem dX7_isName_43 : decode cX7_isName 43 = .ok (.if_icmp .ne 7, 3) := by decide +kernel
theorem dX7_isName_46 : decode cX7_isName 46 = .ok (.iconst 1, 1) := by decide +kernel
theorem dX7_isName_47 : decode cX7_isName 47 = .ok (.goto 4, 3) := by decide +kernel
theorem dX7_isName_50 : decode cX7_isName 50 = .ok (.iconst 0, 1) := by decide +kernel
theorem dX7_isName_51 : decode cX7_isName 51 = .ok (.ireturn, 1) := by decide +kernel
theorem dX7_isName_52 : decode cX7_isName 52 = .ok (.iload_n 1, 1) := by decide +kernel
theorem dX7_isName_53 : decode cX7_isName 53 = .ok (.bipush 114, 2) := by decide +kernel
theorem dX7_isName_55 : decode cX7_isName 55 = .ok (.if_icmp .eq 9, 3) := by decide +kernel
theorem dX7_isName_58 : decode cX7_isName 58 = .ok (.iload_n 1, 1) := by decide +kernel
theorem dX7_isName_59 : decode cX7_isName 59 = .ok (.bipush 100, 2) := by decide +kernel
theorem dX7_isName_61 : decode cX7_isName 61 = .ok (.if_icmp .ne 7, 3) := by decide +kernel
theorem dX7_isName_64 : decode cX7_isName 64 = .ok (.iconst 1, 1) := by decide +kernel
theorem dX7_isName_65 : decode cX7_isName 65 = .ok (.goto 4, 3) := by decide +kernel
theorem dX7_isName_68 : decode cX7_isName 68 = .ok (.iconst 0, 1) := by decide +kernel
theorem dX7_isName_69 : decode cX7_isName 69 = .ok (.ireturn, 1) := by decide +kernel
theorem dX7_isName_70 : decode cX7_isName 70 = .ok (.iload_n 1, 1) := by decide +kernel
theorem dX7_isName_71 : decode cX7_isName 71 = .ok (.bipush 99, 2) := by decide +kernel
theorem dX7_isName_73 : decode cX7_isName 73 = .ok (.if_icmp .eq 9, 3) := by decide +kernel
theorem dX7_isName_76 : decode cX7_isName 76 = .ok (.iload_n 1, 1) := by decide +kernel
theorem dX7_isName_77 : decode cX7_isName 77 = .ok (.bipush 112, 2) := by decide +kernel
theorem dX7_isName_79 : decode cX7_isName 79 = .ok (.if_icmp .ne 7, 3) := by decide +kernel
theorem dX7_isName_82 : decode cX7_isName 82 = .ok (.iconst 1, 1) := by decide +kernel
theorem dX7_isName_83 : decode cX7_isName 83 = .ok (.goto 4, 3) := by decide +kernel
theorem dX7_isName_86 : decode cX7_isName 86 = .ok (.iconst 0, 1) := by decide +kernel
theorem dX7_isName_87 : decode cX7_isName 87 = .ok (.ireturn, 1) := by decide +kernel
theorem dX7_step_0 : decode cX7_step 0 = .ok (.aload_n 0, 1) := by decide +kernel
theorem dX7_step_1 : decode cX7_step 1 = .ok (.getfield 7, 3) := by decide +kernel
theorem dX7_step_4 : decode cX7_step 4 = .ok (.aload_n 0, 1) := by decide +kernel
theorem dX7_step_5 : decode cX7_step 5 = .ok (.getfield 237, 3) := by decide +kernel
theorem dX7_step_8 : decode cX7_step 8 = .ok (.iconst 2, 1) := by decide +kernel
theorem dX7_step_9 : decode cX7_step 9 = .ok (.aload_n 0, 1) := by decide +kernel
theorem dX7_step_10 : decode cX7_step 10 = .ok (.getfield 240, 3) := by decide +kernel
theorem dX7_step_13 : decode cX7_step 13 = .ok (.imul, 1) := by decide +kernel
theorem dX7_step_14 : decode cX7_step 14 = .ok (.iadd, 1) := by decide +kernel
theorem dX7_step_15 : decode cX7_step 15 = .ok (.iload_n 1, 1) := by decide +kernel
theorem dX7_step_16 : decode cX7_step 16 = .ok (.iastore, 1) := by decide +kernel
theorem dX7_step_17 : decode cX7_step 17 = .ok (.aload_n 0, 1) := by decide +kernel
theorem dX7_step_18 : decode cX7_step 18 = .ok (.getfield 7, 3) := by decide +kernel
theorem dX7_step_21 : decode cX7_step 21 = .ok (.aload_n 0, 1) := by decide +kernel
theorem dX7_step_22 : decode cX7_step 22 = .ok (.getfield 237, 3) := by decide +kernel
theorem dX7_step_25 : decode cX7_step 25 = .ok (.iconst 2, 1) := by decide +kernel
theorem dX7_step_26 : decode cX7_step 26 = .ok (.aload_n 0, 1) := by decide +kernel
theorem dX7_step_27 : decode cX7_step 27 = .ok (.getfield 240, 3) := by decide +kernel
theorem dX7_step_30 : decode cX7_step 30 = .ok (.imul, 1) := by decide +kernel
theorem dX7_step_31 : decode cX7_step 31 = .ok (.iadd, 1) := by decide +kernel
theorem dX7_step_32 : decode cX7_step 32 = .ok (.iconst 1, 1) := by decide +kernel
theorem dX7_step_33 : decode cX7_step 33 = .ok (.iadd, 1) := by decide +kernel
theorem dX7_step_34 : decode cX7_step 34 = .ok (.iload_n 2, 1) := by decide +kernel
theorem dX7_step_35 : decode cX7_step 35 = .ok (.iastore, 1) := by decide +kernel
theorem dX7_step_36 : decode cX7_step 36 = .ok (.aload_n 0, 1) := by decide +kernel
theorem dX7_step_37 : decode cX7_step 37 = .ok (.dup, 1) := by decide +kernel
theorem dX7_step_38 : decode cX7_step 38 = .ok (.getfield 240, 3) := by decide +kernel
theorem dX7_step_41 : decode cX7_step 41 = .ok (.iconst 1, 1) := by decide +kernel
theorem dX7_step_42 : decode cX7_step 42 = .ok (.iadd, 1) := by decide +kernel
theorem dX7_step_43 : decode cX7_step 43 = .ok (.putfield 240, 3) := by decide +kernel
theorem dX7_step_46 : decode cX7_step 46 = .ok (.return_, 1) := by decide +kernel
theorem dX7_either_0 : decode cX7_either 0 = .ok (.aload_n 0, 1) := by decide +kernel
theorem dX7_either_1 : decode cX7_either 1 = .ok (.iload_n 1, 1) := by decide +kernel
theorem dX7_either_2 : decode cX7_either 2 = .ok (.invokevirtual 243, 3) := by decide +kernel
theorem dX7_either_5 : decode cX7_either 5 = .ok (.ifCond .ne 5, 3) := by decide +kernel
theorem dX7_either_8 : decode cX7_either 8 = .ok (.iconst 0, 1) := by decide +kernel
theorem dX7_either_9 : decode cX7_either 9 = .ok (.ireturn, 1) := by decide +kernel
theorem dX7_either_10 : decode cX7_either 10 = .ok (.aload_n 0, 1) := by decide +kernel
theorem dX7_either_11 : decode cX7_either 11 = .ok (.bipush 124, 2) := by decide +kernel
theorem dX7_either_13 : decode cX7_either 13 = .ok (.invokevirtual 246, 3) := by decide +kernel
theorem dX7_either_16 : decode cX7_either 16 = .ok (.ifCond .eq 27, 3) := by decide +kernel
theorem dX7_either_19 : decode cX7_either 19 = .ok (.aload_n 0, 1) := by decide +kernel
theorem dX7_either_20 : decode cX7_either 20 = .ok (.invokevirtual 249, 3) := by decide +kernel
theorem dX7_either_23 : decode cX7_either 23 = .ok (.aload_n 0, 1) := by decide +kernel
theorem dX7_either_24 : decode cX7_either 24 = .ok (.iload_n 1, 1) := by decide +kernel
theorem dX7_either_25 : decode cX7_either 25 = .ok (.invokevirtual 243, 3) := by decide +kernel
theorem dX7_either_28 : decode cX7_either 28 = .ok (.ifCond .ne 5, 3) := by decide +kernel
theorem dX7_either_31 : decode cX7_either 31 = .ok (.iconst 0, 1) := by decide +kernel
theorem dX7_either_32 : decode cX7_either 32 = .ok (.ireturn, 1) := by decide +kernel
theorem dX7_either_33 : decode cX7_either 33 = .ok (.aload_n 0, 1) := by decide +kernel
theorem dX7_either_34 : decode cX7_either 34 = .ok (.iconst 2, 1) := by decide +kernel
theorem dX7_either_35 : decode cX7_either 35 = .ok (.bipush 124, 2) := by decide +kernel
theorem dX7_either_37 : decode cX7_either 37 = .ok (.invokevirtual 252, 3) := by decide +kernel
theorem dX7_either_40 : decode cX7_either 40 = .ok (.goto (-30), 3) := by decide +kernel
theorem dX7_either_43 : decode cX7_either 43 = .ok (.iconst 1, 1) := by decide +kernel
theorem dX7_either_44 : decode cX7_either 44 = .ok (.ireturn, 1) := by decide +kernel
theorem dX7_both_0 : decode cX7_both 0 = .ok (.aload_n 0, 1) := by decide +kernel
theorem dX7_both_1 : decode cX7_both 1 = .ok (.iload_n 1, 1) := by decide +kernel
theorem dX7_both_2 : decode cX7_both 2 = .ok (.invokevirtual 256, 3) := by decide +kernel
theorem dX7_both_5 : decode cX7_both 5 = .ok (.ifCond .ne 5, 3) := by decide +kernel
theorem dX7_both_8 : decode cX7_both 8 = .ok (.iconst 0, 1) := by decide +kernel
theorem dX7_both_9 : decode cX7_both 9 = .ok (.ireturn, 1) := by decide +kernel
theorem dX7_both_10 : decode cX7_both 10 = .ok (.aload_n 0, 1) := by decide +kernel
theorem dX7_both_11 : decode cX7_both 11 = .ok (.bipush 38, 2) := by decide +kernel
theorem dX7_both_13 : decode cX7_both 13 = .ok (.invokevirtual 246, 3) := by decide +kernel
theorem dX7_both_16 : decode cX7_both 16 = .ok (.ifCond .eq 27, 3) := by decide +kernel
theorem dX7_both_19 : decode cX7_both 19 = .ok (.aload_n 0, 1) := by decide +kernel
theorem dX7_both_20 : decode cX7_both 20 = .ok (.invokevirtual 249, 3) := by decide +kernel
theorem dX7_both_23 : decode cX7_both 23 = .ok (.aload_n 0, 1) := by decide +kernel
theorem dX7_both_24 : decode cX7_both 24 = .ok (.iload_n 1, 1) := by decide +kernel
theorem dX7_both_25 : decode cX7_both 25 = .ok (.invokevirtual 256, 3) := by decide +kernel
theorem dX7_both_28 : decode cX7_both 28 = .ok (.ifCond .ne 5, 3) := by decide +kernel
theorem dX7_both_31 : decode cX7_both 31 = .ok (.iconst 0, 1) := by decide +kernel
theorem dX7_both_32 : decode cX7_both 32 = .ok (.ireturn, 1) := by decide +kernel
theorem dX7_both_33 : decode cX7_both 33 = .ok (.aload_n 0, 1) := by decide +kernel
theorem dX7_both_34 : decode cX7_both 34 = .ok (.iconst 2, 1) := by decide +kernel
theorem dX7_both_35 : decode cX7_both 35 = .ok (.bipush 38, 2) := by decide +kernel
theorem dX7_both_37 : decode cX7_both 37 = .ok (.invokevirtual 252, 3) := by decide +kernel
theorem dX7_both_40 : decode cX7_both 40 = .ok (.goto (-30), 3) := by decide +kernel
theorem dX7_both_43 : decode cX7_both 43 = .ok (.iconst 1, 1) := by decide +kernel
theorem dX7_both_44 : decode cX7_both 44 = .ok (.ireturn, 1) := by decide +kernel
theorem dX7_test_0 : decode cX7_test 0 = .ok (.aload_n 0, 1) := by decide +kernel
theorem dX7_test_1 : decode cX7_test 1 = .ok (.iload_n 1, 1) := by decide +kernel
theorem dX7_test_2 : decode cX7_test 2 = .ok (.invokevirtual 259, 3) := by decide +kernel
theorem dX7_test_5 : decode cX7_test 5 = .ok (.ifCond .ne 5, 3) := by decide +kernel
theorem dX7_test_8 : decode cX7_test 8 = .ok (.iconst 0, 1) := by decide +kernel
theorem dX7_test_9 : decode cX7_test 9 = .ok (.ireturn, 1) := by decide +kernel
theorem dX7_test_10 : decode cX7_test 10 = .ok (.aload_n 0, 1) := by decide +kernel
theorem dX7_test_11 : decode cX7_test 11 = .ok (.bipush 60, 2) := by decide +kernel
theorem dX7_test_13 : decode cX7_test 13 = .ok (.invokevirtual 246, 3) := by decide +kernel
theorem dX7_test_16 : decode cX7_test 16 = .ok (.ifCond .ne 21, 3) := by decide +kernel
theorem dX7_test_19 : decode cX7_test 19 = .ok (.aload_n 0, 1) := by decide +kernel
theorem dX7_test_20 : decode cX7_test 20 = .ok (.bipush 61, 2) := by decide +kernel
theorem dX7_test_22 : decode cX7_test 22 = .ok (.invokevirtual 246, 3) := by decide +kernel
theorem dX7_test_25 : decode cX7_test 25 = .ok (.ifCond .ne 12, 3) := by decide +kernel
theorem dX7_test_28 : decode cX7_test 28 = .ok (.aload_n 0, 1) := by decide +kernel
theorem dX7_test_29 : decode cX7_test 29 = .ok (.bipush 62, 2) := by decide +kernel
theorem dX7_test_31 : decode cX7_test 31 = .ok (.invokevirtual 246, 3) := by decide +kernel
theorem dX7_test_34 : decode cX7_test 34 = .ok (.ifCond .eq 28, 3) := by decide +kernel
theorem dX7_test_37 : decode cX7_test 37 = .ok (.aload_n 0, 1) := by decide +kernel
theorem dX7_test_38 : decode cX7_test 38 = .ok (.getfield 224, 3) := by decide +kernel
theorem dX7_test_41 : decode cX7_test 41 = .ok (.istore_n 2, 1) := by decide +kernel
theorem dX7_test_42 : decode cX7_test 42 = .ok (.aload_n 0, 1) := by decide +kernel
theorem dX7_test_43 : decode cX7_test 43 = .ok (.invokevirtual 249, 3) := by decide +kernel
theorem dX7_test_46 : decode cX7_test 46 = .ok (.aload_n 0, 1) := by decide +kernel
theorem dX7_test_47 : decode cX7_test 47 = .ok (.iload_n 1, 1) := by decide +kernel
theorem dX7_test_48 : decode cX7_test 48 = .ok (.invokevirtual 259, 3) := by decide +kernel
theorem dX7_test_51 : decode cX7_test 51 = .ok (.ifCond .ne 5, 3) := by decide +kernel
theorem dX7_test_54 : decode cX7_test 54 = .ok (.iconst 0, 1) := by decide +kernel
theorem dX7_test_55 : decode cX7_test 55 = .ok (.ireturn, 1) := by decide +kernel
theorem dX7_test_56 : decode cX7_test 56 = .ok (.aload_n 0, 1) := by decide +kernel
theorem dX7_test_57 : decode cX7_test 57 = .ok (.iconst 2, 1) := by decide +kernel
theorem dX7_test_58 : decode cX7_test 58 = .ok (.iload_n 2, 1) := by decide +kernel
theorem dX7_test_59 : decode cX7_test 59 = .ok (.invokevirtual 252, 3) := by decide +kernel
theorem dX7_test_62 : decode cX7_test 62 = .ok (.iconst 1, 1) := by decide +kernel
theorem dX7_test_63 : decode cX7_test 63 = .ok (.ireturn, 1) := by decide +kernel
theorem dX7_sum_0 : decode cX7_sum 0 = .ok (.aload_n 0, 1) := by decide +kernel
theorem dX7_sum_1 : decode cX7_sum 1 = .ok (.iload_n 1, 1) := by decide +kernel
theorem dX7_sum_2 : decode cX7_sum 2 = .ok (.invokevirtual 262, 3) := by decide +kernel
theorem dX7_sum_5 : decode cX7_sum 5 = .ok (.ifCond .ne 5, 3) := by decide +kernel
theorem dX7_sum_8 : decode cX7_sum 8 = .ok (.iconst 0, 1) := by decide +kernel
theorem dX7_sum_9 : decode cX7_sum 9 = .ok (.ireturn, 1) := by decide +kernel
theorem dX7_sum_10 : decode cX7_sum 10 = .ok (.aload_n 0, 1) := by decide +kernel
theorem dX7_sum_11 : decode cX7_sum 11 = .ok (.bipush 43, 2) := by decide +kernel
theorem dX7_sum_13 : decode cX7_sum 13 = .ok (.invokevirtual 246, 3) := by decide +kernel
theorem dX7_sum_16 : decode cX7_sum 16 = .ok (.ifCond .ne 12, 3) := by decide +kernel
theorem dX7_sum_19 : decode cX7_sum 19 = .ok (.aload_n 0, 1) := by decide +kernel
theorem dX7_sum_20 : decode cX7_sum 20 = .ok (.bipush 45, 2) := by decide +kernel
theorem dX7_sum_22 : decode cX7_sum 22 = .ok (.invokevirtual 246, 3) := by decide +kernel
theorem dX7_sum_25 : decode cX7_sum 25 = .ok (.ifCond .eq 31, 3) := by decide +kernel
theorem dX7_sum_28 : decode cX7_sum 28 = .ok (.aload_n 0, 1) := by decide +kernel
theorem dX7_sum_29 : decode cX7_sum 29 = .ok (.getfield 224, 3) := by decide +kernel
theorem dX7_sum_32 : decode cX7_sum 32 = .ok (.istore_n 2, 1) := by decide +kernel
theorem dX7_sum_33 : decode cX7_sum 33 = .ok (.aload_n 0, 1) := by decide +kernel
theorem dX7_sum_34 : decode cX7_sum 34 = .ok (.invokevirtual 249, 3) := by decide +kernel
theorem dX7_sum_37 : decode cX7_sum 37 = .ok (.aload_n 0, 1) := by decide +kernel
theorem dX7_sum_38 : decode cX7_sum 38 = .ok (.iload_n 1, 1) := by decide +kernel
theorem dX7_sum_39 : decode cX7_sum 39 = .ok (.invokevirtual 262, 3) := by decide +kernel
theorem dX7_sum_42 : decode cX7_sum 42 = .ok (.ifCond .ne 5, 3) := by decide +kernel
theorem dX7_sum_45 : decode cX7_sum 45 = .ok (.iconst 0, 1) := by decide +kernel
theorem dX7_sum_46 : decode cX7_sum 46 = .ok (.ireturn, 1) := by decide +kernel
theorem dX7_sum_47 : decode cX7_sum 47 = .ok (.aload_n 0, 1) := by decide +kernel
theorem dX7_sum_48 : decode cX7_sum 48 = .ok (.iconst 2, 1) := by decide +kernel
theorem dX7_sum_49 : decode cX7_sum 49 = .ok (.iload_n 2, 1) := by decide +kernel
theorem dX7_sum_50 : decode cX7_sum 50 = .ok (.invokevirtual 252, 3) := by decide +kernel
theorem dX7_sum_53 : decode cX7_sum 53 = .ok (.goto (-43), 3) := by decide +kernel
theorem dX7_sum_56 : decode cX7_sum 56 = .ok (.iconst 1, 1) := by decide +kernel
theorem dX7_sum_57 : decode cX7_sum 57 = .ok (.ireturn, 1) := by decide +kernel
theorem dX7_term_0 : decode cX7_term 0 = .ok (.aload_n 0, 1) := by decide +kernel
theorem dX7_term_1 : decode cX7_term 1 = .ok (.iload_n 1, 1) := by decide +kernel
theorem dX7_term_2 : decode cX7_term 2 = .ok (.invokevirtual 265, 3) := by decide +kernel
theorem dX7_term_5 : decode cX7_term 5 = .ok (.ifCond .ne 5, 3) := by decide +kernel
theorem dX7_term_8 : decode cX7_term 8 = .ok (.iconst 0, 1) := by decide +kernel
theorem dX7_term_9 : decode cX7_term 9 = .ok (.ireturn, 1) := by decide +kernel
theorem dX7_term_10 : decode cX7_term 10 = .ok (.aload_n 0, 1) := by decide +kernel
theorem dX7_term_11 : decode cX7_term 11 = .ok (.bipush 42, 2) := by decide +kernel
theorem dX7_term_13 : decode cX7_term 13 = .ok (.invokevirtual 246, 3) := by decide +kernel
theorem dX7_term_16 : decode cX7_term 16 = .ok (.ifCond .ne 12, 3) := by decide +kernel
theorem dX7_term_19 : decode cX7_term 19 = .ok (.aload_n 0, 1) := by decide +kernel
theorem dX7_term_20 : decode cX7_term 20 = .ok (.bipush 47, 2) := by decide +kernel
theorem dX7_term_22 : decode cX7_term 22 = .ok (.invokevirtual 246, 3) := by decide +kernel
theorem dX7_term_25 : decode cX7_term 25 = .ok (.ifCond .eq 31, 3) := by decide +kernel
theorem dX7_term_28 : decode cX7_term 28 = .ok (.aload_n 0, 1) := by decide +kernel
theorem dX7_term_29 : decode cX7_term 29 = .ok (.getfield 224, 3) := by decide +kernel
theorem dX7_term_32 : decode cX7_term 32 = .ok (.istore_n 2, 1) := by decide +kernel
theorem dX7_term_33 : decode cX7_term 33 = .ok (.aload_n 0, 1) := by decide +kernel
theorem dX7_term_34 : decode cX7_term 34 = .ok (.invokevirtual 249, 3) := by decide +kernel
theorem dX7_term_37 : decode cX7_term 37 = .ok (.aload_n 0, 1) := by decide +kernel
theorem dX7_term_38 : decode cX7_term 38 = .ok (.iload_n 1, 1) := by decide +kernel
theorem dX7_term_39 : decode cX7_term 39 = .ok (.invokevirtual 265, 3) := by decide +kernel
theorem dX7_term_42 : decode cX7_term 42 = .ok (.ifCond .ne 5, 3) := by decide +kernel
theorem dX7_term_45 : decode cX7_term 45 = .ok (.iconst 0, 1) := by decide +kernel
theorem dX7_term_46 : decode cX7_term 46 = .ok (.ireturn, 1) := by decide +kernel
theorem dX7_term_47 : decode cX7_term 47 = .ok (.aload_n 0, 1) := by decide +kernel
theorem dX7_term_48 : decode cX7_term 48 = .ok (.iconst 2, 1) := by decide +kernel
theorem dX7_term_49 : decode cX7_term 49 = .ok (.iload_n 2, 1) := by decide +kernel
theorem dX7_term_50 : decode cX7_term 50 = .ok (.invokevirtual 252, 3) := by decide +kernel
theorem dX7_term_53 : decode cX7_term 53 = .ok (.goto (-43), 3) := by decide +kernel
theorem dX7_term_56 : decode cX7_term 56 = .ok (.iconst 1, 1) := by decide +kernel
theorem dX7_term_57 : decode cX7_term 57 = .ok (.ireturn, 1) := by decide +kernel
theorem dX7_part0_0 : decode cX7_part0 0 = .ok (.aload_n 0, 1) := by decide +kernel
theorem dX7_part0_1 : decode cX7_part0 1 = .ok (.getfield 215, 3) := by decide +kernel
theorem dX7_part0_4 : decode cX7_part0 4 = .ok (.iconst 2, 1) := by decide +kernel
theorem dX7_part0_5 : decode cX7_part0 5 = .ok (.if_icmp .ne 28, 3) := by decide +kernel
theorem dX7_part0_8 : decode cX7_part0 8 = .ok (.aload_n 0, 1) := by decide +kernel
theorem dX7_part0_9 : decode cX7_part0 9 = .ok (.iconst 0, 1) := by decide +kernel
theorem dX7_part0_10 : decode cX7_part0 10 = .ok (.aload_n 0, 1) := by decide +kernel
theorem dX7_part0_11 : decode cX7_part0 11 = .ok (.getfield 230, 3) := by decide +kernel
theorem dX7_part0_14 : decode cX7_part0 14 = .ok (.invokevirtual 252, 3) := by decide +kernel
theorem dX7_part0_17 : decode cX7_part0 17 = .ok (.aload_n 0, 1) := by decide +kernel
theorem dX7_part0_18 : decode cX7_part0 18 = .ok (.dup, 1) := by decide +kernel
theorem dX7_part0_19 : decode cX7_part0 19 = .ok (.getfield 268, 3) := by decide +kernel
theorem dX7_part0_22 : decode cX7_part0 22 = .ok (.iconst 1, 1) := by decide +kernel
theorem dX7_part0_23 : decode cX7_part0 23 = .ok (.iadd, 1) := by decide +kernel
theorem dX7_part0_24 : decode cX7_part0 24 = .ok (.putfield 268, 3) := by decide +kernel
theorem dX7_part0_27 : decode cX7_part0 27 = .ok (.aload_n 0, 1) := by decide +kernel
theorem dX7_part0_28 : decode cX7_part0 28 = .ok (.invokevirtual 249, 3) := by decide +kernel
theorem dX7_part0_31 : decode cX7_part0 31 = .ok (.iconst 1, 1) := by decide +kernel
theorem dX7_part0_32 : decode cX7_part0 32 = .ok (.ireturn, 1) := by decide +kernel
theorem dX7_part0_33 : decode cX7_part0 33 = .ok (.aload_n 0, 1) := by decide +kernel
theorem dX7_part0_34 : decode cX7_part0 34 = .ok (.getfield 215, 3) := by decide +kernel
theorem dX7_part0_37 : decode cX7_part0 37 = .ok (.iconst 1, 1) := by decide +kernel
theorem dX7_part0_38 : decode cX7_part0 38 = .ok (.if_icmp .ne 46, 3) := by decide +kernel
theorem dX7_part0_41 : decode cX7_part0 41 = .ok (.aload_n 0, 1) := by decide +kernel
theorem dX7_part0_42 : decode cX7_part0 42 = .ok (.getfield 224, 3) := by decide +kernel
theorem dX7_part0_45 : decode cX7_part0 45 = .ok (.ifCond .eq 39, 3) := by decide +kernel
theorem dX7_part0_48 : decode cX7_part0 48 = .ok (.iload_n 1, 1) := by decide +kernel
theorem dX7_part0_49 : decode cX7_part0 49 = .ok (.aload_n 0, 1) := by decide +kernel
theorem dX7_part0_50 : decode cX7_part0 50 = .ok (.getfield 224, 3) := by decide +kernel
theorem dX7_part0_53 : decode cX7_part0 53 = .ok (.invokestatic 271, 3) := by decide +kernel
theorem dX7_part0_56 : decode cX7_part0 56 = .ok (.ifCond .eq 28, 3) := by decide +kernel
theorem dX7_part0_59 : decode cX7_part0 59 = .ok (.aload_n 0, 1) := by decide +kernel
theorem dX7_part0_60 : decode cX7_part0 60 = .ok (.iconst 1, 1) := by decide +kernel
theorem dX7_part0_61 : decode cX7_part0 61 = .ok (.aload_n 0, 1) := by decide +kernel
theorem dX7_part0_62 : decode cX7_part0 62 = .ok (.getfield 224, 3) := by decide +kernel
theorem dX7_part0_65 : decode cX7_part0 65 = .ok (.invokevirtual 252, 3) := by decide +kernel
theorem dX7_part0_68 : decode cX7_part0 68 = .ok (.aload_n 0, 1) := by decide +kernel
theorem dX7_part0_69 : decode cX7_part0 69 = .ok (.dup, 1) := by decide +kernel
theorem dX7_part0_70 : decode cX7_part0 70 = .ok (.getfield 268, 3) := by decide +kernel
theorem dX7_part0_73 : decode cX7_part0 73 = .ok (.iconst 1, 1) := by decide +kernel
theorem dX7_part0_74 : decode cX7_part0 74 = .ok (.iadd, 1) := by decide +kernel
theorem dX7_part0_75 : decode cX7_part0 75 = .ok (.putfield 268, 3) := by decide +kernel
theorem dX7_part0_78 : decode cX7_part0 78 = .ok (.aload_n 0, 1) := by decide +kernel
theorem dX7_part0_79 : decode cX7_part0 79 = .ok (.invokevirtual 249, 3) := by decide +kernel
theorem dX7_part0_82 : decode cX7_part0 82 = .ok (.iconst 1, 1) := by decide +kernel
theorem dX7_part0_83 : decode cX7_part0 83 = .ok (.ireturn, 1) := by decide +kernel
theorem dX7_part0_84 : decode cX7_part0 84 = .ok (.aload_n 0, 1) := by decide +kernel
theorem dX7_part0_85 : decode cX7_part0 85 = .ok (.bipush 33, 2) := by decide +kernel
theorem dX7_part0_87 : decode cX7_part0 87 = .ok (.invokevirtual 246, 3) := by decide +kernel
theorem dX7_part0_90 : decode cX7_part0 90 = .ok (.ifCond .eq 55, 3) := by decide +kernel
theorem dX7_part0_93 : decode cX7_part0 93 = .ok (.aload_n 0, 1) := by decide +kernel
theorem dX7_part0_94 : decode cX7_part0 94 = .ok (.getfield 274, 3) := by decide +kernel
theorem dX7_part0_97 : decode cX7_part0 97 = .ok (.bipush 8, 2) := by decide +kernel
theorem dX7_part0_99 : decode cX7_part0 99 = .ok (.if_icmp .ge 46, 3) := by decide +kernel
theorem dX7_part0_102 : decode cX7_part0 102 = .ok (.aload_n 0, 1) := by decide +kernel
theorem dX7_part0_103 : decode cX7_part0 103 = .ok (.dup, 1) := by decide +kernel
theorem dX7_part0_104 : decode cX7_part0 104 = .ok (.getfield 274, 3) := by decide +kernel
theorem dX7_part0_107 : decode cX7_part0 107 = .ok (.iconst 1, 1) := by decide +kernel
theorem dX7_part0_108 : decode cX7_part0 108 = .ok (.iadd, 1) := by decide +kernel
theorem dX7_part0_109 : decode cX7_part0 109 = .ok (.putfield 274, 3) := by decide +kernel
theorem dX7_part0_112 : decode cX7_part0 112 = .ok (.aload_n 0, 1) := by decide +kernel
theorem dX7_part0_113 : decode cX7_part0 113 = .ok (.invokevirtual 249, 3) := by decide +kernel
theorem dX7_part0_116 : decode cX7_part0 116 = .ok (.aload_n 0, 1) := by decide +kernel
theorem dX7_part0_117 : decode cX7_part0 117 = .ok (.iload_n 1, 1) := by decide +kernel
theorem dX7_part0_118 : decode cX7_part0 118 = .ok (.invokevirtual 265, 3) := by decide +kernel
theorem dX7_part0_121 : decode cX7_part0 121 = .ok (.ifCond .ne 5, 3) := by decide +kernel
theorem dX7_part0_124 : decode cX7_part0 124 = .ok (.iconst 0, 1) := by decide +kernel
theorem dX7_part0_125 : decode cX7_part0 125 = .ok (.ireturn, 1) := by decide +kernel
theorem dX7_part0_126 : decode cX7_part0 126 = .ok (.aload_n 0, 1) := by decide +kernel
theorem dX7_part0_127 : decode cX7_part0 127 = .ok (.dup, 1) := by decide +kernel
theorem dX7_part0_128 : decode cX7_part0 128 = .ok (.getfield 274, 3) := by decide +kernel
theorem dX7_part0_131 : decode cX7_part0 131 = .ok (.iconst 1, 1) := by decide +kernel
theorem dX7_part0_132 : decode cX7_part0 132 = .ok (.isub, 1) := by decide +kernel
theorem dX7_part0_133 : decode cX7_part0 133 = .ok (.putfield 274, 3) := by decide +kernel
theorem dX7_part0_136 : decode cX7_part0 136 = .ok (.aload_n 0, 1) := by decide +kernel
theorem dX7_part0_137 : decode cX7_part0 137 = .ok (.iconst 2, 1) := by decide +kernel
theorem dX7_part0_138 : decode cX7_part0 138 = .ok (.bipush 33, 2) := by decide +kernel
theorem dX7_part0_140 : decode cX7_part0 140 = .ok (.invokevirtual 252, 3) := by decide +kernel
theorem dX7_part0_143 : decode cX7_part0 143 = .ok (.iconst 1, 1) := by decide +kernel
theorem dX7_part0_144 : decode cX7_part0 144 = .ok (.ireturn, 1) := by decide +kernel
theorem dX7_part0_145 : decode cX7_part0 145 = .ok (.aload_n 0, 1) := by decide +kernel
theorem dX7_part0_146 : decode cX7_part0 146 = .ok (.bipush 40, 2) := by decide +kernel
theorem dX7_part0_148 : decode cX7_part0 148 = .ok (.invokevirtual 246, 3) := by decide +kernel
theorem dX7_part0_151 : decode cX7_part0 151 = .ok (.ifCond .eq 12, 3) := by decide +kernel
theorem dX7_part0_154 : decode cX7_part0 154 = .ok (.aload_n 0, 1) := by decide +kernel
theorem dX7_part0_155 : decode cX7_part0 155 = .ok (.getfield 277, 3) := by decide +kernel
theorem dX7_part0_158 : decode cX7_part0 158 = .ok (.bipush 8, 2) := by decide +kernel
theorem dX7_part0_160 : decode cX7_part0 160 = .ok (.if_icmp .ne 5, 3) := by decide +kernel
theorem dX7_part0_163 : decode cX7_part0 163 = .ok (.iconst 0, 1) := by decide +kernel
theorem dX7_part0_164 : decode cX7_part0 164 = .ok (.ireturn, 1) := by decide +kernel
theorem dX7_part0_165 : decode cX7_part0 165 = .ok (.aload_n 0, 1) := by decide +kernel
theorem dX7_part0_166 : decode cX7_part0 166 = .ok (.dup, 1) := by decide +kernel
theorem dX7_part0_167 : decode cX7_part0 167 = .ok (.getfield 277, 3) := by decide +kernel
theorem dX7_part0_170 : decode cX7_part0 170 = .ok (.iconst 1, 1) := by decide +kernel
theorem dX7_part0_171 : decode cX7_part0 171 = .ok (.iadd, 1) := by decide +kernel
theorem dX7_part0_172 : decode cX7_part0 172 = .ok (.putfield 277, 3) := by decide +kernel
theorem dX7_part0_175 : decode cX7_part0 175 = .ok (.aload_n 0, 1) := by decide +kernel
theorem dX7_part0_176 : decode cX7_part0 176 = .ok (.invokevirtual 249, 3) := by decide +kernel
theorem dX7_part0_179 : decode cX7_part0 179 = .ok (.aload_n 0, 1) := by decide +kernel
theorem dX7_part0_180 : decode cX7_part0 180 = .ok (.iload_n 1, 1) := by decide +kernel
theorem dX7_part0_181 : decode cX7_part0 181 = .ok (.invokevirtual 280, 3) := by decide +kernel
theorem dX7_part0_184 : decode cX7_part0 184 = .ok (.ifCond .eq 12, 3) := by decide +kernel
theorem dX7_part0_187 : decode cX7_part0 187 = .ok (.aload_n 0, 1) := by decide +kernel
theorem dX7_part0_188 : decode cX7_part0 188 = .ok (.bipush 41, 2) := by decide +kernel
theorem dX7_part0_190 : decode cX7_part0 190 = .ok (.invokevirtual 246, 3) := by decide +kernel
theorem dX7_part0_193 : decode cX7_part0 193 = .ok (.ifCond .ne 5, 3) := by decide +kernel
theorem dX7_part0_196 : decode cX7_part0 196 = .ok (.iconst 0, 1) := by decide +kernel
theorem dX7_part0_197 : decode cX7_part0 197 = .ok (.ireturn, 1) := by decide +kernel
theorem dX7_part0_198 : decode cX7_part0 198 = .ok (.aload_n 0, 1) := by decide +kernel
theorem dX7_part0_199 : decode cX7_part0 199 = .ok (.dup, 1) := by decide +kernel
theorem dX7_part0_200 : decode cX7_part0 200 = .ok (.getfield 277, 3) := by decide +kernel
theorem dX7_part0_203 : decode cX7_part0 203 = .ok (.iconst 1, 1) := by decide +kernel
theorem dX7_part0_204 : decode cX7_part0 204 = .ok (.isub, 1) := by decide +kernel
theorem dX7_part0_205 : decode cX7_part0 205 = .ok (.putfield 277, 3) := by decide +kernel
theorem dX7_part0_208 : decode cX7_part0 208 = .ok (.aload_n 0, 1) := by decide +kernel
theorem dX7_part0_209 : decode cX7_part0 209 = .ok (.invokevirtual 249, 3) := by decide +kernel
theorem dX7_part0_212 : decode cX7_part0 212 = .ok (.iconst 1, 1) := by decide +kernel
theorem dX7_part0_213 : decode cX7_part0 213 = .ok (.ireturn, 1) := by decide +kernel
theorem dX7_parse_0 : decode cX7_parse 0 = .ok (.aload_n 0, 1) := by decide +kernel
theorem dX7_parse_1 : decode cX7_parse 1 = .ok (.iconst 0, 1) := by decide +kernel
theorem dX7_parse_2 : decode cX7_parse 2 = .ok (.putfield 212, 3) := by decide +kernel
theorem dX7_parse_5 : decode cX7_parse 5 = .ok (.aload_n 0, 1) := by decide +kernel
theorem dX7_parse_6 : decode cX7_parse 6 = .ok (.iconst 3, 1) := by decide +kernel
theorem dX7_parse_7 : decode cX7_parse 7 = .ok (.putfield 215, 3) := by decide +kernel
theorem dX7_parse_10 : decode cX7_parse 10 = .ok (.aload_n 0, 1) := by decide +kernel
theorem dX7_parse_11 : decode cX7_parse 11 = .ok (.iconst 0, 1) := by decide +kernel
theorem dX7_parse_12 : decode cX7_parse 12 = .ok (.putfield 277, 3) := by decide +kernel
theorem dX7_parse_15 : decode cX7_parse 15 = .ok (.aload_n 0, 1) := by decide +kernel
theorem dX7_parse_16 : decode cX7_parse 16 = .ok (.iconst 0, 1) := by decide +kernel
theorem dX7_parse_17 : decode cX7_parse 17 = .ok (.putfield 274, 3) := by decide +kernel
theorem dX7_parse_20 : decode cX7_parse 20 = .ok (.aload_n 0, 1) := by decide +kernel
theorem dX7_parse_21 : decode cX7_parse 21 = .ok (.iconst 0, 1) := by decide +kernel
theorem dX7_parse_22 : decode cX7_parse 22 = .ok (.putfield 240, 3) := by decide +kernel
theorem dX7_parse_25 : decode cX7_parse 25 = .ok (.aload_n 0, 1) := by decide +kernel
theorem dX7_parse_26 : decode cX7_parse 26 = .ok (.iconst 0, 1) := by decide +kernel
theorem dX7_parse_27 : decode cX7_parse 27 = .ok (.putfield 268, 3) := by decide +kernel
theorem dX7_parse_30 : decode cX7_parse 30 = .ok (.aload_n 0, 1) := by decide +kernel
theorem dX7_parse_31 : decode cX7_parse 31 = .ok (.aload_n 0, 1) := by decide +kernel
theorem dX7_parse_32 : decode cX7_parse 32 = .ok (.getfield 7, 3) := by decide +kernel
theorem dX7_parse_35 : decode cX7_parse 35 = .ok (.iconst 1, 1) := by decide +kernel
theorem dX7_parse_36 : decode cX7_parse 36 = .ok (.iaload, 1) := by decide +kernel
theorem dX7_parse_37 : decode cX7_parse 37 = .ok (.bipush 14, 2) := by decide +kernel
theorem dX7_parse_39 : decode cX7_parse 39 = .ok (.if_icmp .ge 18, 3) := by decide +kernel
theorem dX7_parse_42 : decode cX7_parse 42 = .ok (.aload_n 0, 1) := by decide +kernel
theorem dX7_parse_43 : decode cX7_parse 43 = .ok (.aload_n 0, 1) := by decide +kernel
theorem dX7_parse_44 : decode cX7_parse 44 = .ok (.getfield 7, 3) := by decide +kernel
theorem dX7_parse_47 : decode cX7_parse 47 = .ok (.iconst 1, 1) := by decide +kernel
theorem dX7_parse_48 : decode cX7_parse 48 = .ok (.iaload, 1) := by decide +kernel
theorem dX7_parse_49 : decode cX7_parse 49 = .ok (.invokevirtual 283, 3) := by decide +kernel
theorem dX7_parse_52 : decode cX7_parse 52 = .ok (.iconst 4, 1) := by decide +kernel
theorem dX7_parse_53 : decode cX7_parse 53 = .ok (.iadd, 1) := by decide +kernel
theorem dX7_parse_54 : decode cX7_parse 54 = .ok (.goto 6, 3) := by decide +kernel
theorem dX7_parse_57 : decode cX7_parse 57 = .ok (.sipush 2869, 3) := by decide +kernel
theorem dX7_parse_60 : decode cX7_parse 60 = .ok (.putfield 237, 3) := by decide +kernel
theorem dX7_parse_63 : decode cX7_parse 63 = .ok (.aload_n 0, 1) := by decide +kernel
theorem dX7_parse_64 : decode cX7_parse 64 = .ok (.invokevirtual 249, 3) := by decide +kernel
theorem dX7_parse_67 : decode cX7_parse 67 = .ok (.aload_n 0, 1) := by decide +kernel
theorem dX7_parse_68 : decode cX7_parse 68 = .ok (.invokevirtual 286, 3) := by decide +kernel
theorem dX7_parse_71 : decode cX7_parse 71 = .ok (.istore_n 1, 1) := by decide +kernel
theorem dX7_parse_72 : decode cX7_parse 72 = .ok (.iload_n 1, 1) := by decide +kernel
theorem dX7_parse_73 : decode cX7_parse 73 = .ok (.ifCond .lt 7, 3) := by decide +kernel
theorem dX7_parse_76 : decode cX7_parse 76 = .ok (.iconst 1, 1) := by decide +kernel
theorem dX7_parse_77 : decode cX7_parse 77 = .ok (.goto 4, 3) := by decide +kernel
theorem dX7_parse_80 : decode cX7_parse 80 = .ok (.iconst 0, 1) := by decide +kernel
theorem dX7_parse_81 : decode cX7_parse 81 = .ok (.istore_n 2, 1) := by decide +kernel
theorem dX7_parse_82 : decode cX7_parse 82 = .ok (.iload_n 2, 1) := by decide +kernel
theorem dX7_parse_83 : decode cX7_parse 83 = .ok (.ifCond .eq 28, 3) := by decide +kernel
theorem dX7_parse_86 : decode cX7_parse 86 = .ok (.aload_n 0, 1) := by decide +kernel
theorem dX7_parse_87 : decode cX7_parse 87 = .ok (.invokevirtual 249, 3) := by decide +kernel
theorem dX7_parse_90 : decode cX7_parse 90 = .ok (.aload_n 0, 1) := by decide +kernel
theorem dX7_parse_91 : decode cX7_parse 91 = .ok (.iload_n 1, 1) := by decide +kernel
theorem dX7_parse_92 : decode cX7_parse 92 = .ok (.invokevirtual 280, 3) := by decide +kernel
theorem dX7_parse_95 : decode cX7_parse 95 = .ok (.ifCond .eq 14, 3) := by decide +kernel
theorem dX7_parse_98 : decode cX7_parse 98 = .ok (.aload_n 0, 1) := by decide +kernel
theorem dX7_parse_99 : decode cX7_parse 99 = .ok (.getfield 215, 3) := by decide +kernel
theorem dX7_parse_102 : decode cX7_parse 102 = .ok (.ifCond .ne 7, 3) := by decide +kernel
theorem dX7_parse_105 : decode cX7_parse 105 = .ok (.iconst 1, 1) := by decide +kernel
theorem dX7_parse_106 : decode cX7_parse 106 = .ok (.goto 4, 3) := by decide +kernel
theorem dX7_parse_109 : decode cX7_parse 109 = .ok (.iconst 0, 1) := by decide +kernel
theorem dX7_parse_110 : decode cX7_parse 110 = .ok (.istore_n 2, 1) := by decide +kernel
theorem dX7_parse_111 : decode cX7_parse 111 = .ok (.aload_n 0, 1) := by decide +kernel
theorem dX7_parse_112 : decode cX7_parse 112 = .ok (.iconst 0, 1) := by decide +kernel
theorem dX7_parse_113 : decode cX7_parse 113 = .ok (.putfield 200, 3) := by decide +kernel
theorem dX7_parse_116 : decode cX7_parse 116 = .ok (.iload_n 2, 1) := by decide +kernel
theorem dX7_parse_117 : decode cX7_parse 117 = .ok (.ifCond .eq 7, 3) := by decide +kernel
theorem dX7_parse_120 : decode cX7_parse 120 = .ok (.iload_n 1, 1) := by decide +kernel
theorem dX7_parse_121 : decode cX7_parse 121 = .ok (.goto 4, 3) := by decide +kernel
theorem dX7_parse_124 : decode cX7_parse 124 = .ok (.iconst (-1), 1) := by decide +kernel
theorem dX7_parse_125 : decode cX7_parse 125 = .ok (.ireturn, 1) := by decide +kernel
theorem dX7_text_0 : decode cX7_text 0 = .ok (.aload_n 0, 1) := by decide +kernel
theorem dX7_text_1 : decode cX7_text 1 = .ok (.invokevirtual 289, 3) := by decide +kernel
theorem dX7_text_4 : decode cX7_text 4 = .ok (.istore_n 1, 1) := by decide +kernel
theorem dX7_text_5 : decode cX7_text 5 = .ok (.iload_n 1, 1) := by decide +kernel
theorem dX7_text_6 : decode cX7_text 6 = .ok (.ifCond .ge 11, 3) := by decide +kernel
theorem dX7_text_9 : decode cX7_text 9 = .ok (.bipush (-100), 2) := by decide +kernel
theorem dX7_text_11 : decode cX7_text 11 = .ok (.aload_n 0, 1) := by decide +kernel
theorem dX7_text_12 : decode cX7_text 12 = .ok (.getfield 218, 3) := by decide +kernel
theorem dX7_text_15 : decode cX7_text 15 = .ok (.isub, 1) := by decide +kernel
theorem dX7_text_16 : decode cX7_text 16 = .ok (.ireturn, 1) := by decide +kernel
theorem dX7_text_17 : decode cX7_text 17 = .ok (.aload_n 0, 1) := by decide +kernel
theorem dX7_text_18 : decode cX7_text 18 = .ok (.getfield 7, 3) := by decide +kernel
theorem dX7_text_21 : decode cX7_text 21 = .ok (.iconst 1, 1) := by decide +kernel
theorem dX7_text_22 : decode cX7_text 22 = .ok (.iaload, 1) := by decide +kernel
theorem dX7_text_23 : decode cX7_text 23 = .ok (.bipush 14, 2) := by decide +kernel
theorem dX7_text_25 : decode cX7_text 25 = .ok (.if_icmp .ne 6, 3) := by decide +kernel
theorem dX7_text_28 : decode cX7_text 28 = .ok (.ldc 101, 2) := by decide +kernel
theorem dX7_text_30 : decode cX7_text 30 = .ok (.ireturn, 1) := by decide +kernel
theorem dX7_text_31 : decode cX7_text 31 = .ok (.aload_n 0, 1) := by decide +kernel
theorem dX7_text_32 : decode cX7_text 32 = .ok (.aload_n 0, 1) := by decide +kernel
theorem dX7_text_33 : decode cX7_text 33 = .ok (.getfield 7, 3) := by decide +kernel
theorem dX7_text_36 : decode cX7_text 36 = .ok (.iconst 1, 1) := by decide +kernel
theorem dX7_text_37 : decode cX7_text 37 = .ok (.iaload, 1) := by decide +kernel
theorem dX7_text_38 : decode cX7_text 38 = .ok (.invokevirtual 283, 3) := by decide +kernel
theorem dX7_text_41 : decode cX7_text 41 = .ok (.istore_n 2, 1) := by decide +kernel
theorem dX7_text_42 : decode cX7_text 42 = .ok (.aload_n 0, 1) := by decide +kernel
theorem dX7_text_43 : decode cX7_text 43 = .ok (.getfield 7, 3) := by decide +kernel
theorem dX7_text_46 : decode cX7_text 46 = .ok (.iload_n 2, 1) := by decide +kernel
theorem dX7_text_47 : decode cX7_text 47 = .ok (.iconst 0, 1) := by decide +kernel
theorem dX7_text_48 : decode cX7_text 48 = .ok (.iadd, 1) := by decide +kernel
theorem dX7_text_49 : decode cX7_text 49 = .ok (.iload_n 1, 1) := by decide +kernel
theorem dX7_text_50 : decode cX7_text 50 = .ok (.iastore, 1) := by decide +kernel
theorem dX7_text_51 : decode cX7_text 51 = .ok (.aload_n 0, 1) := by decide +kernel
theorem dX7_text_52 : decode cX7_text 52 = .ok (.getfield 7, 3) := by decide +kernel
theorem dX7_text_55 : decode cX7_text 55 = .ok (.iload_n 2, 1) := by decide +kernel
theorem dX7_text_56 : decode cX7_text 56 = .ok (.iconst 1, 1) := by decide +kernel
theorem dX7_text_57 : decode cX7_text 57 = .ok (.iadd, 1) := by decide +kernel
theorem dX7_text_58 : decode cX7_text 58 = .ok (.aload_n 0, 1) := by decide +kernel
theorem dX7_text_59 : decode cX7_text 59 = .ok (.getfield 268, 3) := by decide +kernel
theorem dX7_text_62 : decode cX7_text 62 = .ok (.iastore, 1) := by decide +kernel
theorem dX7_text_63 : decode cX7_text 63 = .ok (.aload_n 0, 1) := by decide +kernel
theorem dX7_text_64 : decode cX7_text 64 = .ok (.getfield 7, 3) := by decide +kernel
theorem dX7_text_67 : decode cX7_text 67 = .ok (.iload_n 2, 1) := by decide +kernel
theorem dX7_text_68 : decode cX7_text 68 = .ok (.iconst 2, 1) := by decide +kernel
theorem dX7_text_69 : decode cX7_text 69 = .ok (.iadd, 1) := by decide +kernel
theorem dX7_text_70 : decode cX7_text 70 = .ok (.aload_n 0, 1) := by decide +kernel
theorem dX7_text_71 : decode cX7_text 71 = .ok (.getfield 240, 3) := by decide +kernel
theorem dX7_text_74 : decode cX7_text 74 = .ok (.iastore, 1) := by decide +kernel
theorem dX7_text_75 : decode cX7_text 75 = .ok (.aload_n 0, 1) := by decide +kernel
theorem dX7_text_76 : decode cX7_text 76 = .ok (.getfield 7, 3) := by decide +kernel
theorem dX7_text_79 : decode cX7_text 79 = .ok (.iconst 1, 1) := by decide +kernel
theorem dX7_text_80 : decode cX7_text 80 = .ok (.dup2, 1) := by decide +kernel
theorem dX7_text_81 : decode cX7_text 81 = .ok (.iaload, 1) := by decide +kernel
theorem dX7_text_82 : decode cX7_text 82 = .ok (.iconst 1, 1) := by decide +kernel
theorem dX7_text_83 : decode cX7_text 83 = .ok (.iadd, 1) := by decide +kernel
theorem dX7_text_84 : decode cX7_text 84 = .ok (.iastore, 1) := by decide +kernel
theorem dX7_text_85 : decode cX7_text 85 = .ok (.aload_n 0, 1) := by decide +kernel
theorem dX7_text_86 : decode cX7_text 86 = .ok (.getfield 7, 3) := by decide +kernel
theorem dX7_text_89 : decode cX7_text 89 = .ok (.iconst 1, 1) := by decide +kernel
theorem dX7_text_90 : decode cX7_text 90 = .ok (.iaload, 1) := by decide +kernel
theorem dX7_text_91 : decode cX7_text 91 = .ok (.iconst 1, 1) := by decide +kernel
theorem dX7_text_92 : decode cX7_text 92 = .ok (.isub, 1) := by decide +kernel
theorem dX7_text_93 : decode cX7_text 93 = .ok (.ireturn, 1) := by decide +kernel
theorem dX7_textTold_0 : decode cX7_textTold 0 = .ok (.aload_n 0, 1) := by decide +kernel
theorem dX7_textTold_1 : decode cX7_textTold 1 = .ok (.iload_n 1, 1) := by decide +kernel
theorem dX7_textTold_2 : decode cX7_textTold 2 = .ok (.invokevirtual 292, 3) := by decide +kernel
theorem dX7_textTold_5 : decode cX7_textTold 5 = .ok (.ifCond .eq 13, 3) := by decide +kernel
theorem dX7_textTold_8 : decode cX7_textTold 8 = .ok (.iload_n 2, 1) := by decide +kernel
theorem dX7_textTold_9 : decode cX7_textTold 9 = .ok (.i2l, 1) := by decide +kernel
theorem dX7_textTold_10 : decode cX7_textTold 10 = .ok (.lconst 0, 1) := by decide +kernel
theorem dX7_textTold_11 : decode cX7_textTold 11 = .ok (.lconst 1, 1) := by decide +kernel
theorem dX7_textTold_12 : decode cX7_textTold 12 = .ok (.invokestatic 71, 3) := by decide +kernel
theorem dX7_textTold_15 : decode cX7_textTold 15 = .ok (.ifCond .ne 6, 3) := by decide +kernel
theorem dX7_textTold_18 : decode cX7_textTold 18 = .ok (.ldc 100, 2) := by decide +kernel
theorem dX7_textTold_20 : decode cX7_textTold 20 = .ok (.ireturn, 1) := by decide +kernel
theorem dX7_textTold_21 : decode cX7_textTold 21 = .ok (.aload_n 0, 1) := by decide +kernel
theorem dX7_textTold_22 : decode cX7_textTold 22 = .ok (.getfield 7, 3) := by decide +kernel
theorem dX7_textTold_25 : decode cX7_textTold 25 = .ok (.aload_n 0, 1) := by decide +kernel
theorem dX7_textTold_26 : decode cX7_textTold 26 = .ok (.iload_n 1, 1) := by decide +kernel
theorem dX7_textTold_27 : decode cX7_textTold 27 = .ok (.invokevirtual 283, 3) := by decide +kernel
end
section
theorem dX7_textTold_30 : decode cX7_textTold 30 = .ok (.iload_n 2, 1) := by decide +kernel
theorem dX7_textTold_31 : decode cX7_textTold 31 = .ok (.iadd, 1) := by decide +kernel
theorem dX7_textTold_32 : decode cX7_textTold 32 = .ok (.iaload, 1) := by decide +kernel
theorem dX7_textTold_33 : decode cX7_textTold 33 = .ok (.ireturn, 1) := by decide +kernel
theorem dX7_counts_0 : decode cX7_counts 0 = .ok (.iconst (-1), 1) := by decide +kernel
theorem dX7_counts_1 : decode cX7_counts 1 = .ok (.istore_n 2, 1) := by decide +kernel
theorem dX7_counts_2 : decode cX7_counts 2 = .ok (.iconst 0, 1) := by decide +kernel
theorem dX7_counts_3 : decode cX7_counts 3 = .ok (.istore_n 3, 1) := by decide +kernel
theorem dX7_counts_4 : decode cX7_counts 4 = .ok (.iload_n 3, 1) := by decide +kernel
theorem dX7_counts_5 : decode cX7_counts 5 = .ok (.aload_n 0, 1) := by decide +kernel
theorem dX7_counts_6 : decode cX7_counts 6 = .ok (.getfield 7, 3) := by decide +kernel
theorem dX7_counts_9 : decode cX7_counts 9 = .ok (.iconst 1, 1) := by decide +kernel
theorem dX7_counts_10 : decode cX7_counts 10 = .ok (.iaload, 1) := by decide +kernel
theorem dX7_counts_11 : decode cX7_counts 11 = .ok (.if_icmp .ge 29, 3) := by decide +kernel
theorem dX7_counts_14 : decode cX7_counts 14 = .ok (.aload_n 0, 1) := by decide +kernel
theorem dX7_counts_15 : decode cX7_counts 15 = .ok (.getfield 7, 3) := by decide +kernel
theorem dX7_counts_18 : decode cX7_counts 18 = .ok (.aload_n 0, 1) := by decide +kernel
theorem dX7_counts_19 : decode cX7_counts 19 = .ok (.iload_n 3, 1) := by decide +kernel
theorem dX7_counts_20 : decode cX7_counts 20 = .ok (.invokevirtual 283, 3) := by decide +kernel
theorem dX7_counts_23 : decode cX7_counts 23 = .ok (.iaload, 1) := by decide +kernel
theorem dX7_counts_24 : decode cX7_counts 24 = .ok (.iload_n 1, 1) := by decide +kernel
theorem dX7_counts_25 : decode cX7_counts 25 = .ok (.if_icmp .ne 7, 3) := by decide +kernel
theorem dX7_counts_28 : decode cX7_counts 28 = .ok (.iload_n 3, 1) := by decide +kernel
theorem dX7_counts_29 : decode cX7_counts 29 = .ok (.goto 4, 3) := by decide +kernel
theorem dX7_counts_32 : decode cX7_counts 32 = .ok (.iload_n 2, 1) := by decide +kernel
theorem dX7_counts_33 : decode cX7_counts 33 = .ok (.istore_n 2, 1) := by decide +kernel
theorem dX7_counts_34 : decode cX7_counts 34 = .ok (.iinc 3 1, 3) := by decide +kernel
theorem dX7_counts_37 : decode cX7_counts 37 = .ok (.goto (-33), 3) := by decide +kernel
theorem dX7_counts_40 : decode cX7_counts 40 = .ok (.iload_n 2, 1) := by decide +kernel
theorem dX7_counts_41 : decode cX7_counts 41 = .ok (.ireturn, 1) := by decide +kernel
theorem dX7_why_0 : decode cX7_why 0 = .ok (.iload_n 1, 1) := by decide +kernel
theorem dX7_why_1 : decode cX7_why 1 = .ok (.i2l, 1) := by decide +kernel
theorem dX7_why_2 : decode cX7_why 2 = .ok (.lconst 0, 1) := by decide +kernel
theorem dX7_why_3 : decode cX7_why 3 = .ok (.ldc2_w 295, 3) := by decide +kernel
theorem dX7_why_6 : decode cX7_why 6 = .ok (.invokestatic 71, 3) := by decide +kernel
theorem dX7_why_9 : decode cX7_why 9 = .ok (.ifCond .eq 14, 3) := by decide +kernel
theorem dX7_why_12 : decode cX7_why 12 = .ok (.aload_n 0, 1) := by decide +kernel
theorem dX7_why_13 : decode cX7_why 13 = .ok (.iload_n 1, 1) := by decide +kernel
theorem dX7_why_14 : decode cX7_why 14 = .ok (.invokevirtual 109, 3) := by decide +kernel
theorem dX7_why_17 : decode cX7_why 17 = .ok (.invokestatic 190, 3) := by decide +kernel
theorem dX7_why_20 : decode cX7_why 20 = .ok (.goto 5, 3) := by decide +kernel
theorem dX7_why_23 : decode cX7_why 23 = .ok (.ldc 100, 2) := by decide +kernel
theorem dX7_why_25 : decode cX7_why 25 = .ok (.ireturn, 1) := by decide +kernel
theorem dX7_joined_0 : decode cX7_joined 0 = .ok (.iload_n 0, 1) := by decide +kernel
theorem dX7_joined_1 : decode cX7_joined 1 = .ok (.tableswitch 196 38 62 #[182, 196, 196, 196, 123, 115, 196, 119, 196, 127, 196, 196, 196, 196, 196, 196, 196, 196, 196, 196, 196, 196, 149, 171, 160], 115) := by decide +kernel
theorem dX7_joined_116 : decode cX7_joined 116 = .ok (.iload_n 1, 1) := by decide +kernel
theorem dX7_joined_117 : decode cX7_joined 117 = .ok (.iload_n 2, 1) := by decide +kernel
theorem dX7_joined_118 : decode cX7_joined 118 = .ok (.iadd, 1) := by decide +kernel
theorem dX7_joined_119 : decode cX7_joined 119 = .ok (.ireturn, 1) := by decide +kernel
theorem dX7_joined_120 : decode cX7_joined 120 = .ok (.iload_n 1, 1) := by decide +kernel
theorem dX7_joined_121 : decode cX7_joined 121 = .ok (.iload_n 2, 1) := by decide +kernel
theorem dX7_joined_122 : decode cX7_joined 122 = .ok (.isub, 1) := by decide +kernel
theorem dX7_joined_123 : decode cX7_joined 123 = .ok (.ireturn, 1) := by decide +kernel
theorem dX7_joined_124 : decode cX7_joined 124 = .ok (.iload_n 1, 1) := by decide +kernel
theorem dX7_joined_125 : decode cX7_joined 125 = .ok (.iload_n 2, 1) := by decide +kernel
theorem dX7_joined_126 : decode cX7_joined 126 = .ok (.imul, 1) := by decide +kernel
theorem dX7_joined_127 : decode cX7_joined 127 = .ok (.ireturn, 1) := by decide +kernel
theorem dX7_joined_128 : decode cX7_joined 128 = .ok (.iload_n 2, 1) := by decide +kernel
theorem dX7_joined_129 : decode cX7_joined 129 = .ok (.ifCond .ne 7, 3) := by decide +kernel
theorem dX7_joined_132 : decode cX7_joined 132 = .ok (.iconst 0, 1) := by decide +kernel
theorem dX7_joined_133 : decode cX7_joined 133 = .ok (.goto 16, 3) := by decide +kernel
theorem dX7_joined_136 : decode cX7_joined 136 = .ok (.iload_n 2, 1) := by decide +kernel
theorem dX7_joined_137 : decode cX7_joined 137 = .ok (.iconst (-1), 1) := by decide +kernel
theorem dX7_joined_138 : decode cX7_joined 138 = .ok (.if_icmp .ne 8, 3) := by decide +kernel
theorem dX7_joined_141 : decode cX7_joined 141 = .ok (.iload_n 1, 1) := by decide +kernel
theorem dX7_joined_142 : decode cX7_joined 142 = .ok (.ineg, 1) := by decide +kernel
theorem dX7_joined_143 : decode cX7_joined 143 = .ok (.goto 6, 3) := by decide +kernel
theorem dX7_joined_146 : decode cX7_joined 146 = .ok (.iload_n 1, 1) := by decide +kernel
theorem dX7_joined_147 : decode cX7_joined 147 = .ok (.iload_n 2, 1) := by decide +kernel
theorem dX7_joined_148 : decode cX7_joined 148 = .ok (.idiv, 1) := by decide +kernel
theorem dX7_joined_149 : decode cX7_joined 149 = .ok (.ireturn, 1) := by decide +kernel
theorem dX7_joined_150 : decode cX7_joined 150 = .ok (.iload_n 1, 1) := by decide +kernel
theorem dX7_joined_151 : decode cX7_joined 151 = .ok (.iload_n 2, 1) := by decide +kernel
theorem dX7_joined_152 : decode cX7_joined 152 = .ok (.if_icmp .ge 7, 3) := by decide +kernel
theorem dX7_joined_155 : decode cX7_joined 155 = .ok (.iconst 1, 1) := by decide +kernel
theorem dX7_joined_156 : decode cX7_joined 156 = .ok (.goto 4, 3) := by decide +kernel
theorem dX7_joined_159 : decode cX7_joined 159 = .ok (.iconst 0, 1) := by decide +kernel
theorem dX7_joined_160 : decode cX7_joined 160 = .ok (.ireturn, 1) := by decide +kernel
theorem dX7_joined_161 : decode cX7_joined 161 = .ok (.iload_n 1, 1) := by decide +kernel
theorem dX7_joined_162 : decode cX7_joined 162 = .ok (.iload_n 2, 1) := by decide +kernel
theorem dX7_joined_163 : decode cX7_joined 163 = .ok (.if_icmp .le 7, 3) := by decide +kernel
theorem dX7_joined_166 : decode cX7_joined 166 = .ok (.iconst 1, 1) := by decide +kernel
theorem dX7_joined_167 : decode cX7_joined 167 = .ok (.goto 4, 3) := by decide +kernel
theorem dX7_joined_170 : decode cX7_joined 170 = .ok (.iconst 0, 1) := by decide +kernel
theorem dX7_joined_171 : decode cX7_joined 171 = .ok (.ireturn, 1) := by decide +kernel
theorem dX7_joined_172 : decode cX7_joined 172 = .ok (.iload_n 1, 1) := by decide +kernel
theorem dX7_joined_173 : decode cX7_joined 173 = .ok (.iload_n 2, 1) := by decide +kernel
theorem dX7_joined_174 : decode cX7_joined 174 = .ok (.if_icmp .ne 7, 3) := by decide +kernel
theorem dX7_joined_177 : decode cX7_joined 177 = .ok (.iconst 1, 1) := by decide +kernel
theorem dX7_joined_178 : decode cX7_joined 178 = .ok (.goto 4, 3) := by decide +kernel
theorem dX7_joined_181 : decode cX7_joined 181 = .ok (.iconst 0, 1) := by decide +kernel
theorem dX7_joined_182 : decode cX7_joined 182 = .ok (.ireturn, 1) := by decide +kernel
theorem dX7_joined_183 : decode cX7_joined 183 = .ok (.iload_n 1, 1) := by decide +kernel
theorem dX7_joined_184 : decode cX7_joined 184 = .ok (.ifCond .eq 11, 3) := by decide +kernel
theorem dX7_joined_187 : decode cX7_joined 187 = .ok (.iload_n 2, 1) := by decide +kernel
theorem dX7_joined_188 : decode cX7_joined 188 = .ok (.ifCond .eq 7, 3) := by decide +kernel
theorem dX7_joined_191 : decode cX7_joined 191 = .ok (.iconst 1, 1) := by decide +kernel
theorem dX7_joined_192 : decode cX7_joined 192 = .ok (.goto 4, 3) := by decide +kernel
theorem dX7_joined_195 : decode cX7_joined 195 = .ok (.iconst 0, 1) := by decide +kernel
theorem dX7_joined_196 : decode cX7_joined 196 = .ok (.ireturn, 1) := by decide +kernel
theorem dX7_joined_197 : decode cX7_joined 197 = .ok (.iload_n 1, 1) := by decide +kernel
theorem dX7_joined_198 : decode cX7_joined 198 = .ok (.ifCond .ne 7, 3) := by decide +kernel
theorem dX7_joined_201 : decode cX7_joined 201 = .ok (.iload_n 2, 1) := by decide +kernel
theorem dX7_joined_202 : decode cX7_joined 202 = .ok (.ifCond .eq 7, 3) := by decide +kernel
theorem dX7_joined_205 : decode cX7_joined 205 = .ok (.iconst 1, 1) := by decide +kernel
theorem dX7_joined_206 : decode cX7_joined 206 = .ok (.goto 4, 3) := by decide +kernel
theorem dX7_joined_209 : decode cX7_joined 209 = .ok (.iconst 0, 1) := by decide +kernel
theorem dX7_joined_210 : decode cX7_joined 210 = .ok (.ireturn, 1) := by decide +kernel
theorem dX7_worked_0 : decode cX7_worked 0 = .ok (.iconst 0, 1) := by decide +kernel
theorem dX7_worked_1 : decode cX7_worked 1 = .ok (.istore_n 2, 1) := by decide +kernel
theorem dX7_worked_2 : decode cX7_worked 2 = .ok (.iconst 0, 1) := by decide +kernel
theorem dX7_worked_3 : decode cX7_worked 3 = .ok (.istore_n 3, 1) := by decide +kernel
theorem dX7_worked_4 : decode cX7_worked 4 = .ok (.iload_n 3, 1) := by decide +kernel
theorem dX7_worked_5 : decode cX7_worked 5 = .ok (.aload_n 0, 1) := by decide +kernel
theorem dX7_worked_6 : decode cX7_worked 6 = .ok (.getfield 7, 3) := by decide +kernel
theorem dX7_worked_9 : decode cX7_worked 9 = .ok (.aload_n 0, 1) := by decide +kernel
theorem dX7_worked_10 : decode cX7_worked 10 = .ok (.iload_n 1, 1) := by decide +kernel
theorem dX7_worked_11 : decode cX7_worked 11 = .ok (.invokevirtual 283, 3) := by decide +kernel
theorem dX7_worked_14 : decode cX7_worked 14 = .ok (.iconst 2, 1) := by decide +kernel
theorem dX7_worked_15 : decode cX7_worked 15 = .ok (.iadd, 1) := by decide +kernel
theorem dX7_worked_16 : decode cX7_worked 16 = .ok (.iaload, 1) := by decide +kernel
theorem dX7_worked_17 : decode cX7_worked 17 = .ok (.if_icmp .ge 146, 3) := by decide +kernel
theorem dX7_worked_20 : decode cX7_worked 20 = .ok (.aload_n 0, 1) := by decide +kernel
theorem dX7_worked_21 : decode cX7_worked 21 = .ok (.getfield 7, 3) := by decide +kernel
theorem dX7_worked_24 : decode cX7_worked 24 = .ok (.aload_n 0, 1) := by decide +kernel
theorem dX7_worked_25 : decode cX7_worked 25 = .ok (.iload_n 1, 1) := by decide +kernel
theorem dX7_worked_26 : decode cX7_worked 26 = .ok (.invokevirtual 283, 3) := by decide +kernel
theorem dX7_worked_29 : decode cX7_worked 29 = .ok (.iconst 4, 1) := by decide +kernel
theorem dX7_worked_30 : decode cX7_worked 30 = .ok (.iadd, 1) := by decide +kernel
theorem dX7_worked_31 : decode cX7_worked 31 = .ok (.iconst 2, 1) := by decide +kernel
theorem dX7_worked_32 : decode cX7_worked 32 = .ok (.iload_n 3, 1) := by decide +kernel
theorem dX7_worked_33 : decode cX7_worked 33 = .ok (.imul, 1) := by decide +kernel
theorem dX7_worked_34 : decode cX7_worked 34 = .ok (.iadd, 1) := by decide +kernel
theorem dX7_worked_35 : decode cX7_worked 35 = .ok (.iaload, 1) := by decide +kernel
theorem dX7_worked_36 : decode cX7_worked 36 = .ok (.istore 4, 2) := by decide +kernel
theorem dX7_worked_38 : decode cX7_worked 38 = .ok (.aload_n 0, 1) := by decide +kernel
theorem dX7_worked_39 : decode cX7_worked 39 = .ok (.getfield 7, 3) := by decide +kernel
theorem dX7_worked_42 : decode cX7_worked 42 = .ok (.aload_n 0, 1) := by decide +kernel
theorem dX7_worked_43 : decode cX7_worked 43 = .ok (.iload_n 1, 1) := by decide +kernel
theorem dX7_worked_44 : decode cX7_worked 44 = .ok (.invokevirtual 283, 3) := by decide +kernel
theorem dX7_worked_47 : decode cX7_worked 47 = .ok (.iconst 4, 1) := by decide +kernel
theorem dX7_worked_48 : decode cX7_worked 48 = .ok (.iadd, 1) := by decide +kernel
theorem dX7_worked_49 : decode cX7_worked 49 = .ok (.iconst 2, 1) := by decide +kernel
theorem dX7_worked_50 : decode cX7_worked 50 = .ok (.iload_n 3, 1) := by decide +kernel
theorem dX7_worked_51 : decode cX7_worked 51 = .ok (.imul, 1) := by decide +kernel
theorem dX7_worked_52 : decode cX7_worked 52 = .ok (.iadd, 1) := by decide +kernel
theorem dX7_worked_53 : decode cX7_worked 53 = .ok (.iconst 1, 1) := by decide +kernel
theorem dX7_worked_54 : decode cX7_worked 54 = .ok (.iadd, 1) := by decide +kernel
theorem dX7_worked_55 : decode cX7_worked 55 = .ok (.iaload, 1) := by decide +kernel
theorem dX7_worked_56 : decode cX7_worked 56 = .ok (.istore 5, 2) := by decide +kernel
theorem dX7_worked_58 : decode cX7_worked 58 = .ok (.iload 4, 2) := by decide +kernel
theorem dX7_worked_60 : decode cX7_worked 60 = .ok (.iconst 2, 1) := by decide +kernel
theorem dX7_worked_61 : decode cX7_worked 61 = .ok (.if_icmp .eq 32, 3) := by decide +kernel
theorem dX7_worked_64 : decode cX7_worked 64 = .ok (.aload_n 0, 1) := by decide +kernel
theorem dX7_worked_65 : decode cX7_worked 65 = .ok (.getfield 58, 3) := by decide +kernel
theorem dX7_worked_68 : decode cX7_worked 68 = .ok (.iload_n 2, 1) := by decide +kernel
theorem dX7_worked_69 : decode cX7_worked 69 = .ok (.iload 4, 2) := by decide +kernel
theorem dX7_worked_71 : decode cX7_worked 71 = .ok (.ifCond .ne 8, 3) := by decide +kernel
theorem dX7_worked_74 : decode cX7_worked 74 = .ok (.iload 5, 2) := by decide +kernel
theorem dX7_worked_76 : decode cX7_worked 76 = .ok (.goto 10, 3) := by decide +kernel
theorem dX7_worked_79 : decode cX7_worked 79 = .ok (.aload_n 0, 1) := by decide +kernel
theorem dX7_worked_80 : decode cX7_worked 80 = .ok (.getfield 55, 3) := by decide +kernel
theorem dX7_worked_83 : decode cX7_worked 83 = .ok (.iload 5, 2) := by decide +kernel
theorem dX7_worked_85 : decode cX7_worked 85 = .ok (.iaload, 1) := by decide +kernel
theorem dX7_worked_86 : decode cX7_worked 86 = .ok (.iastore, 1) := by decide +kernel
theorem dX7_worked_87 : decode cX7_worked 87 = .ok (.iinc 2 1, 3) := by decide +kernel
theorem dX7_worked_90 : decode cX7_worked 90 = .ok (.goto 67, 3) := by decide +kernel
theorem dX7_worked_93 : decode cX7_worked 93 = .ok (.iload 5, 2) := by decide +kernel
theorem dX7_worked_95 : decode cX7_worked 95 = .ok (.bipush 33, 2) := by decide +kernel
theorem dX7_worked_97 : decode cX7_worked 97 = .ok (.if_icmp .ne 30, 3) := by decide +kernel
theorem dX7_worked_100 : decode cX7_worked 100 = .ok (.aload_n 0, 1) := by decide +kernel
theorem dX7_worked_101 : decode cX7_worked 101 = .ok (.getfield 58, 3) := by decide +kernel
theorem dX7_worked_104 : decode cX7_worked 104 = .ok (.iload_n 2, 1) := by decide +kernel
theorem dX7_worked_105 : decode cX7_worked 105 = .ok (.iconst 1, 1) := by decide +kernel
theorem dX7_worked_106 : decode cX7_worked 106 = .ok (.isub, 1) := by decide +kernel
theorem dX7_worked_107 : decode cX7_worked 107 = .ok (.aload_n 0, 1) := by decide +kernel
theorem dX7_worked_108 : decode cX7_worked 108 = .ok (.getfield 58, 3) := by decide +kernel
theorem dX7_worked_111 : decode cX7_worked 111 = .ok (.iload_n 2, 1) := by decide +kernel
theorem dX7_worked_112 : decode cX7_worked 112 = .ok (.iconst 1, 1) := by decide +kernel
theorem dX7_worked_113 : decode cX7_worked 113 = .ok (.isub, 1) := by decide +kernel
theorem dX7_worked_114 : decode cX7_worked 114 = .ok (.iaload, 1) := by decide +kernel
theorem dX7_worked_115 : decode cX7_worked 115 = .ok (.ifCond .ne 7, 3) := by decide +kernel
theorem dX7_worked_118 : decode cX7_worked 118 = .ok (.iconst 1, 1) := by decide +kernel
theorem dX7_worked_119 : decode cX7_worked 119 = .ok (.goto 4, 3) := by decide +kernel
theorem dX7_worked_122 : decode cX7_worked 122 = .ok (.iconst 0, 1) := by decide +kernel
theorem dX7_worked_123 : decode cX7_worked 123 = .ok (.iastore, 1) := by decide +kernel
theorem dX7_worked_124 : decode cX7_worked 124 = .ok (.goto 33, 3) := by decide +kernel
theorem dX7_worked_127 : decode cX7_worked 127 = .ok (.iinc 2 (-1), 3) := by decide +kernel
theorem dX7_worked_130 : decode cX7_worked 130 = .ok (.aload_n 0, 1) := by decide +kernel
theorem dX7_worked_131 : decode cX7_worked 131 = .ok (.getfield 58, 3) := by decide +kernel
theorem dX7_worked_134 : decode cX7_worked 134 = .ok (.iload_n 2, 1) := by decide +kernel
theorem dX7_worked_135 : decode cX7_worked 135 = .ok (.iconst 1, 1) := by decide +kernel
theorem dX7_worked_136 : decode cX7_worked 136 = .ok (.isub, 1) := by decide +kernel
theorem dX7_worked_137 : decode cX7_worked 137 = .ok (.iload 5, 2) := by decide +kernel
theorem dX7_worked_139 : decode cX7_worked 139 = .ok (.aload_n 0, 1) := by decide +kernel
theorem dX7_worked_140 : decode cX7_worked 140 = .ok (.getfield 58, 3) := by decide +kernel
theorem dX7_worked_143 : decode cX7_worked 143 = .ok (.iload_n 2, 1) := by decide +kernel
theorem dX7_worked_144 : decode cX7_worked 144 = .ok (.iconst 1, 1) := by decide +kernel
theorem dX7_worked_145 : decode cX7_worked 145 = .ok (.isub, 1) := by decide +kernel
theorem dX7_worked_146 : decode cX7_worked 146 = .ok (.iaload, 1) := by decide +kernel
theorem dX7_worked_147 : decode cX7_worked 147 = .ok (.aload_n 0, 1) := by decide +kernel
theorem dX7_worked_148 : decode cX7_worked 148 = .ok (.getfield 58, 3) := by decide +kernel
theorem dX7_worked_151 : decode cX7_worked 151 = .ok (.iload_n 2, 1) := by decide +kernel
theorem dX7_worked_152 : decode cX7_worked 152 = .ok (.iaload, 1) := by decide +kernel
theorem dX7_worked_153 : decode cX7_worked 153 = .ok (.invokestatic 297, 3) := by decide +kernel
theorem dX7_worked_156 : decode cX7_worked 156 = .ok (.iastore, 1) := by decide +kernel
theorem dX7_worked_157 : decode cX7_worked 157 = .ok (.iinc 3 1, 3) := by decide +kernel
theorem dX7_worked_160 : decode cX7_worked 160 = .ok (.goto (-156), 3) := by decide +kernel
theorem dX7_worked_163 : decode cX7_worked 163 = .ok (.aload_n 0, 1) := by decide +kernel
theorem dX7_worked_164 : decode cX7_worked 164 = .ok (.getfield 58, 3) := by decide +kernel
theorem dX7_worked_167 : decode cX7_worked 167 = .ok (.iconst 0, 1) := by decide +kernel
theorem dX7_worked_168 : decode cX7_worked 168 = .ok (.iaload, 1) := by decide +kernel
theorem dX7_worked_169 : decode cX7_worked 169 = .ok (.ireturn, 1) := by decide +kernel
theorem dX7_isSheet_0 : decode cX7_isSheet 0 = .ok (.iload_n 0, 1) := by decide +kernel
theorem dX7_isSheet_1 : decode cX7_isSheet 1 = .ok (.i2l, 1) := by decide +kernel
theorem dX7_isSheet_2 : decode cX7_isSheet 2 = .ok (.lconst 0, 1) := by decide +kernel
theorem dX7_isSheet_3 : decode cX7_isSheet 3 = .ok (.ldc2_w 300, 3) := by decide +kernel
theorem dX7_isSheet_6 : decode cX7_isSheet 6 = .ok (.invokestatic 71, 3) := by decide +kernel
theorem dX7_isSheet_9 : decode cX7_isSheet 9 = .ok (.ireturn, 1) := by decide +kernel
theorem dX7_sheet_0 : decode cX7_sheet 0 = .ok (.iload_n 1, 1) := by decide +kernel
theorem dX7_sheet_1 : decode cX7_sheet 1 = .ok (.invokestatic 302, 3) := by decide +kernel
theorem dX7_sheet_4 : decode cX7_sheet 4 = .ok (.ifCond .eq 25, 3) := by decide +kernel
theorem dX7_sheet_7 : decode cX7_sheet 7 = .ok (.iload_n 2, 1) := by decide +kernel
theorem dX7_sheet_8 : decode cX7_sheet 8 = .ok (.i2l, 1) := by decide +kernel
theorem dX7_sheet_9 : decode cX7_sheet 9 = .ok (.ldc2_w 305, 3) := by decide +kernel
theorem dX7_sheet_12 : decode cX7_sheet 12 = .ok (.lconst 1, 1) := by decide +kernel
theorem dX7_sheet_13 : decode cX7_sheet 13 = .ok (.invokestatic 71, 3) := by decide +kernel
theorem dX7_sheet_16 : decode cX7_sheet 16 = .ok (.ifCond .eq 13, 3) := by decide +kernel
theorem dX7_sheet_19 : decode cX7_sheet 19 = .ok (.iload_n 2, 1) := by decide +kernel
theorem dX7_sheet_20 : decode cX7_sheet 20 = .ok (.ifCond .lt 12, 3) := by decide +kernel
theorem dX7_sheet_23 : decode cX7_sheet 23 = .ok (.iload_n 3, 1) := by decide +kernel
theorem dX7_sheet_24 : decode cX7_sheet 24 = .ok (.bipush 24, 2) := by decide +kernel
theorem dX7_sheet_26 : decode cX7_sheet 26 = .ok (.if_icmp .le 6, 3) := by decide +kernel
theorem dX7_sheet_29 : decode cX7_sheet 29 = .ok (.ldc 100, 2) := by decide +kernel
theorem dX7_sheet_31 : decode cX7_sheet 31 = .ok (.ireturn, 1) := by decide +kernel
theorem dX7_sheet_32 : decode cX7_sheet 32 = .ok (.iload_n 2, 1) := by decide +kernel
theorem dX7_sheet_33 : decode cX7_sheet 33 = .ok (.ifCond .lt 11, 3) := by decide +kernel
theorem dX7_sheet_36 : decode cX7_sheet 36 = .ok (.iload_n 3, 1) := by decide +kernel
theorem dX7_sheet_37 : decode cX7_sheet 37 = .ok (.ifCond .ge 7, 3) := by decide +kernel
theorem dX7_sheet_40 : decode cX7_sheet 40 = .ok (.ldc_w 307, 3) := by decide +kernel
theorem dX7_sheet_43 : decode cX7_sheet 43 = .ok (.ireturn, 1) := by decide +kernel
theorem dX7_sheet_44 : decode cX7_sheet 44 = .ok (.aload_n 0, 1) := by decide +kernel
theorem dX7_sheet_45 : decode cX7_sheet 45 = .ok (.getfield 19, 3) := by decide +kernel
theorem dX7_sheet_48 : decode cX7_sheet 48 = .ok (.iload_n 1, 1) := by decide +kernel
theorem dX7_sheet_49 : decode cX7_sheet 49 = .ok (.iload_n 2, 1) := by decide +kernel
theorem dX7_sheet_50 : decode cX7_sheet 50 = .ok (.iastore, 1) := by decide +kernel
theorem dX7_sheet_51 : decode cX7_sheet 51 = .ok (.aload_n 0, 1) := by decide +kernel
theorem dX7_sheet_52 : decode cX7_sheet 52 = .ok (.getfield 22, 3) := by decide +kernel
theorem dX7_sheet_55 : decode cX7_sheet 55 = .ok (.iload_n 1, 1) := by decide +kernel
theorem dX7_sheet_56 : decode cX7_sheet 56 = .ok (.iload_n 2, 1) := by decide +kernel
theorem dX7_sheet_57 : decode cX7_sheet 57 = .ok (.ifCond .ge 7, 3) := by decide +kernel
theorem dX7_sheet_60 : decode cX7_sheet 60 = .ok (.iconst 0, 1) := by decide +kernel
theorem dX7_sheet_61 : decode cX7_sheet 61 = .ok (.goto 4, 3) := by decide +kernel
theorem dX7_sheet_64 : decode cX7_sheet 64 = .ok (.iload_n 3, 1) := by decide +kernel
theorem dX7_sheet_65 : decode cX7_sheet 65 = .ok (.iastore, 1) := by decide +kernel
theorem dX7_sheet_66 : decode cX7_sheet 66 = .ok (.iconst 0, 1) := by decide +kernel
theorem dX7_sheet_67 : decode cX7_sheet 67 = .ok (.istore 4, 2) := by decide +kernel
theorem dX7_sheet_69 : decode cX7_sheet 69 = .ok (.iload 4, 2) := by decide +kernel
theorem dX7_sheet_71 : decode cX7_sheet 71 = .ok (.bipush 24, 2) := by decide +kernel
theorem dX7_sheet_73 : decode cX7_sheet 73 = .ok (.if_icmp .ge 22, 3) := by decide +kernel
theorem dX7_sheet_76 : decode cX7_sheet 76 = .ok (.aload_n 0, 1) := by decide +kernel
theorem dX7_sheet_77 : decode cX7_sheet 77 = .ok (.getfield 25, 3) := by decide +kernel
theorem dX7_sheet_80 : decode cX7_sheet 80 = .ok (.bipush 24, 2) := by decide +kernel
theorem dX7_sheet_82 : decode cX7_sheet 82 = .ok (.iload_n 1, 1) := by decide +kernel
theorem dX7_sheet_83 : decode cX7_sheet 83 = .ok (.imul, 1) := by decide +kernel
theorem dX7_sheet_84 : decode cX7_sheet 84 = .ok (.iload 4, 2) := by decide +kernel
theorem dX7_sheet_86 : decode cX7_sheet 86 = .ok (.iadd, 1) := by decide +kernel
theorem dX7_sheet_87 : decode cX7_sheet 87 = .ok (.iconst 0, 1) := by decide +kernel
theorem dX7_sheet_88 : decode cX7_sheet 88 = .ok (.iastore, 1) := by decide +kernel
theorem dX7_sheet_89 : decode cX7_sheet 89 = .ok (.iinc 4 1, 3) := by decide +kernel
theorem dX7_sheet_92 : decode cX7_sheet 92 = .ok (.goto (-23), 3) := by decide +kernel
theorem dX7_sheet_95 : decode cX7_sheet 95 = .ok (.aload_n 0, 1) := by decide +kernel
theorem dX7_sheet_96 : decode cX7_sheet 96 = .ok (.getfield 22, 3) := by decide +kernel
theorem dX7_sheet_99 : decode cX7_sheet 99 = .ok (.iload_n 1, 1) := by decide +kernel
theorem dX7_sheet_100 : decode cX7_sheet 100 = .ok (.iaload, 1) := by decide +kernel
theorem dX7_sheet_101 : decode cX7_sheet 101 = .ok (.ireturn, 1) := by decide +kernel
theorem dX7_mark_0 : decode cX7_mark 0 = .ok (.iload_n 1, 1) := by decide +kernel
theorem dX7_mark_1 : decode cX7_mark 1 = .ok (.invokestatic 302, 3) := by decide +kernel
theorem dX7_mark_4 : decode cX7_mark 4 = .ok (.ifCond .ne 6, 3) := by decide +kernel
theorem dX7_mark_7 : decode cX7_mark 7 = .ok (.ldc 100, 2) := by decide +kernel
theorem dX7_mark_9 : decode cX7_mark 9 = .ok (.ireturn, 1) := by decide +kernel
theorem dX7_mark_10 : decode cX7_mark 10 = .ok (.aload_n 0, 1) := by decide +kernel
theorem dX7_mark_11 : decode cX7_mark 11 = .ok (.getfield 19, 3) := by decide +kernel
theorem dX7_mark_14 : decode cX7_mark 14 = .ok (.iload_n 1, 1) := by decide +kernel
theorem dX7_mark_15 : decode cX7_mark 15 = .ok (.iaload, 1) := by decide +kernel
theorem dX7_mark_16 : decode cX7_mark 16 = .ok (.ifCond .ge 7, 3) := by decide +kernel
theorem dX7_mark_19 : decode cX7_mark 19 = .ok (.ldc_w 308, 3) := by decide +kernel
theorem dX7_mark_22 : decode cX7_mark 22 = .ok (.ireturn, 1) := by decide +kernel
theorem dX7_mark_23 : decode cX7_mark 23 = .ok (.iload_n 2, 1) := by decide +kernel
theorem dX7_mark_24 : decode cX7_mark 24 = .ok (.i2l, 1) := by decide +kernel
theorem dX7_mark_25 : decode cX7_mark 25 = .ok (.lconst 0, 1) := by decide +kernel
theorem dX7_mark_26 : decode cX7_mark 26 = .ok (.aload_n 0, 1) := by decide +kernel
theorem dX7_mark_27 : decode cX7_mark 27 = .ok (.getfield 22, 3) := by decide +kernel
theorem dX7_mark_30 : decode cX7_mark 30 = .ok (.iload_n 1, 1) := by decide +kernel
theorem dX7_mark_31 : decode cX7_mark 31 = .ok (.iaload, 1) := by decide +kernel
theorem dX7_mark_32 : decode cX7_mark 32 = .ok (.iconst 1, 1) := by decide +kernel
theorem dX7_mark_33 : decode cX7_mark 33 = .ok (.isub, 1) := by decide +kernel
theorem dX7_mark_34 : decode cX7_mark 34 = .ok (.i2l, 1) := by decide +kernel
theorem dX7_mark_35 : decode cX7_mark 35 = .ok (.invokestatic 71, 3) := by decide +kernel
theorem dX7_mark_38 : decode cX7_mark 38 = .ok (.ifCond .ne 7, 3) := by decide +kernel
theorem dX7_mark_41 : decode cX7_mark 41 = .ok (.ldc_w 309, 3) := by decide +kernel
theorem dX7_mark_44 : decode cX7_mark 44 = .ok (.ireturn, 1) := by decide +kernel
theorem dX7_mark_45 : decode cX7_mark 45 = .ok (.aload_n 0, 1) := by decide +kernel
theorem dX7_mark_46 : decode cX7_mark 46 = .ok (.getfield 19, 3) := by decide +kernel
theorem dX7_mark_49 : decode cX7_mark 49 = .ok (.iload_n 1, 1) := by decide +kernel
theorem dX7_mark_50 : decode cX7_mark 50 = .ok (.iaload, 1) := by decide +kernel
theorem dX7_mark_51 : decode cX7_mark 51 = .ok (.ifCond .ne 12, 3) := by decide +kernel
theorem dX7_mark_54 : decode cX7_mark 54 = .ok (.iload_n 3, 1) := by decide +kernel
theorem dX7_mark_55 : decode cX7_mark 55 = .ok (.ldc 70, 2) := by decide +kernel
theorem dX7_mark_57 : decode cX7_mark 57 = .ok (.if_icmp .ne 6, 3) := by decide +kernel
theorem dX7_mark_60 : decode cX7_mark 60 = .ok (.ldc 148, 2) := by decide +kernel
theorem dX7_mark_62 : decode cX7_mark 62 = .ok (.ireturn, 1) := by decide +kernel
theorem dX7_mark_63 : decode cX7_mark 63 = .ok (.aload_n 0, 1) := by decide +kernel
theorem dX7_mark_64 : decode cX7_mark 64 = .ok (.getfield 19, 3) := by decide +kernel
theorem dX7_mark_67 : decode cX7_mark 67 = .ok (.iload_n 1, 1) := by decide +kernel
theorem dX7_mark_68 : decode cX7_mark 68 = .ok (.iaload, 1) := by decide +kernel
theorem dX7_mark_69 : decode cX7_mark 69 = .ok (.iconst 1, 1) := by decide +kernel
theorem dX7_mark_70 : decode cX7_mark 70 = .ok (.if_icmp .ne 26, 3) := by decide +kernel
theorem dX7_mark_73 : decode cX7_mark 73 = .ok (.iload_n 3, 1) := by decide +kernel
theorem dX7_mark_74 : decode cX7_mark 74 = .ok (.ldc 70, 2) := by decide +kernel
theorem dX7_mark_76 : decode cX7_mark 76 = .ok (.if_icmp .eq 20, 3) := by decide +kernel
theorem dX7_mark_79 : decode cX7_mark 79 = .ok (.iload_n 3, 1) := by decide +kernel
theorem dX7_mark_80 : decode cX7_mark 80 = .ok (.i2l, 1) := by decide +kernel
theorem dX7_mark_81 : decode cX7_mark 81 = .ok (.ldc2_w 310, 3) := by decide +kernel
theorem dX7_mark_84 : decode cX7_mark 84 = .ok (.ldc2_w 312, 3) := by decide +kernel
theorem dX7_mark_87 : decode cX7_mark 87 = .ok (.invokestatic 71, 3) := by decide +kernel
theorem dX7_mark_90 : decode cX7_mark 90 = .ok (.ifCond .ne 6, 3) := by decide +kernel
theorem dX7_mark_93 : decode cX7_mark 93 = .ok (.ldc 100, 2) := by decide +kernel
theorem dX7_mark_95 : decode cX7_mark 95 = .ok (.ireturn, 1) := by decide +kernel
theorem dX7_mark_96 : decode cX7_mark 96 = .ok (.aload_n 0, 1) := by decide +kernel
theorem dX7_mark_97 : decode cX7_mark 97 = .ok (.getfield 25, 3) := by decide +kernel
theorem dX7_mark_100 : decode cX7_mark 100 = .ok (.bipush 24, 2) := by decide +kernel
theorem dX7_mark_102 : decode cX7_mark 102 = .ok (.iload_n 1, 1) := by decide +kernel
theorem dX7_mark_103 : decode cX7_mark 103 = .ok (.imul, 1) := by decide +kernel
theorem dX7_mark_104 : decode cX7_mark 104 = .ok (.iload_n 2, 1) := by decide +kernel
theorem dX7_mark_105 : decode cX7_mark 105 = .ok (.iadd, 1) := by decide +kernel
theorem dX7_mark_106 : decode cX7_mark 106 = .ok (.aload_n 0, 1) := by decide +kernel
theorem dX7_mark_107 : decode cX7_mark 107 = .ok (.getfield 19, 3) := by decide +kernel
theorem dX7_mark_110 : decode cX7_mark 110 = .ok (.iload_n 1, 1) := by decide +kernel
theorem dX7_mark_111 : decode cX7_mark 111 = .ok (.iaload, 1) := by decide +kernel
theorem dX7_mark_112 : decode cX7_mark 112 = .ok (.ifCond .ne 13, 3) := by decide +kernel
theorem dX7_mark_115 : decode cX7_mark 115 = .ok (.iload_n 3, 1) := by decide +kernel
theorem dX7_mark_116 : decode cX7_mark 116 = .ok (.bipush 16, 2) := by decide +kernel
theorem dX7_mark_118 : decode cX7_mark 118 = .ok (.ishl, 1) := by decide +kernel
theorem dX7_mark_119 : decode cX7_mark 119 = .ok (.bipush 16, 2) := by decide +kernel
theorem dX7_mark_121 : decode cX7_mark 121 = .ok (.ishr, 1) := by decide +kernel
theorem dX7_mark_122 : decode cX7_mark 122 = .ok (.goto 4, 3) := by decide +kernel
theorem dX7_mark_125 : decode cX7_mark 125 = .ok (.iload_n 3, 1) := by decide +kernel
theorem dX7_mark_126 : decode cX7_mark 126 = .ok (.iastore, 1) := by decide +kernel
theorem dX7_mark_127 : decode cX7_mark 127 = .ok (.iconst 1, 1) := by decide +kernel
theorem dX7_mark_128 : decode cX7_mark 128 = .ok (.ireturn, 1) := by decide +kernel
theorem dX7_pour_0 : decode cX7_pour 0 = .ok (.iload_n 1, 1) := by decide +kernel
theorem dX7_pour_1 : decode cX7_pour 1 = .ok (.invokestatic 302, 3) := by decide +kernel
theorem dX7_pour_4 : decode cX7_pour 4 = .ok (.ifCond .ne 6, 3) := by decide +kernel
theorem dX7_pour_7 : decode cX7_pour 7 = .ok (.ldc 100, 2) := by decide +kernel
theorem dX7_pour_9 : decode cX7_pour 9 = .ok (.ireturn, 1) := by decide +kernel
theorem dX7_pour_10 : decode cX7_pour 10 = .ok (.aload_n 0, 1) := by decide +kernel
theorem dX7_pour_11 : decode cX7_pour 11 = .ok (.getfield 19, 3) := by decide +kernel
theorem dX7_pour_14 : decode cX7_pour 14 = .ok (.iload_n 1, 1) := by decide +kernel
theorem dX7_pour_15 : decode cX7_pour 15 = .ok (.iaload, 1) := by decide +kernel
theorem dX7_pour_16 : decode cX7_pour 16 = .ok (.ifCond .ge 7, 3) := by decide +kernel
theorem dX7_pour_19 : decode cX7_pour 19 = .ok (.ldc_w 308, 3) := by decide +kernel
theorem dX7_pour_22 : decode cX7_pour 22 = .ok (.ireturn, 1) := by decide +kernel
theorem dX7_pour_23 : decode cX7_pour 23 = .ok (.iconst 0, 1) := by decide +kernel
theorem dX7_pour_24 : decode cX7_pour 24 = .ok (.istore_n 2, 1) := by decide +kernel
theorem dX7_pour_25 : decode cX7_pour 25 = .ok (.iconst 0, 1) := by decide +kernel
theorem dX7_pour_26 : decode cX7_pour 26 = .ok (.istore_n 3, 1) := by decide +kernel
theorem dX7_pour_27 : decode cX7_pour 27 = .ok (.iload_n 3, 1) := by decide +kernel
theorem dX7_pour_28 : decode cX7_pour 28 = .ok (.aload_n 0, 1) := by decide +kernel
theorem dX7_pour_29 : decode cX7_pour 29 = .ok (.getfield 22, 3) := by decide +kernel
theorem dX7_pour_32 : decode cX7_pour 32 = .ok (.iload_n 1, 1) := by decide +kernel
theorem dX7_pour_33 : decode cX7_pour 33 = .ok (.iaload, 1) := by decide +kernel
theorem dX7_pour_34 : decode cX7_pour 34 = .ok (.if_icmp .ge 94, 3) := by decide +kernel
theorem dX7_pour_37 : decode cX7_pour 37 = .ok (.iload_n 3, 1) := by decide +kernel
theorem dX7_pour_38 : decode cX7_pour 38 = .ok (.aload_n 0, 1) := by decide +kernel
theorem dX7_pour_39 : decode cX7_pour 39 = .ok (.getfield 7, 3) := by decide +kernel
theorem dX7_pour_42 : decode cX7_pour 42 = .ok (.iconst 0, 1) := by decide +kernel
theorem dX7_pour_43 : decode cX7_pour 43 = .ok (.iaload, 1) := by decide +kernel
theorem dX7_pour_44 : decode cX7_pour 44 = .ok (.if_icmp .ge 84, 3) := by decide +kernel
theorem dX7_pour_47 : decode cX7_pour 47 = .ok (.aload_n 0, 1) := by decide +kernel
theorem dX7_pour_48 : decode cX7_pour 48 = .ok (.getfield 25, 3) := by decide +kernel
theorem dX7_pour_51 : decode cX7_pour 51 = .ok (.bipush 24, 2) := by decide +kernel
theorem dX7_pour_53 : decode cX7_pour 53 = .ok (.iload_n 1, 1) := by decide +kernel
theorem dX7_pour_54 : decode cX7_pour 54 = .ok (.imul, 1) := by decide +kernel
theorem dX7_pour_55 : decode cX7_pour 55 = .ok (.iload_n 3, 1) := by decide +kernel
theorem dX7_pour_56 : decode cX7_pour 56 = .ok (.iadd, 1) := by decide +kernel
theorem dX7_pour_57 : decode cX7_pour 57 = .ok (.iaload, 1) := by decide +kernel
theorem dX7_pour_58 : decode cX7_pour 58 = .ok (.istore 4, 2) := by decide +kernel
theorem dX7_pour_60 : decode cX7_pour 60 = .ok (.iload 4, 2) := by decide +kernel
theorem dX7_pour_62 : decode cX7_pour 62 = .ok (.ldc 70, 2) := by decide +kernel
theorem dX7_pour_64 : decode cX7_pour 64 = .ok (.if_icmp .ne 20, 3) := by decide +kernel
theorem dX7_pour_67 : decode cX7_pour 67 = .ok (.aload_n 0, 1) := by decide +kernel
theorem dX7_pour_68 : decode cX7_pour 68 = .ok (.getfield 7, 3) := by decide +kernel
theorem dX7_pour_71 : decode cX7_pour 71 = .ok (.bipush 6, 2) := by decide +kernel
theorem dX7_pour_73 : decode cX7_pour 73 = .ok (.bipush 7, 2) := by decide +kernel
theorem dX7_pour_75 : decode cX7_pour 75 = .ok (.iload_n 3, 1) := by decide +kernel
theorem dX7_pour_76 : decode cX7_pour 76 = .ok (.imul, 1) := by decide +kernel
theorem dX7_pour_77 : decode cX7_pour 77 = .ok (.iadd, 1) := by decide +kernel
theorem dX7_pour_78 : decode cX7_pour 78 = .ok (.iconst 3, 1) := by decide +kernel
theorem dX7_pour_79 : decode cX7_pour 79 = .ok (.iadd, 1) := by decide +kernel
theorem dX7_pour_80 : decode cX7_pour 80 = .ok (.iaload, 1) := by decide +kernel
theorem dX7_pour_81 : decode cX7_pour 81 = .ok (.goto 11, 3) := by decide +kernel
theorem dX7_pour_84 : decode cX7_pour 84 = .ok (.iload 4, 2) := by decide +kernel
theorem dX7_pour_86 : decode cX7_pour 86 = .ok (.iconst 0, 1) := by decide +kernel
theorem dX7_pour_87 : decode cX7_pour 87 = .ok (.bipush 99, 2) := by decide +kernel
theorem dX7_pour_89 : decode cX7_pour 89 = .ok (.invokestatic 116, 3) := by decide +kernel
theorem dX7_pour_92 : decode cX7_pour 92 = .ok (.istore 5, 2) := by decide +kernel
theorem dX7_pour_94 : decode cX7_pour 94 = .ok (.iload_n 2, 1) := by decide +kernel
theorem dX7_pour_95 : decode cX7_pour 95 = .ok (.iload 5, 2) := by decide +kernel
theorem dX7_pour_97 : decode cX7_pour 97 = .ok (.aload_n 0, 1) := by decide +kernel
theorem dX7_pour_98 : decode cX7_pour 98 = .ok (.bipush 6, 2) := by decide +kernel
theorem dX7_pour_100 : decode cX7_pour 100 = .ok (.bipush 7, 2) := by decide +kernel
theorem dX7_pour_102 : decode cX7_pour 102 = .ok (.iload_n 3, 1) := by decide +kernel
theorem dX7_pour_103 : decode cX7_pour 103 = .ok (.imul, 1) := by decide +kernel
theorem dX7_pour_104 : decode cX7_pour 104 = .ok (.iadd, 1) := by decide +kernel
theorem dX7_pour_105 : decode cX7_pour 105 = .ok (.iconst 3, 1) := by decide +kernel
theorem dX7_pour_106 : decode cX7_pour 106 = .ok (.iadd, 1) := by decide +kernel
theorem dX7_pour_107 : decode cX7_pour 107 = .ok (.iload 5, 2) := by decide +kernel
theorem dX7_pour_109 : decode cX7_pour 109 = .ok (.invokevirtual 149, 3) := by decide +kernel
theorem dX7_pour_112 : decode cX7_pour 112 = .ok (.if_icmp .ne 7, 3) := by decide +kernel
theorem dX7_pour_115 : decode cX7_pour 115 = .ok (.iconst 0, 1) := by decide +kernel
theorem dX7_pour_116 : decode cX7_pour 116 = .ok (.goto 4, 3) := by decide +kernel
theorem dX7_pour_119 : decode cX7_pour 119 = .ok (.iconst 1, 1) := by decide +kernel
theorem dX7_pour_120 : decode cX7_pour 120 = .ok (.iadd, 1) := by decide +kernel
theorem dX7_pour_121 : decode cX7_pour 121 = .ok (.istore_n 2, 1) := by decide +kernel
theorem dX7_pour_122 : decode cX7_pour 122 = .ok (.iinc 3 1, 3) := by decide +kernel
theorem dX7_pour_125 : decode cX7_pour 125 = .ok (.goto (-98), 3) := by decide +kernel
theorem dX7_pour_128 : decode cX7_pour 128 = .ok (.iload_n 2, 1) := by decide +kernel
theorem dX7_pour_129 : decode cX7_pour 129 = .ok (.ireturn, 1) := by decide +kernel
theorem dX7_reads_0 : decode cX7_reads 0 = .ok (.iload_n 1, 1) := by decide +kernel
theorem dX7_reads_1 : decode cX7_reads 1 = .ok (.invokestatic 302, 3) := by decide +kernel
theorem dX7_reads_4 : decode cX7_reads 4 = .ok (.ifCond .ne 6, 3) := by decide +kernel
theorem dX7_reads_7 : decode cX7_reads 7 = .ok (.ldc 100, 2) := by decide +kernel
theorem dX7_reads_9 : decode cX7_reads 9 = .ok (.ireturn, 1) := by decide +kernel
theorem dX7_reads_10 : decode cX7_reads 10 = .ok (.aload_n 0, 1) := by decide +kernel
theorem dX7_reads_11 : decode cX7_reads 11 = .ok (.getfield 19, 3) := by decide +kernel
theorem dX7_reads_14 : decode cX7_reads 14 = .ok (.iload_n 1, 1) := by decide +kernel
theorem dX7_reads_15 : decode cX7_reads 15 = .ok (.iaload, 1) := by decide +kernel
theorem dX7_reads_16 : decode cX7_reads 16 = .ok (.ifCond .ge 7, 3) := by decide +kernel
theorem dX7_reads_19 : decode cX7_reads 19 = .ok (.ldc_w 308, 3) := by decide +kernel
theorem dX7_reads_22 : decode cX7_reads 22 = .ok (.ireturn, 1) := by decide +kernel
theorem dX7_reads_23 : decode cX7_reads 23 = .ok (.iconst 0, 1) := by decide +kernel
theorem dX7_reads_24 : decode cX7_reads 24 = .ok (.istore_n 2, 1) := by decide +kernel
theorem dX7_reads_25 : decode cX7_reads 25 = .ok (.iload_n 2, 1) := by decide +kernel
theorem dX7_reads_26 : decode cX7_reads 26 = .ok (.aload_n 0, 1) := by decide +kernel
theorem dX7_reads_27 : decode cX7_reads 27 = .ok (.getfield 22, 3) := by decide +kernel
theorem dX7_reads_30 : decode cX7_reads 30 = .ok (.iload_n 1, 1) := by decide +kernel
theorem dX7_reads_31 : decode cX7_reads 31 = .ok (.iaload, 1) := by decide +kernel
theorem dX7_reads_32 : decode cX7_reads 32 = .ok (.if_icmp .ge 49, 3) := by decide +kernel
theorem dX7_reads_35 : decode cX7_reads 35 = .ok (.aload_n 0, 1) := by decide +kernel
theorem dX7_reads_36 : decode cX7_reads 36 = .ok (.getfield 25, 3) := by decide +kernel
theorem dX7_reads_39 : decode cX7_reads 39 = .ok (.bipush 24, 2) := by decide +kernel
theorem dX7_reads_41 : decode cX7_reads 41 = .ok (.iload_n 1, 1) := by decide +kernel
theorem dX7_reads_42 : decode cX7_reads 42 = .ok (.imul, 1) := by decide +kernel
theorem dX7_reads_43 : decode cX7_reads 43 = .ok (.iload_n 2, 1) := by decide +kernel
theorem dX7_reads_44 : decode cX7_reads 44 = .ok (.iadd, 1) := by decide +kernel
theorem dX7_reads_45 : decode cX7_reads 45 = .ok (.iaload, 1) := by decide +kernel
theorem dX7_reads_46 : decode cX7_reads 46 = .ok (.istore_n 3, 1) := by decide +kernel
theorem dX7_reads_47 : decode cX7_reads 47 = .ok (.iload_n 3, 1) := by decide +kernel
theorem dX7_reads_48 : decode cX7_reads 48 = .ok (.ldc 70, 2) := by decide +kernel
theorem dX7_reads_50 : decode cX7_reads 50 = .ok (.if_icmp .eq 25, 3) := by decide +kernel
theorem dX7_reads_53 : decode cX7_reads 53 = .ok (.iload_n 2, 1) := by decide +kernel
theorem dX7_reads_54 : decode cX7_reads 54 = .ok (.aload_n 0, 1) := by decide +kernel
theorem dX7_reads_55 : decode cX7_reads 55 = .ok (.getfield 7, 3) := by decide +kernel
theorem dX7_reads_58 : decode cX7_reads 58 = .ok (.iconst 0, 1) := by decide +kernel
theorem dX7_reads_59 : decode cX7_reads 59 = .ok (.iaload, 1) := by decide +kernel
theorem dX7_reads_60 : decode cX7_reads 60 = .ok (.if_icmp .ge 13, 3) := by decide +kernel
theorem dX7_reads_63 : decode cX7_reads 63 = .ok (.iload_n 3, 1) := by decide +kernel
theorem dX7_reads_64 : decode cX7_reads 64 = .ok (.aload_n 0, 1) := by decide +kernel
theorem dX7_reads_65 : decode cX7_reads 65 = .ok (.iload_n 2, 1) := by decide +kernel
theorem dX7_reads_66 : decode cX7_reads 66 = .ok (.iconst 2, 1) := by decide +kernel
theorem dX7_reads_67 : decode cX7_reads 67 = .ok (.invokevirtual 75, 3) := by decide +kernel
theorem dX7_reads_70 : decode cX7_reads 70 = .ok (.if_icmp .eq 5, 3) := by decide +kernel
theorem dX7_reads_73 : decode cX7_reads 73 = .ok (.iload_n 2, 1) := by decide +kernel
theorem dX7_reads_74 : decode cX7_reads 74 = .ok (.ireturn, 1) := by decide +kernel
theorem dX7_reads_75 : decode cX7_reads 75 = .ok (.iinc 2 1, 3) := by decide +kernel
theorem dX7_reads_78 : decode cX7_reads 78 = .ok (.goto (-53), 3) := by decide +kernel
theorem dX7_reads_81 : decode cX7_reads 81 = .ok (.ldc 70, 2) := by decide +kernel
theorem dX7_reads_83 : decode cX7_reads 83 = .ok (.ireturn, 1) := by decide +kernel
theorem dX7_began_0 : decode cX7_began 0 = .ok (.iload_n 1, 1) := by decide +kernel
theorem dX7_began_1 : decode cX7_began 1 = .ok (.invokestatic 302, 3) := by decide +kernel
theorem dX7_began_4 : decode cX7_began 4 = .ok (.ifCond .eq 25, 3) := by decide +kernel
theorem dX7_began_7 : decode cX7_began 7 = .ok (.iload_n 2, 1) := by decide +kernel
theorem dX7_began_8 : decode cX7_began 8 = .ok (.i2l, 1) := by decide +kernel
theorem dX7_began_9 : decode cX7_began 9 = .ok (.lconst 0, 1) := by decide +kernel
theorem dX7_began_10 : decode cX7_began 10 = .ok (.ldc2_w 193, 3) := by decide +kernel
theorem dX7_began_13 : decode cX7_began 13 = .ok (.invokestatic 71, 3) := by decide +kernel
theorem dX7_began_16 : decode cX7_began 16 = .ok (.ifCond .eq 13, 3) := by decide +kernel
theorem dX7_began_19 : decode cX7_began 19 = .ok (.iload_n 3, 1) := by decide +kernel
theorem dX7_began_20 : decode cX7_began 20 = .ok (.i2l, 1) := by decide +kernel
theorem dX7_began_21 : decode cX7_began 21 = .ok (.lconst 0, 1) := by decide +kernel
theorem dX7_began_22 : decode cX7_began 22 = .ok (.lconst 1, 1) := by decide +kernel
theorem dX7_began_23 : decode cX7_began 23 = .ok (.invokestatic 71, 3) := by decide +kernel
theorem dX7_began_26 : decode cX7_began 26 = .ok (.ifCond .ne 6, 3) := by decide +kernel
theorem dX7_began_29 : decode cX7_began 29 = .ok (.ldc 100, 2) := by decide +kernel
theorem dX7_began_31 : decode cX7_began 31 = .ok (.ireturn, 1) := by decide +kernel
theorem dX7_began_32 : decode cX7_began 32 = .ok (.aload_n 0, 1) := by decide +kernel
theorem dX7_began_33 : decode cX7_began 33 = .ok (.getfield 19, 3) := by decide +kernel
theorem dX7_began_36 : decode cX7_began 36 = .ok (.iload_n 1, 1) := by decide +kernel
theorem dX7_began_37 : decode cX7_began 37 = .ok (.iaload, 1) := by decide +kernel
theorem dX7_began_38 : decode cX7_began 38 = .ok (.ifCond .ge 7, 3) := by decide +kernel
theorem dX7_began_41 : decode cX7_began 41 = .ok (.ldc_w 308, 3) := by decide +kernel
theorem dX7_began_44 : decode cX7_began 44 = .ok (.ireturn, 1) := by decide +kernel
theorem dX7_began_45 : decode cX7_began 45 = .ok (.aload_n 0, 1) := by decide +kernel
theorem dX7_began_46 : decode cX7_began 46 = .ok (.invokevirtual 181, 3) := by decide +kernel
theorem dX7_began_49 : decode cX7_began 49 = .ok (.iconst (-1), 1) := by decide +kernel
theorem dX7_began_50 : decode cX7_began 50 = .ok (.istore 4, 2) := by decide +kernel
theorem dX7_began_52 : decode cX7_began 52 = .ok (.iconst 0, 1) := by decide +kernel
theorem dX7_began_53 : decode cX7_began 53 = .ok (.istore 5, 2) := by decide +kernel
theorem dX7_began_55 : decode cX7_began 55 = .ok (.iconst 0, 1) := by decide +kernel
theorem dX7_began_56 : decode cX7_began 56 = .ok (.istore 6, 2) := by decide +kernel
theorem dX7_began_58 : decode cX7_began 58 = .ok (.iload 6, 2) := by decide +kernel
theorem dX7_began_60 : decode cX7_began 60 = .ok (.aload_n 0, 1) := by decide +kernel
theorem dX7_began_61 : decode cX7_began 61 = .ok (.getfield 7, 3) := by decide +kernel
theorem dX7_began_64 : decode cX7_began 64 = .ok (.iconst 0, 1) := by decide +kernel
theorem dX7_began_65 : decode cX7_began 65 = .ok (.iaload, 1) := by decide +kernel
theorem dX7_began_66 : decode cX7_began 66 = .ok (.if_icmp .ge 126, 3) := by decide +kernel
theorem dX7_began_69 : decode cX7_began 69 = .ok (.aload_n 0, 1) := by decide +kernel
theorem dX7_began_70 : decode cX7_began 70 = .ok (.iload 6, 2) := by decide +kernel
theorem dX7_began_72 : decode cX7_began 72 = .ok (.iconst 3, 1) := by decide +kernel
theorem dX7_began_73 : decode cX7_began 73 = .ok (.iconst 0, 1) := by decide +kernel
theorem dX7_began_74 : decode cX7_began 74 = .ok (.invokevirtual 80, 3) := by decide +kernel
theorem dX7_began_77 : decode cX7_began 77 = .ok (.aload_n 0, 1) := by decide +kernel
theorem dX7_began_78 : decode cX7_began 78 = .ok (.iload_n 2, 1) := by decide +kernel
theorem dX7_began_79 : decode cX7_began 79 = .ok (.invokevirtual 184, 3) := by decide +kernel
theorem dX7_began_82 : decode cX7_began 82 = .ok (.iconst 0, 1) := by decide +kernel
theorem dX7_began_83 : decode cX7_began 83 = .ok (.istore 7, 2) := by decide +kernel
theorem dX7_began_85 : decode cX7_began 85 = .ok (.iconst 0, 1) := by decide +kernel
theorem dX7_began_86 : decode cX7_began 86 = .ok (.istore 8, 2) := by decide +kernel
theorem dX7_began_88 : decode cX7_began 88 = .ok (.iload 8, 2) := by decide +kernel
theorem dX7_began_90 : decode cX7_began 90 = .ok (.aload_n 0, 1) := by decide +kernel
theorem dX7_began_91 : decode cX7_began 91 = .ok (.getfield 22, 3) := by decide +kernel
theorem dX7_began_94 : decode cX7_began 94 = .ok (.iload_n 1, 1) := by decide +kernel
theorem dX7_began_95 : decode cX7_began 95 = .ok (.iaload, 1) := by decide +kernel
theorem dX7_began_96 : decode cX7_began 96 = .ok (.if_icmp .ge 66, 3) := by decide +kernel
theorem dX7_began_99 : decode cX7_began 99 = .ok (.aload_n 0, 1) := by decide +kernel
theorem dX7_began_100 : decode cX7_began 100 = .ok (.getfield 25, 3) := by decide +kernel
theorem dX7_began_103 : decode cX7_began 103 = .ok (.bipush 24, 2) := by decide +kernel
theorem dX7_began_105 : decode cX7_began 105 = .ok (.iload_n 1, 1) := by decide +kernel
theorem dX7_began_106 : decode cX7_began 106 = .ok (.imul, 1) := by decide +kernel
theorem dX7_began_107 : decode cX7_began 107 = .ok (.iload 8, 2) := by decide +kernel
theorem dX7_began_109 : decode cX7_began 109 = .ok (.iadd, 1) := by decide +kernel
theorem dX7_began_110 : decode cX7_began 110 = .ok (.iaload, 1) := by decide +kernel
theorem dX7_began_111 : decode cX7_began 111 = .ok (.istore 9, 2) := by decide +kernel
theorem dX7_began_113 : decode cX7_began 113 = .ok (.iload 7, 2) := by decide +kernel
theorem dX7_began_115 : decode cX7_began 115 = .ok (.iload 9, 2) := by decide +kernel
theorem dX7_began_117 : decode cX7_began 117 = .ok (.ldc 70, 2) := by decide +kernel
theorem dX7_began_119 : decode cX7_began 119 = .ok (.if_icmp .ne 7, 3) := by decide +kernel
theorem dX7_began_122 : decode cX7_began 122 = .ok (.iconst 0, 1) := by decide +kernel
theorem dX7_began_123 : decode cX7_began 123 = .ok (.goto 30, 3) := by decide +kernel
theorem dX7_began_126 : decode cX7_began 126 = .ok (.iload 9, 2) := by decide +kernel
theorem dX7_began_128 : decode cX7_began 128 = .ok (.iload 8, 2) := by decide +kernel
theorem dX7_began_130 : decode cX7_began 130 = .ok (.aload_n 0, 1) := by decide +kernel
theorem dX7_began_131 : decode cX7_began 131 = .ok (.getfield 7, 3) := by decide +kernel
theorem dX7_began_134 : decode cX7_began 134 = .ok (.iconst 0, 1) := by decide +kernel
theorem dX7_began_135 : decode cX7_began 135 = .ok (.iaload, 1) := by decide +kernel
theorem dX7_began_136 : decode cX7_began 136 = .ok (.if_icmp .ge 13, 3) := by decide +kernel
theorem dX7_began_139 : decode cX7_began 139 = .ok (.aload_n 0, 1) := by decide +kernel
theorem dX7_began_140 : decode cX7_began 140 = .ok (.iload 8, 2) := by decide +kernel
theorem dX7_began_142 : decode cX7_began 142 = .ok (.iconst 4, 1) := by decide +kernel
theorem dX7_began_143 : decode cX7_began 143 = .ok (.invokevirtual 75, 3) := by decide +kernel
theorem dX7_began_146 : decode cX7_began 146 = .ok (.goto 4, 3) := by decide +kernel
theorem dX7_began_149 : decode cX7_began 149 = .ok (.iconst 0, 1) := by decide +kernel
theorem dX7_began_150 : decode cX7_began 150 = .ok (.invokestatic 106, 3) := by decide +kernel
theorem dX7_began_153 : decode cX7_began 153 = .ok (.iadd, 1) := by decide +kernel
theorem dX7_began_154 : decode cX7_began 154 = .ok (.istore 7, 2) := by decide +kernel
theorem dX7_began_156 : decode cX7_began 156 = .ok (.iinc 8 1, 3) := by decide +kernel
theorem dX7_began_159 : decode cX7_began 159 = .ok (.goto (-71), 3) := by decide +kernel
theorem dX7_began_162 : decode cX7_began 162 = .ok (.aload_n 0, 1) := by decide +kernel
theorem dX7_began_163 : decode cX7_began 163 = .ok (.invokevirtual 187, 3) := by decide +kernel
theorem dX7_began_166 : decode cX7_began 166 = .ok (.iload 4, 2) := by decide +kernel
theorem dX7_began_168 : decode cX7_began 168 = .ok (.ifCond .lt 10, 3) := by decide +kernel
theorem dX7_began_171 : decode cX7_began 171 = .ok (.iload 7, 2) := by decide +kernel
theorem dX7_began_173 : decode cX7_began 173 = .ok (.iload 5, 2) := by decide +kernel
theorem dX7_began_175 : decode cX7_began 175 = .ok (.if_icmp .ge 11, 3) := by decide +kernel
theorem dX7_began_178 : decode cX7_began 178 = .ok (.iload 6, 2) := by decide +kernel
theorem dX7_began_180 : decode cX7_began 180 = .ok (.istore 4, 2) := by decide +kernel
theorem dX7_began_182 : decode cX7_began 182 = .ok (.iload 7, 2) := by decide +kernel
theorem dX7_began_184 : decode cX7_began 184 = .ok (.istore 5, 2) := by decide +kernel
theorem dX7_began_186 : decode cX7_began 186 = .ok (.iinc 6 1, 3) := by decide +kernel
theorem dX7_began_189 : decode cX7_began 189 = .ok (.goto (-131), 3) := by decide +kernel
theorem dX7_began_192 : decode cX7_began 192 = .ok (.iload 4, 2) := by decide +kernel
theorem dX7_began_194 : decode cX7_began 194 = .ok (.ifCond .ge 8, 3) := by decide +kernel
theorem dX7_began_197 : decode cX7_began 197 = .ok (.ldc 70, 2) := by decide +kernel
theorem dX7_began_199 : decode cX7_began 199 = .ok (.goto 14, 3) := by decide +kernel
theorem dX7_began_202 : decode cX7_began 202 = .ok (.iload_n 3, 1) := by decide +kernel
theorem dX7_began_203 : decode cX7_began 203 = .ok (.ifCond .ne 8, 3) := by decide +kernel
theorem dX7_began_206 : decode cX7_began 206 = .ok (.iload 4, 2) := by decide +kernel
theorem dX7_began_208 : decode cX7_began 208 = .ok (.goto 5, 3) := by decide +kernel
theorem dX7_began_211 : decode cX7_began 211 = .ok (.iload 5, 2) := by decide +kernel
theorem dX7_began_213 : decode cX7_began 213 = .ok (.ireturn, 1) := by decide +kernel
theorem dX7_copy_0 : decode cX7_copy 0 = .ok (.iload_n 1, 1) := by decide +kernel
theorem dX7_copy_1 : decode cX7_copy 1 = .ok (.invokestatic 302, 3) := by decide +kernel
theorem dX7_copy_4 : decode cX7_copy 4 = .ok (.ifCond .eq 10, 3) := by decide +kernel
theorem dX7_copy_7 : decode cX7_copy 7 = .ok (.iload_n 3, 1) := by decide +kernel
theorem dX7_copy_8 : decode cX7_copy 8 = .ok (.invokestatic 302, 3) := by decide +kernel
theorem dX7_copy_11 : decode cX7_copy 11 = .ok (.ifCond .ne 6, 3) := by decide +kernel
theorem dX7_copy_14 : decode cX7_copy 14 = .ok (.ldc 100, 2) := by decide +kernel
theorem dX7_copy_16 : decode cX7_copy 16 = .ok (.ireturn, 1) := by decide +kernel
theorem dX7_copy_17 : decode cX7_copy 17 = .ok (.aload_n 0, 1) := by decide +kernel
theorem dX7_copy_18 : decode cX7_copy 18 = .ok (.getfield 19, 3) := by decide +kernel
theorem dX7_copy_21 : decode cX7_copy 21 = .ok (.iload_n 1, 1) := by decide +kernel
theorem dX7_copy_22 : decode cX7_copy 22 = .ok (.iaload, 1) := by decide +kernel
theorem dX7_copy_23 : decode cX7_copy 23 = .ok (.ifCond .lt 12, 3) := by decide +kernel
theorem dX7_copy_26 : decode cX7_copy 26 = .ok (.aload_n 0, 1) := by decide +kernel
theorem dX7_copy_27 : decode cX7_copy 27 = .ok (.getfield 19, 3) := by decide +kernel
theorem dX7_copy_30 : decode cX7_copy 30 = .ok (.iload_n 3, 1) := by decide +kernel
theorem dX7_copy_31 : decode cX7_copy 31 = .ok (.iaload, 1) := by decide +kernel
theorem dX7_copy_32 : decode cX7_copy 32 = .ok (.ifCond .ge 7, 3) := by decide +kernel
theorem dX7_copy_35 : decode cX7_copy 35 = .ok (.ldc_w 308, 3) := by decide +kernel
theorem dX7_copy_38 : decode cX7_copy 38 = .ok (.ireturn, 1) := by decide +kernel
theorem dX7_copy_39 : decode cX7_copy 39 = .ok (.aload_n 0, 1) := by decide +kernel
theorem dX7_copy_40 : decode cX7_copy 40 = .ok (.getfield 19, 3) := by decide +kernel
theorem dX7_copy_43 : decode cX7_copy 43 = .ok (.iload_n 1, 1) := by decide +kernel
theorem dX7_copy_44 : decode cX7_copy 44 = .ok (.iaload, 1) := by decide +kernel
theorem dX7_copy_45 : decode cX7_copy 45 = .ok (.aload_n 0, 1) := by decide +kernel
theorem dX7_copy_46 : decode cX7_copy 46 = .ok (.getfield 19, 3) := by decide +kernel
theorem dX7_copy_49 : decode cX7_copy 49 = .ok (.iload_n 3, 1) := by decide +kernel
theorem dX7_copy_50 : decode cX7_copy 50 = .ok (.iaload, 1) := by decide +kernel
theorem dX7_copy_51 : decode cX7_copy 51 = .ok (.if_icmp .eq 6, 3) := by decide +kernel
theorem dX7_copy_54 : decode cX7_copy 54 = .ok (.ldc 148, 2) := by decide +kernel
theorem dX7_copy_56 : decode cX7_copy 56 = .ok (.ireturn, 1) := by decide +kernel
theorem dX7_copy_57 : decode cX7_copy 57 = .ok (.iload_n 2, 1) := by decide +kernel
theorem dX7_copy_58 : decode cX7_copy 58 = .ok (.ifCond .lt 48, 3) := by decide +kernel
theorem dX7_copy_61 : decode cX7_copy 61 = .ok (.iload 4, 2) := by decide +kernel
theorem dX7_copy_63 : decode cX7_copy 63 = .ok (.ifCond .lt 43, 3) := by decide +kernel
theorem dX7_copy_66 : decode cX7_copy 66 = .ok (.iload 5, 2) := by decide +kernel
theorem dX7_copy_68 : decode cX7_copy 68 = .ok (.ifCond .lt 38, 3) := by decide +kernel
theorem dX7_copy_71 : decode cX7_copy 71 = .ok (.iload_n 2, 1) := by decide +kernel
theorem dX7_copy_72 : decode cX7_copy 72 = .ok (.i2l, 1) := by decide +kernel
theorem dX7_copy_73 : decode cX7_copy 73 = .ok (.iload 5, 2) := by decide +kernel
theorem dX7_copy_75 : decode cX7_copy 75 = .ok (.i2l, 1) := by decide +kernel
theorem dX7_copy_76 : decode cX7_copy 76 = .ok (.ladd, 1) := by decide +kernel
theorem dX7_copy_77 : decode cX7_copy 77 = .ok (.aload_n 0, 1) := by decide +kernel
theorem dX7_copy_78 : decode cX7_copy 78 = .ok (.getfield 22, 3) := by decide +kernel
theorem dX7_copy_81 : decode cX7_copy 81 = .ok (.iload_n 1, 1) := by decide +kernel
theorem dX7_copy_82 : decode cX7_copy 82 = .ok (.iaload, 1) := by decide +kernel
theorem dX7_copy_83 : decode cX7_copy 83 = .ok (.i2l, 1) := by decide +kernel
theorem dX7_copy_84 : decode cX7_copy 84 = .ok (.lcmp, 1) := by decide +kernel
theorem dX7_copy_85 : decode cX7_copy 85 = .ok (.ifCond .gt 21, 3) := by decide +kernel
theorem dX7_copy_88 : decode cX7_copy 88 = .ok (.iload 4, 2) := by decide +kernel
theorem dX7_copy_90 : decode cX7_copy 90 = .ok (.i2l, 1) := by decide +kernel
theorem dX7_copy_91 : decode cX7_copy 91 = .ok (.iload 5, 2) := by decide +kernel
theorem dX7_copy_93 : decode cX7_copy 93 = .ok (.i2l, 1) := by decide +kernel
theorem dX7_copy_94 : decode cX7_copy 94 = .ok (.ladd, 1) := by decide +kernel
theorem dX7_copy_95 : decode cX7_copy 95 = .ok (.aload_n 0, 1) := by decide +kernel
theorem dX7_copy_96 : decode cX7_copy 96 = .ok (.getfield 22, 3) := by decide +kernel
theorem dX7_copy_99 : decode cX7_copy 99 = .ok (.iload_n 3, 1) := by decide +kernel
theorem dX7_copy_100 : decode cX7_copy 100 = .ok (.iaload, 1) := by decide +kernel
theorem dX7_copy_101 : decode cX7_copy 101 = .ok (.i2l, 1) := by decide +kernel
theorem dX7_copy_102 : decode cX7_copy 102 = .ok (.lcmp, 1) := by decide +kernel
theorem dX7_copy_103 : decode cX7_copy 103 = .ok (.ifCond .le 7, 3) := by decide +kernel
theorem dX7_copy_106 : decode cX7_copy 106 = .ok (.ldc_w 309, 3) := by decide +kernel
theorem dX7_copy_109 : decode cX7_copy 109 = .ok (.ireturn, 1) := by decide +kernel
theorem dX7_copy_110 : decode cX7_copy 110 = .ok (.iconst 0, 1) := by decide +kernel
theorem dX7_copy_111 : decode cX7_copy 111 = .ok (.istore 6, 2) := by decide +kernel
theorem dX7_copy_113 : decode cX7_copy 113 = .ok (.iload 6, 2) := by decide +kernel
theorem dX7_copy_115 : decode cX7_copy 115 = .ok (.iload 5, 2) := by decide +kernel
theorem dX7_copy_117 : decode cX7_copy 117 = .ok (.if_icmp .ge 30, 3) := by decide +kernel
theorem dX7_copy_120 : decode cX7_copy 120 = .ok (.aload_n 0, 1) := by decide +kernel
theorem dX7_copy_121 : decode cX7_copy 121 = .ok (.getfield 61, 3) := by decide +kernel
theorem dX7_copy_124 : decode cX7_copy 124 = .ok (.iload 6, 2) := by decide +kernel
theorem dX7_copy_126 : decode cX7_copy 126 = .ok (.aload_n 0, 1) := by decide +kernel
theorem dX7_copy_127 : decode cX7_copy 127 = .ok (.getfield 25, 3) := by decide +kernel
theorem dX7_copy_130 : decode cX7_copy 130 = .ok (.bipush 24, 2) := by decide +kernel
theorem dX7_copy_132 : decode cX7_copy 132 = .ok (.iload_n 1, 1) := by decide +kernel
theorem dX7_copy_133 : decode cX7_copy 133 = .ok (.imul, 1) := by decide +kernel
theorem dX7_copy_134 : decode cX7_copy 134 = .ok (.iload_n 2, 1) := by decide +kernel
theorem dX7_copy_135 : decode cX7_copy 135 = .ok (.iadd, 1) := by decide +kernel
theorem dX7_copy_136 : decode cX7_copy 136 = .ok (.iload 6, 2) := by decide +kernel
theorem dX7_copy_138 : decode cX7_copy 138 = .ok (.iadd, 1) := by decide +kernel
theorem dX7_copy_139 : decode cX7_copy 139 = .ok (.iaload, 1) := by decide +kernel
theorem dX7_copy_140 : decode cX7_copy 140 = .ok (.iastore, 1) := by decide +kernel
theorem dX7_copy_141 : decode cX7_copy 141 = .ok (.iinc 6 1, 3) := by decide +kernel
theorem dX7_copy_144 : decode cX7_copy 144 = .ok (.goto (-31), 3) := by decide +kernel
theorem dX7_copy_147 : decode cX7_copy 147 = .ok (.iconst 0, 1) := by decide +kernel
theorem dX7_copy_148 : decode cX7_copy 148 = .ok (.istore 6, 2) := by decide +kernel
theorem dX7_copy_150 : decode cX7_copy 150 = .ok (.iload 6, 2) := by decide +kernel
theorem dX7_copy_152 : decode cX7_copy 152 = .ok (.iload 5, 2) := by decide +kernel
theorem dX7_copy_154 : decode cX7_copy 154 = .ok (.if_icmp .ge 31, 3) := by decide +kernel
theorem dX7_copy_157 : decode cX7_copy 157 = .ok (.aload_n 0, 1) := by decide +kernel
theorem dX7_copy_158 : decode cX7_copy 158 = .ok (.getfield 25, 3) := by decide +kernel
theorem dX7_copy_161 : decode cX7_copy 161 = .ok (.bipush 24, 2) := by decide +kernel
theorem dX7_copy_163 : decode cX7_copy 163 = .ok (.iload_n 3, 1) := by decide +kernel
theorem dX7_copy_164 : decode cX7_copy 164 = .ok (.imul, 1) := by decide +kernel
theorem dX7_copy_165 : decode cX7_copy 165 = .ok (.iload 4, 2) := by decide +kernel
theorem dX7_copy_167 : decode cX7_copy 167 = .ok (.iadd, 1) := by decide +kernel
theorem dX7_copy_168 : decode cX7_copy 168 = .ok (.iload 6, 2) := by decide +kernel
theorem dX7_copy_170 : decode cX7_copy 170 = .ok (.iadd, 1) := by decide +kernel
theorem dX7_copy_171 : decode cX7_copy 171 = .ok (.aload_n 0, 1) := by decide +kernel
theorem dX7_copy_172 : decode cX7_copy 172 = .ok (.getfield 61, 3) := by decide +kernel
theorem dX7_copy_175 : decode cX7_copy 175 = .ok (.iload 6, 2) := by decide +kernel
theorem dX7_copy_177 : decode cX7_copy 177 = .ok (.iaload, 1) := by decide +kernel
theorem dX7_copy_178 : decode cX7_copy 178 = .ok (.iastore, 1) := by decide +kernel
theorem dX7_copy_179 : decode cX7_copy 179 = .ok (.iinc 6 1, 3) := by decide +kernel
theorem dX7_copy_182 : decode cX7_copy 182 = .ok (.goto (-32), 3) := by decide +kernel
theorem dX7_copy_185 : decode cX7_copy 185 = .ok (.iload 5, 2) := by decide +kernel
theorem dX7_copy_187 : decode cX7_copy 187 = .ok (.ireturn, 1) := by decide +kernel
theorem dX7_isSlot_0 : decode cX7_isSlot 0 = .ok (.iload_n 0, 1) := by decide +kernel
theorem dX7_isSlot_1 : decode cX7_isSlot 1 = .ok (.i2l, 1) := by decide +kernel
theorem dX7_isSlot_2 : decode cX7_isSlot 2 = .ok (.lconst 0, 1) := by decide +kernel
theorem dX7_isSlot_3 : decode cX7_isSlot 3 = .ok (.ldc2_w 314, 3) := by decide +kernel
theorem dX7_isSlot_6 : decode cX7_isSlot 6 = .ok (.invokestatic 71, 3) := by decide +kernel
theorem dX7_isSlot_9 : decode cX7_isSlot 9 = .ok (.ireturn, 1) := by decide +kernel
theorem dX7_lay_0 : decode cX7_lay 0 = .ok (.iload_n 2, 1) := by decide +kernel
theorem dX7_lay_1 : decode cX7_lay 1 = .ok (.ifCond .eq 33, 3) := by decide +kernel
theorem dX7_lay_4 : decode cX7_lay 4 = .ok (.iload_n 2, 1) := by decide +kernel
theorem dX7_lay_5 : decode cX7_lay 5 = .ok (.iconst 3, 1) := by decide +kernel
theorem dX7_lay_6 : decode cX7_lay 6 = .ok (.if_icmp .eq 28, 3) := by decide +kernel
theorem dX7_lay_9 : decode cX7_lay 9 = .ok (.iload_n 2, 1) := by decide +kernel
theorem dX7_lay_10 : decode cX7_lay 10 = .ok (.iconst 1, 1) := by decide +kernel
theorem dX7_lay_11 : decode cX7_lay 11 = .ok (.if_icmp .ne 11, 3) := by decide +kernel
theorem dX7_lay_14 : decode cX7_lay 14 = .ok (.aload_n 0, 1) := by decide +kernel
theorem dX7_lay_15 : decode cX7_lay 15 = .ok (.iload_n 3, 1) := by decide +kernel
theorem dX7_lay_16 : decode cX7_lay 16 = .ok (.invokevirtual 133, 3) := by decide +kernel
theorem dX7_lay_19 : decode cX7_lay 19 = .ok (.ifCond .ne 15, 3) := by decide +kernel
theorem dX7_lay_22 : decode cX7_lay 22 = .ok (.iload_n 2, 1) := by decide +kernel
theorem dX7_lay_23 : decode cX7_lay 23 = .ok (.iconst 2, 1) := by decide +kernel
theorem dX7_lay_24 : decode cX7_lay 24 = .ok (.if_icmp .ne 14, 3) := by decide +kernel
theorem dX7_lay_27 : decode cX7_lay 27 = .ok (.iload_n 3, 1) := by decide +kernel
theorem dX7_lay_28 : decode cX7_lay 28 = .ok (.invokestatic 302, 3) := by decide +kernel
theorem dX7_lay_31 : decode cX7_lay 31 = .ok (.ifCond .eq 7, 3) := by decide +kernel
theorem dX7_lay_34 : decode cX7_lay 34 = .ok (.iconst 1, 1) := by decide +kernel
theorem dX7_lay_35 : decode cX7_lay 35 = .ok (.goto 4, 3) := by decide +kernel
theorem dX7_lay_38 : decode cX7_lay 38 = .ok (.iconst 0, 1) := by decide +kernel
theorem dX7_lay_39 : decode cX7_lay 39 = .ok (.istore 4, 2) := by decide +kernel
theorem dX7_lay_41 : decode cX7_lay 41 = .ok (.iload_n 1, 1) := by decide +kernel
theorem dX7_lay_42 : decode cX7_lay 42 = .ok (.invokestatic 316, 3) := by decide +kernel
theorem dX7_lay_45 : decode cX7_lay 45 = .ok (.ifCond .eq 8, 3) := by decide +kernel
theorem dX7_lay_48 : decode cX7_lay 48 = .ok (.iload 4, 2) := by decide +kernel
theorem dX7_lay_50 : decode cX7_lay 50 = .ok (.ifCond .ne 6, 3) := by decide +kernel
theorem dX7_lay_53 : decode cX7_lay 53 = .ok (.ldc 100, 2) := by decide +kernel
theorem dX7_lay_55 : decode cX7_lay 55 = .ok (.ireturn, 1) := by decide +kernel
theorem dX7_lay_56 : decode cX7_lay 56 = .ok (.iload_n 2, 1) := by decide +kernel
theorem dX7_lay_57 : decode cX7_lay 57 = .ok (.iconst 2, 1) := by decide +kernel
theorem dX7_lay_58 : decode cX7_lay 58 = .ok (.if_icmp .ne 16, 3) := by decide +kernel
theorem dX7_lay_61 : decode cX7_lay 61 = .ok (.aload_n 0, 1) := by decide +kernel
theorem dX7_lay_62 : decode cX7_lay 62 = .ok (.getfield 19, 3) := by decide +kernel
theorem dX7_lay_65 : decode cX7_lay 65 = .ok (.iload_n 3, 1) := by decide +kernel
theorem dX7_lay_66 : decode cX7_lay 66 = .ok (.iaload, 1) := by decide +kernel
theorem dX7_lay_67 : decode cX7_lay 67 = .ok (.ifCond .ge 7, 3) := by decide +kernel
theorem dX7_lay_70 : decode cX7_lay 70 = .ok (.ldc_w 308, 3) := by decide +kernel
theorem dX7_lay_73 : decode cX7_lay 73 = .ok (.ireturn, 1) := by decide +kernel
theorem dX7_lay_74 : decode cX7_lay 74 = .ok (.aload_n 0, 1) := by decide +kernel
theorem dX7_lay_75 : decode cX7_lay 75 = .ok (.getfield 28, 3) := by decide +kernel
theorem dX7_lay_78 : decode cX7_lay 78 = .ok (.iload_n 1, 1) := by decide +kernel
theorem dX7_lay_79 : decode cX7_lay 79 = .ok (.iaload, 1) := by decide +kernel
theorem dX7_lay_80 : decode cX7_lay 80 = .ok (.istore 5, 2) := by decide +kernel
theorem dX7_lay_82 : decode cX7_lay 82 = .ok (.aload_n 0, 1) := by decide +kernel
theorem dX7_lay_83 : decode cX7_lay 83 = .ok (.getfield 28, 3) := by decide +kernel
theorem dX7_lay_86 : decode cX7_lay 86 = .ok (.iload_n 1, 1) := by decide +kernel
theorem dX7_lay_87 : decode cX7_lay 87 = .ok (.iload_n 2, 1) := by decide +kernel
theorem dX7_lay_88 : decode cX7_lay 88 = .ok (.iastore, 1) := by decide +kernel
theorem dX7_lay_89 : decode cX7_lay 89 = .ok (.aload_n 0, 1) := by decide +kernel
theorem dX7_lay_90 : decode cX7_lay 90 = .ok (.getfield 31, 3) := by decide +kernel
theorem dX7_lay_93 : decode cX7_lay 93 = .ok (.iload_n 1, 1) := by decide +kernel
theorem dX7_lay_94 : decode cX7_lay 94 = .ok (.iload_n 2, 1) := by decide +kernel
theorem dX7_lay_95 : decode cX7_lay 95 = .ok (.iconst 1, 1) := by decide +kernel
theorem dX7_lay_96 : decode cX7_lay 96 = .ok (.if_icmp .ne 12, 3) := by decide +kernel
theorem dX7_lay_99 : decode cX7_lay 99 = .ok (.aload_n 0, 1) := by decide +kernel
theorem dX7_lay_100 : decode cX7_lay 100 = .ok (.iload_n 3, 1) := by decide +kernel
theorem dX7_lay_101 : decode cX7_lay 101 = .ok (.iconst 0, 1) := by decide +kernel
theorem dX7_lay_102 : decode cX7_lay 102 = .ok (.invokevirtual 75, 3) := by decide +kernel
theorem dX7_lay_105 : decode cX7_lay 105 = .ok (.goto 4, 3) := by decide +kernel
theorem dX7_lay_108 : decode cX7_lay 108 = .ok (.iload_n 3, 1) := by decide +kernel
theorem dX7_lay_109 : decode cX7_lay 109 = .ok (.iastore, 1) := by decide +kernel
theorem dX7_lay_110 : decode cX7_lay 110 = .ok (.aload_n 0, 1) := by decide +kernel
theorem dX7_lay_111 : decode cX7_lay 111 = .ok (.getfield 34, 3) := by decide +kernel
theorem dX7_lay_114 : decode cX7_lay 114 = .ok (.iload_n 1, 1) := by decide +kernel
theorem dX7_lay_115 : decode cX7_lay 115 = .ok (.iload_n 2, 1) := by decide +kernel
theorem dX7_lay_116 : decode cX7_lay 116 = .ok (.iconst 1, 1) := by decide +kernel
theorem dX7_lay_117 : decode cX7_lay 117 = .ok (.if_icmp .ne 11, 3) := by decide +kernel
theorem dX7_lay_120 : decode cX7_lay 120 = .ok (.aload_n 0, 1) := by decide +kernel
theorem dX7_lay_121 : decode cX7_lay 121 = .ok (.iload_n 3, 1) := by decide +kernel
theorem dX7_lay_122 : decode cX7_lay 122 = .ok (.invokevirtual 142, 3) := by decide +kernel
theorem dX7_lay_125 : decode cX7_lay 125 = .ok (.goto 4, 3) := by decide +kernel
theorem dX7_lay_128 : decode cX7_lay 128 = .ok (.iconst 0, 1) := by decide +kernel
theorem dX7_lay_129 : decode cX7_lay 129 = .ok (.iastore, 1) := by decide +kernel
theorem dX7_lay_130 : decode cX7_lay 130 = .ok (.iload_n 2, 1) := by decide +kernel
theorem dX7_lay_131 : decode cX7_lay 131 = .ok (.iconst 2, 1) := by decide +kernel
theorem dX7_lay_132 : decode cX7_lay 132 = .ok (.if_icmp .ne 55, 3) := by decide +kernel
theorem dX7_lay_135 : decode cX7_lay 135 = .ok (.aload_n 0, 1) := by decide +kernel
theorem dX7_lay_136 : decode cX7_lay 136 = .ok (.getfield 37, 3) := by decide +kernel
theorem dX7_lay_139 : decode cX7_lay 139 = .ok (.iload_n 1, 1) := by decide +kernel
theorem dX7_lay_140 : decode cX7_lay 140 = .ok (.aload_n 0, 1) := by decide +kernel
theorem dX7_lay_141 : decode cX7_lay 141 = .ok (.getfield 22, 3) := by decide +kernel
theorem dX7_lay_144 : decode cX7_lay 144 = .ok (.iload_n 3, 1) := by decide +kernel
theorem dX7_lay_145 : decode cX7_lay 145 = .ok (.iaload, 1) := by decide +kernel
theorem dX7_lay_146 : decode cX7_lay 146 = .ok (.iastore, 1) := by decide +kernel
theorem dX7_lay_147 : decode cX7_lay 147 = .ok (.iconst 0, 1) := by decide +kernel
theorem dX7_lay_148 : decode cX7_lay 148 = .ok (.istore 6, 2) := by decide +kernel
theorem dX7_lay_150 : decode cX7_lay 150 = .ok (.iload 6, 2) := by decide +kernel
theorem dX7_lay_152 : decode cX7_lay 152 = .ok (.bipush 24, 2) := by decide +kernel
theorem dX7_lay_154 : decode cX7_lay 154 = .ok (.if_icmp .ge 33, 3) := by decide +kernel
theorem dX7_lay_157 : decode cX7_lay 157 = .ok (.aload_n 0, 1) := by decide +kernel
theorem dX7_lay_158 : decode cX7_lay 158 = .ok (.getfield 40, 3) := by decide +kernel
theorem dX7_lay_161 : decode cX7_lay 161 = .ok (.bipush 24, 2) := by decide +kernel
theorem dX7_lay_163 : decode cX7_lay 163 = .ok (.iload_n 1, 1) := by decide +kernel
theorem dX7_lay_164 : decode cX7_lay 164 = .ok (.imul, 1) := by decide +kernel
theorem dX7_lay_165 : decode cX7_lay 165 = .ok (.iload 6, 2) := by decide +kernel
theorem dX7_lay_167 : decode cX7_lay 167 = .ok (.iadd, 1) := by decide +kernel
theorem dX7_lay_168 : decode cX7_lay 168 = .ok (.aload_n 0, 1) := by decide +kernel
theorem dX7_lay_169 : decode cX7_lay 169 = .ok (.getfield 25, 3) := by decide +kernel
theorem dX7_lay_172 : decode cX7_lay 172 = .ok (.bipush 24, 2) := by decide +kernel
theorem dX7_lay_174 : decode cX7_lay 174 = .ok (.iload_n 3, 1) := by decide +kernel
theorem dX7_lay_175 : decode cX7_lay 175 = .ok (.imul, 1) := by decide +kernel
theorem dX7_lay_176 : decode cX7_lay 176 = .ok (.iload 6, 2) := by decide +kernel
theorem dX7_lay_178 : decode cX7_lay 178 = .ok (.iadd, 1) := by decide +kernel
theorem dX7_lay_179 : decode cX7_lay 179 = .ok (.iaload, 1) := by decide +kernel
theorem dX7_lay_180 : decode cX7_lay 180 = .ok (.iastore, 1) := by decide +kernel
theorem dX7_lay_181 : decode cX7_lay 181 = .ok (.iinc 6 1, 3) := by decide +kernel
theorem dX7_lay_184 : decode cX7_lay 184 = .ok (.goto (-34), 3) := by decide +kernel
theorem dX7_lay_187 : decode cX7_lay 187 = .ok (.iload 5, 2) := by decide +kernel
theorem dX7_lay_189 : decode cX7_lay 189 = .ok (.ireturn, 1) := by decide +kernel
theorem dX7_ask_0 : decode cX7_ask 0 = .ok (.iload_n 1, 1) := by decide +kernel
theorem dX7_ask_1 : decode cX7_ask 1 = .ok (.invokestatic 316, 3) := by decide +kernel
theorem dX7_ask_4 : decode cX7_ask 4 = .ok (.ifCond .eq 15, 3) := by decide +kernel
theorem dX7_ask_7 : decode cX7_ask 7 = .ok (.iload_n 2, 1) := by decide +kernel
theorem dX7_ask_8 : decode cX7_ask 8 = .ok (.i2l, 1) := by decide +kernel
theorem dX7_ask_9 : decode cX7_ask 9 = .ok (.lconst 0, 1) := by decide +kernel
theorem dX7_ask_10 : decode cX7_ask 10 = .ok (.ldc2_w 94, 3) := by decide +kernel
theorem dX7_ask_13 : decode cX7_ask 13 = .ok (.invokestatic 71, 3) := by decide +kernel
theorem dX7_ask_16 : decode cX7_ask 16 = .ok (.ifCond .ne 6, 3) := by decide +kernel
theorem dX7_ask_19 : decode cX7_ask 19 = .ok (.ldc 100, 2) := by decide +kernel
theorem dX7_ask_21 : decode cX7_ask 21 = .ok (.ireturn, 1) := by decide +kernel
theorem dX7_ask_22 : decode cX7_ask 22 = .ok (.aload_n 0, 1) := by decide +kernel
theorem dX7_ask_23 : decode cX7_ask 23 = .ok (.getfield 28, 3) := by decide +kernel
theorem dX7_ask_26 : decode cX7_ask 26 = .ok (.iload_n 1, 1) := by decide +kernel
theorem dX7_ask_27 : decode cX7_ask 27 = .ok (.iaload, 1) := by decide +kernel
theorem dX7_ask_28 : decode cX7_ask 28 = .ok (.ifCond .ne 7, 3) := by decide +kernel
theorem dX7_ask_31 : decode cX7_ask 31 = .ok (.ldc_w 308, 3) := by decide +kernel
theorem dX7_ask_34 : decode cX7_ask 34 = .ok (.ireturn, 1) := by decide +kernel
theorem dX7_ask_35 : decode cX7_ask 35 = .ok (.aload_n 0, 1) := by decide +kernel
theorem dX7_ask_36 : decode cX7_ask 36 = .ok (.getfield 28, 3) := by decide +kernel
theorem dX7_ask_39 : decode cX7_ask 39 = .ok (.iload_n 1, 1) := by decide +kernel
theorem dX7_ask_40 : decode cX7_ask 40 = .ok (.iaload, 1) := by decide +kernel
theorem dX7_ask_41 : decode cX7_ask 41 = .ok (.iconst 1, 1) := by decide +kernel
theorem dX7_ask_42 : decode cX7_ask 42 = .ok (.if_icmp .ne 25, 3) := by decide +kernel
theorem dX7_ask_45 : decode cX7_ask 45 = .ok (.aload_n 0, 1) := by decide +kernel
theorem dX7_ask_46 : decode cX7_ask 46 = .ok (.getfield 31, 3) := by decide +kernel
theorem dX7_ask_49 : decode cX7_ask 49 = .ok (.iload_n 1, 1) := by decide +kernel
theorem dX7_ask_50 : decode cX7_ask 50 = .ok (.iaload, 1) := by decide +kernel
theorem dX7_ask_51 : decode cX7_ask 51 = .ok (.iload_n 2, 1) := by decide +kernel
theorem dX7_ask_52 : decode cX7_ask 52 = .ok (.invokestatic 145, 3) := by decide +kernel
theorem dX7_ask_55 : decode cX7_ask 55 = .ok (.ifCond .eq 12, 3) := by decide +kernel
theorem dX7_ask_58 : decode cX7_ask 58 = .ok (.aload_n 0, 1) := by decide +kernel
theorem dX7_ask_59 : decode cX7_ask 59 = .ok (.getfield 34, 3) := by decide +kernel
theorem dX7_ask_62 : decode cX7_ask 62 = .ok (.iload_n 1, 1) := by decide +kernel
theorem dX7_ask_63 : decode cX7_ask 63 = .ok (.iaload, 1) := by decide +kernel
theorem dX7_ask_64 : decode cX7_ask 64 = .ok (.goto 5, 3) := by decide +kernel
theorem dX7_ask_67 : decode cX7_ask 67 = .ok (.ldc 148, 2) := by decide +kernel
theorem dX7_ask_69 : decode cX7_ask 69 = .ok (.ireturn, 1) := by decide +kernel
theorem dX7_item_0 : decode cX7_item 0 = .ok (.iload_n 1, 1) := by decide +kernel
theorem dX7_item_1 : decode cX7_item 1 = .ok (.invokestatic 316, 3) := by decide +kernel
theorem dX7_item_4 : decode cX7_item 4 = .ok (.ifCond .ne 6, 3) := by decide +kernel
theorem dX7_item_7 : decode cX7_item 7 = .ok (.ldc 100, 2) := by decide +kernel
theorem dX7_item_9 : decode cX7_item 9 = .ok (.ireturn, 1) := by decide +kernel
theorem dX7_item_10 : decode cX7_item 10 = .ok (.aload_n 0, 1) := by decide +kernel
theorem dX7_item_11 : decode cX7_item 11 = .ok (.getfield 28, 3) := by decide +kernel
theorem dX7_item_14 : decode cX7_item 14 = .ok (.iload_n 1, 1) := by decide +kernel
theorem dX7_item_15 : decode cX7_item 15 = .ok (.iaload, 1) := by decide +kernel
theorem dX7_item_16 : decode cX7_item 16 = .ok (.iconst 2, 1) := by decide +kernel
theorem dX7_item_17 : decode cX7_item 17 = .ok (.if_icmp .eq 21, 3) := by decide +kernel
theorem dX7_item_20 : decode cX7_item 20 = .ok (.aload_n 0, 1) := by decide +kernel
theorem dX7_item_21 : decode cX7_item 21 = .ok (.getfield 28, 3) := by decide +kernel
theorem dX7_item_24 : decode cX7_item 24 = .ok (.iload_n 1, 1) := by decide +kernel
theorem dX7_item_25 : decode cX7_item 25 = .ok (.iaload, 1) := by decide +kernel
theorem dX7_item_26 : decode cX7_item 26 = .ok (.ifCond .ne 9, 3) := by decide +kernel
theorem dX7_item_29 : decode cX7_item 29 = .ok (.ldc_w 308, 3) := by decide +kernel
theorem dX7_item_32 : decode cX7_item 32 = .ok (.goto 5, 3) := by decide +kernel
theorem dX7_item_35 : decode cX7_item 35 = .ok (.ldc 148, 2) := by decide +kernel
theorem dX7_item_37 : decode cX7_item 37 = .ok (.ireturn, 1) := by decide +kernel
theorem dX7_item_38 : decode cX7_item 38 = .ok (.iload_n 2, 1) := by decide +kernel
theorem dX7_item_39 : decode cX7_item 39 = .ok (.i2l, 1) := by decide +kernel
theorem dX7_item_40 : decode cX7_item 40 = .ok (.lconst 0, 1) := by decide +kernel
theorem dX7_item_41 : decode cX7_item 41 = .ok (.aload_n 0, 1) := by decide +kernel
theorem dX7_item_42 : decode cX7_item 42 = .ok (.getfield 37, 3) := by decide +kernel
theorem dX7_item_45 : decode cX7_item 45 = .ok (.iload_n 1, 1) := by decide +kernel
theorem dX7_item_46 : decode cX7_item 46 = .ok (.iaload, 1) := by decide +kernel
theorem dX7_item_47 : decode cX7_item 47 = .ok (.iconst 1, 1) := by decide +kernel
theorem dX7_item_48 : decode cX7_item 48 = .ok (.isub, 1) := by decide +kernel
theorem dX7_item_49 : decode cX7_item 49 = .ok (.i2l, 1) := by decide +kernel
theorem dX7_item_50 : decode cX7_item 50 = .ok (.invokestatic 71, 3) := by decide +kernel
theorem dX7_item_53 : decode cX7_item 53 = .ok (.ifCond .ne 7, 3) := by decide +kernel
theorem dX7_item_56 : decode cX7_item 56 = .ok (.ldc_w 309, 3) := by decide +kernel
theorem dX7_item_59 : decode cX7_item 59 = .ok (.ireturn, 1) := by decide +kernel
theorem dX7_item_60 : decode cX7_item 60 = .ok (.aload_n 0, 1) := by decide +kernel
theorem dX7_item_61 : decode cX7_item 61 = .ok (.getfield 40, 3) := by decide +kernel
theorem dX7_item_64 : decode cX7_item 64 = .ok (.bipush 24, 2) := by decide +kernel
theorem dX7_item_66 : decode cX7_item 66 = .ok (.iload_n 1, 1) := by decide +kernel
theorem dX7_item_67 : decode cX7_item 67 = .ok (.imul, 1) := by decide +kernel
theorem dX7_item_68 : decode cX7_item 68 = .ok (.iload_n 2, 1) := by decide +kernel
theorem dX7_item_69 : decode cX7_item 69 = .ok (.iadd, 1) := by decide +kernel
theorem dX7_item_70 : decode cX7_item 70 = .ok (.iaload, 1) := by decide +kernel
theorem dX7_item_71 : decode cX7_item 71 = .ok (.istore_n 3, 1) := by decide +kernel
theorem dX7_item_72 : decode cX7_item 72 = .ok (.iload_n 3, 1) := by decide +kernel
theorem dX7_item_73 : decode cX7_item 73 = .ok (.ldc 70, 2) := by decide +kernel
theorem dX7_item_75 : decode cX7_item 75 = .ok (.if_icmp .ne 8, 3) := by decide +kernel
theorem dX7_item_78 : decode cX7_item 78 = .ok (.ldc 148, 2) := by decide +kernel
theorem dX7_item_80 : decode cX7_item 80 = .ok (.goto 4, 3) := by decide +kernel
theorem dX7_item_83 : decode cX7_item 83 = .ok (.iload_n 3, 1) := by decide +kernel
theorem dX7_item_84 : decode cX7_item 84 = .ok (.ireturn, 1) := by decide +kernel
theorem dX7_rest_0 : decode cX7_rest 0 = .ok (.iload_n 1, 1) := by decide +kernel
theorem dX7_rest_1 : decode cX7_rest 1 = .ok (.invokestatic 316, 3) := by decide +kernel
theorem dX7_rest_4 : decode cX7_rest 4 = .ok (.ifCond .ne 6, 3) := by decide +kernel
theorem dX7_rest_7 : decode cX7_rest 7 = .ok (.ldc 100, 2) := by decide +kernel
theorem dX7_rest_9 : decode cX7_rest 9 = .ok (.ireturn, 1) := by decide +kernel
theorem dX7_rest_10 : decode cX7_rest 10 = .ok (.aload_n 0, 1) := by decide +kernel
theorem dX7_rest_11 : decode cX7_rest 11 = .ok (.getfield 28, 3) := by decide +kernel
theorem dX7_rest_14 : decode cX7_rest 14 = .ok (.iload_n 1, 1) := by decide +kernel
theorem dX7_rest_15 : decode cX7_rest 15 = .ok (.iaload, 1) := by decide +kernel
theorem dX7_rest_16 : decode cX7_rest 16 = .ok (.iconst 3, 1) := by decide +kernel
theorem dX7_rest_17 : decode cX7_rest 17 = .ok (.if_icmp .eq 21, 3) := by decide +kernel
theorem dX7_rest_20 : decode cX7_rest 20 = .ok (.aload_n 0, 1) := by decide +kernel
theorem dX7_rest_21 : decode cX7_rest 21 = .ok (.getfield 28, 3) := by decide +kernel
theorem dX7_rest_24 : decode cX7_rest 24 = .ok (.iload_n 1, 1) := by decide +kernel
theorem dX7_rest_25 : decode cX7_rest 25 = .ok (.iaload, 1) := by decide +kernel
theorem dX7_rest_26 : decode cX7_rest 26 = .ok (.ifCond .ne 9, 3) := by decide +kernel
theorem dX7_rest_29 : decode cX7_rest 29 = .ok (.ldc_w 308, 3) := by decide +kernel
theorem dX7_rest_32 : decode cX7_rest 32 = .ok (.goto 5, 3) := by decide +kernel
theorem dX7_rest_35 : decode cX7_rest 35 = .ok (.ldc 148, 2) := by decide +kernel
theorem dX7_rest_37 : decode cX7_rest 37 = .ok (.ireturn, 1) := by decide +kernel
theorem dX7_rest_38 : decode cX7_rest 38 = .ok (.iload_n 2, 1) := by decide +kernel
theorem dX7_rest_39 : decode cX7_rest 39 = .ok (.ifCond .ne 8, 3) := by decide +kernel
theorem dX7_rest_42 : decode cX7_rest 42 = .ok (.ldc 152, 2) := by decide +kernel
theorem dX7_rest_44 : decode cX7_rest 44 = .ok (.goto 11, 3) := by decide +kernel
theorem dX7_rest_47 : decode cX7_rest 47 = .ok (.aload_n 0, 1) := by decide +kernel
theorem dX7_rest_48 : decode cX7_rest 48 = .ok (.getfield 31, 3) := by decide +kernel
theorem dX7_rest_51 : decode cX7_rest 51 = .ok (.iload_n 1, 1) := by decide +kernel
theorem dX7_rest_52 : decode cX7_rest 52 = .ok (.iaload, 1) := by decide +kernel
theorem dX7_rest_53 : decode cX7_rest 53 = .ok (.iload_n 2, 1) := by decide +kernel
theorem dX7_rest_54 : decode cX7_rest 54 = .ok (.irem, 1) := by decide +kernel
theorem dX7_rest_55 : decode cX7_rest 55 = .ok (.ireturn, 1) := by decide +kernel
theorem dX7_tell_0 : decode cX7_tell 0 = .ok (.aload_n 0, 1) := by decide +kernel
theorem dX7_tell_1 : decode cX7_tell 1 = .ok (.getfield 319, 3) := by decide +kernel
theorem dX7_tell_4 : decode cX7_tell 4 = .ok (.bipush 60, 2) := by decide +kernel
theorem dX7_tell_6 : decode cX7_tell 6 = .ok (.if_icmp .ne 6, 3) := by decide +kernel
theorem dX7_tell_9 : decode cX7_tell 9 = .ok (.ldc 101, 2) := by decide +kernel
theorem dX7_tell_11 : decode cX7_tell 11 = .ok (.ireturn, 1) := by decide +kernel
theorem dX7_tell_12 : decode cX7_tell 12 = .ok (.aload_n 0, 1) := by decide +kernel
theorem dX7_tell_13 : decode cX7_tell 13 = .ok (.getfield 64, 3) := by decide +kernel
theorem dX7_tell_16 : decode cX7_tell 16 = .ok (.aload_n 0, 1) := by decide +kernel
theorem dX7_tell_17 : decode cX7_tell 17 = .ok (.getfield 319, 3) := by decide +kernel
theorem dX7_tell_20 : decode cX7_tell 20 = .ok (.iload_n 1, 1) := by decide +kernel
theorem dX7_tell_21 : decode cX7_tell 21 = .ok (.iastore, 1) := by decide +kernel
theorem dX7_tell_22 : decode cX7_tell 22 = .ok (.aload_n 0, 1) := by decide +kernel
theorem dX7_tell_23 : decode cX7_tell 23 = .ok (.dup, 1) := by decide +kernel
theorem dX7_tell_24 : decode cX7_tell 24 = .ok (.getfield 319, 3) := by decide +kernel
theorem dX7_tell_27 : decode cX7_tell 27 = .ok (.iconst 1, 1) := by decide +kernel
theorem dX7_tell_28 : decode cX7_tell 28 = .ok (.iadd, 1) := by decide +kernel
theorem dX7_tell_29 : decode cX7_tell 29 = .ok (.putfield 319, 3) := by decide +kernel
theorem dX7_tell_32 : decode cX7_tell 32 = .ok (.aload_n 0, 1) := by decide +kernel
theorem dX7_tell_33 : decode cX7_tell 33 = .ok (.getfield 319, 3) := by decide +kernel
theorem dX7_tell_36 : decode cX7_tell 36 = .ok (.ireturn, 1) := by decide +kernel
theorem dX7_setAside_0 : decode cX7_setAside 0 = .ok (.iconst 0, 1) := by decide +kernel
theorem dX7_setAside_1 : decode cX7_setAside 1 = .ok (.istore_n 3, 1) := by decide +kernel
theorem dX7_setAside_2 : decode cX7_setAside 2 = .ok (.iload_n 3, 1) := by decide +kernel
theorem dX7_setAside_3 : decode cX7_setAside 3 = .ok (.sipush 2869, 3) := by decide +kernel
theorem dX7_setAside_6 : decode cX7_setAside 6 = .ok (.if_icmp .ge 15, 3) := by decide +kernel
theorem dX7_setAside_9 : decode cX7_setAside 9 = .ok (.aload_n 2, 1) := by decide +kernel
theorem dX7_setAside_10 : decode cX7_setAside 10 = .ok (.iload_n 3, 1) := by decide +kernel
theorem dX7_setAside_11 : decode cX7_setAside 11 = .ok (.aload_n 1, 1) := by decide +kernel
theorem dX7_setAside_12 : decode cX7_setAside 12 = .ok (.iload_n 3, 1) := by decide +kernel
theorem dX7_setAside_13 : decode cX7_setAside 13 = .ok (.iaload, 1) := by decide +kernel
theorem dX7_setAside_14 : decode cX7_setAside 14 = .ok (.iastore, 1) := by decide +kernel
theorem dX7_setAside_15 : decode cX7_setAside 15 = .ok (.iinc 3 1, 3) := by decide +kernel
theorem dX7_setAside_18 : decode cX7_setAside 18 = .ok (.goto (-16), 3) := by decide +kernel
theorem dX7_setAside_21 : decode cX7_setAside 21 = .ok (.return_, 1) := by decide +kernel
theorem dX7_check_0 : decode cX7_check 0 = .ok (.aload_n 0, 1) := by decide +kernel
theorem dX7_check_1 : decode cX7_check 1 = .ok (.getfield 319, 3) := by decide +kernel
theorem dX7_check_4 : decode cX7_check 4 = .ok (.istore_n 2, 1) := by decide +kernel
theorem dX7_check_5 : decode cX7_check 5 = .ok (.aload_n 0, 1) := by decide +kernel
theorem dX7_check_6 : decode cX7_check 6 = .ok (.iconst 0, 1) := by decide +kernel
theorem dX7_check_7 : decode cX7_check 7 = .ok (.putfield 319, 3) := by decide +kernel
theorem dX7_check_10 : decode cX7_check 10 = .ok (.iload_n 1, 1) := by decide +kernel
theorem dX7_check_11 : decode cX7_check 11 = .ok (.i2l, 1) := by decide +kernel
theorem dX7_check_12 : decode cX7_check 12 = .ok (.lconst 1, 1) := by decide +kernel
theorem dX7_check_13 : decode cX7_check 13 = .ok (.ldc2_w 322, 3) := by decide +kernel
theorem dX7_check_16 : decode cX7_check 16 = .ok (.invokestatic 71, 3) := by decide +kernel
theorem dX7_check_19 : decode cX7_check 19 = .ok (.ifCond .ne 6, 3) := by decide +kernel
theorem dX7_check_22 : decode cX7_check 22 = .ok (.ldc 100, 2) := by decide +kernel
theorem dX7_check_24 : decode cX7_check 24 = .ok (.ireturn, 1) := by decide +kernel
theorem dX7_check_25 : decode cX7_check 25 = .ok (.aload_n 0, 1) := by decide +kernel
theorem dX7_check_26 : decode cX7_check 26 = .ok (.getfield 324, 3) := by decide +kernel
theorem dX7_check_29 : decode cX7_check 29 = .ok (.ifCond .ne 6, 3) := by decide +kernel
theorem dX7_check_32 : decode cX7_check 32 = .ok (.ldc 152, 2) := by decide +kernel
theorem dX7_check_34 : decode cX7_check 34 = .ok (.ireturn, 1) := by decide +kernel
theorem dX7_check_35 : decode cX7_check 35 = .ok (.aload_n 0, 1) := by decide +kernel
theorem dX7_check_36 : decode cX7_check 36 = .ok (.aload_n 0, 1) := by decide +kernel
theorem dX7_check_37 : decode cX7_check 37 = .ok (.getfield 7, 3) := by decide +kernel
theorem dX7_check_40 : decode cX7_check 40 = .ok (.aload_n 0, 1) := by decide +kernel
theorem dX7_check_41 : decode cX7_check 41 = .ok (.getfield 16, 3) := by decide +kernel
theorem dX7_check_44 : decode cX7_check 44 = .ok (.invokevirtual 328, 3) := by decide +kernel
theorem dX7_check_47 : decode cX7_check 47 = .ok (.aload_n 0, 1) := by decide +kernel
theorem dX7_check_48 : decode cX7_check 48 = .ok (.aload_n 0, 1) := by decide +kernel
theorem dX7_check_49 : decode cX7_check 49 = .ok (.getfield 13, 3) := by decide +kernel
theorem dX7_check_52 : decode cX7_check 52 = .ok (.aload_n 0, 1) := by decide +kernel
theorem dX7_check_53 : decode cX7_check 53 = .ok (.getfield 7, 3) := by decide +kernel
theorem dX7_check_56 : decode cX7_check 56 = .ok (.invokevirtual 328, 3) := by decide +kernel
theorem dX7_check_59 : decode cX7_check 59 = .ok (.iconst 0, 1) := by decide +kernel
theorem dX7_check_60 : decode cX7_check 60 = .ok (.istore_n 3, 1) := by decide +kernel
theorem dX7_check_61 : decode cX7_check 61 = .ok (.iconst 0, 1) := by decide +kernel
theorem dX7_check_62 : decode cX7_check 62 = .ok (.istore 4, 2) := by decide +kernel
theorem dX7_check_64 : decode cX7_check 64 = .ok (.iload 4, 2) := by decide +kernel
theorem dX7_check_66 : decode cX7_check 66 = .ok (.iload_n 1, 1) := by decide +kernel
theorem dX7_check_67 : decode cX7_check 67 = .ok (.if_icmp .ge 54, 3) := by decide +kernel
theorem dX7_check_70 : decode cX7_check 70 = .ok (.aload_n 0, 1) := by decide +kernel
theorem dX7_check_71 : decode cX7_check 71 = .ok (.getfield 7, 3) := by decide +kernel
theorem dX7_check_74 : decode cX7_check 74 = .ok (.iconst 2, 1) := by decide +kernel
theorem dX7_check_75 : decode cX7_check 75 = .ok (.iaload, 1) := by decide +kernel
theorem dX7_check_76 : decode cX7_check 76 = .ok (.sipush 9999, 3) := by decide +kernel
theorem dX7_check_79 : decode cX7_check 79 = .ok (.if_icmp .ge 42, 3) := by decide +kernel
theorem dX7_check_82 : decode cX7_check 82 = .ok (.aload_n 0, 1) := by decide +kernel
theorem dX7_check_83 : decode cX7_check 83 = .ok (.invokevirtual 172, 3) := by decide +kernel
theorem dX7_check_86 : decode cX7_check 86 = .ok (.aload_n 0, 1) := by decide +kernel
theorem dX7_check_87 : decode cX7_check 87 = .ok (.getfield 67, 3) := by decide +kernel
theorem dX7_check_90 : decode cX7_check 90 = .ok (.iload_n 3, 1) := by decide +kernel
theorem dX7_check_91 : decode cX7_check 91 = .ok (.aload_n 0, 1) := by decide +kernel
theorem dX7_check_92 : decode cX7_check 92 = .ok (.invokevirtual 123, 3) := by decide +kernel
theorem dX7_check_95 : decode cX7_check 95 = .ok (.invokestatic 157, 3) := by decide +kernel
theorem dX7_check_98 : decode cX7_check 98 = .ok (.iastore, 1) := by decide +kernel
theorem dX7_check_99 : decode cX7_check 99 = .ok (.aload_n 0, 1) := by decide +kernel
theorem dX7_check_100 : decode cX7_check 100 = .ok (.getfield 67, 3) := by decide +kernel
theorem dX7_check_103 : decode cX7_check 103 = .ok (.iload_n 3, 1) := by decide +kernel
theorem dX7_check_104 : decode cX7_check 104 = .ok (.iconst 1, 1) := by decide +kernel
theorem dX7_check_105 : decode cX7_check 105 = .ok (.iadd, 1) := by decide +kernel
theorem dX7_check_106 : decode cX7_check 106 = .ok (.aload_n 0, 1) := by decide +kernel
theorem dX7_check_107 : decode cX7_check 107 = .ok (.iconst 4, 1) := by decide +kernel
theorem dX7_check_108 : decode cX7_check 108 = .ok (.invokevirtual 175, 3) := by decide +kernel
theorem dX7_check_111 : decode cX7_check 111 = .ok (.iastore, 1) := by decide +kernel
theorem dX7_check_112 : decode cX7_check 112 = .ok (.iinc 3 2, 3) := by decide +kernel
theorem dX7_check_115 : decode cX7_check 115 = .ok (.iinc 4 1, 3) := by decide +kernel
theorem dX7_check_118 : decode cX7_check 118 = .ok (.goto (-54), 3) := by decide +kernel
theorem dX7_check_121 : decode cX7_check 121 = .ok (.aload_n 0, 1) := by decide +kernel
theorem dX7_check_122 : decode cX7_check 122 = .ok (.aload_n 0, 1) := by decide +kernel
theorem dX7_check_123 : decode cX7_check 123 = .ok (.getfield 16, 3) := by decide +kernel
theorem dX7_check_126 : decode cX7_check 126 = .ok (.aload_n 0, 1) := by decide +kernel
theorem dX7_check_127 : decode cX7_check 127 = .ok (.getfield 7, 3) := by decide +kernel
theorem dX7_check_130 : decode cX7_check 130 = .ok (.invokevirtual 328, 3) := by decide +kernel
theorem dX7_check_133 : decode cX7_check 133 = .ok (.iconst 0, 1) := by decide +kernel
theorem dX7_check_134 : decode cX7_check 134 = .ok (.istore 4, 2) := by decide +kernel
theorem dX7_check_136 : decode cX7_check 136 = .ok (.iload 4, 2) := by decide +kernel
theorem dX7_check_138 : decode cX7_check 138 = .ok (.iload_n 2, 1) := by decide +kernel
theorem dX7_check_139 : decode cX7_check 139 = .ok (.if_icmp .ge 32, 3) := by decide +kernel
theorem dX7_check_142 : decode cX7_check 142 = .ok (.iload 4, 2) := by decide +kernel
theorem dX7_check_144 : decode cX7_check 144 = .ok (.iload_n 3, 1) := by decide +kernel
theorem dX7_check_145 : decode cX7_check 145 = .ok (.if_icmp .ge 26, 3) := by decide +kernel
theorem dX7_check_148 : decode cX7_check 148 = .ok (.aload_n 0, 1) := by decide +kernel
theorem dX7_check_149 : decode cX7_check 149 = .ok (.getfield 64, 3) := by decide +kernel
theorem dX7_check_152 : decode cX7_check 152 = .ok (.iload 4, 2) := by decide +kernel
theorem dX7_check_154 : decode cX7_check 154 = .ok (.iaload, 1) := by decide +kernel
theorem dX7_check_155 : decode cX7_check 155 = .ok (.aload_n 0, 1) := by decide +kernel
theorem dX7_check_156 : decode cX7_check 156 = .ok (.getfield 67, 3) := by decide +kernel
theorem dX7_check_159 : decode cX7_check 159 = .ok (.iload 4, 2) := by decide +kernel
theorem dX7_check_161 : decode cX7_check 161 = .ok (.iaload, 1) := by decide +kernel
theorem dX7_check_162 : decode cX7_check 162 = .ok (.if_icmp .ne 9, 3) := by decide +kernel
theorem dX7_check_165 : decode cX7_check 165 = .ok (.iinc 4 1, 3) := by decide +kernel
theorem dX7_check_168 : decode cX7_check 168 = .ok (.goto (-32), 3) := by decide +kernel
theorem dX7_check_171 : decode cX7_check 171 = .ok (.iload 4, 2) := by decide +kernel
theorem dX7_check_173 : decode cX7_check 173 = .ok (.iload_n 2, 1) := by decide +kernel
theorem dX7_check_174 : decode cX7_check 174 = .ok (.if_icmp .ne 13, 3) := by decide +kernel
theorem dX7_check_177 : decode cX7_check 177 = .ok (.iload 4, 2) := by decide +kernel
theorem dX7_check_179 : decode cX7_check 179 = .ok (.iload_n 3, 1) := by decide +kernel
theorem dX7_check_180 : decode cX7_check 180 = .ok (.if_icmp .ne 7, 3) := by decide +kernel
theorem dX7_check_183 : decode cX7_check 183 = .ok (.iconst 0, 1) := by decide +kernel
theorem dX7_check_184 : decode cX7_check 184 = .ok (.goto 7, 3) := by decide +kernel
theorem dX7_check_187 : decode cX7_check 187 = .ok (.iconst 1, 1) := by decide +kernel
theorem dX7_check_188 : decode cX7_check 188 = .ok (.iload 4, 2) := by decide +kernel
theorem dX7_check_190 : decode cX7_check 190 = .ok (.iadd, 1) := by decide +kernel
theorem dX7_check_191 : decode cX7_check 191 = .ok (.ireturn, 1) := by decide +kernel
theorem dX7_keep_0 : decode cX7_keep 0 = .ok (.aload_n 0, 1) := by decide +kernel
theorem dX7_keep_1 : decode cX7_keep 1 = .ok (.iconst 1, 1) := by decide +kernel
theorem dX7_keep_2 : decode cX7_keep 2 = .ok (.putfield 324, 3) := by decide +kernel
theorem dX7_keep_5 : decode cX7_keep 5 = .ok (.aload_n 0, 1) := by decide +kernel
theorem dX7_keep_6 : decode cX7_keep 6 = .ok (.aload_n 0, 1) := by decide +kernel
theorem dX7_keep_7 : decode cX7_keep 7 = .ok (.getfield 7, 3) := by decide +kernel
theorem dX7_keep_10 : decode cX7_keep 10 = .ok (.aload_n 0, 1) := by decide +kernel
theorem dX7_keep_11 : decode cX7_keep 11 = .ok (.getfield 13, 3) := by decide +kernel
theorem dX7_keep_14 : decode cX7_keep 14 = .ok (.invokevirtual 328, 3) := by decide +kernel
theorem dX7_keep_17 : decode cX7_keep 17 = .ok (.aload_n 0, 1) := by decide +kernel
theorem dX7_keep_18 : decode cX7_keep 18 = .ok (.getfield 7, 3) := by decide +kernel
theorem dX7_keep_21 : decode cX7_keep 21 = .ok (.iconst 0, 1) := by decide +kernel
theorem dX7_keep_22 : decode cX7_keep 22 = .ok (.iaload, 1) := by decide +kernel
theorem dX7_keep_23 : decode cX7_keep 23 = .ok (.ireturn, 1) := by decide +kernel
theorem dX7_back_0 : decode cX7_back 0 = .ok (.aload_n 0, 1) := by decide +kernel
theorem dX7_back_1 : decode cX7_back 1 = .ok (.getfield 324, 3) := by decide +kernel
theorem dX7_back_4 : decode cX7_back 4 = .ok (.ifCond .ne 6, 3) := by decide +kernel
theorem dX7_back_7 : decode cX7_back 7 = .ok (.ldc 152, 2) := by decide +kernel
theorem dX7_back_9 : decode cX7_back 9 = .ok (.ireturn, 1) := by decide +kernel
theorem dX7_back_10 : decode cX7_back 10 = .ok (.aload_n 0, 1) := by decide +kernel
theorem dX7_back_11 : decode cX7_back 11 = .ok (.aload_n 0, 1) := by decide +kernel
theorem dX7_back_12 : decode cX7_back 12 = .ok (.getfield 13, 3) := by decide +kernel
theorem dX7_back_15 : decode cX7_back 15 = .ok (.aload_n 0, 1) := by decide +kernel
theorem dX7_back_16 : decode cX7_back 16 = .ok (.getfield 7, 3) := by decide +kernel
theorem dX7_back_19 : decode cX7_back 19 = .ok (.invokevirtual 328, 3) := by decide +kernel
theorem dX7_back_22 : decode cX7_back 22 = .ok (.aload_n 0, 1) := by decide +kernel
theorem dX7_back_23 : decode cX7_back 23 = .ok (.getfield 7, 3) := by decide +kernel
theorem dX7_back_26 : decode cX7_back 26 = .ok (.iconst 0, 1) := by decide +kernel
theorem dX7_back_27 : decode cX7_back 27 = .ok (.iaload, 1) := by decide +kernel
theorem dX7_back_28 : decode cX7_back 28 = .ok (.ireturn, 1) := by decide +kernel
theorem dX7_count_0 : decode cX7_count 0 = .ok (.iload_n 1, 1) := by decide +kernel
theorem dX7_count_1 : decode cX7_count 1 = .ok (.tableswitch 100 0 7 #[47, 54, 62, 69, 76, 83, 88, 93], 47) := by decide +kernel
theorem dX7_count_48 : decode cX7_count 48 = .ok (.aload_n 0, 1) := by decide +kernel
theorem dX7_count_49 : decode cX7_count 49 = .ok (.getfield 7, 3) := by decide +kernel
theorem dX7_count_52 : decode cX7_count 52 = .ok (.iconst 0, 1) := by decide +kernel
theorem dX7_count_53 : decode cX7_count 53 = .ok (.iaload, 1) := by decide +kernel
theorem dX7_count_54 : decode cX7_count 54 = .ok (.ireturn, 1) := by decide +kernel
theorem dX7_count_55 : decode cX7_count 55 = .ok (.aload_n 0, 1) := by decide +kernel
theorem dX7_count_56 : decode cX7_count 56 = .ok (.invokevirtual 123, 3) := by decide +kernel
theorem dX7_count_59 : decode cX7_count 59 = .ok (.invokestatic 157, 3) := by decide +kernel
theorem dX7_count_62 : decode cX7_count 62 = .ok (.ireturn, 1) := by decide +kernel
theorem dX7_count_63 : decode cX7_count 63 = .ok (.aload_n 0, 1) := by decide +kernel
theorem dX7_count_64 : decode cX7_count 64 = .ok (.getfield 7, 3) := by decide +kernel
theorem dX7_count_67 : decode cX7_count 67 = .ok (.iconst 2, 1) := by decide +kernel
theorem dX7_count_68 : decode cX7_count 68 = .ok (.iaload, 1) := by decide +kernel
theorem dX7_count_69 : decode cX7_count 69 = .ok (.ireturn, 1) := by decide +kernel
theorem dX7_count_70 : decode cX7_count 70 = .ok (.aload_n 0, 1) := by decide +kernel
theorem dX7_count_71 : decode cX7_count 71 = .ok (.getfield 7, 3) := by decide +kernel
theorem dX7_count_74 : decode cX7_count 74 = .ok (.iconst 4, 1) := by decide +kernel
theorem dX7_count_75 : decode cX7_count 75 = .ok (.iaload, 1) := by decide +kernel
theorem dX7_count_76 : decode cX7_count 76 = .ok (.ireturn, 1) := by decide +kernel
theorem dX7_count_77 : decode cX7_count 77 = .ok (.aload_n 0, 1) := by decide +kernel
theorem dX7_count_78 : decode cX7_count 78 = .ok (.getfield 7, 3) := by decide +kernel
theorem dX7_count_81 : decode cX7_count 81 = .ok (.iconst 1, 1) := by decide +kernel
theorem dX7_count_82 : decode cX7_count 82 = .ok (.iaload, 1) := by decide +kernel
theorem dX7_count_83 : decode cX7_count 83 = .ok (.ireturn, 1) := by decide +kernel
theorem dX7_count_84 : decode cX7_count 84 = .ok (.aload_n 0, 1) := by decide +kernel
theorem dX7_count_85 : decode cX7_count 85 = .ok (.getfield 319, 3) := by decide +kernel
theorem dX7_count_88 : decode cX7_count 88 = .ok (.ireturn, 1) := by decide +kernel
theorem dX7_count_89 : decode cX7_count 89 = .ok (.aload_n 0, 1) := by decide +kernel
theorem dX7_count_90 : decode cX7_count 90 = .ok (.getfield 200, 3) := by decide +kernel
theorem dX7_count_93 : decode cX7_count 93 = .ok (.ireturn, 1) := by decide +kernel
theorem dX7_count_94 : decode cX7_count 94 = .ok (.aload_n 0, 1) := by decide +kernel
theorem dX7_count_95 : decode cX7_count 95 = .ok (.getfield 7, 3) := by decide +kernel
theorem dX7_count_98 : decode cX7_count 98 = .ok (.iconst 5, 1) := by decide +kernel
theorem dX7_count_99 : decode cX7_count 99 = .ok (.iaload, 1) := by decide +kernel
theorem dX7_count_100 : decode cX7_count 100 = .ok (.ireturn, 1) := by decide +kernel
theorem dX7_count_101 : decode cX7_count 101 = .ok (.ldc 100, 2) := by decide +kernel
theorem dX7_count_103 : decode cX7_count 103 = .ok (.ireturn, 1) := by decide +kernel
end
section
theorem fa_wide_le (a b : Int32) : a.toInt64 ≤ b.toInt64 ↔ a ≤ b := by rw [Int64.le_iff_toInt_le, Int32.le_iff_toInt_le, Int32.toInt_toInt64, Int32.toInt_toInt64]
theorem fa_wide_lt (a b : Int32) : a.toInt64 < b.toInt64 ↔ a < b := by rw [Int64.lt_iff_toInt_lt, Int32.lt_iff_toInt_lt, Int32.toInt_toInt64, Int32.toInt_toInt64]
/-- z lies in lo .. hi -/
def inB (z lo hi : Int32) : Bool := decide (lo ≤ z) && decide (z ≤ hi)
/-- whether house k stands -/
def sd (s : Nat → Int32) (k : Nat) : Bool := decide (s (6 + 7 * k + 6) = 0)
theorem kX7_isIn : mKS yX7_isIn cX7_isIn 6 (some .boolean) 3 := ⟨tSta_X7_isIn, tIni_X7, tCod_X7_isIn, by decide +kernel⟩
set_option maxHeartbeats 4000000 in
set_option maxRecDepth 100000 in
theorem c_isIn (l : Launch) (D : va_G) (cy : Nat → ClassId) (Z : (Nat → Prop) → State → Heap → Prop) (w : va_W) (z lo hi : Int32) : GD l D cy Z yX7_isIn (zW yX7_isIn cX7_isIn 6 (some .boolean)) { frames := 0, cells := 0, slots := 0, locals := 0 } [.long (Int32.toInt64 (z)), .long (Int32.toInt64 (lo)), .long (Int32.toInt64 (hi))] w (some (.int (bI (inB z lo hi)))) w 0 0 := by
  refine g_entry (cc := cX7_isIn) (maxL := 6) (by decide) rfl (Nat.le_of_ble_eq_true rfl) ?_
  intro κ hN hX hR
  have hX : GX κ cy Z cX7_isIn (Cond.code yX7_isIn cX7_isIn 6 (some .boolean) :: zT) RX7 { frames := 0, cells := 0, slots := 0, locals := 0 } := hX
  show GW κ 0 0 _ 0 [(0, .long (Int32.toInt64 (z))), (2, .long (Int32.toInt64 (lo))), (4, .long (Int32.toInt64 (hi)))] []
  refine g_lload_n hX 0 rfl rfl dX7_isIn_0 ?_
  refine g_lload_n hX 1 rfl rfl dX7_isIn_1 ?_
  refine g_lcmp hX dX7_isIn_2 ?_
  refine g_if_lt hX 17 (by decide) dX7_isIn_3 (fun c3 => ?_) (fun c3 => ?_)
  · refine g_iconst hX (v := nI 0) rfl dX7_isIn_17 ?_
    exact g_retz hR (bI_zero _ (by have h := (fa_wide_lt _ _).mp ((lg_cmp_lt _ _).mp c3); simp [inB, Int32.not_le.mpr h])) rfl dX7_isIn_18
  · refine g_lload_n hX 0 rfl rfl dX7_isIn_6 ?_
    refine g_lload hX 2 rfl dX7_isIn_7 ?_
    refine g_lcmp hX dX7_isIn_9 ?_
    refine g_if_gt hX 17 (by decide) dX7_isIn_10 (fun c10 => ?_) (fun c10 => ?_)
    · refine g_iconst hX (v := nI 0) rfl dX7_isIn_17 ?_
      exact g_retz hR (bI_zero _ (by have h := (fa_wide_lt _ _).mp ((lg_cmp_gt _ _).mp c10); simp [inB, Int32.not_le.mpr h])) rfl dX7_isIn_18
    · refine g_iconst hX (v := nI 1) rfl dX7_isIn_13 ?_
      refine g_goto hX 18 (by decide) dX7_isIn_14 ?_
      exact g_retz hR (bI_one _ (by have h := (fa_wide_le _ _).mp (Int64.not_lt.mp (fun q => c3 ((lg_cmp_lt _ _).mpr q))); have h2 := (fa_wide_le _ _).mp (Int64.not_lt.mp (fun q => c10 ((lg_cmp_gt _ _).mpr q))); simp [inB, h, h2])) rfl dX7_isIn_18
theorem kX7_orNone : mKS yX7_orNone cX7_orNone 1 (some .int) 1 := ⟨tSta_X7_orNone, tIni_X7, tCod_X7_orNone, by decide +kernel⟩
set_option maxHeartbeats 4000000 in
set_option maxRecDepth 100000 in
theorem c_orNone (l : Launch) (D : va_G) (cy : Nat → ClassId) (Z : (Nat → Prop) → State → Heap → Prop) (w : va_W) (z : Int32) : GD l D cy Z yX7_orNone (zW yX7_orNone cX7_orNone 1 (some .int)) { frames := 0, cells := 0, slots := 0, locals := 0 } [.int (z)] w (some (.int (if z < 0 then -1000000005 else z))) w 0 0 := by
  refine g_entry (cc := cX7_orNone) (maxL := 1) (by decide) rfl (Nat.le_of_ble_eq_true rfl) ?_
  intro κ hN hX hR
  have hX : GX κ cy Z cX7_orNone (Cond.code yX7_orNone cX7_orNone 1 (some .int) :: zT) RX7 { frames := 0, cells := 0, slots := 0, locals := 0 } := hX
  show GW κ 0 0 _ 0 [(0, .int (z))] []
  refine g_iload_n hX 0 rfl rfl dX7_orNone_0 ?_
  refine g_if_ge hX 9 (by decide) dX7_orNone_1 (fun c1 => ?_) (fun c1 => ?_)
  · refine g_iload_n hX 0 rfl rfl dX7_orNone_9 ?_
    exact g_reti hR (if_neg (Int32.not_lt.mpr c1)).symm rfl dX7_orNone_10
  · refine g_ldc hX (v := -1000000005) (zu tCon_X7_70 rfl) dX7_orNone_4 ?_
    refine g_goto hX 10 (by decide) dX7_orNone_6 ?_
    exact g_reti hR (if_pos (Int32.not_le.mp c1)).symm rfl dX7_orNone_10
def heldI (z lo hi : Int32) : Int32 := if z < lo then lo else if hi < z then hi else z
theorem kX7_held : mKS yX7_held cX7_held 3 (some .int) 3 := ⟨tSta_X7_held, tIni_X7, tCod_X7_held, by decide +kernel⟩
set_option maxHeartbeats 4000000 in
set_option maxRecDepth 100000 in
theorem c_held (l : Launch) (D : va_G) (cy : Nat → ClassId) (Z : (Nat → Prop) → State → Heap → Prop) (w : va_W) (z lo hi : Int32) : GD l D cy Z yX7_held (zW yX7_held cX7_held 3 (some .int)) { frames := 0, cells := 0, slots := 0, locals := 0 } [.int (z), .int (lo), .int (hi)] w (some (.int (heldI z lo hi))) w 0 0 := by
  refine g_entry (cc := cX7_held) (maxL := 3) (by decide) rfl (Nat.le_of_ble_eq_true rfl) ?_
  intro κ hN hX hR
  have hX : GX κ cy Z cX7_held (Cond.code yX7_held cX7_held 3 (some .int) :: zT) RX7 { frames := 0, cells := 0, slots := 0, locals := 0 } := hX
  show GW κ 0 0 _ 0 [(0, .int (z)), (1, .int (lo)), (2, .int (hi))] []
  refine g_iload_n hX 0 rfl rfl dX7_held_0 ?_
  refine g_iload_n hX 1 rfl rfl dX7_held_1 ?_
  refine g_icmp_ge hX 9 (by decide) dX7_held_2 (fun c2 => ?_) (fun c2 => ?_)
  · refine g_iload_n hX 0 rfl rfl dX7_held_9 ?_
    refine g_iload_n hX 2 rfl rfl dX7_held_10 ?_
    refine g_icmp_le hX 18 (by decide) dX7_held_11 (fun c11 => ?_) (fun c11 => ?_)
    · refine g_iload_n hX 0 rfl rfl dX7_held_18 ?_
      exact g_reti hR (by simp [heldI, Int32.not_lt.mpr c2, Int32.not_lt.mpr c11]) rfl dX7_held_19
    · refine g_iload_n hX 2 rfl rfl dX7_held_14 ?_
      refine g_goto hX 19 (by decide) dX7_held_15 ?_
      exact g_reti hR (by simp [heldI, Int32.not_lt.mpr c2, Int32.not_le.mp c11]) rfl dX7_held_19
  · refine g_iload_n hX 1 rfl rfl dX7_held_5 ?_
    refine g_goto hX 19 (by decide) dX7_held_6 ?_
    exact g_reti hR (by simp [heldI, Int32.not_le.mp c2]) rfl dX7_held_19
def offI (z y : Int32) : Int32 := if z < y then y - z else z - y
theorem kX7_off : mKS yX7_off cX7_off 2 (some .int) 2 := ⟨tSta_X7_off, tIni_X7, tCod_X7_off, by decide +kernel⟩
set_option maxHeartbeats 4000000 in
set_option maxRecDepth 100000 in
theorem c_off (l : Launch) (D : va_G) (cy : Nat → ClassId) (Z : (Nat → Prop) → State → Heap → Prop) (w : va_W) (z y : Int32) : GD l D cy Z yX7_off (zW yX7_off cX7_off 2 (some .int)) { frames := 0, cells := 0, slots := 0, locals := 0 } [.int (z), .int (y)] w (some (.int (offI z y))) w 0 0 := by
  refine g_entry (cc := cX7_off) (maxL := 2) (by decide) rfl (Nat.le_of_ble_eq_true rfl) ?_
  intro κ hN hX hR
  have hX : GX κ cy Z cX7_off (Cond.code yX7_off cX7_off 2 (some .int) :: zT) RX7 { frames := 0, cells := 0, slots := 0, locals := 0 } := hX
  show GW κ 0 0 _ 0 [(0, .int (z)), (1, .int (y))] []
  refine g_iload_n hX 0 rfl rfl dX7_off_0 ?_
  refine g_iload_n hX 1 rfl rfl dX7_off_1 ?_
  refine g_icmp_ge hX 11 (by decide) dX7_off_2 (fun c2 => ?_) (fun c2 => ?_)
  · refine g_iload_n hX 0 rfl rfl dX7_off_11 ?_
    refine g_iload_n hX 1 rfl rfl dX7_off_12 ?_
    refine g_isub hX dX7_off_13 ?_
    exact g_reti hR (by simp [offI, Int32.not_lt.mpr c2]) rfl dX7_off_14
  · refine g_iload_n hX 1 rfl rfl dX7_off_5 ?_
    refine g_iload_n hX 0 rfl rfl dX7_off_6 ?_
    refine g_isub hX dX7_off_7 ?_
    refine g_goto hX 14 (by decide) dX7_off_8 ?_
    exact g_reti hR (by simp [offI, Int32.not_le.mp c2]) rfl dX7_off_14
theorem kX7_becomes : mKV RX7 yX7_becomes cX7_becomes 4 (some .int) 2 := ⟨tIns_X7_becomes, tSel_X7_becomes, tIni_X7, tCod_X7_becomes, by decide +kernel⟩
set_option maxHeartbeats 4000000 in
set_option maxRecDepth 100000 in
theorem c_becomes (l : Launch) (D : va_G) (cy : Nat → ClassId) (Z : (Nat → Prop) → State → Heap → Prop) (hzo : zOK Z) {h0 : Nat} {a q : Nat → Nat} {C : (Nat → Int32) → (Nat → Int32) → (Nat → Nat → Int32) → (Nat → Nat → Int32) → va_W} (hC : mLens (cy 0) h0 a q C) (v s : Nat → Int32) (r x : Nat → Nat → Int32) (k : Nat) (hk : k < 3069) (z : Int32) : GD l D cy Z yX7_becomes (zW yX7_becomes cX7_becomes 4 (some .int)) { frames := 0, cells := 0, slots := 0, locals := 0 } [.ref (h0), .int (nI (k)), .int (z)] (C v s r x) (some (.int (s k))) (C v (upd s k z) r x) 0 0 := by
  refine g_entry (cc := cX7_becomes) (maxL := 4) (by decide) rfl (Nat.le_of_ble_eq_true rfl) ?_
  intro κ hN hX hR
  have hX : GX κ cy Z cX7_becomes (Cond.code yX7_becomes cX7_becomes 4 (some .int) :: zT) RX7 { frames := 0, cells := 0, slots := 0, locals := 0 } := hX
  show GW κ 0 0 _ 0 [(0, .ref (h0)), (1, .int (nI (k))), (2, .int (z))] []
  refine g_aload_n hX 0 rfl rfl dX7_becomes_0 ?_
  refine m_getA hX hC 0 (by decide) rfl tFld_X7_7 dX7_becomes_1 ?_
  refine g_iload_n hX 1 rfl rfl dX7_becomes_4 ?_
  refine m0_aldN hX hC hk dX7_becomes_5 ?_
  refine g_istore_n (lv2 := [(3, .int (s (k))), (0, .ref (h0)), (1, .int (nI (k))), (2, .int (z))]) hX 3 4 hN rfl (by decide) rfl dX7_becomes_6 ?_
  refine g_aload_n hX 1 rfl rfl dX7_becomes_7 ?_
  refine m_getA hX hC 0 (by decide) rfl tFld_X7_7 dX7_becomes_8 ?_
  refine g_iload_n hX 2 rfl rfl dX7_becomes_11 ?_
  refine g_iload_n hX 3 rfl rfl dX7_becomes_12 ?_
  refine m0_astN hX hC hk dX7_becomes_13 ?_
  refine g_iload_n hX 0 rfl rfl dX7_becomes_14 ?_
  exact g_reti hR rfl rfl dX7_becomes_15
theorem kX7_textAt : mKV RX7 yX7_textAt cX7_textAt 2 (some .int) 1 := ⟨tIns_X7_textAt, tSel_X7_textAt, tIni_X7, tCod_X7_textAt, by decide +kernel⟩
set_option maxHeartbeats 4000000 in
set_option maxRecDepth 100000 in
theorem c_textAt (l : Launch) (D : va_G) (cy : Nat → ClassId) (Z : (Nat → Prop) → State → Heap → Prop) (hzo : zOK Z) {h0 : Nat} {a q : Nat → Nat} {C : (Nat → Int32) → (Nat → Int32) → (Nat → Nat → Int32) → (Nat → Nat → Int32) → va_W} (hC : mLens (cy 0) h0 a q C) (v s : Nat → Int32) (r x : Nat → Nat → Int32) (k : Nat) : GD l D cy Z yX7_textAt (zW yX7_textAt cX7_textAt 2 (some .int)) { frames := 0, cells := 0, slots := 0, locals := 0 } [.ref (h0), .int (nI (k))] (C v s r x) (some (.int (nI (69 + 200 * k)))) (C v s r x) 0 0 := by
  refine g_entry (cc := cX7_textAt) (maxL := 2) (by decide) rfl (Nat.le_of_ble_eq_true rfl) ?_
  intro κ hN hX hR
  have hX : GX κ cy Z cX7_textAt (Cond.code yX7_textAt cX7_textAt 2 (some .int) :: zT) RX7 { frames := 0, cells := 0, slots := 0, locals := 0 } := hX
  show GW κ 0 0 _ 0 [(0, .ref (h0)), (1, .int (nI (k)))] []
  refine g_bipush hX (v := nI 69) (by decide) dX7_textAt_0 ?_
  refine g_sipush hX (v := nI 200) (by decide) dX7_textAt_2 ?_
  refine g_iload_n hX 1 rfl rfl dX7_textAt_5 ?_
  refine g_imulN hX dX7_textAt_6 ?_
  refine g_iaddN hX dX7_textAt_7 ?_
  exact g_reti hR rfl rfl dX7_textAt_8
theorem kX7_of : mKV RX7 yX7_of cX7_of 3 (some .int) 2 := ⟨tIns_X7_of, tSel_X7_of, tIni_X7, tCod_X7_of, by decide +kernel⟩
set_option maxHeartbeats 4000000 in
set_option maxRecDepth 100000 in
theorem c_of (l : Launch) (D : va_G) (cy : Nat → ClassId) (Z : (Nat → Prop) → State → Heap → Prop) (hzo : zOK Z) {h0 : Nat} {a q : Nat → Nat} {C : (Nat → Int32) → (Nat → Int32) → (Nat → Nat → Int32) → (Nat → Nat → Int32) → va_W} (hC : mLens (cy 0) h0 a q C) (v s : Nat → Int32) (r x : Nat → Nat → Int32) (k m : Nat) (hk : 6 + 7 * k + m < 3069) : GD l D cy Z yX7_of (zW yX7_of cX7_of 3 (some .int)) { frames := 0, cells := 0, slots := 0, locals := 0 } [.ref (h0), .int (nI (k)), .int (nI (m))] (C v s r x) (some (.int (s (6 + 7 * k + m)))) (C v s r x) 0 0 := by
  refine g_entry (cc := cX7_of) (maxL := 3) (by decide) rfl (Nat.le_of_ble_eq_true rfl) ?_
  intro κ hN hX hR
  have hX : GX κ cy Z cX7_of (Cond.code yX7_of cX7_of 3 (some .int) :: zT) RX7 { frames := 0, cells := 0, slots := 0, locals := 0 } := hX
  show GW κ 0 0 _ 0 [(0, .ref (h0)), (1, .int (nI (k))), (2, .int (nI (m)))] []
  refine g_aload_n hX 0 rfl rfl dX7_of_0 ?_
  refine m_getA hX hC 0 (by decide) rfl tFld_X7_7 dX7_of_1 ?_
  refine g_bipush hX (v := nI 6) (by decide) dX7_of_4 ?_
  refine g_bipush hX (v := nI 7) (by decide) dX7_of_6 ?_
  refine g_iload_n hX 1 rfl rfl dX7_of_8 ?_
  refine g_imulN hX dX7_of_9 ?_
  refine g_iaddN hX dX7_of_10 ?_
  refine g_iload_n hX 2 rfl rfl dX7_of_11 ?_
  refine g_iaddN hX dX7_of_12 ?_
  refine m0_aldN hX hC hk dX7_of_13 ?_
  exact g_reti hR rfl rfl dX7_of_14
theorem kX7_sets : mKV RX7 yX7_sets cX7_sets 4 none 3 := ⟨tIns_X7_sets, tSel_X7_sets, tIni_X7, tCod_X7_sets, by decide +kernel⟩
set_option maxHeartbeats 4000000 in
set_option maxRecDepth 100000 in
theorem c_sets (l : Launch) (D : va_G) (cy : Nat → ClassId) (Z : (Nat → Prop) → State → Heap → Prop) (hzo : zOK Z) {h0 : Nat} {a q : Nat → Nat} {C : (Nat → Int32) → (Nat → Int32) → (Nat → Nat → Int32) → (Nat → Nat → Int32) → va_W} (hC : mLens (cy 0) h0 a q C) (v s : Nat → Int32) (r x : Nat → Nat → Int32) (k m : Nat) (hk : 6 + 7 * k + m < 3069) (z : Int32) : GD l D cy Z yX7_sets (zW yX7_sets cX7_sets 4 none) { frames := 0, cells := 0, slots := 0, locals := 0 } [.ref (h0), .int (nI (k)), .int (nI (m)), .int (z)] (C v s r x) none (C v (upd s (6 + 7 * k + m) z) r x) 0 0 := by
  refine g_entry (cc := cX7_sets) (maxL := 4) (by decide) rfl (Nat.le_of_ble_eq_true rfl) ?_
  intro κ hN hX hR
  have hX : GX κ cy Z cX7_sets (Cond.code yX7_sets cX7_sets 4 none :: zT) RX7 { frames := 0, cells := 0, slots := 0, locals := 0 } := hX
  show GW κ 0 0 _ 0 [(0, .ref (h0)), (1, .int (nI (k))), (2, .int (nI (m))), (3, .int (z))] []
  refine g_aload_n hX 0 rfl rfl dX7_sets_0 ?_
  refine m_getA hX hC 0 (by decide) rfl tFld_X7_7 dX7_sets_1 ?_
  refine g_bipush hX (v := nI 6) (by decide) dX7_sets_4 ?_
  refine g_bipush hX (v := nI 7) (by decide) dX7_sets_6 ?_
  refine g_iload_n hX 1 rfl rfl dX7_sets_8 ?_
  refine g_imulN hX dX7_sets_9 ?_
  refine g_iaddN hX dX7_sets_10 ?_
  refine g_iload_n hX 2 rfl rfl dX7_sets_11 ?_
  refine g_iaddN hX dX7_sets_12 ?_
  refine g_iload_n hX 3 rfl rfl dX7_sets_13 ?_
  refine m0_astN hX hC hk dX7_sets_14 ?_
  exact g_retv hR rfl dX7_sets_15
theorem kX7_isHouse : mKV RX7 yX7_isHouse cX7_isHouse 2 (some .boolean) 1 := ⟨tIns_X7_isHouse, tSel_X7_isHouse, tIni_X7, tCod_X7_isHouse, by decide +kernel⟩
set_option maxHeartbeats 4000000 in
set_option maxRecDepth 100000 in
theorem c_isHouse (l : Launch) (D : va_G) (cy : Nat → ClassId) (Z : (Nat → Prop) → State → Heap → Prop) (hzo : zOK Z) {h0 : Nat} {a q : Nat → Nat} {C : (Nat → Int32) → (Nat → Int32) → (Nat → Nat → Int32) → (Nat → Nat → Int32) → va_W} (hC : mLens (cy 0) h0 a q C) (v s : Nat → Int32) (r x : Nat → Nat → Int32) (z : Int32) : GD l D cy Z yX7_isHouse (zW yX7_isHouse cX7_isHouse 2 (some .boolean)) { frames := 1, cells := 0, slots := 0, locals := 25 } [.ref (h0), .int (z)] (C v s r x) (some (.int (bI (inB z 0 (s 0 - nI 1))))) (C v s r x) 0 0 := by
  refine g_entry (cc := cX7_isHouse) (maxL := 2) (by decide) rfl (Nat.le_of_ble_eq_true rfl) ?_
  intro κ hN hX hR
  have hX : GX κ cy Z cX7_isHouse (Cond.code yX7_isHouse cX7_isHouse 2 (some .boolean) :: zT) RX7 { frames := 1, cells := 0, slots := 0, locals := 25 } := hX
  show GW κ 0 0 _ 0 [(0, .ref (h0)), (1, .int (z))] []
  refine g_iload_n hX 1 rfl rfl dX7_isHouse_0 ?_
  refine g_i2l hX dX7_isHouse_1 ?_
  refine g_lconst hX (v := Int32.toInt64 (0)) (by decide) dX7_isHouse_2 ?_
  refine g_aload_n hX 0 rfl rfl dX7_isHouse_3 ?_
  refine m_getA hX hC 0 (by decide) rfl tFld_X7_7 dX7_isHouse_4 ?_
  refine g_iconst hX (v := nI 0) rfl dX7_isHouse_7 ?_
  refine m0_aldN hX hC (by omega) dX7_isHouse_8 ?_
  refine g_iconst hX (v := nI 1) rfl dX7_isHouse_9 ?_
  refine g_isub hX dX7_isHouse_10 ?_
  refine g_i2l hX dX7_isHouse_11 ?_
  refine s_call hX hzo [.long (Int32.toInt64 (z)), .long (Int32.toInt64 ((0))), .long (Int32.toInt64 ((s (0) - nI (1))))] [] (c_isIn _ _ _ _ _ (z) ((0)) ((s (0) - nI (1)))) kX7_isIn tMet_X7_71 rfl rfl (Nat.le_of_ble_eq_true rfl) (Nat.le_of_ble_eq_true rfl) ⟨Nat.le_of_ble_eq_true rfl, Nat.le_of_ble_eq_true rfl⟩ rfl rfl (Nat.le_of_ble_eq_true rfl) dX7_isHouse_12 ?_
  exact g_retz hR rfl rfl dX7_isHouse_15
theorem kX7_isText : mKV RX7 yX7_isText cX7_isText 2 (some .boolean) 1 := ⟨tIns_X7_isText, tSel_X7_isText, tIni_X7, tCod_X7_isText, by decide +kernel⟩
set_option maxHeartbeats 4000000 in
set_option maxRecDepth 100000 in
theorem c_isText (l : Launch) (D : va_G) (cy : Nat → ClassId) (Z : (Nat → Prop) → State → Heap → Prop) (hzo : zOK Z) {h0 : Nat} {a q : Nat → Nat} {C : (Nat → Int32) → (Nat → Int32) → (Nat → Nat → Int32) → (Nat → Nat → Int32) → va_W} (hC : mLens (cy 0) h0 a q C) (v s : Nat → Int32) (r x : Nat → Nat → Int32) (z : Int32) : GD l D cy Z yX7_isText (zW yX7_isText cX7_isText 2 (some .boolean)) { frames := 1, cells := 0, slots := 0, locals := 25 } [.ref (h0), .int (z)] (C v s r x) (some (.int (bI (inB z 0 (s 1 - nI 1))))) (C v s r x) 0 0 := by
  refine g_entry (cc := cX7_isText) (maxL := 2) (by decide) rfl (Nat.le_of_ble_eq_true rfl) ?_
  intro κ hN hX hR
  have hX : GX κ cy Z cX7_isText (Cond.code yX7_isText cX7_isText 2 (some .boolean) :: zT) RX7 { frames := 1, cells := 0, slots := 0, locals := 25 } := hX
  show GW κ 0 0 _ 0 [(0, .ref (h0)), (1, .int (z))] []
  refine g_iload_n hX 1 rfl rfl dX7_isText_0 ?_
  refine g_i2l hX dX7_isText_1 ?_
  refine g_lconst hX (v := Int32.toInt64 (0)) (by decide) dX7_isText_2 ?_
  refine g_aload_n hX 0 rfl rfl dX7_isText_3 ?_
  refine m_getA hX hC 0 (by decide) rfl tFld_X7_7 dX7_isText_4 ?_
  refine g_iconst hX (v := nI 1) rfl dX7_isText_7 ?_
  refine m0_aldN hX hC (by omega) dX7_isText_8 ?_
  refine g_iconst hX (v := nI 1) rfl dX7_isText_9 ?_
  refine g_isub hX dX7_isText_10 ?_
  refine g_i2l hX dX7_isText_11 ?_
  refine s_call hX hzo [.long (Int32.toInt64 (z)), .long (Int32.toInt64 ((0))), .long (Int32.toInt64 ((s (1) - nI (1))))] [] (c_isIn _ _ _ _ _ (z) ((0)) ((s (1) - nI (1)))) kX7_isIn tMet_X7_71 rfl rfl (Nat.le_of_ble_eq_true rfl) (Nat.le_of_ble_eq_true rfl) ⟨Nat.le_of_ble_eq_true rfl, Nat.le_of_ble_eq_true rfl⟩ rfl rfl (Nat.le_of_ble_eq_true rfl) dX7_isText_12 ?_
  exact g_retz hR rfl rfl dX7_isText_15
theorem kX7_stands : mKV RX7 yX7_stands cX7_stands 2 (some .boolean) 1 := ⟨tIns_X7_stands, tSel_X7_stands, tIni_X7, tCod_X7_stands, by decide +kernel⟩
set_option maxHeartbeats 4000000 in
set_option maxRecDepth 100000 in
theorem c_stands (l : Launch) (D : va_G) (cy : Nat → ClassId) (Z : (Nat → Prop) → State → Heap → Prop) (hzo : zOK Z) {h0 : Nat} {a q : Nat → Nat} {C : (Nat → Int32) → (Nat → Int32) → (Nat → Nat → Int32) → (Nat → Nat → Int32) → va_W} (hC : mLens (cy 0) h0 a q C) (v s : Nat → Int32) (r x : Nat → Nat → Int32) (k : Nat) (hk : k < 9) : GD l D cy Z yX7_stands (zW yX7_stands cX7_stands 2 (some .boolean)) { frames := 1, cells := 0, slots := 0, locals := 22 } [.ref (h0), .int (nI (k))] (C v s r x) (some (.int (bI (sd s k)))) (C v s r x) 0 0 := by
  refine g_entry (cc := cX7_stands) (maxL := 2) (by decide) rfl (Nat.le_of_ble_eq_true rfl) ?_
  intro κ hN hX hR
  have hX : GX κ cy Z cX7_stands (Cond.code yX7_stands cX7_stands 2 (some .boolean) :: zT) RX7 { frames := 1, cells := 0, slots := 0, locals := 22 } := hX
  show GW κ 0 0 _ 0 [(0, .ref (h0)), (1, .int (nI (k)))] []
  refine g_aload_n hX 0 rfl rfl dX7_stands_0 ?_
  refine g_iload_n hX 1 rfl rfl dX7_stands_1 ?_
  refine g_bipush hX (v := nI 6) (by decide) dX7_stands_2 ?_
  refine m_callD hX hzo hC [.int (nI (k)), .int (nI (6))] [] (c_of _ _ _ _ hzo hC v s r x (k) (6) (by omega)) kX7_of tMet_X7_75 rfl rfl (Nat.le_of_ble_eq_true rfl) (Nat.le_of_ble_eq_true rfl) ⟨Nat.le_of_ble_eq_true rfl, Nat.le_of_ble_eq_true rfl⟩ rfl rfl (Nat.le_of_ble_eq_true rfl) dX7_stands_4 ?_
  refine g_if_ne hX 14 (by decide) dX7_stands_7 (fun c7 => ?_) (fun c7 => ?_)
  · refine g_iconst hX (v := nI 0) rfl dX7_stands_14 ?_
    exact g_retz hR (bI_zero _ (by simp [sd, c7])) rfl dX7_stands_15
  · refine g_iconst hX (v := nI 1) rfl dX7_stands_10 ?_
    refine g_goto hX 15 (by decide) dX7_stands_11 ?_
    exact g_retz hR (bI_one _ (by simp [sd, c7])) rfl dX7_stands_15
/-- the next number of the lot -/
def lotZ (z : Int32) : Int32 := z * 1103515245 + nI 12345
def lotN (z : Int32) : Int32 := ((lotZ z).toUInt32 >>> ((nI 8).toUInt32 &&& Int32.toUInt32 31)).toInt32
theorem kX7_drawn : mKV RX7 yX7_drawn cX7_drawn 1 (some .int) 0 := ⟨tIns_X7_drawn, tSel_X7_drawn, tIni_X7, tCod_X7_drawn, by decide +kernel⟩
set_option maxHeartbeats 4000000 in
set_option maxRecDepth 100000 in
theorem c_drawn (l : Launch) (D : va_G) (cy : Nat → ClassId) (Z : (Nat → Prop) → State → Heap → Prop) (hzo : zOK Z) {h0 : Nat} {a q : Nat → Nat} {C : (Nat → Int32) → (Nat → Int32) → (Nat → Nat → Int32) → (Nat → Nat → Int32) → va_W} (hC : mLens (cy 0) h0 a q C) (v s : Nat → Int32) (r x : Nat → Nat → Int32) : GD l D cy Z yX7_drawn (zW yX7_drawn cX7_drawn 1 (some .int)) { frames := 0, cells := 0, slots := 0, locals := 0 } [.ref (h0)] (C v s r x) (some (.int (lotN (s 5)))) (C v (upd s 5 (lotZ (s 5))) r x) 0 0 := by
  refine g_entry (cc := cX7_drawn) (maxL := 1) (by decide) rfl (Nat.le_of_ble_eq_true rfl) ?_
  intro κ hN hX hR
  have hX : GX κ cy Z cX7_drawn (Cond.code yX7_drawn cX7_drawn 1 (some .int) :: zT) RX7 { frames := 0, cells := 0, slots := 0, locals := 0 } := hX
  show GW κ 0 0 _ 0 [(0, .ref (h0))] []
  refine g_aload_n hX 0 rfl rfl dX7_drawn_0 ?_
  refine m_getA hX hC 0 (by decide) rfl tFld_X7_7 dX7_drawn_1 ?_
  refine g_iconst hX (v := nI 5) rfl dX7_drawn_4 ?_
  refine g_aload_n hX 0 rfl rfl dX7_drawn_5 ?_
  refine m_getA hX hC 0 (by decide) rfl tFld_X7_7 dX7_drawn_6 ?_
  refine g_iconst hX (v := nI 5) rfl dX7_drawn_9 ?_
  refine m0_aldN hX hC (by omega) dX7_drawn_10 ?_
  refine g_ldc hX (v := 1103515245) (zu tCon_X7_79 rfl) dX7_drawn_11 ?_
  refine g_imul hX dX7_drawn_13 ?_
  refine g_sipush hX (v := nI 12345) (by decide) dX7_drawn_14 ?_
  refine g_iadd hX dX7_drawn_17 ?_
  refine m0_astN hX hC (by omega) dX7_drawn_18 ?_
  refine g_aload_n hX 0 rfl rfl dX7_drawn_19 ?_
  refine m_getA hX hC 0 (by decide) rfl tFld_X7_7 dX7_drawn_20 ?_
  refine g_iconst hX (v := nI 5) rfl dX7_drawn_23 ?_
  refine m0_aldN hX hC (by omega) dX7_drawn_24 ?_
  refine g_bipush hX (v := nI 8) (by decide) dX7_drawn_25 ?_
  refine g_iushr hX dX7_drawn_27 ?_
  exact g_reti hR (by simp only [pk_us]; rfl) rfl dX7_drawn_28
end
section
/-- what the parts 1 .. 5 of a house may be -/
def mayB (m z : Int32) : Bool := if m = nI 1 then inB z 1 99 else if m = nI 2 then inB z (-50) 50 else if m = nI 3 then inB z 0 99 else if m = nI 4 then inB z 0 999 else if m = nI 5 then inB z 0 9 else false
theorem kX7_mayBe : mKS yX7_mayBe cX7_mayBe 2 (some .boolean) 2 := ⟨tSta_X7_mayBe, tIni_X7, tCod_X7_mayBe, by decide +kernel⟩
set_option maxHeartbeats 4000000 in
set_option maxRecDepth 100000 in
theorem c_mayBe (l : Launch) (D : va_G) (cy : Nat → ClassId) (Z : (Nat → Prop) → State → Heap → Prop) (hzo : zOK Z) (w : va_W) (m z : Int32) : GD l D cy Z yX7_mayBe (zW yX7_mayBe cX7_mayBe 2 (some .boolean)) { frames := 1, cells := 0, slots := 0, locals := 25 } [.int (m), .int (z)] w (some (.int (bI (mayB m z)))) w 0 0 := by
  refine g_entry (cc := cX7_mayBe) (maxL := 2) (by decide) rfl (Nat.le_of_ble_eq_true rfl) ?_
  intro κ hN hX hR
  have hX : GX κ cy Z cX7_mayBe (Cond.code yX7_mayBe cX7_mayBe 2 (some .boolean) :: zT) RX7 { frames := 1, cells := 0, slots := 0, locals := 25 } := hX
  show GW κ 0 0 _ 0 [(0, .int (m)), (1, .int (z))] []
  refine g_iload_n hX 0 rfl rfl dX7_mayBe_0 ?_
  rcases sw_in (m) 1 5 (by decide) with w1 | ⟨j1, w1a, w1b, w1⟩
  · refine g_tableOut hX 88 w1 (by decide) dX7_mayBe_1 ?_
    refine g_iconst hX (v := nI 0) rfl dX7_mayBe_88 ?_
    exact g_retz hR (by rw [mayB, if_neg (sw_out w1 1 (by decide) (by decide) (by decide)), if_neg (sw_out w1 2 (by decide) (by decide) (by decide)), if_neg (sw_out w1 3 (by decide) (by decide) (by decide)), if_neg (sw_out w1 4 (by decide) (by decide) (by decide)), if_neg (sw_out w1 5 (by decide) (by decide) (by decide))]; try rfl) rfl dX7_mayBe_89
  · have hj : j1 = 1 ∨ j1 = 2 ∨ j1 = 3 ∨ j1 = 4 ∨ j1 = 5 := by omega
    rcases hj with rfl | rfl | rfl | rfl | rfl
    · refine g_top (y := .int (nI 1)) (congrArg Value.int w1) ?_
      refine g_tableIn hX 36 (by decide) (by decide) rfl (by decide) dX7_mayBe_1 ?_
      refine g_iload_n hX 1 rfl rfl dX7_mayBe_36 ?_
      refine g_i2l hX dX7_mayBe_37 ?_
      refine g_lconst hX (v := Int32.toInt64 (1)) (by decide) dX7_mayBe_38 ?_
      refine g_ldc2 hX (v := Int32.toInt64 (99)) (zu tCoL_X7_84 rfl) dX7_mayBe_39 ?_
      refine s_call hX hzo [.long (Int32.toInt64 (z)), .long (Int32.toInt64 ((1))), .long (Int32.toInt64 ((99)))] [] (c_isIn _ _ _ _ _ (z) ((1)) ((99))) kX7_isIn tMet_X7_71 rfl rfl (Nat.le_of_ble_eq_true rfl) (Nat.le_of_ble_eq_true rfl) ⟨Nat.le_of_ble_eq_true rfl, Nat.le_of_ble_eq_true rfl⟩ rfl rfl (Nat.le_of_ble_eq_true rfl) dX7_mayBe_42 ?_
      exact g_retz hR (by rw [mayB, w1]; rfl) rfl dX7_mayBe_45
    · refine g_top (y := .int (nI 2)) (congrArg Value.int w1) ?_
      refine g_tableIn hX 46 (by decide) (by decide) rfl (by decide) dX7_mayBe_1 ?_
      refine g_iload_n hX 1 rfl rfl dX7_mayBe_46 ?_
      refine g_i2l hX dX7_mayBe_47 ?_
      refine g_ldc2 hX (v := Int32.toInt64 (-50)) (zu tCoL_X7_86 rfl) dX7_mayBe_48 ?_
      refine g_ldc2 hX (v := Int32.toInt64 (50)) (zu tCoL_X7_88 rfl) dX7_mayBe_51 ?_
      refine s_call hX hzo [.long (Int32.toInt64 (z)), .long (Int32.toInt64 ((-50))), .long (Int32.toInt64 ((50)))] [] (c_isIn _ _ _ _ _ (z) ((-50)) ((50))) kX7_isIn tMet_X7_71 rfl rfl (Nat.le_of_ble_eq_true rfl) (Nat.le_of_ble_eq_true rfl) ⟨Nat.le_of_ble_eq_true rfl, Nat.le_of_ble_eq_true rfl⟩ rfl rfl (Nat.le_of_ble_eq_true rfl) dX7_mayBe_54 ?_
      exact g_retz hR (by rw [mayB, w1]; rfl) rfl dX7_mayBe_57
    · refine g_top (y := .int (nI 3)) (congrArg Value.int w1) ?_
      refine g_tableIn hX 58 (by decide) (by decide) rfl (by decide) dX7_mayBe_1 ?_
      refine g_iload_n hX 1 rfl rfl dX7_mayBe_58 ?_
      refine g_i2l hX dX7_mayBe_59 ?_
      refine g_lconst hX (v := Int32.toInt64 (0)) (by decide) dX7_mayBe_60 ?_
      refine g_ldc2 hX (v := Int32.toInt64 (99)) (zu tCoL_X7_84 rfl) dX7_mayBe_61 ?_
      refine s_call hX hzo [.long (Int32.toInt64 (z)), .long (Int32.toInt64 ((0))), .long (Int32.toInt64 ((99)))] [] (c_isIn _ _ _ _ _ (z) ((0)) ((99))) kX7_isIn tMet_X7_71 rfl rfl (Nat.le_of_ble_eq_true rfl) (Nat.le_of_ble_eq_true rfl) ⟨Nat.le_of_ble_eq_true rfl, Nat.le_of_ble_eq_true rfl⟩ rfl rfl (Nat.le_of_ble_eq_true rfl) dX7_mayBe_64 ?_
      exact g_retz hR (by rw [mayB, w1]; rfl) rfl dX7_mayBe_67
    · refine g_top (y := .int (nI 4)) (congrArg Value.int w1) ?_
      refine g_tableIn hX 68 (by decide) (by decide) rfl (by decide) dX7_mayBe_1 ?_
      refine g_iload_n hX 1 rfl rfl dX7_mayBe_68 ?_
      refine g_i2l hX dX7_mayBe_69 ?_
      refine g_lconst hX (v := Int32.toInt64 (0)) (by decide) dX7_mayBe_70 ?_
      refine g_ldc2 hX (v := Int32.toInt64 (999)) (zu tCoL_X7_90 rfl) dX7_mayBe_71 ?_
      refine s_call hX hzo [.long (Int32.toInt64 (z)), .long (Int32.toInt64 ((0))), .long (Int32.toInt64 ((999)))] [] (c_isIn _ _ _ _ _ (z) ((0)) ((999))) kX7_isIn tMet_X7_71 rfl rfl (Nat.le_of_ble_eq_true rfl) (Nat.le_of_ble_eq_true rfl) ⟨Nat.le_of_ble_eq_true rfl, Nat.le_of_ble_eq_true rfl⟩ rfl rfl (Nat.le_of_ble_eq_true rfl) dX7_mayBe_74 ?_
      exact g_retz hR (by rw [mayB, w1]; rfl) rfl dX7_mayBe_77
    · refine g_top (y := .int (nI 5)) (congrArg Value.int w1) ?_
      refine g_tableIn hX 78 (by decide) (by decide) rfl (by decide) dX7_mayBe_1 ?_
      refine g_iload_n hX 1 rfl rfl dX7_mayBe_78 ?_
      refine g_i2l hX dX7_mayBe_79 ?_
      refine g_lconst hX (v := Int32.toInt64 (0)) (by decide) dX7_mayBe_80 ?_
      refine g_ldc2 hX (v := Int32.toInt64 (9)) (zu tCoL_X7_92 rfl) dX7_mayBe_81 ?_
      refine s_call hX hzo [.long (Int32.toInt64 (z)), .long (Int32.toInt64 ((0))), .long (Int32.toInt64 ((9)))] [] (c_isIn _ _ _ _ _ (z) ((0)) ((9))) kX7_isIn tMet_X7_71 rfl rfl (Nat.le_of_ble_eq_true rfl) (Nat.le_of_ble_eq_true rfl) ⟨Nat.le_of_ble_eq_true rfl, Nat.le_of_ble_eq_true rfl⟩ rfl rfl (Nat.le_of_ble_eq_true rfl) dX7_mayBe_84 ?_
      exact g_retz hR (by rw [mayB, w1]; rfl) rfl dX7_mayBe_87
/-- how many bits are set, of numbers under 512 -/
def pcN (m : Nat) : Nat := m % 2 + m / 2 % 2 + m / 4 % 2 + m / 8 % 2 + m / 16 % 2 + m / 32 % 2 + m / 64 % 2 + m / 128 % 2 + m / 256 % 2
theorem pcN_step : ∀ m, m < 512 → m ≠ 0 → pcN (m &&& (m - 1)) + 1 = pcN m ∧ m &&& (m - 1) < m := by decide +kernel
theorem nI_and (a b : Nat) : nI a &&& nI b = nI (a &&& b) := by
  apply Int32.toBitVec_inj.mp
  apply BitVec.eq_of_toNat_eq
  simp [nI, Int32.toBitVec_ofNat, BitVec.toNat_ofNat, Nat.and_mod_two_pow]
theorem kX7_manyIn : mKS yX7_manyIn cX7_manyIn 3 (some .int) 1 := ⟨tSta_X7_manyIn, tIni_X7, tCod_X7_manyIn, by decide +kernel⟩
set_option maxHeartbeats 4000000 in
set_option maxRecDepth 100000 in
theorem c_manyIn (l : Launch) (D : va_G) (cy : Nat → ClassId) (Z : (Nat → Prop) → State → Heap → Prop) (w : va_W) (m0 : Nat) (hm : m0 < 512) : GD l D cy Z yX7_manyIn (zW yX7_manyIn cX7_manyIn 3 (some .int)) { frames := 0, cells := 0, slots := 0, locals := 0 } [.int (nI (m0))] w (some (.int (nI (pcN m0)))) w 0 0 := by
  refine g_entry (cc := cX7_manyIn) (maxL := 3) (by decide) rfl (Nat.le_of_ble_eq_true rfl) ?_
  intro κ hN hX hR
  have hX : GX κ cy Z cX7_manyIn (Cond.code yX7_manyIn cX7_manyIn 3 (some .int) :: zT) RX7 { frames := 0, cells := 0, slots := 0, locals := 0 } := hX
  show GW κ 0 0 _ 0 [(0, .int (nI (m0)))] []
  have L : ∀ (m : Nat), m < 512 → ∀ k : Nat, k + pcN m = pcN m0 → GW κ 0 0 w 4 [(2, .int (nI (m))), (1, .int (nI (k))), (0, .int (nI (m0)))] [] := by
    intro m
    induction m using Nat.strongRecOn with
    | _ m ih =>
      intro hm k hk
      refine g_iload_n hX 0 rfl rfl dX7_manyIn_4 ?_
      refine g_ifN_eq hX (by omega) 20 (by decide) dX7_manyIn_5 (fun c5 => ?_) (fun c5 => ?_)
      · refine g_iload_n hX 1 rfl rfl dX7_manyIn_20 ?_
        exact g_reti hR (by rw [c5] at hk; rw [← hk]; rfl) rfl dX7_manyIn_21
      · refine g_iincN (n := 1) (lv2 := [(1, .int (nI (k + 1))), (2, .int (nI (m))), (0, .int (nI (m0)))]) hX 1 1 3 hN rfl (by decide) rfl dX7_manyIn_8 ?_
        refine g_iload_n hX 1 rfl rfl dX7_manyIn_11 ?_
        refine g_iload_n hX 1 rfl rfl dX7_manyIn_12 ?_
        refine g_iconst hX (v := nI 1) rfl dX7_manyIn_13 ?_
        refine g_isubN hX (by omega) dX7_manyIn_14 ?_
        refine g_iand hX dX7_manyIn_15 ?_
        refine g_istore_n (lv2 := [(2, .int ((nI (m) &&& nI ((m - 1))))), (1, .int (nI (k + 1))), (0, .int (nI (m0)))]) hX 2 3 hN rfl (by decide) rfl dX7_manyIn_16 ?_
        refine g_goto hX 4 (by decide) dX7_manyIn_17 ?_
        have e : nI m &&& nI (m - 1) = nI (m &&& (m - 1)) := nI_and _ _
        have P := pcN_step m hm c5
        rw [e]
        exact ih (m &&& (m - 1)) P.2 (by omega) (k + 1) (by omega)
  refine g_iconst hX (v := nI 0) rfl dX7_manyIn_0 ?_
  refine g_istore_n (lv2 := [(1, .int (nI (0))), (0, .int (nI (m0)))]) hX 1 3 hN rfl (by decide) rfl dX7_manyIn_1 ?_
  refine g_iload_n hX 1 rfl rfl dX7_manyIn_2 ?_
  refine g_istore_n (lv2 := [(2, .int (nI (m0))), (1, .int (nI (0))), (0, .int (nI (m0)))]) hX 2 3 hN rfl (by decide) rfl dX7_manyIn_3 ?_
  exact L m0 hm 0 (by omega)
/-- house k becomes this one -/
def houseS (s : Nat → Int32) (k : Nat) (a0 a1 a2 a3 : Int32) : Nat → Int32 := upd (upd (upd (upd (upd (upd (upd (upd s 0 (nI (k + 1))) (6 + 7 * k + 0) a0) (6 + 7 * k + 1) a1) (6 + 7 * k + 2) a2) (6 + 7 * k + 3) a3) (6 + 7 * k + 4) (nI 0)) (6 + 7 * k + 5) (nI 0)) (6 + 7 * k + 6) (nI 0)
theorem kX7_comes : mKV RX7 yX7_comes cX7_comes 6 none 4 := ⟨tIns_X7_comes, tSel_X7_comes, tIni_X7, tCod_X7_comes, by decide +kernel⟩
set_option maxHeartbeats 4000000 in
set_option maxRecDepth 100000 in
theorem c_comes (l : Launch) (D : va_G) (cy : Nat → ClassId) (Z : (Nat → Prop) → State → Heap → Prop) (hzo : zOK Z) {h0 : Nat} {a q : Nat → Nat} {C : (Nat → Int32) → (Nat → Int32) → (Nat → Nat → Int32) → (Nat → Nat → Int32) → va_W} (hC : mLens (cy 0) h0 a q C) (v s : Nat → Int32) (r x : Nat → Nat → Int32) (k : Nat) (hk : s 0 = nI k) (hk9 : k < 9) (a0 a1 a2 a3 : Int32) : GD l D cy Z yX7_comes (zW yX7_comes cX7_comes 6 none) { frames := 1, cells := 0, slots := 0, locals := 23 } [.ref (h0), .int (a0), .int (a1), .int (a2), .int (a3)] (C v s r x) none (C v (houseS s k a0 a1 a2 a3) r x) 0 0 := by
  refine g_entry (cc := cX7_comes) (maxL := 6) (by decide) rfl (Nat.le_of_ble_eq_true rfl) ?_
  intro κ hN hX hR
  have hX : GX κ cy Z cX7_comes (Cond.code yX7_comes cX7_comes 6 none :: zT) RX7 { frames := 1, cells := 0, slots := 0, locals := 23 } := hX
  show GW κ 0 0 _ 0 [(0, .ref (h0)), (1, .int (a0)), (2, .int (a1)), (3, .int (a2)), (4, .int (a3))] []
  refine g_aload_n hX 0 rfl rfl dX7_comes_0 ?_
  refine m_getA hX hC 0 (by decide) rfl tFld_X7_7 dX7_comes_1 ?_
  refine g_iconst hX (v := nI 0) rfl dX7_comes_4 ?_
  refine m0_aldN hX hC (by omega) dX7_comes_5 ?_
  refine g_top (y := .int (nI (k))) (congrArg Value.int hk) ?_
  refine g_istore (lv2 := [(5, .int (nI (k))), (0, .ref (h0)), (1, .int (a0)), (2, .int (a1)), (3, .int (a2)), (4, .int (a3))]) hX 5 6 hN (by decide) rfl dX7_comes_6 ?_
  refine g_aload_n hX 1 rfl rfl dX7_comes_8 ?_
  refine m_getA hX hC 0 (by decide) rfl tFld_X7_7 dX7_comes_9 ?_
  refine g_iconst hX (v := nI 0) rfl dX7_comes_12 ?_
  refine g_dup2 hX rfl rfl dX7_comes_13 ?_
  refine m0_aldN hX hC (by omega) dX7_comes_14 ?_
  refine g_top (y := .int (nI (k))) (congrArg Value.int hk) ?_
  refine g_iconst hX (v := nI 1) rfl dX7_comes_15 ?_
  refine g_iaddN hX dX7_comes_16 ?_
  refine m0_astN hX hC (by omega) dX7_comes_17 ?_
  refine g_aload_n hX 1 rfl rfl dX7_comes_18 ?_
  refine g_iload hX 0 rfl dX7_comes_19 ?_
  refine g_iconst hX (v := nI 0) rfl dX7_comes_21 ?_
  refine g_iload_n hX 2 rfl rfl dX7_comes_22 ?_
  refine m_callD hX hzo hC [.int (nI (k)), .int (nI (0)), .int (a0)] [] (c_sets _ _ _ _ hzo hC v (upd s (0) (nI ((k + 1)))) r x (k) (0) (by omega) (a0)) kX7_sets tMet_X7_80 rfl rfl (Nat.le_of_ble_eq_true rfl) (Nat.le_of_ble_eq_true rfl) ⟨Nat.le_of_ble_eq_true rfl, Nat.le_of_ble_eq_true rfl⟩ rfl rfl (Nat.le_of_ble_eq_true rfl) dX7_comes_23 ?_
  refine g_aload_n hX 1 rfl rfl dX7_comes_26 ?_
  refine g_iload hX 0 rfl dX7_comes_27 ?_
  refine g_iconst hX (v := nI 1) rfl dX7_comes_29 ?_
  refine g_iload_n hX 3 rfl rfl dX7_comes_30 ?_
  refine m_callD hX hzo hC [.int (nI (k)), .int (nI (1)), .int (a1)] [] (c_sets _ _ _ _ hzo hC v (upd (upd s (0) (nI ((k + 1)))) (6 + 7 * (k) + (0)) (a0)) r x (k) (1) (by omega) (a1)) kX7_sets tMet_X7_80 rfl rfl (Nat.le_of_ble_eq_true rfl) (Nat.le_of_ble_eq_true rfl) ⟨Nat.le_of_ble_eq_true rfl, Nat.le_of_ble_eq_true rfl⟩ rfl rfl (Nat.le_of_ble_eq_true rfl) dX7_comes_31 ?_
  refine g_aload_n hX 1 rfl rfl dX7_comes_34 ?_
  refine g_iload hX 0 rfl dX7_comes_35 ?_
  refine g_iconst hX (v := nI 2) rfl dX7_comes_37 ?_
  refine g_iload_n hX 4 rfl rfl dX7_comes_38 ?_
  refine m_callD hX hzo hC [.int (nI (k)), .int (nI (2)), .int (a2)] [] (c_sets _ _ _ _ hzo hC v (upd (upd (upd s (0) (nI ((k + 1)))) (6 + 7 * (k) + (0)) (a0)) (6 + 7 * (k) + (1)) (a1)) r x (k) (2) (by omega) (a2)) kX7_sets tMet_X7_80 rfl rfl (Nat.le_of_ble_eq_true rfl) (Nat.le_of_ble_eq_true rfl) ⟨Nat.le_of_ble_eq_true rfl, Nat.le_of_ble_eq_true rfl⟩ rfl rfl (Nat.le_of_ble_eq_true rfl) dX7_comes_39 ?_
  refine g_aload_n hX 1 rfl rfl dX7_comes_42 ?_
  refine g_iload hX 0 rfl dX7_comes_43 ?_
  refine g_iconst hX (v := nI 3) rfl dX7_comes_45 ?_
  refine g_iload hX 5 rfl dX7_comes_46 ?_
  refine m_callD hX hzo hC [.int (nI (k)), .int (nI (3)), .int (a3)] [] (c_sets _ _ _ _ hzo hC v (upd (upd (upd (upd s (0) (nI ((k + 1)))) (6 + 7 * (k) + (0)) (a0)) (6 + 7 * (k) + (1)) (a1)) (6 + 7 * (k) + (2)) (a2)) r x (k) (3) (by omega) (a3)) kX7_sets tMet_X7_80 rfl rfl (Nat.le_of_ble_eq_true rfl) (Nat.le_of_ble_eq_true rfl) ⟨Nat.le_of_ble_eq_true rfl, Nat.le_of_ble_eq_true rfl⟩ rfl rfl (Nat.le_of_ble_eq_true rfl) dX7_comes_48 ?_
  refine g_aload_n hX 1 rfl rfl dX7_comes_51 ?_
  refine g_iload hX 0 rfl dX7_comes_52 ?_
  refine g_iconst hX (v := nI 4) rfl dX7_comes_54 ?_
  refine g_iconst hX (v := nI 0) rfl dX7_comes_55 ?_
  refine m_callD hX hzo hC [.int (nI (k)), .int (nI (4)), .int (nI (0))] [] (c_sets _ _ _ _ hzo hC v (upd (upd (upd (upd (upd s (0) (nI ((k + 1)))) (6 + 7 * (k) + (0)) (a0)) (6 + 7 * (k) + (1)) (a1)) (6 + 7 * (k) + (2)) (a2)) (6 + 7 * (k) + (3)) (a3)) r x (k) (4) (by omega) (nI (0))) kX7_sets tMet_X7_80 rfl rfl (Nat.le_of_ble_eq_true rfl) (Nat.le_of_ble_eq_true rfl) ⟨Nat.le_of_ble_eq_true rfl, Nat.le_of_ble_eq_true rfl⟩ rfl rfl (Nat.le_of_ble_eq_true rfl) dX7_comes_56 ?_
  refine g_aload_n hX 1 rfl rfl dX7_comes_59 ?_
  refine g_iload hX 0 rfl dX7_comes_60 ?_
  refine g_iconst hX (v := nI 5) rfl dX7_comes_62 ?_
  refine g_iconst hX (v := nI 0) rfl dX7_comes_63 ?_
  refine m_callD hX hzo hC [.int (nI (k)), .int (nI (5)), .int (nI (0))] [] (c_sets _ _ _ _ hzo hC v (upd (upd (upd (upd (upd (upd s (0) (nI ((k + 1)))) (6 + 7 * (k) + (0)) (a0)) (6 + 7 * (k) + (1)) (a1)) (6 + 7 * (k) + (2)) (a2)) (6 + 7 * (k) + (3)) (a3)) (6 + 7 * (k) + (4)) (nI (0))) r x (k) (5) (by omega) (nI (0))) kX7_sets tMet_X7_80 rfl rfl (Nat.le_of_ble_eq_true rfl) (Nat.le_of_ble_eq_true rfl) ⟨Nat.le_of_ble_eq_true rfl, Nat.le_of_ble_eq_true rfl⟩ rfl rfl (Nat.le_of_ble_eq_true rfl) dX7_comes_64 ?_
  refine g_aload_n hX 1 rfl rfl dX7_comes_67 ?_
  refine g_iload hX 0 rfl dX7_comes_68 ?_
  refine g_bipush hX (v := nI 6) (by decide) dX7_comes_70 ?_
  refine g_iconst hX (v := nI 0) rfl dX7_comes_72 ?_
  refine m_callD hX hzo hC [.int (nI (k)), .int (nI (6)), .int (nI (0))] [] (c_sets _ _ _ _ hzo hC v (upd (upd (upd (upd (upd (upd (upd s (0) (nI ((k + 1)))) (6 + 7 * (k) + (0)) (a0)) (6 + 7 * (k) + (1)) (a1)) (6 + 7 * (k) + (2)) (a2)) (6 + 7 * (k) + (3)) (a3)) (6 + 7 * (k) + (4)) (nI (0))) (6 + 7 * (k) + (5)) (nI (0))) r x (k) (6) (by omega) (nI (0))) kX7_sets tMet_X7_80 rfl rfl (Nat.le_of_ble_eq_true rfl) (Nat.le_of_ble_eq_true rfl) ⟨Nat.le_of_ble_eq_true rfl, Nat.le_of_ble_eq_true rfl⟩ rfl rfl (Nat.le_of_ble_eq_true rfl) dX7_comes_73 ?_
  exact g_retv hR rfl dX7_comes_76
/-- a set of numbers under n, as bits -/
def maskI (p : Nat → Bool) : Nat → Int32
  | 0 => nI 0
  | k + 1 => maskI p k ||| (if p k then nI 1 <<< (nI k &&& 31) else nI 0)
theorem kX7_allStanding : mKV RX7 yX7_allStanding cX7_allStanding 3 (some .int) 0 := ⟨tIns_X7_allStanding, tSel_X7_allStanding, tIni_X7, tCod_X7_allStanding, by decide +kernel⟩
set_option maxHeartbeats 4000000 in
set_option maxRecDepth 100000 in
theorem c_allStanding (l : Launch) (D : va_G) (cy : Nat → ClassId) (Z : (Nat → Prop) → State → Heap → Prop) (hzo : zOK Z) {h0 : Nat} {a q : Nat → Nat} {C : (Nat → Int32) → (Nat → Int32) → (Nat → Nat → Int32) → (Nat → Nat → Int32) → va_W} (hC : mLens (cy 0) h0 a q C) (v s : Nat → Int32) (r x : Nat → Nat → Int32) (n : Nat) (hn : s 0 = nI n) (hn9 : n ≤ 9) : GD l D cy Z yX7_allStanding (zW yX7_allStanding cX7_allStanding 3 (some .int)) { frames := 2, cells := 0, slots := 0, locals := 43 } [.ref (h0)] (C v s r x) (some (.int (maskI (sd s) n))) (C v s r x) 0 0 := by
  refine g_entry (cc := cX7_allStanding) (maxL := 3) (by decide) rfl (Nat.le_of_ble_eq_true rfl) ?_
  intro κ hN hX hR
  have hX : GX κ cy Z cX7_allStanding (Cond.code yX7_allStanding cX7_allStanding 3 (some .int) :: zT) RX7 { frames := 2, cells := 0, slots := 0, locals := 43 } := hX
  show GW κ 0 0 _ 0 [(0, .ref (h0))] []
  have L : ∀ (f i : Nat), i ≤ n → n + 1 ≤ i + f → GW κ 0 0 (C v s r x) 4 [(2, .int (nI (i))), (1, .int (maskI (sd s) i)), (0, .ref (h0))] [] := by
    intro f
    induction f with
    | zero => intro i h1 h2; exact absurd h2 (by omega)
    | succ f ih =>
      intro i h1 h2
      refine g_iload_n hX 0 rfl rfl dX7_allStanding_4 ?_
      refine g_aload_n hX 2 rfl rfl dX7_allStanding_5 ?_
      refine m_getA hX hC 0 (by decide) rfl tFld_X7_7 dX7_allStanding_6 ?_
      refine g_iconst hX (v := nI 0) rfl dX7_allStanding_9 ?_
      refine m0_aldN hX hC (by omega) dX7_allStanding_10 ?_
      refine g_top (y := .int (nI (n))) (congrArg Value.int hn) ?_
      refine g_icmpN_ge hX (by omega) (by omega) 38 (by decide) dX7_allStanding_11 (fun c11 => ?_) (fun c11 => ?_)
      · refine g_iload_n hX 1 rfl rfl dX7_allStanding_38 ?_
        exact g_reti hR (by rw [show i = n from by omega]) rfl dX7_allStanding_39
      · refine g_iload_n hX 1 rfl rfl dX7_allStanding_14 ?_
        refine g_aload_n hX 2 rfl rfl dX7_allStanding_15 ?_
        refine g_iload_n hX 0 rfl rfl dX7_allStanding_16 ?_
        refine m_callD hX hzo hC [.int (nI (i))] [.int (maskI (sd s) i)] (c_stands _ _ _ _ hzo hC v s r x (i) (by omega)) kX7_stands tMet_X7_119 rfl rfl (Nat.le_of_ble_eq_true rfl) (Nat.le_of_ble_eq_true rfl) ⟨Nat.le_of_ble_eq_true rfl, Nat.le_of_ble_eq_true rfl⟩ rfl rfl (Nat.le_of_ble_eq_true rfl) dX7_allStanding_17 ?_
        refine g_ifb_eq hX 29 (by decide) dX7_allStanding_20 (fun c20 => ?_) (fun c20 => ?_)
        · refine g_iconst hX (v := nI 0) rfl dX7_allStanding_29 ?_
          refine g_ior hX dX7_allStanding_30 ?_
          refine g_istore_n (lv2 := [(1, .int ((maskI (sd s) i ||| nI (0)))), (2, .int (nI (i))), (0, .ref (h0))]) hX 1 3 hN rfl (by decide) rfl dX7_allStanding_31 ?_
          refine g_iincN (n := 1) (lv2 := [(2, .int (nI (i + 1))), (1, .int ((maskI (sd s) i ||| nI (0)))), (0, .ref (h0))]) hX 1 2 3 hN rfl (by decide) rfl dX7_allStanding_32 ?_
          refine g_goto hX 4 (by decide) dX7_allStanding_35 ?_
          have e : maskI (sd s) (i + 1) = (maskI (sd s) i ||| nI (0)) := (by rw [maskI, if_neg (by rw [c20]; decide)])
          have K := ih (i + 1) (by omega) (by omega)
          rw [e] at K
          exact K
        · refine g_iconst hX (v := nI 1) rfl dX7_allStanding_23 ?_
          refine g_iload_n hX 0 rfl rfl dX7_allStanding_24 ?_
          refine g_ishl hX dX7_allStanding_25 ?_
          refine g_goto hX 30 (by decide) dX7_allStanding_26 ?_
          refine g_ior hX dX7_allStanding_30 ?_
          refine g_istore_n (lv2 := [(1, .int ((maskI (sd s) i ||| (nI (1) <<< (nI (i) &&& 31))))), (2, .int (nI (i))), (0, .ref (h0))]) hX 1 3 hN rfl (by decide) rfl dX7_allStanding_31 ?_
          refine g_iincN (n := 1) (lv2 := [(2, .int (nI (i + 1))), (1, .int ((maskI (sd s) i ||| (nI (1) <<< (nI (i) &&& 31))))), (0, .ref (h0))]) hX 1 2 3 hN rfl (by decide) rfl dX7_allStanding_32 ?_
          refine g_goto hX 4 (by decide) dX7_allStanding_35 ?_
          have e : maskI (sd s) (i + 1) = (maskI (sd s) i ||| (nI (1) <<< (nI (i) &&& 31))) := (by rw [maskI, if_pos c20])
          have K := ih (i + 1) (by omega) (by omega)
          rw [e] at K
          exact K
  refine g_iconst hX (v := nI 0) rfl dX7_allStanding_0 ?_
  refine g_istore_n (lv2 := [(1, .int (nI (0))), (0, .ref (h0))]) hX 1 3 hN rfl (by decide) rfl dX7_allStanding_1 ?_
  refine g_iconst hX (v := nI 0) rfl dX7_allStanding_2 ?_
  refine g_istore_n (lv2 := [(2, .int (nI (0))), (1, .int (nI (0))), (0, .ref (h0))]) hX 2 3 hN rfl (by decide) rfl dX7_allStanding_3 ?_
  exact L (n + 1) 0 (by omega) (by omega)
def bearK (kd z : Int32) : Int32 := if kd = nI 1 then z + nI 5 else if kd = nI 2 then nI 2 * z else if kd = nI 3 then z + nI 5 else if kd = nI 4 then nI 2 * z else if kd = nI 5 then nI 999 else z
/-- what house k bears -/
def brs (s : Nat → Int32) (k : Nat) : Int32 := bearK (s (6 + 7 * k + 0)) (s (6 + 7 * k + 3) + nI 10 * s (6 + 7 * k + 5))
def worthK (kd z : Int32) : Int32 := if kd = nI 1 then z + nI 7 else if kd = nI 2 then nI 99 - z else if kd = nI 3 then nI 2 * (z + nI 7) else if kd = nI 4 then nI 94 - z else if kd = nI 5 then nI 6 else z
/-- what house k is worth -/
def wth (s : Nat → Int32) (k : Nat) : Int32 := worthK (s (6 + 7 * k + 0)) (s (6 + 7 * k + 3))
theorem kX7_bears : mKV RX7 yX7_bears cX7_bears 3 (some .int) 1 := ⟨tIns_X7_bears, tSel_X7_bears, tIni_X7, tCod_X7_bears, by decide +kernel⟩
set_option maxHeartbeats 4000000 in
set_option maxRecDepth 100000 in
theorem c_bears (l : Launch) (D : va_G) (cy : Nat → ClassId) (Z : (Nat → Prop) → State → Heap → Prop) (hzo : zOK Z) {h0 : Nat} {a q : Nat → Nat} {C : (Nat → Int32) → (Nat → Int32) → (Nat → Nat → Int32) → (Nat → Nat → Int32) → va_W} (hC : mLens (cy 0) h0 a q C) (v s : Nat → Int32) (r x : Nat → Nat → Int32) (k : Nat) (hk : k < 9) : GD l D cy Z yX7_bears (zW yX7_bears cX7_bears 3 (some .int)) { frames := 1, cells := 0, slots := 0, locals := 22 } [.ref (h0), .int (nI (k))] (C v s r x) (some (.int (brs s k))) (C v s r x) 0 0 := by
  refine g_entry (cc := cX7_bears) (maxL := 3) (by decide) rfl (Nat.le_of_ble_eq_true rfl) ?_
  intro κ hN hX hR
  have hX : GX κ cy Z cX7_bears (Cond.code yX7_bears cX7_bears 3 (some .int) :: zT) RX7 { frames := 1, cells := 0, slots := 0, locals := 22 } := hX
  show GW κ 0 0 _ 0 [(0, .ref (h0)), (1, .int (nI (k)))] []
  refine g_aload_n hX 0 rfl rfl dX7_bears_0 ?_
  refine g_iload_n hX 1 rfl rfl dX7_bears_1 ?_
  refine g_iconst hX (v := nI 3) rfl dX7_bears_2 ?_
  refine m_callD hX hzo hC [.int (nI (k)), .int (nI (3))] [] (c_of _ _ _ _ hzo hC v s r x (k) (3) (by omega)) kX7_of tMet_X7_75 rfl rfl (Nat.le_of_ble_eq_true rfl) (Nat.le_of_ble_eq_true rfl) ⟨Nat.le_of_ble_eq_true rfl, Nat.le_of_ble_eq_true rfl⟩ rfl rfl (Nat.le_of_ble_eq_true rfl) dX7_bears_3 ?_
  refine g_bipush hX (v := nI 10) (by decide) dX7_bears_6 ?_
  refine g_aload_n hX 0 rfl rfl dX7_bears_8 ?_
  refine g_iload_n hX 1 rfl rfl dX7_bears_9 ?_
  refine g_iconst hX (v := nI 5) rfl dX7_bears_10 ?_
  refine m_callD hX hzo hC [.int (nI (k)), .int (nI (5))] [.int (nI (10)), .int (s (6 + 7 * (k) + (3)))] (c_of _ _ _ _ hzo hC v s r x (k) (5) (by omega)) kX7_of tMet_X7_75 rfl rfl (Nat.le_of_ble_eq_true rfl) (Nat.le_of_ble_eq_true rfl) ⟨Nat.le_of_ble_eq_true rfl, Nat.le_of_ble_eq_true rfl⟩ rfl rfl (Nat.le_of_ble_eq_true rfl) dX7_bears_11 ?_
  refine g_imul hX dX7_bears_14 ?_
  refine g_iadd hX dX7_bears_15 ?_
  refine g_istore_n (lv2 := [(2, .int ((s (6 + 7 * (k) + (3)) + (nI (10) * s (6 + 7 * (k) + (5)))))), (0, .ref (h0)), (1, .int (nI (k)))]) hX 2 3 hN rfl (by decide) rfl dX7_bears_16 ?_
  refine g_aload_n hX 1 rfl rfl dX7_bears_17 ?_
  refine g_iload_n hX 2 rfl rfl dX7_bears_18 ?_
  refine g_iconst hX (v := nI 0) rfl dX7_bears_19 ?_
  refine m_callD hX hzo hC [.int (nI (k)), .int (nI (0))] [] (c_of _ _ _ _ hzo hC v s r x (k) (0) (by omega)) kX7_of tMet_X7_75 rfl rfl (Nat.le_of_ble_eq_true rfl) (Nat.le_of_ble_eq_true rfl) ⟨Nat.le_of_ble_eq_true rfl, Nat.le_of_ble_eq_true rfl⟩ rfl rfl (Nat.le_of_ble_eq_true rfl) dX7_bears_20 ?_
  rcases sw_in (s (6 + 7 * (k) + (0))) 1 5 (by decide) with w23 | ⟨j23, w23a, w23b, w23⟩
  · refine g_tableOut hX 68 w23 (by decide) dX7_bears_23 ?_
    refine g_iload_n hX 0 rfl rfl dX7_bears_68 ?_
    exact g_reti hR (by rw [brs, bearK, if_neg (sw_out w23 1 (by decide) (by decide) (by decide)), if_neg (sw_out w23 2 (by decide) (by decide) (by decide)), if_neg (sw_out w23 3 (by decide) (by decide) (by decide)), if_neg (sw_out w23 4 (by decide) (by decide) (by decide)), if_neg (sw_out w23 5 (by decide) (by decide) (by decide))]; try rfl) rfl dX7_bears_69
  · have hj : j23 = 1 ∨ j23 = 2 ∨ j23 = 3 ∨ j23 = 4 ∨ j23 = 5 := by omega
    rcases hj with rfl | rfl | rfl | rfl | rfl
    · refine g_top (y := .int (nI 1)) (congrArg Value.int w23) ?_
      refine g_tableIn hX 56 (by decide) (by decide) rfl (by decide) dX7_bears_23 ?_
      refine g_iload_n hX 0 rfl rfl dX7_bears_56 ?_
      refine g_iconst hX (v := nI 5) rfl dX7_bears_57 ?_
      refine g_iadd hX dX7_bears_58 ?_
      exact g_reti hR (by rw [brs, bearK, w23]; rfl) rfl dX7_bears_59
    · refine g_top (y := .int (nI 2)) (congrArg Value.int w23) ?_
      refine g_tableIn hX 60 (by decide) (by decide) rfl (by decide) dX7_bears_23 ?_
      refine g_iconst hX (v := nI 2) rfl dX7_bears_60 ?_
      refine g_iload_n hX 0 rfl rfl dX7_bears_61 ?_
      refine g_imul hX dX7_bears_62 ?_
      exact g_reti hR (by rw [brs, bearK, w23]; rfl) rfl dX7_bears_63
    · refine g_top (y := .int (nI 3)) (congrArg Value.int w23) ?_
      refine g_tableIn hX 56 (by decide) (by decide) rfl (by decide) dX7_bears_23 ?_
      refine g_iload_n hX 0 rfl rfl dX7_bears_56 ?_
      refine g_iconst hX (v := nI 5) rfl dX7_bears_57 ?_
      refine g_iadd hX dX7_bears_58 ?_
      exact g_reti hR (by rw [brs, bearK, w23]; rfl) rfl dX7_bears_59
    · refine g_top (y := .int (nI 4)) (congrArg Value.int w23) ?_
      refine g_tableIn hX 60 (by decide) (by decide) rfl (by decide) dX7_bears_23 ?_
      refine g_iconst hX (v := nI 2) rfl dX7_bears_60 ?_
      refine g_iload_n hX 0 rfl rfl dX7_bears_61 ?_
      refine g_imul hX dX7_bears_62 ?_
      exact g_reti hR (by rw [brs, bearK, w23]; rfl) rfl dX7_bears_63
    · refine g_top (y := .int (nI 5)) (congrArg Value.int w23) ?_
      refine g_tableIn hX 64 (by decide) (by decide) rfl (by decide) dX7_bears_23 ?_
      refine g_sipush hX (v := nI 999) (by decide) dX7_bears_64 ?_
      exact g_reti hR (by rw [brs, bearK, w23]; rfl) rfl dX7_bears_67
theorem kX7_worth : mKV RX7 yX7_worth cX7_worth 3 (some .int) 1 := ⟨tIns_X7_worth, tSel_X7_worth, tIni_X7, tCod_X7_worth, by decide +kernel⟩
set_option maxHeartbeats 4000000 in
set_option maxRecDepth 100000 in
theorem c_worth (l : Launch) (D : va_G) (cy : Nat → ClassId) (Z : (Nat → Prop) → State → Heap → Prop) (hzo : zOK Z) {h0 : Nat} {a q : Nat → Nat} {C : (Nat → Int32) → (Nat → Int32) → (Nat → Nat → Int32) → (Nat → Nat → Int32) → va_W} (hC : mLens (cy 0) h0 a q C) (v s : Nat → Int32) (r x : Nat → Nat → Int32) (k : Nat) (hk : k < 9) : GD l D cy Z yX7_worth (zW yX7_worth cX7_worth 3 (some .int)) { frames := 1, cells := 0, slots := 0, locals := 22 } [.ref (h0), .int (nI (k))] (C v s r x) (some (.int (wth s k))) (C v s r x) 0 0 := by
  refine g_entry (cc := cX7_worth) (maxL := 3) (by decide) rfl (Nat.le_of_ble_eq_true rfl) ?_
  intro κ hN hX hR
  have hX : GX κ cy Z cX7_worth (Cond.code yX7_worth cX7_worth 3 (some .int) :: zT) RX7 { frames := 1, cells := 0, slots := 0, locals := 22 } := hX
  show GW κ 0 0 _ 0 [(0, .ref (h0)), (1, .int (nI (k)))] []
  refine g_aload_n hX 0 rfl rfl dX7_worth_0 ?_
  refine g_iload_n hX 1 rfl rfl dX7_worth_1 ?_
  refine g_iconst hX (v := nI 3) rfl dX7_worth_2 ?_
  refine m_callD hX hzo hC [.int (nI (k)), .int (nI (3))] [] (c_of _ _ _ _ hzo hC v s r x (k) (3) (by omega)) kX7_of tMet_X7_75 rfl rfl (Nat.le_of_ble_eq_true rfl) (Nat.le_of_ble_eq_true rfl) ⟨Nat.le_of_ble_eq_true rfl, Nat.le_of_ble_eq_true rfl⟩ rfl rfl (Nat.le_of_ble_eq_true rfl) dX7_worth_3 ?_
  refine g_istore_n (lv2 := [(2, .int (s (6 + 7 * (k) + (3)))), (0, .ref (h0)), (1, .int (nI (k)))]) hX 2 3 hN rfl (by decide) rfl dX7_worth_6 ?_
  refine g_aload_n hX 1 rfl rfl dX7_worth_7 ?_
  refine g_iload_n hX 2 rfl rfl dX7_worth_8 ?_
  refine g_iconst hX (v := nI 0) rfl dX7_worth_9 ?_
  refine m_callD hX hzo hC [.int (nI (k)), .int (nI (0))] [] (c_of _ _ _ _ hzo hC v s r x (k) (0) (by omega)) kX7_of tMet_X7_75 rfl rfl (Nat.le_of_ble_eq_true rfl) (Nat.le_of_ble_eq_true rfl) ⟨Nat.le_of_ble_eq_true rfl, Nat.le_of_ble_eq_true rfl⟩ rfl rfl (Nat.le_of_ble_eq_true rfl) dX7_worth_10 ?_
  rcases sw_in (s (6 + 7 * (k) + (0))) 1 5 (by decide) with w13 | ⟨j13, w13a, w13b, w13⟩
  · refine g_tableOut hX 73 w13 (by decide) dX7_worth_13 ?_
    refine g_iload_n hX 0 rfl rfl dX7_worth_73 ?_
    exact g_reti hR (by rw [wth, worthK, if_neg (sw_out w13 1 (by decide) (by decide) (by decide)), if_neg (sw_out w13 2 (by decide) (by decide) (by decide)), if_neg (sw_out w13 3 (by decide) (by decide) (by decide)), if_neg (sw_out w13 4 (by decide) (by decide) (by decide)), if_neg (sw_out w13 5 (by decide) (by decide) (by decide))]; try rfl) rfl dX7_worth_74
  · have hj : j13 = 1 ∨ j13 = 2 ∨ j13 = 3 ∨ j13 = 4 ∨ j13 = 5 := by omega
    rcases hj with rfl | rfl | rfl | rfl | rfl
    · refine g_top (y := .int (nI 1)) (congrArg Value.int w13) ?_
      refine g_tableIn hX 48 (by decide) (by decide) rfl (by decide) dX7_worth_13 ?_
      refine g_iload_n hX 0 rfl rfl dX7_worth_48 ?_
      refine g_bipush hX (v := nI 7) (by decide) dX7_worth_49 ?_
      refine g_iadd hX dX7_worth_51 ?_
      exact g_reti hR (by rw [wth, worthK, w13]; rfl) rfl dX7_worth_52
    · refine g_top (y := .int (nI 2)) (congrArg Value.int w13) ?_
      refine g_tableIn hX 53 (by decide) (by decide) rfl (by decide) dX7_worth_13 ?_
      refine g_bipush hX (v := nI 99) (by decide) dX7_worth_53 ?_
      refine g_iload_n hX 0 rfl rfl dX7_worth_55 ?_
      refine g_isub hX dX7_worth_56 ?_
      exact g_reti hR (by rw [wth, worthK, w13]; rfl) rfl dX7_worth_57
    · refine g_top (y := .int (nI 3)) (congrArg Value.int w13) ?_
      refine g_tableIn hX 58 (by decide) (by decide) rfl (by decide) dX7_worth_13 ?_
      refine g_iconst hX (v := nI 2) rfl dX7_worth_58 ?_
      refine g_iload_n hX 0 rfl rfl dX7_worth_59 ?_
      refine g_bipush hX (v := nI 7) (by decide) dX7_worth_60 ?_
      refine g_iadd hX dX7_worth_62 ?_
      refine g_imul hX dX7_worth_63 ?_
      exact g_reti hR (by rw [wth, worthK, w13]; rfl) rfl dX7_worth_64
    · refine g_top (y := .int (nI 4)) (congrArg Value.int w13) ?_
      refine g_tableIn hX 65 (by decide) (by decide) rfl (by decide) dX7_worth_13 ?_
      refine g_bipush hX (v := nI 94) (by decide) dX7_worth_65 ?_
      refine g_iload_n hX 0 rfl rfl dX7_worth_67 ?_
      refine g_isub hX dX7_worth_68 ?_
      exact g_reti hR (by rw [wth, worthK, w13]; rfl) rfl dX7_worth_69
    · refine g_top (y := .int (nI 5)) (congrArg Value.int w13) ?_
      refine g_tableIn hX 70 (by decide) (by decide) rfl (by decide) dX7_worth_13 ?_
      refine g_bipush hX (v := nI 6) (by decide) dX7_worth_70 ?_
      exact g_reti hR (by rw [wth, worthK, w13]; rfl) rfl dX7_worth_72
end
section
/-- the next one upwards: o, o + 1 .., f of them -/
def nxR (p : Nat → Bool) : Nat → Nat → Option Nat
  | 0, _ => none
  | f + 1, o => if p o then some o else nxR p f (o + 1)
/-- the next one downwards: k - 1, k - 2 .. -/
def nxL (p : Nat → Bool) : Nat → Option Nat
  | 0 => none
  | k + 1 => if p k then some k else nxL p k
def optI : Option Nat → Int32
  | none => -1
  | some k => nI k
theorem kX7_nextOf : mKV RX7 yX7_nextOf cX7_nextOf 5 (some .int) 3 := ⟨tIns_X7_nextOf, tSel_X7_nextOf, tIni_X7, tCod_X7_nextOf, by decide +kernel⟩
set_option maxHeartbeats 4000000 in
set_option maxRecDepth 100000 in
theorem c_nextR (l : Launch) (D : va_G) (cy : Nat → ClassId) (Z : (Nat → Prop) → State → Heap → Prop) (hzo : zOK Z) {h0 : Nat} {a q : Nat → Nat} {C : (Nat → Int32) → (Nat → Int32) → (Nat → Nat → Int32) → (Nat → Nat → Int32) → va_W} (hC : mLens (cy 0) h0 a q C) (v s : Nat → Int32) (r x : Nat → Nat → Int32) (n : Nat) (hn : s 0 = nI n) (hn9 : n ≤ 9) (k : Nat) (hk : k < n) (z : Int32) (p : Nat → Bool) (hz : ∀ o, o < n → ((z >>> (nI o &&& 31)) &&& nI 1) = bI (p o)) : GD l D cy Z yX7_nextOf (zW yX7_nextOf cX7_nextOf 5 (some .int)) { frames := 0, cells := 0, slots := 0, locals := 0 } [.ref (h0), .int (nI (k)), .int (nI (1)), .int (z)] (C v s r x) (some (.int (optI (nxR p (n - (k + 1)) (k + 1))))) (C v s r x) 0 0 := by
  refine g_entry (cc := cX7_nextOf) (maxL := 5) (by decide) rfl (Nat.le_of_ble_eq_true rfl) ?_
  intro κ hN hX hR
  have hX : GX κ cy Z cX7_nextOf (Cond.code yX7_nextOf cX7_nextOf 5 (some .int) :: zT) RX7 { frames := 0, cells := 0, slots := 0, locals := 0 } := hX
  show GW κ 0 0 _ 0 [(0, .ref (h0)), (1, .int (nI (k))), (2, .int (nI (1))), (3, .int (z))] []
  have L : ∀ (f o : Nat), o + f = n → nxR p f o = nxR p (n - (k + 1)) (k + 1) → GW κ 0 0 (C v s r x) 5 [(4, .int (nI (o))), (0, .ref (h0)), (1, .int (nI (k))), (2, .int (nI (1))), (3, .int (z))] [] := by
    intro f
    induction f with
    | zero =>
      intro o h1 hE
      refine g_iload hX 0 rfl dX7_nextOf_5 ?_
      refine g_ifN_lt hX (by omega) 39 (by decide) dX7_nextOf_7 ?_
      refine g_iload hX 0 rfl dX7_nextOf_10 ?_
      refine g_aload_n hX 1 rfl rfl dX7_nextOf_12 ?_
      refine m_getA hX hC 0 (by decide) rfl tFld_X7_7 dX7_nextOf_13 ?_
      refine g_iconst hX (v := nI 0) rfl dX7_nextOf_16 ?_
      refine m0_aldN hX hC (by omega) dX7_nextOf_17 ?_
      refine g_top (y := .int (nI (n))) (congrArg Value.int hn) ?_
      refine g_icmpN_ge hX (by omega) (by omega) 39 (by decide) dX7_nextOf_18 (fun c18 => ?_) (fun c18 => absurd c18 (by omega))
      refine g_iload hX 0 rfl dX7_nextOf_39 ?_
      refine g_ifN_lt hX (by omega) 60 (by decide) dX7_nextOf_41 ?_
      refine g_iload hX 0 rfl dX7_nextOf_44 ?_
      refine g_aload_n hX 1 rfl rfl dX7_nextOf_46 ?_
      refine m_getA hX hC 0 (by decide) rfl tFld_X7_7 dX7_nextOf_47 ?_
      refine g_iconst hX (v := nI 0) rfl dX7_nextOf_50 ?_
      refine m0_aldN hX hC (by omega) dX7_nextOf_51 ?_
      refine g_top (y := .int (nI (n))) (congrArg Value.int hn) ?_
      refine g_icmpN_ge hX (by omega) (by omega) 60 (by decide) dX7_nextOf_52 (fun c52 => ?_) (fun c52 => absurd c52 (by omega))
      refine g_iconst hX (v := -1) (by decide) dX7_nextOf_60 ?_
      exact g_reti hR (by rw [← hE]; rfl) rfl dX7_nextOf_61
    | succ f ih =>
      intro o h1 hE
      refine g_iload hX 0 rfl dX7_nextOf_5 ?_
      refine g_ifN_lt hX (by omega) 39 (by decide) dX7_nextOf_7 ?_
      refine g_iload hX 0 rfl dX7_nextOf_10 ?_
      refine g_aload_n hX 1 rfl rfl dX7_nextOf_12 ?_
      refine m_getA hX hC 0 (by decide) rfl tFld_X7_7 dX7_nextOf_13 ?_
      refine g_iconst hX (v := nI 0) rfl dX7_nextOf_16 ?_
      refine m0_aldN hX hC (by omega) dX7_nextOf_17 ?_
      refine g_top (y := .int (nI (n))) (congrArg Value.int hn) ?_
      refine g_icmpN_ge hX (by omega) (by omega) 39 (by decide) dX7_nextOf_18 (fun c18 => absurd c18 (by omega)) (fun c18 => ?_)
      refine g_iload_n hX 4 rfl rfl dX7_nextOf_21 ?_
      refine g_iload hX 0 rfl dX7_nextOf_22 ?_
      refine g_ishr hX dX7_nextOf_24 ?_
      refine g_iconst hX (v := nI 1) rfl dX7_nextOf_25 ?_
      refine g_iand hX dX7_nextOf_26 ?_
      refine g_top (y := .int (bI (p o))) (congrArg Value.int (hz o (by omega))) ?_
      refine g_ifb_ne hX 39 (by decide) dX7_nextOf_27 (fun c27 => ?_) (fun c27 => ?_)
      · refine g_iload hX 0 rfl dX7_nextOf_39 ?_
        refine g_ifN_lt hX (by omega) 60 (by decide) dX7_nextOf_41 ?_
        refine g_iload hX 0 rfl dX7_nextOf_44 ?_
        refine g_aload_n hX 1 rfl rfl dX7_nextOf_46 ?_
        refine m_getA hX hC 0 (by decide) rfl tFld_X7_7 dX7_nextOf_47 ?_
        refine g_iconst hX (v := nI 0) rfl dX7_nextOf_50 ?_
        refine m0_aldN hX hC (by omega) dX7_nextOf_51 ?_
        refine g_top (y := .int (nI (n))) (congrArg Value.int hn) ?_
        refine g_icmpN_ge hX (by omega) (by omega) 60 (by decide) dX7_nextOf_52 (fun c52 => absurd c52 (by omega)) (fun c52 => ?_)
        refine g_iload hX 0 rfl dX7_nextOf_55 ?_
        refine g_goto hX 61 (by decide) dX7_nextOf_57 ?_
        exact g_reti hR (by rw [← hE, nxR, if_pos c27]; rfl) rfl dX7_nextOf_61
      · refine g_iload hX 0 rfl dX7_nextOf_30 ?_
        refine g_iload_n hX 3 rfl rfl dX7_nextOf_32 ?_
        refine g_iaddN hX dX7_nextOf_33 ?_
        refine g_istore (lv2 := [(4, .int (nI ((o + 1)))), (0, .ref (h0)), (1, .int (nI (k))), (2, .int (nI (1))), (3, .int (z))]) hX 4 5 hN (by decide) rfl dX7_nextOf_34 ?_
        refine g_goto hX 5 (by decide) dX7_nextOf_36 ?_
        exact ih (o + 1) (by omega) (by rw [← hE, nxR, if_neg (by rw [c27]; decide)])
  refine g_iload_n hX 1 rfl rfl dX7_nextOf_0 ?_
  refine g_iload_n hX 2 rfl rfl dX7_nextOf_1 ?_
  refine g_iaddN hX dX7_nextOf_2 ?_
  refine g_istore (lv2 := [(4, .int (nI ((k + 1)))), (0, .ref (h0)), (1, .int (nI (k))), (2, .int (nI (1))), (3, .int (z))]) hX 4 5 hN (by decide) rfl dX7_nextOf_3 ?_
  exact L (n - (k + 1)) (k + 1) (by omega) rfl
/- the same method with the other side -/
set_option maxHeartbeats 4000000 in
set_option maxRecDepth 100000 in
theorem c_nextL (l : Launch) (D : va_G) (cy : Nat → ClassId) (Z : (Nat → Prop) → State → Heap → Prop) (hzo : zOK Z) {h0 : Nat} {a q : Nat → Nat} {C : (Nat → Int32) → (Nat → Int32) → (Nat → Nat → Int32) → (Nat → Nat → Int32) → va_W} (hC : mLens (cy 0) h0 a q C) (v s : Nat → Int32) (r x : Nat → Nat → Int32) (n : Nat) (hn : s 0 = nI n) (hn9 : n ≤ 9) (k : Nat) (hk : k < n) (z : Int32) (p : Nat → Bool) (hz : ∀ o, o < n → ((z >>> (nI o &&& 31)) &&& nI 1) = bI (p o)) : GD l D cy Z yX7_nextOf (zW yX7_nextOf cX7_nextOf 5 (some .int)) { frames := 0, cells := 0, slots := 0, locals := 0 } [.ref (h0), .int (nI (k)), .int ((-1)), .int (z)] (C v s r x) (some (.int (optI (nxL p k)))) (C v s r x) 0 0 := by
  refine g_entry (cc := cX7_nextOf) (maxL := 5) (by decide) rfl (Nat.le_of_ble_eq_true rfl) ?_
  intro κ hN hX hR
  have hX : GX κ cy Z cX7_nextOf (Cond.code yX7_nextOf cX7_nextOf 5 (some .int) :: zT) RX7 { frames := 0, cells := 0, slots := 0, locals := 0 } := hX
  show GW κ 0 0 _ 0 [(0, .ref (h0)), (1, .int (nI (k))), (2, .int ((-1))), (3, .int (z))] []
  have L : ∀ (o : Nat), o ≤ k → nxL p o = nxL p k → GW κ 0 0 (C v s r x) 5 [(4, .int ((nI (o) + (-1)))), (0, .ref (h0)), (1, .int (nI (k))), (2, .int ((-1))), (3, .int (z))] [] := by
    intro o
    induction o with
    | zero =>
      intro h1 hE
      rw [show nI 0 + (-1) = (-1 : Int32) from by decide]
      refine g_iload hX 0 rfl dX7_nextOf_5 ?_
      refine g_if_lt hX 39 (by decide) dX7_nextOf_7 (fun c7 => ?_) (fun c7 => absurd c7 (fun h => h (by decide)))
      refine g_iload hX 0 rfl dX7_nextOf_39 ?_
      refine g_if_lt hX 60 (by decide) dX7_nextOf_41 (fun c41 => ?_) (fun c41 => absurd c41 (fun h => h (by decide)))
      refine g_iconst hX (v := -1) (by decide) dX7_nextOf_60 ?_
      exact g_reti hR (by rw [← hE]; rfl) rfl dX7_nextOf_61
    | succ o ih =>
      intro h1 hE
      rw [pk_m1 o]
      refine g_iload hX 0 rfl dX7_nextOf_5 ?_
      refine g_ifN_lt hX (by omega) 39 (by decide) dX7_nextOf_7 ?_
      refine g_iload hX 0 rfl dX7_nextOf_10 ?_
      refine g_aload_n hX 1 rfl rfl dX7_nextOf_12 ?_
      refine m_getA hX hC 0 (by decide) rfl tFld_X7_7 dX7_nextOf_13 ?_
      refine g_iconst hX (v := nI 0) rfl dX7_nextOf_16 ?_
      refine m0_aldN hX hC (by omega) dX7_nextOf_17 ?_
      refine g_top (y := .int (nI (n))) (congrArg Value.int hn) ?_
      refine g_icmpN_ge hX (by omega) (by omega) 39 (by decide) dX7_nextOf_18 (fun c18 => absurd c18 (by omega)) (fun c18 => ?_)
      refine g_iload_n hX 4 rfl rfl dX7_nextOf_21 ?_
      refine g_iload hX 0 rfl dX7_nextOf_22 ?_
      refine g_ishr hX dX7_nextOf_24 ?_
      refine g_iconst hX (v := nI 1) rfl dX7_nextOf_25 ?_
      refine g_iand hX dX7_nextOf_26 ?_
      refine g_top (y := .int (bI (p o))) (congrArg Value.int (hz o (by omega))) ?_
      refine g_ifb_ne hX 39 (by decide) dX7_nextOf_27 (fun c27 => ?_) (fun c27 => ?_)
      · refine g_iload hX 0 rfl dX7_nextOf_39 ?_
        refine g_ifN_lt hX (by omega) 60 (by decide) dX7_nextOf_41 ?_
        refine g_iload hX 0 rfl dX7_nextOf_44 ?_
        refine g_aload_n hX 1 rfl rfl dX7_nextOf_46 ?_
        refine m_getA hX hC 0 (by decide) rfl tFld_X7_7 dX7_nextOf_47 ?_
        refine g_iconst hX (v := nI 0) rfl dX7_nextOf_50 ?_
        refine m0_aldN hX hC (by omega) dX7_nextOf_51 ?_
        refine g_top (y := .int (nI (n))) (congrArg Value.int hn) ?_
        refine g_icmpN_ge hX (by omega) (by omega) 60 (by decide) dX7_nextOf_52 (fun c52 => absurd c52 (by omega)) (fun c52 => ?_)
        refine g_iload hX 0 rfl dX7_nextOf_55 ?_
        refine g_goto hX 61 (by decide) dX7_nextOf_57 ?_
        exact g_reti hR (by rw [← hE, nxL, if_pos c27]; rfl) rfl dX7_nextOf_61
      · refine g_iload hX 0 rfl dX7_nextOf_30 ?_
        refine g_iload_n hX 3 rfl rfl dX7_nextOf_32 ?_
        refine g_iadd hX dX7_nextOf_33 ?_
        refine g_istore (lv2 := [(4, .int ((nI (o) + (-1)))), (0, .ref (h0)), (1, .int (nI (k))), (2, .int ((-1))), (3, .int (z))]) hX 4 5 hN (by decide) rfl dX7_nextOf_34 ?_
        refine g_goto hX 5 (by decide) dX7_nextOf_36 ?_
        exact ih (by omega) (by rw [← hE, nxL, if_neg (by rw [c27]; decide)])
  refine g_iload_n hX 1 rfl rfl dX7_nextOf_0 ?_
  refine g_iload_n hX 2 rfl rfl dX7_nextOf_1 ?_
  refine g_iadd hX dX7_nextOf_2 ?_
  refine g_istore (lv2 := [(4, .int ((nI (k) + (-1)))), (0, .ref (h0)), (1, .int (nI (k))), (2, .int ((-1))), (3, .int (z))]) hX 4 5 hN (by decide) rfl dX7_nextOf_3 ?_
  exact L k (by omega) rfl
/-- the last text under t whose key is this one -/
def lastO (s : Nat → Int32) (key : Int32) : Nat → Option Nat
  | 0 => none
  | t + 1 => if s (69 + 200 * t) = key then some t else lastO s key t
theorem kX7_counts : mKV RX7 yX7_counts cX7_counts 4 (some .int) 1 := ⟨tIns_X7_counts, tSel_X7_counts, tIni_X7, tCod_X7_counts, by decide +kernel⟩
set_option maxHeartbeats 4000000 in
set_option maxRecDepth 100000 in
theorem c_counts (l : Launch) (D : va_G) (cy : Nat → ClassId) (Z : (Nat → Prop) → State → Heap → Prop) (hzo : zOK Z) {h0 : Nat} {a q : Nat → Nat} {C : (Nat → Int32) → (Nat → Int32) → (Nat → Nat → Int32) → (Nat → Nat → Int32) → va_W} (hC : mLens (cy 0) h0 a q C) (v s : Nat → Int32) (r x : Nat → Nat → Int32) (t : Nat) (ht : s 1 = nI t) (ht14 : t ≤ 14) (key : Int32) : GD l D cy Z yX7_counts (zW yX7_counts cX7_counts 4 (some .int)) { frames := 1, cells := 0, slots := 0, locals := 21 } [.ref (h0), .int (key)] (C v s r x) (some (.int (optI (lastO s key t)))) (C v s r x) 0 0 := by
  refine g_entry (cc := cX7_counts) (maxL := 4) (by decide) rfl (Nat.le_of_ble_eq_true rfl) ?_
  intro κ hN hX hR
  have hX : GX κ cy Z cX7_counts (Cond.code yX7_counts cX7_counts 4 (some .int) :: zT) RX7 { frames := 1, cells := 0, slots := 0, locals := 21 } := hX
  show GW κ 0 0 _ 0 [(0, .ref (h0)), (1, .int (key))] []
  have L : ∀ (f i : Nat), i ≤ t → t + 1 ≤ i + f → GW κ 0 0 (C v s r x) 4 [(3, .int (nI (i))), (2, .int (optI (lastO s key i))), (0, .ref (h0)), (1, .int (key))] [] := by
    intro f
    induction f with
    | zero => intro i h1 h2; exact absurd h2 (by omega)
    | succ f ih =>
      intro i h1 h2
      refine g_iload_n hX 0 rfl rfl dX7_counts_4 ?_
      refine g_aload_n hX 2 rfl rfl dX7_counts_5 ?_
      refine m_getA hX hC 0 (by decide) rfl tFld_X7_7 dX7_counts_6 ?_
      refine g_iconst hX (v := nI 1) rfl dX7_counts_9 ?_
      refine m0_aldN hX hC (by omega) dX7_counts_10 ?_
      refine g_top (y := .int (nI (t))) (congrArg Value.int ht) ?_
      refine g_icmpN_ge hX (by omega) (by omega) 40 (by decide) dX7_counts_11 (fun c11 => ?_) (fun c11 => ?_)
      · refine g_iload_n hX 1 rfl rfl dX7_counts_40 ?_
        exact g_reti hR (by rw [show i = t from by omega]) rfl dX7_counts_41
      · refine g_aload_n hX 2 rfl rfl dX7_counts_14 ?_
        refine m_getA hX hC 0 (by decide) rfl tFld_X7_7 dX7_counts_15 ?_
        refine g_aload_n hX 2 rfl rfl dX7_counts_18 ?_
        refine g_iload_n hX 0 rfl rfl dX7_counts_19 ?_
        refine m_callD hX hzo hC [.int (nI (i))] [.ref (a 0)] (c_textAt _ _ _ _ hzo hC v s r x (i)) kX7_textAt tMet_X7_283 rfl rfl (Nat.le_of_ble_eq_true rfl) (Nat.le_of_ble_eq_true rfl) ⟨Nat.le_of_ble_eq_true rfl, Nat.le_of_ble_eq_true rfl⟩ rfl rfl (Nat.le_of_ble_eq_true rfl) dX7_counts_20 ?_
        refine m0_aldN hX hC (by omega) dX7_counts_23 ?_
        refine g_iload_n hX 3 rfl rfl dX7_counts_24 ?_
        refine g_icmp_ne hX 32 (by decide) dX7_counts_25 (fun c25 => ?_) (fun c25 => ?_)
        · refine g_iload_n hX 1 rfl rfl dX7_counts_32 ?_
          refine g_istore_n (lv2 := [(2, .int (optI (lastO s key i))), (3, .int (nI (i))), (0, .ref (h0)), (1, .int (key))]) hX 2 4 hN rfl (by decide) rfl dX7_counts_33 ?_
          refine g_iincN (n := 1) (lv2 := [(3, .int (nI (i + 1))), (2, .int (optI (lastO s key i))), (0, .ref (h0)), (1, .int (key))]) hX 1 3 4 hN rfl (by decide) rfl dX7_counts_34 ?_
          refine g_goto hX 4 (by decide) dX7_counts_37 ?_
          have e : optI (lastO s key (i + 1)) = optI (lastO s key i) := (by rw [lastO, if_neg c25])
          have K := ih (i + 1) (by omega) (by omega)
          rw [e] at K
          exact K
        · refine g_iload_n hX 0 rfl rfl dX7_counts_28 ?_
          refine g_goto hX 33 (by decide) dX7_counts_29 ?_
          refine g_istore_n (lv2 := [(2, .int (nI (i))), (3, .int (nI (i))), (0, .ref (h0)), (1, .int (key))]) hX 2 4 hN rfl (by decide) rfl dX7_counts_33 ?_
          refine g_iincN (n := 1) (lv2 := [(3, .int (nI (i + 1))), (2, .int (nI (i))), (0, .ref (h0)), (1, .int (key))]) hX 1 3 4 hN rfl (by decide) rfl dX7_counts_34 ?_
          refine g_goto hX 4 (by decide) dX7_counts_37 ?_
          have e : optI (lastO s key (i + 1)) = nI (i) := (by rw [lastO, if_pos c25]; rfl)
          have K := ih (i + 1) (by omega) (by omega)
          rw [e] at K
          exact K
  refine g_iconst hX (v := -1) (by decide) dX7_counts_0 ?_
  refine g_istore_n (lv2 := [(2, .int ((-1))), (0, .ref (h0)), (1, .int (key))]) hX 2 4 hN rfl (by decide) rfl dX7_counts_1 ?_
  refine g_iconst hX (v := nI 0) rfl dX7_counts_2 ?_
  refine g_istore_n (lv2 := [(3, .int (nI (0))), (2, .int ((-1))), (0, .ref (h0)), (1, .int (key))]) hX 3 4 hN rfl (by decide) rfl dX7_counts_3 ?_
  exact L (t + 1) 0 (by omega) (by omega)
/-- two numbers joined by a sign -/
def joinI (m z y : Int32) : Int32 := if m = nI 43 then z + y else if m = nI 45 then z - y else if m = nI 42 then z * y else if m = nI 47 then (if y = 0 then 0 else z / y) else if m = nI 60 then bI (decide (z < y)) else if m = nI 62 then bI (decide (y < z)) else if m = nI 61 then bI (decide (z = y)) else if m = nI 38 then bI (decide (z ≠ 0) && decide (y ≠ 0)) else bI (decide (z ≠ 0) || decide (y ≠ 0))
theorem div_m1 (z : Int32) : z / (-1) = -z := by
  apply Int32.toInt_inj.mp
  rw [Int32.toInt_div, show (-1 : Int32).toInt = -1 from by decide, Int.tdiv_neg, Int.tdiv_one, Int32.toInt_neg]
theorem kX7_joined : mKS yX7_joined cX7_joined 3 (some .int) 3 := ⟨tSta_X7_joined, tIni_X7, tCod_X7_joined, by decide +kernel⟩
set_option maxHeartbeats 4000000 in
set_option maxRecDepth 100000 in
theorem c_joined (l : Launch) (D : va_G) (cy : Nat → ClassId) (Z : (Nat → Prop) → State → Heap → Prop) (w : va_W) (m z y : Int32) : GD l D cy Z yX7_joined (zW yX7_joined cX7_joined 3 (some .int)) { frames := 0, cells := 0, slots := 0, locals := 0 } [.int (m), .int (z), .int (y)] w (some (.int (joinI m z y))) w 0 0 := by
  refine g_entry (cc := cX7_joined) (maxL := 3) (by decide) rfl (Nat.le_of_ble_eq_true rfl) ?_
  intro κ hN hX hR
  have hX : GX κ cy Z cX7_joined (Cond.code yX7_joined cX7_joined 3 (some .int) :: zT) RX7 { frames := 0, cells := 0, slots := 0, locals := 0 } := hX
  show GW κ 0 0 _ 0 [(0, .int (m)), (1, .int (z)), (2, .int (y))] []
  have J : joinI m z y = bI (decide (z ≠ 0) || decide (y ≠ 0)) → GW κ 0 0 w 197 [(0, .int (m)), (1, .int (z)), (2, .int (y))] [] := by
    intro hJ
    refine g_iload_n hX 1 rfl rfl dX7_joined_197 ?_
    refine g_if_ne hX 205 (by decide) dX7_joined_198 (fun c198 => ?_) (fun c198 => ?_)
    · refine g_iconst hX (v := nI 1) rfl dX7_joined_205 ?_
      refine g_goto hX 210 (by decide) dX7_joined_206 ?_
      exact g_reti hR (by rw [hJ]; simp [bI, c198]; rfl) rfl dX7_joined_210
    · refine g_iload_n hX 2 rfl rfl dX7_joined_201 ?_
      refine g_if_eq hX 209 (by decide) dX7_joined_202 (fun c202 => ?_) (fun c202 => ?_)
      · refine g_iconst hX (v := nI 0) rfl dX7_joined_209 ?_
        exact g_reti hR (by rw [hJ]; simp [bI, c198, c202]; rfl) rfl dX7_joined_210
      · refine g_iconst hX (v := nI 1) rfl dX7_joined_205 ?_
        refine g_goto hX 210 (by decide) dX7_joined_206 ?_
        exact g_reti hR (by rw [hJ]; simp [bI, c198, c202]; rfl) rfl dX7_joined_210
  refine g_iload_n hX 0 rfl rfl dX7_joined_0 ?_
  rcases sw_in (m) 38 62 (by decide) with w1 | ⟨j1, w1a, w1b, w1⟩
  · refine g_tableOut hX 197 w1 (by decide) dX7_joined_1 ?_
    exact J (by rw [joinI]; simp [sw_out w1 43 (by decide) (by decide) (by decide), sw_out w1 45 (by decide) (by decide) (by decide), sw_out w1 42 (by decide) (by decide) (by decide), sw_out w1 47 (by decide) (by decide) (by decide), sw_out w1 60 (by decide) (by decide) (by decide), sw_out w1 62 (by decide) (by decide) (by decide), sw_out w1 61 (by decide) (by decide) (by decide), sw_out w1 38 (by decide) (by decide) (by decide)])
  · have hj : j1 = 38 ∨ j1 = 39 ∨ j1 = 40 ∨ j1 = 41 ∨ j1 = 42 ∨ j1 = 43 ∨ j1 = 44 ∨ j1 = 45 ∨ j1 = 46 ∨ j1 = 47 ∨ j1 = 48 ∨ j1 = 49 ∨ j1 = 50 ∨ j1 = 51 ∨ j1 = 52 ∨ j1 = 53 ∨ j1 = 54 ∨ j1 = 55 ∨ j1 = 56 ∨ j1 = 57 ∨ j1 = 58 ∨ j1 = 59 ∨ j1 = 60 ∨ j1 = 61 ∨ j1 = 62 := by omega
    rcases hj with rfl | rfl | rfl | rfl | rfl | rfl | rfl | rfl | rfl | rfl | rfl | rfl | rfl | rfl | rfl | rfl | rfl | rfl | rfl | rfl | rfl | rfl | rfl | rfl | rfl
    · refine g_top (y := .int (nI 38)) (congrArg Value.int w1) ?_
      refine g_tableIn hX 183 (by decide) (by decide) rfl (by decide) dX7_joined_1 ?_
      refine g_iload_n hX 1 rfl rfl dX7_joined_183 ?_
      refine g_if_eq hX 195 (by decide) dX7_joined_184 (fun c184 => ?_) (fun c184 => ?_)
      · refine g_iconst hX (v := nI 0) rfl dX7_joined_195 ?_
        exact g_reti hR (by rw [joinI, w1]; show _ = bI (decide (z ≠ 0) && decide (y ≠ 0)); simp [bI, c184]; rfl) rfl dX7_joined_196
      · refine g_iload_n hX 2 rfl rfl dX7_joined_187 ?_
        refine g_if_eq hX 195 (by decide) dX7_joined_188 (fun c188 => ?_) (fun c188 => ?_)
        · refine g_iconst hX (v := nI 0) rfl dX7_joined_195 ?_
          exact g_reti hR (by rw [joinI, w1]; show _ = bI (decide (z ≠ 0) && decide (y ≠ 0)); simp [bI, c184, c188]; rfl) rfl dX7_joined_196
        · refine g_iconst hX (v := nI 1) rfl dX7_joined_191 ?_
          refine g_goto hX 196 (by decide) dX7_joined_192 ?_
          exact g_reti hR (by rw [joinI, w1]; show _ = bI (decide (z ≠ 0) && decide (y ≠ 0)); simp [bI, c184, c188]; rfl) rfl dX7_joined_196
    · refine g_top (y := .int (nI 39)) (congrArg Value.int w1) ?_
      refine g_tableIn hX 197 (by decide) (by decide) rfl (by decide) dX7_joined_1 ?_
      exact J (by rw [joinI, w1]; rfl)
    · refine g_top (y := .int (nI 40)) (congrArg Value.int w1) ?_
      refine g_tableIn hX 197 (by decide) (by decide) rfl (by decide) dX7_joined_1 ?_
      exact J (by rw [joinI, w1]; rfl)
    · refine g_top (y := .int (nI 41)) (congrArg Value.int w1) ?_
      refine g_tableIn hX 197 (by decide) (by decide) rfl (by decide) dX7_joined_1 ?_
      exact J (by rw [joinI, w1]; rfl)
    · refine g_top (y := .int (nI 42)) (congrArg Value.int w1) ?_
      refine g_tableIn hX 124 (by decide) (by decide) rfl (by decide) dX7_joined_1 ?_
      refine g_iload_n hX 1 rfl rfl dX7_joined_124 ?_
      refine g_iload_n hX 2 rfl rfl dX7_joined_125 ?_
      refine g_imul hX dX7_joined_126 ?_
      exact g_reti hR (by rw [joinI, w1]; rfl) rfl dX7_joined_127
    · refine g_top (y := .int (nI 43)) (congrArg Value.int w1) ?_
      refine g_tableIn hX 116 (by decide) (by decide) rfl (by decide) dX7_joined_1 ?_
      refine g_iload_n hX 1 rfl rfl dX7_joined_116 ?_
      refine g_iload_n hX 2 rfl rfl dX7_joined_117 ?_
      refine g_iadd hX dX7_joined_118 ?_
      exact g_reti hR (by rw [joinI, w1]; rfl) rfl dX7_joined_119
    · refine g_top (y := .int (nI 44)) (congrArg Value.int w1) ?_
      refine g_tableIn hX 197 (by decide) (by decide) rfl (by decide) dX7_joined_1 ?_
      exact J (by rw [joinI, w1]; rfl)
    · refine g_top (y := .int (nI 45)) (congrArg Value.int w1) ?_
      refine g_tableIn hX 120 (by decide) (by decide) rfl (by decide) dX7_joined_1 ?_
      refine g_iload_n hX 1 rfl rfl dX7_joined_120 ?_
      refine g_iload_n hX 2 rfl rfl dX7_joined_121 ?_
      refine g_isub hX dX7_joined_122 ?_
      exact g_reti hR (by rw [joinI, w1]; rfl) rfl dX7_joined_123
    · refine g_top (y := .int (nI 46)) (congrArg Value.int w1) ?_
      refine g_tableIn hX 197 (by decide) (by decide) rfl (by decide) dX7_joined_1 ?_
      exact J (by rw [joinI, w1]; rfl)
    · refine g_top (y := .int (nI 47)) (congrArg Value.int w1) ?_
      refine g_tableIn hX 128 (by decide) (by decide) rfl (by decide) dX7_joined_1 ?_
      refine g_iload_n hX 2 rfl rfl dX7_joined_128 ?_
      refine g_if_ne hX 136 (by decide) dX7_joined_129 (fun c129 => ?_) (fun c129 => ?_)
      · refine g_iload_n hX 2 rfl rfl dX7_joined_136 ?_
        refine g_iconst hX (v := -1) (by decide) dX7_joined_137 ?_
        refine g_icmp_ne hX 146 (by decide) dX7_joined_138 (fun c138 => ?_) (fun c138 => ?_)
        · refine g_iload_n hX 1 rfl rfl dX7_joined_146 ?_
          refine g_iload_n hX 2 rfl rfl dX7_joined_147 ?_
          refine g_idiv hX c129 dX7_joined_148 ?_
          exact g_reti hR (by rw [joinI, w1]; show _ = (if y = 0 then 0 else z / y); rw [if_neg c129]) rfl dX7_joined_149
        · refine g_iload_n hX 1 rfl rfl dX7_joined_141 ?_
          refine g_ineg hX dX7_joined_142 ?_
          refine g_goto hX 149 (by decide) dX7_joined_143 ?_
          exact g_reti hR (by rw [joinI, w1]; show _ = (if y = 0 then 0 else z / y); rw [if_neg c129, c138, div_m1]) rfl dX7_joined_149
      · refine g_iconst hX (v := nI 0) rfl dX7_joined_132 ?_
        refine g_goto hX 149 (by decide) dX7_joined_133 ?_
        exact g_reti hR (by rw [joinI, w1]; show _ = (if y = 0 then 0 else z / y); rw [if_pos c129]; rfl) rfl dX7_joined_149
    · refine g_top (y := .int (nI 48)) (congrArg Value.int w1) ?_
      refine g_tableIn hX 197 (by decide) (by decide) rfl (by decide) dX7_joined_1 ?_
      exact J (by rw [joinI, w1]; rfl)
    · refine g_top (y := .int (nI 49)) (congrArg Value.int w1) ?_
      refine g_tableIn hX 197 (by decide) (by decide) rfl (by decide) dX7_joined_1 ?_
      exact J (by rw [joinI, w1]; rfl)
    · refine g_top (y := .int (nI 50)) (congrArg Value.int w1) ?_
      refine g_tableIn hX 197 (by decide) (by decide) rfl (by decide) dX7_joined_1 ?_
      exact J (by rw [joinI, w1]; rfl)
    · refine g_top (y := .int (nI 51)) (congrArg Value.int w1) ?_
      refine g_tableIn hX 197 (by decide) (by decide) rfl (by decide) dX7_joined_1 ?_
      exact J (by rw [joinI, w1]; rfl)
    · refine g_top (y := .int (nI 52)) (congrArg Value.int w1) ?_
      refine g_tableIn hX 197 (by decide) (by decide) rfl (by decide) dX7_joined_1 ?_
      exact J (by rw [joinI, w1]; rfl)
    · refine g_top (y := .int (nI 53)) (congrArg Value.int w1) ?_
      refine g_tableIn hX 197 (by decide) (by decide) rfl (by decide) dX7_joined_1 ?_
      exact J (by rw [joinI, w1]; rfl)
    · refine g_top (y := .int (nI 54)) (congrArg Value.int w1) ?_
      refine g_tableIn hX 197 (by decide) (by decide) rfl (by decide) dX7_joined_1 ?_
      exact J (by rw [joinI, w1]; rfl)
    · refine g_top (y := .int (nI 55)) (congrArg Value.int w1) ?_
      refine g_tableIn hX 197 (by decide) (by decide) rfl (by decide) dX7_joined_1 ?_
      exact J (by rw [joinI, w1]; rfl)
    · refine g_top (y := .int (nI 56)) (congrArg Value.int w1) ?_
      refine g_tableIn hX 197 (by decide) (by decide) rfl (by decide) dX7_joined_1 ?_
      exact J (by rw [joinI, w1]; rfl)
    · refine g_top (y := .int (nI 57)) (congrArg Value.int w1) ?_
      refine g_tableIn hX 197 (by decide) (by decide) rfl (by decide) dX7_joined_1 ?_
      exact J (by rw [joinI, w1]; rfl)
    · refine g_top (y := .int (nI 58)) (congrArg Value.int w1) ?_
      refine g_tableIn hX 197 (by decide) (by decide) rfl (by decide) dX7_joined_1 ?_
      exact J (by rw [joinI, w1]; rfl)
    · refine g_top (y := .int (nI 59)) (congrArg Value.int w1) ?_
      refine g_tableIn hX 197 (by decide) (by decide) rfl (by decide) dX7_joined_1 ?_
      exact J (by rw [joinI, w1]; rfl)
    · refine g_top (y := .int (nI 60)) (congrArg Value.int w1) ?_
      refine g_tableIn hX 150 (by decide) (by decide) rfl (by decide) dX7_joined_1 ?_
      refine g_iload_n hX 1 rfl rfl dX7_joined_150 ?_
      refine g_iload_n hX 2 rfl rfl dX7_joined_151 ?_
      refine g_icmp_ge hX 159 (by decide) dX7_joined_152 (fun c152 => ?_) (fun c152 => ?_)
      · refine g_iconst hX (v := nI 0) rfl dX7_joined_159 ?_
        exact g_reti hR (by rw [joinI, w1]; show _ = bI (decide (z < y)); simp [bI, Int32.not_lt.mpr c152]; rfl) rfl dX7_joined_160
      · refine g_iconst hX (v := nI 1) rfl dX7_joined_155 ?_
        refine g_goto hX 160 (by decide) dX7_joined_156 ?_
        exact g_reti hR (by rw [joinI, w1]; show _ = bI (decide (z < y)); simp [bI, Int32.not_le.mp c152]; rfl) rfl dX7_joined_160
    · refine g_top (y := .int (nI 61)) (congrArg Value.int w1) ?_
      refine g_tableIn hX 172 (by decide) (by decide) rfl (by decide) dX7_joined_1 ?_
      refine g_iload_n hX 1 rfl rfl dX7_joined_172 ?_
      refine g_iload_n hX 2 rfl rfl dX7_joined_173 ?_
      refine g_icmp_ne hX 181 (by decide) dX7_joined_174 (fun c174 => ?_) (fun c174 => ?_)
      · refine g_iconst hX (v := nI 0) rfl dX7_joined_181 ?_
        exact g_reti hR (by rw [joinI, w1]; show _ = bI (decide (z = y)); simp [bI, c174]; rfl) rfl dX7_joined_182
      · refine g_iconst hX (v := nI 1) rfl dX7_joined_177 ?_
        refine g_goto hX 182 (by decide) dX7_joined_178 ?_
        exact g_reti hR (by rw [joinI, w1]; show _ = bI (decide (z = y)); simp [bI, c174]; rfl) rfl dX7_joined_182
    · refine g_top (y := .int (nI 62)) (congrArg Value.int w1) ?_
      refine g_tableIn hX 161 (by decide) (by decide) rfl (by decide) dX7_joined_1 ?_
      refine g_iload_n hX 1 rfl rfl dX7_joined_161 ?_
      refine g_iload_n hX 2 rfl rfl dX7_joined_162 ?_
      refine g_icmp_le hX 170 (by decide) dX7_joined_163 (fun c163 => ?_) (fun c163 => ?_)
      · refine g_iconst hX (v := nI 0) rfl dX7_joined_170 ?_
        exact g_reti hR (by rw [joinI, w1]; show _ = bI (decide (y < z)); simp [bI, Int32.not_lt.mpr c163]; rfl) rfl dX7_joined_171
      · refine g_iconst hX (v := nI 1) rfl dX7_joined_166 ?_
        refine g_goto hX 171 (by decide) dX7_joined_167 ?_
        exact g_reti hR (by rw [joinI, w1]; show _ = bI (decide (y < z)); simp [bI, Int32.not_le.mp c163]; rfl) rfl dX7_joined_171
end
section
/-- the scratch rows 12 and 13 are as they were -/
def xk (x x2 : Nat → Nat → Int32) : Prop := x2 12 = x 12 ∧ x2 13 = x 13
theorem xk_r (x : Nat → Nat → Int32) : xk x x := ⟨rfl, rfl⟩
theorem xk_t {x y z : Nat → Nat → Int32} (h : xk x y) (h2 : xk y z) : xk x z := ⟨h2.1.trans h.1, h2.2.trans h.2⟩
theorem xk_27 {x y : Nat → Nat → Int32} (f : Nat → Int32) (h : xk x y) : xk x (mU y 27 f) := h
theorem xk_28 {x y : Nat → Nat → Int32} (f : Nat → Int32) (h : xk x y) : xk x (mU y 28 f) := h
/-- one step of a text on a pile of numbers -/
def wk1 (nm : Nat → Int32) (m z : Int32) (stk : List Int32) : Option (List Int32) :=
  if m = nI 2 then (if z = nI 33 then (match stk with | y :: t => some ((if y = 0 then nI 1 else nI 0) :: t) | [] => none) else (match stk with | y :: u :: t => some (joinI z u y :: t) | _ => none))
  else some ((if m = 0 then z else nm z.toNatClampNeg) :: stk)
theorem wk1_push {nm : Nat → Int32} {m z : Int32} {stk : List Int32} (h : ¬ m = nI 2) : wk1 nm m z stk = some ((if m = 0 then z else nm z.toNatClampNeg) :: stk) := by unfold wk1; rw [if_neg h]
theorem wk1_not {nm : Nat → Int32} {m z y : Int32} {t : List Int32} (h : m = nI 2) (h2 : z = nI 33) : wk1 nm m z (y :: t) = some ((if y = 0 then nI 1 else nI 0) :: t) := by unfold wk1; rw [if_pos h, if_pos h2]
theorem wk1_join {nm : Nat → Int32} {m z y u : Int32} {t : List Int32} (h : m = nI 2) (h2 : ¬ z = nI 33) : wk1 nm m z (y :: u :: t) = some (joinI z u y :: t) := by unfold wk1; rw [if_pos h, if_neg h2]
theorem wk1_nil {nm : Nat → Int32} {m z : Int32} (h : m = nI 2) : wk1 nm m z [] = none := by unfold wk1; rw [if_pos h]; split <;> rfl
theorem wk1_one {nm : Nat → Int32} {m z y : Int32} (h : m = nI 2) (h2 : ¬ z = nI 33) : wk1 nm m z [y] = none := by unfold wk1; rw [if_pos h, if_neg h2]
theorem iM1 (k : Nat) : nI (k + 1) + Int32.ofInt (-1) = nI k := by rw [show Int32.ofInt (-1) = (-1 : Int32) from by decide]; exact pk_m1 k
/-- the first k steps of the text that begins at the place b -/
def wkR (nm s : Nat → Int32) (b : Nat) : Nat → Option (List Int32)
  | 0 => some []
  | k + 1 => (wkR nm s b k).bind (wk1 nm (s (b + 4 + 2 * k)) (s (b + 4 + 2 * k + 1)))
/-- the row f holds the pile stk, its top last -/
def pR (f : Nat → Int32) : List Int32 → Prop
  | [] => True
  | y :: t => f t.length = y ∧ pR f t
theorem pR_upd {f : Nat → Int32} {k : Nat} {y : Int32} : ∀ {t : List Int32}, t.length ≤ k → pR f t → pR (upd f k y) t
  | [], _, _ => trivial
  | u :: t, h, hp => ⟨by rw [pk_un (by simp only [List.length_cons] at h; omega)]; exact hp.1, pR_upd (by simp only [List.length_cons] at h; omega) hp.2⟩
theorem pR_push {f : Nat → Int32} {t : List Int32} (y : Int32) (h : pR f t) : pR (upd f t.length y) (y :: t) := ⟨pk_us, pR_upd (Nat.le_refl _) h⟩
theorem kX7_worked : mKV RX7 yX7_worked cX7_worked 6 (some .int) 1 := ⟨tIns_X7_worked, tSel_X7_worked, tIni_X7, tCod_X7_worked, by decide +kernel⟩
set_option maxHeartbeats 4000000 in
set_option maxRecDepth 100000 in
theorem c_worked (l : Launch) (D : va_G) (cy : Nat → ClassId) (Z : (Nat → Prop) → State → Heap → Prop) (hzo : zOK Z) {h0 : Nat} {a q : Nat → Nat} {C : (Nat → Int32) → (Nat → Int32) → (Nat → Nat → Int32) → (Nat → Nat → Int32) → va_W} (hC : mLens (cy 0) h0 a q C) (v s : Nat → Int32) (r x : Nat → Nat → Int32) (t m : Nat) (ht : t < 14) (hm : s (69 + 200 * t + 2) = nI m) (hm98 : m ≤ 98) (hwf : ∀ k, k ≤ m → ∃ stk, wkR (x 27) s (69 + 200 * t) k = some stk ∧ stk.length ≤ 99) (hnm : ∀ k, k < m → ¬ s (69 + 200 * t + 4 + 2 * k) = nI 2 → ¬ s (69 + 200 * t + 4 + 2 * k) = 0 → vp_in (s (69 + 200 * t + 4 + 2 * k + 1)) 128) (y0 : Int32) (hy : wkR (x 27) s (69 + 200 * t) m = some [y0]) : GM l D cy Z yX7_worked (zW yX7_worked cX7_worked 6 (some .int)) { frames := 1, cells := 0, slots := 0, locals := 22 } [.ref (h0), .int (nI (t))] (C v s r x) (fun res w2 => res = some (.int y0) ∧ ∃ x2, xk x x2 ∧ w2 = C v s r x2) 0 0 := by
  refine g_entry (cc := cX7_worked) (maxL := 6) (by decide) rfl (Nat.le_of_ble_eq_true rfl) ?_
  intro κ hN hX hR
  have hX : GX κ cy Z cX7_worked (Cond.code yX7_worked cX7_worked 6 (some .int) :: zT) RX7 { frames := 1, cells := 0, slots := 0, locals := 22 } := hX
  show GW κ 0 0 _ 0 [(0, .ref (h0)), (1, .int (nI (t)))] []
  have L : ∀ (f i : Nat) (stk : List Int32) (x9 : Nat → Nat → Int32), i ≤ m → m + 1 ≤ i + f → wkR (x 27) s (69 + 200 * t) i = some stk → x9 27 = x 27 → xk x x9 → pR (x9 28) stk → GW κ 0 0 (C v s r x9) 4 [(3, .int (nI (i))), (2, .int (nI (stk.length))), (0, .ref (h0)), (1, .int (nI (t)))] [] := by
    intro f
    induction f with
    | zero => intro i stk x9 h1 h2; exact absurd h2 (by omega)
    | succ f ih =>
      intro i stk x9 h1 h2 hstk h27 hxk hp
      have hlen : stk.length ≤ 99 := by obtain ⟨s9, e9, l9⟩ := hwf i h1; rw [hstk] at e9; cases e9; exact l9
      refine g_iload_n hX 0 rfl rfl dX7_worked_4 ?_
      refine g_aload_n hX 2 rfl rfl dX7_worked_5 ?_
      refine m_getA hX hC 0 (by decide) rfl tFld_X7_7 dX7_worked_6 ?_
      refine g_aload_n hX 2 rfl rfl dX7_worked_9 ?_
      refine g_iload_n hX 3 rfl rfl dX7_worked_10 ?_
      refine m_callD hX hzo hC [.int (nI (t))] [.ref (a 0), .int (nI (i))] (c_textAt _ _ _ _ hzo hC v s r x9 (t)) kX7_textAt tMet_X7_283 rfl rfl (Nat.le_of_ble_eq_true rfl) (Nat.le_of_ble_eq_true rfl) ⟨Nat.le_of_ble_eq_true rfl, Nat.le_of_ble_eq_true rfl⟩ rfl rfl (Nat.le_of_ble_eq_true rfl) dX7_worked_11 ?_
      refine g_iconst hX (v := nI 2) rfl dX7_worked_14 ?_
      refine g_iaddN hX dX7_worked_15 ?_
      refine m0_aldN hX hC (by omega) dX7_worked_16 ?_
      refine g_top (y := .int (nI (m))) (congrArg Value.int hm) ?_
      refine g_icmpN_ge hX (by omega) (by omega) 163 (by decide) dX7_worked_17 (fun c17 => ?_) (fun c17 => ?_)
      · refine g_aload_n hX 2 rfl rfl dX7_worked_163 ?_
        refine m_getA hX hC 28 (by decide) rfl tFld_X7_58 dX7_worked_164 ?_
        refine g_iconst hX (v := nI 0) rfl dX7_worked_167 ?_
        refine mb_aldN hX hC 28 rfl (show _ < mN 28 from by simp only [mN]; omega) (by decide) dX7_worked_168 ?_
        exact g_retiP hR ⟨by rw [show i = m from by omega, hy] at hstk; cases hstk; rw [show x9 28 0 = y0 from hp.1], x9, hxk, rfl⟩ dX7_worked_169
      · refine g_aload_n hX 2 rfl rfl dX7_worked_20 ?_
        refine m_getA hX hC 0 (by decide) rfl tFld_X7_7 dX7_worked_21 ?_
        refine g_aload_n hX 2 rfl rfl dX7_worked_24 ?_
        refine g_iload_n hX 3 rfl rfl dX7_worked_25 ?_
        refine m_callD hX hzo hC [.int (nI (t))] [.ref (a 0)] (c_textAt _ _ _ _ hzo hC v s r x9 (t)) kX7_textAt tMet_X7_283 rfl rfl (Nat.le_of_ble_eq_true rfl) (Nat.le_of_ble_eq_true rfl) ⟨Nat.le_of_ble_eq_true rfl, Nat.le_of_ble_eq_true rfl⟩ rfl rfl (Nat.le_of_ble_eq_true rfl) dX7_worked_26 ?_
        refine g_iconst hX (v := nI 4) rfl dX7_worked_29 ?_
        refine g_iaddN hX dX7_worked_30 ?_
        refine g_iconst hX (v := nI 2) rfl dX7_worked_31 ?_
        refine g_iload_n hX 0 rfl rfl dX7_worked_32 ?_
        refine g_imulN hX dX7_worked_33 ?_
        refine g_iaddN hX dX7_worked_34 ?_
        refine m0_aldN hX hC (by omega) dX7_worked_35 ?_
        refine g_istore (lv2 := [(4, .int (s (((69 + 200 * (t) + 4) + (2 * i))))), (3, .int (nI (i))), (2, .int (nI (stk.length))), (0, .ref (h0)), (1, .int (nI (t)))]) hX 4 6 hN (by decide) rfl dX7_worked_36 ?_
        refine g_aload_n hX 3 rfl rfl dX7_worked_38 ?_
        refine m_getA hX hC 0 (by decide) rfl tFld_X7_7 dX7_worked_39 ?_
        refine g_aload_n hX 3 rfl rfl dX7_worked_42 ?_
        refine g_iload_n hX 4 rfl rfl dX7_worked_43 ?_
        refine m_callD hX hzo hC [.int (nI (t))] [.ref (a 0)] (c_textAt _ _ _ _ hzo hC v s r x9 (t)) kX7_textAt tMet_X7_283 rfl rfl (Nat.le_of_ble_eq_true rfl) (Nat.le_of_ble_eq_true rfl) ⟨Nat.le_of_ble_eq_true rfl, Nat.le_of_ble_eq_true rfl⟩ rfl rfl (Nat.le_of_ble_eq_true rfl) dX7_worked_44 ?_
        refine g_iconst hX (v := nI 4) rfl dX7_worked_47 ?_
        refine g_iaddN hX dX7_worked_48 ?_
        refine g_iconst hX (v := nI 2) rfl dX7_worked_49 ?_
        refine g_iload_n hX 1 rfl rfl dX7_worked_50 ?_
        refine g_imulN hX dX7_worked_51 ?_
        refine g_iaddN hX dX7_worked_52 ?_
        refine g_iconst hX (v := nI 1) rfl dX7_worked_53 ?_
        refine g_iaddN hX dX7_worked_54 ?_
        refine m0_aldN hX hC (by omega) dX7_worked_55 ?_
        refine g_istore (lv2 := [(5, .int (s ((((69 + 200 * (t) + 4) + (2 * i)) + 1)))), (4, .int (s (((69 + 200 * (t) + 4) + (2 * i))))), (3, .int (nI (i))), (2, .int (nI (stk.length))), (0, .ref (h0)), (1, .int (nI (t)))]) hX 5 6 hN (by decide) rfl dX7_worked_56 ?_
        refine g_iload hX 1 rfl dX7_worked_58 ?_
        refine g_iconst hX (v := nI 2) rfl dX7_worked_60 ?_
        refine g_icmp_eq hX 93 (by decide) dX7_worked_61 (fun c61 => ?_) (fun c61 => ?_)
        · obtain ⟨stk2, hs2, hl2⟩ := hwf (i + 1) (by omega)
          have hs2 : wk1 (x 27) (s (69 + 200 * t + 4 + 2 * i)) (s (69 + 200 * t + 4 + 2 * i + 1)) stk = some stk2 := by rw [wkR, hstk] at hs2; exact hs2
          refine g_iload hX 0 rfl dX7_worked_93 ?_
          refine g_bipush hX (v := nI 33) (by decide) dX7_worked_95 ?_
          refine g_icmp_ne hX 127 (by decide) dX7_worked_97 (fun c97 => ?_) (fun c97 => ?_)
          · obtain ⟨y, u, t2, rfl⟩ : ∃ y u t2, stk = y :: u :: t2 := by
              rcases stk with _ | ⟨y, _ | ⟨u, t2⟩⟩
              · rw [wk1_nil c61] at hs2; cases hs2
              · rw [wk1_one c61 c97] at hs2; cases hs2
              · exact ⟨y, u, t2, rfl⟩
            simp only [List.length_cons] at hlen
            show GW κ 0 0 _ 127 [(5, .int (s ((((69 + 200 * (t) + 4) + (2 * i)) + 1)))), (4, .int (s (((69 + 200 * (t) + 4) + (2 * i))))), (3, .int (nI (i))), (2, .int (nI (t2.length + 1 + 1))), (0, .ref (h0)), (1, .int (nI (t)))] []
            refine g_iinc (v := nI (t2.length + 1)) (lv2 := [(2, .int (nI (t2.length + 1))), (5, .int (s ((((69 + 200 * (t) + 4) + (2 * i)) + 1)))), (4, .int (s (((69 + 200 * (t) + 4) + (2 * i))))), (3, .int (nI (i))), (0, .ref (h0)), (1, .int (nI (t)))]) hX 3 2 6 hN rfl (iM1 _) (by decide) rfl dX7_worked_127 ?_
            refine g_aload_n hX 4 rfl rfl dX7_worked_130 ?_
            refine m_getA hX hC 28 (by decide) rfl tFld_X7_58 dX7_worked_131 ?_
            refine g_iload_n hX 0 rfl rfl dX7_worked_134 ?_
            refine g_iconst hX (v := nI 1) rfl dX7_worked_135 ?_
            refine g_isubN hX (by omega) dX7_worked_136 ?_
            refine g_iload hX 1 rfl dX7_worked_137 ?_
            refine g_aload_n hX 4 rfl rfl dX7_worked_139 ?_
            refine m_getA hX hC 28 (by decide) rfl tFld_X7_58 dX7_worked_140 ?_
            refine g_iload_n hX 0 rfl rfl dX7_worked_143 ?_
            refine g_iconst hX (v := nI 1) rfl dX7_worked_144 ?_
            refine g_isubN hX (by omega) dX7_worked_145 ?_
            refine mb_aldN hX hC 28 rfl (show _ < mN 28 from by simp only [mN]; omega) (by decide) dX7_worked_146 ?_
            refine g_aload_n hX 4 rfl rfl dX7_worked_147 ?_
            refine m_getA hX hC 28 (by decide) rfl tFld_X7_58 dX7_worked_148 ?_
            refine g_iload_n hX 0 rfl rfl dX7_worked_151 ?_
            refine mb_aldN hX hC 28 rfl (show _ < mN 28 from by simp only [mN]; omega) (by decide) dX7_worked_152 ?_
            refine s_call hX hzo [.int (s ((((69 + 200 * (t) + 4) + (2 * i)) + 1))), .int (x9 28 ((t2.length + 1 - 1))), .int (x9 28 (t2.length + 1))] [.int (nI ((t2.length + 1 - 1))), .ref (a 28)] (c_joined _ _ _ _ _ (s ((((69 + 200 * (t) + 4) + (2 * i)) + 1))) (x9 28 ((t2.length + 1 - 1))) (x9 28 (t2.length + 1))) kX7_joined tMet_X7_297 rfl rfl (Nat.le_of_ble_eq_true rfl) (Nat.le_of_ble_eq_true rfl) ⟨Nat.le_of_ble_eq_true rfl, Nat.le_of_ble_eq_true rfl⟩ rfl rfl (Nat.le_of_ble_eq_true rfl) dX7_worked_153 ?_
            refine mb_astN hX hC 28 rfl (show _ < mN 28 from by simp only [mN]; omega) (by decide) dX7_worked_156 ?_
            refine g_iincN (n := 1) (lv2 := [(3, .int (nI (i + 1))), (2, .int (nI (t2.length + 1))), (5, .int (s ((((69 + 200 * (t) + 4) + (2 * i)) + 1)))), (4, .int (s (((69 + 200 * (t) + 4) + (2 * i))))), (0, .ref (h0)), (1, .int (nI (t)))]) hX 3 3 6 hN rfl (by decide) rfl dX7_worked_157 ?_
            refine g_goto hX 4 (by decide) dX7_worked_160 ?_
            refine g_lv [0, 1, 4, 5] rfl ?_
            exact ih (i + 1) (joinI (s (69 + 200 * t + 4 + 2 * i + 1)) u y :: t2) (mU x9 28 (upd (x9 28) ((t2.length + 1 - 1)) ((joinI (s ((((69 + 200 * (t) + 4) + (2 * i)) + 1))) (x9 28 ((t2.length + 1 - 1))) (x9 28 (t2.length + 1)))))) (by omega) (by omega) (by rw [wkR, hstk]; show wk1 _ _ _ (y :: u :: t2) = _; rw [wk1_join c61 c97]) (by rw [mU_n _ _ (by decide)]; exact h27) (xk_28 _ hxk) (by rw [mU_s]; have e1 := hp.1; have e2 := hp.2.1; simp only [List.length_cons] at e1; rw [show t2.length + 1 - 1 = t2.length from rfl, e1, e2]; exact pR_push _ hp.2.2)
          · obtain ⟨y, u, rfl⟩ : ∃ y u, stk = y :: u := by
              cases stk with
              | nil => rw [wk1_nil c61] at hs2; cases hs2
              | cons y u => exact ⟨y, u, rfl⟩
            simp only [List.length_cons] at hlen
            show GW κ 0 0 _ 100 [(5, .int (s ((((69 + 200 * (t) + 4) + (2 * i)) + 1)))), (4, .int (s (((69 + 200 * (t) + 4) + (2 * i))))), (3, .int (nI (i))), (2, .int (nI (u.length + 1))), (0, .ref (h0)), (1, .int (nI (t)))] []
            refine g_aload_n hX 4 rfl rfl dX7_worked_100 ?_
            refine m_getA hX hC 28 (by decide) rfl tFld_X7_58 dX7_worked_101 ?_
            refine g_iload_n hX 3 rfl rfl dX7_worked_104 ?_
            refine g_iconst hX (v := nI 1) rfl dX7_worked_105 ?_
            refine g_isubN hX (by omega) dX7_worked_106 ?_
            refine g_aload_n hX 4 rfl rfl dX7_worked_107 ?_
            refine m_getA hX hC 28 (by decide) rfl tFld_X7_58 dX7_worked_108 ?_
            refine g_iload_n hX 3 rfl rfl dX7_worked_111 ?_
            refine g_iconst hX (v := nI 1) rfl dX7_worked_112 ?_
            refine g_isubN hX (by omega) dX7_worked_113 ?_
            refine mb_aldN hX hC 28 rfl (show _ < mN 28 from by simp only [mN]; omega) (by decide) dX7_worked_114 ?_
            refine g_if_ne hX 122 (by decide) dX7_worked_115 (fun c115 => ?_) (fun c115 => ?_)
            · refine g_iconst hX (v := nI 0) rfl dX7_worked_122 ?_
              refine mb_astN hX hC 28 rfl (show _ < mN 28 from by simp only [mN]; omega) (by decide) dX7_worked_123 ?_
              refine g_goto hX 157 (by decide) dX7_worked_124 ?_
              refine g_iincN (n := 1) (lv2 := [(3, .int (nI (i + 1))), (5, .int (s ((((69 + 200 * (t) + 4) + (2 * i)) + 1)))), (4, .int (s (((69 + 200 * (t) + 4) + (2 * i))))), (2, .int (nI (u.length + 1))), (0, .ref (h0)), (1, .int (nI (t)))]) hX 2 3 6 hN rfl (by decide) rfl dX7_worked_157 ?_
              refine g_goto hX 4 (by decide) dX7_worked_160 ?_
              refine g_lv [0, 3, 4, 5] rfl ?_
              exact ih (i + 1) (nI 0 :: u) (mU x9 28 (upd (x9 28) ((u.length + 1 - 1)) (nI (0)))) (by omega) (by omega) (by rw [wkR, hstk]; show wk1 _ _ _ (y :: u) = _; rw [wk1_not c61 c97]; rw [if_neg (by rw [← hp.1]; exact c115)]) (by rw [mU_n _ _ (by decide)]; exact h27) (xk_28 _ hxk) (by rw [mU_s]; exact pR_push _ hp.2)
            · refine g_iconst hX (v := nI 1) rfl dX7_worked_118 ?_
              refine g_goto hX 123 (by decide) dX7_worked_119 ?_
              refine mb_astN hX hC 28 rfl (show _ < mN 28 from by simp only [mN]; omega) (by decide) dX7_worked_123 ?_
              refine g_goto hX 157 (by decide) dX7_worked_124 ?_
              refine g_iincN (n := 1) (lv2 := [(3, .int (nI (i + 1))), (5, .int (s ((((69 + 200 * (t) + 4) + (2 * i)) + 1)))), (4, .int (s (((69 + 200 * (t) + 4) + (2 * i))))), (2, .int (nI (u.length + 1))), (0, .ref (h0)), (1, .int (nI (t)))]) hX 2 3 6 hN rfl (by decide) rfl dX7_worked_157 ?_
              refine g_goto hX 4 (by decide) dX7_worked_160 ?_
              refine g_lv [0, 3, 4, 5] rfl ?_
              exact ih (i + 1) (nI 1 :: u) (mU x9 28 (upd (x9 28) ((u.length + 1 - 1)) (nI (1)))) (by omega) (by omega) (by rw [wkR, hstk]; show wk1 _ _ _ (y :: u) = _; rw [wk1_not c61 c97]; rw [if_pos (by rw [← hp.1]; exact c115)]) (by rw [mU_n _ _ (by decide)]; exact h27) (xk_28 _ hxk) (by rw [mU_s]; exact pR_push _ hp.2)
        · refine g_aload_n hX 4 rfl rfl dX7_worked_64 ?_
          refine m_getA hX hC 28 (by decide) rfl tFld_X7_58 dX7_worked_65 ?_
          refine g_iload_n hX 3 rfl rfl dX7_worked_68 ?_
          refine g_iload hX 1 rfl dX7_worked_69 ?_
          refine g_if_ne hX 79 (by decide) dX7_worked_71 (fun c71 => ?_) (fun c71 => ?_)
          · refine g_aload_n hX 4 rfl rfl dX7_worked_79 ?_
            refine m_getA hX hC 27 (by decide) rfl tFld_X7_55 dX7_worked_80 ?_
            refine g_iload hX 0 rfl dX7_worked_83 ?_
            refine mb_ald hX hC 27 rfl (hnm i (by omega) c61 c71) dX7_worked_85 ?_
            refine mb_astN hX hC 28 rfl (show _ < mN 28 from by simp only [mN]; omega) (by decide) dX7_worked_86 ?_
            refine g_iincN (n := 1) (lv2 := [(2, .int (nI (stk.length + 1))), (5, .int (s ((((69 + 200 * (t) + 4) + (2 * i)) + 1)))), (4, .int (s (((69 + 200 * (t) + 4) + (2 * i))))), (3, .int (nI (i))), (0, .ref (h0)), (1, .int (nI (t)))]) hX 3 2 6 hN rfl (by decide) rfl dX7_worked_87 ?_
            refine g_goto hX 157 (by decide) dX7_worked_90 ?_
            refine g_iincN (n := 1) (lv2 := [(3, .int (nI (i + 1))), (2, .int (nI (stk.length + 1))), (5, .int (s ((((69 + 200 * (t) + 4) + (2 * i)) + 1)))), (4, .int (s (((69 + 200 * (t) + 4) + (2 * i))))), (0, .ref (h0)), (1, .int (nI (t)))]) hX 3 3 6 hN rfl (by decide) rfl dX7_worked_157 ?_
            refine g_goto hX 4 (by decide) dX7_worked_160 ?_
            refine g_lv [0, 1, 4, 5] rfl ?_
            exact ih (i + 1) ((x9 27 (s (69 + 200 * t + 4 + 2 * i + 1)).toNatClampNeg) :: stk) (mU x9 28 (upd (x9 28) (stk.length) (x9 27 (s ((((69 + 200 * (t) + 4) + (2 * i)) + 1))).toNatClampNeg))) (by omega) (by omega) (by rw [wkR, hstk]; show wk1 _ _ _ stk = _; rw [wk1_push c61]; rw [if_neg c71, h27]) (by rw [mU_n _ _ (by decide)]; exact h27) (xk_28 _ hxk) (by rw [mU_s]; exact pR_push _ hp)
          · refine g_iload hX 0 rfl dX7_worked_74 ?_
            refine g_goto hX 86 (by decide) dX7_worked_76 ?_
            refine mb_astN hX hC 28 rfl (show _ < mN 28 from by simp only [mN]; omega) (by decide) dX7_worked_86 ?_
            refine g_iincN (n := 1) (lv2 := [(2, .int (nI (stk.length + 1))), (5, .int (s ((((69 + 200 * (t) + 4) + (2 * i)) + 1)))), (4, .int (s (((69 + 200 * (t) + 4) + (2 * i))))), (3, .int (nI (i))), (0, .ref (h0)), (1, .int (nI (t)))]) hX 3 2 6 hN rfl (by decide) rfl dX7_worked_87 ?_
            refine g_goto hX 157 (by decide) dX7_worked_90 ?_
            refine g_iincN (n := 1) (lv2 := [(3, .int (nI (i + 1))), (2, .int (nI (stk.length + 1))), (5, .int (s ((((69 + 200 * (t) + 4) + (2 * i)) + 1)))), (4, .int (s (((69 + 200 * (t) + 4) + (2 * i))))), (0, .ref (h0)), (1, .int (nI (t)))]) hX 3 3 6 hN rfl (by decide) rfl dX7_worked_157 ?_
            refine g_goto hX 4 (by decide) dX7_worked_160 ?_
            refine g_lv [0, 1, 4, 5] rfl ?_
            exact ih (i + 1) ((s (69 + 200 * t + 4 + 2 * i + 1)) :: stk) (mU x9 28 (upd (x9 28) (stk.length) (s ((((69 + 200 * (t) + 4) + (2 * i)) + 1))))) (by omega) (by omega) (by rw [wkR, hstk]; show wk1 _ _ _ stk = _; rw [wk1_push c61]; rw [if_pos c71]) (by rw [mU_n _ _ (by decide)]; exact h27) (xk_28 _ hxk) (by rw [mU_s]; exact pR_push _ hp)
  refine g_iconst hX (v := nI 0) rfl dX7_worked_0 ?_
  refine g_istore_n (lv2 := [(2, .int (nI (0))), (0, .ref (h0)), (1, .int (nI (t)))]) hX 2 6 hN rfl (by decide) rfl dX7_worked_1 ?_
  refine g_iconst hX (v := nI 0) rfl dX7_worked_2 ?_
  refine g_istore_n (lv2 := [(3, .int (nI (0))), (2, .int (nI (0))), (0, .ref (h0)), (1, .int (nI (t)))]) hX 3 6 hN rfl (by decide) rfl dX7_worked_3 ?_
  exact L (m + 1) 0 [] x (by omega) (by omega) rfl rfl (xk_r x) trivial
end
section
/-- how high the pile is behind k steps -/
def wkH (s : Nat → Int32) (b : Nat) : Nat → Option Nat
  | 0 => some 0
  | k + 1 => (wkH s b k).bind (fun h => if s (b + 4 + 2 * k) = nI 2 then (if s (b + 4 + 2 * k + 1) = nI 33 then (if 1 ≤ h then some h else none) else (if 2 ≤ h then some (h - 1) else none)) else some (h + 1))
theorem wkH_R {s : Nat → Int32} {b : Nat} (nm : Nat → Int32) : ∀ (k h : Nat), wkH s b k = some h → ∃ stk, wkR nm s b k = some stk ∧ stk.length = h := by
  intro k
  induction k with
  | zero => intro h e; cases e; exact ⟨[], rfl, rfl⟩
  | succ k ih =>
    intro h e
    rw [wkH] at e
    cases e1 : wkH s b k with
    | none => rw [e1] at e; cases e
    | some h1 =>
      rw [e1] at e
      obtain ⟨stk, e2, e3⟩ := ih h1 e1
      have e : (if s (b + 4 + 2 * k) = nI 2 then (if s (b + 4 + 2 * k + 1) = nI 33 then (if 1 ≤ h1 then some h1 else none) else (if 2 ≤ h1 then some (h1 - 1) else none)) else some (h1 + 1)) = some h := e
      rw [wkR, e2]
      show ∃ stk', wk1 nm _ _ stk = some stk' ∧ _
      by_cases c1 : s (b + 4 + 2 * k) = nI 2
      · rw [if_pos c1] at e
        by_cases c2 : s (b + 4 + 2 * k + 1) = nI 33
        · rw [if_pos c2] at e
          by_cases c3 : 1 ≤ h1
          · rw [if_pos c3] at e
            cases e
            match stk, e3, c3 with
            | [], e3, c3 => exact absurd c3 (by rw [← e3]; decide)
            | y :: t, e3, _ => exact ⟨_, wk1_not c1 c2, e3⟩
          · rw [if_neg c3] at e; cases e
        · rw [if_neg c2] at e
          by_cases c3 : 2 ≤ h1
          · rw [if_pos c3] at e
            cases e
            match stk, e3, c3 with
            | [], e3, c3 => exact absurd c3 (by rw [← e3]; decide)
            | [y], e3, c3 => exact absurd c3 (by rw [← e3]; simp)
            | y :: u :: t, e3, _ => exact ⟨_, wk1_join c1 c2, by rw [← e3]; rfl⟩
          · rw [if_neg c3] at e; cases e
      · rw [if_neg c1] at e
        cases e
        exact ⟨_, wk1_push c1, by rw [← e3]; rfl⟩
/-- the names that a key's text may use -/
def nmOK (key : Int32) (j : Nat) : Prop := (key = nI 0 ∧ (j = 119 ∨ j = 108 ∨ j = 99)) ∨ (key = nI 1 ∧ (j = 114 ∨ j = 100)) ∨ (key = nI 2 ∧ (j = 99 ∨ j = 112))
theorem nmOK_lt {key : Int32} {j : Nat} (h : nmOK key j) : j < 128 := by rcases h with ⟨-, h⟩ | ⟨-, h⟩ | ⟨-, h⟩ <;> omega
/-- text t is in order -/
def textOK (s : Nat → Int32) (t : Nat) : Prop := ∃ m : Nat, s (69 + 200 * t + 2) = nI m ∧ m ≤ 98 ∧ (∀ k, k ≤ m → ∃ h, wkH s (69 + 200 * t) k = some h ∧ h ≤ 99) ∧ wkH s (69 + 200 * t) m = some 1 ∧ (∀ k, k < m → ¬ s (69 + 200 * t + 4 + 2 * k) = nI 2 → ¬ s (69 + 200 * t + 4 + 2 * k) = 0 → ∃ j : Nat, s (69 + 200 * t + 4 + 2 * k + 1) = nI j ∧ nmOK (s (69 + 200 * t)) j)
/-- what text t gives with these names -/
def wkV (nm s : Nat → Int32) (t : Nat) : Int32 := match wkR nm s (69 + 200 * t) (s (69 + 200 * t + 2)).toNatClampNeg with
  | some (y :: _) => y
  | _ => 0
theorem wkV_of {s : Nat → Int32} {t m : Nat} (nm : Nat → Int32) (hm : s (69 + 200 * t + 2) = nI m) (hm98 : m ≤ 98) (h1 : wkH s (69 + 200 * t) m = some 1) : wkR nm s (69 + 200 * t) m = some [wkV nm s t] := by
  obtain ⟨stk, e1, e2⟩ := wkH_R nm m 1 h1
  match stk, e1, e2 with
  | [y], e1, _ => rw [wkV, hm, nI_clamp (by omega), e1]
/-- only the names that it uses count -/
theorem wkR_cong {s : Nat → Int32} {b m : Nat} {nm nm2 : Nat → Int32} (h : ∀ k, k < m → ¬ s (b + 4 + 2 * k) = nI 2 → ¬ s (b + 4 + 2 * k) = 0 → nm (s (b + 4 + 2 * k + 1)).toNatClampNeg = nm2 (s (b + 4 + 2 * k + 1)).toNatClampNeg) : ∀ k, k ≤ m → wkR nm s b k = wkR nm2 s b k := by
  intro k
  induction k with
  | zero => intro _; rfl
  | succ k ih =>
    intro hk
    rw [wkR, wkR, ih (by omega)]
    cases wkR nm2 s b k with
    | none => rfl
    | some stk =>
      show wk1 nm _ _ stk = wk1 nm2 _ _ stk
      by_cases c1 : s (b + 4 + 2 * k) = nI 2
      · unfold wk1; rw [if_pos c1, if_pos c1]
      · rw [wk1_push c1, wk1_push c1]
        by_cases c2 : s (b + 4 + 2 * k) = 0
        · rw [if_pos c2, if_pos c2]
        · rw [if_neg c2, if_neg c2, h k (by omega) c1 c2]
theorem wkV_cong {s : Nat → Int32} {t : Nat} {nm nm2 : Nat → Int32} (hok : textOK s t) (h : ∀ j, nmOK (s (69 + 200 * t)) j → nm j = nm2 j) : wkV nm s t = wkV nm2 s t := by
  obtain ⟨m, hm, hm98, h1, h2, h3⟩ := hok
  have e : wkR nm s (69 + 200 * t) m = wkR nm2 s (69 + 200 * t) m := wkR_cong (fun k hk c1 c2 => by
    obtain ⟨j, e1, e2⟩ := h3 k hk c1 c2
    rw [e1, nI_clamp (Nat.lt_trans (nmOK_lt e2) (by decide))]
    exact h j e2) m (Nat.le_refl m)
  rw [wkV, wkV, hm, nI_clamp (by omega), e]
theorem lastO_some {s : Nat → Int32} {key : Int32} : ∀ {n j : Nat}, lastO s key n = some j → j < n ∧ s (69 + 200 * j) = key := by
  intro n
  induction n with
  | zero => intro j h; cases h
  | succ n ih =>
    intro j h
    rw [lastO] at h
    by_cases c : s (69 + 200 * n) = key
    · rw [if_pos c] at h; cases h; exact ⟨Nat.lt_succ_self n, c⟩
    · rw [if_neg c] at h; obtain ⟨a, b⟩ := ih h; exact ⟨Nat.lt_succ_of_lt a, b⟩
theorem c_workedT (l : Launch) (D : va_G) (cy : Nat → ClassId) (Z : (Nat → Prop) → State → Heap → Prop) (hzo : zOK Z) {h0 : Nat} {a q : Nat → Nat} {C : (Nat → Int32) → (Nat → Int32) → (Nat → Nat → Int32) → (Nat → Nat → Int32) → va_W} (hC : mLens (cy 0) h0 a q C) (v s : Nat → Int32) (r x : Nat → Nat → Int32) (t : Nat) (ht : t < 14) (hok : textOK s t) : GM l D cy Z yX7_worked (zW yX7_worked cX7_worked 6 (some .int)) { frames := 1, cells := 0, slots := 0, locals := 22 } [.ref h0, .int (nI t)] (C v s r x) (fun res w2 => res = some (.int (wkV (x 27) s t)) ∧ ∃ x2, xk x x2 ∧ w2 = C v s r x2) 0 0 := by
  obtain ⟨m, hm, hm98, h1, h2, h3⟩ := hok
  refine c_worked l D cy Z hzo hC v s r x t m ht hm hm98 (fun k hk => ?_) (fun k hk c1 c2 => ?_) _ (wkV_of (x 27) hm hm98 h2)
  · obtain ⟨h, e1, e2⟩ := h1 k hk
    obtain ⟨stk, e3, e4⟩ := wkH_R (x 27) k h e1
    exact ⟨stk, e3, by omega⟩
  · obtain ⟨j, e1, e2⟩ := h3 k hk c1 c2
    rw [e1]
    exact vp_in_nI (nmOK_lt e2) (by decide)
def pushK (kd z : Int32) : Int32 := if kd = nI 1 then z / nI 2 else if kd = nI 2 then z + nI 4 else if kd = nI 3 then (if z / nI 2 ≤ nI 5 then nI 0 else z / nI 2 - nI 5) else if kd = nI 4 then nI 2 * (z + nI 4) else if kd = nI 5 then nI 0 else z
/-- the names of a push text -/
def nmP (a1 a2 a3 : Int32) : Nat → Int32 := fun j => if j = 119 then a1 else if j = 108 then a2 else if j = 99 then a3 else 0
/-- what pushes, before the kind: weight a1, lean a2, crack a3 -/
def pfS (s : Nat → Int32) (nt : Nat) (a1 a2 a3 : Int32) : Int32 := match lastO s (nI 0) nt with
  | none => a1 * a2 / nI 10
  | some t => heldI (wkV (nmP a1 a2 a3) s t) (nI 0) (nI 999)
/-- what house k pushes -/
def puS (s : Nat → Int32) (nt k : Nat) : Int32 := pushK (s (6 + 7 * k + 0)) (pfS s nt (s (6 + 7 * k + 1)) (offI (s (6 + 7 * k + 2)) (nI 0)) (s (6 + 7 * k + 4)))
theorem kX7_pushes : mKV RX7 yX7_pushes cX7_pushes 5 (some .int) 1 := ⟨tIns_X7_pushes, tSel_X7_pushes, tIni_X7, tCod_X7_pushes, by decide +kernel⟩
set_option maxHeartbeats 4000000 in
set_option maxRecDepth 100000 in
theorem c_pushes (l : Launch) (D : va_G) (cy : Nat → ClassId) (Z : (Nat → Prop) → State → Heap → Prop) (hzo : zOK Z) {h0 : Nat} {a q : Nat → Nat} {C : (Nat → Int32) → (Nat → Int32) → (Nat → Nat → Int32) → (Nat → Nat → Int32) → va_W} (hC : mLens (cy 0) h0 a q C) (v s : Nat → Int32) (r x : Nat → Nat → Int32) (nt : Nat) (hnt : s 1 = nI nt) (hnt14 : nt ≤ 14) (htx : ∀ t, t < nt → textOK s t) (k : Nat) (hk : k < 9) : GM l D cy Z yX7_pushes (zW yX7_pushes cX7_pushes 5 (some .int)) { frames := 2, cells := 0, slots := 0, locals := 47 } [.ref (h0), .int (nI (k))] (C v s r x) (fun res w2 => res = some (.int (puS s nt k)) ∧ ∃ x2, xk x x2 ∧ w2 = C v s r x2) 0 0 := by
  refine g_entry (cc := cX7_pushes) (maxL := 5) (by decide) rfl (Nat.le_of_ble_eq_true rfl) ?_
  intro κ hN hX hR
  have hX : GX κ cy Z cX7_pushes (Cond.code yX7_pushes cX7_pushes 5 (some .int) :: zT) RX7 { frames := 2, cells := 0, slots := 0, locals := 47 } := hX
  show GW κ 0 0 _ 0 [(0, .ref (h0)), (1, .int (nI (k)))] []
  have J : ∀ (z : Int32) (x9 : Nat → Nat → Int32), xk x x9 → pfS s nt (s (6 + 7 * k + 1)) (offI (s (6 + 7 * k + 2)) (nI 0)) (s (6 + 7 * k + 4)) = z → GW κ 0 0 (C v s r x9) 83 [(3, .int (z)), (2, .int ((offI (s (6 + 7 * k + 2)) (nI 0)))), (0, .ref (h0)), (1, .int (nI (k)))] [] := by
    intro z x9 hxk hz
    refine g_aload_n hX 2 rfl rfl dX7_pushes_83 ?_
    refine g_iload_n hX 3 rfl rfl dX7_pushes_84 ?_
    refine g_iconst hX (v := nI 0) rfl dX7_pushes_85 ?_
    refine m_callD hX hzo hC [.int (nI (k)), .int (nI (0))] [] (c_of _ _ _ _ hzo hC v s r x9 (k) (0) (by omega)) kX7_of tMet_X7_75 rfl rfl (Nat.le_of_ble_eq_true rfl) (Nat.le_of_ble_eq_true rfl) ⟨Nat.le_of_ble_eq_true rfl, Nat.le_of_ble_eq_true rfl⟩ rfl rfl (Nat.le_of_ble_eq_true rfl) dX7_pushes_86 ?_
    rcases sw_in (s (6 + 7 * (k) + (0))) 1 5 (by decide) with w89 | ⟨j89, w89a, w89b, w89⟩
    · refine g_tableOut hX 157 w89 (by decide) dX7_pushes_89 ?_
      refine g_iload_n hX 0 rfl rfl dX7_pushes_157 ?_
      exact g_retiP hR ⟨congrArg (fun q => some (Value.int q)) (show z = puS s nt k by rw [puS, hz, pushK]; rw [if_neg (sw_out w89 1 (by decide) (by decide) (by decide)), if_neg (sw_out w89 2 (by decide) (by decide) (by decide)), if_neg (sw_out w89 3 (by decide) (by decide) (by decide)), if_neg (sw_out w89 4 (by decide) (by decide) (by decide)), if_neg (sw_out w89 5 (by decide) (by decide) (by decide))]), x9, hxk, rfl⟩ dX7_pushes_158
    · have hj : j89 = 1 ∨ j89 = 2 ∨ j89 = 3 ∨ j89 = 4 ∨ j89 = 5 := by omega
      rcases hj with rfl | rfl | rfl | rfl | rfl
      · refine g_top (y := .int (nI 1)) (congrArg Value.int w89) ?_
        refine g_tableIn hX 124 (by decide) (by decide) rfl (by decide) dX7_pushes_89 ?_
        refine g_iload_n hX 0 rfl rfl dX7_pushes_124 ?_
        refine g_iconst hX (v := nI 2) rfl dX7_pushes_125 ?_
        refine g_idiv hX (by decide) dX7_pushes_126 ?_
        exact g_retiP hR ⟨congrArg (fun q => some (Value.int q)) (show (z / nI (2)) = puS s nt k by rw [puS, hz, pushK]; rw [w89]; rfl), x9, hxk, rfl⟩ dX7_pushes_127
      · refine g_top (y := .int (nI 2)) (congrArg Value.int w89) ?_
        refine g_tableIn hX 128 (by decide) (by decide) rfl (by decide) dX7_pushes_89 ?_
        refine g_iload_n hX 0 rfl rfl dX7_pushes_128 ?_
        refine g_iconst hX (v := nI 4) rfl dX7_pushes_129 ?_
        refine g_iadd hX dX7_pushes_130 ?_
        exact g_retiP hR ⟨congrArg (fun q => some (Value.int q)) (show (z + nI (4)) = puS s nt k by rw [puS, hz, pushK]; rw [w89]; rfl), x9, hxk, rfl⟩ dX7_pushes_131
      · refine g_top (y := .int (nI 3)) (congrArg Value.int w89) ?_
        refine g_tableIn hX 132 (by decide) (by decide) rfl (by decide) dX7_pushes_89 ?_
        refine g_iload_n hX 0 rfl rfl dX7_pushes_132 ?_
        refine g_iconst hX (v := nI 2) rfl dX7_pushes_133 ?_
        refine g_idiv hX (by decide) dX7_pushes_134 ?_
        refine g_iconst hX (v := nI 5) rfl dX7_pushes_135 ?_
        refine g_icmp_le hX 147 (by decide) dX7_pushes_136 (fun c136 => ?_) (fun c136 => ?_)
        · refine g_iconst hX (v := nI 0) rfl dX7_pushes_147 ?_
          exact g_retiP hR ⟨congrArg (fun q => some (Value.int q)) (show nI (0) = puS s nt k by rw [puS, hz, pushK]; rw [w89]; show _ = (if z / nI 2 ≤ nI 5 then nI 0 else z / nI 2 - nI 5); rw [if_pos c136]), x9, hxk, rfl⟩ dX7_pushes_148
        · refine g_iload_n hX 0 rfl rfl dX7_pushes_139 ?_
          refine g_iconst hX (v := nI 2) rfl dX7_pushes_140 ?_
          refine g_idiv hX (by decide) dX7_pushes_141 ?_
          refine g_iconst hX (v := nI 5) rfl dX7_pushes_142 ?_
          refine g_isub hX dX7_pushes_143 ?_
          refine g_goto hX 148 (by decide) dX7_pushes_144 ?_
          exact g_retiP hR ⟨congrArg (fun q => some (Value.int q)) (show ((z / nI (2)) - nI (5)) = puS s nt k by rw [puS, hz, pushK]; rw [w89]; show _ = (if z / nI 2 ≤ nI 5 then nI 0 else z / nI 2 - nI 5); rw [if_neg c136]), x9, hxk, rfl⟩ dX7_pushes_148
      · refine g_top (y := .int (nI 4)) (congrArg Value.int w89) ?_
        refine g_tableIn hX 149 (by decide) (by decide) rfl (by decide) dX7_pushes_89 ?_
        refine g_iconst hX (v := nI 2) rfl dX7_pushes_149 ?_
        refine g_iload_n hX 0 rfl rfl dX7_pushes_150 ?_
        refine g_iconst hX (v := nI 4) rfl dX7_pushes_151 ?_
        refine g_iadd hX dX7_pushes_152 ?_
        refine g_imul hX dX7_pushes_153 ?_
        exact g_retiP hR ⟨congrArg (fun q => some (Value.int q)) (show (nI (2) * (z + nI (4))) = puS s nt k by rw [puS, hz, pushK]; rw [w89]; rfl), x9, hxk, rfl⟩ dX7_pushes_154
      · refine g_top (y := .int (nI 5)) (congrArg Value.int w89) ?_
        refine g_tableIn hX 155 (by decide) (by decide) rfl (by decide) dX7_pushes_89 ?_
        refine g_iconst hX (v := nI 0) rfl dX7_pushes_155 ?_
        exact g_retiP hR ⟨congrArg (fun q => some (Value.int q)) (show nI (0) = puS s nt k by rw [puS, hz, pushK]; rw [w89]; rfl), x9, hxk, rfl⟩ dX7_pushes_156
  refine g_aload_n hX 0 rfl rfl dX7_pushes_0 ?_
  refine g_iload_n hX 1 rfl rfl dX7_pushes_1 ?_
  refine g_iconst hX (v := nI 2) rfl dX7_pushes_2 ?_
  refine m_callD hX hzo hC [.int (nI (k)), .int (nI (2))] [] (c_of _ _ _ _ hzo hC v s r x (k) (2) (by omega)) kX7_of tMet_X7_75 rfl rfl (Nat.le_of_ble_eq_true rfl) (Nat.le_of_ble_eq_true rfl) ⟨Nat.le_of_ble_eq_true rfl, Nat.le_of_ble_eq_true rfl⟩ rfl rfl (Nat.le_of_ble_eq_true rfl) dX7_pushes_3 ?_
  refine g_iconst hX (v := nI 0) rfl dX7_pushes_6 ?_
  refine s_call hX hzo [.int (s (6 + 7 * (k) + (2))), .int (nI (0))] [] (c_off _ _ _ _ _ (s (6 + 7 * (k) + (2))) (nI (0))) kX7_off tMet_X7_106 rfl rfl (Nat.le_of_ble_eq_true rfl) (Nat.le_of_ble_eq_true rfl) ⟨Nat.le_of_ble_eq_true rfl, Nat.le_of_ble_eq_true rfl⟩ rfl rfl (Nat.le_of_ble_eq_true rfl) dX7_pushes_7 ?_
  refine g_istore_n (lv2 := [(2, .int ((offI (s (6 + 7 * (k) + (2))) (nI (0))))), (0, .ref (h0)), (1, .int (nI (k)))]) hX 2 5 hN rfl (by decide) rfl dX7_pushes_10 ?_
  refine g_aload_n hX 1 rfl rfl dX7_pushes_11 ?_
  refine g_iload_n hX 2 rfl rfl dX7_pushes_12 ?_
  refine g_iconst hX (v := nI 1) rfl dX7_pushes_13 ?_
  refine m_callD hX hzo hC [.int (nI (k)), .int (nI (1))] [] (c_of _ _ _ _ hzo hC v s r x (k) (1) (by omega)) kX7_of tMet_X7_75 rfl rfl (Nat.le_of_ble_eq_true rfl) (Nat.le_of_ble_eq_true rfl) ⟨Nat.le_of_ble_eq_true rfl, Nat.le_of_ble_eq_true rfl⟩ rfl rfl (Nat.le_of_ble_eq_true rfl) dX7_pushes_14 ?_
  refine g_iload_n hX 0 rfl rfl dX7_pushes_17 ?_
  refine g_imul hX dX7_pushes_18 ?_
  refine g_bipush hX (v := nI 10) (by decide) dX7_pushes_19 ?_
  refine g_idiv hX (by decide) dX7_pushes_21 ?_
  refine g_istore_n (lv2 := [(3, .int (((s (6 + 7 * (k) + (1)) * (offI (s (6 + 7 * (k) + (2))) (nI (0)))) / nI (10)))), (2, .int ((offI (s (6 + 7 * (k) + (2))) (nI (0))))), (0, .ref (h0)), (1, .int (nI (k)))]) hX 3 5 hN rfl (by decide) rfl dX7_pushes_22 ?_
  refine g_aload_n hX 2 rfl rfl dX7_pushes_23 ?_
  refine g_iconst hX (v := nI 0) rfl dX7_pushes_24 ?_
  refine m_callD hX hzo hC [.int (nI (0))] [] (c_counts _ _ _ _ hzo hC v s r x nt hnt hnt14 (nI (0))) kX7_counts tMet_X7_109 rfl rfl (Nat.le_of_ble_eq_true rfl) (Nat.le_of_ble_eq_true rfl) ⟨Nat.le_of_ble_eq_true rfl, Nat.le_of_ble_eq_true rfl⟩ rfl rfl (Nat.le_of_ble_eq_true rfl) dX7_pushes_25 ?_
  rcases hO : lastO s (nI 0) nt with _ | j9
  · refine g_top (y := .int (-1)) rfl ?_
    refine g_istore (lv2 := [(4, .int ((-1))), (3, .int (((s (6 + 7 * (k) + (1)) * (offI (s (6 + 7 * (k) + (2))) (nI (0)))) / nI (10)))), (2, .int ((offI (s (6 + 7 * (k) + (2))) (nI (0))))), (0, .ref (h0)), (1, .int (nI (k)))]) hX 4 5 hN (by decide) rfl dX7_pushes_28 ?_
    refine g_iload hX 0 rfl dX7_pushes_30 ?_
    refine g_if_lt hX 83 (by decide) dX7_pushes_32 (fun c32 => ?_) (fun c32 => absurd c32 (fun h => h (by decide)))
    refine g_lv [1, 2, 3, 4] rfl ?_
    exact J (((s (6 + 7 * (k) + (1)) * (offI (s (6 + 7 * (k) + (2))) (nI (0)))) / nI (10))) x (xk_r x) (by rw [pfS, hO])
  · have hj := lastO_some hO
    have hok := htx j9 hj.1
    refine g_top (y := .int (nI j9)) rfl ?_
    refine g_istore (lv2 := [(4, .int (nI (j9))), (3, .int (((s (6 + 7 * (k) + (1)) * (offI (s (6 + 7 * (k) + (2))) (nI (0)))) / nI (10)))), (2, .int ((offI (s (6 + 7 * (k) + (2))) (nI (0))))), (0, .ref (h0)), (1, .int (nI (k)))]) hX 4 5 hN (by decide) rfl dX7_pushes_28 ?_
    refine g_iload hX 0 rfl dX7_pushes_30 ?_
    refine g_ifN_lt hX (by omega) 83 (by decide) dX7_pushes_32 ?_
    refine g_aload_n hX 3 rfl rfl dX7_pushes_35 ?_
    refine m_getA hX hC 27 (by decide) rfl tFld_X7_55 dX7_pushes_36 ?_
    refine g_bipush hX (v := nI 119) (by decide) dX7_pushes_39 ?_
    refine g_aload_n hX 3 rfl rfl dX7_pushes_41 ?_
    refine g_iload_n hX 4 rfl rfl dX7_pushes_42 ?_
    refine g_iconst hX (v := nI 1) rfl dX7_pushes_43 ?_
    refine m_callD hX hzo hC [.int (nI (k)), .int (nI (1))] [.int (nI (119)), .ref (a 27)] (c_of _ _ _ _ hzo hC v s r x (k) (1) (by omega)) kX7_of tMet_X7_75 rfl rfl (Nat.le_of_ble_eq_true rfl) (Nat.le_of_ble_eq_true rfl) ⟨Nat.le_of_ble_eq_true rfl, Nat.le_of_ble_eq_true rfl⟩ rfl rfl (Nat.le_of_ble_eq_true rfl) dX7_pushes_44 ?_
    refine mb_astN hX hC 27 rfl (show _ < mN 27 from by simp only [mN]; omega) (by decide) dX7_pushes_47 ?_
    refine g_aload_n hX 3 rfl rfl dX7_pushes_48 ?_
    refine m_getA hX hC 27 (by decide) rfl tFld_X7_55 dX7_pushes_49 ?_
    refine g_bipush hX (v := nI 108) (by decide) dX7_pushes_52 ?_
    refine g_iload_n hX 2 rfl rfl dX7_pushes_54 ?_
    refine mb_astN hX hC 27 rfl (show _ < mN 27 from by simp only [mN]; omega) (by decide) dX7_pushes_55 ?_
    refine g_aload_n hX 3 rfl rfl dX7_pushes_56 ?_
    refine m_getA hX hC 27 (by decide) rfl tFld_X7_55 dX7_pushes_57 ?_
    refine g_bipush hX (v := nI 99) (by decide) dX7_pushes_60 ?_
    refine g_aload_n hX 3 rfl rfl dX7_pushes_62 ?_
    refine g_iload_n hX 4 rfl rfl dX7_pushes_63 ?_
    refine g_iconst hX (v := nI 4) rfl dX7_pushes_64 ?_
    refine m_callD hX hzo hC [.int (nI (k)), .int (nI (4))] [.int (nI (99)), .ref (a 27)] (c_of _ _ _ _ hzo hC v s r (mU (mU x 27 (upd (x 27) (119) (s (6 + 7 * (k) + (1))))) 27 (upd ((mU x 27 (upd (x 27) (119) (s (6 + 7 * (k) + (1))))) 27) (108) ((offI (s (6 + 7 * (k) + (2))) (nI (0)))))) (k) (4) (by omega)) kX7_of tMet_X7_75 rfl rfl (Nat.le_of_ble_eq_true rfl) (Nat.le_of_ble_eq_true rfl) ⟨Nat.le_of_ble_eq_true rfl, Nat.le_of_ble_eq_true rfl⟩ rfl rfl (Nat.le_of_ble_eq_true rfl) dX7_pushes_65 ?_
    refine mb_astN hX hC 27 rfl (show _ < mN 27 from by simp only [mN]; omega) (by decide) dX7_pushes_68 ?_
    refine g_aload_n hX 3 rfl rfl dX7_pushes_69 ?_
    refine g_iload hX 0 rfl dX7_pushes_70 ?_
    refine m_call hX hzo hC [.int (nI (j9))] [] (c_workedT _ _ _ _ hzo hC v s r (mU (mU (mU x 27 (upd (x 27) (119) (s (6 + 7 * (k) + (1))))) 27 (upd ((mU x 27 (upd (x 27) (119) (s (6 + 7 * (k) + (1))))) 27) (108) ((offI (s (6 + 7 * (k) + (2))) (nI (0)))))) 27 (upd ((mU (mU x 27 (upd (x 27) (119) (s (6 + 7 * (k) + (1))))) 27 (upd ((mU x 27 (upd (x 27) (119) (s (6 + 7 * (k) + (1))))) 27) (108) ((offI (s (6 + 7 * (k) + (2))) (nI (0)))))) 27) (99) (s (6 + 7 * (k) + (4))))) (j9) (by omega) hok) kX7_worked tMet_X7_113 rfl rfl (Nat.le_of_ble_eq_true rfl) (Nat.le_of_ble_eq_true rfl) ⟨Nat.le_of_ble_eq_true rfl, Nat.le_of_ble_eq_true rfl⟩ rfl (Nat.le_of_ble_eq_true rfl) dX7_pushes_72 ?_
    rintro _ _ ⟨rfl, x72, k72, rfl⟩
    show GW κ 0 0 _ 75 [(4, .int (nI (j9))), (3, .int (((s (6 + 7 * (k) + (1)) * (offI (s (6 + 7 * (k) + (2))) (nI (0)))) / nI (10)))), (2, .int ((offI (s (6 + 7 * (k) + (2))) (nI (0))))), (0, .ref (h0)), (1, .int (nI (k)))] [.int ((wkV ((mU (mU (mU x 27 (upd (x 27) (119) (s (6 + 7 * (k) + (1))))) 27 (upd ((mU x 27 (upd (x 27) (119) (s (6 + 7 * (k) + (1))))) 27) (108) ((offI (s (6 + 7 * (k) + (2))) (nI (0)))))) 27 (upd ((mU (mU x 27 (upd (x 27) (119) (s (6 + 7 * (k) + (1))))) 27 (upd ((mU x 27 (upd (x 27) (119) (s (6 + 7 * (k) + (1))))) 27) (108) ((offI (s (6 + 7 * (k) + (2))) (nI (0)))))) 27) (99) (s (6 + 7 * (k) + (4))))) 27) (s) (j9)))]
    refine g_iconst hX (v := nI 0) rfl dX7_pushes_75 ?_
    refine g_sipush hX (v := nI 999) (by decide) dX7_pushes_76 ?_
    refine s_call hX hzo [.int ((wkV ((mU (mU (mU x 27 (upd (x 27) (119) (s (6 + 7 * (k) + (1))))) 27 (upd ((mU x 27 (upd (x 27) (119) (s (6 + 7 * (k) + (1))))) 27) (108) ((offI (s (6 + 7 * (k) + (2))) (nI (0)))))) 27 (upd ((mU (mU x 27 (upd (x 27) (119) (s (6 + 7 * (k) + (1))))) 27 (upd ((mU x 27 (upd (x 27) (119) (s (6 + 7 * (k) + (1))))) 27) (108) ((offI (s (6 + 7 * (k) + (2))) (nI (0)))))) 27) (99) (s (6 + 7 * (k) + (4))))) 27) (s) (j9))), .int (nI (0)), .int (nI (999))] [] (c_held _ _ _ _ _ ((wkV ((mU (mU (mU x 27 (upd (x 27) (119) (s (6 + 7 * (k) + (1))))) 27 (upd ((mU x 27 (upd (x 27) (119) (s (6 + 7 * (k) + (1))))) 27) (108) ((offI (s (6 + 7 * (k) + (2))) (nI (0)))))) 27 (upd ((mU (mU x 27 (upd (x 27) (119) (s (6 + 7 * (k) + (1))))) 27 (upd ((mU x 27 (upd (x 27) (119) (s (6 + 7 * (k) + (1))))) 27) (108) ((offI (s (6 + 7 * (k) + (2))) (nI (0)))))) 27) (99) (s (6 + 7 * (k) + (4))))) 27) (s) (j9))) (nI (0)) (nI (999))) kX7_held tMet_X7_116 rfl rfl (Nat.le_of_ble_eq_true rfl) (Nat.le_of_ble_eq_true rfl) ⟨Nat.le_of_ble_eq_true rfl, Nat.le_of_ble_eq_true rfl⟩ rfl rfl (Nat.le_of_ble_eq_true rfl) dX7_pushes_79 ?_
    refine g_istore_n (lv2 := [(3, .int ((heldI ((wkV ((mU (mU (mU x 27 (upd (x 27) (119) (s (6 + 7 * (k) + (1))))) 27 (upd ((mU x 27 (upd (x 27) (119) (s (6 + 7 * (k) + (1))))) 27) (108) ((offI (s (6 + 7 * (k) + (2))) (nI (0)))))) 27 (upd ((mU (mU x 27 (upd (x 27) (119) (s (6 + 7 * (k) + (1))))) 27 (upd ((mU x 27 (upd (x 27) (119) (s (6 + 7 * (k) + (1))))) 27) (108) ((offI (s (6 + 7 * (k) + (2))) (nI (0)))))) 27) (99) (s (6 + 7 * (k) + (4))))) 27) (s) (j9))) (nI (0)) (nI (999))))), (4, .int (nI (j9))), (2, .int ((offI (s (6 + 7 * (k) + (2))) (nI (0))))), (0, .ref (h0)), (1, .int (nI (k)))]) hX 3 5 hN rfl (by decide) rfl dX7_pushes_82 ?_
    refine g_lv [0, 2, 3, 4] rfl ?_
    exact J ((heldI ((wkV ((mU (mU (mU x 27 (upd (x 27) (119) (s (6 + 7 * (k) + (1))))) 27 (upd ((mU x 27 (upd (x 27) (119) (s (6 + 7 * (k) + (1))))) 27) (108) ((offI (s (6 + 7 * (k) + (2))) (nI (0)))))) 27 (upd ((mU (mU x 27 (upd (x 27) (119) (s (6 + 7 * (k) + (1))))) 27 (upd ((mU x 27 (upd (x 27) (119) (s (6 + 7 * (k) + (1))))) 27) (108) ((offI (s (6 + 7 * (k) + (2))) (nI (0)))))) 27) (99) (s (6 + 7 * (k) + (4))))) 27) (s) (j9))) (nI (0)) (nI (999)))) x72 (xk_t (xk_27 _ (xk_27 _ (xk_27 _ (xk_r x)))) k72) (by
      have e : ∀ nm0 : Nat → Int32, wkV (upd (upd (upd nm0 119 (s (6 + 7 * k + 1))) 108 (offI (s (6 + 7 * k + 2)) (nI 0))) 99 (s (6 + 7 * k + 4))) s j9 = wkV (nmP (s (6 + 7 * k + 1)) (offI (s (6 + 7 * k + 2)) (nI 0)) (s (6 + 7 * k + 4))) s j9 := fun nm0 => wkV_cong hok (fun j hj2 => by
        rw [hj.2] at hj2
        rcases hj2 with ⟨-, rfl | rfl | rfl⟩ | ⟨h, -⟩ | ⟨h, -⟩
        · rfl
        · rfl
        · rfl
        · exact absurd h (by decide)
        · exact absurd h (by decide))
      rw [pfS, hO]
      show heldI (wkV (nmP (s (6 + 7 * k + 1)) (offI (s (6 + 7 * k + 2)) (nI 0)) (s (6 + 7 * k + 4))) s j9) (nI 0) (nI 999) = _
      rw [← e (x 27)]
      simp only [mU_s, mU_mU])
end
section
/-- a set of numbers under n, as bits -/
def maskN (p : Nat → Bool) : Nat → Nat
  | 0 => 0
  | k + 1 => maskN p k ||| (if p k then 2 ^ k else 0)
theorem nI_or (a b : Nat) : nI a ||| nI b = nI (a ||| b) := by
  apply Int32.toBitVec_inj.mp
  apply BitVec.eq_of_toNat_eq
  simp [nI, Int32.toBitVec_ofNat, BitVec.toNat_ofNat, Nat.or_mod_two_pow]
theorem sh_amt : ∀ k, k < 32 → ((nI k &&& 31).toBitVec.smod 32).toNat = k := by decide +kernel
theorem maskN_lt (p : Nat → Bool) : ∀ n, maskN p n < 2 ^ n := by
  intro n
  induction n with
  | zero => exact Nat.zero_lt_one
  | succ n ih =>
    rw [maskN]
    refine Nat.or_lt_two_pow (Nat.lt_trans ih (Nat.pow_lt_pow_right (by decide) (Nat.lt_succ_self n))) ?_
    split
    · exact Nat.pow_lt_pow_right (by decide) (Nat.lt_succ_self n)
    · exact Nat.two_pow_pos _
theorem mask_nI (p : Nat → Bool) : ∀ n, n ≤ 31 → maskI p n = nI (maskN p n) := by
  intro n
  induction n with
  | zero => intro _; rfl
  | succ n ih =>
    intro h
    rw [maskI, maskN, ih (by omega), ← nI_or]
    congr 1
    split
    · have h1 : 1 * 2 ^ n < 2 ^ 32 := by rw [Nat.one_mul]; exact Nat.pow_lt_pow_right (by decide) (by omega)
      rw [pk_shlN (n := 1) (nI n &&& 31) n (sh_amt n (by omega)) h1, Nat.one_mul]
    · rfl
theorem maskN_bit (p : Nat → Bool) (o : Nat) : ∀ n, (maskN p n).testBit o = (decide (o < n) && p o) := by
  intro n
  induction n with
  | zero => simp [maskN]
  | succ n ih =>
    rw [maskN, Nat.testBit_or, ih]
    by_cases h : o = n
    · subst h
      cases hp : p o <;> simp [hp, Nat.testBit_two_pow_self]
    · have h2 : (if p n = true then 2 ^ n else 0).testBit o = false := by
        split
        · rw [Nat.testBit_two_pow]; simp; omega
        · simp
      rw [h2, Bool.or_false]
      congr 1
      by_cases h3 : o < n
      · simp [h3]; omega
      · simp [h3]; omega
theorem mask_bit (p : Nat → Bool) {n o : Nat} (hn : n ≤ 9) (ho : o < n) : ((maskI p n >>> (nI o &&& 31)) &&& nI 1) = bI (p o) := by
  have hlt : maskN p n < 512 := Nat.lt_of_lt_of_le (maskN_lt p n) (Nat.pow_le_pow_right (by decide) hn)
  rw [mask_nI p n (by omega), pk_shrN (by omega) _ o (sh_amt o (by omega)), nI_and, Nat.and_one_is_mod]
  have hb := maskN_bit p o n
  rw [Nat.testBit_eq_decide_div_mod_eq] at hb
  simp only [ho, decide_true, Bool.true_and] at hb
  cases hp : p o with
  | true =>
    rw [hp] at hb
    rw [of_decide_eq_true hb]; rfl
  | false =>
    rw [hp] at hb
    have := of_decide_eq_false hb
    rw [show maskN p n / 2 ^ o % 2 = 0 from by omega]; rfl
theorem nxL_lt {p : Nat → Bool} : ∀ {k a : Nat}, nxL p k = some a → a < k ∧ p a = true := by
  intro k
  induction k with
  | zero => intro a h; cases h
  | succ k ih =>
    intro a h
    rw [nxL] at h
    by_cases c : p k = true
    · rw [if_pos c] at h; cases h; exact ⟨Nat.lt_succ_self _, c⟩
    · rw [if_neg c] at h; obtain ⟨h1, h2⟩ := ih h; exact ⟨Nat.lt_succ_of_lt h1, h2⟩
theorem nxR_lt {p : Nat → Bool} : ∀ {f o b : Nat}, nxR p f o = some b → o ≤ b ∧ b < o + f ∧ p b = true := by
  intro f
  induction f with
  | zero => intro o b h; cases h
  | succ f ih =>
    intro o b h
    rw [nxR] at h
    by_cases c : p o = true
    · rw [if_pos c] at h; cases h; exact ⟨Nat.le_refl _, by omega, c⟩
    · rw [if_neg c] at h; obtain ⟨h1, h2, h3⟩ := ih h; exact ⟨by omega, by omega, h3⟩
/-- what comes from the left, from the right; the whole thrust on house k -/
def lfS (s : Nat → Int32) (nt k : Nat) : Int32 := match nxL (sd s) k with
  | none => nI 0
  | some a => if s (6 + 7 * a + 2) ≤ 0 then nI 0 else puS s nt a
def rgS (s : Nat → Int32) (nt n k : Nat) : Int32 := match nxR (sd s) (n - (k + 1)) (k + 1) with
  | none => nI 0
  | some b => if 0 ≤ s (6 + 7 * b + 2) then nI 0 else puS s nt b
def thS (s : Nat → Int32) (nt n k : Nat) : Int32 := if sd s k then s 4 + lfS s nt k - rgS s nt n k else nI 0
theorem kX7_thrust : mKV RX7 yX7_thrust cX7_thrust 6 (some .int) 1 := ⟨tIns_X7_thrust, tSel_X7_thrust, tIni_X7, tCod_X7_thrust, by decide +kernel⟩
set_option maxHeartbeats 4000000 in
set_option maxRecDepth 100000 in
theorem c_thrust (l : Launch) (D : va_G) (cy : Nat → ClassId) (Z : (Nat → Prop) → State → Heap → Prop) (hzo : zOK Z) {h0 : Nat} {a q : Nat → Nat} {C : (Nat → Int32) → (Nat → Int32) → (Nat → Nat → Int32) → (Nat → Nat → Int32) → va_W} (hC : mLens (cy 0) h0 a q C) (v s : Nat → Int32) (r x : Nat → Nat → Int32) (nt : Nat) (hnt : s 1 = nI nt) (hnt14 : nt ≤ 14) (htx : ∀ t, t < nt → textOK s t) (n : Nat) (hn : s 0 = nI n) (hn9 : n ≤ 9) (k : Nat) (hk : k < n) : GM l D cy Z yX7_thrust (zW yX7_thrust cX7_thrust 6 (some .int)) { frames := 3, cells := 0, slots := 0, locals := 71 } [.ref (h0), .int (nI (k))] (C v s r x) (fun res w2 => res = some (.int (thS s nt n k)) ∧ ∃ x2, xk x x2 ∧ w2 = C v s r x2) 0 0 := by
  refine g_entry (cc := cX7_thrust) (maxL := 6) (by decide) rfl (Nat.le_of_ble_eq_true rfl) ?_
  intro κ hN hX hR
  have hX : GX κ cy Z cX7_thrust (Cond.code yX7_thrust cX7_thrust 6 (some .int) :: zT) RX7 { frames := 3, cells := 0, slots := 0, locals := 71 } := hX
  show GW κ 0 0 _ 0 [(0, .ref (h0)), (1, .int (nI (k)))] []
  have J94 : ∀ (z5 z6 : Int32) (x9 : Nat → Nat → Int32), xk x x9 → sd s k = true → s 4 + lfS s nt k = z5 → rgS s nt n k = z6 → GW κ 0 0 (C v s r x9) 94 [(0, .ref (h0)), (1, .int (nI (k)))] [.int (z6), .int (z5)] := by
    intro z5 z6 x9 hxk c5 h1 h2
    refine g_isub hX dX7_thrust_94 ?_
    refine g_istore (lv2 := [(5, .int ((z5 - z6))), (0, .ref (h0)), (1, .int (nI (k)))]) hX 5 6 hN (by decide) rfl dX7_thrust_95 ?_
    refine g_iload hX 0 rfl dX7_thrust_97 ?_
    exact g_retiP hR ⟨congrArg (fun q => some (Value.int q)) (show (z5 - z6) = thS s nt n k by rw [thS, if_pos c5, h1, h2]), x9, hxk, rfl⟩ dX7_thrust_99
  have J64 : ∀ (z4 : Int32) (x9 : Nat → Nat → Int32), xk x x9 → sd s k = true → lfS s nt k = z4 → GW κ 0 0 (C v s r x9) 64 [(4, .int ((optI (nxR (sd s) (n - ((k) + 1)) ((k) + 1))))), (0, .ref (h0)), (1, .int (nI (k)))] [.int (z4), .int (s (4))] := by
    intro z4 x9 hxk c5 h1
    refine g_iadd hX dX7_thrust_64 ?_
    refine g_istore (lv2 := [(5, .int ((s (4) + z4))), (4, .int ((optI (nxR (sd s) (n - ((k) + 1)) ((k) + 1))))), (0, .ref (h0)), (1, .int (nI (k)))]) hX 5 6 hN (by decide) rfl dX7_thrust_65 ?_
    refine g_iload hX 0 rfl dX7_thrust_67 ?_
    rcases hb : nxR (sd s) (n - (k + 1)) (k + 1) with _ | b9
    · show GW κ 0 0 _ 69 [(5, .int ((s (4) + z4))), (4, .int ((-1))), (0, .ref (h0)), (1, .int (nI (k)))] [.int ((s (4) + z4))]
      refine g_iload hX 1 rfl dX7_thrust_69 ?_
      refine g_if_lt hX 93 (by decide) dX7_thrust_71 (fun c71 => ?_) (fun c71 => absurd c71 (fun h => h (by decide)))
      refine g_iconst hX (v := nI 0) rfl dX7_thrust_93 ?_
      refine g_lv [2, 3] rfl ?_
      exact J94 (s (4) + z4) (nI (0)) x9 hxk c5 (by rw [h1]) (by rw [rgS, hb])
    · have hbl := nxR_lt hb
      show GW κ 0 0 _ 69 [(5, .int ((s (4) + z4))), (4, .int (nI (b9))), (0, .ref (h0)), (1, .int (nI (k)))] [.int ((s (4) + z4))]
      refine g_iload hX 1 rfl dX7_thrust_69 ?_
      refine g_ifN_lt hX (by omega) 93 (by decide) dX7_thrust_71 ?_
      refine g_aload_n hX 2 rfl rfl dX7_thrust_74 ?_
      refine g_iload hX 1 rfl dX7_thrust_75 ?_
      refine g_iconst hX (v := nI 2) rfl dX7_thrust_77 ?_
      refine m_callD hX hzo hC [.int (nI (b9)), .int (nI (2))] [.int ((s (4) + z4))] (c_of _ _ _ _ hzo hC v s r x9 (b9) (2) (by omega)) kX7_of tMet_X7_75 rfl rfl (Nat.le_of_ble_eq_true rfl) (Nat.le_of_ble_eq_true rfl) ⟨Nat.le_of_ble_eq_true rfl, Nat.le_of_ble_eq_true rfl⟩ rfl rfl (Nat.le_of_ble_eq_true rfl) dX7_thrust_78 ?_
      refine g_if_ge hX 93 (by decide) dX7_thrust_81 (fun c81 => ?_) (fun c81 => ?_)
      · refine g_iconst hX (v := nI 0) rfl dX7_thrust_93 ?_
        refine g_lv [2, 3] rfl ?_
        exact J94 (s (4) + z4) (nI (0)) x9 hxk c5 (by rw [h1]) (by rw [rgS, hb]; show (if 0 ≤ _ then _ else _) = _; rw [if_pos c81])
      · refine g_aload_n hX 2 rfl rfl dX7_thrust_84 ?_
        refine g_iload hX 1 rfl dX7_thrust_85 ?_
        refine m_call hX hzo hC [.int (nI (b9))] [.int ((s (4) + z4))] (c_pushes _ _ _ _ hzo hC v s r x9 nt hnt hnt14 htx (b9) (by omega)) kX7_pushes tMet_X7_130 rfl rfl (Nat.le_of_ble_eq_true rfl) (Nat.le_of_ble_eq_true rfl) ⟨Nat.le_of_ble_eq_true rfl, Nat.le_of_ble_eq_true rfl⟩ rfl (Nat.le_of_ble_eq_true rfl) dX7_thrust_87 ?_
        rintro _ _ ⟨rfl, x87, k87, rfl⟩
        show GW κ 0 0 _ 90 [(5, .int ((s (4) + z4))), (4, .int (nI (b9))), (0, .ref (h0)), (1, .int (nI (k)))] [.int ((puS s nt (b9))), .int ((s (4) + z4))]
        refine g_goto hX 94 (by decide) dX7_thrust_90 ?_
        refine g_lv [2, 3] rfl ?_
        exact J94 (s (4) + z4) ((puS s nt (b9))) x87 (xk_t hxk k87) c5 (by rw [h1]) (by rw [rgS, hb]; show (if 0 ≤ _ then _ else _) = _; rw [if_neg c81])
  refine g_aload_n hX 0 rfl rfl dX7_thrust_0 ?_
  refine g_iload_n hX 1 rfl rfl dX7_thrust_1 ?_
  refine m_callD hX hzo hC [.int (nI (k))] [] (c_stands _ _ _ _ hzo hC v s r x (k) (by omega)) kX7_stands tMet_X7_119 rfl rfl (Nat.le_of_ble_eq_true rfl) (Nat.le_of_ble_eq_true rfl) ⟨Nat.le_of_ble_eq_true rfl, Nat.le_of_ble_eq_true rfl⟩ rfl rfl (Nat.le_of_ble_eq_true rfl) dX7_thrust_2 ?_
  refine g_ifb_ne hX 10 (by decide) dX7_thrust_5 (fun c5 => ?_) (fun c5 => ?_)
  · refine g_aload_n hX 0 rfl rfl dX7_thrust_10 ?_
    refine m_callD hX hzo hC [] [] (c_allStanding _ _ _ _ hzo hC v s r x n hn hn9) kX7_allStanding tMet_X7_123 rfl rfl (Nat.le_of_ble_eq_true rfl) (Nat.le_of_ble_eq_true rfl) ⟨Nat.le_of_ble_eq_true rfl, Nat.le_of_ble_eq_true rfl⟩ rfl rfl (Nat.le_of_ble_eq_true rfl) dX7_thrust_11 ?_
    refine g_istore_n (lv2 := [(2, .int ((maskI (sd s) n))), (0, .ref (h0)), (1, .int (nI (k)))]) hX 2 6 hN rfl (by decide) rfl dX7_thrust_14 ?_
    refine g_aload_n hX 1 rfl rfl dX7_thrust_15 ?_
    refine g_iload_n hX 2 rfl rfl dX7_thrust_16 ?_
    refine g_iconst hX (v := -1) (by decide) dX7_thrust_17 ?_
    refine g_iload_n hX 0 rfl rfl dX7_thrust_18 ?_
    refine m_callD hX hzo hC [.int (nI (k)), .int ((-1)), .int ((maskI (sd s) n))] [] (c_nextL _ _ _ _ hzo hC v s r x n hn hn9 (k) (by omega) ((maskI (sd s) n)) (sd s) (fun o ho => mask_bit _ hn9 ho)) kX7_nextOf tMet_X7_127 rfl rfl (Nat.le_of_ble_eq_true rfl) (Nat.le_of_ble_eq_true rfl) ⟨Nat.le_of_ble_eq_true rfl, Nat.le_of_ble_eq_true rfl⟩ rfl rfl (Nat.le_of_ble_eq_true rfl) dX7_thrust_19 ?_
    refine g_istore_n (lv2 := [(3, .int ((optI (nxL (sd s) (k))))), (2, .int ((maskI (sd s) n))), (0, .ref (h0)), (1, .int (nI (k)))]) hX 3 6 hN rfl (by decide) rfl dX7_thrust_22 ?_
    refine g_aload_n hX 2 rfl rfl dX7_thrust_23 ?_
    refine g_iload_n hX 3 rfl rfl dX7_thrust_24 ?_
    refine g_iconst hX (v := nI 1) rfl dX7_thrust_25 ?_
    refine g_iload_n hX 1 rfl rfl dX7_thrust_26 ?_
    refine m_callD hX hzo hC [.int (nI (k)), .int (nI (1)), .int ((maskI (sd s) n))] [] (c_nextR _ _ _ _ hzo hC v s r x n hn hn9 (k) (by omega) ((maskI (sd s) n)) (sd s) (fun o ho => mask_bit _ hn9 ho)) kX7_nextOf tMet_X7_127 rfl rfl (Nat.le_of_ble_eq_true rfl) (Nat.le_of_ble_eq_true rfl) ⟨Nat.le_of_ble_eq_true rfl, Nat.le_of_ble_eq_true rfl⟩ rfl rfl (Nat.le_of_ble_eq_true rfl) dX7_thrust_27 ?_
    refine g_istore (lv2 := [(4, .int ((optI (nxR (sd s) (n - ((k) + 1)) ((k) + 1))))), (3, .int ((optI (nxL (sd s) (k))))), (2, .int ((maskI (sd s) n))), (0, .ref (h0)), (1, .int (nI (k)))]) hX 4 6 hN (by decide) rfl dX7_thrust_30 ?_
    refine g_aload_n hX 3 rfl rfl dX7_thrust_32 ?_
    refine m_getA hX hC 0 (by decide) rfl tFld_X7_7 dX7_thrust_33 ?_
    refine g_iconst hX (v := nI 4) rfl dX7_thrust_36 ?_
    refine m0_aldN hX hC (by omega) dX7_thrust_37 ?_
    refine g_istore (lv2 := [(5, .int (s (4))), (4, .int ((optI (nxR (sd s) (n - ((k) + 1)) ((k) + 1))))), (3, .int ((optI (nxL (sd s) (k))))), (2, .int ((maskI (sd s) n))), (0, .ref (h0)), (1, .int (nI (k)))]) hX 5 6 hN (by decide) rfl dX7_thrust_38 ?_
    refine g_iload hX 0 rfl dX7_thrust_40 ?_
    rcases ha : nxL (sd s) k with _ | a9
    · show GW κ 0 0 _ 42 [(5, .int (s (4))), (4, .int ((optI (nxR (sd s) (n - ((k) + 1)) ((k) + 1))))), (3, .int ((-1))), (2, .int ((maskI (sd s) n))), (0, .ref (h0)), (1, .int (nI (k)))] [.int (s (4))]
      refine g_iload_n hX 2 rfl rfl dX7_thrust_42 ?_
      refine g_if_lt hX 63 (by decide) dX7_thrust_43 (fun c43 => ?_) (fun c43 => absurd c43 (fun h => h (by decide)))
      refine g_iconst hX (v := nI 0) rfl dX7_thrust_63 ?_
      refine g_lv [1, 4, 5] rfl ?_
      exact J64 (nI (0)) x (xk_r x) c5 (by rw [lfS, ha])
    · have hal := nxL_lt ha
      show GW κ 0 0 _ 42 [(5, .int (s (4))), (4, .int ((optI (nxR (sd s) (n - ((k) + 1)) ((k) + 1))))), (3, .int (nI (a9))), (2, .int ((maskI (sd s) n))), (0, .ref (h0)), (1, .int (nI (k)))] [.int (s (4))]
      refine g_iload_n hX 2 rfl rfl dX7_thrust_42 ?_
      refine g_ifN_lt hX (by omega) 63 (by decide) dX7_thrust_43 ?_
      refine g_aload_n hX 4 rfl rfl dX7_thrust_46 ?_
      refine g_iload_n hX 2 rfl rfl dX7_thrust_47 ?_
      refine g_iconst hX (v := nI 2) rfl dX7_thrust_48 ?_
      refine m_callD hX hzo hC [.int (nI (a9)), .int (nI (2))] [.int (s (4))] (c_of _ _ _ _ hzo hC v s r x (a9) (2) (by omega)) kX7_of tMet_X7_75 rfl rfl (Nat.le_of_ble_eq_true rfl) (Nat.le_of_ble_eq_true rfl) ⟨Nat.le_of_ble_eq_true rfl, Nat.le_of_ble_eq_true rfl⟩ rfl rfl (Nat.le_of_ble_eq_true rfl) dX7_thrust_49 ?_
      refine g_if_le hX 63 (by decide) dX7_thrust_52 (fun c52 => ?_) (fun c52 => ?_)
      · refine g_iconst hX (v := nI 0) rfl dX7_thrust_63 ?_
        refine g_lv [1, 4, 5] rfl ?_
        exact J64 (nI (0)) x (xk_r x) c5 (by rw [lfS, ha]; show (if _ ≤ 0 then _ else _) = _; rw [if_pos c52])
      · refine g_aload_n hX 4 rfl rfl dX7_thrust_55 ?_
        refine g_iload_n hX 2 rfl rfl dX7_thrust_56 ?_
        refine m_call hX hzo hC [.int (nI (a9))] [.int (s (4))] (c_pushes _ _ _ _ hzo hC v s r x nt hnt hnt14 htx (a9) (by omega)) kX7_pushes tMet_X7_130 rfl rfl (Nat.le_of_ble_eq_true rfl) (Nat.le_of_ble_eq_true rfl) ⟨Nat.le_of_ble_eq_true rfl, Nat.le_of_ble_eq_true rfl⟩ rfl (Nat.le_of_ble_eq_true rfl) dX7_thrust_57 ?_
        rintro _ _ ⟨rfl, x57, k57, rfl⟩
        show GW κ 0 0 _ 60 [(5, .int (s (4))), (4, .int ((optI (nxR (sd s) (n - ((k) + 1)) ((k) + 1))))), (3, .int (nI (a9))), (2, .int ((maskI (sd s) n))), (0, .ref (h0)), (1, .int (nI (k)))] [.int ((puS s nt (a9))), .int (s (4))]
        refine g_goto hX 64 (by decide) dX7_thrust_60 ?_
        refine g_lv [1, 4, 5] rfl ?_
        exact J64 ((puS s nt (a9))) x57 k57 c5 (by rw [lfS, ha]; show (if _ ≤ 0 then _ else _) = _; rw [if_neg c52])
  · refine g_iconst hX (v := nI 0) rfl dX7_thrust_8 ?_
    exact g_retiP hR ⟨congrArg (fun q => some (Value.int q)) (show nI 0 = thS s nt n k by rw [thS, if_neg (by rw [c5]; decide)]), x, xk_r x, rfl⟩ dX7_thrust_9
end
section
/-- house k falls -/
def fallS (s : Nat → Int32) (k : Nat) : Nat → Int32 := upd (upd s (6 + 7 * k + 6) (nI 1)) (6 + 7 * k + 5) (nI 0)
theorem kX7_falls : mKV RX7 yX7_falls cX7_falls 2 none 1 := ⟨tIns_X7_falls, tSel_X7_falls, tIni_X7, tCod_X7_falls, by decide +kernel⟩
set_option maxHeartbeats 4000000 in
set_option maxRecDepth 100000 in
theorem c_falls (l : Launch) (D : va_G) (cy : Nat → ClassId) (Z : (Nat → Prop) → State → Heap → Prop) (hzo : zOK Z) {h0 : Nat} {a q : Nat → Nat} {C : (Nat → Int32) → (Nat → Int32) → (Nat → Nat → Int32) → (Nat → Nat → Int32) → va_W} (hC : mLens (cy 0) h0 a q C) (v s : Nat → Int32) (r x : Nat → Nat → Int32) (k : Nat) (hk : k < 9) : GD l D cy Z yX7_falls (zW yX7_falls cX7_falls 2 none) { frames := 1, cells := 0, slots := 0, locals := 23 } [.ref (h0), .int (nI (k))] (C v s r x) none (C v (fallS s k) r x) 0 0 := by
  refine g_entry (cc := cX7_falls) (maxL := 2) (by decide) rfl (Nat.le_of_ble_eq_true rfl) ?_
  intro κ hN hX hR
  have hX : GX κ cy Z cX7_falls (Cond.code yX7_falls cX7_falls 2 none :: zT) RX7 { frames := 1, cells := 0, slots := 0, locals := 23 } := hX
  show GW κ 0 0 _ 0 [(0, .ref (h0)), (1, .int (nI (k)))] []
  refine g_aload_n hX 0 rfl rfl dX7_falls_0 ?_
  refine g_iload_n hX 1 rfl rfl dX7_falls_1 ?_
  refine g_bipush hX (v := nI 6) (by decide) dX7_falls_2 ?_
  refine g_iconst hX (v := nI 1) rfl dX7_falls_4 ?_
  refine m_callD hX hzo hC [.int (nI (k)), .int (nI (6)), .int (nI (1))] [] (c_sets _ _ _ _ hzo hC v s r x (k) (6) (by omega) (nI (1))) kX7_sets tMet_X7_80 rfl rfl (Nat.le_of_ble_eq_true rfl) (Nat.le_of_ble_eq_true rfl) ⟨Nat.le_of_ble_eq_true rfl, Nat.le_of_ble_eq_true rfl⟩ rfl rfl (Nat.le_of_ble_eq_true rfl) dX7_falls_5 ?_
  refine g_aload_n hX 0 rfl rfl dX7_falls_8 ?_
  refine g_iload_n hX 1 rfl rfl dX7_falls_9 ?_
  refine g_iconst hX (v := nI 5) rfl dX7_falls_10 ?_
  refine g_iconst hX (v := nI 0) rfl dX7_falls_11 ?_
  refine m_callD hX hzo hC [.int (nI (k)), .int (nI (5)), .int (nI (0))] [] (c_sets _ _ _ _ hzo hC v (upd s (6 + 7 * (k) + (6)) (nI (1))) r x (k) (5) (by omega) (nI (0))) kX7_sets tMet_X7_80 rfl rfl (Nat.le_of_ble_eq_true rfl) (Nat.le_of_ble_eq_true rfl) ⟨Nat.le_of_ble_eq_true rfl, Nat.le_of_ble_eq_true rfl⟩ rfl rfl (Nat.le_of_ble_eq_true rfl) dX7_falls_12 ?_
  exact g_retv hR rfl dX7_falls_15
/-- whether house k, that stands, falls with the next one to which it leans; p0: those that stood at the day's beginning -/
def fwB (p0 : Nat → Bool) (s : Nat → Int32) (n k : Nat) : Bool := if nI 20 ≤ offI (s (6 + 7 * k + 2)) (nI 0) then (match (if s (6 + 7 * k + 2) ≤ 0 then nxL p0 k else nxR p0 (n - (k + 1)) (k + 1)) with | none => false | some o => !(sd s o)) else false
theorem kX7_fallsWith : mKV RX7 yX7_fallsWith cX7_fallsWith 5 (some .boolean) 2 := ⟨tIns_X7_fallsWith, tSel_X7_fallsWith, tIni_X7, tCod_X7_fallsWith, by decide +kernel⟩
set_option maxHeartbeats 4000000 in
set_option maxRecDepth 100000 in
theorem c_fallsWith (l : Launch) (D : va_G) (cy : Nat → ClassId) (Z : (Nat → Prop) → State → Heap → Prop) (hzo : zOK Z) {h0 : Nat} {a q : Nat → Nat} {C : (Nat → Int32) → (Nat → Int32) → (Nat → Nat → Int32) → (Nat → Nat → Int32) → va_W} (hC : mLens (cy 0) h0 a q C) (v s : Nat → Int32) (r x : Nat → Nat → Int32) (n : Nat) (hn : s 0 = nI n) (hn9 : n ≤ 9) (k : Nat) (hk : k < n) (p0 : Nat → Bool) : GD l D cy Z yX7_fallsWith (zW yX7_fallsWith cX7_fallsWith 5 (some .boolean)) { frames := 2, cells := 0, slots := 0, locals := 43 } [.ref (h0), .int (nI (k)), .int (maskI p0 n)] (C v s r x) (some (.int (bI (fwB p0 s n k)))) (C v s r x) 0 0 := by
  refine g_entry (cc := cX7_fallsWith) (maxL := 5) (by decide) rfl (Nat.le_of_ble_eq_true rfl) ?_
  intro κ hN hX hR
  have hX : GX κ cy Z cX7_fallsWith (Cond.code yX7_fallsWith cX7_fallsWith 5 (some .boolean) :: zT) RX7 { frames := 2, cells := 0, slots := 0, locals := 43 } := hX
  show GW κ 0 0 _ 0 [(0, .ref (h0)), (1, .int (nI (k))), (2, .int (maskI p0 n))] []
  refine g_aload_n hX 0 rfl rfl dX7_fallsWith_0 ?_
  refine g_iload_n hX 1 rfl rfl dX7_fallsWith_1 ?_
  refine g_iconst hX (v := nI 2) rfl dX7_fallsWith_2 ?_
  refine m_callD hX hzo hC [.int (nI (k)), .int (nI (2))] [] (c_of _ _ _ _ hzo hC v s r x (k) (2) (by omega)) kX7_of tMet_X7_75 rfl rfl (Nat.le_of_ble_eq_true rfl) (Nat.le_of_ble_eq_true rfl) ⟨Nat.le_of_ble_eq_true rfl, Nat.le_of_ble_eq_true rfl⟩ rfl rfl (Nat.le_of_ble_eq_true rfl) dX7_fallsWith_3 ?_
  refine g_istore_n (lv2 := [(3, .int (s (6 + 7 * (k) + (2)))), (0, .ref (h0)), (1, .int (nI (k))), (2, .int (maskI p0 n))]) hX 3 5 hN rfl (by decide) rfl dX7_fallsWith_6 ?_
  refine g_iload_n hX 0 rfl rfl dX7_fallsWith_7 ?_
  refine g_iconst hX (v := nI 0) rfl dX7_fallsWith_8 ?_
  refine s_call hX hzo [.int (s (6 + 7 * (k) + (2))), .int (nI (0))] [] (c_off _ _ _ _ _ (s (6 + 7 * (k) + (2))) (nI (0))) kX7_off tMet_X7_106 rfl rfl (Nat.le_of_ble_eq_true rfl) (Nat.le_of_ble_eq_true rfl) ⟨Nat.le_of_ble_eq_true rfl, Nat.le_of_ble_eq_true rfl⟩ rfl rfl (Nat.le_of_ble_eq_true rfl) dX7_fallsWith_9 ?_
  refine g_bipush hX (v := nI 20) (by decide) dX7_fallsWith_12 ?_
  refine g_icmp_ge hX 19 (by decide) dX7_fallsWith_14 (fun c14 => ?_) (fun c14 => ?_)
  · refine g_aload_n hX 1 rfl rfl dX7_fallsWith_19 ?_
    refine g_iload_n hX 2 rfl rfl dX7_fallsWith_20 ?_
    refine g_iload_n hX 0 rfl rfl dX7_fallsWith_21 ?_
    refine g_if_le hX 29 (by decide) dX7_fallsWith_22 (fun c22 => ?_) (fun c22 => ?_)
    · refine g_iconst hX (v := -1) (by decide) dX7_fallsWith_29 ?_
      refine g_iload_n hX 3 rfl rfl dX7_fallsWith_30 ?_
      refine m_callD hX hzo hC [.int (nI (k)), .int ((-1)), .int (maskI p0 n)] [] (c_nextL _ _ _ _ hzo hC v s r x n hn hn9 (k) (by omega) (maskI p0 n) p0 (fun o ho => mask_bit _ hn9 ho)) kX7_nextOf tMet_X7_127 rfl rfl (Nat.le_of_ble_eq_true rfl) (Nat.le_of_ble_eq_true rfl) ⟨Nat.le_of_ble_eq_true rfl, Nat.le_of_ble_eq_true rfl⟩ rfl rfl (Nat.le_of_ble_eq_true rfl) dX7_fallsWith_31 ?_
      refine g_istore (lv2 := [(4, .int ((optI (nxL p0 (k))))), (3, .int (s (6 + 7 * (k) + (2)))), (0, .ref (h0)), (1, .int (nI (k))), (2, .int (maskI p0 n))]) hX 4 5 hN (by decide) rfl dX7_fallsWith_34 ?_
      rcases ha : nxL p0 k with _ | a9
      · show GW κ 0 0 _ 36 [(4, .int ((-1))), (3, .int (s (6 + 7 * (k) + (2)))), (0, .ref (h0)), (1, .int (nI (k))), (2, .int (maskI p0 n))] []
        refine g_iload hX 0 rfl dX7_fallsWith_36 ?_
        refine g_if_lt hX 54 (by decide) dX7_fallsWith_38 (fun c38 => ?_) (fun c38 => absurd c38 (fun h => h (by decide)))
        refine g_iconst hX (v := nI 0) rfl dX7_fallsWith_54 ?_
        exact g_retz hR (bI_zero _ (by rw [fwB, if_pos c14, if_pos c22, ha])) rfl dX7_fallsWith_55
      · have hal := nxL_lt ha
        show GW κ 0 0 _ 36 [(4, .int (nI (a9))), (3, .int (s (6 + 7 * (k) + (2)))), (0, .ref (h0)), (1, .int (nI (k))), (2, .int (maskI p0 n))] []
        refine g_iload hX 0 rfl dX7_fallsWith_36 ?_
        refine g_ifN_lt hX (by omega) 54 (by decide) dX7_fallsWith_38 ?_
        refine g_aload_n hX 2 rfl rfl dX7_fallsWith_41 ?_
        refine g_iload hX 0 rfl dX7_fallsWith_42 ?_
        refine m_callD hX hzo hC [.int (nI (a9))] [] (c_stands _ _ _ _ hzo hC v s r x (a9) (by omega)) kX7_stands tMet_X7_119 rfl rfl (Nat.le_of_ble_eq_true rfl) (Nat.le_of_ble_eq_true rfl) ⟨Nat.le_of_ble_eq_true rfl, Nat.le_of_ble_eq_true rfl⟩ rfl rfl (Nat.le_of_ble_eq_true rfl) dX7_fallsWith_44 ?_
        refine g_ifb_ne hX 54 (by decide) dX7_fallsWith_47 (fun c47 => ?_) (fun c47 => ?_)
        · refine g_iconst hX (v := nI 0) rfl dX7_fallsWith_54 ?_
          exact g_retz hR (bI_zero _ (by rw [fwB, if_pos c14, if_pos c22, ha]; show (!(sd s a9)) = _; rw [c47]; rfl)) rfl dX7_fallsWith_55
        · refine g_iconst hX (v := nI 1) rfl dX7_fallsWith_50 ?_
          refine g_goto hX 55 (by decide) dX7_fallsWith_51 ?_
          exact g_retz hR (bI_one _ (by rw [fwB, if_pos c14, if_pos c22, ha]; show (!(sd s a9)) = _; rw [c47]; rfl)) rfl dX7_fallsWith_55
    · refine g_iconst hX (v := nI 1) rfl dX7_fallsWith_25 ?_
      refine g_goto hX 30 (by decide) dX7_fallsWith_26 ?_
      refine g_iload_n hX 3 rfl rfl dX7_fallsWith_30 ?_
      refine m_callD hX hzo hC [.int (nI (k)), .int (nI (1)), .int (maskI p0 n)] [] (c_nextR _ _ _ _ hzo hC v s r x n hn hn9 (k) (by omega) (maskI p0 n) p0 (fun o ho => mask_bit _ hn9 ho)) kX7_nextOf tMet_X7_127 rfl rfl (Nat.le_of_ble_eq_true rfl) (Nat.le_of_ble_eq_true rfl) ⟨Nat.le_of_ble_eq_true rfl, Nat.le_of_ble_eq_true rfl⟩ rfl rfl (Nat.le_of_ble_eq_true rfl) dX7_fallsWith_31 ?_
      refine g_istore (lv2 := [(4, .int ((optI (nxR p0 (n - ((k) + 1)) ((k) + 1))))), (3, .int (s (6 + 7 * (k) + (2)))), (0, .ref (h0)), (1, .int (nI (k))), (2, .int (maskI p0 n))]) hX 4 5 hN (by decide) rfl dX7_fallsWith_34 ?_
      rcases hb : nxR p0 (n - (k + 1)) (k + 1) with _ | b9
      · show GW κ 0 0 _ 36 [(4, .int ((-1))), (3, .int (s (6 + 7 * (k) + (2)))), (0, .ref (h0)), (1, .int (nI (k))), (2, .int (maskI p0 n))] []
        refine g_iload hX 0 rfl dX7_fallsWith_36 ?_
        refine g_if_lt hX 54 (by decide) dX7_fallsWith_38 (fun c38 => ?_) (fun c38 => absurd c38 (fun h => h (by decide)))
        refine g_iconst hX (v := nI 0) rfl dX7_fallsWith_54 ?_
        exact g_retz hR (bI_zero _ (by rw [fwB, if_pos c14, if_neg c22, hb])) rfl dX7_fallsWith_55
      · have hbl := nxR_lt hb
        show GW κ 0 0 _ 36 [(4, .int (nI (b9))), (3, .int (s (6 + 7 * (k) + (2)))), (0, .ref (h0)), (1, .int (nI (k))), (2, .int (maskI p0 n))] []
        refine g_iload hX 0 rfl dX7_fallsWith_36 ?_
        refine g_ifN_lt hX (by omega) 54 (by decide) dX7_fallsWith_38 ?_
        refine g_aload_n hX 2 rfl rfl dX7_fallsWith_41 ?_
        refine g_iload hX 0 rfl dX7_fallsWith_42 ?_
        refine m_callD hX hzo hC [.int (nI (b9))] [] (c_stands _ _ _ _ hzo hC v s r x (b9) (by omega)) kX7_stands tMet_X7_119 rfl rfl (Nat.le_of_ble_eq_true rfl) (Nat.le_of_ble_eq_true rfl) ⟨Nat.le_of_ble_eq_true rfl, Nat.le_of_ble_eq_true rfl⟩ rfl rfl (Nat.le_of_ble_eq_true rfl) dX7_fallsWith_44 ?_
        refine g_ifb_ne hX 54 (by decide) dX7_fallsWith_47 (fun c47 => ?_) (fun c47 => ?_)
        · refine g_iconst hX (v := nI 0) rfl dX7_fallsWith_54 ?_
          exact g_retz hR (bI_zero _ (by rw [fwB, if_pos c14, if_neg c22, hb]; show (!(sd s b9)) = _; rw [c47]; rfl)) rfl dX7_fallsWith_55
        · refine g_iconst hX (v := nI 1) rfl dX7_fallsWith_50 ?_
          refine g_goto hX 55 (by decide) dX7_fallsWith_51 ?_
          exact g_retz hR (bI_one _ (by rw [fwB, if_pos c14, if_neg c22, hb]; show (!(sd s b9)) = _; rw [c47]; rfl)) rfl dX7_fallsWith_55
  · refine g_iconst hX (v := nI 0) rfl dX7_fallsWith_17 ?_
    exact g_retz hR (bI_zero _ (by rw [fwB, if_neg c14])) rfl dX7_fallsWith_18
/-- house k cracks and moves, under the thrust t, bearing b -/
def cm1 (t b : Int32) (s : Nat → Int32) (k : Nat) : Nat → Int32 := if sd s k = true ∧ ¬ offI t (nI 0) - b ≤ 0 then upd (upd s (6 + 7 * k + 4) (heldI (s (6 + 7 * k + 4) + (offI t (nI 0) - b)) (nI 0) (nI 999))) (6 + 7 * k + 2) (heldI (s (6 + 7 * k + 2) + (if t ≤ 0 then -1 else nI 1)) (-50) (nI 50)) else s
def cmS (t b : Nat → Int32) (s : Nat → Int32) : Nat → (Nat → Int32)
  | 0 => s
  | k + 1 => cm1 (t k) (b k) (cmS t b s k) k
/-- house k falls by its cracks -/
def fc1 (s : Nat → Int32) (k : Nat) : Nat → Int32 := if sd s k = true ∧ nI 100 ≤ s (6 + 7 * k + 4) then fallS s k else s
def fcS (s : Nat → Int32) : Nat → (Nat → Int32)
  | 0 => s
  | k + 1 => fc1 (fcS s k) k
/-- a round of falls by neighbours -/
def fnB (p0 : Nat → Bool) (s : Nat → Int32) (n k : Nat) : Bool := sd s k && fwB p0 s n k
def fnS (p0 : Nat → Bool) (n : Nat) (s : Nat → Int32) : Nat → (Nat → Int32) × Bool
  | 0 => (s, false)
  | k + 1 => if fnB p0 (fnS p0 n s k).1 n k then (fallS (fnS p0 n s k).1 k, true) else fnS p0 n s k
/-- rounds, at most f of them, as long as one falls -/
def frS (p0 : Nat → Bool) (n : Nat) : Nat → (Nat → Int32) → (Nat → Int32)
  | 0, s => s
  | f + 1, s => if (fnS p0 n s n).2 then frS p0 n f (fnS p0 n s n).1 else (fnS p0 n s n).1
def prS (s : Nat → Int32) : Nat → Int32
  | 0 => nI 0
  | k + 1 => prS s k + s (6 + 7 * k + 5)
/-- the day's rent, the day's number -/
def reS (s : Nat → Int32) (n : Nat) : Nat → Int32 := upd (upd s 3 (s 3 + prS s n)) 2 (s 2 + nI 1)
/-- a day: houses and rent -/
def dayS (s : Nat → Int32) (nt n : Nat) : Nat → Int32 := reS (frS (sd s) n 10 (fcS (cmS (thS s nt n) (brs s) s n) n)) n
/-- how many stand -/
def stN (s : Nat → Int32) : Nat → Nat
  | 0 => 0
  | k + 1 => stN s k + (if sd s k then 1 else 0)
theorem stN_le (s : Nat → Int32) : ∀ k, stN s k ≤ k := by
  intro k
  induction k with
  | zero => exact Nat.le_refl 0
  | succ k ih => rw [stN]; split <;> omega
theorem fallS_0 (s : Nat → Int32) (k j : Nat) (h : j < 5) : fallS s k j = s j := by rw [fallS, pk_un (by omega), pk_un (by omega)]
theorem sd_fall (s : Nat → Int32) (k j : Nat) : sd (fallS s k) j = (sd s j && !decide (j = k)) := by
  by_cases h : j = k
  · subst h
    simp [sd, fallS, upd]; decide
  · have : fallS s k (6 + 7 * j + 6) = s (6 + 7 * j + 6) := by rw [fallS, pk_un (by omega), pk_un (by omega)]
    simp [sd, this, h]
theorem stN_fall (s : Nat → Int32) (k : Nat) (hk : sd s k = true) : ∀ n, stN (fallS s k) n + (if k < n then 1 else 0) = stN s n := by
  intro n
  induction n with
  | zero => rfl
  | succ n ih =>
    rw [stN, stN, sd_fall]
    by_cases h : n = k
    · subst h
      rw [if_neg (Nat.lt_irrefl _)] at ih
      simp [hk]; omega
    · by_cases h2 : k < n
      · rw [if_pos h2] at ih
        rw [if_pos (show k < n + 1 by omega)]
        simp [h]; omega
      · rw [if_neg h2] at ih
        rw [if_neg (show ¬ k < n + 1 by omega)]
        simp [h]; omega
theorem fnS_sd (p0 : Nat → Bool) (n : Nat) (s : Nat → Int32) : ∀ k, k ≤ n → stN (fnS p0 n s k).1 n + (if (fnS p0 n s k).2 then 1 else 0) ≤ stN s n := by
  intro k
  induction k with
  | zero => intro _; exact Nat.le_refl _
  | succ k ih =>
    intro hk
    have i1 := ih (by omega)
    rw [fnS]
    by_cases h : fnB p0 (fnS p0 n s k).1 n k = true
    · rw [if_pos h]
      have h2 : sd (fnS p0 n s k).1 k = true := by rw [fnB, Bool.and_eq_true] at h; exact h.1
      have e := stN_fall (fnS p0 n s k).1 k h2 n
      rw [if_pos (by omega)] at e
      show stN (fallS (fnS p0 n s k).1 k) n + 1 ≤ _
      split at i1 <;> omega
    · rw [if_neg h]; exact i1
theorem fnS_0 (p0 : Nat → Bool) (n : Nat) (s : Nat → Int32) (j : Nat) (hj : j < 5) : ∀ k, (fnS p0 n s k).1 j = s j := by
  intro k
  induction k with
  | zero => rfl
  | succ k ih =>
    rw [fnS]
    split
    · exact (fallS_0 _ k j hj).trans ih
    · exact ih
theorem fcS_0 (s : Nat → Int32) (j : Nat) (hj : j < 5) : ∀ k, fcS s k j = s j := by
  intro k
  induction k with
  | zero => rfl
  | succ k ih =>
    rw [fcS, fc1]
    split
    · exact (fallS_0 _ k j hj).trans ih
    · exact ih
theorem cmS_0 (t b s : Nat → Int32) (j : Nat) (hj : j < 5) : ∀ k, cmS t b s k j = s j := by
  intro k
  induction k with
  | zero => rfl
  | succ k ih =>
    rw [cmS, cm1]
    split
    · rw [pk_un (by omega), pk_un (by omega)]; exact ih
    · exact ih
theorem kX7_goesOn : mKV RX7 yX7_goesOn cX7_goesOn 5 none 0 := ⟨tIns_X7_goesOn, tSel_X7_goesOn, tIni_X7, tCod_X7_goesOn, by decide +kernel⟩
set_option maxHeartbeats 4000000 in
set_option maxRecDepth 100000 in
theorem c_goesOn (l : Launch) (D : va_G) (cy : Nat → ClassId) (Z : (Nat → Prop) → State → Heap → Prop) (hzo : zOK Z) {h0 : Nat} {a q : Nat → Nat} {C : (Nat → Int32) → (Nat → Int32) → (Nat → Nat → Int32) → (Nat → Nat → Int32) → va_W} (hC : mLens (cy 0) h0 a q C) (v s : Nat → Int32) (r x : Nat → Nat → Int32) (nt : Nat) (hnt : s 1 = nI nt) (hnt14 : nt ≤ 14) (htx : ∀ t, t < nt → textOK s t) (n : Nat) (hn : s 0 = nI n) (hn9 : n ≤ 9) : GM l D cy Z yX7_goesOn (zW yX7_goesOn cX7_goesOn 5 none) { frames := 4, cells := 0, slots := 0, locals := 96 } [.ref (h0)] (C v s r x) (fun res w2 => res = none ∧ ∃ x2, w2 = C v (dayS s nt n) r x2) 0 0 := by
  refine g_entry (cc := cX7_goesOn) (maxL := 5) (by decide) rfl (Nat.le_of_ble_eq_true rfl) ?_
  intro κ hN hX hR
  have hX : GX κ cy Z cX7_goesOn (Cond.code yX7_goesOn cX7_goesOn 5 none :: zT) RX7 { frames := 4, cells := 0, slots := 0, locals := 96 } := hX
  show GW κ 0 0 _ 0 [(0, .ref (h0))] []
  have J253 : ∀ (s9 : Nat → Int32) (x9 : Nat → Nat → Int32), s9 0 = nI n → reS s9 n = dayS s nt n → GW κ 0 0 (C v s9 r x9) 253 [(2, .int (nI 0)), (0, .ref h0)] [] := by
    intro s9 x9 hn9s hE
    have L : ∀ (f i : Nat), i ≤ n → n + 1 ≤ i + f → GW κ 0 0 (C v s9 r x9) 256 [(4, .int (nI (i))), (2, .int (prS s9 i)), (0, .ref (h0))] [] := by
      intro f
      induction f with
      | zero => intro i h1 h2; exact absurd h2 (by omega)
      | succ f ih =>
        intro i h1 h2
        refine g_iload hX 0 rfl dX7_goesOn_256 ?_
        refine g_aload_n hX 2 rfl rfl dX7_goesOn_258 ?_
        refine m_getA hX hC 0 (by decide) rfl tFld_X7_7 dX7_goesOn_259 ?_
        refine g_iconst hX (v := nI 0) rfl dX7_goesOn_262 ?_
        refine m0_aldN hX hC (by omega) dX7_goesOn_263 ?_
        refine g_top (y := .int (nI (n))) (congrArg Value.int hn9s) ?_
        refine g_icmpN_ge hX (by omega) (by omega) 283 (by decide) dX7_goesOn_264 (fun c264 => ?_) (fun c264 => ?_)
        · refine g_aload_n hX 2 rfl rfl dX7_goesOn_283 ?_
          refine m_getA hX hC 0 (by decide) rfl tFld_X7_7 dX7_goesOn_284 ?_
          refine g_iconst hX (v := nI 3) rfl dX7_goesOn_287 ?_
          refine g_dup2 hX rfl rfl dX7_goesOn_288 ?_
          refine m0_aldN hX hC (by omega) dX7_goesOn_289 ?_
          refine g_iload_n hX 1 rfl rfl dX7_goesOn_290 ?_
          refine g_iadd hX dX7_goesOn_291 ?_
          refine m0_astN hX hC (by omega) dX7_goesOn_292 ?_
          refine g_aload_n hX 2 rfl rfl dX7_goesOn_293 ?_
          refine m_getA hX hC 0 (by decide) rfl tFld_X7_7 dX7_goesOn_294 ?_
          refine g_iconst hX (v := nI 2) rfl dX7_goesOn_297 ?_
          refine g_dup2 hX rfl rfl dX7_goesOn_298 ?_
          refine m0_aldN hX hC (by omega) dX7_goesOn_299 ?_
          refine g_iconst hX (v := nI 1) rfl dX7_goesOn_300 ?_
          refine g_iadd hX dX7_goesOn_301 ?_
          refine m0_astN hX hC (by omega) dX7_goesOn_302 ?_
          exact g_retvP hR ⟨rfl, x9, by rw [← hE, show i = n from by omega]; rfl⟩ dX7_goesOn_303
        · refine g_iload_n hX 1 rfl rfl dX7_goesOn_267 ?_
          refine g_aload_n hX 2 rfl rfl dX7_goesOn_268 ?_
          refine g_iload hX 0 rfl dX7_goesOn_269 ?_
          refine g_iconst hX (v := nI 5) rfl dX7_goesOn_271 ?_
          refine m_callD hX hzo hC [.int (nI (i)), .int (nI (5))] [.int (prS s9 i)] (c_of _ _ _ _ hzo hC v s9 r x9 (i) (5) (by omega)) kX7_of tMet_X7_75 rfl rfl (Nat.le_of_ble_eq_true rfl) (Nat.le_of_ble_eq_true rfl) ⟨Nat.le_of_ble_eq_true rfl, Nat.le_of_ble_eq_true rfl⟩ rfl rfl (Nat.le_of_ble_eq_true rfl) dX7_goesOn_272 ?_
          refine g_iadd hX dX7_goesOn_275 ?_
          refine g_istore_n (lv2 := [(2, .int ((prS s9 i + s9 (6 + 7 * (i) + (5))))), (4, .int (nI (i))), (0, .ref (h0))]) hX 2 5 hN rfl (by decide) rfl dX7_goesOn_276 ?_
          refine g_iincN (n := 1) (lv2 := [(4, .int (nI (i + 1))), (2, .int ((prS s9 i + s9 (6 + 7 * (i) + (5))))), (0, .ref (h0))]) hX 1 4 5 hN rfl (by decide) rfl dX7_goesOn_277 ?_
          refine g_goto hX 256 (by decide) dX7_goesOn_280 ?_
          exact ih (i + 1) (by omega) (by omega)
    refine g_iconst hX (v := nI 0) rfl dX7_goesOn_253 ?_
    refine g_istore (lv2 := [(4, .int (nI (0))), (2, .int (nI (0))), (0, .ref (h0))]) hX 4 5 hN (by decide) rfl dX7_goesOn_254 ?_
    exact L (n + 1) 0 (by omega) (by omega)
  have J201 : ∀ (s8 : Nat → Int32) (x9 : Nat → Nat → Int32), s8 0 = nI n → GW κ 0 0 (C v (fnS (sd s) n s8 n).1 r x9) 197 [(3, .int (bI (fnS (sd s) n s8 n).2)), (1, .int (maskI (sd s) n)), (2, .int (nI 0)), (0, .ref h0)] [] → GW κ 0 0 (C v s8 r x9) 201 [(3, .int (nI 1)), (1, .int (maskI (sd s) n)), (2, .int (nI 0)), (0, .ref h0)] [] := by
    intro s8 x9 h80 H
    have L : ∀ (f i : Nat), i ≤ n → n + 1 ≤ i + f → GW κ 0 0 (C v (fnS (sd s) n s8 i).1 r x9) 206 [(4, .int (nI (i))), (3, .int (bI ((fnS (sd s) n s8 i).2))), (1, .int (maskI (sd s) n)), (2, .int (nI (0))), (0, .ref (h0))] [] := by
      intro f
      induction f with
      | zero => intro i h1 h2; exact absurd h2 (by omega)
      | succ f ih =>
        intro i h1 h2
        have hn9s : (fnS (sd s) n s8 i).1 0 = nI n := by rw [fnS_0 _ _ _ 0 (by decide)]; exact h80
        refine g_iload hX 0 rfl dX7_goesOn_206 ?_
        refine g_aload_n hX 4 rfl rfl dX7_goesOn_208 ?_
        refine m_getA hX hC 0 (by decide) rfl tFld_X7_7 dX7_goesOn_209 ?_
        refine g_iconst hX (v := nI 0) rfl dX7_goesOn_212 ?_
        refine m0_aldN hX hC (by omega) dX7_goesOn_213 ?_
        refine g_top (y := .int (nI (n))) (congrArg Value.int hn9s) ?_
        refine g_icmpN_ge hX (by omega) (by omega) 250 (by decide) dX7_goesOn_214 (fun c214 => ?_) (fun c214 => ?_)
        · refine g_lv [1, 2, 3, 4] rfl ?_
          refine g_goto hX 197 (by decide) dX7_goesOn_250 ?_
          rw [show i = n from by omega]
          exact H
        · refine g_aload_n hX 4 rfl rfl dX7_goesOn_217 ?_
          refine g_iload hX 0 rfl dX7_goesOn_218 ?_
          refine m_callD hX hzo hC [.int (nI (i))] [] (c_stands _ _ _ _ hzo hC v (fnS (sd s) n s8 i).1 r x9 (i) (by omega)) kX7_stands tMet_X7_119 rfl rfl (Nat.le_of_ble_eq_true rfl) (Nat.le_of_ble_eq_true rfl) ⟨Nat.le_of_ble_eq_true rfl, Nat.le_of_ble_eq_true rfl⟩ rfl rfl (Nat.le_of_ble_eq_true rfl) dX7_goesOn_220 ?_
          refine g_ifb_eq hX 244 (by decide) dX7_goesOn_223 (fun c223 => ?_) (fun c223 => ?_)
          · refine g_iincN (n := 1) (lv2 := [(4, .int (nI (i + 1))), (3, .int (bI ((fnS (sd s) n s8 i).2))), (1, .int (maskI (sd s) n)), (2, .int (nI (0))), (0, .ref (h0))]) hX 0 4 5 hN rfl (by decide) rfl dX7_goesOn_244 ?_
            refine g_goto hX 206 (by decide) dX7_goesOn_247 ?_
            have e : fnS (sd s) n s8 (i + 1) = fnS (sd s) n s8 i := by rw [fnS, if_neg (by rw [fnB, c223, Bool.false_and]; decide)]
            have K := ih (i + 1) (by omega) (by omega)
            rw [e] at K
            exact K
          · refine g_aload_n hX 4 rfl rfl dX7_goesOn_226 ?_
            refine g_iload hX 0 rfl dX7_goesOn_227 ?_
            refine g_iload_n hX 2 rfl rfl dX7_goesOn_229 ?_
            refine m_callD hX hzo hC [.int (nI (i)), .int (maskI (sd s) n)] [] (c_fallsWith _ _ _ _ hzo hC v (fnS (sd s) n s8 i).1 r x9 n hn9s hn9 (i) (by omega) (sd s)) kX7_fallsWith tMet_X7_167 rfl rfl (Nat.le_of_ble_eq_true rfl) (Nat.le_of_ble_eq_true rfl) ⟨Nat.le_of_ble_eq_true rfl, Nat.le_of_ble_eq_true rfl⟩ rfl rfl (Nat.le_of_ble_eq_true rfl) dX7_goesOn_230 ?_
            refine g_ifb_eq hX 244 (by decide) dX7_goesOn_233 (fun c233 => ?_) (fun c233 => ?_)
            · refine g_iincN (n := 1) (lv2 := [(4, .int (nI (i + 1))), (3, .int (bI ((fnS (sd s) n s8 i).2))), (1, .int (maskI (sd s) n)), (2, .int (nI (0))), (0, .ref (h0))]) hX 0 4 5 hN rfl (by decide) rfl dX7_goesOn_244 ?_
              refine g_goto hX 206 (by decide) dX7_goesOn_247 ?_
              have e : fnS (sd s) n s8 (i + 1) = fnS (sd s) n s8 i := by rw [fnS, if_neg (by rw [fnB, c223, c233]; decide)]
              have K := ih (i + 1) (by omega) (by omega)
              rw [e] at K
              exact K
            · refine g_aload_n hX 4 rfl rfl dX7_goesOn_236 ?_
              refine g_iload hX 0 rfl dX7_goesOn_237 ?_
              refine m_callD hX hzo hC [.int (nI (i))] [] (c_falls _ _ _ _ hzo hC v (fnS (sd s) n s8 i).1 r x9 (i) (by omega)) kX7_falls tMet_X7_153 rfl rfl (Nat.le_of_ble_eq_true rfl) (Nat.le_of_ble_eq_true rfl) ⟨Nat.le_of_ble_eq_true rfl, Nat.le_of_ble_eq_true rfl⟩ rfl rfl (Nat.le_of_ble_eq_true rfl) dX7_goesOn_239 ?_
              refine g_iconst hX (v := nI 1) rfl dX7_goesOn_242 ?_
              refine g_istore_n (lv2 := [(3, .int (nI (1))), (4, .int (nI (i))), (1, .int (maskI (sd s) n)), (2, .int (nI (0))), (0, .ref (h0))]) hX 3 5 hN rfl (by decide) rfl dX7_goesOn_243 ?_
              refine g_iincN (n := 1) (lv2 := [(4, .int (nI (i + 1))), (3, .int (nI (1))), (1, .int (maskI (sd s) n)), (2, .int (nI (0))), (0, .ref (h0))]) hX 1 4 5 hN rfl (by decide) rfl dX7_goesOn_244 ?_
              refine g_goto hX 206 (by decide) dX7_goesOn_247 ?_
              have e : fnS (sd s) n s8 (i + 1) = (fallS (fnS (sd s) n s8 i).1 i, true) := by rw [fnS, if_pos (by rw [fnB, c223, c233]; rfl)]
              have K := ih (i + 1) (by omega) (by omega)
              rw [e] at K
              exact K
    refine g_iconst hX (v := nI 0) rfl dX7_goesOn_201 ?_
    refine g_istore_n (lv2 := [(3, .int (nI (0))), (1, .int (maskI (sd s) n)), (2, .int (nI (0))), (0, .ref (h0))]) hX 3 5 hN rfl (by decide) rfl dX7_goesOn_202 ?_
    refine g_iconst hX (v := nI 0) rfl dX7_goesOn_203 ?_
    refine g_istore (lv2 := [(4, .int (nI (0))), (3, .int (nI (0))), (1, .int (maskI (sd s) n)), (2, .int (nI (0))), (0, .ref (h0))]) hX 4 5 hN (by decide) rfl dX7_goesOn_204 ?_
    exact L (n + 1) 0 (by omega) (by omega)
  have J197 : ∀ (f : Nat) (s8 : Nat → Int32) (x9 : Nat → Nat → Int32), s8 0 = nI n → stN s8 n < f → reS (frS (sd s) n f s8) n = dayS s nt n → GW κ 0 0 (C v s8 r x9) 197 [(3, .int (nI 1)), (1, .int (maskI (sd s) n)), (2, .int (nI 0)), (0, .ref h0)] [] := by
    intro f
    induction f with
    | zero => intro s8 x9 h80 h2; exact absurd h2 (Nat.not_lt_zero _)
    | succ f ih =>
      intro s8 x9 h80 h2 hE
      refine g_iload_n hX 0 rfl rfl dX7_goesOn_197 ?_
      refine g_ifN_eq hX (by decide) 253 (by decide) dX7_goesOn_198 (fun c => absurd c (by decide)) (fun _ => ?_)
      refine J201 s8 x9 h80 ?_
      have hle := fnS_sd (sd s) n s8 n (Nat.le_refl n)
      have h0' : (fnS (sd s) n s8 n).1 0 = nI n := by rw [fnS_0 _ _ _ 0 (by decide)]; exact h80
      rw [frS] at hE
      cases hm : (fnS (sd s) n s8 n).2 with
      | true =>
        rw [hm] at hE hle
        rw [if_pos rfl] at hE hle
        exact ih _ x9 h0' (by omega) hE
      | false =>
        rw [hm] at hE
        rw [if_neg (by decide)] at hE
        refine g_iload_n hX 0 rfl rfl dX7_goesOn_197 ?_
        refine g_ifb_eq hX 253 (by decide) dX7_goesOn_198 (fun _ => ?_) (fun c => absurd c (by decide))
        refine g_lv [2, 3] rfl ?_
        exact J253 _ x9 h0' hE
  have J153 : ∀ (s7 : Nat → Int32) (x9 : Nat → Nat → Int32), s7 0 = nI n → reS (frS (sd s) n 10 (fcS s7 n)) n = dayS s nt n → GW κ 0 0 (C v s7 r x9) 153 [(3, .int (nI n)), (1, .int (maskI (sd s) n)), (2, .int (nI 0)), (0, .ref h0)] [] := by
    intro s7 x9 h70 hE
    have L : ∀ (f i : Nat), i ≤ n → n + 1 ≤ i + f → GW κ 0 0 (C v (fcS s7 i) r x9) 155 [(3, .int (nI (i))), (1, .int (maskI (sd s) n)), (2, .int (nI (0))), (0, .ref (h0))] [] := by
      intro f
      induction f with
      | zero => intro i h1 h2; exact absurd h2 (by omega)
      | succ f ih =>
        intro i h1 h2
        have hn9s : fcS s7 i 0 = nI n := by rw [fcS_0 _ 0 (by decide)]; exact h70
        refine g_iload_n hX 0 rfl rfl dX7_goesOn_155 ?_
        refine g_aload_n hX 3 rfl rfl dX7_goesOn_156 ?_
        refine m_getA hX hC 0 (by decide) rfl tFld_X7_7 dX7_goesOn_157 ?_
        refine g_iconst hX (v := nI 0) rfl dX7_goesOn_160 ?_
        refine m0_aldN hX hC (by omega) dX7_goesOn_161 ?_
        refine g_top (y := .int (nI (n))) (congrArg Value.int hn9s) ?_
        refine g_icmpN_ge hX (by omega) (by omega) 195 (by decide) dX7_goesOn_162 (fun c162 => ?_) (fun c162 => ?_)
        · have hi : i = n := by omega
          subst hi
          refine g_iconst hX (v := nI 1) rfl dX7_goesOn_195 ?_
          refine g_istore_n (lv2 := [(3, .int (nI 1)), (1, .int (maskI (sd s) i)), (2, .int (nI 0)), (0, .ref h0)]) hX 3 5 hN rfl (by decide) rfl dX7_goesOn_196 ?_
          exact J197 10 _ x9 hn9s (Nat.lt_of_le_of_lt (stN_le _ _) (by omega)) hE
        · refine g_aload_n hX 3 rfl rfl dX7_goesOn_165 ?_
          refine g_iload_n hX 0 rfl rfl dX7_goesOn_166 ?_
          refine m_callD hX hzo hC [.int (nI (i))] [] (c_stands _ _ _ _ hzo hC v (fcS s7 i) r x9 (i) (by omega)) kX7_stands tMet_X7_119 rfl rfl (Nat.le_of_ble_eq_true rfl) (Nat.le_of_ble_eq_true rfl) ⟨Nat.le_of_ble_eq_true rfl, Nat.le_of_ble_eq_true rfl⟩ rfl rfl (Nat.le_of_ble_eq_true rfl) dX7_goesOn_167 ?_
          refine g_ifb_eq hX 189 (by decide) dX7_goesOn_170 (fun c170 => ?_) (fun c170 => ?_)
          · refine g_iincN (n := 1) (lv2 := [(3, .int (nI (i + 1))), (1, .int (maskI (sd s) n)), (2, .int (nI (0))), (0, .ref (h0))]) hX 0 3 5 hN rfl (by decide) rfl dX7_goesOn_189 ?_
            refine g_goto hX 155 (by decide) dX7_goesOn_192 ?_
            have e : fcS s7 (i + 1) = fcS s7 i := by rw [fcS, fc1, if_neg (fun h => by rw [c170] at h; exact absurd h.1 (by decide))]
            have K := ih (i + 1) (by omega) (by omega)
            rw [e] at K
            exact K
          · refine g_aload_n hX 3 rfl rfl dX7_goesOn_173 ?_
            refine g_iload_n hX 0 rfl rfl dX7_goesOn_174 ?_
            refine g_iconst hX (v := nI 4) rfl dX7_goesOn_175 ?_
            refine m_callD hX hzo hC [.int (nI (i)), .int (nI (4))] [] (c_of _ _ _ _ hzo hC v (fcS s7 i) r x9 (i) (4) (by omega)) kX7_of tMet_X7_75 rfl rfl (Nat.le_of_ble_eq_true rfl) (Nat.le_of_ble_eq_true rfl) ⟨Nat.le_of_ble_eq_true rfl, Nat.le_of_ble_eq_true rfl⟩ rfl rfl (Nat.le_of_ble_eq_true rfl) dX7_goesOn_176 ?_
            refine g_bipush hX (v := nI 100) (by decide) dX7_goesOn_179 ?_
            refine g_icmp_lt hX 189 (by decide) dX7_goesOn_181 (fun c181 => ?_) (fun c181 => ?_)
            · refine g_iincN (n := 1) (lv2 := [(3, .int (nI (i + 1))), (1, .int (maskI (sd s) n)), (2, .int (nI (0))), (0, .ref (h0))]) hX 0 3 5 hN rfl (by decide) rfl dX7_goesOn_189 ?_
              refine g_goto hX 155 (by decide) dX7_goesOn_192 ?_
              have e : fcS s7 (i + 1) = fcS s7 i := by rw [fcS, fc1, if_neg (fun h => Int32.not_lt.mpr h.2 c181)]
              have K := ih (i + 1) (by omega) (by omega)
              rw [e] at K
              exact K
            · refine g_aload_n hX 3 rfl rfl dX7_goesOn_184 ?_
              refine g_iload_n hX 0 rfl rfl dX7_goesOn_185 ?_
              refine m_callD hX hzo hC [.int (nI (i))] [] (c_falls _ _ _ _ hzo hC v (fcS s7 i) r x9 (i) (by omega)) kX7_falls tMet_X7_153 rfl rfl (Nat.le_of_ble_eq_true rfl) (Nat.le_of_ble_eq_true rfl) ⟨Nat.le_of_ble_eq_true rfl, Nat.le_of_ble_eq_true rfl⟩ rfl rfl (Nat.le_of_ble_eq_true rfl) dX7_goesOn_186 ?_
              refine g_iincN (n := 1) (lv2 := [(3, .int (nI (i + 1))), (1, .int (maskI (sd s) n)), (2, .int (nI (0))), (0, .ref (h0))]) hX 0 3 5 hN rfl (by decide) rfl dX7_goesOn_189 ?_
              refine g_goto hX 155 (by decide) dX7_goesOn_192 ?_
              have e : fcS s7 (i + 1) = fallS (fcS s7 i) i := by rw [fcS, fc1, if_pos ⟨c170, Int32.not_lt.mp c181⟩]
              have K := ih (i + 1) (by omega) (by omega)
              rw [e] at K
              exact K
    refine g_iconst hX (v := nI 0) rfl dX7_goesOn_153 ?_
    refine g_istore_n (lv2 := [(3, .int (nI (0))), (1, .int (maskI (sd s) n)), (2, .int (nI (0))), (0, .ref (h0))]) hX 3 5 hN rfl (by decide) rfl dX7_goesOn_154 ?_
    exact L (n + 1) 0 (by omega) (by omega)
  have J47 : ∀ (x9 : Nat → Nat → Int32), (∀ j, j < n → x9 12 j = thS s nt n j) → (∀ j, j < n → x9 13 j = brs s j) → GW κ 0 0 (C v s r x9) 47 [(3, .int (nI n)), (1, .int (maskI (sd s) n)), (2, .int (nI 0)), (0, .ref h0)] [] := by
    intro x9 ht1 hb1
    have L : ∀ (f i : Nat), i ≤ n → n + 1 ≤ i + f → GW κ 0 0 (C v (cmS (thS s nt n) (brs s) s i) r x9) 49 [(3, .int (nI (i))), (1, .int (maskI (sd s) n)), (2, .int (nI (0))), (0, .ref (h0))] [] := by
      intro f
      induction f with
      | zero => intro i h1 h2; exact absurd h2 (by omega)
      | succ f ih =>
        intro i h1 h2
        have hn9s : (cmS (thS s nt n) (brs s) s i) 0 = nI n := by rw [cmS_0 _ _ _ 0 (by decide)]; exact hn
        refine g_iload_n hX 0 rfl rfl dX7_goesOn_49 ?_
        refine g_aload_n hX 3 rfl rfl dX7_goesOn_50 ?_
        refine m_getA hX hC 0 (by decide) rfl tFld_X7_7 dX7_goesOn_51 ?_
        refine g_iconst hX (v := nI 0) rfl dX7_goesOn_54 ?_
        refine m0_aldN hX hC (by omega) dX7_goesOn_55 ?_
        refine g_top (y := .int (nI (n))) (congrArg Value.int hn9s) ?_
        refine g_icmpN_ge hX (by omega) (by omega) 153 (by decide) dX7_goesOn_56 (fun c56 => ?_) (fun c56 => ?_)
        · have hi : i = n := by omega
          subst hi
          exact J153 _ x9 hn9s rfl
        · refine g_aload_n hX 3 rfl rfl dX7_goesOn_59 ?_
          refine m_getA hX hC 12 (by decide) rfl tFld_X7_43 dX7_goesOn_60 ?_
          refine g_iload_n hX 0 rfl rfl dX7_goesOn_63 ?_
          refine mb_aldN hX hC 12 rfl (show _ < mN 12 from by simp only [mN]; omega) (by decide) dX7_goesOn_64 ?_
          refine g_top (y := .int ((thS s nt n i))) (congrArg Value.int (ht1 i (by omega))) ?_
          refine g_iconst hX (v := nI 0) rfl dX7_goesOn_65 ?_
          refine s_call hX hzo [.int ((thS s nt n i)), .int (nI (0))] [] (c_off _ _ _ _ _ ((thS s nt n i)) (nI (0))) kX7_off tMet_X7_106 rfl rfl (Nat.le_of_ble_eq_true rfl) (Nat.le_of_ble_eq_true rfl) ⟨Nat.le_of_ble_eq_true rfl, Nat.le_of_ble_eq_true rfl⟩ rfl rfl (Nat.le_of_ble_eq_true rfl) dX7_goesOn_66 ?_
          refine g_aload_n hX 3 rfl rfl dX7_goesOn_69 ?_
          refine m_getA hX hC 13 (by decide) rfl tFld_X7_46 dX7_goesOn_70 ?_
          refine g_iload_n hX 0 rfl rfl dX7_goesOn_73 ?_
          refine mb_aldN hX hC 13 rfl (show _ < mN 13 from by simp only [mN]; omega) (by decide) dX7_goesOn_74 ?_
          refine g_top (y := .int ((brs s i))) (congrArg Value.int (hb1 i (by omega))) ?_
          refine g_isub hX dX7_goesOn_75 ?_
          refine g_istore (lv2 := [(4, .int (((offI ((thS s nt n i)) (nI (0))) - (brs s i)))), (3, .int (nI (i))), (1, .int (maskI (sd s) n)), (2, .int (nI (0))), (0, .ref (h0))]) hX 4 5 hN (by decide) rfl dX7_goesOn_76 ?_
          refine g_aload_n hX 4 rfl rfl dX7_goesOn_78 ?_
          refine g_iload_n hX 1 rfl rfl dX7_goesOn_79 ?_
          refine m_callD hX hzo hC [.int (nI (i))] [] (c_stands _ _ _ _ hzo hC v (cmS (thS s nt n) (brs s) s i) r x9 (i) (by omega)) kX7_stands tMet_X7_119 rfl rfl (Nat.le_of_ble_eq_true rfl) (Nat.le_of_ble_eq_true rfl) ⟨Nat.le_of_ble_eq_true rfl, Nat.le_of_ble_eq_true rfl⟩ rfl rfl (Nat.le_of_ble_eq_true rfl) dX7_goesOn_80 ?_
          refine g_ifb_eq hX 147 (by decide) dX7_goesOn_83 (fun c83 => ?_) (fun c83 => ?_)
          · refine g_iincN (n := 1) (lv2 := [(3, .int (nI (i + 1))), (4, .int (((offI ((thS s nt n i)) (nI (0))) - (brs s i)))), (1, .int (maskI (sd s) n)), (2, .int (nI (0))), (0, .ref (h0))]) hX 1 3 5 hN rfl (by decide) rfl dX7_goesOn_147 ?_
            refine g_goto hX 49 (by decide) dX7_goesOn_150 ?_
            refine g_lv [0, 2, 3, 4] rfl ?_
            have e : cmS (thS s nt n) (brs s) s (i + 1) = cmS (thS s nt n) (brs s) s i := by rw [cmS, cm1, if_neg (fun h => by rw [c83] at h; exact absurd h.1 (by decide))]
            have K := ih (i + 1) (by omega) (by omega)
            rw [e] at K
            exact K
          · refine g_iload hX 0 rfl dX7_goesOn_86 ?_
            refine g_if_le hX 147 (by decide) dX7_goesOn_88 (fun c88 => ?_) (fun c88 => ?_)
            · refine g_iincN (n := 1) (lv2 := [(3, .int (nI (i + 1))), (4, .int (((offI ((thS s nt n i)) (nI (0))) - (brs s i)))), (1, .int (maskI (sd s) n)), (2, .int (nI (0))), (0, .ref (h0))]) hX 1 3 5 hN rfl (by decide) rfl dX7_goesOn_147 ?_
              refine g_goto hX 49 (by decide) dX7_goesOn_150 ?_
              refine g_lv [0, 2, 3, 4] rfl ?_
              have e : cmS (thS s nt n) (brs s) s (i + 1) = cmS (thS s nt n) (brs s) s i := by rw [cmS, cm1, if_neg (fun h => h.2 c88)]
              have K := ih (i + 1) (by omega) (by omega)
              rw [e] at K
              exact K
            · refine g_aload_n hX 4 rfl rfl dX7_goesOn_91 ?_
              refine g_iload_n hX 1 rfl rfl dX7_goesOn_92 ?_
              refine g_iconst hX (v := nI 4) rfl dX7_goesOn_93 ?_
              refine g_aload_n hX 4 rfl rfl dX7_goesOn_94 ?_
              refine g_iload_n hX 1 rfl rfl dX7_goesOn_95 ?_
              refine g_iconst hX (v := nI 4) rfl dX7_goesOn_96 ?_
              refine m_callD hX hzo hC [.int (nI (i)), .int (nI (4))] [.int (nI (4)), .int (nI (i)), .ref (h0)] (c_of _ _ _ _ hzo hC v (cmS (thS s nt n) (brs s) s i) r x9 (i) (4) (by omega)) kX7_of tMet_X7_75 rfl rfl (Nat.le_of_ble_eq_true rfl) (Nat.le_of_ble_eq_true rfl) ⟨Nat.le_of_ble_eq_true rfl, Nat.le_of_ble_eq_true rfl⟩ rfl rfl (Nat.le_of_ble_eq_true rfl) dX7_goesOn_97 ?_
              refine g_iload hX 0 rfl dX7_goesOn_100 ?_
              refine g_iadd hX dX7_goesOn_102 ?_
              refine g_iconst hX (v := nI 0) rfl dX7_goesOn_103 ?_
              refine g_sipush hX (v := nI 999) (by decide) dX7_goesOn_104 ?_
              refine s_call hX hzo [.int (((cmS (thS s nt n) (brs s) s i) (6 + 7 * (i) + (4)) + ((offI ((thS s nt n i)) (nI (0))) - (brs s i)))), .int (nI (0)), .int (nI (999))] [.int (nI (4)), .int (nI (i)), .ref (h0)] (c_held _ _ _ _ _ (((cmS (thS s nt n) (brs s) s i) (6 + 7 * (i) + (4)) + ((offI ((thS s nt n i)) (nI (0))) - (brs s i)))) (nI (0)) (nI (999))) kX7_held tMet_X7_116 rfl rfl (Nat.le_of_ble_eq_true rfl) (Nat.le_of_ble_eq_true rfl) ⟨Nat.le_of_ble_eq_true rfl, Nat.le_of_ble_eq_true rfl⟩ rfl rfl (Nat.le_of_ble_eq_true rfl) dX7_goesOn_107 ?_
              refine m_callD hX hzo hC [.int (nI (i)), .int (nI (4)), .int ((heldI (((cmS (thS s nt n) (brs s) s i) (6 + 7 * (i) + (4)) + ((offI ((thS s nt n i)) (nI (0))) - (brs s i)))) (nI (0)) (nI (999))))] [] (c_sets _ _ _ _ hzo hC v (cmS (thS s nt n) (brs s) s i) r x9 (i) (4) (by omega) ((heldI (((cmS (thS s nt n) (brs s) s i) (6 + 7 * (i) + (4)) + ((offI ((thS s nt n i)) (nI (0))) - (brs s i)))) (nI (0)) (nI (999))))) kX7_sets tMet_X7_80 rfl rfl (Nat.le_of_ble_eq_true rfl) (Nat.le_of_ble_eq_true rfl) ⟨Nat.le_of_ble_eq_true rfl, Nat.le_of_ble_eq_true rfl⟩ rfl rfl (Nat.le_of_ble_eq_true rfl) dX7_goesOn_110 ?_
              refine g_aload_n hX 4 rfl rfl dX7_goesOn_113 ?_
              refine g_iload_n hX 1 rfl rfl dX7_goesOn_114 ?_
              refine g_iconst hX (v := nI 2) rfl dX7_goesOn_115 ?_
              refine g_aload_n hX 4 rfl rfl dX7_goesOn_116 ?_
              refine g_iload_n hX 1 rfl rfl dX7_goesOn_117 ?_
              refine g_iconst hX (v := nI 2) rfl dX7_goesOn_118 ?_
              refine m_callD hX hzo hC [.int (nI (i)), .int (nI (2))] [.int (nI (2)), .int (nI (i)), .ref (h0)] (c_of _ _ _ _ hzo hC v (upd (cmS (thS s nt n) (brs s) s i) (6 + 7 * (i) + (4)) ((heldI (((cmS (thS s nt n) (brs s) s i) (6 + 7 * (i) + (4)) + ((offI ((thS s nt n i)) (nI (0))) - (brs s i)))) (nI (0)) (nI (999))))) r x9 (i) (2) (by omega)) kX7_of tMet_X7_75 rfl rfl (Nat.le_of_ble_eq_true rfl) (Nat.le_of_ble_eq_true rfl) ⟨Nat.le_of_ble_eq_true rfl, Nat.le_of_ble_eq_true rfl⟩ rfl rfl (Nat.le_of_ble_eq_true rfl) dX7_goesOn_119 ?_
              refine g_aload_n hX 4 rfl rfl dX7_goesOn_122 ?_
              refine m_getA hX hC 12 (by decide) rfl tFld_X7_43 dX7_goesOn_123 ?_
              refine g_iload_n hX 1 rfl rfl dX7_goesOn_126 ?_
              refine mb_aldN hX hC 12 rfl (show _ < mN 12 from by simp only [mN]; omega) (by decide) dX7_goesOn_127 ?_
              refine g_top (y := .int ((thS s nt n i))) (congrArg Value.int (ht1 i (by omega))) ?_
              refine g_if_le hX 135 (by decide) dX7_goesOn_128 (fun c128 => ?_) (fun c128 => ?_)
              · refine g_iconst hX (v := -1) (by decide) dX7_goesOn_135 ?_
                refine g_iadd hX dX7_goesOn_136 ?_
                refine g_bipush hX (v := -50) (by decide) dX7_goesOn_137 ?_
                refine g_bipush hX (v := nI 50) (by decide) dX7_goesOn_139 ?_
                refine s_call hX hzo [.int (((upd (cmS (thS s nt n) (brs s) s i) (6 + 7 * (i) + (4)) ((heldI (((cmS (thS s nt n) (brs s) s i) (6 + 7 * (i) + (4)) + ((offI ((thS s nt n i)) (nI (0))) - (brs s i)))) (nI (0)) (nI (999))))) (6 + 7 * (i) + (2)) + (-1))), .int ((-50)), .int (nI (50))] [.int (nI (2)), .int (nI (i)), .ref (h0)] (c_held _ _ _ _ _ (((upd (cmS (thS s nt n) (brs s) s i) (6 + 7 * (i) + (4)) ((heldI (((cmS (thS s nt n) (brs s) s i) (6 + 7 * (i) + (4)) + ((offI ((thS s nt n i)) (nI (0))) - (brs s i)))) (nI (0)) (nI (999))))) (6 + 7 * (i) + (2)) + (-1))) ((-50)) (nI (50))) kX7_held tMet_X7_116 rfl rfl (Nat.le_of_ble_eq_true rfl) (Nat.le_of_ble_eq_true rfl) ⟨Nat.le_of_ble_eq_true rfl, Nat.le_of_ble_eq_true rfl⟩ rfl rfl (Nat.le_of_ble_eq_true rfl) dX7_goesOn_141 ?_
                refine m_callD hX hzo hC [.int (nI (i)), .int (nI (2)), .int ((heldI (((upd (cmS (thS s nt n) (brs s) s i) (6 + 7 * (i) + (4)) ((heldI (((cmS (thS s nt n) (brs s) s i) (6 + 7 * (i) + (4)) + ((offI ((thS s nt n i)) (nI (0))) - (brs s i)))) (nI (0)) (nI (999))))) (6 + 7 * (i) + (2)) + (-1))) ((-50)) (nI (50))))] [] (c_sets _ _ _ _ hzo hC v (upd (cmS (thS s nt n) (brs s) s i) (6 + 7 * (i) + (4)) ((heldI (((cmS (thS s nt n) (brs s) s i) (6 + 7 * (i) + (4)) + ((offI ((thS s nt n i)) (nI (0))) - (brs s i)))) (nI (0)) (nI (999))))) r x9 (i) (2) (by omega) ((heldI (((upd (cmS (thS s nt n) (brs s) s i) (6 + 7 * (i) + (4)) ((heldI (((cmS (thS s nt n) (brs s) s i) (6 + 7 * (i) + (4)) + ((offI ((thS s nt n i)) (nI (0))) - (brs s i)))) (nI (0)) (nI (999))))) (6 + 7 * (i) + (2)) + (-1))) ((-50)) (nI (50))))) kX7_sets tMet_X7_80 rfl rfl (Nat.le_of_ble_eq_true rfl) (Nat.le_of_ble_eq_true rfl) ⟨Nat.le_of_ble_eq_true rfl, Nat.le_of_ble_eq_true rfl⟩ rfl rfl (Nat.le_of_ble_eq_true rfl) dX7_goesOn_144 ?_
                refine g_iincN (n := 1) (lv2 := [(3, .int (nI (i + 1))), (4, .int (((offI ((thS s nt n i)) (nI (0))) - (brs s i)))), (1, .int (maskI (sd s) n)), (2, .int (nI (0))), (0, .ref (h0))]) hX 1 3 5 hN rfl (by decide) rfl dX7_goesOn_147 ?_
                refine g_goto hX 49 (by decide) dX7_goesOn_150 ?_
                refine g_lv [0, 2, 3, 4] rfl ?_
                have e : cmS (thS s nt n) (brs s) s (i + 1) = (upd (upd (cmS (thS s nt n) (brs s) s i) (6 + 7 * (i) + (4)) ((heldI (((cmS (thS s nt n) (brs s) s i) (6 + 7 * (i) + (4)) + ((offI ((thS s nt n i)) (nI (0))) - (brs s i)))) (nI (0)) (nI (999))))) (6 + 7 * (i) + (2)) ((heldI (((upd (cmS (thS s nt n) (brs s) s i) (6 + 7 * (i) + (4)) ((heldI (((cmS (thS s nt n) (brs s) s i) (6 + 7 * (i) + (4)) + ((offI ((thS s nt n i)) (nI (0))) - (brs s i)))) (nI (0)) (nI (999))))) (6 + 7 * (i) + (2)) + (-1))) ((-50)) (nI (50))))) := by rw [cmS, cm1, if_pos ⟨c83, c88⟩, if_pos c128, pk_un (show 6 + 7 * i + 2 ≠ 6 + 7 * i + 4 by omega)]
                have K := ih (i + 1) (by omega) (by omega)
                rw [e] at K
                exact K
              · refine g_iconst hX (v := nI 1) rfl dX7_goesOn_131 ?_
                refine g_goto hX 136 (by decide) dX7_goesOn_132 ?_
                refine g_iadd hX dX7_goesOn_136 ?_
                refine g_bipush hX (v := -50) (by decide) dX7_goesOn_137 ?_
                refine g_bipush hX (v := nI 50) (by decide) dX7_goesOn_139 ?_
                refine s_call hX hzo [.int (((upd (cmS (thS s nt n) (brs s) s i) (6 + 7 * (i) + (4)) ((heldI (((cmS (thS s nt n) (brs s) s i) (6 + 7 * (i) + (4)) + ((offI ((thS s nt n i)) (nI (0))) - (brs s i)))) (nI (0)) (nI (999))))) (6 + 7 * (i) + (2)) + nI (1))), .int ((-50)), .int (nI (50))] [.int (nI (2)), .int (nI (i)), .ref (h0)] (c_held _ _ _ _ _ (((upd (cmS (thS s nt n) (brs s) s i) (6 + 7 * (i) + (4)) ((heldI (((cmS (thS s nt n) (brs s) s i) (6 + 7 * (i) + (4)) + ((offI ((thS s nt n i)) (nI (0))) - (brs s i)))) (nI (0)) (nI (999))))) (6 + 7 * (i) + (2)) + nI (1))) ((-50)) (nI (50))) kX7_held tMet_X7_116 rfl rfl (Nat.le_of_ble_eq_true rfl) (Nat.le_of_ble_eq_true rfl) ⟨Nat.le_of_ble_eq_true rfl, Nat.le_of_ble_eq_true rfl⟩ rfl rfl (Nat.le_of_ble_eq_true rfl) dX7_goesOn_141 ?_
                refine m_callD hX hzo hC [.int (nI (i)), .int (nI (2)), .int ((heldI (((upd (cmS (thS s nt n) (brs s) s i) (6 + 7 * (i) + (4)) ((heldI (((cmS (thS s nt n) (brs s) s i) (6 + 7 * (i) + (4)) + ((offI ((thS s nt n i)) (nI (0))) - (brs s i)))) (nI (0)) (nI (999))))) (6 + 7 * (i) + (2)) + nI (1))) ((-50)) (nI (50))))] [] (c_sets _ _ _ _ hzo hC v (upd (cmS (thS s nt n) (brs s) s i) (6 + 7 * (i) + (4)) ((heldI (((cmS (thS s nt n) (brs s) s i) (6 + 7 * (i) + (4)) + ((offI ((thS s nt n i)) (nI (0))) - (brs s i)))) (nI (0)) (nI (999))))) r x9 (i) (2) (by omega) ((heldI (((upd (cmS (thS s nt n) (brs s) s i) (6 + 7 * (i) + (4)) ((heldI (((cmS (thS s nt n) (brs s) s i) (6 + 7 * (i) + (4)) + ((offI ((thS s nt n i)) (nI (0))) - (brs s i)))) (nI (0)) (nI (999))))) (6 + 7 * (i) + (2)) + nI (1))) ((-50)) (nI (50))))) kX7_sets tMet_X7_80 rfl rfl (Nat.le_of_ble_eq_true rfl) (Nat.le_of_ble_eq_true rfl) ⟨Nat.le_of_ble_eq_true rfl, Nat.le_of_ble_eq_true rfl⟩ rfl rfl (Nat.le_of_ble_eq_true rfl) dX7_goesOn_144 ?_
                refine g_iincN (n := 1) (lv2 := [(3, .int (nI (i + 1))), (4, .int (((offI ((thS s nt n i)) (nI (0))) - (brs s i)))), (1, .int (maskI (sd s) n)), (2, .int (nI (0))), (0, .ref (h0))]) hX 1 3 5 hN rfl (by decide) rfl dX7_goesOn_147 ?_
                refine g_goto hX 49 (by decide) dX7_goesOn_150 ?_
                refine g_lv [0, 2, 3, 4] rfl ?_
                have e : cmS (thS s nt n) (brs s) s (i + 1) = (upd (upd (cmS (thS s nt n) (brs s) s i) (6 + 7 * (i) + (4)) ((heldI (((cmS (thS s nt n) (brs s) s i) (6 + 7 * (i) + (4)) + ((offI ((thS s nt n i)) (nI (0))) - (brs s i)))) (nI (0)) (nI (999))))) (6 + 7 * (i) + (2)) ((heldI (((upd (cmS (thS s nt n) (brs s) s i) (6 + 7 * (i) + (4)) ((heldI (((cmS (thS s nt n) (brs s) s i) (6 + 7 * (i) + (4)) + ((offI ((thS s nt n i)) (nI (0))) - (brs s i)))) (nI (0)) (nI (999))))) (6 + 7 * (i) + (2)) + nI (1))) ((-50)) (nI (50))))) := by rw [cmS, cm1, if_pos ⟨c83, c88⟩, if_neg c128, pk_un (show 6 + 7 * i + 2 ≠ 6 + 7 * i + 4 by omega)]
                have K := ih (i + 1) (by omega) (by omega)
                rw [e] at K
                exact K
    refine g_iconst hX (v := nI 0) rfl dX7_goesOn_47 ?_
    refine g_istore_n (lv2 := [(3, .int (nI (0))), (1, .int (maskI (sd s) n)), (2, .int (nI (0))), (0, .ref (h0))]) hX 3 5 hN rfl (by decide) rfl dX7_goesOn_48 ?_
    exact L (n + 1) 0 (by omega) (by omega)
  have L : ∀ (f i : Nat) (x9 : Nat → Nat → Int32), i ≤ n → n + 1 ≤ i + f → (∀ j, j < i → x9 12 j = thS s nt n j) → (∀ j, j < i → x9 13 j = brs s j) → GW κ 0 0 (C v s r x9) 9 [(3, .int (nI (i))), (1, .int (maskI (sd s) n)), (2, .int (nI (0))), (0, .ref (h0))] [] := by
    intro f
    induction f with
    | zero => intro i x9 h1 h2; exact absurd h2 (by omega)
    | succ f ih =>
      intro i x9 h1 h2 ht1 hb1
      refine g_iload_n hX 0 rfl rfl dX7_goesOn_9 ?_
      refine g_aload_n hX 3 rfl rfl dX7_goesOn_10 ?_
      refine m_getA hX hC 0 (by decide) rfl tFld_X7_7 dX7_goesOn_11 ?_
      refine g_iconst hX (v := nI 0) rfl dX7_goesOn_14 ?_
      refine m0_aldN hX hC (by omega) dX7_goesOn_15 ?_
      refine g_top (y := .int (nI (n))) (congrArg Value.int hn) ?_
      refine g_icmpN_ge hX (by omega) (by omega) 47 (by decide) dX7_goesOn_16 (fun c16 => ?_) (fun c16 => ?_)
      · have hi : i = n := by omega
        subst hi
        exact J47 x9 ht1 hb1
      · refine g_aload_n hX 3 rfl rfl dX7_goesOn_19 ?_
        refine m_getA hX hC 12 (by decide) rfl tFld_X7_43 dX7_goesOn_20 ?_
        refine g_iload_n hX 0 rfl rfl dX7_goesOn_23 ?_
        refine g_aload_n hX 3 rfl rfl dX7_goesOn_24 ?_
        refine g_iload_n hX 0 rfl rfl dX7_goesOn_25 ?_
        refine m_call hX hzo hC [.int (nI (i))] [.int (nI (i)), .ref (a 12)] (c_thrust _ _ _ _ hzo hC v s r x9 nt hnt hnt14 htx n hn hn9 (i) (by omega)) kX7_thrust tMet_X7_139 rfl rfl (Nat.le_of_ble_eq_true rfl) (Nat.le_of_ble_eq_true rfl) ⟨Nat.le_of_ble_eq_true rfl, Nat.le_of_ble_eq_true rfl⟩ rfl (Nat.le_of_ble_eq_true rfl) dX7_goesOn_26 ?_
        rintro _ _ ⟨rfl, x26, k26, rfl⟩
        show GW κ 0 0 _ 29 [(3, .int (nI (i))), (1, .int (maskI (sd s) n)), (2, .int (nI (0))), (0, .ref (h0))] [.int ((thS s nt n (i))), .int (nI (i)), .ref (a 12)]
        refine mb_astN hX hC 12 rfl (show _ < mN 12 from by simp only [mN]; omega) (by decide) dX7_goesOn_29 ?_
        refine g_aload_n hX 3 rfl rfl dX7_goesOn_30 ?_
        refine m_getA hX hC 13 (by decide) rfl tFld_X7_46 dX7_goesOn_31 ?_
        refine g_iload_n hX 0 rfl rfl dX7_goesOn_34 ?_
        refine g_aload_n hX 3 rfl rfl dX7_goesOn_35 ?_
        refine g_iload_n hX 0 rfl rfl dX7_goesOn_36 ?_
        refine m_callD hX hzo hC [.int (nI (i))] [.int (nI (i)), .ref (a 13)] (c_bears _ _ _ _ hzo hC v s r (mU x26 12 (upd (x26 12) (i) ((thS s nt n (i))))) (i) (by omega)) kX7_bears tMet_X7_136 rfl rfl (Nat.le_of_ble_eq_true rfl) (Nat.le_of_ble_eq_true rfl) ⟨Nat.le_of_ble_eq_true rfl, Nat.le_of_ble_eq_true rfl⟩ rfl rfl (Nat.le_of_ble_eq_true rfl) dX7_goesOn_37 ?_
        refine mb_astN hX hC 13 rfl (show _ < mN 13 from by simp only [mN]; omega) (by decide) dX7_goesOn_40 ?_
        refine g_iincN (n := 1) (lv2 := [(3, .int (nI (i + 1))), (1, .int (maskI (sd s) n)), (2, .int (nI (0))), (0, .ref (h0))]) hX 0 3 5 hN rfl (by decide) rfl dX7_goesOn_41 ?_
        refine g_goto hX 9 (by decide) dX7_goesOn_44 ?_
        refine ih (i + 1) (mU (mU x26 12 (upd (x26 12) (i) ((thS s nt n (i))))) 13 (upd ((mU x26 12 (upd (x26 12) (i) ((thS s nt n (i))))) 13) (i) ((brs s (i))))) (by omega) (by omega) (fun j hj => ?_) (fun j hj => ?_)
        · rw [mU_n _ _ (by decide), mU_s]
          by_cases h : j = i
          · subst h; exact pk_us
          · rw [pk_un h, k26.1]; exact ht1 j (by omega)
        · rw [mU_s, mU_n _ _ (by decide)]
          by_cases h : j = i
          · subst h; exact pk_us
          · rw [pk_un h, k26.2]; exact hb1 j (by omega)
  refine g_aload_n hX 0 rfl rfl dX7_goesOn_0 ?_
  refine m_callD hX hzo hC [] [] (c_allStanding _ _ _ _ hzo hC v s r x n hn hn9) kX7_allStanding tMet_X7_123 rfl rfl (Nat.le_of_ble_eq_true rfl) (Nat.le_of_ble_eq_true rfl) ⟨Nat.le_of_ble_eq_true rfl, Nat.le_of_ble_eq_true rfl⟩ rfl rfl (Nat.le_of_ble_eq_true rfl) dX7_goesOn_1 ?_
  refine g_istore_n (lv2 := [(1, .int ((maskI (sd s) n))), (0, .ref (h0))]) hX 1 5 hN rfl (by decide) rfl dX7_goesOn_4 ?_
  refine g_iconst hX (v := nI 0) rfl dX7_goesOn_5 ?_
  refine g_istore_n (lv2 := [(2, .int (nI (0))), (1, .int ((maskI (sd s) n))), (0, .ref (h0))]) hX 2 5 hN rfl (by decide) rfl dX7_goesOn_6 ?_
  refine g_iconst hX (v := nI 0) rfl dX7_goesOn_7 ?_
  refine g_istore_n (lv2 := [(3, .int (nI (0))), (2, .int (nI (0))), (1, .int ((maskI (sd s) n))), (0, .ref (h0))]) hX 3 5 hN rfl (by decide) rfl dX7_goesOn_8 ?_
  refine g_lv [0, 2, 1, 3] rfl ?_
  exact L (n + 1) 0 x (by omega) (by omega) (fun j hj => absurd hj (Nat.not_lt_zero _)) (fun j hj => absurd hj (Nat.not_lt_zero _))
end
section
theorem bne {b : Bool} (h : b = false) : ¬ b = true := by rw [h]; decide
/-- z is a house's number -/
def hB (n : Nat) (z : Int32) : Bool := inB z 0 (nI n - nI 1)
def hIx (n : Nat) (z : Int32) : Option Nat := if hB n z then some z.toNatClampNeg else none
theorem hB_t {n : Nat} {z : Int32} (hn : n ≤ 100) (h : hB n z = true) : ∃ k, k < n ∧ z = nI k := by
  rw [hB, inB, Bool.and_eq_true, decide_eq_true_eq, decide_eq_true_eq] at h
  obtain ⟨h1, h2⟩ := h
  have e1 : (0 : Int) ≤ z.toInt := Int32.le_iff_toInt_le.mp h1
  have e2 := Int32.le_iff_toInt_le.mp h2
  have e3 : (nI n - nI 1).toInt = (n : Int) - 1 := pk_sub_toInt (by omega) (by decide)
  rw [e3] at e2
  refine ⟨z.toInt.toNat, by omega, ?_⟩
  apply Int32.toInt_inj.mp
  rw [nI_toInt (by omega)]
  omega
theorem hB_k {n k : Nat} (hn : n ≤ 100) (h : k < n) : hB n (nI k) = true := by
  rw [hB, inB, Bool.and_eq_true, decide_eq_true_eq, decide_eq_true_eq]
  refine ⟨nI_pos' (by omega), ?_⟩
  rw [pk_sub (by omega)]
  exact nI_le (by omega) (by omega)
theorem hIx_k {n k : Nat} (hn : n ≤ 100) (h : k < n) : hIx n (nI k) = some k := by rw [hIx, if_pos (hB_k hn h), nI_clamp (by omega)]
theorem hIx_f {n : Nat} {z : Int32} (h : hB n z = false) : hIx n z = none := by rw [hIx, if_neg (bne h)]
theorem mayB_t {m z : Int32} (h : mayB m z = true) : ∃ j, 1 ≤ j ∧ j ≤ 5 ∧ m = nI j := by
  unfold mayB at h
  by_cases c1 : m = nI 1
  · exact ⟨1, by decide, by decide, c1⟩
  by_cases c2 : m = nI 2
  · exact ⟨2, by decide, by decide, c2⟩
  by_cases c3 : m = nI 3
  · exact ⟨3, by decide, by decide, c3⟩
  by_cases c4 : m = nI 4
  · exact ⟨4, by decide, by decide, c4⟩
  by_cases c5 : m = nI 5
  · exact ⟨5, by decide, by decide, c5⟩
  rw [if_neg c1, if_neg c2, if_neg c3, if_neg c4, if_neg c5] at h
  cases h
/-- how many stand -/
def cntS (s : Nat → Int32) (n : Nat) : Nat := pcN (maskN (sd s) n)
theorem maskN_512 (p : Nat → Bool) {n : Nat} (hn : n ≤ 9) : maskN p n < 512 := Nat.lt_of_lt_of_le (maskN_lt p n) (Nat.pow_le_pow_right (by decide) hn)
def isOfB (z y : Int32) : Bool := decide (z = y) || decide (y = 0) || (decide (y = nI 1) && decide (z = nI 3)) || (decide (y = nI 2) && decide (z = nI 4))
theorem kX7_isOf : mKS yX7_isOf cX7_isOf 2 (some .boolean) 2 := ⟨tSta_X7_isOf, tIni_X7, tCod_X7_isOf, by decide +kernel⟩
set_option maxHeartbeats 4000000 in
set_option maxRecDepth 100000 in
theorem c_isOf (l : Launch) (D : va_G) (cy : Nat → ClassId) (Z : (Nat → Prop) → State → Heap → Prop) (w : va_W) (z y : Int32) : GD l D cy Z yX7_isOf (zW yX7_isOf cX7_isOf 2 (some .boolean)) { frames := 0, cells := 0, slots := 0, locals := 0 } [.int (z), .int (y)] w (some (.int (bI (isOfB z y)))) w 0 0 := by
  refine g_entry (cc := cX7_isOf) (maxL := 2) (by decide) rfl (Nat.le_of_ble_eq_true rfl) ?_
  intro κ hN hX hR
  have hX : GX κ cy Z cX7_isOf (Cond.code yX7_isOf cX7_isOf 2 (some .boolean) :: zT) RX7 { frames := 0, cells := 0, slots := 0, locals := 0 } := hX
  show GW κ 0 0 _ 0 [(0, .int (z)), (1, .int (y))] []
  refine g_iload_n hX 0 rfl rfl dX7_isOf_0 ?_
  refine g_iload_n hX 1 rfl rfl dX7_isOf_1 ?_
  refine g_icmp_eq hX 29 (by decide) dX7_isOf_2 (fun c2 => ?_) (fun c2 => ?_)
  · refine g_iconst hX (v := nI 1) rfl dX7_isOf_29 ?_
    refine g_goto hX 34 (by decide) dX7_isOf_30 ?_
    exact g_retz hR (bI_one _ (by simp [isOfB, c2])) rfl dX7_isOf_34
  · refine g_iload_n hX 1 rfl rfl dX7_isOf_5 ?_
    refine g_if_eq hX 29 (by decide) dX7_isOf_6 (fun c6 => ?_) (fun c6 => ?_)
    · refine g_iconst hX (v := nI 1) rfl dX7_isOf_29 ?_
      refine g_goto hX 34 (by decide) dX7_isOf_30 ?_
      exact g_retz hR (bI_one _ (by simp [isOfB, c6])) rfl dX7_isOf_34
    · refine g_iload_n hX 1 rfl rfl dX7_isOf_9 ?_
      refine g_iconst hX (v := nI 1) rfl dX7_isOf_10 ?_
      refine g_icmp_ne hX 19 (by decide) dX7_isOf_11 (fun c11 => ?_) (fun c11 => ?_)
      · refine g_iload_n hX 1 rfl rfl dX7_isOf_19 ?_
        refine g_iconst hX (v := nI 2) rfl dX7_isOf_20 ?_
        refine g_icmp_ne hX 33 (by decide) dX7_isOf_21 (fun c21 => ?_) (fun c21 => ?_)
        · refine g_iconst hX (v := nI 0) rfl dX7_isOf_33 ?_
          exact g_retz hR (bI_zero _ (by have e1 : (decide (y = nI 1) && decide (z = nI 3)) = false := (by rw [decide_eq_false c11, Bool.false_and]); have e2 : (decide (y = nI 2) && decide (z = nI 4)) = false := (by rw [decide_eq_false c21, Bool.false_and]); rw [isOfB, decide_eq_false c2, decide_eq_false c6, e1, e2]; rfl)) rfl dX7_isOf_34
        · refine g_iload_n hX 0 rfl rfl dX7_isOf_24 ?_
          refine g_iconst hX (v := nI 4) rfl dX7_isOf_25 ?_
          refine g_icmp_ne hX 33 (by decide) dX7_isOf_26 (fun c26 => ?_) (fun c26 => ?_)
          · refine g_iconst hX (v := nI 0) rfl dX7_isOf_33 ?_
            exact g_retz hR (bI_zero _ (by have e1 : (decide (y = nI 1) && decide (z = nI 3)) = false := (by rw [decide_eq_false c11, Bool.false_and]); have e2 : (decide (y = nI 2) && decide (z = nI 4)) = false := (by rw [decide_eq_false c26, Bool.and_false]); rw [isOfB, decide_eq_false c2, decide_eq_false c6, e1, e2]; rfl)) rfl dX7_isOf_34
          · refine g_iconst hX (v := nI 1) rfl dX7_isOf_29 ?_
            refine g_goto hX 34 (by decide) dX7_isOf_30 ?_
            exact g_retz hR (bI_one _ (by simp [isOfB, c21, c26])) rfl dX7_isOf_34
      · refine g_iload_n hX 0 rfl rfl dX7_isOf_14 ?_
        refine g_iconst hX (v := nI 3) rfl dX7_isOf_15 ?_
        refine g_icmp_eq hX 29 (by decide) dX7_isOf_16 (fun c16 => ?_) (fun c16 => ?_)
        · refine g_iconst hX (v := nI 1) rfl dX7_isOf_29 ?_
          refine g_goto hX 34 (by decide) dX7_isOf_30 ?_
          exact g_retz hR (bI_one _ (by simp [isOfB, c11, c16])) rfl dX7_isOf_34
        · refine g_iload_n hX 1 rfl rfl dX7_isOf_19 ?_
          refine g_iconst hX (v := nI 2) rfl dX7_isOf_20 ?_
          refine g_icmp_ne hX 33 (by decide) dX7_isOf_21 (fun c21 => ?_) (fun c21 => ?_)
          · refine g_iconst hX (v := nI 0) rfl dX7_isOf_33 ?_
            exact g_retz hR (bI_zero _ (by have e1 : (decide (y = nI 1) && decide (z = nI 3)) = false := (by rw [decide_eq_false c16, Bool.and_false]); have e2 : (decide (y = nI 2) && decide (z = nI 4)) = false := (by rw [decide_eq_false c21, Bool.false_and]); rw [isOfB, decide_eq_false c2, decide_eq_false c6, e1, e2]; rfl)) rfl dX7_isOf_34
          · refine g_iload_n hX 0 rfl rfl dX7_isOf_24 ?_
            refine g_iconst hX (v := nI 4) rfl dX7_isOf_25 ?_
            refine g_icmp_ne hX 33 (by decide) dX7_isOf_26 (fun c26 => ?_) (fun c26 => ?_)
            · refine g_iconst hX (v := nI 0) rfl dX7_isOf_33 ?_
              exact g_retz hR (bI_zero _ (by have e1 : (decide (y = nI 1) && decide (z = nI 3)) = false := (by rw [decide_eq_false c16, Bool.and_false]); have e2 : (decide (y = nI 2) && decide (z = nI 4)) = false := (by rw [decide_eq_false c26, Bool.and_false]); rw [isOfB, decide_eq_false c2, decide_eq_false c6, e1, e2]; rfl)) rfl dX7_isOf_34
            · refine g_iconst hX (v := nI 1) rfl dX7_isOf_29 ?_
              refine g_goto hX 34 (by decide) dX7_isOf_30 ?_
              exact g_retz hR (bI_one _ (by simp [isOfB, c21, c26])) rfl dX7_isOf_34
theorem c_isHouseN (l : Launch) (D : va_G) (cy : Nat → ClassId) (Z : (Nat → Prop) → State → Heap → Prop) (hzo : zOK Z) {h0 : Nat} {a q : Nat → Nat} {C : (Nat → Int32) → (Nat → Int32) → (Nat → Nat → Int32) → (Nat → Nat → Int32) → va_W} (hC : mLens (cy 0) h0 a q C) (v s : Nat → Int32) (r x : Nat → Nat → Int32) (n : Nat) (hn : s 0 = nI n) (z : Int32) : GD l D cy Z yX7_isHouse (zW yX7_isHouse cX7_isHouse 2 (some .boolean)) { frames := 1, cells := 0, slots := 0, locals := 25 } [.ref h0, .int z] (C v s r x) (some (.int (bI (hB n z)))) (C v s r x) 0 0 := by
  have h := c_isHouse l D cy Z hzo hC v s r x z
  rw [hn] at h
  exact h
def houseP (s : Nat → Int32) (n : Nat) (a0 a1 a2 a3 : Int32) : Int32 × (Nat → Int32) := if inB a0 0 5 && mayB (nI 1) a1 && mayB (nI 2) a2 && mayB (nI 3) a3 then (if n = 9 then (-1000000003, s) else (nI (n + 1) - nI 1, houseS s n a0 a1 a2 a3)) else (-1000000001, s)
theorem houseS_0 (s : Nat → Int32) (k : Nat) (a0 a1 a2 a3 : Int32) : houseS s k a0 a1 a2 a3 0 = nI (k + 1) := by rw [houseS, pk_un (by omega), pk_un (by omega), pk_un (by omega), pk_un (by omega), pk_un (by omega), pk_un (by omega), pk_un (by omega), pk_us]
theorem kX7_house : mKV RX7 yX7_house cX7_house 5 (some .int) 4 := ⟨tIns_X7_house, tSel_X7_house, tIni_X7, tCod_X7_house, by decide +kernel⟩
set_option maxHeartbeats 4000000 in
set_option maxRecDepth 100000 in
theorem c_house (l : Launch) (D : va_G) (cy : Nat → ClassId) (Z : (Nat → Prop) → State → Heap → Prop) (hzo : zOK Z) {h0 : Nat} {a q : Nat → Nat} {C : (Nat → Int32) → (Nat → Int32) → (Nat → Nat → Int32) → (Nat → Nat → Int32) → va_W} (hC : mLens (cy 0) h0 a q C) (v s : Nat → Int32) (r x : Nat → Nat → Int32) (n : Nat) (hn : s 0 = nI n) (hn9 : n ≤ 9) (a0 a1 a2 a3 : Int32) : GM l D cy Z yX7_house (zW yX7_house cX7_house 5 (some .int)) { frames := 2, cells := 0, slots := 0, locals := 48 } [.ref (h0), .int (a0), .int (a1), .int (a2), .int (a3)] (C v s r x) (fun res w2 => res = some (.int (houseP s n a0 a1 a2 a3).1) ∧ ∃ x2, w2 = C v (houseP s n a0 a1 a2 a3).2 r x2) 0 0 := by
  refine g_entry (cc := cX7_house) (maxL := 5) (by decide) rfl (Nat.le_of_ble_eq_true rfl) ?_
  intro κ hN hX hR
  have hX : GX κ cy Z cX7_house (Cond.code yX7_house cX7_house 5 (some .int) :: zT) RX7 { frames := 2, cells := 0, slots := 0, locals := 48 } := hX
  show GW κ 0 0 _ 0 [(0, .ref (h0)), (1, .int (a0)), (2, .int (a1)), (3, .int (a2)), (4, .int (a3))] []
  refine g_iload_n hX 1 rfl rfl dX7_house_0 ?_
  refine g_i2l hX dX7_house_1 ?_
  refine g_lconst hX (v := Int32.toInt64 (0)) (by decide) dX7_house_2 ?_
  refine g_ldc2 hX (v := Int32.toInt64 (5)) (zu tCoL_X7_94 rfl) dX7_house_3 ?_
  refine s_call hX hzo [.long (Int32.toInt64 (a0)), .long (Int32.toInt64 ((0))), .long (Int32.toInt64 ((5)))] [] (c_isIn _ _ _ _ _ (a0) ((0)) ((5))) kX7_isIn tMet_X7_71 rfl rfl (Nat.le_of_ble_eq_true rfl) (Nat.le_of_ble_eq_true rfl) ⟨Nat.le_of_ble_eq_true rfl, Nat.le_of_ble_eq_true rfl⟩ rfl rfl (Nat.le_of_ble_eq_true rfl) dX7_house_6 ?_
  refine g_ifb_eq hX 37 (by decide) dX7_house_9 (fun c9 => ?_) (fun c9 => ?_)
  · refine g_ldc hX (v := -1000000001) (zu tCon_X7_100 rfl) dX7_house_37 ?_
    have E : houseP s n a0 a1 a2 a3 = ((-1000000001), s) := by rw [houseP, if_neg (by rw [c9]; simp)]
    exact g_retiP hR ⟨by rw [E], x, by rw [E]⟩ dX7_house_39
  · refine g_iconst hX (v := nI 1) rfl dX7_house_12 ?_
    refine g_iload_n hX 2 rfl rfl dX7_house_13 ?_
    refine s_call hX hzo [.int (nI (1)), .int (a1)] [] (c_mayBe _ _ _ _ hzo _ (nI (1)) (a1)) kX7_mayBe tMet_X7_96 rfl rfl (Nat.le_of_ble_eq_true rfl) (Nat.le_of_ble_eq_true rfl) ⟨Nat.le_of_ble_eq_true rfl, Nat.le_of_ble_eq_true rfl⟩ rfl rfl (Nat.le_of_ble_eq_true rfl) dX7_house_14 ?_
    refine g_ifb_eq hX 37 (by decide) dX7_house_17 (fun c17 => ?_) (fun c17 => ?_)
    · refine g_ldc hX (v := -1000000001) (zu tCon_X7_100 rfl) dX7_house_37 ?_
      have E : houseP s n a0 a1 a2 a3 = ((-1000000001), s) := by rw [houseP, if_neg (by rw [c17]; simp)]
      exact g_retiP hR ⟨by rw [E], x, by rw [E]⟩ dX7_house_39
    · refine g_iconst hX (v := nI 2) rfl dX7_house_20 ?_
      refine g_iload_n hX 3 rfl rfl dX7_house_21 ?_
      refine s_call hX hzo [.int (nI (2)), .int (a2)] [] (c_mayBe _ _ _ _ hzo _ (nI (2)) (a2)) kX7_mayBe tMet_X7_96 rfl rfl (Nat.le_of_ble_eq_true rfl) (Nat.le_of_ble_eq_true rfl) ⟨Nat.le_of_ble_eq_true rfl, Nat.le_of_ble_eq_true rfl⟩ rfl rfl (Nat.le_of_ble_eq_true rfl) dX7_house_22 ?_
      refine g_ifb_eq hX 37 (by decide) dX7_house_25 (fun c25 => ?_) (fun c25 => ?_)
      · refine g_ldc hX (v := -1000000001) (zu tCon_X7_100 rfl) dX7_house_37 ?_
        have E : houseP s n a0 a1 a2 a3 = ((-1000000001), s) := by rw [houseP, if_neg (by rw [c25]; simp)]
        exact g_retiP hR ⟨by rw [E], x, by rw [E]⟩ dX7_house_39
      · refine g_iconst hX (v := nI 3) rfl dX7_house_28 ?_
        refine g_iload hX 4 rfl dX7_house_29 ?_
        refine s_call hX hzo [.int (nI (3)), .int (a3)] [] (c_mayBe _ _ _ _ hzo _ (nI (3)) (a3)) kX7_mayBe tMet_X7_96 rfl rfl (Nat.le_of_ble_eq_true rfl) (Nat.le_of_ble_eq_true rfl) ⟨Nat.le_of_ble_eq_true rfl, Nat.le_of_ble_eq_true rfl⟩ rfl rfl (Nat.le_of_ble_eq_true rfl) dX7_house_31 ?_
        refine g_ifb_ne hX 40 (by decide) dX7_house_34 (fun c34 => ?_) (fun c34 => ?_)
        · refine g_aload_n hX 0 rfl rfl dX7_house_40 ?_
          refine m_getA hX hC 0 (by decide) rfl tFld_X7_7 dX7_house_41 ?_
          refine g_iconst hX (v := nI 0) rfl dX7_house_44 ?_
          refine m0_aldN hX hC (by omega) dX7_house_45 ?_
          refine g_top (y := .int (nI (n))) (congrArg Value.int hn) ?_
          refine g_bipush hX (v := nI 9) (by decide) dX7_house_46 ?_
          refine g_icmpN_ne hX (by omega) (by omega) 54 (by decide) dX7_house_48 (fun c48 => ?_) (fun c48 => ?_)
          · refine g_aload_n hX 0 rfl rfl dX7_house_54 ?_
            refine g_iload_n hX 1 rfl rfl dX7_house_55 ?_
            refine g_iload_n hX 2 rfl rfl dX7_house_56 ?_
            refine g_iload_n hX 3 rfl rfl dX7_house_57 ?_
            refine g_iload hX 4 rfl dX7_house_58 ?_
            refine m_callD hX hzo hC [.int (a0), .int (a1), .int (a2), .int (a3)] [] (c_comes _ _ _ _ hzo hC v s r x n hn (by omega) (a0) (a1) (a2) (a3)) kX7_comes tMet_X7_102 rfl rfl (Nat.le_of_ble_eq_true rfl) (Nat.le_of_ble_eq_true rfl) ⟨Nat.le_of_ble_eq_true rfl, Nat.le_of_ble_eq_true rfl⟩ rfl rfl (Nat.le_of_ble_eq_true rfl) dX7_house_60 ?_
            refine g_aload_n hX 0 rfl rfl dX7_house_63 ?_
            refine m_getA hX hC 0 (by decide) rfl tFld_X7_7 dX7_house_64 ?_
            refine g_iconst hX (v := nI 0) rfl dX7_house_67 ?_
            refine m0_aldN hX hC (by omega) dX7_house_68 ?_
            refine g_top (y := .int (nI (n + 1))) (congrArg Value.int (show houseS s n a0 a1 a2 a3 0 = nI (n + 1) from houseS_0 _ _ _ _ _ _)) ?_
            refine g_iconst hX (v := nI 1) rfl dX7_house_69 ?_
            refine g_isub hX dX7_house_70 ?_
            have E : houseP s n a0 a1 a2 a3 = ((nI (n + 1) - nI (1)), (houseS s n (a0) (a1) (a2) (a3))) := by rw [houseP, if_pos (by rw [c9, c17, c25, c34]; rfl), if_neg c48]
            exact g_retiP hR ⟨by rw [E], x, by rw [E]⟩ dX7_house_71
          · refine g_ldc hX (v := -1000000003) (zu tCon_X7_101 rfl) dX7_house_51 ?_
            have E : houseP s n a0 a1 a2 a3 = ((-1000000003), s) := by rw [houseP, if_pos (by rw [c9, c17, c25, c34]; rfl), if_pos c48]
            exact g_retiP hR ⟨by rw [E], x, by rw [E]⟩ dX7_house_53
        · refine g_ldc hX (v := -1000000001) (zu tCon_X7_100 rfl) dX7_house_37 ?_
          have E : houseP s n a0 a1 a2 a3 = ((-1000000001), s) := by rw [houseP, if_neg (by rw [c34]; simp)]
          exact g_retiP hR ⟨by rw [E], x, by rw [E]⟩ dX7_house_39
def toldP (s : Nat → Int32) (nt n : Nat) (z y : Int32) : Int32 := match hIx n z with
  | none => -1000000001
  | some k => if y = nI 0 then s (6 + 7 * k + 0) else if y = nI 1 then s (6 + 7 * k + 1) else if y = nI 2 then s (6 + 7 * k + 2) else if y = nI 3 then s (6 + 7 * k + 3) else if y = nI 4 then s (6 + 7 * k + 4) else if y = nI 5 then s (6 + 7 * k + 5) else if y = nI 6 then nI 1 - s (6 + 7 * k + 6) else if y = nI 7 then puS s nt k else if y = nI 8 then brs s k else if y = nI 9 then thS s nt n k else if y = nI 10 then wth s k else -1000000001
theorem kX7_told : mKV RX7 yX7_told cX7_told 3 (some .int) 2 := ⟨tIns_X7_told, tSel_X7_told, tIni_X7, tCod_X7_told, by decide +kernel⟩
set_option maxHeartbeats 4000000 in
set_option maxRecDepth 100000 in
theorem c_told (l : Launch) (D : va_G) (cy : Nat → ClassId) (Z : (Nat → Prop) → State → Heap → Prop) (hzo : zOK Z) {h0 : Nat} {a q : Nat → Nat} {C : (Nat → Int32) → (Nat → Int32) → (Nat → Nat → Int32) → (Nat → Nat → Int32) → va_W} (hC : mLens (cy 0) h0 a q C) (v s : Nat → Int32) (r x : Nat → Nat → Int32) (nt : Nat) (hnt : s 1 = nI nt) (hnt14 : nt ≤ 14) (htx : ∀ t, t < nt → textOK s t) (n : Nat) (hn : s 0 = nI n) (hn9 : n ≤ 9) (z y : Int32) : GM l D cy Z yX7_told (zW yX7_told cX7_told 3 (some .int)) { frames := 4, cells := 0, slots := 0, locals := 96 } [.ref (h0), .int (z), .int (y)] (C v s r x) (fun res w2 => res = some (.int (toldP s nt n z y)) ∧ ∃ x2, w2 = C v s r x2) 0 0 := by
  refine g_entry (cc := cX7_told) (maxL := 3) (by decide) rfl (Nat.le_of_ble_eq_true rfl) ?_
  intro κ hN hX hR
  have hX : GX κ cy Z cX7_told (Cond.code yX7_told cX7_told 3 (some .int) :: zT) RX7 { frames := 4, cells := 0, slots := 0, locals := 96 } := hX
  show GW κ 0 0 _ 0 [(0, .ref (h0)), (1, .int (z)), (2, .int (y))] []
  refine g_aload_n hX 0 rfl rfl dX7_told_0 ?_
  refine g_iload_n hX 1 rfl rfl dX7_told_1 ?_
  refine m_callD hX hzo hC [.int (z)] [] (c_isHouseN _ _ _ _ hzo hC v s r x n hn (z)) kX7_isHouse tMet_X7_133 rfl rfl (Nat.le_of_ble_eq_true rfl) (Nat.le_of_ble_eq_true rfl) ⟨Nat.le_of_ble_eq_true rfl, Nat.le_of_ble_eq_true rfl⟩ rfl rfl (Nat.le_of_ble_eq_true rfl) dX7_told_2 ?_
  refine g_ifb_ne hX 11 (by decide) dX7_told_5 (fun c5 => ?_) (fun c5 => ?_)
  · obtain ⟨k, hk, rfl⟩ := hB_t (by omega) c5
    refine g_iload_n hX 2 rfl rfl dX7_told_11 ?_
    rcases sw_in (y) 0 10 (by decide) with w12 | ⟨j12, w12a, w12b, w12⟩
    · refine g_tableOut hX 113 w12 (by decide) dX7_told_12 ?_
      refine g_ldc hX (v := -1000000001) (zu tCon_X7_100 rfl) dX7_told_113 ?_
      have E : toldP s nt n (nI k) y = (-1000000001) := by rw [toldP, hIx_k (by omega) hk]; show (if _ then _ else _) = _; rw [if_neg (sw_out w12 0 (by decide) (by decide) (by decide)), if_neg (sw_out w12 1 (by decide) (by decide) (by decide)), if_neg (sw_out w12 2 (by decide) (by decide) (by decide)), if_neg (sw_out w12 3 (by decide) (by decide) (by decide)), if_neg (sw_out w12 4 (by decide) (by decide) (by decide)), if_neg (sw_out w12 5 (by decide) (by decide) (by decide)), if_neg (sw_out w12 6 (by decide) (by decide) (by decide)), if_neg (sw_out w12 7 (by decide) (by decide) (by decide)), if_neg (sw_out w12 8 (by decide) (by decide) (by decide)), if_neg (sw_out w12 9 (by decide) (by decide) (by decide)), if_neg (sw_out w12 10 (by decide) (by decide) (by decide))]
      exact g_retiP hR ⟨by rw [E], x, rfl⟩ dX7_told_115
    · have hj : j12 = 0 ∨ j12 = 1 ∨ j12 = 2 ∨ j12 = 3 ∨ j12 = 4 ∨ j12 = 5 ∨ j12 = 6 ∨ j12 = 7 ∨ j12 = 8 ∨ j12 = 9 ∨ j12 = 10 := by omega
      rcases hj with rfl | rfl | rfl | rfl | rfl | rfl | rfl | rfl | rfl | rfl | rfl
      · subst w12
        refine g_tableIn hX 72 (by decide) (by decide) rfl (by decide) dX7_told_12 ?_
        refine g_aload_n hX 0 rfl rfl dX7_told_72 ?_
        refine g_iload_n hX 1 rfl rfl dX7_told_73 ?_
        refine g_iload_n hX 2 rfl rfl dX7_told_74 ?_
        refine m_callD hX hzo hC [.int (nI (k)), .int (nI (0))] [] (c_of _ _ _ _ hzo hC v s r x (k) (0) (by omega)) kX7_of tMet_X7_75 rfl rfl (Nat.le_of_ble_eq_true rfl) (Nat.le_of_ble_eq_true rfl) ⟨Nat.le_of_ble_eq_true rfl, Nat.le_of_ble_eq_true rfl⟩ rfl rfl (Nat.le_of_ble_eq_true rfl) dX7_told_75 ?_
        have E : toldP s nt n (nI k) (nI 0) = s (6 + 7 * (k) + (0)) := by rw [toldP, hIx_k (by omega) hk]; rfl
        exact g_retiP hR ⟨by rw [E], x, rfl⟩ dX7_told_78
      · subst w12
        refine g_tableIn hX 72 (by decide) (by decide) rfl (by decide) dX7_told_12 ?_
        refine g_aload_n hX 0 rfl rfl dX7_told_72 ?_
        refine g_iload_n hX 1 rfl rfl dX7_told_73 ?_
        refine g_iload_n hX 2 rfl rfl dX7_told_74 ?_
        refine m_callD hX hzo hC [.int (nI (k)), .int (nI (1))] [] (c_of _ _ _ _ hzo hC v s r x (k) (1) (by omega)) kX7_of tMet_X7_75 rfl rfl (Nat.le_of_ble_eq_true rfl) (Nat.le_of_ble_eq_true rfl) ⟨Nat.le_of_ble_eq_true rfl, Nat.le_of_ble_eq_true rfl⟩ rfl rfl (Nat.le_of_ble_eq_true rfl) dX7_told_75 ?_
        have E : toldP s nt n (nI k) (nI 1) = s (6 + 7 * (k) + (1)) := by rw [toldP, hIx_k (by omega) hk]; rfl
        exact g_retiP hR ⟨by rw [E], x, rfl⟩ dX7_told_78
      · subst w12
        refine g_tableIn hX 72 (by decide) (by decide) rfl (by decide) dX7_told_12 ?_
        refine g_aload_n hX 0 rfl rfl dX7_told_72 ?_
        refine g_iload_n hX 1 rfl rfl dX7_told_73 ?_
        refine g_iload_n hX 2 rfl rfl dX7_told_74 ?_
        refine m_callD hX hzo hC [.int (nI (k)), .int (nI (2))] [] (c_of _ _ _ _ hzo hC v s r x (k) (2) (by omega)) kX7_of tMet_X7_75 rfl rfl (Nat.le_of_ble_eq_true rfl) (Nat.le_of_ble_eq_true rfl) ⟨Nat.le_of_ble_eq_true rfl, Nat.le_of_ble_eq_true rfl⟩ rfl rfl (Nat.le_of_ble_eq_true rfl) dX7_told_75 ?_
        have E : toldP s nt n (nI k) (nI 2) = s (6 + 7 * (k) + (2)) := by rw [toldP, hIx_k (by omega) hk]; rfl
        exact g_retiP hR ⟨by rw [E], x, rfl⟩ dX7_told_78
      · subst w12
        refine g_tableIn hX 72 (by decide) (by decide) rfl (by decide) dX7_told_12 ?_
        refine g_aload_n hX 0 rfl rfl dX7_told_72 ?_
        refine g_iload_n hX 1 rfl rfl dX7_told_73 ?_
        refine g_iload_n hX 2 rfl rfl dX7_told_74 ?_
        refine m_callD hX hzo hC [.int (nI (k)), .int (nI (3))] [] (c_of _ _ _ _ hzo hC v s r x (k) (3) (by omega)) kX7_of tMet_X7_75 rfl rfl (Nat.le_of_ble_eq_true rfl) (Nat.le_of_ble_eq_true rfl) ⟨Nat.le_of_ble_eq_true rfl, Nat.le_of_ble_eq_true rfl⟩ rfl rfl (Nat.le_of_ble_eq_true rfl) dX7_told_75 ?_
        have E : toldP s nt n (nI k) (nI 3) = s (6 + 7 * (k) + (3)) := by rw [toldP, hIx_k (by omega) hk]; rfl
        exact g_retiP hR ⟨by rw [E], x, rfl⟩ dX7_told_78
      · subst w12
        refine g_tableIn hX 72 (by decide) (by decide) rfl (by decide) dX7_told_12 ?_
        refine g_aload_n hX 0 rfl rfl dX7_told_72 ?_
        refine g_iload_n hX 1 rfl rfl dX7_told_73 ?_
        refine g_iload_n hX 2 rfl rfl dX7_told_74 ?_
        refine m_callD hX hzo hC [.int (nI (k)), .int (nI (4))] [] (c_of _ _ _ _ hzo hC v s r x (k) (4) (by omega)) kX7_of tMet_X7_75 rfl rfl (Nat.le_of_ble_eq_true rfl) (Nat.le_of_ble_eq_true rfl) ⟨Nat.le_of_ble_eq_true rfl, Nat.le_of_ble_eq_true rfl⟩ rfl rfl (Nat.le_of_ble_eq_true rfl) dX7_told_75 ?_
        have E : toldP s nt n (nI k) (nI 4) = s (6 + 7 * (k) + (4)) := by rw [toldP, hIx_k (by omega) hk]; rfl
        exact g_retiP hR ⟨by rw [E], x, rfl⟩ dX7_told_78
      · subst w12
        refine g_tableIn hX 72 (by decide) (by decide) rfl (by decide) dX7_told_12 ?_
        refine g_aload_n hX 0 rfl rfl dX7_told_72 ?_
        refine g_iload_n hX 1 rfl rfl dX7_told_73 ?_
        refine g_iload_n hX 2 rfl rfl dX7_told_74 ?_
        refine m_callD hX hzo hC [.int (nI (k)), .int (nI (5))] [] (c_of _ _ _ _ hzo hC v s r x (k) (5) (by omega)) kX7_of tMet_X7_75 rfl rfl (Nat.le_of_ble_eq_true rfl) (Nat.le_of_ble_eq_true rfl) ⟨Nat.le_of_ble_eq_true rfl, Nat.le_of_ble_eq_true rfl⟩ rfl rfl (Nat.le_of_ble_eq_true rfl) dX7_told_75 ?_
        have E : toldP s nt n (nI k) (nI 5) = s (6 + 7 * (k) + (5)) := by rw [toldP, hIx_k (by omega) hk]; rfl
        exact g_retiP hR ⟨by rw [E], x, rfl⟩ dX7_told_78
      · subst w12
        refine g_tableIn hX 79 (by decide) (by decide) rfl (by decide) dX7_told_12 ?_
        refine g_iconst hX (v := nI 1) rfl dX7_told_79 ?_
        refine g_aload_n hX 0 rfl rfl dX7_told_80 ?_
        refine g_iload_n hX 1 rfl rfl dX7_told_81 ?_
        refine g_bipush hX (v := nI 6) (by decide) dX7_told_82 ?_
        refine m_callD hX hzo hC [.int (nI (k)), .int (nI (6))] [.int (nI (1))] (c_of _ _ _ _ hzo hC v s r x (k) (6) (by omega)) kX7_of tMet_X7_75 rfl rfl (Nat.le_of_ble_eq_true rfl) (Nat.le_of_ble_eq_true rfl) ⟨Nat.le_of_ble_eq_true rfl, Nat.le_of_ble_eq_true rfl⟩ rfl rfl (Nat.le_of_ble_eq_true rfl) dX7_told_84 ?_
        refine g_isub hX dX7_told_87 ?_
        have E : toldP s nt n (nI k) (nI 6) = (nI (1) - s (6 + 7 * (k) + (6))) := by rw [toldP, hIx_k (by omega) hk]; rfl
        exact g_retiP hR ⟨by rw [E], x, rfl⟩ dX7_told_88
      · subst w12
        refine g_tableIn hX 89 (by decide) (by decide) rfl (by decide) dX7_told_12 ?_
        refine g_aload_n hX 0 rfl rfl dX7_told_89 ?_
        refine g_iload_n hX 1 rfl rfl dX7_told_90 ?_
        refine m_call hX hzo hC [.int (nI (k))] [] (c_pushes _ _ _ _ hzo hC v s r x nt hnt hnt14 htx (k) (by omega)) kX7_pushes tMet_X7_130 rfl rfl (Nat.le_of_ble_eq_true rfl) (Nat.le_of_ble_eq_true rfl) ⟨Nat.le_of_ble_eq_true rfl, Nat.le_of_ble_eq_true rfl⟩ rfl (Nat.le_of_ble_eq_true rfl) dX7_told_91 ?_
        rintro _ _ ⟨rfl, x91, k91, rfl⟩
        show GW κ 0 0 _ 94 [(0, .ref (h0)), (1, .int (nI (k))), (2, .int (nI (7)))] [.int ((puS s nt (k)))]
        have E : toldP s nt n (nI k) (nI 7) = (puS s nt (k)) := by rw [toldP, hIx_k (by omega) hk]; rfl
        exact g_retiP hR ⟨by rw [E], x91, rfl⟩ dX7_told_94
      · subst w12
        refine g_tableIn hX 95 (by decide) (by decide) rfl (by decide) dX7_told_12 ?_
        refine g_aload_n hX 0 rfl rfl dX7_told_95 ?_
        refine g_iload_n hX 1 rfl rfl dX7_told_96 ?_
        refine m_callD hX hzo hC [.int (nI (k))] [] (c_bears _ _ _ _ hzo hC v s r x (k) (by omega)) kX7_bears tMet_X7_136 rfl rfl (Nat.le_of_ble_eq_true rfl) (Nat.le_of_ble_eq_true rfl) ⟨Nat.le_of_ble_eq_true rfl, Nat.le_of_ble_eq_true rfl⟩ rfl rfl (Nat.le_of_ble_eq_true rfl) dX7_told_97 ?_
        have E : toldP s nt n (nI k) (nI 8) = (brs s (k)) := by rw [toldP, hIx_k (by omega) hk]; rfl
        exact g_retiP hR ⟨by rw [E], x, rfl⟩ dX7_told_100
      · subst w12
        refine g_tableIn hX 101 (by decide) (by decide) rfl (by decide) dX7_told_12 ?_
        refine g_aload_n hX 0 rfl rfl dX7_told_101 ?_
        refine g_iload_n hX 1 rfl rfl dX7_told_102 ?_
        refine m_call hX hzo hC [.int (nI (k))] [] (c_thrust _ _ _ _ hzo hC v s r x nt hnt hnt14 htx n hn hn9 (k) (by omega)) kX7_thrust tMet_X7_139 rfl rfl (Nat.le_of_ble_eq_true rfl) (Nat.le_of_ble_eq_true rfl) ⟨Nat.le_of_ble_eq_true rfl, Nat.le_of_ble_eq_true rfl⟩ rfl (Nat.le_of_ble_eq_true rfl) dX7_told_103 ?_
        rintro _ _ ⟨rfl, x103, k103, rfl⟩
        show GW κ 0 0 _ 106 [(0, .ref (h0)), (1, .int (nI (k))), (2, .int (nI (9)))] [.int ((thS s nt n (k)))]
        have E : toldP s nt n (nI k) (nI 9) = (thS s nt n (k)) := by rw [toldP, hIx_k (by omega) hk]; rfl
        exact g_retiP hR ⟨by rw [E], x103, rfl⟩ dX7_told_106
      · subst w12
        refine g_tableIn hX 107 (by decide) (by decide) rfl (by decide) dX7_told_12 ?_
        refine g_aload_n hX 0 rfl rfl dX7_told_107 ?_
        refine g_iload_n hX 1 rfl rfl dX7_told_108 ?_
        refine m_callD hX hzo hC [.int (nI (k))] [] (c_worth _ _ _ _ hzo hC v s r x (k) (by omega)) kX7_worth tMet_X7_142 rfl rfl (Nat.le_of_ble_eq_true rfl) (Nat.le_of_ble_eq_true rfl) ⟨Nat.le_of_ble_eq_true rfl, Nat.le_of_ble_eq_true rfl⟩ rfl rfl (Nat.le_of_ble_eq_true rfl) dX7_told_109 ?_
        have E : toldP s nt n (nI k) (nI 10) = (wth s (k)) := by rw [toldP, hIx_k (by omega) hk]; rfl
        exact g_retiP hR ⟨by rw [E], x, rfl⟩ dX7_told_112
  · refine g_ldc hX (v := -1000000001) (zu tCon_X7_100 rfl) dX7_told_8 ?_
    have E : toldP s nt n z y = (-1000000001) := by rw [toldP, hIx_f c5]
    exact g_retiP hR ⟨by rw [E], x, rfl⟩ dX7_told_10
def asP (s : Nat → Int32) (n : Nat) (z y : Int32) : Int32 := match hIx n z with
  | none => -1000000001
  | some k => if inB y 0 5 then (if isOfB (s (6 + 7 * k + 0)) y then s (6 + 7 * k + 3) else -1000000012) else -1000000001
theorem kX7_as : mKV RX7 yX7_as cX7_as 3 (some .int) 2 := ⟨tIns_X7_as, tSel_X7_as, tIni_X7, tCod_X7_as, by decide +kernel⟩
set_option maxHeartbeats 4000000 in
set_option maxRecDepth 100000 in
theorem c_as (l : Launch) (D : va_G) (cy : Nat → ClassId) (Z : (Nat → Prop) → State → Heap → Prop) (hzo : zOK Z) {h0 : Nat} {a q : Nat → Nat} {C : (Nat → Int32) → (Nat → Int32) → (Nat → Nat → Int32) → (Nat → Nat → Int32) → va_W} (hC : mLens (cy 0) h0 a q C) (v s : Nat → Int32) (r x : Nat → Nat → Int32) (n : Nat) (hn : s 0 = nI n) (hn9 : n ≤ 9) (z y : Int32) : GM l D cy Z yX7_as (zW yX7_as cX7_as 3 (some .int)) { frames := 2, cells := 0, slots := 0, locals := 46 } [.ref (h0), .int (z), .int (y)] (C v s r x) (fun res w2 => res = some (.int (asP s n z y)) ∧ ∃ x2, w2 = C v s r x2) 0 0 := by
  refine g_entry (cc := cX7_as) (maxL := 3) (by decide) rfl (Nat.le_of_ble_eq_true rfl) ?_
  intro κ hN hX hR
  have hX : GX κ cy Z cX7_as (Cond.code yX7_as cX7_as 3 (some .int) :: zT) RX7 { frames := 2, cells := 0, slots := 0, locals := 46 } := hX
  show GW κ 0 0 _ 0 [(0, .ref (h0)), (1, .int (z)), (2, .int (y))] []
  refine g_aload_n hX 0 rfl rfl dX7_as_0 ?_
  refine g_iload_n hX 1 rfl rfl dX7_as_1 ?_
  refine m_callD hX hzo hC [.int (z)] [] (c_isHouseN _ _ _ _ hzo hC v s r x n hn (z)) kX7_isHouse tMet_X7_133 rfl rfl (Nat.le_of_ble_eq_true rfl) (Nat.le_of_ble_eq_true rfl) ⟨Nat.le_of_ble_eq_true rfl, Nat.le_of_ble_eq_true rfl⟩ rfl rfl (Nat.le_of_ble_eq_true rfl) dX7_as_2 ?_
  refine g_ifb_eq hX 20 (by decide) dX7_as_5 (fun c5 => ?_) (fun c5 => ?_)
  · refine g_ldc hX (v := -1000000001) (zu tCon_X7_100 rfl) dX7_as_20 ?_
    have E : asP s n z y = (-1000000001) := by rw [asP, hIx_f c5]
    exact g_retiP hR ⟨by rw [E], x, rfl⟩ dX7_as_22
  · obtain ⟨k, hk, rfl⟩ := hB_t (by omega) c5
    refine g_iload_n hX 2 rfl rfl dX7_as_8 ?_
    refine g_i2l hX dX7_as_9 ?_
    refine g_lconst hX (v := Int32.toInt64 (0)) (by decide) dX7_as_10 ?_
    refine g_ldc2 hX (v := Int32.toInt64 (5)) (zu tCoL_X7_94 rfl) dX7_as_11 ?_
    refine s_call hX hzo [.long (Int32.toInt64 (y)), .long (Int32.toInt64 ((0))), .long (Int32.toInt64 ((5)))] [] (c_isIn _ _ _ _ _ (y) ((0)) ((5))) kX7_isIn tMet_X7_71 rfl rfl (Nat.le_of_ble_eq_true rfl) (Nat.le_of_ble_eq_true rfl) ⟨Nat.le_of_ble_eq_true rfl, Nat.le_of_ble_eq_true rfl⟩ rfl rfl (Nat.le_of_ble_eq_true rfl) dX7_as_14 ?_
    refine g_ifb_ne hX 23 (by decide) dX7_as_17 (fun c17 => ?_) (fun c17 => ?_)
    · refine g_aload_n hX 0 rfl rfl dX7_as_23 ?_
      refine g_iload_n hX 1 rfl rfl dX7_as_24 ?_
      refine g_iconst hX (v := nI 0) rfl dX7_as_25 ?_
      refine m_callD hX hzo hC [.int (nI (k)), .int (nI (0))] [] (c_of _ _ _ _ hzo hC v s r x (k) (0) (by omega)) kX7_of tMet_X7_75 rfl rfl (Nat.le_of_ble_eq_true rfl) (Nat.le_of_ble_eq_true rfl) ⟨Nat.le_of_ble_eq_true rfl, Nat.le_of_ble_eq_true rfl⟩ rfl rfl (Nat.le_of_ble_eq_true rfl) dX7_as_26 ?_
      refine g_iload_n hX 2 rfl rfl dX7_as_29 ?_
      refine s_call hX hzo [.int (s (6 + 7 * (k) + (0))), .int (y)] [] (c_isOf _ _ _ _ _ (s (6 + 7 * (k) + (0))) (y)) kX7_isOf tMet_X7_145 rfl rfl (Nat.le_of_ble_eq_true rfl) (Nat.le_of_ble_eq_true rfl) ⟨Nat.le_of_ble_eq_true rfl, Nat.le_of_ble_eq_true rfl⟩ rfl rfl (Nat.le_of_ble_eq_true rfl) dX7_as_30 ?_
      refine g_ifb_eq hX 45 (by decide) dX7_as_33 (fun c33 => ?_) (fun c33 => ?_)
      · refine g_ldc hX (v := -1000000012) (zu tCon_X7_148 rfl) dX7_as_45 ?_
        have E : asP s n (nI k) y = (-1000000012) := by rw [asP, hIx_k (by omega) hk]; show (if _ then _ else _) = _; rw [if_pos c17, if_neg (bne c33)]
        exact g_retiP hR ⟨by rw [E], x, rfl⟩ dX7_as_47
      · refine g_aload_n hX 0 rfl rfl dX7_as_36 ?_
        refine g_iload_n hX 1 rfl rfl dX7_as_37 ?_
        refine g_iconst hX (v := nI 3) rfl dX7_as_38 ?_
        refine m_callD hX hzo hC [.int (nI (k)), .int (nI (3))] [] (c_of _ _ _ _ hzo hC v s r x (k) (3) (by omega)) kX7_of tMet_X7_75 rfl rfl (Nat.le_of_ble_eq_true rfl) (Nat.le_of_ble_eq_true rfl) ⟨Nat.le_of_ble_eq_true rfl, Nat.le_of_ble_eq_true rfl⟩ rfl rfl (Nat.le_of_ble_eq_true rfl) dX7_as_39 ?_
        refine g_goto hX 47 (by decide) dX7_as_42 ?_
        have E : asP s n (nI k) y = s (6 + 7 * (k) + (3)) := by rw [asP, hIx_k (by omega) hk]; show (if _ then _ else _) = _; rw [if_pos c17, if_pos c33]
        exact g_retiP hR ⟨by rw [E], x, rfl⟩ dX7_as_47
    · refine g_ldc hX (v := -1000000001) (zu tCon_X7_100 rfl) dX7_as_20 ?_
      have E : asP s n (nI k) y = (-1000000001) := by rw [asP, hIx_k (by omega) hk]; show (if _ then _ else _) = _; rw [if_neg (bne c17)]
      exact g_retiP hR ⟨by rw [E], x, rfl⟩ dX7_as_22
def turnsP (s : Nat → Int32) (n : Nat) (z y : Int32) : Int32 × (Nat → Int32) := match hIx n z with
  | none => (-1000000001, s)
  | some k => if inB y 0 5 then (s (6 + 7 * k), upd s (6 + 7 * k) y) else (-1000000001, s)
theorem kX7_turns : mKV RX7 yX7_turns cX7_turns 3 (some .int) 2 := ⟨tIns_X7_turns, tSel_X7_turns, tIni_X7, tCod_X7_turns, by decide +kernel⟩
set_option maxHeartbeats 4000000 in
set_option maxRecDepth 100000 in
theorem c_turns (l : Launch) (D : va_G) (cy : Nat → ClassId) (Z : (Nat → Prop) → State → Heap → Prop) (hzo : zOK Z) {h0 : Nat} {a q : Nat → Nat} {C : (Nat → Int32) → (Nat → Int32) → (Nat → Nat → Int32) → (Nat → Nat → Int32) → va_W} (hC : mLens (cy 0) h0 a q C) (v s : Nat → Int32) (r x : Nat → Nat → Int32) (n : Nat) (hn : s 0 = nI n) (hn9 : n ≤ 9) (z y : Int32) : GM l D cy Z yX7_turns (zW yX7_turns cX7_turns 3 (some .int)) { frames := 2, cells := 0, slots := 0, locals := 46 } [.ref (h0), .int (z), .int (y)] (C v s r x) (fun res w2 => res = some (.int (turnsP s n z y).1) ∧ ∃ x2, w2 = C v (turnsP s n z y).2 r x2) 0 0 := by
  refine g_entry (cc := cX7_turns) (maxL := 3) (by decide) rfl (Nat.le_of_ble_eq_true rfl) ?_
  intro κ hN hX hR
  have hX : GX κ cy Z cX7_turns (Cond.code yX7_turns cX7_turns 3 (some .int) :: zT) RX7 { frames := 2, cells := 0, slots := 0, locals := 46 } := hX
  show GW κ 0 0 _ 0 [(0, .ref (h0)), (1, .int (z)), (2, .int (y))] []
  refine g_aload_n hX 0 rfl rfl dX7_turns_0 ?_
  refine g_iload_n hX 1 rfl rfl dX7_turns_1 ?_
  refine m_callD hX hzo hC [.int (z)] [] (c_isHouseN _ _ _ _ hzo hC v s r x n hn (z)) kX7_isHouse tMet_X7_133 rfl rfl (Nat.le_of_ble_eq_true rfl) (Nat.le_of_ble_eq_true rfl) ⟨Nat.le_of_ble_eq_true rfl, Nat.le_of_ble_eq_true rfl⟩ rfl rfl (Nat.le_of_ble_eq_true rfl) dX7_turns_2 ?_
  refine g_ifb_eq hX 35 (by decide) dX7_turns_5 (fun c5 => ?_) (fun c5 => ?_)
  · refine g_ldc hX (v := -1000000001) (zu tCon_X7_100 rfl) dX7_turns_35 ?_
    have E : turnsP s n z y = ((-1000000001), s) := by rw [turnsP, hIx_f c5]
    exact g_retiP hR ⟨by rw [E], x, by rw [E]⟩ dX7_turns_37
  · obtain ⟨k, hk, rfl⟩ := hB_t (by omega) c5
    refine g_iload_n hX 2 rfl rfl dX7_turns_8 ?_
    refine g_i2l hX dX7_turns_9 ?_
    refine g_lconst hX (v := Int32.toInt64 (0)) (by decide) dX7_turns_10 ?_
    refine g_ldc2 hX (v := Int32.toInt64 (5)) (zu tCoL_X7_94 rfl) dX7_turns_11 ?_
    refine s_call hX hzo [.long (Int32.toInt64 (y)), .long (Int32.toInt64 ((0))), .long (Int32.toInt64 ((5)))] [] (c_isIn _ _ _ _ _ (y) ((0)) ((5))) kX7_isIn tMet_X7_71 rfl rfl (Nat.le_of_ble_eq_true rfl) (Nat.le_of_ble_eq_true rfl) ⟨Nat.le_of_ble_eq_true rfl, Nat.le_of_ble_eq_true rfl⟩ rfl rfl (Nat.le_of_ble_eq_true rfl) dX7_turns_14 ?_
    refine g_ifb_eq hX 35 (by decide) dX7_turns_17 (fun c17 => ?_) (fun c17 => ?_)
    · refine g_ldc hX (v := -1000000001) (zu tCon_X7_100 rfl) dX7_turns_35 ?_
      have E : turnsP s n (nI k) y = ((-1000000001), s) := by rw [turnsP, hIx_k (by omega) hk]; show (if _ then _ else _) = _; rw [if_neg (bne c17)]
      exact g_retiP hR ⟨by rw [E], x, by rw [E]⟩ dX7_turns_37
    · refine g_aload_n hX 0 rfl rfl dX7_turns_20 ?_
      refine g_bipush hX (v := nI 6) (by decide) dX7_turns_21 ?_
      refine g_bipush hX (v := nI 7) (by decide) dX7_turns_23 ?_
      refine g_iload_n hX 1 rfl rfl dX7_turns_25 ?_
      refine g_imulN hX dX7_turns_26 ?_
      refine g_iaddN hX dX7_turns_27 ?_
      refine g_iload_n hX 2 rfl rfl dX7_turns_28 ?_
      refine m_callD hX hzo hC [.int (nI ((6 + (7 * k)))), .int (y)] [] (c_becomes _ _ _ _ hzo hC v s r x ((6 + (7 * k))) (by omega) (y)) kX7_becomes tMet_X7_149 rfl rfl (Nat.le_of_ble_eq_true rfl) (Nat.le_of_ble_eq_true rfl) ⟨Nat.le_of_ble_eq_true rfl, Nat.le_of_ble_eq_true rfl⟩ rfl rfl (Nat.le_of_ble_eq_true rfl) dX7_turns_29 ?_
      refine g_goto hX 37 (by decide) dX7_turns_32 ?_
      have E : turnsP s n (nI k) y = ((s ((6 + (7 * k)))), (upd s ((6 + (7 * k))) (y))) := by rw [turnsP, hIx_k (by omega) hk]; show (if _ then _ else _) = _; rw [if_pos c17]
      exact g_retiP hR ⟨by rw [E], x, by rw [E]⟩ dX7_turns_37
def setP (s : Nat → Int32) (n : Nat) (z y u : Int32) : Int32 × (Nat → Int32) := match hIx n z with
  | none => (-1000000001, s)
  | some k => if mayB y u then (s (6 + 7 * k + y.toNatClampNeg), upd s (6 + 7 * k + y.toNatClampNeg) u) else (-1000000001, s)
theorem kX7_set : mKV RX7 yX7_set cX7_set 4 (some .int) 3 := ⟨tIns_X7_set, tSel_X7_set, tIni_X7, tCod_X7_set, by decide +kernel⟩
set_option maxHeartbeats 4000000 in
set_option maxRecDepth 100000 in
theorem c_set (l : Launch) (D : va_G) (cy : Nat → ClassId) (Z : (Nat → Prop) → State → Heap → Prop) (hzo : zOK Z) {h0 : Nat} {a q : Nat → Nat} {C : (Nat → Int32) → (Nat → Int32) → (Nat → Nat → Int32) → (Nat → Nat → Int32) → va_W} (hC : mLens (cy 0) h0 a q C) (v s : Nat → Int32) (r x : Nat → Nat → Int32) (n : Nat) (hn : s 0 = nI n) (hn9 : n ≤ 9) (z y u : Int32) : GM l D cy Z yX7_set (zW yX7_set cX7_set 4 (some .int)) { frames := 2, cells := 0, slots := 0, locals := 46 } [.ref (h0), .int (z), .int (y), .int (u)] (C v s r x) (fun res w2 => res = some (.int (setP s n z y u).1) ∧ ∃ x2, w2 = C v (setP s n z y u).2 r x2) 0 0 := by
  refine g_entry (cc := cX7_set) (maxL := 4) (by decide) rfl (Nat.le_of_ble_eq_true rfl) ?_
  intro κ hN hX hR
  have hX : GX κ cy Z cX7_set (Cond.code yX7_set cX7_set 4 (some .int) :: zT) RX7 { frames := 2, cells := 0, slots := 0, locals := 46 } := hX
  show GW κ 0 0 _ 0 [(0, .ref (h0)), (1, .int (z)), (2, .int (y)), (3, .int (u))] []
  refine g_aload_n hX 0 rfl rfl dX7_set_0 ?_
  refine g_iload_n hX 1 rfl rfl dX7_set_1 ?_
  refine m_callD hX hzo hC [.int (z)] [] (c_isHouseN _ _ _ _ hzo hC v s r x n hn (z)) kX7_isHouse tMet_X7_133 rfl rfl (Nat.le_of_ble_eq_true rfl) (Nat.le_of_ble_eq_true rfl) ⟨Nat.le_of_ble_eq_true rfl, Nat.le_of_ble_eq_true rfl⟩ rfl rfl (Nat.le_of_ble_eq_true rfl) dX7_set_2 ?_
  refine g_ifb_eq hX 33 (by decide) dX7_set_5 (fun c5 => ?_) (fun c5 => ?_)
  · refine g_ldc hX (v := -1000000001) (zu tCon_X7_100 rfl) dX7_set_33 ?_
    have E : setP s n z y u = ((-1000000001), s) := by rw [setP, hIx_f c5]
    exact g_retiP hR ⟨by rw [E], x, by rw [E]⟩ dX7_set_35
  · obtain ⟨k, hk, rfl⟩ := hB_t (by omega) c5
    refine g_iload_n hX 2 rfl rfl dX7_set_8 ?_
    refine g_iload_n hX 3 rfl rfl dX7_set_9 ?_
    refine s_call hX hzo [.int (y), .int (u)] [] (c_mayBe _ _ _ _ hzo _ (y) (u)) kX7_mayBe tMet_X7_96 rfl rfl (Nat.le_of_ble_eq_true rfl) (Nat.le_of_ble_eq_true rfl) ⟨Nat.le_of_ble_eq_true rfl, Nat.le_of_ble_eq_true rfl⟩ rfl rfl (Nat.le_of_ble_eq_true rfl) dX7_set_10 ?_
    refine g_ifb_eq hX 33 (by decide) dX7_set_13 (fun c13 => ?_) (fun c13 => ?_)
    · refine g_ldc hX (v := -1000000001) (zu tCon_X7_100 rfl) dX7_set_33 ?_
      have E : setP s n (nI k) y u = ((-1000000001), s) := by rw [setP, hIx_k (by omega) hk]; show (if _ then _ else _) = _; rw [if_neg (bne c13)]
      exact g_retiP hR ⟨by rw [E], x, by rw [E]⟩ dX7_set_35
    · obtain ⟨m, hm1, hm5, rfl⟩ := mayB_t c13
      refine g_aload_n hX 0 rfl rfl dX7_set_16 ?_
      refine g_bipush hX (v := nI 6) (by decide) dX7_set_17 ?_
      refine g_bipush hX (v := nI 7) (by decide) dX7_set_19 ?_
      refine g_iload_n hX 1 rfl rfl dX7_set_21 ?_
      refine g_imulN hX dX7_set_22 ?_
      refine g_iaddN hX dX7_set_23 ?_
      refine g_iload_n hX 2 rfl rfl dX7_set_24 ?_
      refine g_iaddN hX dX7_set_25 ?_
      refine g_iload_n hX 3 rfl rfl dX7_set_26 ?_
      refine m_callD hX hzo hC [.int (nI (((6 + (7 * k)) + m))), .int (u)] [] (c_becomes _ _ _ _ hzo hC v s r x (((6 + (7 * k)) + m)) (by omega) (u)) kX7_becomes tMet_X7_149 rfl rfl (Nat.le_of_ble_eq_true rfl) (Nat.le_of_ble_eq_true rfl) ⟨Nat.le_of_ble_eq_true rfl, Nat.le_of_ble_eq_true rfl⟩ rfl rfl (Nat.le_of_ble_eq_true rfl) dX7_set_27 ?_
      refine g_goto hX 35 (by decide) dX7_set_30 ?_
      have E : setP s n (nI k) (nI m) u = ((s (((6 + (7 * k)) + m))), (upd s (((6 + (7 * k)) + m)) (u))) := by rw [setP, hIx_k (by omega) hk]; show (if _ then _ else _) = _; rw [if_pos c13, nI_clamp (by omega)]
      exact g_retiP hR ⟨by rw [E], x, by rw [E]⟩ dX7_set_35
def fellsP (s : Nat → Int32) (n : Nat) (z : Int32) : Int32 × (Nat → Int32) := match hIx n z with
  | none => (-1000000001, s)
  | some k => if sd s k then (nI (cntS (fallS s k) n), fallS s k) else (-1000000002, s)
def riseS (s : Nat → Int32) (k : Nat) : Nat → Int32 := upd (upd (upd s (6 + 7 * k + 6) (nI 0)) (6 + 7 * k + 2) (nI 0)) (6 + 7 * k + 4) (nI 0)
def raisesP (s : Nat → Int32) (n : Nat) (z : Int32) : Int32 × (Nat → Int32) := match hIx n z with
  | none => (-1000000001, s)
  | some k => if sd s k then (-1000000002, s) else (nI (cntS (riseS s k) n), riseS s k)
theorem kX7_fells : mKV RX7 yX7_fells cX7_fells 2 (some .int) 1 := ⟨tIns_X7_fells, tSel_X7_fells, tIni_X7, tCod_X7_fells, by decide +kernel⟩
set_option maxHeartbeats 4000000 in
set_option maxRecDepth 100000 in
theorem c_fells (l : Launch) (D : va_G) (cy : Nat → ClassId) (Z : (Nat → Prop) → State → Heap → Prop) (hzo : zOK Z) {h0 : Nat} {a q : Nat → Nat} {C : (Nat → Int32) → (Nat → Int32) → (Nat → Nat → Int32) → (Nat → Nat → Int32) → va_W} (hC : mLens (cy 0) h0 a q C) (v s : Nat → Int32) (r x : Nat → Nat → Int32) (n : Nat) (hn : s 0 = nI n) (hn9 : n ≤ 9) (z : Int32) : GM l D cy Z yX7_fells (zW yX7_fells cX7_fells 2 (some .int)) { frames := 3, cells := 0, slots := 0, locals := 65 } [.ref (h0), .int (z)] (C v s r x) (fun res w2 => res = some (.int (fellsP s n z).1) ∧ ∃ x2, w2 = C v (fellsP s n z).2 r x2) 0 0 := by
  refine g_entry (cc := cX7_fells) (maxL := 2) (by decide) rfl (Nat.le_of_ble_eq_true rfl) ?_
  intro κ hN hX hR
  have hX : GX κ cy Z cX7_fells (Cond.code yX7_fells cX7_fells 2 (some .int) :: zT) RX7 { frames := 3, cells := 0, slots := 0, locals := 65 } := hX
  show GW κ 0 0 _ 0 [(0, .ref (h0)), (1, .int (z))] []
  refine g_aload_n hX 0 rfl rfl dX7_fells_0 ?_
  refine g_iload_n hX 1 rfl rfl dX7_fells_1 ?_
  refine m_callD hX hzo hC [.int (z)] [] (c_isHouseN _ _ _ _ hzo hC v s r x n hn (z)) kX7_isHouse tMet_X7_133 rfl rfl (Nat.le_of_ble_eq_true rfl) (Nat.le_of_ble_eq_true rfl) ⟨Nat.le_of_ble_eq_true rfl, Nat.le_of_ble_eq_true rfl⟩ rfl rfl (Nat.le_of_ble_eq_true rfl) dX7_fells_2 ?_
  refine g_ifb_ne hX 11 (by decide) dX7_fells_5 (fun c5 => ?_) (fun c5 => ?_)
  · obtain ⟨k, hk, rfl⟩ := hB_t (by omega) c5
    refine g_aload_n hX 0 rfl rfl dX7_fells_11 ?_
    refine g_iload_n hX 1 rfl rfl dX7_fells_12 ?_
    refine m_callD hX hzo hC [.int (nI (k))] [] (c_stands _ _ _ _ hzo hC v s r x (k) (by omega)) kX7_stands tMet_X7_119 rfl rfl (Nat.le_of_ble_eq_true rfl) (Nat.le_of_ble_eq_true rfl) ⟨Nat.le_of_ble_eq_true rfl, Nat.le_of_ble_eq_true rfl⟩ rfl rfl (Nat.le_of_ble_eq_true rfl) dX7_fells_13 ?_
    refine g_ifb_ne hX 22 (by decide) dX7_fells_16 (fun c16 => ?_) (fun c16 => ?_)
    · refine g_aload_n hX 0 rfl rfl dX7_fells_22 ?_
      refine g_iload_n hX 1 rfl rfl dX7_fells_23 ?_
      refine m_callD hX hzo hC [.int (nI (k))] [] (c_falls _ _ _ _ hzo hC v s r x (k) (by omega)) kX7_falls tMet_X7_153 rfl rfl (Nat.le_of_ble_eq_true rfl) (Nat.le_of_ble_eq_true rfl) ⟨Nat.le_of_ble_eq_true rfl, Nat.le_of_ble_eq_true rfl⟩ rfl rfl (Nat.le_of_ble_eq_true rfl) dX7_fells_24 ?_
      refine g_aload_n hX 0 rfl rfl dX7_fells_27 ?_
      refine m_callD hX hzo hC [] [] (c_allStanding _ _ _ _ hzo hC v (fallS s (k)) r x n (show (fallS s k) 0 = nI n by rw [fallS_0 _ _ _ (by decide)]; exact hn) hn9) kX7_allStanding tMet_X7_123 rfl rfl (Nat.le_of_ble_eq_true rfl) (Nat.le_of_ble_eq_true rfl) ⟨Nat.le_of_ble_eq_true rfl, Nat.le_of_ble_eq_true rfl⟩ rfl rfl (Nat.le_of_ble_eq_true rfl) dX7_fells_28 ?_
      refine g_top (y := .int (nI (maskN (sd (fallS s (k))) n))) (congrArg Value.int (mask_nI _ n (by omega))) ?_
      refine s_call hX hzo [.int (nI (maskN (sd (fallS s (k))) n))] [] (c_manyIn _ _ _ _ _ (maskN (sd (fallS s (k))) n) (maskN_512 _ hn9)) kX7_manyIn tMet_X7_157 rfl rfl (Nat.le_of_ble_eq_true rfl) (Nat.le_of_ble_eq_true rfl) ⟨Nat.le_of_ble_eq_true rfl, Nat.le_of_ble_eq_true rfl⟩ rfl rfl (Nat.le_of_ble_eq_true rfl) dX7_fells_31 ?_
      have E : fellsP s n (nI k) = (nI (pcN (maskN (sd (fallS s (k))) n)), (fallS s (k))) := by rw [fellsP, hIx_k (by omega) hk]; show (if _ then _ else _) = _; rw [if_pos c16]; rfl
      exact g_retiP hR ⟨by rw [E], x, by rw [E]⟩ dX7_fells_34
    · refine g_ldc hX (v := -1000000002) (zu tCon_X7_152 rfl) dX7_fells_19 ?_
      have E : fellsP s n (nI k) = ((-1000000002), s) := by rw [fellsP, hIx_k (by omega) hk]; show (if _ then _ else _) = _; rw [if_neg (bne c16)]
      exact g_retiP hR ⟨by rw [E], x, by rw [E]⟩ dX7_fells_21
  · refine g_ldc hX (v := -1000000001) (zu tCon_X7_100 rfl) dX7_fells_8 ?_
    have E : fellsP s n z = ((-1000000001), s) := by rw [fellsP, hIx_f c5]
    exact g_retiP hR ⟨by rw [E], x, by rw [E]⟩ dX7_fells_10
theorem kX7_raises : mKV RX7 yX7_raises cX7_raises 2 (some .int) 1 := ⟨tIns_X7_raises, tSel_X7_raises, tIni_X7, tCod_X7_raises, by decide +kernel⟩
set_option maxHeartbeats 4000000 in
set_option maxRecDepth 100000 in
theorem c_raises (l : Launch) (D : va_G) (cy : Nat → ClassId) (Z : (Nat → Prop) → State → Heap → Prop) (hzo : zOK Z) {h0 : Nat} {a q : Nat → Nat} {C : (Nat → Int32) → (Nat → Int32) → (Nat → Nat → Int32) → (Nat → Nat → Int32) → va_W} (hC : mLens (cy 0) h0 a q C) (v s : Nat → Int32) (r x : Nat → Nat → Int32) (n : Nat) (hn : s 0 = nI n) (hn9 : n ≤ 9) (z : Int32) : GM l D cy Z yX7_raises (zW yX7_raises cX7_raises 2 (some .int)) { frames := 3, cells := 0, slots := 0, locals := 65 } [.ref (h0), .int (z)] (C v s r x) (fun res w2 => res = some (.int (raisesP s n z).1) ∧ ∃ x2, w2 = C v (raisesP s n z).2 r x2) 0 0 := by
  refine g_entry (cc := cX7_raises) (maxL := 2) (by decide) rfl (Nat.le_of_ble_eq_true rfl) ?_
  intro κ hN hX hR
  have hX : GX κ cy Z cX7_raises (Cond.code yX7_raises cX7_raises 2 (some .int) :: zT) RX7 { frames := 3, cells := 0, slots := 0, locals := 65 } := hX
  show GW κ 0 0 _ 0 [(0, .ref (h0)), (1, .int (z))] []
  refine g_aload_n hX 0 rfl rfl dX7_raises_0 ?_
  refine g_iload_n hX 1 rfl rfl dX7_raises_1 ?_
  refine m_callD hX hzo hC [.int (z)] [] (c_isHouseN _ _ _ _ hzo hC v s r x n hn (z)) kX7_isHouse tMet_X7_133 rfl rfl (Nat.le_of_ble_eq_true rfl) (Nat.le_of_ble_eq_true rfl) ⟨Nat.le_of_ble_eq_true rfl, Nat.le_of_ble_eq_true rfl⟩ rfl rfl (Nat.le_of_ble_eq_true rfl) dX7_raises_2 ?_
  refine g_ifb_ne hX 11 (by decide) dX7_raises_5 (fun c5 => ?_) (fun c5 => ?_)
  · obtain ⟨k, hk, rfl⟩ := hB_t (by omega) c5
    refine g_aload_n hX 0 rfl rfl dX7_raises_11 ?_
    refine g_iload_n hX 1 rfl rfl dX7_raises_12 ?_
    refine m_callD hX hzo hC [.int (nI (k))] [] (c_stands _ _ _ _ hzo hC v s r x (k) (by omega)) kX7_stands tMet_X7_119 rfl rfl (Nat.le_of_ble_eq_true rfl) (Nat.le_of_ble_eq_true rfl) ⟨Nat.le_of_ble_eq_true rfl, Nat.le_of_ble_eq_true rfl⟩ rfl rfl (Nat.le_of_ble_eq_true rfl) dX7_raises_13 ?_
    refine g_ifb_eq hX 22 (by decide) dX7_raises_16 (fun c16 => ?_) (fun c16 => ?_)
    · refine g_aload_n hX 0 rfl rfl dX7_raises_22 ?_
      refine g_iload_n hX 1 rfl rfl dX7_raises_23 ?_
      refine g_bipush hX (v := nI 6) (by decide) dX7_raises_24 ?_
      refine g_iconst hX (v := nI 0) rfl dX7_raises_26 ?_
      refine m_callD hX hzo hC [.int (nI (k)), .int (nI (6)), .int (nI (0))] [] (c_sets _ _ _ _ hzo hC v s r x (k) (6) (by omega) (nI (0))) kX7_sets tMet_X7_80 rfl rfl (Nat.le_of_ble_eq_true rfl) (Nat.le_of_ble_eq_true rfl) ⟨Nat.le_of_ble_eq_true rfl, Nat.le_of_ble_eq_true rfl⟩ rfl rfl (Nat.le_of_ble_eq_true rfl) dX7_raises_27 ?_
      refine g_aload_n hX 0 rfl rfl dX7_raises_30 ?_
      refine g_iload_n hX 1 rfl rfl dX7_raises_31 ?_
      refine g_iconst hX (v := nI 2) rfl dX7_raises_32 ?_
      refine g_iconst hX (v := nI 0) rfl dX7_raises_33 ?_
      refine m_callD hX hzo hC [.int (nI (k)), .int (nI (2)), .int (nI (0))] [] (c_sets _ _ _ _ hzo hC v (upd s (6 + 7 * (k) + (6)) (nI (0))) r x (k) (2) (by omega) (nI (0))) kX7_sets tMet_X7_80 rfl rfl (Nat.le_of_ble_eq_true rfl) (Nat.le_of_ble_eq_true rfl) ⟨Nat.le_of_ble_eq_true rfl, Nat.le_of_ble_eq_true rfl⟩ rfl rfl (Nat.le_of_ble_eq_true rfl) dX7_raises_34 ?_
      refine g_aload_n hX 0 rfl rfl dX7_raises_37 ?_
      refine g_iload_n hX 1 rfl rfl dX7_raises_38 ?_
      refine g_iconst hX (v := nI 4) rfl dX7_raises_39 ?_
      refine g_iconst hX (v := nI 0) rfl dX7_raises_40 ?_
      refine m_callD hX hzo hC [.int (nI (k)), .int (nI (4)), .int (nI (0))] [] (c_sets _ _ _ _ hzo hC v (upd (upd s (6 + 7 * (k) + (6)) (nI (0))) (6 + 7 * (k) + (2)) (nI (0))) r x (k) (4) (by omega) (nI (0))) kX7_sets tMet_X7_80 rfl rfl (Nat.le_of_ble_eq_true rfl) (Nat.le_of_ble_eq_true rfl) ⟨Nat.le_of_ble_eq_true rfl, Nat.le_of_ble_eq_true rfl⟩ rfl rfl (Nat.le_of_ble_eq_true rfl) dX7_raises_41 ?_
      refine g_aload_n hX 0 rfl rfl dX7_raises_44 ?_
      refine m_callD hX hzo hC [] [] (c_allStanding _ _ _ _ hzo hC v (upd (upd (upd s (6 + 7 * (k) + (6)) (nI (0))) (6 + 7 * (k) + (2)) (nI (0))) (6 + 7 * (k) + (4)) (nI (0))) r x n (show (riseS s k) 0 = nI n by rw [riseS, pk_un (by omega), pk_un (by omega), pk_un (by omega)]; exact hn) hn9) kX7_allStanding tMet_X7_123 rfl rfl (Nat.le_of_ble_eq_true rfl) (Nat.le_of_ble_eq_true rfl) ⟨Nat.le_of_ble_eq_true rfl, Nat.le_of_ble_eq_true rfl⟩ rfl rfl (Nat.le_of_ble_eq_true rfl) dX7_raises_45 ?_
      refine g_top (y := .int (nI (maskN (sd (upd (upd (upd s (6 + 7 * (k) + (6)) (nI (0))) (6 + 7 * (k) + (2)) (nI (0))) (6 + 7 * (k) + (4)) (nI (0)))) n))) (congrArg Value.int (mask_nI _ n (by omega))) ?_
      refine s_call hX hzo [.int (nI (maskN (sd (upd (upd (upd s (6 + 7 * (k) + (6)) (nI (0))) (6 + 7 * (k) + (2)) (nI (0))) (6 + 7 * (k) + (4)) (nI (0)))) n))] [] (c_manyIn _ _ _ _ _ (maskN (sd (upd (upd (upd s (6 + 7 * (k) + (6)) (nI (0))) (6 + 7 * (k) + (2)) (nI (0))) (6 + 7 * (k) + (4)) (nI (0)))) n) (maskN_512 _ hn9)) kX7_manyIn tMet_X7_157 rfl rfl (Nat.le_of_ble_eq_true rfl) (Nat.le_of_ble_eq_true rfl) ⟨Nat.le_of_ble_eq_true rfl, Nat.le_of_ble_eq_true rfl⟩ rfl rfl (Nat.le_of_ble_eq_true rfl) dX7_raises_48 ?_
      have E : raisesP s n (nI k) = (nI (pcN (maskN (sd (upd (upd (upd s (6 + 7 * (k) + (6)) (nI (0))) (6 + 7 * (k) + (2)) (nI (0))) (6 + 7 * (k) + (4)) (nI (0)))) n)), (upd (upd (upd s (6 + 7 * (k) + (6)) (nI (0))) (6 + 7 * (k) + (2)) (nI (0))) (6 + 7 * (k) + (4)) (nI (0)))) := by rw [raisesP, hIx_k (by omega) hk]; show (if _ then _ else _) = _; rw [if_neg (bne c16)]; rfl
      exact g_retiP hR ⟨by rw [E], x, by rw [E]⟩ dX7_raises_51
    · refine g_ldc hX (v := -1000000002) (zu tCon_X7_152 rfl) dX7_raises_19 ?_
      have E : raisesP s n (nI k) = ((-1000000002), s) := by rw [raisesP, hIx_k (by omega) hk]; show (if _ then _ else _) = _; rw [if_pos c16]
      exact g_retiP hR ⟨by rw [E], x, by rw [E]⟩ dX7_raises_21
  · refine g_ldc hX (v := -1000000001) (zu tCon_X7_100 rfl) dX7_raises_8 ?_
    have E : raisesP s n z = ((-1000000001), s) := by rw [raisesP, hIx_f c5]
    exact g_retiP hR ⟨by rw [E], x, by rw [E]⟩ dX7_raises_10
def snowP (s : Nat → Int32) (z : Int32) : Int32 × (Nat → Int32) := if inB z (-20) 20 then (s 4, upd s 4 z) else (-1000000001, s)
theorem kX7_snow : mKV RX7 yX7_snow cX7_snow 2 (some .int) 1 := ⟨tIns_X7_snow, tSel_X7_snow, tIni_X7, tCod_X7_snow, by decide +kernel⟩
set_option maxHeartbeats 4000000 in
set_option maxRecDepth 100000 in
theorem c_snow (l : Launch) (D : va_G) (cy : Nat → ClassId) (Z : (Nat → Prop) → State → Heap → Prop) (hzo : zOK Z) {h0 : Nat} {a q : Nat → Nat} {C : (Nat → Int32) → (Nat → Int32) → (Nat → Nat → Int32) → (Nat → Nat → Int32) → va_W} (hC : mLens (cy 0) h0 a q C) (v s : Nat → Int32) (r x : Nat → Nat → Int32) (z : Int32) : GM l D cy Z yX7_snow (zW yX7_snow cX7_snow 2 (some .int)) { frames := 1, cells := 0, slots := 0, locals := 25 } [.ref (h0), .int (z)] (C v s r x) (fun res w2 => res = some (.int (snowP s z).1) ∧ ∃ x2, w2 = C v (snowP s z).2 r x2) 0 0 := by
  refine g_entry (cc := cX7_snow) (maxL := 2) (by decide) rfl (Nat.le_of_ble_eq_true rfl) ?_
  intro κ hN hX hR
  have hX : GX κ cy Z cX7_snow (Cond.code yX7_snow cX7_snow 2 (some .int) :: zT) RX7 { frames := 1, cells := 0, slots := 0, locals := 25 } := hX
  show GW κ 0 0 _ 0 [(0, .ref (h0)), (1, .int (z))] []
  refine g_iload_n hX 1 rfl rfl dX7_snow_0 ?_
  refine g_i2l hX dX7_snow_1 ?_
  refine g_ldc2 hX (v := Int32.toInt64 (-20)) (zu tCoL_X7_160 rfl) dX7_snow_2 ?_
  refine g_ldc2 hX (v := Int32.toInt64 (20)) (zu tCoL_X7_162 rfl) dX7_snow_5 ?_
  refine s_call hX hzo [.long (Int32.toInt64 (z)), .long (Int32.toInt64 ((-20))), .long (Int32.toInt64 ((20)))] [] (c_isIn _ _ _ _ _ (z) ((-20)) ((20))) kX7_isIn tMet_X7_71 rfl rfl (Nat.le_of_ble_eq_true rfl) (Nat.le_of_ble_eq_true rfl) ⟨Nat.le_of_ble_eq_true rfl, Nat.le_of_ble_eq_true rfl⟩ rfl rfl (Nat.le_of_ble_eq_true rfl) dX7_snow_8 ?_
  refine g_ifb_eq hX 23 (by decide) dX7_snow_11 (fun c11 => ?_) (fun c11 => ?_)
  · refine g_ldc hX (v := -1000000001) (zu tCon_X7_100 rfl) dX7_snow_23 ?_
    have E : snowP s z = ((-1000000001), s) := by rw [snowP, if_neg (bne c11)]
    exact g_retiP hR ⟨by rw [E], x, by rw [E]⟩ dX7_snow_25
  · refine g_aload_n hX 0 rfl rfl dX7_snow_14 ?_
    refine g_iconst hX (v := nI 4) rfl dX7_snow_15 ?_
    refine g_iload_n hX 1 rfl rfl dX7_snow_16 ?_
    refine m_callD hX hzo hC [.int (nI (4)), .int (z)] [] (c_becomes _ _ _ _ hzo hC v s r x (4) (by omega) (z)) kX7_becomes tMet_X7_149 rfl rfl (Nat.le_of_ble_eq_true rfl) (Nat.le_of_ble_eq_true rfl) ⟨Nat.le_of_ble_eq_true rfl, Nat.le_of_ble_eq_true rfl⟩ rfl rfl (Nat.le_of_ble_eq_true rfl) dX7_snow_17 ?_
    refine g_goto hX 25 (by decide) dX7_snow_20 ?_
    have E : snowP s z = ((s (4)), (upd s (4) (z))) := by rw [snowP, if_pos c11]
    exact g_retiP hR ⟨by rw [E], x, by rw [E]⟩ dX7_snow_25
theorem kX7_seed : mKV RX7 yX7_seed cX7_seed 2 (some .int) 1 := ⟨tIns_X7_seed, tSel_X7_seed, tIni_X7, tCod_X7_seed, by decide +kernel⟩
set_option maxHeartbeats 4000000 in
set_option maxRecDepth 100000 in
theorem c_seed (l : Launch) (D : va_G) (cy : Nat → ClassId) (Z : (Nat → Prop) → State → Heap → Prop) (hzo : zOK Z) {h0 : Nat} {a q : Nat → Nat} {C : (Nat → Int32) → (Nat → Int32) → (Nat → Nat → Int32) → (Nat → Nat → Int32) → va_W} (hC : mLens (cy 0) h0 a q C) (v s : Nat → Int32) (r x : Nat → Nat → Int32) (z : Int32) : GM l D cy Z yX7_seed (zW yX7_seed cX7_seed 2 (some .int)) { frames := 1, cells := 0, slots := 0, locals := 23 } [.ref (h0), .int (z)] (C v s r x) (fun res w2 => res = some (.int (((s 5, upd s 5 z) : Int32 × (Nat → Int32))).1) ∧ ∃ x2, w2 = C v (((s 5, upd s 5 z) : Int32 × (Nat → Int32))).2 r x2) 0 0 := by
  refine g_entry (cc := cX7_seed) (maxL := 2) (by decide) rfl (Nat.le_of_ble_eq_true rfl) ?_
  intro κ hN hX hR
  have hX : GX κ cy Z cX7_seed (Cond.code yX7_seed cX7_seed 2 (some .int) :: zT) RX7 { frames := 1, cells := 0, slots := 0, locals := 23 } := hX
  show GW κ 0 0 _ 0 [(0, .ref (h0)), (1, .int (z))] []
  refine g_aload_n hX 0 rfl rfl dX7_seed_0 ?_
  refine g_iconst hX (v := nI 5) rfl dX7_seed_1 ?_
  refine g_iload_n hX 1 rfl rfl dX7_seed_2 ?_
  refine m_callD hX hzo hC [.int (nI (5)), .int (z)] [] (c_becomes _ _ _ _ hzo hC v s r x (5) (by omega) (z)) kX7_becomes tMet_X7_149 rfl rfl (Nat.le_of_ble_eq_true rfl) (Nat.le_of_ble_eq_true rfl) ⟨Nat.le_of_ble_eq_true rfl, Nat.le_of_ble_eq_true rfl⟩ rfl rfl (Nat.le_of_ble_eq_true rfl) dX7_seed_3 ?_
  have E : (s 5, upd s 5 z) = ((s (5)), (upd s (5) (z))) := by rfl
  exact g_retiP hR ⟨by rw [E], x, by rw [E]⟩ dX7_seed_6
end
section
/-- cells that no day touches, but for 2 and 3 -/
theorem fallS_out (s : Nat → Int32) (k j : Nat) (hk : k < 9) (h : j < 6 ∨ 69 ≤ j) : fallS s k j = s j := by rw [fallS, pk_un (by omega), pk_un (by omega)]
theorem cmS_out (t b s : Nat → Int32) (j : Nat) (h : j < 6 ∨ 69 ≤ j) : ∀ k, k ≤ 9 → cmS t b s k j = s j := by
  intro k
  induction k with
  | zero => intro _; rfl
  | succ k ih =>
    intro hk
    rw [cmS, cm1]
    split
    · rw [pk_un (by omega), pk_un (by omega)]; exact ih (by omega)
    · exact ih (by omega)
theorem fcS_out (s : Nat → Int32) (j : Nat) (h : j < 6 ∨ 69 ≤ j) : ∀ k, k ≤ 9 → fcS s k j = s j := by
  intro k
  induction k with
  | zero => intro _; rfl
  | succ k ih =>
    intro hk
    rw [fcS, fc1]
    split
    · exact (fallS_out _ k j (by omega) h).trans (ih (by omega))
    · exact ih (by omega)
theorem fnS_out (p0 : Nat → Bool) (n : Nat) (s : Nat → Int32) (j : Nat) (h : j < 6 ∨ 69 ≤ j) : ∀ k, k ≤ 9 → (fnS p0 n s k).1 j = s j := by
  intro k
  induction k with
  | zero => intro _; rfl
  | succ k ih =>
    intro hk
    rw [fnS]
    split
    · exact (fallS_out _ k j (by omega) h).trans (ih (by omega))
    · exact ih (by omega)
theorem frS_out (p0 : Nat → Bool) (n : Nat) (hn : n ≤ 9) (j : Nat) (h : j < 6 ∨ 69 ≤ j) : ∀ (f : Nat) (s : Nat → Int32), frS p0 n f s j = s j := by
  intro f
  induction f with
  | zero => intro s; rfl
  | succ f ih =>
    intro s
    rw [frS]
    split
    · rw [ih]; exact fnS_out p0 n s j h n hn
    · exact fnS_out p0 n s j h n hn
theorem dayS_out (s : Nat → Int32) (nt n : Nat) (hn : n ≤ 9) (j : Nat) (h : j < 6 ∨ 69 ≤ j) (h2 : j ≠ 2) (h3 : j ≠ 3) : dayS s nt n j = s j := by
  rw [dayS, reS, pk_un h2, pk_un h3, frS_out _ _ hn j h, fcS_out _ j h n hn, cmS_out _ _ _ j h n hn]
theorem dayS_2 (s : Nat → Int32) (nt n : Nat) (hn : n ≤ 9) : dayS s nt n 2 = s 2 + nI 1 := by
  rw [dayS, reS, pk_us, frS_out _ _ hn 2 (by omega), fcS_out _ 2 (by omega) n hn, cmS_out _ _ _ 2 (by omega) n hn]
theorem wkH_cong {s s2 : Nat → Int32} {b : Nat} (h : ∀ j, b ≤ j → s2 j = s j) : ∀ k, wkH s2 b k = wkH s b k := by
  intro k
  induction k with
  | zero => rfl
  | succ k ih => rw [wkH, wkH, ih, h (b + 4 + 2 * k) (by omega), h (b + 4 + 2 * k + 1) (by omega)]
theorem wkR_cong2 {s s2 nm : Nat → Int32} {b : Nat} (h : ∀ j, b ≤ j → s2 j = s j) : ∀ k, wkR nm s2 b k = wkR nm s b k := by
  intro k
  induction k with
  | zero => rfl
  | succ k ih => rw [wkR, wkR, ih, h (b + 4 + 2 * k) (by omega), h (b + 4 + 2 * k + 1) (by omega)]
theorem textOK_cong {s s2 : Nat → Int32} {t : Nat} (h : ∀ j, 69 ≤ j → s2 j = s j) (hok : textOK s t) : textOK s2 t := by
  obtain ⟨m, h1, h2, h3, h4, h5⟩ := hok
  refine ⟨m, by rw [h _ (by omega)]; exact h1, h2, fun k hk => ?_, ?_, fun k hk c1 c2 => ?_⟩
  · rw [wkH_cong (fun j hj => h j (by omega))]; exact h3 k hk
  · rw [wkH_cong (fun j hj => h j (by omega))]; exact h4
  · rw [h _ (by omega)] at c1 c2 ⊢
    rw [h _ (by omega)]
    exact h5 k hk c1 c2
theorem wkV_cong2 {s s2 nm : Nat → Int32} {t : Nat} (h : ∀ j, 69 ≤ j → s2 j = s j) : wkV nm s2 t = wkV nm s t := by rw [wkV, wkV, h _ (by omega), wkR_cong2 (fun j hj => h j (by omega))]
/-- n houses, nt texts that are in order -/
def stOK (s : Nat → Int32) (nt n : Nat) : Prop := s 1 = nI nt ∧ nt ≤ 14 ∧ (∀ t, t < nt → textOK s t) ∧ s 0 = nI n ∧ n ≤ 9
theorem stOK_cong {s s2 : Nat → Int32} {nt n : Nat} (h : ∀ j, 69 ≤ j → s2 j = s j) (h0 : s2 0 = s 0) (h1 : s2 1 = s 1) (hk : stOK s nt n) : stOK s2 nt n := ⟨h1.trans hk.1, hk.2.1, fun t ht => textOK_cong h (hk.2.2.1 t ht), h0.trans hk.2.2.2.1, hk.2.2.2.2⟩
/-- so many days -/
def itS (s : Nat → Int32) (nt n : Nat) : Nat → (Nat → Int32)
  | 0 => s
  | k + 1 => dayS (itS s nt n k) nt n
theorem itS_out (s : Nat → Int32) (nt n : Nat) (hn : n ≤ 9) (j : Nat) (h : j < 6 ∨ 69 ≤ j) (h2 : j ≠ 2) (h3 : j ≠ 3) : ∀ k, itS s nt n k j = s j := by
  intro k
  induction k with
  | zero => rfl
  | succ k ih => rw [itS, dayS_out _ _ _ hn j h h2 h3, ih]
theorem itS_2 {s : Nat → Int32} {nt n d : Nat} (hn : n ≤ 9) (hd : s 2 = nI d) : ∀ k, itS s nt n k 2 = nI (d + k) := by
  intro k
  induction k with
  | zero => exact hd
  | succ k ih => rw [itS, dayS_2 _ _ _ hn, ih, nI_add]; rfl
theorem stOK_it {s : Nat → Int32} {nt n : Nat} (h : stOK s nt n) (k : Nat) : stOK (itS s nt n k) nt n :=
  stOK_cong (fun j hj => itS_out s nt n h.2.2.2.2 j (by omega) (by omega) (by omega) k) (itS_out s nt n h.2.2.2.2 0 (by omega) (by omega) (by omega) k) (itS_out s nt n h.2.2.2.2 1 (by omega) (by omega) (by omega) k) h
theorem c_goesOnK (l : Launch) (D : va_G) (cy : Nat → ClassId) (Z : (Nat → Prop) → State → Heap → Prop) (hzo : zOK Z) {h0 : Nat} {a q : Nat → Nat} {C : (Nat → Int32) → (Nat → Int32) → (Nat → Nat → Int32) → (Nat → Nat → Int32) → va_W} (hC : mLens (cy 0) h0 a q C) (v s : Nat → Int32) (r x : Nat → Nat → Int32) (nt n : Nat) (h : stOK s nt n) : GM l D cy Z yX7_goesOn (zW yX7_goesOn cX7_goesOn 5 none) { frames := 4, cells := 0, slots := 0, locals := 96 } [.ref h0] (C v s r x) (fun res w2 => res = none ∧ ∃ x2, w2 = C v (dayS s nt n) r x2) 0 0 := c_goesOn l D cy Z hzo hC v s r x nt h.1 h.2.1 h.2.2.1 n h.2.2.2.1 h.2.2.2.2
def drw (s : Nat → Int32) : Nat → Int32 := upd s 5 (lotZ (s 5))
theorem c_drawnD (l : Launch) (D : va_G) (cy : Nat → ClassId) (Z : (Nat → Prop) → State → Heap → Prop) (hzo : zOK Z) {h0 : Nat} {a q : Nat → Nat} {C : (Nat → Int32) → (Nat → Int32) → (Nat → Nat → Int32) → (Nat → Nat → Int32) → va_W} (hC : mLens (cy 0) h0 a q C) (v s : Nat → Int32) (r x : Nat → Nat → Int32) : GD l D cy Z yX7_drawn (zW yX7_drawn cX7_drawn 1 (some .int)) { frames := 0, cells := 0, slots := 0, locals := 0 } [.ref h0] (C v s r x) (some (.int (lotN (s 5)))) (C v (drw s) r x) 0 0 := c_drawn l D cy Z hzo hC v s r x
def rmI (z y : Int32) : Int32 := z - z / y * y
/-- a house by the lot -/
def lot1 (s : Nat → Int32) (k : Nat) : Nat → Int32 := houseS (drw (drw (drw (drw s)))) k (rmI (lotN (s 5)) (nI 6)) (nI 1 + rmI (lotN (drw s 5)) (nI 60)) (rmI (lotN (drw (drw s) 5)) (nI 41) - nI 20) (rmI (lotN (drw (drw (drw s)) 5)) (nI 60))
def dlS (s : Nat → Int32) (n : Nat) : Nat → (Nat → Int32)
  | 0 => s
  | j + 1 => lot1 (dlS s n j) (n + j)
theorem dlS_0 {s : Nat → Int32} {n : Nat} (hn : s 0 = nI n) : ∀ j, dlS s n j 0 = nI (n + j)
  | 0 => hn
  | j + 1 => by rw [dlS, lot1, houseS_0]; rfl
theorem inB_t {z : Int32} {lo hi : Nat} (hlo : lo ≤ hi) (hi2 : hi < 2147483648) (h : inB z (nI lo) (nI hi) = true) : ∃ m, lo ≤ m ∧ m ≤ hi ∧ z = nI m := by
  rw [inB, Bool.and_eq_true, decide_eq_true_eq, decide_eq_true_eq] at h
  have e1 := Int32.le_iff_toInt_le.mp h.1
  have e2 := Int32.le_iff_toInt_le.mp h.2
  rw [nI_toInt (by omega)] at e1 e2
  refine ⟨z.toInt.toNat, by omega, by omega, ?_⟩
  apply Int32.toInt_inj.mp
  rw [nI_toInt (by omega)]
  omega
def dealP (s : Nat → Int32) (n : Nat) (z : Int32) : Int32 × (Nat → Int32) := if inB z 1 9 then (nI (min z.toNatClampNeg (9 - n)), dlS s n (min z.toNatClampNeg (9 - n))) else (-1000000001, s)
theorem kX7_deal : mKV RX7 yX7_deal cX7_deal 6 (some .int) 1 := ⟨tIns_X7_deal, tSel_X7_deal, tIni_X7, tCod_X7_deal, by decide +kernel⟩
set_option maxHeartbeats 4000000 in
set_option maxRecDepth 100000 in
theorem c_deal (l : Launch) (D : va_G) (cy : Nat → ClassId) (Z : (Nat → Prop) → State → Heap → Prop) (hzo : zOK Z) {h0 : Nat} {a q : Nat → Nat} {C : (Nat → Int32) → (Nat → Int32) → (Nat → Nat → Int32) → (Nat → Nat → Int32) → va_W} (hC : mLens (cy 0) h0 a q C) (v s : Nat → Int32) (r x : Nat → Nat → Int32) (n : Nat) (hn : s 0 = nI n) (hn9 : n ≤ 9) (z : Int32) : GM l D cy Z yX7_deal (zW yX7_deal cX7_deal 6 (some .int)) { frames := 2, cells := 0, slots := 0, locals := 48 } [.ref (h0), .int (z)] (C v s r x) (fun res w2 => res = some (.int (dealP s n z).1) ∧ ∃ x2, w2 = C v (dealP s n z).2 r x2) 0 0 := by
  refine g_entry (cc := cX7_deal) (maxL := 6) (by decide) rfl (Nat.le_of_ble_eq_true rfl) ?_
  intro κ hN hX hR
  have hX : GX κ cy Z cX7_deal (Cond.code yX7_deal cX7_deal 6 (some .int) :: zT) RX7 { frames := 2, cells := 0, slots := 0, locals := 48 } := hX
  show GW κ 0 0 _ 0 [(0, .ref (h0)), (1, .int (z))] []
  refine g_iload_n hX 1 rfl rfl dX7_deal_0 ?_
  refine g_i2l hX dX7_deal_1 ?_
  refine g_lconst hX (v := Int32.toInt64 (1)) (by decide) dX7_deal_2 ?_
  refine g_ldc2 hX (v := Int32.toInt64 (9)) (zu tCoL_X7_92 rfl) dX7_deal_3 ?_
  refine s_call hX hzo [.long (Int32.toInt64 (z)), .long (Int32.toInt64 ((1))), .long (Int32.toInt64 ((9)))] [] (c_isIn _ _ _ _ _ (z) ((1)) ((9))) kX7_isIn tMet_X7_71 rfl rfl (Nat.le_of_ble_eq_true rfl) (Nat.le_of_ble_eq_true rfl) ⟨Nat.le_of_ble_eq_true rfl, Nat.le_of_ble_eq_true rfl⟩ rfl rfl (Nat.le_of_ble_eq_true rfl) dX7_deal_6 ?_
  refine g_ifb_ne hX 15 (by decide) dX7_deal_9 (fun c9 => ?_) (fun c9 => ?_)
  · obtain ⟨m, hm1, hm9, rfl⟩ := inB_t (lo := 1) (hi := 9) (by decide) (by decide) c9
    have L : ∀ (f j : Nat), j ≤ min m (9 - n) → min m (9 - n) + 1 ≤ j + f → GW κ 0 0 (C v (dlS s n j) r x) 17 [(2, .int (nI (j))), (0, .ref (h0)), (1, .int (nI (m)))] [] := by
      intro f
      induction f with
      | zero => intro j h1 h2; exact absurd h2 (by omega)
      | succ f ih =>
        intro j h1 h2
        refine g_iload_n hX 0 rfl rfl dX7_deal_17 ?_
        refine g_iload_n hX 2 rfl rfl dX7_deal_18 ?_
        refine g_icmpN_ge hX (by omega) (by omega) 86 (by decide) dX7_deal_19 (fun c19 => ?_) (fun c19 => ?_)
        · refine g_iload_n hX 0 rfl rfl dX7_deal_86 ?_
          have hj : j = min m (9 - n) := by omega
          have E : dealP s n (nI m) = (nI j, dlS s n j) := by rw [dealP, if_pos c9, nI_clamp (by omega), ← hj]
          exact g_retiP hR ⟨by rw [E], x, by rw [E]⟩ dX7_deal_87
        · refine g_aload_n hX 1 rfl rfl dX7_deal_22 ?_
          refine m_getA hX hC 0 (by decide) rfl tFld_X7_7 dX7_deal_23 ?_
          refine g_iconst hX (v := nI 0) rfl dX7_deal_26 ?_
          refine m0_aldN hX hC (by omega) dX7_deal_27 ?_
          refine g_top (y := .int (nI (n + j))) (congrArg Value.int (dlS_0 hn j)) ?_
          refine g_bipush hX (v := nI 9) (by decide) dX7_deal_28 ?_
          refine g_icmpN_ge hX (by omega) (by omega) 86 (by decide) dX7_deal_30 (fun c30 => ?_) (fun c30 => ?_)
          · refine g_iload_n hX 0 rfl rfl dX7_deal_86 ?_
            have hj : j = min m (9 - n) := by omega
            have E : dealP s n (nI m) = (nI j, dlS s n j) := by rw [dealP, if_pos c9, nI_clamp (by omega), ← hj]
            exact g_retiP hR ⟨by rw [E], x, by rw [E]⟩ dX7_deal_87
          · have hnj : drw (drw (drw (drw (dlS s n j)))) 0 = nI (n + j) := by rw [drw, pk_un (by decide), drw, pk_un (by decide), drw, pk_un (by decide), drw, pk_un (by decide)]; exact dlS_0 hn j
            refine g_aload_n hX 1 rfl rfl dX7_deal_33 ?_
            refine m_callD hX hzo hC [] [] (c_drawnD _ _ _ _ hzo hC v (dlS s n j) r x) kX7_drawn tMet_X7_164 rfl rfl (Nat.le_of_ble_eq_true rfl) (Nat.le_of_ble_eq_true rfl) ⟨Nat.le_of_ble_eq_true rfl, Nat.le_of_ble_eq_true rfl⟩ rfl rfl (Nat.le_of_ble_eq_true rfl) dX7_deal_34 ?_
            refine g_bipush hX (v := nI 6) (by decide) dX7_deal_37 ?_
            refine g_irem hX (by decide) dX7_deal_39 ?_
            refine g_istore_n (lv2 := [(3, .int (((lotN ((dlS s n j) 5)) - (lotN ((dlS s n j) 5)) / nI (6) * nI (6)))), (2, .int (nI (j))), (0, .ref (h0)), (1, .int (nI (m)))]) hX 3 6 hN rfl (by decide) rfl dX7_deal_40 ?_
            refine g_iconst hX (v := nI 1) rfl dX7_deal_41 ?_
            refine g_aload_n hX 2 rfl rfl dX7_deal_42 ?_
            refine m_callD hX hzo hC [] [.int (nI (1))] (c_drawnD _ _ _ _ hzo hC v (drw (dlS s n j)) r x) kX7_drawn tMet_X7_164 rfl rfl (Nat.le_of_ble_eq_true rfl) (Nat.le_of_ble_eq_true rfl) ⟨Nat.le_of_ble_eq_true rfl, Nat.le_of_ble_eq_true rfl⟩ rfl rfl (Nat.le_of_ble_eq_true rfl) dX7_deal_43 ?_
            refine g_bipush hX (v := nI 60) (by decide) dX7_deal_46 ?_
            refine g_irem hX (by decide) dX7_deal_48 ?_
            refine g_iadd hX dX7_deal_49 ?_
            refine g_istore (lv2 := [(4, .int ((nI (1) + ((lotN ((drw (dlS s n j)) 5)) - (lotN ((drw (dlS s n j)) 5)) / nI (60) * nI (60))))), (3, .int (((lotN ((dlS s n j) 5)) - (lotN ((dlS s n j) 5)) / nI (6) * nI (6)))), (2, .int (nI (j))), (0, .ref (h0)), (1, .int (nI (m)))]) hX 4 6 hN (by decide) rfl dX7_deal_50 ?_
            refine g_aload_n hX 3 rfl rfl dX7_deal_52 ?_
            refine m_callD hX hzo hC [] [] (c_drawnD _ _ _ _ hzo hC v (drw (drw (dlS s n j))) r x) kX7_drawn tMet_X7_164 rfl rfl (Nat.le_of_ble_eq_true rfl) (Nat.le_of_ble_eq_true rfl) ⟨Nat.le_of_ble_eq_true rfl, Nat.le_of_ble_eq_true rfl⟩ rfl rfl (Nat.le_of_ble_eq_true rfl) dX7_deal_53 ?_
            refine g_bipush hX (v := nI 41) (by decide) dX7_deal_56 ?_
            refine g_irem hX (by decide) dX7_deal_58 ?_
            refine g_bipush hX (v := nI 20) (by decide) dX7_deal_59 ?_
            refine g_isub hX dX7_deal_61 ?_
            refine g_istore (lv2 := [(5, .int ((((lotN ((drw (drw (dlS s n j))) 5)) - (lotN ((drw (drw (dlS s n j))) 5)) / nI (41) * nI (41)) - nI (20)))), (4, .int ((nI (1) + ((lotN ((drw (dlS s n j)) 5)) - (lotN ((drw (dlS s n j)) 5)) / nI (60) * nI (60))))), (3, .int (((lotN ((dlS s n j) 5)) - (lotN ((dlS s n j) 5)) / nI (6) * nI (6)))), (2, .int (nI (j))), (0, .ref (h0)), (1, .int (nI (m)))]) hX 5 6 hN (by decide) rfl dX7_deal_62 ?_
            refine g_aload_n hX 4 rfl rfl dX7_deal_64 ?_
            refine g_iload_n hX 2 rfl rfl dX7_deal_65 ?_
            refine g_iload hX 1 rfl dX7_deal_66 ?_
            refine g_iload hX 0 rfl dX7_deal_68 ?_
            refine g_aload_n hX 4 rfl rfl dX7_deal_70 ?_
            refine m_callD hX hzo hC [] [.int ((((lotN ((drw (drw (dlS s n j))) 5)) - (lotN ((drw (drw (dlS s n j))) 5)) / nI (41) * nI (41)) - nI (20))), .int ((nI (1) + ((lotN ((drw (dlS s n j)) 5)) - (lotN ((drw (dlS s n j)) 5)) / nI (60) * nI (60)))), .int (((lotN ((dlS s n j) 5)) - (lotN ((dlS s n j) 5)) / nI (6) * nI (6))), .ref (h0)] (c_drawnD _ _ _ _ hzo hC v (drw (drw (drw (dlS s n j)))) r x) kX7_drawn tMet_X7_164 rfl rfl (Nat.le_of_ble_eq_true rfl) (Nat.le_of_ble_eq_true rfl) ⟨Nat.le_of_ble_eq_true rfl, Nat.le_of_ble_eq_true rfl⟩ rfl rfl (Nat.le_of_ble_eq_true rfl) dX7_deal_71 ?_
            refine g_bipush hX (v := nI 60) (by decide) dX7_deal_74 ?_
            refine g_irem hX (by decide) dX7_deal_76 ?_
            refine m_callD hX hzo hC [.int (((lotN ((dlS s n j) 5)) - (lotN ((dlS s n j) 5)) / nI (6) * nI (6))), .int ((nI (1) + ((lotN ((drw (dlS s n j)) 5)) - (lotN ((drw (dlS s n j)) 5)) / nI (60) * nI (60)))), .int ((((lotN ((drw (drw (dlS s n j))) 5)) - (lotN ((drw (drw (dlS s n j))) 5)) / nI (41) * nI (41)) - nI (20))), .int (((lotN ((drw (drw (drw (dlS s n j)))) 5)) - (lotN ((drw (drw (drw (dlS s n j)))) 5)) / nI (60) * nI (60)))] [] (c_comes _ _ _ _ hzo hC v (drw (drw (drw (drw (dlS s n j))))) r x (n + j) hnj (by omega) (((lotN ((dlS s n j) 5)) - (lotN ((dlS s n j) 5)) / nI (6) * nI (6))) ((nI (1) + ((lotN ((drw (dlS s n j)) 5)) - (lotN ((drw (dlS s n j)) 5)) / nI (60) * nI (60)))) ((((lotN ((drw (drw (dlS s n j))) 5)) - (lotN ((drw (drw (dlS s n j))) 5)) / nI (41) * nI (41)) - nI (20))) (((lotN ((drw (drw (drw (dlS s n j)))) 5)) - (lotN ((drw (drw (drw (dlS s n j)))) 5)) / nI (60) * nI (60)))) kX7_comes tMet_X7_102 rfl rfl (Nat.le_of_ble_eq_true rfl) (Nat.le_of_ble_eq_true rfl) ⟨Nat.le_of_ble_eq_true rfl, Nat.le_of_ble_eq_true rfl⟩ rfl rfl (Nat.le_of_ble_eq_true rfl) dX7_deal_77 ?_
            refine g_iincN (n := 1) (lv2 := [(2, .int (nI (j + 1))), (5, .int ((((lotN ((drw (drw (dlS s n j))) 5)) - (lotN ((drw (drw (dlS s n j))) 5)) / nI (41) * nI (41)) - nI (20)))), (4, .int ((nI (1) + ((lotN ((drw (dlS s n j)) 5)) - (lotN ((drw (dlS s n j)) 5)) / nI (60) * nI (60))))), (3, .int (((lotN ((dlS s n j) 5)) - (lotN ((dlS s n j) 5)) / nI (6) * nI (6)))), (0, .ref (h0)), (1, .int (nI (m)))]) hX 3 2 6 hN rfl (by decide) rfl dX7_deal_80 ?_
            refine g_goto hX 17 (by decide) dX7_deal_83 ?_
            refine g_lv [0, 4, 5] rfl ?_
            exact ih (j + 1) (by omega) (by omega)
    refine g_iconst hX (v := nI 0) rfl dX7_deal_15 ?_
    refine g_istore_n (lv2 := [(2, .int (nI (0))), (0, .ref (h0)), (1, .int (nI (m)))]) hX 2 6 hN rfl (by decide) rfl dX7_deal_16 ?_
    exact L 10 0 (by omega) (by omega)
  · refine g_ldc hX (v := -1000000001) (zu tCon_X7_100 rfl) dX7_deal_12 ?_
    have E : dealP s n z = ((-1000000001), s) := by rw [dealP, if_neg (bne c9)]
    exact g_retiP hR ⟨by rw [E], x, by rw [E]⟩ dX7_deal_14
def daysP (s : Nat → Int32) (nt n d : Nat) (z : Int32) : Int32 × (Nat → Int32) := if inB z 1 100 then (nI (cntS s n) - nI (cntS (itS s nt n (min z.toNatClampNeg (9999 - d))) n), itS s nt n (min z.toNatClampNeg (9999 - d))) else (-1000000001, s)
theorem kX7_days : mKV RX7 yX7_days cX7_days 4 (some .int) 1 := ⟨tIns_X7_days, tSel_X7_days, tIni_X7, tCod_X7_days, by decide +kernel⟩
set_option maxHeartbeats 4000000 in
set_option maxRecDepth 100000 in
theorem c_days (l : Launch) (D : va_G) (cy : Nat → ClassId) (Z : (Nat → Prop) → State → Heap → Prop) (hzo : zOK Z) {h0 : Nat} {a q : Nat → Nat} {C : (Nat → Int32) → (Nat → Int32) → (Nat → Nat → Int32) → (Nat → Nat → Int32) → va_W} (hC : mLens (cy 0) h0 a q C) (v s : Nat → Int32) (r x : Nat → Nat → Int32) (nt n : Nat) (hk : stOK s nt n) (d : Nat) (hd : s 2 = nI d) (hd9 : d ≤ 9999) (z : Int32) : GM l D cy Z yX7_days (zW yX7_days cX7_days 4 (some .int)) { frames := 5, cells := 0, slots := 0, locals := 120 } [.ref (h0), .int (z)] (C v s r x) (fun res w2 => res = some (.int (daysP s nt n d z).1) ∧ ∃ x2, w2 = C v (daysP s nt n d z).2 r x2) 0 0 := by
  refine g_entry (cc := cX7_days) (maxL := 4) (by decide) rfl (Nat.le_of_ble_eq_true rfl) ?_
  intro κ hN hX hR
  have hX : GX κ cy Z cX7_days (Cond.code yX7_days cX7_days 4 (some .int) :: zT) RX7 { frames := 5, cells := 0, slots := 0, locals := 120 } := hX
  show GW κ 0 0 _ 0 [(0, .ref (h0)), (1, .int (z))] []
  have hn9 := hk.2.2.2.2
  refine g_iload_n hX 1 rfl rfl dX7_days_0 ?_
  refine g_i2l hX dX7_days_1 ?_
  refine g_lconst hX (v := Int32.toInt64 (1)) (by decide) dX7_days_2 ?_
  refine g_ldc2 hX (v := Int32.toInt64 (100)) (zu tCoL_X7_170 rfl) dX7_days_3 ?_
  refine s_call hX hzo [.long (Int32.toInt64 (z)), .long (Int32.toInt64 ((1))), .long (Int32.toInt64 ((100)))] [] (c_isIn _ _ _ _ _ (z) ((1)) ((100))) kX7_isIn tMet_X7_71 rfl rfl (Nat.le_of_ble_eq_true rfl) (Nat.le_of_ble_eq_true rfl) ⟨Nat.le_of_ble_eq_true rfl, Nat.le_of_ble_eq_true rfl⟩ rfl rfl (Nat.le_of_ble_eq_true rfl) dX7_days_6 ?_
  refine g_ifb_ne hX 15 (by decide) dX7_days_9 (fun c9 => ?_) (fun c9 => ?_)
  · obtain ⟨m, hm1, hm9, rfl⟩ := inB_t (lo := 1) (hi := 100) (by decide) (by decide) c9
    have L : ∀ (f j : Nat) (x9 : Nat → Nat → Int32), j ≤ min m (9999 - d) → min m (9999 - d) + 1 ≤ j + f → GW κ 0 0 (C v (itS s nt n j) r x9) 25 [(3, .int (nI (j))), (2, .int (nI (pcN (maskN (sd s) n)))), (0, .ref (h0)), (1, .int (nI (m)))] [] := by
      intro f
      induction f with
      | zero => intro j x9 h1 h2; exact absurd h2 (by omega)
      | succ f ih =>
        intro j x9 h1 h2
        refine g_iload_n hX 0 rfl rfl dX7_days_25 ?_
        refine g_iload_n hX 3 rfl rfl dX7_days_26 ?_
        refine g_icmpN_ge hX (by omega) (by omega) 52 (by decide) dX7_days_27 (fun c27 => ?_) (fun c27 => ?_)
        · refine g_iload_n hX 1 rfl rfl dX7_days_52 ?_
          refine g_aload_n hX 2 rfl rfl dX7_days_53 ?_
          refine m_callD hX hzo hC [] [.int (nI (pcN (maskN (sd s) n)))] (c_allStanding _ _ _ _ hzo hC v (itS s nt n j) r x9 n (stOK_it hk j).2.2.2.1 hn9) kX7_allStanding tMet_X7_123 rfl rfl (Nat.le_of_ble_eq_true rfl) (Nat.le_of_ble_eq_true rfl) ⟨Nat.le_of_ble_eq_true rfl, Nat.le_of_ble_eq_true rfl⟩ rfl rfl (Nat.le_of_ble_eq_true rfl) dX7_days_54 ?_
          refine g_top (y := .int (nI (maskN (sd (itS s nt n j)) n))) (congrArg Value.int (mask_nI _ n (by omega))) ?_
          refine s_call hX hzo [.int (nI (maskN (sd (itS s nt n j)) n))] [.int (nI (pcN (maskN (sd s) n)))] (c_manyIn _ _ _ _ _ (maskN (sd (itS s nt n j)) n) (maskN_512 _ hn9)) kX7_manyIn tMet_X7_157 rfl rfl (Nat.le_of_ble_eq_true rfl) (Nat.le_of_ble_eq_true rfl) ⟨Nat.le_of_ble_eq_true rfl, Nat.le_of_ble_eq_true rfl⟩ rfl rfl (Nat.le_of_ble_eq_true rfl) dX7_days_57 ?_
          refine g_isub hX dX7_days_60 ?_
          have hj : j = min m (9999 - d) := by omega
          have E : daysP s nt n d (nI m) = (nI (cntS s n) - nI (cntS (itS s nt n j) n), itS s nt n j) := by rw [daysP, if_pos c9, nI_clamp (by omega), ← hj]
          exact g_retiP hR ⟨by rw [E]; rfl, x9, by rw [E]⟩ dX7_days_61
        · refine g_aload_n hX 2 rfl rfl dX7_days_30 ?_
          refine m_getA hX hC 0 (by decide) rfl tFld_X7_7 dX7_days_31 ?_
          refine g_iconst hX (v := nI 2) rfl dX7_days_34 ?_
          refine m0_aldN hX hC (by omega) dX7_days_35 ?_
          refine g_top (y := .int (nI (d + j))) (congrArg Value.int (itS_2 hn9 hd j)) ?_
          refine g_sipush hX (v := nI 9999) (by decide) dX7_days_36 ?_
          refine g_icmpN_ge hX (by omega) (by omega) 52 (by decide) dX7_days_39 (fun c39 => ?_) (fun c39 => ?_)
          · refine g_iload_n hX 1 rfl rfl dX7_days_52 ?_
            refine g_aload_n hX 2 rfl rfl dX7_days_53 ?_
            refine m_callD hX hzo hC [] [.int (nI (pcN (maskN (sd s) n)))] (c_allStanding _ _ _ _ hzo hC v (itS s nt n j) r x9 n (stOK_it hk j).2.2.2.1 hn9) kX7_allStanding tMet_X7_123 rfl rfl (Nat.le_of_ble_eq_true rfl) (Nat.le_of_ble_eq_true rfl) ⟨Nat.le_of_ble_eq_true rfl, Nat.le_of_ble_eq_true rfl⟩ rfl rfl (Nat.le_of_ble_eq_true rfl) dX7_days_54 ?_
            refine g_top (y := .int (nI (maskN (sd (itS s nt n j)) n))) (congrArg Value.int (mask_nI _ n (by omega))) ?_
            refine s_call hX hzo [.int (nI (maskN (sd (itS s nt n j)) n))] [.int (nI (pcN (maskN (sd s) n)))] (c_manyIn _ _ _ _ _ (maskN (sd (itS s nt n j)) n) (maskN_512 _ hn9)) kX7_manyIn tMet_X7_157 rfl rfl (Nat.le_of_ble_eq_true rfl) (Nat.le_of_ble_eq_true rfl) ⟨Nat.le_of_ble_eq_true rfl, Nat.le_of_ble_eq_true rfl⟩ rfl rfl (Nat.le_of_ble_eq_true rfl) dX7_days_57 ?_
            refine g_isub hX dX7_days_60 ?_
            have hj : j = min m (9999 - d) := by omega
            have E : daysP s nt n d (nI m) = (nI (cntS s n) - nI (cntS (itS s nt n j) n), itS s nt n j) := by rw [daysP, if_pos c9, nI_clamp (by omega), ← hj]
            exact g_retiP hR ⟨by rw [E]; rfl, x9, by rw [E]⟩ dX7_days_61
          · refine g_aload_n hX 2 rfl rfl dX7_days_42 ?_
            refine m_call hX hzo hC [] [] (c_goesOnK _ _ _ _ hzo hC v (itS s nt n j) r x9 nt n (stOK_it hk j)) kX7_goesOn tMet_X7_172 rfl rfl (Nat.le_of_ble_eq_true rfl) (Nat.le_of_ble_eq_true rfl) ⟨Nat.le_of_ble_eq_true rfl, Nat.le_of_ble_eq_true rfl⟩ rfl (Nat.le_of_ble_eq_true rfl) dX7_days_43 ?_
            rintro _ _ ⟨rfl, x43, rfl⟩
            show GW κ 0 0 _ 46 [(3, .int (nI (j))), (2, .int (nI (pcN (maskN (sd s) n)))), (0, .ref (h0)), (1, .int (nI (m)))] []
            refine g_iincN (n := 1) (lv2 := [(3, .int (nI (j + 1))), (2, .int (nI (pcN (maskN (sd s) n)))), (0, .ref (h0)), (1, .int (nI (m)))]) hX 0 3 4 hN rfl (by decide) rfl dX7_days_46 ?_
            refine g_goto hX 25 (by decide) dX7_days_49 ?_
            exact ih (j + 1) x43 (by omega) (by omega)
    refine g_aload_n hX 0 rfl rfl dX7_days_15 ?_
    refine m_callD hX hzo hC [] [] (c_allStanding _ _ _ _ hzo hC v s r x n hk.2.2.2.1 hn9) kX7_allStanding tMet_X7_123 rfl rfl (Nat.le_of_ble_eq_true rfl) (Nat.le_of_ble_eq_true rfl) ⟨Nat.le_of_ble_eq_true rfl, Nat.le_of_ble_eq_true rfl⟩ rfl rfl (Nat.le_of_ble_eq_true rfl) dX7_days_16 ?_
    refine g_top (y := .int (nI (maskN (sd s) n))) (congrArg Value.int (mask_nI _ n (by omega))) ?_
    refine s_call hX hzo [.int (nI (maskN (sd s) n))] [] (c_manyIn _ _ _ _ _ (maskN (sd s) n) (maskN_512 _ hn9)) kX7_manyIn tMet_X7_157 rfl rfl (Nat.le_of_ble_eq_true rfl) (Nat.le_of_ble_eq_true rfl) ⟨Nat.le_of_ble_eq_true rfl, Nat.le_of_ble_eq_true rfl⟩ rfl rfl (Nat.le_of_ble_eq_true rfl) dX7_days_19 ?_
    refine g_istore_n (lv2 := [(2, .int (nI (pcN (maskN (sd s) n)))), (0, .ref (h0)), (1, .int (nI (m)))]) hX 2 4 hN rfl (by decide) rfl dX7_days_22 ?_
    refine g_iconst hX (v := nI 0) rfl dX7_days_23 ?_
    refine g_istore_n (lv2 := [(3, .int (nI (0))), (2, .int (nI (pcN (maskN (sd s) n)))), (0, .ref (h0)), (1, .int (nI (m)))]) hX 3 4 hN rfl (by decide) rfl dX7_days_24 ?_
    exact L 101 0 x (by omega) (by omega)
  · refine g_ldc hX (v := -1000000001) (zu tCon_X7_100 rfl) dX7_days_12 ?_
    have E : daysP s nt n d z = ((-1000000001), s) := by rw [daysP, if_neg (bne c9)]
    exact g_retiP hR ⟨by rw [E], x, by rw [E]⟩ dX7_days_14
def smS (s : Nat → Int32) (m : Nat) : Nat → Int32
  | 0 => nI 0
  | k + 1 => smS s m k + s (6 + 7 * k + m)
theorem kX7_allOf : mKV RX7 yX7_allOf cX7_allOf 4 (some .int) 1 := ⟨tIns_X7_allOf, tSel_X7_allOf, tIni_X7, tCod_X7_allOf, by decide +kernel⟩
set_option maxHeartbeats 4000000 in
set_option maxRecDepth 100000 in
theorem c_allOf (l : Launch) (D : va_G) (cy : Nat → ClassId) (Z : (Nat → Prop) → State → Heap → Prop) (hzo : zOK Z) {h0 : Nat} {a q : Nat → Nat} {C : (Nat → Int32) → (Nat → Int32) → (Nat → Nat → Int32) → (Nat → Nat → Int32) → va_W} (hC : mLens (cy 0) h0 a q C) (v s : Nat → Int32) (r x : Nat → Nat → Int32) (n : Nat) (hn : s 0 = nI n) (hn9 : n ≤ 9) (m : Nat) (hm : m < 7) : GD l D cy Z yX7_allOf (zW yX7_allOf cX7_allOf 4 (some .int)) { frames := 1, cells := 0, slots := 0, locals := 22 } [.ref (h0), .int (nI (m))] (C v s r x) (some (.int (smS s m n))) (C v s r x) 0 0 := by
  refine g_entry (cc := cX7_allOf) (maxL := 4) (by decide) rfl (Nat.le_of_ble_eq_true rfl) ?_
  intro κ hN hX hR
  have hX : GX κ cy Z cX7_allOf (Cond.code yX7_allOf cX7_allOf 4 (some .int) :: zT) RX7 { frames := 1, cells := 0, slots := 0, locals := 22 } := hX
  show GW κ 0 0 _ 0 [(0, .ref (h0)), (1, .int (nI (m)))] []
  have L : ∀ (f i : Nat), i ≤ n → n + 1 ≤ i + f → GW κ 0 0 (C v s r x) 4 [(3, .int (nI (i))), (2, .int (smS s m i)), (0, .ref (h0)), (1, .int (nI (m)))] [] := by
    intro f
    induction f with
    | zero => intro i h1 h2; exact absurd h2 (by omega)
    | succ f ih =>
      intro i h1 h2
      refine g_iload_n hX 0 rfl rfl dX7_allOf_4 ?_
      refine g_aload_n hX 2 rfl rfl dX7_allOf_5 ?_
      refine m_getA hX hC 0 (by decide) rfl tFld_X7_7 dX7_allOf_6 ?_
      refine g_iconst hX (v := nI 0) rfl dX7_allOf_9 ?_
      refine m0_aldN hX hC (by omega) dX7_allOf_10 ?_
      refine g_top (y := .int (nI (n))) (congrArg Value.int hn) ?_
      refine g_icmpN_ge hX (by omega) (by omega) 29 (by decide) dX7_allOf_11 (fun c11 => ?_) (fun c11 => ?_)
      · refine g_iload_n hX 1 rfl rfl dX7_allOf_29 ?_
        exact g_reti hR (by rw [show i = n from by omega]) rfl dX7_allOf_30
      · refine g_iload_n hX 1 rfl rfl dX7_allOf_14 ?_
        refine g_aload_n hX 2 rfl rfl dX7_allOf_15 ?_
        refine g_iload_n hX 0 rfl rfl dX7_allOf_16 ?_
        refine g_iload_n hX 3 rfl rfl dX7_allOf_17 ?_
        refine m_callD hX hzo hC [.int (nI (i)), .int (nI (m))] [.int (smS s m i)] (c_of _ _ _ _ hzo hC v s r x (i) (m) (by omega)) kX7_of tMet_X7_75 rfl rfl (Nat.le_of_ble_eq_true rfl) (Nat.le_of_ble_eq_true rfl) ⟨Nat.le_of_ble_eq_true rfl, Nat.le_of_ble_eq_true rfl⟩ rfl rfl (Nat.le_of_ble_eq_true rfl) dX7_allOf_18 ?_
        refine g_iadd hX dX7_allOf_21 ?_
        refine g_istore_n (lv2 := [(2, .int ((smS s m i + s (6 + 7 * (i) + (m))))), (3, .int (nI (i))), (0, .ref (h0)), (1, .int (nI (m)))]) hX 2 4 hN rfl (by decide) rfl dX7_allOf_22 ?_
        refine g_iincN (n := 1) (lv2 := [(3, .int (nI (i + 1))), (2, .int ((smS s m i + s (6 + 7 * (i) + (m))))), (0, .ref (h0)), (1, .int (nI (m)))]) hX 1 3 4 hN rfl (by decide) rfl dX7_allOf_23 ?_
        refine g_goto hX 4 (by decide) dX7_allOf_26 ?_
        exact ih (i + 1) (by omega) (by omega)
  refine g_iconst hX (v := nI 0) rfl dX7_allOf_0 ?_
  refine g_istore_n (lv2 := [(2, .int (nI (0))), (0, .ref (h0)), (1, .int (nI (m)))]) hX 2 4 hN rfl (by decide) rfl dX7_allOf_1 ?_
  refine g_iconst hX (v := nI 0) rfl dX7_allOf_2 ?_
  refine g_istore_n (lv2 := [(3, .int (nI (0))), (2, .int (nI (0))), (0, .ref (h0)), (1, .int (nI (m)))]) hX 3 4 hN rfl (by decide) rfl dX7_allOf_3 ?_
  exact L (n + 1) 0 (by omega) (by omega)
def loB (s : Nat → Int32) (nt n k : Nat) : Bool := sd s k && !decide (offI (thS s nt n k) (nI 0) ≤ brs s k)
theorem kX7_looseOnes : mKV RX7 yX7_looseOnes cX7_looseOnes 3 (some .int) 0 := ⟨tIns_X7_looseOnes, tSel_X7_looseOnes, tIni_X7, tCod_X7_looseOnes, by decide +kernel⟩
set_option maxHeartbeats 4000000 in
set_option maxRecDepth 100000 in
theorem c_looseOnes (l : Launch) (D : va_G) (cy : Nat → ClassId) (Z : (Nat → Prop) → State → Heap → Prop) (hzo : zOK Z) {h0 : Nat} {a q : Nat → Nat} {C : (Nat → Int32) → (Nat → Int32) → (Nat → Nat → Int32) → (Nat → Nat → Int32) → va_W} (hC : mLens (cy 0) h0 a q C) (v s : Nat → Int32) (r x : Nat → Nat → Int32) (nt n : Nat) (hk : stOK s nt n) : GM l D cy Z yX7_looseOnes (zW yX7_looseOnes cX7_looseOnes 3 (some .int)) { frames := 4, cells := 0, slots := 0, locals := 96 } [.ref (h0)] (C v s r x) (fun res w2 => res = some (.int (maskI (loB s nt n) n)) ∧ ∃ x2, w2 = C v s r x2) 0 0 := by
  refine g_entry (cc := cX7_looseOnes) (maxL := 3) (by decide) rfl (Nat.le_of_ble_eq_true rfl) ?_
  intro κ hN hX hR
  have hX : GX κ cy Z cX7_looseOnes (Cond.code yX7_looseOnes cX7_looseOnes 3 (some .int) :: zT) RX7 { frames := 4, cells := 0, slots := 0, locals := 96 } := hX
  show GW κ 0 0 _ 0 [(0, .ref (h0))] []
  have hn9 := hk.2.2.2.2
  have L : ∀ (f i : Nat) (x9 : Nat → Nat → Int32), i ≤ n → n + 1 ≤ i + f → GW κ 0 0 (C v s r x9) 4 [(2, .int (nI (i))), (1, .int (maskI (loB s nt n) i)), (0, .ref (h0))] [] := by
    intro f
    induction f with
    | zero => intro i x9 h1 h2; exact absurd h2 (by omega)
    | succ f ih =>
      intro i x9 h1 h2
      refine g_iload_n hX 0 rfl rfl dX7_looseOnes_4 ?_
      refine g_aload_n hX 2 rfl rfl dX7_looseOnes_5 ?_
      refine m_getA hX hC 0 (by decide) rfl tFld_X7_7 dX7_looseOnes_6 ?_
      refine g_iconst hX (v := nI 0) rfl dX7_looseOnes_9 ?_
      refine m0_aldN hX hC (by omega) dX7_looseOnes_10 ?_
      refine g_top (y := .int (nI (n))) (congrArg Value.int hk.2.2.2.1) ?_
      refine g_icmpN_ge hX (by omega) (by omega) 55 (by decide) dX7_looseOnes_11 (fun c11 => ?_) (fun c11 => ?_)
      · refine g_iload_n hX 1 rfl rfl dX7_looseOnes_55 ?_
        exact g_retiP hR ⟨by rw [show i = n from by omega], x9, rfl⟩ dX7_looseOnes_56
      · refine g_iload_n hX 1 rfl rfl dX7_looseOnes_14 ?_
        refine g_aload_n hX 2 rfl rfl dX7_looseOnes_15 ?_
        refine g_iload_n hX 0 rfl rfl dX7_looseOnes_16 ?_
        refine m_callD hX hzo hC [.int (nI (i))] [.int (maskI (loB s nt n) i)] (c_stands _ _ _ _ hzo hC v s r x9 (i) (by omega)) kX7_stands tMet_X7_119 rfl rfl (Nat.le_of_ble_eq_true rfl) (Nat.le_of_ble_eq_true rfl) ⟨Nat.le_of_ble_eq_true rfl, Nat.le_of_ble_eq_true rfl⟩ rfl rfl (Nat.le_of_ble_eq_true rfl) dX7_looseOnes_17 ?_
        refine g_ifb_eq hX 46 (by decide) dX7_looseOnes_20 (fun c20 => ?_) (fun c20 => ?_)
        · refine g_iconst hX (v := nI 0) rfl dX7_looseOnes_46 ?_
          refine g_ior hX dX7_looseOnes_47 ?_
          refine g_istore_n (lv2 := [(1, .int ((maskI (loB s nt n) i ||| nI (0)))), (2, .int (nI (i))), (0, .ref (h0))]) hX 1 3 hN rfl (by decide) rfl dX7_looseOnes_48 ?_
          refine g_iincN (n := 1) (lv2 := [(2, .int (nI (i + 1))), (1, .int ((maskI (loB s nt n) i ||| nI (0)))), (0, .ref (h0))]) hX 1 2 3 hN rfl (by decide) rfl dX7_looseOnes_49 ?_
          refine g_goto hX 4 (by decide) dX7_looseOnes_52 ?_
          have e : maskI (loB s nt n) (i + 1) = (maskI (loB s nt n) i ||| nI (0)) := by rw [maskI, if_neg (by rw [loB, c20, Bool.false_and]; decide)]
          have K := ih (i + 1) x9 (by omega) (by omega)
          rw [e] at K
          exact K
        · refine g_aload_n hX 2 rfl rfl dX7_looseOnes_23 ?_
          refine g_iload_n hX 0 rfl rfl dX7_looseOnes_24 ?_
          refine m_call hX hzo hC [.int (nI (i))] [.int (maskI (loB s nt n) i)] (c_thrust _ _ _ _ hzo hC v s r x9 nt hk.1 hk.2.1 hk.2.2.1 n hk.2.2.2.1 hk.2.2.2.2 (i) (by omega)) kX7_thrust tMet_X7_139 rfl rfl (Nat.le_of_ble_eq_true rfl) (Nat.le_of_ble_eq_true rfl) ⟨Nat.le_of_ble_eq_true rfl, Nat.le_of_ble_eq_true rfl⟩ rfl (Nat.le_of_ble_eq_true rfl) dX7_looseOnes_25 ?_
          rintro _ _ ⟨rfl, x25, k25, rfl⟩
          show GW κ 0 0 _ 28 [(2, .int (nI (i))), (1, .int (maskI (loB s nt n) i)), (0, .ref (h0))] [.int ((thS s nt n (i))), .int (maskI (loB s nt n) i)]
          refine g_iconst hX (v := nI 0) rfl dX7_looseOnes_28 ?_
          refine s_call hX hzo [.int ((thS s nt n (i))), .int (nI (0))] [.int (maskI (loB s nt n) i)] (c_off _ _ _ _ _ ((thS s nt n (i))) (nI (0))) kX7_off tMet_X7_106 rfl rfl (Nat.le_of_ble_eq_true rfl) (Nat.le_of_ble_eq_true rfl) ⟨Nat.le_of_ble_eq_true rfl, Nat.le_of_ble_eq_true rfl⟩ rfl rfl (Nat.le_of_ble_eq_true rfl) dX7_looseOnes_29 ?_
          refine g_aload_n hX 2 rfl rfl dX7_looseOnes_32 ?_
          refine g_iload_n hX 0 rfl rfl dX7_looseOnes_33 ?_
          refine m_callD hX hzo hC [.int (nI (i))] [.int ((offI ((thS s nt n (i))) (nI (0)))), .int (maskI (loB s nt n) i)] (c_bears _ _ _ _ hzo hC v s r x25 (i) (by omega)) kX7_bears tMet_X7_136 rfl rfl (Nat.le_of_ble_eq_true rfl) (Nat.le_of_ble_eq_true rfl) ⟨Nat.le_of_ble_eq_true rfl, Nat.le_of_ble_eq_true rfl⟩ rfl rfl (Nat.le_of_ble_eq_true rfl) dX7_looseOnes_34 ?_
          refine g_icmp_le hX 46 (by decide) dX7_looseOnes_37 (fun c37 => ?_) (fun c37 => ?_)
          · refine g_iconst hX (v := nI 0) rfl dX7_looseOnes_46 ?_
            refine g_ior hX dX7_looseOnes_47 ?_
            refine g_istore_n (lv2 := [(1, .int ((maskI (loB s nt n) i ||| nI (0)))), (2, .int (nI (i))), (0, .ref (h0))]) hX 1 3 hN rfl (by decide) rfl dX7_looseOnes_48 ?_
            refine g_iincN (n := 1) (lv2 := [(2, .int (nI (i + 1))), (1, .int ((maskI (loB s nt n) i ||| nI (0)))), (0, .ref (h0))]) hX 1 2 3 hN rfl (by decide) rfl dX7_looseOnes_49 ?_
            refine g_goto hX 4 (by decide) dX7_looseOnes_52 ?_
            have e : maskI (loB s nt n) (i + 1) = (maskI (loB s nt n) i ||| nI (0)) := by rw [maskI, if_neg (by rw [loB, c20, decide_eq_true c37]; decide)]
            have K := ih (i + 1) x25 (by omega) (by omega)
            rw [e] at K
            exact K
          · refine g_iconst hX (v := nI 1) rfl dX7_looseOnes_40 ?_
            refine g_iload_n hX 0 rfl rfl dX7_looseOnes_41 ?_
            refine g_ishl hX dX7_looseOnes_42 ?_
            refine g_goto hX 47 (by decide) dX7_looseOnes_43 ?_
            refine g_ior hX dX7_looseOnes_47 ?_
            refine g_istore_n (lv2 := [(1, .int ((maskI (loB s nt n) i ||| (nI (1) <<< (nI (i) &&& 31))))), (2, .int (nI (i))), (0, .ref (h0))]) hX 1 3 hN rfl (by decide) rfl dX7_looseOnes_48 ?_
            refine g_iincN (n := 1) (lv2 := [(2, .int (nI (i + 1))), (1, .int ((maskI (loB s nt n) i ||| (nI (1) <<< (nI (i) &&& 31))))), (0, .ref (h0))]) hX 1 2 3 hN rfl (by decide) rfl dX7_looseOnes_49 ?_
            refine g_goto hX 4 (by decide) dX7_looseOnes_52 ?_
            have e : maskI (loB s nt n) (i + 1) = (maskI (loB s nt n) i ||| (nI (1) <<< (nI (i) &&& 31))) := by rw [maskI, if_pos (by rw [loB, c20, decide_eq_false c37]; rfl)]
            have K := ih (i + 1) x25 (by omega) (by omega)
            rw [e] at K
            exact K
  refine g_iconst hX (v := nI 0) rfl dX7_looseOnes_0 ?_
  refine g_istore_n (lv2 := [(1, .int (nI (0))), (0, .ref (h0))]) hX 1 3 hN rfl (by decide) rfl dX7_looseOnes_1 ?_
  refine g_iconst hX (v := nI 0) rfl dX7_looseOnes_2 ?_
  refine g_istore_n (lv2 := [(2, .int (nI (0))), (1, .int (nI (0))), (0, .ref (h0))]) hX 2 3 hN rfl (by decide) rfl dX7_looseOnes_3 ?_
  exact L (n + 1) 0 x (by omega) (by omega)
def streetP (s : Nat → Int32) (nt n : Nat) (y : Int32) : Int32 := if y = nI 0 then s 3 else if y = nI 1 then maskI (sd s) n else if y = nI 2 then smS s 4 n else if y = nI 3 then smS s 5 n else if y = nI 4 then maskI (loB s nt n) n else -1000000001
theorem kX7_street : mKV RX7 yX7_street cX7_street 2 (some .int) 1 := ⟨tIns_X7_street, tSel_X7_street, tIni_X7, tCod_X7_street, by decide +kernel⟩
set_option maxHeartbeats 4000000 in
set_option maxRecDepth 100000 in
theorem c_street (l : Launch) (D : va_G) (cy : Nat → ClassId) (Z : (Nat → Prop) → State → Heap → Prop) (hzo : zOK Z) {h0 : Nat} {a q : Nat → Nat} {C : (Nat → Int32) → (Nat → Int32) → (Nat → Nat → Int32) → (Nat → Nat → Int32) → va_W} (hC : mLens (cy 0) h0 a q C) (v s : Nat → Int32) (r x : Nat → Nat → Int32) (nt n : Nat) (hk : stOK s nt n) (y : Int32) : GM l D cy Z yX7_street (zW yX7_street cX7_street 2 (some .int)) { frames := 5, cells := 0, slots := 0, locals := 118 } [.ref (h0), .int (y)] (C v s r x) (fun res w2 => res = some (.int (streetP s nt n y)) ∧ ∃ x2, w2 = C v s r x2) 0 0 := by
  refine g_entry (cc := cX7_street) (maxL := 2) (by decide) rfl (Nat.le_of_ble_eq_true rfl) ?_
  intro κ hN hX hR
  have hX : GX κ cy Z cX7_street (Cond.code yX7_street cX7_street 2 (some .int) :: zT) RX7 { frames := 5, cells := 0, slots := 0, locals := 118 } := hX
  show GW κ 0 0 _ 0 [(0, .ref (h0)), (1, .int (y))] []
  have hn9 := hk.2.2.2.2
  refine g_iload_n hX 1 rfl rfl dX7_street_0 ?_
  rcases sw_in (y) 0 4 (by decide) with w1 | ⟨j1, w1a, w1b, w1⟩
  · refine g_tableOut hX 65 w1 (by decide) dX7_street_1 ?_
    refine g_ldc hX (v := -1000000001) (zu tCon_X7_100 rfl) dX7_street_65 ?_
    have E : streetP s nt n y = (-1000000001) := by rw [streetP, if_neg (sw_out w1 0 (by decide) (by decide) (by decide)), if_neg (sw_out w1 1 (by decide) (by decide) (by decide)), if_neg (sw_out w1 2 (by decide) (by decide) (by decide)), if_neg (sw_out w1 3 (by decide) (by decide) (by decide)), if_neg (sw_out w1 4 (by decide) (by decide) (by decide))]
    exact g_retiP hR ⟨by rw [E], x, rfl⟩ dX7_street_67
  · have hj : j1 = 0 ∨ j1 = 1 ∨ j1 = 2 ∨ j1 = 3 ∨ j1 = 4 := by omega
    rcases hj with rfl | rfl | rfl | rfl | rfl
    · subst w1
      refine g_tableIn hX 36 (by decide) (by decide) rfl (by decide) dX7_street_1 ?_
      refine g_aload_n hX 0 rfl rfl dX7_street_36 ?_
      refine m_getA hX hC 0 (by decide) rfl tFld_X7_7 dX7_street_37 ?_
      refine g_iconst hX (v := nI 3) rfl dX7_street_40 ?_
      refine m0_aldN hX hC (by omega) dX7_street_41 ?_
      have E : streetP s nt n (nI 0) = s (3) := by rfl
      exact g_retiP hR ⟨by rw [E], x, rfl⟩ dX7_street_42
    · subst w1
      refine g_tableIn hX 43 (by decide) (by decide) rfl (by decide) dX7_street_1 ?_
      refine g_aload_n hX 0 rfl rfl dX7_street_43 ?_
      refine m_callD hX hzo hC [] [] (c_allStanding _ _ _ _ hzo hC v s r x n hk.2.2.2.1 hn9) kX7_allStanding tMet_X7_123 rfl rfl (Nat.le_of_ble_eq_true rfl) (Nat.le_of_ble_eq_true rfl) ⟨Nat.le_of_ble_eq_true rfl, Nat.le_of_ble_eq_true rfl⟩ rfl rfl (Nat.le_of_ble_eq_true rfl) dX7_street_44 ?_
      have E : streetP s nt n (nI 1) = (maskI (sd s) n) := by rfl
      exact g_retiP hR ⟨by rw [E], x, rfl⟩ dX7_street_47
    · subst w1
      refine g_tableIn hX 48 (by decide) (by decide) rfl (by decide) dX7_street_1 ?_
      refine g_aload_n hX 0 rfl rfl dX7_street_48 ?_
      refine g_iconst hX (v := nI 4) rfl dX7_street_49 ?_
      refine m_callD hX hzo hC [.int (nI (4))] [] (c_allOf _ _ _ _ hzo hC v s r x n hk.2.2.2.1 hn9 (4) (by omega)) kX7_allOf tMet_X7_175 rfl rfl (Nat.le_of_ble_eq_true rfl) (Nat.le_of_ble_eq_true rfl) ⟨Nat.le_of_ble_eq_true rfl, Nat.le_of_ble_eq_true rfl⟩ rfl rfl (Nat.le_of_ble_eq_true rfl) dX7_street_50 ?_
      have E : streetP s nt n (nI 2) = (smS s (4) n) := by rfl
      exact g_retiP hR ⟨by rw [E], x, rfl⟩ dX7_street_53
    · subst w1
      refine g_tableIn hX 54 (by decide) (by decide) rfl (by decide) dX7_street_1 ?_
      refine g_aload_n hX 0 rfl rfl dX7_street_54 ?_
      refine g_iconst hX (v := nI 5) rfl dX7_street_55 ?_
      refine m_callD hX hzo hC [.int (nI (5))] [] (c_allOf _ _ _ _ hzo hC v s r x n hk.2.2.2.1 hn9 (5) (by omega)) kX7_allOf tMet_X7_175 rfl rfl (Nat.le_of_ble_eq_true rfl) (Nat.le_of_ble_eq_true rfl) ⟨Nat.le_of_ble_eq_true rfl, Nat.le_of_ble_eq_true rfl⟩ rfl rfl (Nat.le_of_ble_eq_true rfl) dX7_street_56 ?_
      have E : streetP s nt n (nI 3) = (smS s (5) n) := by rfl
      exact g_retiP hR ⟨by rw [E], x, rfl⟩ dX7_street_59
    · subst w1
      refine g_tableIn hX 60 (by decide) (by decide) rfl (by decide) dX7_street_1 ?_
      refine g_aload_n hX 0 rfl rfl dX7_street_60 ?_
      refine m_call hX hzo hC [] [] (c_looseOnes _ _ _ _ hzo hC v s r x nt n hk) kX7_looseOnes tMet_X7_178 rfl rfl (Nat.le_of_ble_eq_true rfl) (Nat.le_of_ble_eq_true rfl) ⟨Nat.le_of_ble_eq_true rfl, Nat.le_of_ble_eq_true rfl⟩ rfl (Nat.le_of_ble_eq_true rfl) dX7_street_61 ?_
      rintro _ _ ⟨rfl, x61, rfl⟩
      show GW κ 0 0 _ 64 [(0, .ref (h0)), (1, .int (nI (4)))] [.int ((maskI (loB s nt n) n))]
      have E : streetP s nt n (nI 4) = (maskI (loB s nt n) n) := by rfl
      exact g_retiP hR ⟨by rw [E], x61, rfl⟩ dX7_street_64
/-- the first i of f, then g -/
def cpN (i : Nat) (f g : Nat → Int32) : Nat → Int32 := fun k => if k < i then f k else g k
theorem cpN_0 (f g : Nat → Int32) : cpN 0 f g = g := by funext k; simp [cpN]
theorem cpN_s (i : Nat) (f g : Nat → Int32) : upd (cpN i f g) i (f i) = cpN (i + 1) f g := by
  funext k
  by_cases h : k = i
  · subst h; simp [upd, cpN]
  · simp only [upd, if_neg h, cpN]
    by_cases h2 : k < i
    · rw [if_pos h2, if_pos (by omega)]
    · rw [if_neg h2, if_neg (by omega)]
theorem kX7_laysBy : mKV RX7 yX7_laysBy cX7_laysBy 2 none 0 := ⟨tIns_X7_laysBy, tSel_X7_laysBy, tIni_X7, tCod_X7_laysBy, by decide +kernel⟩
set_option maxHeartbeats 4000000 in
set_option maxRecDepth 100000 in
theorem c_laysBy (l : Launch) (D : va_G) (cy : Nat → ClassId) (Z : (Nat → Prop) → State → Heap → Prop) (hzo : zOK Z) {h0 : Nat} {a q : Nat → Nat} {C : (Nat → Int32) → (Nat → Int32) → (Nat → Nat → Int32) → (Nat → Nat → Int32) → va_W} (hC : mLens (cy 0) h0 a q C) (v s : Nat → Int32) (r x : Nat → Nat → Int32) : GD l D cy Z yX7_laysBy (zW yX7_laysBy cX7_laysBy 2 none) { frames := 0, cells := 0, slots := 0, locals := 0 } [.ref (h0)] (C v s r x) none (C v s (mU r 14 (cpN 69 s (r 14))) x) 0 0 := by
  refine g_entry (cc := cX7_laysBy) (maxL := 2) (by decide) rfl (Nat.le_of_ble_eq_true rfl) ?_
  intro κ hN hX hR
  have hX : GX κ cy Z cX7_laysBy (Cond.code yX7_laysBy cX7_laysBy 2 none :: zT) RX7 { frames := 0, cells := 0, slots := 0, locals := 0 } := hX
  show GW κ 0 0 _ 0 [(0, .ref (h0))] []
  have L : ∀ (f i : Nat), i ≤ 69 → 70 ≤ i + f → GW κ 0 0 (C v s (mU r 14 (cpN i s (r 14))) x) 2 [(1, .int (nI (i))), (0, .ref (h0))] [] := by
    intro f
    induction f with
    | zero => intro i h1 h2; exact absurd h2 (by omega)
    | succ f ih =>
      intro i h1 h2
      refine g_iload_n hX 0 rfl rfl dX7_laysBy_2 ?_
      refine g_bipush hX (v := nI 69) (by decide) dX7_laysBy_3 ?_
      refine g_icmpN_ge hX (by omega) (by omega) 26 (by decide) dX7_laysBy_5 (fun c5 => ?_) (fun c5 => ?_)
      · exact g_retv hR (by rw [show i = 69 from by omega]) dX7_laysBy_26
      · refine g_aload_n hX 1 rfl rfl dX7_laysBy_8 ?_
        refine m_getA hX hC 14 (by decide) rfl tFld_X7_49 dX7_laysBy_9 ?_
        refine g_iload_n hX 0 rfl rfl dX7_laysBy_12 ?_
        refine g_aload_n hX 1 rfl rfl dX7_laysBy_13 ?_
        refine m_getA hX hC 0 (by decide) rfl tFld_X7_7 dX7_laysBy_14 ?_
        refine g_iload_n hX 0 rfl rfl dX7_laysBy_17 ?_
        refine m0_aldN hX hC (by omega) dX7_laysBy_18 ?_
        refine m_astN hX hC 14 rfl (show _ < mN 14 from by simp only [mN]; omega) (by decide) dX7_laysBy_19 ?_
        refine g_iincN (n := 1) (lv2 := [(1, .int (nI (i + 1))), (0, .ref (h0))]) hX 0 1 2 hN rfl (by decide) rfl dX7_laysBy_20 ?_
        refine g_goto hX 2 (by decide) dX7_laysBy_23 ?_
        have K := ih (i + 1) (by omega) (by omega)
        rw [← cpN_s] at K
        rw [mU_mU, mU_s]
        exact K
  refine g_iconst hX (v := nI 0) rfl dX7_laysBy_0 ?_
  refine g_istore_n (lv2 := [(1, .int (nI (0))), (0, .ref (h0))]) hX 1 2 hN rfl (by decide) rfl dX7_laysBy_1 ?_
  have K := L 70 0 (by omega) (by omega)
  rw [cpN_0, mU_self] at K
  exact K
theorem kX7_laysBack : mKV RX7 yX7_laysBack cX7_laysBack 2 none 0 := ⟨tIns_X7_laysBack, tSel_X7_laysBack, tIni_X7, tCod_X7_laysBack, by decide +kernel⟩
set_option maxHeartbeats 4000000 in
set_option maxRecDepth 100000 in
theorem c_laysBack (l : Launch) (D : va_G) (cy : Nat → ClassId) (Z : (Nat → Prop) → State → Heap → Prop) (hzo : zOK Z) {h0 : Nat} {a q : Nat → Nat} {C : (Nat → Int32) → (Nat → Int32) → (Nat → Nat → Int32) → (Nat → Nat → Int32) → va_W} (hC : mLens (cy 0) h0 a q C) (v s : Nat → Int32) (r x : Nat → Nat → Int32) : GD l D cy Z yX7_laysBack (zW yX7_laysBack cX7_laysBack 2 none) { frames := 0, cells := 0, slots := 0, locals := 0 } [.ref (h0)] (C v s r x) none (C v (cpN 69 (r 14) s) r x) 0 0 := by
  refine g_entry (cc := cX7_laysBack) (maxL := 2) (by decide) rfl (Nat.le_of_ble_eq_true rfl) ?_
  intro κ hN hX hR
  have hX : GX κ cy Z cX7_laysBack (Cond.code yX7_laysBack cX7_laysBack 2 none :: zT) RX7 { frames := 0, cells := 0, slots := 0, locals := 0 } := hX
  show GW κ 0 0 _ 0 [(0, .ref (h0))] []
  have L : ∀ (f i : Nat), i ≤ 69 → 70 ≤ i + f → GW κ 0 0 (C v (cpN i (r 14) s) r x) 2 [(1, .int (nI (i))), (0, .ref (h0))] [] := by
    intro f
    induction f with
    | zero => intro i h1 h2; exact absurd h2 (by omega)
    | succ f ih =>
      intro i h1 h2
      refine g_iload_n hX 0 rfl rfl dX7_laysBack_2 ?_
      refine g_bipush hX (v := nI 69) (by decide) dX7_laysBack_3 ?_
      refine g_icmpN_ge hX (by omega) (by omega) 26 (by decide) dX7_laysBack_5 (fun c5 => ?_) (fun c5 => ?_)
      · exact g_retv hR (by rw [show i = 69 from by omega]) dX7_laysBack_26
      · refine g_aload_n hX 1 rfl rfl dX7_laysBack_8 ?_
        refine m_getA hX hC 0 (by decide) rfl tFld_X7_7 dX7_laysBack_9 ?_
        refine g_iload_n hX 0 rfl rfl dX7_laysBack_12 ?_
        refine g_aload_n hX 1 rfl rfl dX7_laysBack_13 ?_
        refine m_getA hX hC 14 (by decide) rfl tFld_X7_49 dX7_laysBack_14 ?_
        refine g_iload_n hX 0 rfl rfl dX7_laysBack_17 ?_
        refine m_aldN hX hC 14 rfl (show _ < mN 14 from by simp only [mN]; omega) (by decide) dX7_laysBack_18 ?_
        refine m0_astN hX hC (by omega) dX7_laysBack_19 ?_
        refine g_iincN (n := 1) (lv2 := [(1, .int (nI (i + 1))), (0, .ref (h0))]) hX 0 1 2 hN rfl (by decide) rfl dX7_laysBack_20 ?_
        refine g_goto hX 2 (by decide) dX7_laysBack_23 ?_
        have K := ih (i + 1) (by omega) (by omega)
        rw [← cpN_s] at K
        exact K
  refine g_iconst hX (v := nI 0) rfl dX7_laysBack_0 ?_
  refine g_istore_n (lv2 := [(1, .int (nI (0))), (0, .ref (h0))]) hX 1 2 hN rfl (by decide) rfl dX7_laysBack_1 ?_
  have K := L 70 0 (by omega) (by omega)
  rw [cpN_0] at K
  exact K
theorem kX7_goesOnMany : mKV RX7 yX7_goesOnMany cX7_goesOnMany 3 none 1 := ⟨tIns_X7_goesOnMany, tSel_X7_goesOnMany, tIni_X7, tCod_X7_goesOnMany, by decide +kernel⟩
set_option maxHeartbeats 4000000 in
set_option maxRecDepth 100000 in
theorem c_goesOnMany (l : Launch) (D : va_G) (cy : Nat → ClassId) (Z : (Nat → Prop) → State → Heap → Prop) (hzo : zOK Z) {h0 : Nat} {a q : Nat → Nat} {C : (Nat → Int32) → (Nat → Int32) → (Nat → Nat → Int32) → (Nat → Nat → Int32) → va_W} (hC : mLens (cy 0) h0 a q C) (v s : Nat → Int32) (r x : Nat → Nat → Int32) (nt n : Nat) (hk : stOK s nt n) (m : Nat) (hm : m ≤ 1000) : GM l D cy Z yX7_goesOnMany (zW yX7_goesOnMany cX7_goesOnMany 3 none) { frames := 5, cells := 0, slots := 0, locals := 120 } [.ref (h0), .int (nI (m))] (C v s r x) (fun res w2 => res = none ∧ ∃ x2, w2 = C v (itS s nt n m) r x2) 0 0 := by
  refine g_entry (cc := cX7_goesOnMany) (maxL := 3) (by decide) rfl (Nat.le_of_ble_eq_true rfl) ?_
  intro κ hN hX hR
  have hX : GX κ cy Z cX7_goesOnMany (Cond.code yX7_goesOnMany cX7_goesOnMany 3 none :: zT) RX7 { frames := 5, cells := 0, slots := 0, locals := 120 } := hX
  show GW κ 0 0 _ 0 [(0, .ref (h0)), (1, .int (nI (m)))] []
  have L : ∀ (f i : Nat) (x9 : Nat → Nat → Int32), i ≤ m → m + 1 ≤ i + f → GW κ 0 0 (C v (itS s nt n i) r x9) 2 [(2, .int (nI (i))), (0, .ref (h0)), (1, .int (nI (m)))] [] := by
    intro f
    induction f with
    | zero => intro i x9 h1 h2; exact absurd h2 (by omega)
    | succ f ih =>
      intro i x9 h1 h2
      refine g_iload_n hX 0 rfl rfl dX7_goesOnMany_2 ?_
      refine g_iload_n hX 2 rfl rfl dX7_goesOnMany_3 ?_
      refine g_icmpN_ge hX (by omega) (by omega) 17 (by decide) dX7_goesOnMany_4 (fun c4 => ?_) (fun c4 => ?_)
      · exact g_retvP hR ⟨rfl, x9, by rw [show i = m from by omega]⟩ dX7_goesOnMany_17
      · refine g_aload_n hX 1 rfl rfl dX7_goesOnMany_7 ?_
        refine m_call hX hzo hC [] [] (c_goesOnK _ _ _ _ hzo hC v (itS s nt n i) r x9 nt n (stOK_it hk i)) kX7_goesOn tMet_X7_172 rfl rfl (Nat.le_of_ble_eq_true rfl) (Nat.le_of_ble_eq_true rfl) ⟨Nat.le_of_ble_eq_true rfl, Nat.le_of_ble_eq_true rfl⟩ rfl (Nat.le_of_ble_eq_true rfl) dX7_goesOnMany_8 ?_
        rintro _ _ ⟨rfl, x8, rfl⟩
        show GW κ 0 0 _ 11 [(2, .int (nI (i))), (0, .ref (h0)), (1, .int (nI (m)))] []
        refine g_iincN (n := 1) (lv2 := [(2, .int (nI (i + 1))), (0, .ref (h0)), (1, .int (nI (m)))]) hX 0 2 3 hN rfl (by decide) rfl dX7_goesOnMany_11 ?_
        refine g_goto hX 2 (by decide) dX7_goesOnMany_14 ?_
        exact ih (i + 1) x8 (by omega) (by omega)
  refine g_iconst hX (v := nI 0) rfl dX7_goesOnMany_0 ?_
  refine g_istore_n (lv2 := [(2, .int (nI (0))), (0, .ref (h0)), (1, .int (nI (m)))]) hX 2 3 hN rfl (by decide) rfl dX7_goesOnMany_1 ?_
  exact L (m + 1) 0 x (by omega) (by omega)
end
section
/-- rows but for what is laid by, set aside, carried, due -/
def rk (r r2 : Nat → Nat → Int32) : Prop := ∀ j, j ≠ 2 → j ≠ 14 → j ≠ 29 → j ≠ 32 → r2 j = r j
theorem rk_r (r : Nat → Nat → Int32) : rk r r := fun _ _ _ _ _ => rfl
theorem cp_back {s s0 f : Nat → Int32} (h1 : ∀ j, j < 69 → f j = s0 j) (h2 : ∀ j, 69 ≤ j → s j = s0 j) : cpN 69 f s = s0 := by
  funext k
  rw [cpN]
  split
  · exact h1 k (by assumption)
  · exact h2 k (by omega)
theorem itS_hi (s : Nat → Int32) (nt n : Nat) (hn : n ≤ 9) (k : Nat) : ∀ j, 69 ≤ j → itS s nt n k j = s j := fun j hj => itS_out s nt n hn j (by omega) (by omega) (by omega) k
/-- all that stand stand behind so many days -/
def keepB (s : Nat → Int32) (nt n m : Nat) : Bool := decide (maskI (sd (itS s nt n m)) n = maskI (sd s) n)
theorem c_laysBackT (l : Launch) (D : va_G) (cy : Nat → ClassId) (Z : (Nat → Prop) → State → Heap → Prop) (hzo : zOK Z) {h0 : Nat} {a q : Nat → Nat} {C : (Nat → Int32) → (Nat → Int32) → (Nat → Nat → Int32) → (Nat → Nat → Int32) → va_W} (hC : mLens (cy 0) h0 a q C) (v s : Nat → Int32) (r x : Nat → Nat → Int32) (s0 : Nat → Int32) (h1 : ∀ j, j < 69 → r 14 j = s0 j) (h2 : ∀ j, 69 ≤ j → s j = s0 j) : GD l D cy Z yX7_laysBack (zW yX7_laysBack cX7_laysBack 2 none) { frames := 0, cells := 0, slots := 0, locals := 0 } [.ref h0] (C v s r x) none (C v s0 r x) 0 0 := by
  have h := c_laysBack l D cy Z hzo hC v s r x
  rw [cp_back h1 h2] at h
  exact h
theorem lb_1 (s : Nat → Int32) (r : Nat → Nat → Int32) : (∀ j, j < 69 → (mU r 14 (cpN 69 s (r 14))) 14 j = s j) ∧ rk r (mU r 14 (cpN 69 s (r 14))) := ⟨fun j hj => by rw [mU_s, cpN, if_pos hj], fun j _ h14 _ _ => mU_n r _ h14⟩
def behP (s : Nat → Int32) (nt n : Nat) (z y : Int32) : Int32 := if inB z 0 100 && inB y 0 (nI (2 + n)) then (if y = nI 0 then maskI (sd (itS s nt n z.toNatClampNeg)) n else if y = nI 1 then smS (itS s nt n z.toNatClampNeg) 4 n else if y = nI 2 then itS s nt n z.toNatClampNeg 3 else itS s nt n z.toNatClampNeg (6 + 7 * (y.toNatClampNeg - 3) + 2)) else -1000000001
theorem kX7_behind : mKV RX7 yX7_behind cX7_behind 4 (some .int) 2 := ⟨tIns_X7_behind, tSel_X7_behind, tIni_X7, tCod_X7_behind, by decide +kernel⟩
set_option maxHeartbeats 4000000 in
set_option maxRecDepth 100000 in
theorem c_behind (l : Launch) (D : va_G) (cy : Nat → ClassId) (Z : (Nat → Prop) → State → Heap → Prop) (hzo : zOK Z) {h0 : Nat} {a q : Nat → Nat} {C : (Nat → Int32) → (Nat → Int32) → (Nat → Nat → Int32) → (Nat → Nat → Int32) → va_W} (hC : mLens (cy 0) h0 a q C) (v s : Nat → Int32) (r x : Nat → Nat → Int32) (nt n : Nat) (hk : stOK s nt n) (z y : Int32) : GM l D cy Z yX7_behind (zW yX7_behind cX7_behind 4 (some .int)) { frames := 6, cells := 0, slots := 0, locals := 142 } [.ref (h0), .int (z), .int (y)] (C v s r x) (fun res w2 => res = some (.int (behP s nt n z y)) ∧ ∃ r2 x2, rk r r2 ∧ w2 = C v s r2 x2) 0 0 := by
  refine g_entry (cc := cX7_behind) (maxL := 4) (by decide) rfl (Nat.le_of_ble_eq_true rfl) ?_
  intro κ hN hX hR
  have hX : GX κ cy Z cX7_behind (Cond.code yX7_behind cX7_behind 4 (some .int) :: zT) RX7 { frames := 6, cells := 0, slots := 0, locals := 142 } := hX
  show GW κ 0 0 _ 0 [(0, .ref (h0)), (1, .int (z)), (2, .int (y))] []
  have hn9 := hk.2.2.2.2
  have hn := hk.2.2.2.1
  refine g_iload_n hX 1 rfl rfl dX7_behind_0 ?_
  refine g_i2l hX dX7_behind_1 ?_
  refine g_lconst hX (v := Int32.toInt64 (0)) (by decide) dX7_behind_2 ?_
  refine g_ldc2 hX (v := Int32.toInt64 (100)) (zu tCoL_X7_170 rfl) dX7_behind_3 ?_
  refine s_call hX hzo [.long (Int32.toInt64 (z)), .long (Int32.toInt64 ((0))), .long (Int32.toInt64 ((100)))] [] (c_isIn _ _ _ _ _ (z) ((0)) ((100))) kX7_isIn tMet_X7_71 rfl rfl (Nat.le_of_ble_eq_true rfl) (Nat.le_of_ble_eq_true rfl) ⟨Nat.le_of_ble_eq_true rfl, Nat.le_of_ble_eq_true rfl⟩ rfl rfl (Nat.le_of_ble_eq_true rfl) dX7_behind_6 ?_
  refine g_ifb_eq hX 30 (by decide) dX7_behind_9 (fun c9 => ?_) (fun c9 => ?_)
  · refine g_ldc hX (v := -1000000001) (zu tCon_X7_100 rfl) dX7_behind_30 ?_
    have E : behP s nt n z y = (-1000000001) := by rw [behP, if_neg (by rw [c9]; simp)]
    exact g_retiP hR ⟨by rw [E]; try rfl, r, x, (rk_r r), rfl⟩ dX7_behind_32
  · obtain ⟨m, hm1, hm9, rfl⟩ := inB_t (lo := 0) (hi := 100) (by decide) (by decide) c9
    refine g_iload_n hX 2 rfl rfl dX7_behind_12 ?_
    refine g_i2l hX dX7_behind_13 ?_
    refine g_lconst hX (v := Int32.toInt64 (0)) (by decide) dX7_behind_14 ?_
    refine g_iconst hX (v := nI 2) rfl dX7_behind_15 ?_
    refine g_aload_n hX 0 rfl rfl dX7_behind_16 ?_
    refine m_getA hX hC 0 (by decide) rfl tFld_X7_7 dX7_behind_17 ?_
    refine g_iconst hX (v := nI 0) rfl dX7_behind_20 ?_
    refine m0_aldN hX hC (by omega) dX7_behind_21 ?_
    refine g_top (y := .int (nI (n))) (congrArg Value.int hn) ?_
    refine g_iaddN hX dX7_behind_22 ?_
    refine g_i2l hX dX7_behind_23 ?_
    refine s_call hX hzo [.long (Int32.toInt64 (y)), .long (Int32.toInt64 ((0))), .long (Int32.toInt64 (nI ((2 + n))))] [] (c_isIn _ _ _ _ _ (y) ((0)) (nI ((2 + n)))) kX7_isIn tMet_X7_71 rfl rfl (Nat.le_of_ble_eq_true rfl) (Nat.le_of_ble_eq_true rfl) ⟨Nat.le_of_ble_eq_true rfl, Nat.le_of_ble_eq_true rfl⟩ rfl rfl (Nat.le_of_ble_eq_true rfl) dX7_behind_24 ?_
    refine g_ifb_ne hX 33 (by decide) dX7_behind_27 (fun c27 => ?_) (fun c27 => ?_)
    · obtain ⟨u, hu1, hu9, rfl⟩ := inB_t (lo := 0) (hi := 2 + n) (by omega) (by omega) c27
      refine g_aload_n hX 0 rfl rfl dX7_behind_33 ?_
      refine m_callD hX hzo hC [] [] (c_laysBy _ _ _ _ hzo hC v s r x) kX7_laysBy tMet_X7_181 rfl rfl (Nat.le_of_ble_eq_true rfl) (Nat.le_of_ble_eq_true rfl) ⟨Nat.le_of_ble_eq_true rfl, Nat.le_of_ble_eq_true rfl⟩ rfl rfl (Nat.le_of_ble_eq_true rfl) dX7_behind_34 ?_
      obtain ⟨r1, er1⟩ : ∃ r1, r1 = mU r 14 (cpN 69 s (r 14)) := ⟨_, rfl⟩
      rw [← er1]
      obtain ⟨hb1, hrk⟩ : (∀ j, j < 69 → r1 14 j = s j) ∧ rk r r1 := by rw [er1]; exact lb_1 s r
      clear er1
      refine g_aload_n hX 0 rfl rfl dX7_behind_37 ?_
      refine g_iload_n hX 1 rfl rfl dX7_behind_38 ?_
      refine m_call hX hzo hC [.int (nI (m))] [] (c_goesOnMany _ _ _ _ hzo hC v s r1 x nt n hk (m) (by omega)) kX7_goesOnMany tMet_X7_184 rfl rfl (Nat.le_of_ble_eq_true rfl) (Nat.le_of_ble_eq_true rfl) ⟨Nat.le_of_ble_eq_true rfl, Nat.le_of_ble_eq_true rfl⟩ rfl (Nat.le_of_ble_eq_true rfl) dX7_behind_39 ?_
      rintro _ _ ⟨rfl, x39, rfl⟩
      show GW κ 0 0 (C v (itS s nt n (m)) r1 x39) 42 [(0, .ref (h0)), (1, .int (nI (m))), (2, .int (nI (u)))] []
      refine g_iload_n hX 2 rfl rfl dX7_behind_42 ?_
      refine g_ifN_ne hX (by omega) 53 (by decide) dX7_behind_43 (fun c43 => ?_) (fun c43 => ?_)
      · refine g_iload_n hX 2 rfl rfl dX7_behind_53 ?_
        refine g_iconst hX (v := nI 1) rfl dX7_behind_54 ?_
        refine g_icmpN_ne hX (by omega) (by omega) 66 (by decide) dX7_behind_55 (fun c55 => ?_) (fun c55 => ?_)
        · refine g_iload_n hX 2 rfl rfl dX7_behind_66 ?_
          refine g_iconst hX (v := nI 2) rfl dX7_behind_67 ?_
          refine g_icmpN_ne hX (by omega) (by omega) 80 (by decide) dX7_behind_68 (fun c68 => ?_) (fun c68 => ?_)
          · refine g_aload_n hX 0 rfl rfl dX7_behind_80 ?_
            refine g_iload_n hX 2 rfl rfl dX7_behind_81 ?_
            refine g_iconst hX (v := nI 3) rfl dX7_behind_82 ?_
            refine g_isubN hX (by omega) dX7_behind_83 ?_
            refine g_iconst hX (v := nI 2) rfl dX7_behind_84 ?_
            refine m_callD hX hzo hC [.int (nI ((u - 3))), .int (nI (2))] [] (c_of _ _ _ _ hzo hC v (itS s nt n (m)) r1 x39 ((u - 3)) (2) (by omega)) kX7_of tMet_X7_75 rfl rfl (Nat.le_of_ble_eq_true rfl) (Nat.le_of_ble_eq_true rfl) ⟨Nat.le_of_ble_eq_true rfl, Nat.le_of_ble_eq_true rfl⟩ rfl rfl (Nat.le_of_ble_eq_true rfl) dX7_behind_85 ?_
            refine g_istore_n (lv2 := [(3, .int ((itS s nt n (m)) (6 + 7 * ((u - 3)) + (2)))), (0, .ref (h0)), (1, .int (nI (m))), (2, .int (nI (u)))]) hX 3 4 hN rfl (by decide) rfl dX7_behind_88 ?_
            refine g_aload_n hX 1 rfl rfl dX7_behind_89 ?_
            refine m_callD hX hzo hC [] [] (c_laysBackT _ _ _ _ hzo hC v (itS s nt n (m)) r1 x39 s hb1 (itS_hi s nt n hn9 m)) kX7_laysBack tMet_X7_187 rfl rfl (Nat.le_of_ble_eq_true rfl) (Nat.le_of_ble_eq_true rfl) ⟨Nat.le_of_ble_eq_true rfl, Nat.le_of_ble_eq_true rfl⟩ rfl rfl (Nat.le_of_ble_eq_true rfl) dX7_behind_90 ?_
            refine g_iload_n hX 0 rfl rfl dX7_behind_93 ?_
            have E : behP s nt n (nI m) (nI u) = (itS s nt n (m)) (6 + 7 * ((u - 3)) + (2)) := by rw [behP, if_pos (by rw [c9, c27]; rfl), nI_clamp (by omega)]; rw [if_neg (fun h => c43 ((nI_eq (by omega) (by decide)).mp h)), if_neg (fun h => c55 ((nI_eq (by omega) (by decide)).mp h)), if_neg (fun h => c68 ((nI_eq (by omega) (by decide)).mp h)), nI_clamp (by omega)]
            exact g_retiP hR ⟨by rw [E]; try rfl, r1, x39, hrk, rfl⟩ dX7_behind_94
          · refine g_aload_n hX 0 rfl rfl dX7_behind_71 ?_
            refine m_getA hX hC 0 (by decide) rfl tFld_X7_7 dX7_behind_72 ?_
            refine g_iconst hX (v := nI 3) rfl dX7_behind_75 ?_
            refine m0_aldN hX hC (by omega) dX7_behind_76 ?_
            refine g_goto hX 88 (by decide) dX7_behind_77 ?_
            refine g_istore_n (lv2 := [(3, .int ((itS s nt n (m)) (3))), (0, .ref (h0)), (1, .int (nI (m))), (2, .int (nI (u)))]) hX 3 4 hN rfl (by decide) rfl dX7_behind_88 ?_
            refine g_aload_n hX 1 rfl rfl dX7_behind_89 ?_
            refine m_callD hX hzo hC [] [] (c_laysBackT _ _ _ _ hzo hC v (itS s nt n (m)) r1 x39 s hb1 (itS_hi s nt n hn9 m)) kX7_laysBack tMet_X7_187 rfl rfl (Nat.le_of_ble_eq_true rfl) (Nat.le_of_ble_eq_true rfl) ⟨Nat.le_of_ble_eq_true rfl, Nat.le_of_ble_eq_true rfl⟩ rfl rfl (Nat.le_of_ble_eq_true rfl) dX7_behind_90 ?_
            refine g_iload_n hX 0 rfl rfl dX7_behind_93 ?_
            have E : behP s nt n (nI m) (nI u) = (itS s nt n (m)) (3) := by rw [behP, if_pos (by rw [c9, c27]; rfl), nI_clamp (by omega)]; rw [if_neg (fun h => c43 ((nI_eq (by omega) (by decide)).mp h)), if_neg (fun h => c55 ((nI_eq (by omega) (by decide)).mp h)), if_pos (by rw [c68])]
            exact g_retiP hR ⟨by rw [E]; try rfl, r1, x39, hrk, rfl⟩ dX7_behind_94
        · refine g_aload_n hX 0 rfl rfl dX7_behind_58 ?_
          refine g_iconst hX (v := nI 4) rfl dX7_behind_59 ?_
          refine m_callD hX hzo hC [.int (nI (4))] [] (c_allOf _ _ _ _ hzo hC v (itS s nt n (m)) r1 x39 n (stOK_it hk m).2.2.2.1 hn9 (4) (by omega)) kX7_allOf tMet_X7_175 rfl rfl (Nat.le_of_ble_eq_true rfl) (Nat.le_of_ble_eq_true rfl) ⟨Nat.le_of_ble_eq_true rfl, Nat.le_of_ble_eq_true rfl⟩ rfl rfl (Nat.le_of_ble_eq_true rfl) dX7_behind_60 ?_
          refine g_goto hX 88 (by decide) dX7_behind_63 ?_
          refine g_istore_n (lv2 := [(3, .int ((smS (itS s nt n (m)) (4) n))), (0, .ref (h0)), (1, .int (nI (m))), (2, .int (nI (u)))]) hX 3 4 hN rfl (by decide) rfl dX7_behind_88 ?_
          refine g_aload_n hX 1 rfl rfl dX7_behind_89 ?_
          refine m_callD hX hzo hC [] [] (c_laysBackT _ _ _ _ hzo hC v (itS s nt n (m)) r1 x39 s hb1 (itS_hi s nt n hn9 m)) kX7_laysBack tMet_X7_187 rfl rfl (Nat.le_of_ble_eq_true rfl) (Nat.le_of_ble_eq_true rfl) ⟨Nat.le_of_ble_eq_true rfl, Nat.le_of_ble_eq_true rfl⟩ rfl rfl (Nat.le_of_ble_eq_true rfl) dX7_behind_90 ?_
          refine g_iload_n hX 0 rfl rfl dX7_behind_93 ?_
          have E : behP s nt n (nI m) (nI u) = (smS (itS s nt n (m)) (4) n) := by rw [behP, if_pos (by rw [c9, c27]; rfl), nI_clamp (by omega)]; rw [if_neg (fun h => c43 ((nI_eq (by omega) (by decide)).mp h)), if_pos (by rw [c55])]
          exact g_retiP hR ⟨by rw [E]; try rfl, r1, x39, hrk, rfl⟩ dX7_behind_94
      · refine g_aload_n hX 0 rfl rfl dX7_behind_46 ?_
        refine m_callD hX hzo hC [] [] (c_allStanding _ _ _ _ hzo hC v (itS s nt n (m)) r1 x39 n (stOK_it hk m).2.2.2.1 hn9) kX7_allStanding tMet_X7_123 rfl rfl (Nat.le_of_ble_eq_true rfl) (Nat.le_of_ble_eq_true rfl) ⟨Nat.le_of_ble_eq_true rfl, Nat.le_of_ble_eq_true rfl⟩ rfl rfl (Nat.le_of_ble_eq_true rfl) dX7_behind_47 ?_
        refine g_goto hX 88 (by decide) dX7_behind_50 ?_
        refine g_istore_n (lv2 := [(3, .int ((maskI (sd (itS s nt n (m))) n))), (0, .ref (h0)), (1, .int (nI (m))), (2, .int (nI (u)))]) hX 3 4 hN rfl (by decide) rfl dX7_behind_88 ?_
        refine g_aload_n hX 1 rfl rfl dX7_behind_89 ?_
        refine m_callD hX hzo hC [] [] (c_laysBackT _ _ _ _ hzo hC v (itS s nt n (m)) r1 x39 s hb1 (itS_hi s nt n hn9 m)) kX7_laysBack tMet_X7_187 rfl rfl (Nat.le_of_ble_eq_true rfl) (Nat.le_of_ble_eq_true rfl) ⟨Nat.le_of_ble_eq_true rfl, Nat.le_of_ble_eq_true rfl⟩ rfl rfl (Nat.le_of_ble_eq_true rfl) dX7_behind_90 ?_
        refine g_iload_n hX 0 rfl rfl dX7_behind_93 ?_
        have E : behP s nt n (nI m) (nI u) = (maskI (sd (itS s nt n (m))) n) := by rw [behP, if_pos (by rw [c9, c27]; rfl), nI_clamp (by omega)]; rw [if_pos (by rw [c43])]
        exact g_retiP hR ⟨by rw [E]; try rfl, r1, x39, hrk, rfl⟩ dX7_behind_94
    · refine g_ldc hX (v := -1000000001) (zu tCon_X7_100 rfl) dX7_behind_30 ?_
      have E : behP s nt n (nI m) y = (-1000000001) := by rw [behP, if_neg (by rw [c27]; simp)]
      exact g_retiP hR ⟨by rw [E]; try rfl, r, x, (rk_r r), rfl⟩ dX7_behind_32
/-- the first day k, k + 1 .. behind which another set stands -/
def lsO (s : Nat → Int32) (nt n : Nat) : Nat → Nat → Option Nat
  | 0, _ => none
  | f + 1, k => if maskI (sd (itS s nt n k)) n = maskI (sd s) n then lsO s nt n f (k + 1) else some k
def noneI : Option Nat → Int32
  | none => -1000000005
  | some k => nI k
theorem kX7_lasts : mKV RX7 yX7_lasts cX7_lasts 4 (some .int) 0 := ⟨tIns_X7_lasts, tSel_X7_lasts, tIni_X7, tCod_X7_lasts, by decide +kernel⟩
set_option maxHeartbeats 4000000 in
set_option maxRecDepth 100000 in
theorem c_lasts (l : Launch) (D : va_G) (cy : Nat → ClassId) (Z : (Nat → Prop) → State → Heap → Prop) (hzo : zOK Z) {h0 : Nat} {a q : Nat → Nat} {C : (Nat → Int32) → (Nat → Int32) → (Nat → Nat → Int32) → (Nat → Nat → Int32) → va_W} (hC : mLens (cy 0) h0 a q C) (v s : Nat → Int32) (r x : Nat → Nat → Int32) (nt n : Nat) (hk : stOK s nt n) : GM l D cy Z yX7_lasts (zW yX7_lasts cX7_lasts 4 (some .int)) { frames := 5, cells := 0, slots := 0, locals := 120 } [.ref (h0)] (C v s r x) (fun res w2 => res = some (.int (noneI (lsO s nt n 300 1))) ∧ ∃ r2 x2, rk r r2 ∧ w2 = C v s r2 x2) 0 0 := by
  refine g_entry (cc := cX7_lasts) (maxL := 4) (by decide) rfl (Nat.le_of_ble_eq_true rfl) ?_
  intro κ hN hX hR
  have hX : GX κ cy Z cX7_lasts (Cond.code yX7_lasts cX7_lasts 4 (some .int) :: zT) RX7 { frames := 5, cells := 0, slots := 0, locals := 120 } := hX
  show GW κ 0 0 _ 0 [(0, .ref (h0))] []
  have hn9 := hk.2.2.2.2
  have hn := hk.2.2.2.1
  refine g_aload_n hX 0 rfl rfl dX7_lasts_0 ?_
  refine m_callD hX hzo hC [] [] (c_laysBy _ _ _ _ hzo hC v s r x) kX7_laysBy tMet_X7_181 rfl rfl (Nat.le_of_ble_eq_true rfl) (Nat.le_of_ble_eq_true rfl) ⟨Nat.le_of_ble_eq_true rfl, Nat.le_of_ble_eq_true rfl⟩ rfl rfl (Nat.le_of_ble_eq_true rfl) dX7_lasts_1 ?_
  obtain ⟨r1, er1⟩ : ∃ r1, r1 = mU r 14 (cpN 69 s (r 14)) := ⟨_, rfl⟩
  rw [← er1]
  obtain ⟨hb1, hrk⟩ : (∀ j, j < 69 → r1 14 j = s j) ∧ rk r r1 := by rw [er1]; exact lb_1 s r
  clear er1
  have L : ∀ (f j : Nat) (x9 : Nat → Nat → Int32), j + f = 300 → lsO s nt n f (j + 1) = lsO s nt n 300 1 → GW κ 0 0 (C v (itS s nt n j) r1 x9) 13 [(3, .int (nI (j + 1))), (2, .int ((-1))), (1, .int ((maskI (sd s) n))), (0, .ref (h0))] [] := by
    intro f
    induction f with
    | zero =>
      intro j x9 h1 hE
      refine g_iload_n hX 0 rfl rfl dX7_lasts_13 ?_
      refine g_sipush hX (v := nI 300) (by decide) dX7_lasts_14 ?_
      refine g_icmpN_gt hX (by omega) (by omega) 48 (by decide) dX7_lasts_17 (fun c17 => ?_) (fun c17 => absurd c17 (by omega))
      refine g_aload_n hX 3 rfl rfl dX7_lasts_48 ?_
      refine m_callD hX hzo hC [] [] (c_laysBackT _ _ _ _ hzo hC v (itS s nt n j) r1 x9 s hb1 (itS_hi s nt n hn9 _)) kX7_laysBack tMet_X7_187 rfl rfl (Nat.le_of_ble_eq_true rfl) (Nat.le_of_ble_eq_true rfl) ⟨Nat.le_of_ble_eq_true rfl, Nat.le_of_ble_eq_true rfl⟩ rfl rfl (Nat.le_of_ble_eq_true rfl) dX7_lasts_49 ?_
      refine g_iload_n hX 1 rfl rfl dX7_lasts_52 ?_
      refine s_call hX hzo [.int ((-1))] [] (c_orNone _ _ _ _ _ ((-1))) kX7_orNone tMet_X7_190 rfl rfl (Nat.le_of_ble_eq_true rfl) (Nat.le_of_ble_eq_true rfl) ⟨Nat.le_of_ble_eq_true rfl, Nat.le_of_ble_eq_true rfl⟩ rfl rfl (Nat.le_of_ble_eq_true rfl) dX7_lasts_53 ?_
      have E : noneI (lsO s nt n 300 1) = (if (-1) < 0 then -1000000005 else (-1)) := by rw [← hE]; rfl
      exact g_retiP hR ⟨by rw [E]; try rfl, r1, x9, hrk, rfl⟩ dX7_lasts_56
    | succ f ih =>
      intro j x9 h1 hE
      refine g_iload_n hX 0 rfl rfl dX7_lasts_13 ?_
      refine g_sipush hX (v := nI 300) (by decide) dX7_lasts_14 ?_
      refine g_icmpN_gt hX (by omega) (by omega) 48 (by decide) dX7_lasts_17 (fun c17 => absurd c17 (by omega)) (fun c17 => ?_)
      refine g_iload_n hX 1 rfl rfl dX7_lasts_20 ?_
      refine g_if_ge hX 48 (by decide) dX7_lasts_21 (fun c21 => absurd c21 (by decide)) (fun c21 => ?_)
      refine g_aload_n hX 3 rfl rfl dX7_lasts_24 ?_
      refine m_call hX hzo hC [] [] (c_goesOnK _ _ _ _ hzo hC v (itS s nt n j) r1 x9 nt n (stOK_it hk j)) kX7_goesOn tMet_X7_172 rfl rfl (Nat.le_of_ble_eq_true rfl) (Nat.le_of_ble_eq_true rfl) ⟨Nat.le_of_ble_eq_true rfl, Nat.le_of_ble_eq_true rfl⟩ rfl (Nat.le_of_ble_eq_true rfl) dX7_lasts_25 ?_
      rintro _ _ ⟨rfl, x25, rfl⟩
      show GW κ 0 0 (C v (itS s nt n (j + 1)) r1 x25) 28 [(3, .int (nI (j + 1))), (2, .int ((-1))), (1, .int ((maskI (sd s) n))), (0, .ref (h0))] []
      refine g_aload_n hX 3 rfl rfl dX7_lasts_28 ?_
      refine m_callD hX hzo hC [] [] (c_allStanding _ _ _ _ hzo hC v (itS s nt n (j + 1)) r1 x25 n (stOK_it hk (j + 1)).2.2.2.1 hn9) kX7_allStanding tMet_X7_123 rfl rfl (Nat.le_of_ble_eq_true rfl) (Nat.le_of_ble_eq_true rfl) ⟨Nat.le_of_ble_eq_true rfl, Nat.le_of_ble_eq_true rfl⟩ rfl rfl (Nat.le_of_ble_eq_true rfl) dX7_lasts_29 ?_
      refine g_iload_n hX 2 rfl rfl dX7_lasts_32 ?_
      refine g_icmp_eq hX 40 (by decide) dX7_lasts_33 (fun c33 => ?_) (fun c33 => ?_)
      · refine g_iconst hX (v := -1) (by decide) dX7_lasts_40 ?_
        refine g_istore_n (lv2 := [(2, .int ((-1))), (3, .int (nI (j + 1))), (1, .int ((maskI (sd s) n))), (0, .ref (h0))]) hX 2 4 hN rfl (by decide) rfl dX7_lasts_41 ?_
        refine g_iincN (n := 1) (lv2 := [(3, .int (nI (j + 1 + 1))), (2, .int ((-1))), (1, .int ((maskI (sd s) n))), (0, .ref (h0))]) hX 1 3 4 hN rfl (by decide) rfl dX7_lasts_42 ?_
        refine g_goto hX 13 (by decide) dX7_lasts_45 ?_
        exact ih (j + 1) x25 (by omega) (by rw [← hE, lsO, if_pos c33])
      · refine g_iload_n hX 0 rfl rfl dX7_lasts_36 ?_
        refine g_goto hX 41 (by decide) dX7_lasts_37 ?_
        refine g_istore_n (lv2 := [(2, .int (nI (j + 1))), (3, .int (nI (j + 1))), (1, .int ((maskI (sd s) n))), (0, .ref (h0))]) hX 2 4 hN rfl (by decide) rfl dX7_lasts_41 ?_
        refine g_iincN (n := 1) (lv2 := [(3, .int (nI (j + 1 + 1))), (2, .int (nI (j + 1))), (1, .int ((maskI (sd s) n))), (0, .ref (h0))]) hX 1 3 4 hN rfl (by decide) rfl dX7_lasts_42 ?_
        refine g_goto hX 13 (by decide) dX7_lasts_45 ?_
        refine g_iload_n hX 0 rfl rfl dX7_lasts_13 ?_
        refine g_sipush hX (v := nI 300) (by decide) dX7_lasts_14 ?_
        refine g_icmpN_gt hX (by omega) (by omega) 48 (by decide) dX7_lasts_17 (fun c17 => ?_) (fun c17 => ?_)
        · refine g_aload_n hX 3 rfl rfl dX7_lasts_48 ?_
          refine m_callD hX hzo hC [] [] (c_laysBackT _ _ _ _ hzo hC v (itS s nt n (j + 1)) r1 x25 s hb1 (itS_hi s nt n hn9 _)) kX7_laysBack tMet_X7_187 rfl rfl (Nat.le_of_ble_eq_true rfl) (Nat.le_of_ble_eq_true rfl) ⟨Nat.le_of_ble_eq_true rfl, Nat.le_of_ble_eq_true rfl⟩ rfl rfl (Nat.le_of_ble_eq_true rfl) dX7_lasts_49 ?_
          refine g_iload_n hX 1 rfl rfl dX7_lasts_52 ?_
          refine s_call hX hzo [.int (nI (j + 1))] [] (c_orNone _ _ _ _ _ (nI (j + 1))) kX7_orNone tMet_X7_190 rfl rfl (Nat.le_of_ble_eq_true rfl) (Nat.le_of_ble_eq_true rfl) ⟨Nat.le_of_ble_eq_true rfl, Nat.le_of_ble_eq_true rfl⟩ rfl rfl (Nat.le_of_ble_eq_true rfl) dX7_lasts_53 ?_
          have E : noneI (lsO s nt n 300 1) = (if nI (j + 1) < 0 then -1000000005 else nI (j + 1)) := by rw [← hE, lsO, if_neg c33]; show nI (j + 1) = _; rw [if_neg (nI_pos (by omega))]
          exact g_retiP hR ⟨by rw [E]; try rfl, r1, x25, hrk, rfl⟩ dX7_lasts_56
        · refine g_iload_n hX 1 rfl rfl dX7_lasts_20 ?_
          refine g_ifN_ge hX (by omega) 48 (by decide) dX7_lasts_21 ?_
          refine g_aload_n hX 3 rfl rfl dX7_lasts_48 ?_
          refine m_callD hX hzo hC [] [] (c_laysBackT _ _ _ _ hzo hC v (itS s nt n (j + 1)) r1 x25 s hb1 (itS_hi s nt n hn9 _)) kX7_laysBack tMet_X7_187 rfl rfl (Nat.le_of_ble_eq_true rfl) (Nat.le_of_ble_eq_true rfl) ⟨Nat.le_of_ble_eq_true rfl, Nat.le_of_ble_eq_true rfl⟩ rfl rfl (Nat.le_of_ble_eq_true rfl) dX7_lasts_49 ?_
          refine g_iload_n hX 1 rfl rfl dX7_lasts_52 ?_
          refine s_call hX hzo [.int (nI (j + 1))] [] (c_orNone _ _ _ _ _ (nI (j + 1))) kX7_orNone tMet_X7_190 rfl rfl (Nat.le_of_ble_eq_true rfl) (Nat.le_of_ble_eq_true rfl) ⟨Nat.le_of_ble_eq_true rfl, Nat.le_of_ble_eq_true rfl⟩ rfl rfl (Nat.le_of_ble_eq_true rfl) dX7_lasts_53 ?_
          have E : noneI (lsO s nt n 300 1) = (if nI (j + 1) < 0 then -1000000005 else nI (j + 1)) := by rw [← hE, lsO, if_neg c33]; show nI (j + 1) = _; rw [if_neg (nI_pos (by omega))]
          exact g_retiP hR ⟨by rw [E]; try rfl, r1, x25, hrk, rfl⟩ dX7_lasts_56
  refine g_aload_n hX 0 rfl rfl dX7_lasts_4 ?_
  refine m_callD hX hzo hC [] [] (c_allStanding _ _ _ _ hzo hC v s r1 x n hn hn9) kX7_allStanding tMet_X7_123 rfl rfl (Nat.le_of_ble_eq_true rfl) (Nat.le_of_ble_eq_true rfl) ⟨Nat.le_of_ble_eq_true rfl, Nat.le_of_ble_eq_true rfl⟩ rfl rfl (Nat.le_of_ble_eq_true rfl) dX7_lasts_5 ?_
  refine g_istore_n (lv2 := [(1, .int ((maskI (sd s) n))), (0, .ref (h0))]) hX 1 4 hN rfl (by decide) rfl dX7_lasts_8 ?_
  refine g_iconst hX (v := -1) (by decide) dX7_lasts_9 ?_
  refine g_istore_n (lv2 := [(2, .int ((-1))), (1, .int ((maskI (sd s) n))), (0, .ref (h0))]) hX 2 4 hN rfl (by decide) rfl dX7_lasts_10 ?_
  refine g_iconst hX (v := nI 1) rfl dX7_lasts_11 ?_
  refine g_istore_n (lv2 := [(3, .int (nI (1))), (2, .int ((-1))), (1, .int ((maskI (sd s) n))), (0, .ref (h0))]) hX 3 4 hN rfl (by decide) rfl dX7_lasts_12 ?_
  exact L 300 0 x (by omega) rfl
def takP (s : Nat → Int32) (nt n : Nat) (z y : Int32) : Int32 := match hIx n z with
  | none => -1000000001
  | some k => if inB y 1 60 then (if sd s k then (maskI (sd (itS s nt n y.toNatClampNeg)) n &&& (maskI (sd (itS (fallS s k) nt n y.toNatClampNeg)) n ^^^ (-1))) &&& ((nI 1 <<< (nI k &&& 31)) ^^^ (-1)) else -1000000002) else -1000000001
theorem stOK_fall {s : Nat → Int32} {nt n k : Nat} (h : stOK s nt n) (hk : k < 9) : stOK (fallS s k) nt n := stOK_cong (fun j hj => fallS_out s k j hk (by omega)) (fallS_out s k 0 hk (by omega)) (fallS_out s k 1 hk (by omega)) h
theorem kX7_taken : mKV RX7 yX7_taken cX7_taken 5 (some .int) 2 := ⟨tIns_X7_taken, tSel_X7_taken, tIni_X7, tCod_X7_taken, by decide +kernel⟩
set_option maxHeartbeats 4000000 in
set_option maxRecDepth 100000 in
theorem c_taken (l : Launch) (D : va_G) (cy : Nat → ClassId) (Z : (Nat → Prop) → State → Heap → Prop) (hzo : zOK Z) {h0 : Nat} {a q : Nat → Nat} {C : (Nat → Int32) → (Nat → Int32) → (Nat → Nat → Int32) → (Nat → Nat → Int32) → va_W} (hC : mLens (cy 0) h0 a q C) (v s : Nat → Int32) (r x : Nat → Nat → Int32) (nt n : Nat) (hk : stOK s nt n) (z y : Int32) : GM l D cy Z yX7_taken (zW yX7_taken cX7_taken 5 (some .int)) { frames := 6, cells := 0, slots := 0, locals := 142 } [.ref (h0), .int (z), .int (y)] (C v s r x) (fun res w2 => res = some (.int (takP s nt n z y)) ∧ ∃ r2 x2, rk r r2 ∧ w2 = C v s r2 x2) 0 0 := by
  refine g_entry (cc := cX7_taken) (maxL := 5) (by decide) rfl (Nat.le_of_ble_eq_true rfl) ?_
  intro κ hN hX hR
  have hX : GX κ cy Z cX7_taken (Cond.code yX7_taken cX7_taken 5 (some .int) :: zT) RX7 { frames := 6, cells := 0, slots := 0, locals := 142 } := hX
  show GW κ 0 0 _ 0 [(0, .ref (h0)), (1, .int (z)), (2, .int (y))] []
  have hn9 := hk.2.2.2.2
  have hn := hk.2.2.2.1
  refine g_aload_n hX 0 rfl rfl dX7_taken_0 ?_
  refine g_iload_n hX 1 rfl rfl dX7_taken_1 ?_
  refine m_callD hX hzo hC [.int (z)] [] (c_isHouseN _ _ _ _ hzo hC v s r x n hn (z)) kX7_isHouse tMet_X7_133 rfl rfl (Nat.le_of_ble_eq_true rfl) (Nat.le_of_ble_eq_true rfl) ⟨Nat.le_of_ble_eq_true rfl, Nat.le_of_ble_eq_true rfl⟩ rfl rfl (Nat.le_of_ble_eq_true rfl) dX7_taken_2 ?_
  refine g_ifb_eq hX 20 (by decide) dX7_taken_5 (fun c5 => ?_) (fun c5 => ?_)
  · refine g_ldc hX (v := -1000000001) (zu tCon_X7_100 rfl) dX7_taken_20 ?_
    have E : takP s nt n z y = (-1000000001) := by rw [takP, hIx_f c5]
    exact g_retiP hR ⟨by rw [E]; try rfl, r, x, (rk_r r), rfl⟩ dX7_taken_22
  · obtain ⟨k, hk9, rfl⟩ := hB_t (by omega) c5
    refine g_iload_n hX 2 rfl rfl dX7_taken_8 ?_
    refine g_i2l hX dX7_taken_9 ?_
    refine g_lconst hX (v := Int32.toInt64 (1)) (by decide) dX7_taken_10 ?_
    refine g_ldc2 hX (v := Int32.toInt64 (60)) (zu tCoL_X7_193 rfl) dX7_taken_11 ?_
    refine s_call hX hzo [.long (Int32.toInt64 (y)), .long (Int32.toInt64 ((1))), .long (Int32.toInt64 ((60)))] [] (c_isIn _ _ _ _ _ (y) ((1)) ((60))) kX7_isIn tMet_X7_71 rfl rfl (Nat.le_of_ble_eq_true rfl) (Nat.le_of_ble_eq_true rfl) ⟨Nat.le_of_ble_eq_true rfl, Nat.le_of_ble_eq_true rfl⟩ rfl rfl (Nat.le_of_ble_eq_true rfl) dX7_taken_14 ?_
    refine g_ifb_ne hX 23 (by decide) dX7_taken_17 (fun c17 => ?_) (fun c17 => ?_)
    · obtain ⟨m, hm1, hm9, rfl⟩ := inB_t (lo := 1) (hi := 60) (by decide) (by decide) c17
      refine g_aload_n hX 0 rfl rfl dX7_taken_23 ?_
      refine g_iload_n hX 1 rfl rfl dX7_taken_24 ?_
      refine m_callD hX hzo hC [.int (nI (k))] [] (c_stands _ _ _ _ hzo hC v s r x (k) (by omega)) kX7_stands tMet_X7_119 rfl rfl (Nat.le_of_ble_eq_true rfl) (Nat.le_of_ble_eq_true rfl) ⟨Nat.le_of_ble_eq_true rfl, Nat.le_of_ble_eq_true rfl⟩ rfl rfl (Nat.le_of_ble_eq_true rfl) dX7_taken_25 ?_
      refine g_ifb_ne hX 34 (by decide) dX7_taken_28 (fun c28 => ?_) (fun c28 => ?_)
      · refine g_aload_n hX 0 rfl rfl dX7_taken_34 ?_
        refine m_callD hX hzo hC [] [] (c_laysBy _ _ _ _ hzo hC v s r x) kX7_laysBy tMet_X7_181 rfl rfl (Nat.le_of_ble_eq_true rfl) (Nat.le_of_ble_eq_true rfl) ⟨Nat.le_of_ble_eq_true rfl, Nat.le_of_ble_eq_true rfl⟩ rfl rfl (Nat.le_of_ble_eq_true rfl) dX7_taken_35 ?_
        obtain ⟨r1, er1⟩ : ∃ r1, r1 = mU r 14 (cpN 69 s (r 14)) := ⟨_, rfl⟩
        rw [← er1]
        obtain ⟨hb1, hrk⟩ : (∀ j, j < 69 → r1 14 j = s j) ∧ rk r r1 := by rw [er1]; exact lb_1 s r
        clear er1
        refine g_aload_n hX 0 rfl rfl dX7_taken_38 ?_
        refine g_iload_n hX 2 rfl rfl dX7_taken_39 ?_
        refine m_call hX hzo hC [.int (nI (m))] [] (c_goesOnMany _ _ _ _ hzo hC v s r1 x nt n hk (m) (by omega)) kX7_goesOnMany tMet_X7_184 rfl rfl (Nat.le_of_ble_eq_true rfl) (Nat.le_of_ble_eq_true rfl) ⟨Nat.le_of_ble_eq_true rfl, Nat.le_of_ble_eq_true rfl⟩ rfl (Nat.le_of_ble_eq_true rfl) dX7_taken_40 ?_
        rintro _ _ ⟨rfl, x40, rfl⟩
        show GW κ 0 0 (C v (itS s nt n (m)) r1 x40) 43 [(0, .ref (h0)), (1, .int (nI (k))), (2, .int (nI (m)))] []
        refine g_aload_n hX 0 rfl rfl dX7_taken_43 ?_
        refine m_callD hX hzo hC [] [] (c_allStanding _ _ _ _ hzo hC v (itS s nt n (m)) r1 x40 n (stOK_it hk m).2.2.2.1 hn9) kX7_allStanding tMet_X7_123 rfl rfl (Nat.le_of_ble_eq_true rfl) (Nat.le_of_ble_eq_true rfl) ⟨Nat.le_of_ble_eq_true rfl, Nat.le_of_ble_eq_true rfl⟩ rfl rfl (Nat.le_of_ble_eq_true rfl) dX7_taken_44 ?_
        refine g_istore_n (lv2 := [(3, .int ((maskI (sd (itS s nt n (m))) n))), (0, .ref (h0)), (1, .int (nI (k))), (2, .int (nI (m)))]) hX 3 5 hN rfl (by decide) rfl dX7_taken_47 ?_
        refine g_aload_n hX 1 rfl rfl dX7_taken_48 ?_
        refine m_callD hX hzo hC [] [] (c_laysBackT _ _ _ _ hzo hC v (itS s nt n (m)) r1 x40 s hb1 (itS_hi s nt n hn9 m)) kX7_laysBack tMet_X7_187 rfl rfl (Nat.le_of_ble_eq_true rfl) (Nat.le_of_ble_eq_true rfl) ⟨Nat.le_of_ble_eq_true rfl, Nat.le_of_ble_eq_true rfl⟩ rfl rfl (Nat.le_of_ble_eq_true rfl) dX7_taken_49 ?_
        refine g_aload_n hX 1 rfl rfl dX7_taken_52 ?_
        refine g_iload_n hX 2 rfl rfl dX7_taken_53 ?_
        refine m_callD hX hzo hC [.int (nI (k))] [] (c_falls _ _ _ _ hzo hC v s r1 x40 (k) (by omega)) kX7_falls tMet_X7_153 rfl rfl (Nat.le_of_ble_eq_true rfl) (Nat.le_of_ble_eq_true rfl) ⟨Nat.le_of_ble_eq_true rfl, Nat.le_of_ble_eq_true rfl⟩ rfl rfl (Nat.le_of_ble_eq_true rfl) dX7_taken_54 ?_
        refine g_aload_n hX 1 rfl rfl dX7_taken_57 ?_
        refine g_iload_n hX 3 rfl rfl dX7_taken_58 ?_
        refine m_call hX hzo hC [.int (nI (m))] [] (c_goesOnMany _ _ _ _ hzo hC v (fallS s (k)) r1 x40 nt n (stOK_fall hk (by omega)) (m) (by omega)) kX7_goesOnMany tMet_X7_184 rfl rfl (Nat.le_of_ble_eq_true rfl) (Nat.le_of_ble_eq_true rfl) ⟨Nat.le_of_ble_eq_true rfl, Nat.le_of_ble_eq_true rfl⟩ rfl (Nat.le_of_ble_eq_true rfl) dX7_taken_59 ?_
        rintro _ _ ⟨rfl, x59, rfl⟩
        show GW κ 0 0 (C v (itS (fallS s (k)) nt n (m)) r1 x59) 62 [(3, .int ((maskI (sd (itS s nt n (m))) n))), (0, .ref (h0)), (1, .int (nI (k))), (2, .int (nI (m)))] []
        refine g_iload_n hX 0 rfl rfl dX7_taken_62 ?_
        refine g_aload_n hX 1 rfl rfl dX7_taken_63 ?_
        refine m_callD hX hzo hC [] [.int ((maskI (sd (itS s nt n (m))) n))] (c_allStanding _ _ _ _ hzo hC v (itS (fallS s (k)) nt n (m)) r1 x59 n (stOK_it (stOK_fall hk (by omega)) m).2.2.2.1 hn9) kX7_allStanding tMet_X7_123 rfl rfl (Nat.le_of_ble_eq_true rfl) (Nat.le_of_ble_eq_true rfl) ⟨Nat.le_of_ble_eq_true rfl, Nat.le_of_ble_eq_true rfl⟩ rfl rfl (Nat.le_of_ble_eq_true rfl) dX7_taken_64 ?_
        refine g_iconst hX (v := -1) (by decide) dX7_taken_67 ?_
        refine g_ixor hX dX7_taken_68 ?_
        refine g_iand hX dX7_taken_69 ?_
        refine g_iconst hX (v := nI 1) rfl dX7_taken_70 ?_
        refine g_iload_n hX 2 rfl rfl dX7_taken_71 ?_
        refine g_ishl hX dX7_taken_72 ?_
        refine g_iconst hX (v := -1) (by decide) dX7_taken_73 ?_
        refine g_ixor hX dX7_taken_74 ?_
        refine g_iand hX dX7_taken_75 ?_
        refine g_istore (lv2 := [(4, .int ((((maskI (sd (itS s nt n (m))) n) &&& ((maskI (sd (itS (fallS s (k)) nt n (m))) n) ^^^ (-1))) &&& ((nI (1) <<< (nI (k) &&& 31)) ^^^ (-1))))), (3, .int ((maskI (sd (itS s nt n (m))) n))), (0, .ref (h0)), (1, .int (nI (k))), (2, .int (nI (m)))]) hX 4 5 hN (by decide) rfl dX7_taken_76 ?_
        refine g_aload_n hX 2 rfl rfl dX7_taken_78 ?_
        refine m_callD hX hzo hC [] [] (c_laysBackT _ _ _ _ hzo hC v (itS (fallS s (k)) nt n (m)) r1 x59 s hb1 (fun j hj => (itS_hi (fallS s k) nt n hn9 m j hj).trans (fallS_out s k j (by omega) (by omega)))) kX7_laysBack tMet_X7_187 rfl rfl (Nat.le_of_ble_eq_true rfl) (Nat.le_of_ble_eq_true rfl) ⟨Nat.le_of_ble_eq_true rfl, Nat.le_of_ble_eq_true rfl⟩ rfl rfl (Nat.le_of_ble_eq_true rfl) dX7_taken_79 ?_
        refine g_iload hX 0 rfl dX7_taken_82 ?_
        have E : takP s nt n (nI k) (nI m) = (((maskI (sd (itS s nt n (m))) n) &&& ((maskI (sd (itS (fallS s (k)) nt n (m))) n) ^^^ (-1))) &&& ((nI (1) <<< (nI (k) &&& 31)) ^^^ (-1))) := by rw [takP, hIx_k (by omega) hk9]; show (if _ then _ else _) = _; rw [if_pos c17, nI_clamp (by omega), if_pos c28]
        exact g_retiP hR ⟨by rw [E]; try rfl, r1, x59, hrk, rfl⟩ dX7_taken_84
      · refine g_ldc hX (v := -1000000002) (zu tCon_X7_152 rfl) dX7_taken_31 ?_
        have E : takP s nt n (nI k) (nI m) = (-1000000002) := by rw [takP, hIx_k (by omega) hk9]; show (if _ then _ else _) = _; rw [if_pos c17, nI_clamp (by omega), if_neg (bne c28)]
        exact g_retiP hR ⟨by rw [E]; try rfl, r, x, (rk_r r), rfl⟩ dX7_taken_33
    · refine g_ldc hX (v := -1000000001) (zu tCon_X7_100 rfl) dX7_taken_20 ?_
      have E : takP s nt n (nI k) y = (-1000000001) := by rw [takP, hIx_k (by omega) hk9]; show (if _ then _ else _) = _; rw [if_neg (bne c17)]
      exact g_retiP hR ⟨by rw [E]; try rfl, r, x, (rk_r r), rfl⟩ dX7_taken_22
theorem kX7_keeps : mKV RX7 yX7_keeps cX7_keeps 4 (some .boolean) 1 := ⟨tIns_X7_keeps, tSel_X7_keeps, tIni_X7, tCod_X7_keeps, by decide +kernel⟩
set_option maxHeartbeats 4000000 in
set_option maxRecDepth 100000 in
theorem c_keeps (l : Launch) (D : va_G) (cy : Nat → ClassId) (Z : (Nat → Prop) → State → Heap → Prop) (hzo : zOK Z) {h0 : Nat} {a q : Nat → Nat} {C : (Nat → Int32) → (Nat → Int32) → (Nat → Nat → Int32) → (Nat → Nat → Int32) → va_W} (hC : mLens (cy 0) h0 a q C) (v s : Nat → Int32) (r x : Nat → Nat → Int32) (nt n : Nat) (hk : stOK s nt n) (m : Nat) (hm : m ≤ 100) (s0 : Nat → Int32) (h1 : ∀ j, j < 69 → r 14 j = s0 j) (h2 : ∀ j, 69 ≤ j → s j = s0 j) : GM l D cy Z yX7_keeps (zW yX7_keeps cX7_keeps 4 (some .boolean)) { frames := 6, cells := 0, slots := 0, locals := 142 } [.ref (h0), .int (nI (m))] (C v s r x) (fun res w2 => res = some (.int (bI (keepB s nt n m))) ∧ ∃ x2, w2 = C v s0 r x2) 0 0 := by
  refine g_entry (cc := cX7_keeps) (maxL := 4) (by decide) rfl (Nat.le_of_ble_eq_true rfl) ?_
  intro κ hN hX hR
  have hX : GX κ cy Z cX7_keeps (Cond.code yX7_keeps cX7_keeps 4 (some .boolean) :: zT) RX7 { frames := 6, cells := 0, slots := 0, locals := 142 } := hX
  show GW κ 0 0 _ 0 [(0, .ref (h0)), (1, .int (nI (m)))] []
  have hn9 := hk.2.2.2.2
  refine g_aload_n hX 0 rfl rfl dX7_keeps_0 ?_
  refine m_callD hX hzo hC [] [] (c_allStanding _ _ _ _ hzo hC v s r x n hk.2.2.2.1 hn9) kX7_allStanding tMet_X7_123 rfl rfl (Nat.le_of_ble_eq_true rfl) (Nat.le_of_ble_eq_true rfl) ⟨Nat.le_of_ble_eq_true rfl, Nat.le_of_ble_eq_true rfl⟩ rfl rfl (Nat.le_of_ble_eq_true rfl) dX7_keeps_1 ?_
  refine g_istore_n (lv2 := [(2, .int ((maskI (sd s) n))), (0, .ref (h0)), (1, .int (nI (m)))]) hX 2 4 hN rfl (by decide) rfl dX7_keeps_4 ?_
  refine g_aload_n hX 1 rfl rfl dX7_keeps_5 ?_
  refine g_iload_n hX 2 rfl rfl dX7_keeps_6 ?_
  refine m_call hX hzo hC [.int (nI (m))] [] (c_goesOnMany _ _ _ _ hzo hC v s r x nt n hk (m) (by omega)) kX7_goesOnMany tMet_X7_184 rfl rfl (Nat.le_of_ble_eq_true rfl) (Nat.le_of_ble_eq_true rfl) ⟨Nat.le_of_ble_eq_true rfl, Nat.le_of_ble_eq_true rfl⟩ rfl (Nat.le_of_ble_eq_true rfl) dX7_keeps_7 ?_
  rintro _ _ ⟨rfl, x7, rfl⟩
  show GW κ 0 0 (C v (itS s nt n (m)) r x7) 10 [(2, .int ((maskI (sd s) n))), (0, .ref (h0)), (1, .int (nI (m)))] []
  refine g_aload_n hX 1 rfl rfl dX7_keeps_10 ?_
  refine m_callD hX hzo hC [] [] (c_allStanding _ _ _ _ hzo hC v (itS s nt n (m)) r x7 n (stOK_it hk m).2.2.2.1 hn9) kX7_allStanding tMet_X7_123 rfl rfl (Nat.le_of_ble_eq_true rfl) (Nat.le_of_ble_eq_true rfl) ⟨Nat.le_of_ble_eq_true rfl, Nat.le_of_ble_eq_true rfl⟩ rfl rfl (Nat.le_of_ble_eq_true rfl) dX7_keeps_11 ?_
  refine g_iload_n hX 0 rfl rfl dX7_keeps_14 ?_
  refine g_icmp_ne hX 22 (by decide) dX7_keeps_15 (fun c15 => ?_) (fun c15 => ?_)
  · refine g_iconst hX (v := nI 0) rfl dX7_keeps_22 ?_
    refine g_istore_n (lv2 := [(3, .int (nI (0))), (2, .int ((maskI (sd s) n))), (0, .ref (h0)), (1, .int (nI (m)))]) hX 3 4 hN rfl (by decide) rfl dX7_keeps_23 ?_
    refine g_aload_n hX 2 rfl rfl dX7_keeps_24 ?_
    refine m_callD hX hzo hC [] [] (c_laysBackT _ _ _ _ hzo hC v (itS s nt n (m)) r x7 s0 h1 (fun j hj => (itS_hi s nt n hn9 m j hj).trans (h2 j hj))) kX7_laysBack tMet_X7_187 rfl rfl (Nat.le_of_ble_eq_true rfl) (Nat.le_of_ble_eq_true rfl) ⟨Nat.le_of_ble_eq_true rfl, Nat.le_of_ble_eq_true rfl⟩ rfl rfl (Nat.le_of_ble_eq_true rfl) dX7_keeps_25 ?_
    refine g_iload_n hX 0 rfl rfl dX7_keeps_28 ?_
    have E : keepB s nt n m = false := by rw [keepB]; exact decide_eq_false c15
    rw [show nI 0 = bI (keepB s nt n m) from by rw [E]; rfl]
    exact g_retzP hR ⟨rfl, x7, rfl⟩ dX7_keeps_29
  · refine g_iconst hX (v := nI 1) rfl dX7_keeps_18 ?_
    refine g_goto hX 23 (by decide) dX7_keeps_19 ?_
    refine g_istore_n (lv2 := [(3, .int (nI (1))), (2, .int ((maskI (sd s) n))), (0, .ref (h0)), (1, .int (nI (m)))]) hX 3 4 hN rfl (by decide) rfl dX7_keeps_23 ?_
    refine g_aload_n hX 2 rfl rfl dX7_keeps_24 ?_
    refine m_callD hX hzo hC [] [] (c_laysBackT _ _ _ _ hzo hC v (itS s nt n (m)) r x7 s0 h1 (fun j hj => (itS_hi s nt n hn9 m j hj).trans (h2 j hj))) kX7_laysBack tMet_X7_187 rfl rfl (Nat.le_of_ble_eq_true rfl) (Nat.le_of_ble_eq_true rfl) ⟨Nat.le_of_ble_eq_true rfl, Nat.le_of_ble_eq_true rfl⟩ rfl rfl (Nat.le_of_ble_eq_true rfl) dX7_keeps_25 ?_
    refine g_iload_n hX 0 rfl rfl dX7_keeps_28 ?_
    have E : keepB s nt n m = true := by rw [keepB]; exact decide_eq_true c15
    rw [show nI 1 = bI (keepB s nt n m) from by rw [E]; rfl]
    exact g_retzP hR ⟨rfl, x7, rfl⟩ dX7_keeps_29
end
