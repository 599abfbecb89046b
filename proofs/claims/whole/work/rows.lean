section
-- ===== PART A: goes FIRST, ahead of the names: the tables' words, and 'selects' of the private methods out of them =====
/-- a private method of a class that the tables say can be made, by its rows of tables_1 -/
def lw_okq (q : MethodName × Nat) : Prop := (q.1.cls ≠ "java/lang/invoke/MethodHandle" ∧ q.1.cls ≠ "java/lang/invoke/VarHandle") ∧ Cond.instantiable q.1.cls q.2 ∈ tables_1 ∧ Cond.privateMethod q.1 ∈ tables_1 ∧ Cond.instanceMethod q.1 ∈ tables_1
theorem lw_p0 : lw_okq (⟨"LeaningStreet", "isHouse", "(I)Z"⟩, 9) := ⟨⟨by decide +kernel, by decide +kernel⟩, List.mem_of_getElem? (i := 19) (by decide +kernel), List.mem_of_getElem? (i := 264) (by decide +kernel), List.mem_of_getElem? (i := 265) (by decide +kernel)⟩
theorem lw_p1 : lw_okq (⟨"LeaningStreet$Street", "lean", "(II)V"⟩, 12) := ⟨⟨by decide +kernel, by decide +kernel⟩, List.mem_of_getElem? (i := 27) (by decide +kernel), List.mem_of_getElem? (i := 300) (by decide +kernel), List.mem_of_getElem? (i := 301) (by decide +kernel)⟩
theorem lw_p2 : lw_okq (⟨"LeaningStreet$Street", "draw", "()I"⟩, 12) := ⟨⟨by decide +kernel, by decide +kernel⟩, List.mem_of_getElem? (i := 27) (by decide +kernel), List.mem_of_getElem? (i := 380) (by decide +kernel), List.mem_of_getElem? (i := 381) (by decide +kernel)⟩
theorem lw_p3 : lw_okq (⟨"LeaningStreet$Street", "goOneDay", "()Z"⟩, 12) := ⟨⟨by decide +kernel, by decide +kernel⟩, List.mem_of_getElem? (i := 27) (by decide +kernel), List.mem_of_getElem? (i := 398) (by decide +kernel), List.mem_of_getElem? (i := 399) (by decide +kernel)⟩
theorem lw_p4 : lw_okq (⟨"LeaningStreet$Street", "crackAndMove", "()Z"⟩, 12) := ⟨⟨by decide +kernel, by decide +kernel⟩, List.mem_of_getElem? (i := 27) (by decide +kernel), List.mem_of_getElem? (i := 403) (by decide +kernel), List.mem_of_getElem? (i := 404) (by decide +kernel)⟩
theorem lw_p5 : lw_okq (⟨"LeaningStreet$Street", "tooMuch", "(I)I"⟩, 12) := ⟨⟨by decide +kernel, by decide +kernel⟩, List.mem_of_getElem? (i := 27) (by decide +kernel), List.mem_of_getElem? (i := 407) (by decide +kernel), List.mem_of_getElem? (i := 408) (by decide +kernel)⟩
theorem lw_p6 : lw_okq (⟨"LeaningStreet$Street", "fallByCracks", "()Z"⟩, 12) := ⟨⟨by decide +kernel, by decide +kernel⟩, List.mem_of_getElem? (i := 27) (by decide +kernel), List.mem_of_getElem? (i := 416) (by decide +kernel), List.mem_of_getElem? (i := 417) (by decide +kernel)⟩
theorem lw_p7 : lw_okq (⟨"LeaningStreet$Street", "fallByNeighbours", "()V"⟩, 12) := ⟨⟨by decide +kernel, by decide +kernel⟩, List.mem_of_getElem? (i := 27) (by decide +kernel), List.mem_of_getElem? (i := 421) (by decide +kernel), List.mem_of_getElem? (i := 422) (by decide +kernel)⟩
theorem lw_p8 : lw_okq (⟨"LeaningStreet$Street", "hasLostItsRest", "(I)Z"⟩, 12) := ⟨⟨by decide +kernel, by decide +kernel⟩, List.mem_of_getElem? (i := 27) (by decide +kernel), List.mem_of_getElem? (i := 425) (by decide +kernel), List.mem_of_getElem? (i := 426) (by decide +kernel)⟩
theorem lw_p9 : lw_okq (⟨"LeaningStreet", "thinkOf", "(LLeaningStreet$Street;)LLeaningStreet$Street;"⟩, 9) := ⟨⟨by decide +kernel, by decide +kernel⟩, List.mem_of_getElem? (i := 19) (by decide +kernel), List.mem_of_getElem? (i := 451) (by decide +kernel), List.mem_of_getElem? (i := 452) (by decide +kernel)⟩
theorem lw_p10 : lw_okq (⟨"LeaningStreet", "isEnough", "(III)Z"⟩, 9) := ⟨⟨by decide +kernel, by decide +kernel⟩, List.mem_of_getElem? (i := 19) (by decide +kernel), List.mem_of_getElem? (i := 485) (by decide +kernel), List.mem_of_getElem? (i := 486) (by decide +kernel)⟩
theorem lw_p11 : lw_okq (⟨"LeaningStreet", "thinkWithoutWall", "(II)V"⟩, 9) := ⟨⟨by decide +kernel, by decide +kernel⟩, List.mem_of_getElem? (i := 19) (by decide +kernel), List.mem_of_getElem? (i := 493) (by decide +kernel), List.mem_of_getElem? (i := 494) (by decide +kernel)⟩
theorem lw_p12 : lw_okq (⟨"LeaningStreet$Reader", "goNext", "()V"⟩, 9) := ⟨⟨by decide +kernel, by decide +kernel⟩, List.mem_of_getElem? (i := 125) (by decide +kernel), List.mem_of_getElem? (i := 547) (by decide +kernel), List.mem_of_getElem? (i := 548) (by decide +kernel)⟩
theorem lw_p13 : lw_okq (⟨"LeaningStreet$Reader", "keyHere", "()I"⟩, 9) := ⟨⟨by decide +kernel, by decide +kernel⟩, List.mem_of_getElem? (i := 125) (by decide +kernel), List.mem_of_getElem? (i := 554) (by decide +kernel), List.mem_of_getElem? (i := 555) (by decide +kernel)⟩
theorem lw_p14 : lw_okq (⟨"LeaningStreet$Reader", "isWord", "(Ljava/lang/String;)Z"⟩, 9) := ⟨⟨by decide +kernel, by decide +kernel⟩, List.mem_of_getElem? (i := 125) (by decide +kernel), List.mem_of_getElem? (i := 561) (by decide +kernel), List.mem_of_getElem? (i := 562) (by decide +kernel)⟩
theorem lw_p15 : lw_okq (⟨"LeaningStreet$Reader", "isOr", "(II)Z"⟩, 9) := ⟨⟨by decide +kernel, by decide +kernel⟩, List.mem_of_getElem? (i := 125) (by decide +kernel), List.mem_of_getElem? (i := 613) (by decide +kernel), List.mem_of_getElem? (i := 614) (by decide +kernel)⟩
def lw_privs_1 : List (MethodName × Nat) := [(⟨"LeaningStreet", "isHouse", "(I)Z"⟩, 9), (⟨"LeaningStreet$Street", "lean", "(II)V"⟩, 12), (⟨"LeaningStreet$Street", "draw", "()I"⟩, 12), (⟨"LeaningStreet$Street", "goOneDay", "()Z"⟩, 12), (⟨"LeaningStreet$Street", "crackAndMove", "()Z"⟩, 12), (⟨"LeaningStreet$Street", "tooMuch", "(I)I"⟩, 12), (⟨"LeaningStreet$Street", "fallByCracks", "()Z"⟩, 12), (⟨"LeaningStreet$Street", "fallByNeighbours", "()V"⟩, 12), (⟨"LeaningStreet$Street", "hasLostItsRest", "(I)Z"⟩, 12), (⟨"LeaningStreet", "thinkOf", "(LLeaningStreet$Street;)LLeaningStreet$Street;"⟩, 9), (⟨"LeaningStreet", "isEnough", "(III)Z"⟩, 9), (⟨"LeaningStreet", "thinkWithoutWall", "(II)V"⟩, 9), (⟨"LeaningStreet$Reader", "goNext", "()V"⟩, 9), (⟨"LeaningStreet$Reader", "keyHere", "()I"⟩, 9), (⟨"LeaningStreet$Reader", "isWord", "(Ljava/lang/String;)Z"⟩, 9), (⟨"LeaningStreet$Reader", "isOr", "(II)Z"⟩, 9)]
theorem lw_r1 : ∀ q ∈ lw_privs_1, lw_okq q := List.forall_mem_cons.mpr ⟨lw_p0, List.forall_mem_cons.mpr ⟨lw_p1, List.forall_mem_cons.mpr ⟨lw_p2, List.forall_mem_cons.mpr ⟨lw_p3, List.forall_mem_cons.mpr ⟨lw_p4, List.forall_mem_cons.mpr ⟨lw_p5, List.forall_mem_cons.mpr ⟨lw_p6, List.forall_mem_cons.mpr ⟨lw_p7, List.forall_mem_cons.mpr ⟨lw_p8, List.forall_mem_cons.mpr ⟨lw_p9, List.forall_mem_cons.mpr ⟨lw_p10, List.forall_mem_cons.mpr ⟨lw_p11, List.forall_mem_cons.mpr ⟨lw_p12, List.forall_mem_cons.mpr ⟨lw_p13, List.forall_mem_cons.mpr ⟨lw_p14, List.forall_mem_cons.mpr ⟨lw_p15, fun _ h => absurd h List.not_mem_nil⟩⟩⟩⟩⟩⟩⟩⟩⟩⟩⟩⟩⟩⟩⟩⟩
theorem lw_p16 : lw_okq (⟨"LeaningStreet$Reader", "isAnd", "(II)Z"⟩, 9) := ⟨⟨by decide +kernel, by decide +kernel⟩, List.mem_of_getElem? (i := 125) (by decide +kernel), List.mem_of_getElem? (i := 617) (by decide +kernel), List.mem_of_getElem? (i := 618) (by decide +kernel)⟩
theorem lw_p17 : lw_okq (⟨"LeaningStreet$Reader", "isTest", "(II)Z"⟩, 9) := ⟨⟨by decide +kernel, by decide +kernel⟩, List.mem_of_getElem? (i := 125) (by decide +kernel), List.mem_of_getElem? (i := 621) (by decide +kernel), List.mem_of_getElem? (i := 622) (by decide +kernel)⟩
theorem lw_p18 : lw_okq (⟨"LeaningStreet$Reader", "isSum", "(II)Z"⟩, 9) := ⟨⟨by decide +kernel, by decide +kernel⟩, List.mem_of_getElem? (i := 125) (by decide +kernel), List.mem_of_getElem? (i := 625) (by decide +kernel), List.mem_of_getElem? (i := 626) (by decide +kernel)⟩
theorem lw_p19 : lw_okq (⟨"LeaningStreet$Reader", "isTerm", "(II)Z"⟩, 9) := ⟨⟨by decide +kernel, by decide +kernel⟩, List.mem_of_getElem? (i := 125) (by decide +kernel), List.mem_of_getElem? (i := 629) (by decide +kernel), List.mem_of_getElem? (i := 630) (by decide +kernel)⟩
theorem lw_p20 : lw_okq (⟨"LeaningStreet$Reader", "isPiece", "(II)Z"⟩, 9) := ⟨⟨by decide +kernel, by decide +kernel⟩, List.mem_of_getElem? (i := 125) (by decide +kernel), List.mem_of_getElem? (i := 633) (by decide +kernel), List.mem_of_getElem? (i := 634) (by decide +kernel)⟩
theorem lw_p21 : lw_okq (⟨"LeaningStreet$Reader", "isNumber", "()Z"⟩, 9) := ⟨⟨by decide +kernel, by decide +kernel⟩, List.mem_of_getElem? (i := 125) (by decide +kernel), List.mem_of_getElem? (i := 637) (by decide +kernel), List.mem_of_getElem? (i := 638) (by decide +kernel)⟩
theorem lw_p22 : lw_okq (⟨"LeaningStreet$Reader", "takePiece", "(I)Z"⟩, 9) := ⟨⟨by decide +kernel, by decide +kernel⟩, List.mem_of_getElem? (i := 125) (by decide +kernel), List.mem_of_getElem? (i := 641) (by decide +kernel), List.mem_of_getElem? (i := 642) (by decide +kernel)⟩
theorem lw_p23 : lw_okq (⟨"LeaningStreet$Reader", "write", "(I)V"⟩, 9) := ⟨⟨by decide +kernel, by decide +kernel⟩, List.mem_of_getElem? (i := 125) (by decide +kernel), List.mem_of_getElem? (i := 645) (by decide +kernel), List.mem_of_getElem? (i := 646) (by decide +kernel)⟩
theorem lw_p24 : lw_okq (⟨"LeaningStreet$Reader", "isName", "()Z"⟩, 9) := ⟨⟨by decide +kernel, by decide +kernel⟩, List.mem_of_getElem? (i := 125) (by decide +kernel), List.mem_of_getElem? (i := 649) (by decide +kernel), List.mem_of_getElem? (i := 650) (by decide +kernel)⟩
theorem lw_p25 : lw_okq (⟨"LeaningStreet$Reader", "isAt", "(C)Z"⟩, 9) := ⟨⟨by decide +kernel, by decide +kernel⟩, List.mem_of_getElem? (i := 125) (by decide +kernel), List.mem_of_getElem? (i := 711) (by decide +kernel), List.mem_of_getElem? (i := 712) (by decide +kernel)⟩
theorem lw_p26 : lw_okq (⟨"LeaningStreet$Reader", "passed", "(CC)I"⟩, 9) := ⟨⟨by decide +kernel, by decide +kernel⟩, List.mem_of_getElem? (i := 125) (by decide +kernel), List.mem_of_getElem? (i := 715) (by decide +kernel), List.mem_of_getElem? (i := 716) (by decide +kernel)⟩
theorem lw_p27 : lw_okq (⟨"LeaningStreetModel", "comes", "(IIII)V"⟩, 33) := ⟨⟨by decide +kernel, by decide +kernel⟩, List.mem_of_getElem? (i := 867) (by decide +kernel), List.mem_of_getElem? (i := 991) (by decide +kernel), List.mem_of_getElem? (i := 992) (by decide +kernel)⟩
theorem lw_p28 : lw_okq (⟨"LeaningStreetModel", "sets", "(III)V"⟩, 33) := ⟨⟨by decide +kernel, by decide +kernel⟩, List.mem_of_getElem? (i := 867) (by decide +kernel), List.mem_of_getElem? (i := 995) (by decide +kernel), List.mem_of_getElem? (i := 996) (by decide +kernel)⟩
theorem lw_p29 : lw_okq (⟨"LeaningStreetModel", "isHouse", "(I)Z"⟩, 33) := ⟨⟨by decide +kernel, by decide +kernel⟩, List.mem_of_getElem? (i := 867) (by decide +kernel), List.mem_of_getElem? (i := 1003) (by decide +kernel), List.mem_of_getElem? (i := 1004) (by decide +kernel)⟩
theorem lw_p30 : lw_okq (⟨"LeaningStreetModel", "of", "(II)I"⟩, 33) := ⟨⟨by decide +kernel, by decide +kernel⟩, List.mem_of_getElem? (i := 867) (by decide +kernel), List.mem_of_getElem? (i := 1007) (by decide +kernel), List.mem_of_getElem? (i := 1008) (by decide +kernel)⟩
theorem lw_p31 : lw_okq (⟨"LeaningStreetModel", "pushes", "(I)I"⟩, 33) := ⟨⟨by decide +kernel, by decide +kernel⟩, List.mem_of_getElem? (i := 867) (by decide +kernel), List.mem_of_getElem? (i := 1011) (by decide +kernel), List.mem_of_getElem? (i := 1012) (by decide +kernel)⟩
def lw_privs_2 : List (MethodName × Nat) := [(⟨"LeaningStreet$Reader", "isAnd", "(II)Z"⟩, 9), (⟨"LeaningStreet$Reader", "isTest", "(II)Z"⟩, 9), (⟨"LeaningStreet$Reader", "isSum", "(II)Z"⟩, 9), (⟨"LeaningStreet$Reader", "isTerm", "(II)Z"⟩, 9), (⟨"LeaningStreet$Reader", "isPiece", "(II)Z"⟩, 9), (⟨"LeaningStreet$Reader", "isNumber", "()Z"⟩, 9), (⟨"LeaningStreet$Reader", "takePiece", "(I)Z"⟩, 9), (⟨"LeaningStreet$Reader", "write", "(I)V"⟩, 9), (⟨"LeaningStreet$Reader", "isName", "()Z"⟩, 9), (⟨"LeaningStreet$Reader", "isAt", "(C)Z"⟩, 9), (⟨"LeaningStreet$Reader", "passed", "(CC)I"⟩, 9), (⟨"LeaningStreetModel", "comes", "(IIII)V"⟩, 33), (⟨"LeaningStreetModel", "sets", "(III)V"⟩, 33), (⟨"LeaningStreetModel", "isHouse", "(I)Z"⟩, 33), (⟨"LeaningStreetModel", "of", "(II)I"⟩, 33), (⟨"LeaningStreetModel", "pushes", "(I)I"⟩, 33)]
theorem lw_r2 : ∀ q ∈ lw_privs_2, lw_okq q := List.forall_mem_cons.mpr ⟨lw_p16, List.forall_mem_cons.mpr ⟨lw_p17, List.forall_mem_cons.mpr ⟨lw_p18, List.forall_mem_cons.mpr ⟨lw_p19, List.forall_mem_cons.mpr ⟨lw_p20, List.forall_mem_cons.mpr ⟨lw_p21, List.forall_mem_cons.mpr ⟨lw_p22, List.forall_mem_cons.mpr ⟨lw_p23, List.forall_mem_cons.mpr ⟨lw_p24, List.forall_mem_cons.mpr ⟨lw_p25, List.forall_mem_cons.mpr ⟨lw_p26, List.forall_mem_cons.mpr ⟨lw_p27, List.forall_mem_cons.mpr ⟨lw_p28, List.forall_mem_cons.mpr ⟨lw_p29, List.forall_mem_cons.mpr ⟨lw_p30, List.forall_mem_cons.mpr ⟨lw_p31, fun _ h => absurd h List.not_mem_nil⟩⟩⟩⟩⟩⟩⟩⟩⟩⟩⟩⟩⟩⟩⟩⟩
theorem lw_p32 : lw_okq (⟨"LeaningStreetModel", "counts", "(I)I"⟩, 33) := ⟨⟨by decide +kernel, by decide +kernel⟩, List.mem_of_getElem? (i := 867) (by decide +kernel), List.mem_of_getElem? (i := 1018) (by decide +kernel), List.mem_of_getElem? (i := 1019) (by decide +kernel)⟩
theorem lw_p33 : lw_okq (⟨"LeaningStreetModel", "textAt", "(I)I"⟩, 33) := ⟨⟨by decide +kernel, by decide +kernel⟩, List.mem_of_getElem? (i := 867) (by decide +kernel), List.mem_of_getElem? (i := 1022) (by decide +kernel), List.mem_of_getElem? (i := 1023) (by decide +kernel)⟩
theorem lw_p34 : lw_okq (⟨"LeaningStreetModel", "worked", "(I)I"⟩, 33) := ⟨⟨by decide +kernel, by decide +kernel⟩, List.mem_of_getElem? (i := 867) (by decide +kernel), List.mem_of_getElem? (i := 1026) (by decide +kernel), List.mem_of_getElem? (i := 1027) (by decide +kernel)⟩
theorem lw_p35 : lw_okq (⟨"LeaningStreetModel", "bears", "(I)I"⟩, 33) := ⟨⟨by decide +kernel, by decide +kernel⟩, List.mem_of_getElem? (i := 867) (by decide +kernel), List.mem_of_getElem? (i := 1036) (by decide +kernel), List.mem_of_getElem? (i := 1037) (by decide +kernel)⟩
theorem lw_p36 : lw_okq (⟨"LeaningStreetModel", "thrust", "(I)I"⟩, 33) := ⟨⟨by decide +kernel, by decide +kernel⟩, List.mem_of_getElem? (i := 867) (by decide +kernel), List.mem_of_getElem? (i := 1040) (by decide +kernel), List.mem_of_getElem? (i := 1041) (by decide +kernel)⟩
theorem lw_p37 : lw_okq (⟨"LeaningStreetModel", "stands", "(I)Z"⟩, 33) := ⟨⟨by decide +kernel, by decide +kernel⟩, List.mem_of_getElem? (i := 867) (by decide +kernel), List.mem_of_getElem? (i := 1044) (by decide +kernel), List.mem_of_getElem? (i := 1045) (by decide +kernel)⟩
theorem lw_p38 : lw_okq (⟨"LeaningStreetModel", "allStanding", "()I"⟩, 33) := ⟨⟨by decide +kernel, by decide +kernel⟩, List.mem_of_getElem? (i := 867) (by decide +kernel), List.mem_of_getElem? (i := 1048) (by decide +kernel), List.mem_of_getElem? (i := 1049) (by decide +kernel)⟩
theorem lw_p39 : lw_okq (⟨"LeaningStreetModel", "nextOf", "(III)I"⟩, 33) := ⟨⟨by decide +kernel, by decide +kernel⟩, List.mem_of_getElem? (i := 867) (by decide +kernel), List.mem_of_getElem? (i := 1052) (by decide +kernel), List.mem_of_getElem? (i := 1053) (by decide +kernel)⟩
theorem lw_p40 : lw_okq (⟨"LeaningStreetModel", "worth", "(I)I"⟩, 33) := ⟨⟨by decide +kernel, by decide +kernel⟩, List.mem_of_getElem? (i := 867) (by decide +kernel), List.mem_of_getElem? (i := 1056) (by decide +kernel), List.mem_of_getElem? (i := 1057) (by decide +kernel)⟩
theorem lw_p41 : lw_okq (⟨"LeaningStreetModel", "becomes", "(II)I"⟩, 33) := ⟨⟨by decide +kernel, by decide +kernel⟩, List.mem_of_getElem? (i := 867) (by decide +kernel), List.mem_of_getElem? (i := 1072) (by decide +kernel), List.mem_of_getElem? (i := 1073) (by decide +kernel)⟩
theorem lw_p42 : lw_okq (⟨"LeaningStreetModel", "falls", "(I)V"⟩, 33) := ⟨⟨by decide +kernel, by decide +kernel⟩, List.mem_of_getElem? (i := 867) (by decide +kernel), List.mem_of_getElem? (i := 1085) (by decide +kernel), List.mem_of_getElem? (i := 1086) (by decide +kernel)⟩
theorem lw_p43 : lw_okq (⟨"LeaningStreetModel", "drawn", "()I"⟩, 33) := ⟨⟨by decide +kernel, by decide +kernel⟩, List.mem_of_getElem? (i := 867) (by decide +kernel), List.mem_of_getElem? (i := 1106) (by decide +kernel), List.mem_of_getElem? (i := 1107) (by decide +kernel)⟩
theorem lw_p44 : lw_okq (⟨"LeaningStreetModel", "goesOn", "()V"⟩, 33) := ⟨⟨by decide +kernel, by decide +kernel⟩, List.mem_of_getElem? (i := 867) (by decide +kernel), List.mem_of_getElem? (i := 1120) (by decide +kernel), List.mem_of_getElem? (i := 1121) (by decide +kernel)⟩
theorem lw_p45 : lw_okq (⟨"LeaningStreetModel", "fallsWith", "(II)Z"⟩, 33) := ⟨⟨by decide +kernel, by decide +kernel⟩, List.mem_of_getElem? (i := 867) (by decide +kernel), List.mem_of_getElem? (i := 1124) (by decide +kernel), List.mem_of_getElem? (i := 1125) (by decide +kernel)⟩
theorem lw_p46 : lw_okq (⟨"LeaningStreetModel", "allOf", "(I)I"⟩, 33) := ⟨⟨by decide +kernel, by decide +kernel⟩, List.mem_of_getElem? (i := 867) (by decide +kernel), List.mem_of_getElem? (i := 1132) (by decide +kernel), List.mem_of_getElem? (i := 1133) (by decide +kernel)⟩
theorem lw_p47 : lw_okq (⟨"LeaningStreetModel", "looseOnes", "()I"⟩, 33) := ⟨⟨by decide +kernel, by decide +kernel⟩, List.mem_of_getElem? (i := 867) (by decide +kernel), List.mem_of_getElem? (i := 1136) (by decide +kernel), List.mem_of_getElem? (i := 1137) (by decide +kernel)⟩
def lw_privs_3 : List (MethodName × Nat) := [(⟨"LeaningStreetModel", "counts", "(I)I"⟩, 33), (⟨"LeaningStreetModel", "textAt", "(I)I"⟩, 33), (⟨"LeaningStreetModel", "worked", "(I)I"⟩, 33), (⟨"LeaningStreetModel", "bears", "(I)I"⟩, 33), (⟨"LeaningStreetModel", "thrust", "(I)I"⟩, 33), (⟨"LeaningStreetModel", "stands", "(I)Z"⟩, 33), (⟨"LeaningStreetModel", "allStanding", "()I"⟩, 33), (⟨"LeaningStreetModel", "nextOf", "(III)I"⟩, 33), (⟨"LeaningStreetModel", "worth", "(I)I"⟩, 33), (⟨"LeaningStreetModel", "becomes", "(II)I"⟩, 33), (⟨"LeaningStreetModel", "falls", "(I)V"⟩, 33), (⟨"LeaningStreetModel", "drawn", "()I"⟩, 33), (⟨"LeaningStreetModel", "goesOn", "()V"⟩, 33), (⟨"LeaningStreetModel", "fallsWith", "(II)Z"⟩, 33), (⟨"LeaningStreetModel", "allOf", "(I)I"⟩, 33), (⟨"LeaningStreetModel", "looseOnes", "()I"⟩, 33)]
theorem lw_r3 : ∀ q ∈ lw_privs_3, lw_okq q := List.forall_mem_cons.mpr ⟨lw_p32, List.forall_mem_cons.mpr ⟨lw_p33, List.forall_mem_cons.mpr ⟨lw_p34, List.forall_mem_cons.mpr ⟨lw_p35, List.forall_mem_cons.mpr ⟨lw_p36, List.forall_mem_cons.mpr ⟨lw_p37, List.forall_mem_cons.mpr ⟨lw_p38, List.forall_mem_cons.mpr ⟨lw_p39, List.forall_mem_cons.mpr ⟨lw_p40, List.forall_mem_cons.mpr ⟨lw_p41, List.forall_mem_cons.mpr ⟨lw_p42, List.forall_mem_cons.mpr ⟨lw_p43, List.forall_mem_cons.mpr ⟨lw_p44, List.forall_mem_cons.mpr ⟨lw_p45, List.forall_mem_cons.mpr ⟨lw_p46, List.forall_mem_cons.mpr ⟨lw_p47, fun _ h => absurd h List.not_mem_nil⟩⟩⟩⟩⟩⟩⟩⟩⟩⟩⟩⟩⟩⟩⟩⟩
theorem lw_p48 : lw_okq (⟨"LeaningStreetModel", "laysBy", "()V"⟩, 33) := ⟨⟨by decide +kernel, by decide +kernel⟩, List.mem_of_getElem? (i := 867) (by decide +kernel), List.mem_of_getElem? (i := 1144) (by decide +kernel), List.mem_of_getElem? (i := 1145) (by decide +kernel)⟩
theorem lw_p49 : lw_okq (⟨"LeaningStreetModel", "goesOnMany", "(I)V"⟩, 33) := ⟨⟨by decide +kernel, by decide +kernel⟩, List.mem_of_getElem? (i := 867) (by decide +kernel), List.mem_of_getElem? (i := 1148) (by decide +kernel), List.mem_of_getElem? (i := 1149) (by decide +kernel)⟩
theorem lw_p50 : lw_okq (⟨"LeaningStreetModel", "laysBack", "()V"⟩, 33) := ⟨⟨by decide +kernel, by decide +kernel⟩, List.mem_of_getElem? (i := 867) (by decide +kernel), List.mem_of_getElem? (i := 1152) (by decide +kernel), List.mem_of_getElem? (i := 1153) (by decide +kernel)⟩
theorem lw_p51 : lw_okq (⟨"LeaningStreetModel", "keeps", "(I)Z"⟩, 33) := ⟨⟨by decide +kernel, by decide +kernel⟩, List.mem_of_getElem? (i := 867) (by decide +kernel), List.mem_of_getElem? (i := 1174) (by decide +kernel), List.mem_of_getElem? (i := 1175) (by decide +kernel)⟩
theorem lw_p52 : lw_okq (⟨"LeaningStreetModel", "parse", "()I"⟩, 33) := ⟨⟨by decide +kernel, by decide +kernel⟩, List.mem_of_getElem? (i := 867) (by decide +kernel), List.mem_of_getElem? (i := 1206) (by decide +kernel), List.mem_of_getElem? (i := 1207) (by decide +kernel)⟩
theorem lw_p53 : lw_okq (⟨"LeaningStreetModel", "nextToken", "()V"⟩, 33) := ⟨⟨by decide +kernel, by decide +kernel⟩, List.mem_of_getElem? (i := 867) (by decide +kernel), List.mem_of_getElem? (i := 1210) (by decide +kernel), List.mem_of_getElem? (i := 1211) (by decide +kernel)⟩
theorem lw_p54 : lw_okq (⟨"LeaningStreetModel", "isLetter", "(I)Z"⟩, 33) := ⟨⟨by decide +kernel, by decide +kernel⟩, List.mem_of_getElem? (i := 867) (by decide +kernel), List.mem_of_getElem? (i := 1214) (by decide +kernel), List.mem_of_getElem? (i := 1215) (by decide +kernel)⟩
theorem lw_p55 : lw_okq (⟨"LeaningStreetModel", "isDigit", "(I)Z"⟩, 33) := ⟨⟨by decide +kernel, by decide +kernel⟩, List.mem_of_getElem? (i := 867) (by decide +kernel), List.mem_of_getElem? (i := 1220) (by decide +kernel), List.mem_of_getElem? (i := 1221) (by decide +kernel)⟩
theorem lw_p56 : lw_okq (⟨"LeaningStreetModel", "key", "()I"⟩, 33) := ⟨⟨by decide +kernel, by decide +kernel⟩, List.mem_of_getElem? (i := 867) (by decide +kernel), List.mem_of_getElem? (i := 1226) (by decide +kernel), List.mem_of_getElem? (i := 1227) (by decide +kernel)⟩
theorem lw_p57 : lw_okq (⟨"LeaningStreetModel", "isWordAt", "(IIII)Z"⟩, 33) := ⟨⟨by decide +kernel, by decide +kernel⟩, List.mem_of_getElem? (i := 867) (by decide +kernel), List.mem_of_getElem? (i := 1230) (by decide +kernel), List.mem_of_getElem? (i := 1231) (by decide +kernel)⟩
theorem lw_p58 : lw_okq (⟨"LeaningStreetModel", "either", "(I)Z"⟩, 33) := ⟨⟨by decide +kernel, by decide +kernel⟩, List.mem_of_getElem? (i := 867) (by decide +kernel), List.mem_of_getElem? (i := 1234) (by decide +kernel), List.mem_of_getElem? (i := 1235) (by decide +kernel)⟩
theorem lw_p59 : lw_okq (⟨"LeaningStreetModel", "both", "(I)Z"⟩, 33) := ⟨⟨by decide +kernel, by decide +kernel⟩, List.mem_of_getElem? (i := 867) (by decide +kernel), List.mem_of_getElem? (i := 1238) (by decide +kernel), List.mem_of_getElem? (i := 1239) (by decide +kernel)⟩
theorem lw_p60 : lw_okq (⟨"LeaningStreetModel", "test", "(I)Z"⟩, 33) := ⟨⟨by decide +kernel, by decide +kernel⟩, List.mem_of_getElem? (i := 867) (by decide +kernel), List.mem_of_getElem? (i := 1242) (by decide +kernel), List.mem_of_getElem? (i := 1243) (by decide +kernel)⟩
theorem lw_p61 : lw_okq (⟨"LeaningStreetModel", "sum", "(I)Z"⟩, 33) := ⟨⟨by decide +kernel, by decide +kernel⟩, List.mem_of_getElem? (i := 867) (by decide +kernel), List.mem_of_getElem? (i := 1246) (by decide +kernel), List.mem_of_getElem? (i := 1247) (by decide +kernel)⟩
theorem lw_p62 : lw_okq (⟨"LeaningStreetModel", "term", "(I)Z"⟩, 33) := ⟨⟨by decide +kernel, by decide +kernel⟩, List.mem_of_getElem? (i := 867) (by decide +kernel), List.mem_of_getElem? (i := 1250) (by decide +kernel), List.mem_of_getElem? (i := 1251) (by decide +kernel)⟩
theorem lw_p63 : lw_okq (⟨"LeaningStreetModel", "part0", "(I)Z"⟩, 33) := ⟨⟨by decide +kernel, by decide +kernel⟩, List.mem_of_getElem? (i := 867) (by decide +kernel), List.mem_of_getElem? (i := 1254) (by decide +kernel), List.mem_of_getElem? (i := 1255) (by decide +kernel)⟩
def lw_privs_4 : List (MethodName × Nat) := [(⟨"LeaningStreetModel", "laysBy", "()V"⟩, 33), (⟨"LeaningStreetModel", "goesOnMany", "(I)V"⟩, 33), (⟨"LeaningStreetModel", "laysBack", "()V"⟩, 33), (⟨"LeaningStreetModel", "keeps", "(I)Z"⟩, 33), (⟨"LeaningStreetModel", "parse", "()I"⟩, 33), (⟨"LeaningStreetModel", "nextToken", "()V"⟩, 33), (⟨"LeaningStreetModel", "isLetter", "(I)Z"⟩, 33), (⟨"LeaningStreetModel", "isDigit", "(I)Z"⟩, 33), (⟨"LeaningStreetModel", "key", "()I"⟩, 33), (⟨"LeaningStreetModel", "isWordAt", "(IIII)Z"⟩, 33), (⟨"LeaningStreetModel", "either", "(I)Z"⟩, 33), (⟨"LeaningStreetModel", "both", "(I)Z"⟩, 33), (⟨"LeaningStreetModel", "test", "(I)Z"⟩, 33), (⟨"LeaningStreetModel", "sum", "(I)Z"⟩, 33), (⟨"LeaningStreetModel", "term", "(I)Z"⟩, 33), (⟨"LeaningStreetModel", "part0", "(I)Z"⟩, 33)]
theorem lw_r4 : ∀ q ∈ lw_privs_4, lw_okq q := List.forall_mem_cons.mpr ⟨lw_p48, List.forall_mem_cons.mpr ⟨lw_p49, List.forall_mem_cons.mpr ⟨lw_p50, List.forall_mem_cons.mpr ⟨lw_p51, List.forall_mem_cons.mpr ⟨lw_p52, List.forall_mem_cons.mpr ⟨lw_p53, List.forall_mem_cons.mpr ⟨lw_p54, List.forall_mem_cons.mpr ⟨lw_p55, List.forall_mem_cons.mpr ⟨lw_p56, List.forall_mem_cons.mpr ⟨lw_p57, List.forall_mem_cons.mpr ⟨lw_p58, List.forall_mem_cons.mpr ⟨lw_p59, List.forall_mem_cons.mpr ⟨lw_p60, List.forall_mem_cons.mpr ⟨lw_p61, List.forall_mem_cons.mpr ⟨lw_p62, List.forall_mem_cons.mpr ⟨lw_p63, fun _ h => absurd h List.not_mem_nil⟩⟩⟩⟩⟩⟩⟩⟩⟩⟩⟩⟩⟩⟩⟩⟩
theorem lw_p64 : lw_okq (⟨"LeaningStreetModel", "step", "(II)V"⟩, 33) := ⟨⟨by decide +kernel, by decide +kernel⟩, List.mem_of_getElem? (i := 867) (by decide +kernel), List.mem_of_getElem? (i := 1258) (by decide +kernel), List.mem_of_getElem? (i := 1259) (by decide +kernel)⟩
theorem lw_p65 : lw_okq (⟨"LeaningStreetModel", "isSign", "(I)Z"⟩, 33) := ⟨⟨by decide +kernel, by decide +kernel⟩, List.mem_of_getElem? (i := 867) (by decide +kernel), List.mem_of_getElem? (i := 1265) (by decide +kernel), List.mem_of_getElem? (i := 1266) (by decide +kernel)⟩
theorem lw_p66 : lw_okq (⟨"LeaningStreetModel", "isText", "(I)Z"⟩, 33) := ⟨⟨by decide +kernel, by decide +kernel⟩, List.mem_of_getElem? (i := 867) (by decide +kernel), List.mem_of_getElem? (i := 1273) (by decide +kernel), List.mem_of_getElem? (i := 1274) (by decide +kernel)⟩
theorem lw_p67 : lw_okq (⟨"LeaningStreetModel", "setAside", "([I[I)V"⟩, 33) := ⟨⟨by decide +kernel, by decide +kernel⟩, List.mem_of_getElem? (i := 867) (by decide +kernel), List.mem_of_getElem? (i := 1345) (by decide +kernel), List.mem_of_getElem? (i := 1346) (by decide +kernel)⟩
def lw_privs_5 : List (MethodName × Nat) := [(⟨"LeaningStreetModel", "step", "(II)V"⟩, 33), (⟨"LeaningStreetModel", "isSign", "(I)Z"⟩, 33), (⟨"LeaningStreetModel", "isText", "(I)Z"⟩, 33), (⟨"LeaningStreetModel", "setAside", "([I[I)V"⟩, 33)]
theorem lw_r5 : ∀ q ∈ lw_privs_5, lw_okq q := List.forall_mem_cons.mpr ⟨lw_p64, List.forall_mem_cons.mpr ⟨lw_p65, List.forall_mem_cons.mpr ⟨lw_p66, List.forall_mem_cons.mpr ⟨lw_p67, fun _ h => absurd h List.not_mem_nil⟩⟩⟩⟩
def lw_privs : List (MethodName × Nat) := lw_privs_1 ++ (lw_privs_2 ++ (lw_privs_3 ++ (lw_privs_4 ++ (lw_privs_5))))
def lw_tbl : List Cond := k2_sels lw_privs ++ tables_1
theorem lw_privs_ok : ∀ q ∈ lw_privs, lw_okq q := by
  show ∀ q ∈ lw_privs_1 ++ (lw_privs_2 ++ (lw_privs_3 ++ (lw_privs_4 ++ (lw_privs_5)))), lw_okq q
  exact List.forall_mem_append.mpr ⟨lw_r1, List.forall_mem_append.mpr ⟨lw_r2, List.forall_mem_append.mpr ⟨lw_r3, List.forall_mem_append.mpr ⟨lw_r4, lw_r5⟩⟩⟩⟩
end
section
/-! ===== BEGIN words of one list among another's, by their places ===== -/
theorem goodIn_r {big : List Cond} (ws : List Cond) (ps : List Nat) (hp : ws = ps.filterMap (fun i => big[i]?)) (h : ws.all goodWord = true) : GoodIn big ws := by
  intro w hw
  have h1 := List.all_eq_true.mp h w hw
  rw [hp] at hw
  obtain ⟨i, -, hi⟩ := List.mem_filterMap.mp hw
  have hm : w ∈ big := by first | exact List.mem_of_getElem? hi | exact List.getElem?_mem hi
  exact ⟨hm, good_of_word h1⟩
theorem goodIn_app {big a b : List Cond} (ha : GoodIn big a) (hb : GoodIn big b) : GoodIn big (a ++ b) := fun w h => (List.mem_append.mp h).elim (ha w) (hb w)
theorem goodIn_ca {big a b : List Cond} {c : Cond} (ha : GoodIn big (c :: a)) (hb : GoodIn big b) : GoodIn big (c :: (a ++ b)) := fun w h => (List.mem_cons.mp h).elim (fun e => ha w (List.mem_cons.mpr (Or.inl e))) (fun h => (List.mem_append.mp h).elim (fun h => ha w (List.mem_cons.mpr (Or.inr h))) (hb w))
theorem goodIn_sub {big ws : List Cond} (hm : ∀ w ∈ ws, w ∈ big) (h : ws.all goodWord = true) : GoodIn big ws := fun w hw => ⟨hm w hw, good_of_word (List.all_eq_true.mp h w hw)⟩
/-! ===== END ===== -/

/-! ===== BEGIN printed: names, fields, word lists, decode rows ===== -/
def RX0 : String := "LeaningStreet$House"
def TX0 : u_T := fun k => match k with
  | 0 => ("LeaningStreet$House", "kind", "I", false)
  | 1 => ("LeaningStreet$House", "weight", "I", false)
  | 2 => ("LeaningStreet$House", "lean", "I", false)
  | 3 => ("LeaningStreet$House", "wall", "I", false)
  | 4 => ("LeaningStreet$House", "crack", "I", false)
  | 5 => ("LeaningStreet$House", "prop", "I", false)
  | _ => ("LeaningStreet$House", "stands", "Z", false)
def tyX0 : Nat → FieldType := fun k => match k with
  | 0 => .int
  | 1 => .int
  | 2 => .int
  | 3 => .int
  | 4 => .int
  | 5 => .int
  | _ => .boolean
abbrev wsX00 : List Cond := u_ws RX0 TX0 7
theorem nmX0 : ∀ a, a < 7 → ∀ b, b < 7 → a ≠ b → (TX0 a).2.1 ≠ (TX0 b).2.1 := by decide +kernel
theorem tyX0_ok : ∀ k, k < 7 → parseFieldDescriptor (TX0 k).2.2.1 = some (tyX0 k) := by decide +kernel
abbrev cX0_init : ByteArray := prog_2_method_1_code
def yX0_init : MethodName := ⟨RX0, "<init>", "()V"⟩
abbrev cX0_beLike : ByteArray := prog_2_method_2_code
def yX0_beLike : MethodName := ⟨RX0, "beLike", "(LLeaningStreet$House;)V"⟩
abbrev cX0_fall : ByteArray := prog_2_method_3_code
def yX0_fall : MethodName := ⟨RX0, "fall", "()V"⟩
abbrev cX0_rise : ByteArray := prog_2_method_4_code
def yX0_rise : MethodName := ⟨RX0, "rise", "()V"⟩
abbrev cX0_part : ByteArray := prog_2_method_5_code
def yX0_part : MethodName := ⟨RX0, "part", "(I)I"⟩
abbrev cX0_becomes : ByteArray := prog_2_method_6_code
def yX0_becomes : MethodName := ⟨RX0, "becomes", "(II)V"⟩
abbrev cX0_isOf : ByteArray := prog_2_method_7_code
def yX0_isOf : MethodName := ⟨RX0, "isOf", "(I)Z"⟩
abbrev cX0_pushing : ByteArray := prog_2_method_8_code
def yX0_pushing : MethodName := ⟨RX0, "pushing", "(I)I"⟩
abbrev cX0_bearing : ByteArray := prog_2_method_9_code
def yX0_bearing : MethodName := ⟨RX0, "bearing", "()I"⟩
abbrev cX0_worth : ByteArray := prog_2_method_10_code
def yX0_worth : MethodName := ⟨RX0, "worth", "()I"⟩
def RX1 : String := "LeaningStreet$Reader"
def TX1 : u_T := fun k => match k with
  | 0 => ("LeaningStreet$Reader", "bytes", "[I", true)
  | 1 => ("LeaningStreet$Reader", "many", "I", false)
  | 2 => ("LeaningStreet$Reader", "start", "I", false)
  | 3 => ("LeaningStreet$Reader", "end", "I", false)
  | 4 => ("LeaningStreet$Reader", "sort", "I", false)
  | 5 => ("LeaningStreet$Reader", "key", "I", false)
  | 6 => ("LeaningStreet$Reader", "code", "[I", true)
  | 7 => ("LeaningStreet$Reader", "steps", "I", false)
  | _ => ("LeaningStreet$Reader", "pieces", "I", false)
def tyX1 : Nat → FieldType := fun k => match k with
  | 0 => .array .int
  | 1 => .int
  | 2 => .int
  | 3 => .int
  | 4 => .int
  | 5 => .int
  | 6 => .array .int
  | 7 => .int
  | _ => .int
abbrev wsX10 : List Cond := u_ws RX1 TX1 9
theorem nmX1 : ∀ a, a < 9 → ∀ b, b < 9 → a ≠ b → (TX1 a).2.1 ≠ (TX1 b).2.1 := by decide +kernel
theorem tyX1_ok : ∀ k, k < 9 → parseFieldDescriptor (TX1 k).2.2.1 = some (tyX1 k) := by decide +kernel
abbrev cX1_init : ByteArray := prog_3_method_1_code
def yX1_init : MethodName := ⟨RX1, "<init>", "()V"⟩
abbrev cX1_addBytesOf : ByteArray := prog_3_method_2_code
def yX1_addBytesOf : MethodName := ⟨RX1, "addBytesOf", "(I)V"⟩
abbrev cX1_isText : ByteArray := prog_3_method_3_code
def yX1_isText : MethodName := ⟨RX1, "isText", "()Z"⟩
abbrev cX1_madeText : ByteArray := prog_3_method_4_code
def yX1_madeText : MethodName := ⟨RX1, "madeText", "(I)LLeaningStreet$Text;"⟩
abbrev cX1_goNext : ByteArray := prog_3_method_5_code
def yX1_goNext : MethodName := ⟨RX1, "goNext", "()V"⟩
abbrev cX1_sortOf : ByteArray := prog_3_method_6_code
def yX1_sortOf : MethodName := ⟨RX1, "sortOf", "(I)I"⟩
abbrev cX1_keyHere : ByteArray := prog_3_method_7_code
def yX1_keyHere : MethodName := ⟨RX1, "keyHere", "()I"⟩
abbrev cX1_isWord : ByteArray := prog_3_method_8_code
def yX1_isWord : MethodName := ⟨RX1, "isWord", "(Ljava/lang/String;)Z"⟩
abbrev cX1_isAt : ByteArray := prog_3_method_9_code
def yX1_isAt : MethodName := ⟨RX1, "isAt", "(C)Z"⟩
abbrev cX1_write : ByteArray := prog_3_method_10_code
def yX1_write : MethodName := ⟨RX1, "write", "(I)V"⟩
abbrev cX1_passed : ByteArray := prog_3_method_11_code
def yX1_passed : MethodName := ⟨RX1, "passed", "(CC)I"⟩
abbrev cX1_isOr : ByteArray := prog_3_method_12_code
def yX1_isOr : MethodName := ⟨RX1, "isOr", "(II)Z"⟩
abbrev cX1_isAnd : ByteArray := prog_3_method_13_code
def yX1_isAnd : MethodName := ⟨RX1, "isAnd", "(II)Z"⟩
abbrev cX1_isTest : ByteArray := prog_3_method_14_code
def yX1_isTest : MethodName := ⟨RX1, "isTest", "(II)Z"⟩
abbrev cX1_isSum : ByteArray := prog_3_method_15_code
def yX1_isSum : MethodName := ⟨RX1, "isSum", "(II)Z"⟩
abbrev cX1_isTerm : ByteArray := prog_3_method_16_code
def yX1_isTerm : MethodName := ⟨RX1, "isTerm", "(II)Z"⟩
abbrev cX1_isPiece : ByteArray := prog_3_method_17_code
def yX1_isPiece : MethodName := ⟨RX1, "isPiece", "(II)Z"⟩
abbrev cX1_isNumber : ByteArray := prog_3_method_18_code
def yX1_isNumber : MethodName := ⟨RX1, "isNumber", "()Z"⟩
abbrev cX1_isName : ByteArray := prog_3_method_19_code
def yX1_isName : MethodName := ⟨RX1, "isName", "()Z"⟩
abbrev cX1_takePiece : ByteArray := prog_3_method_20_code
def yX1_takePiece : MethodName := ⟨RX1, "takePiece", "(I)Z"⟩
def RX2 : String := "LeaningStreet$Row"
def TX2 : u_T := fun k => match k with
  | 0 => ("LeaningStreet$Row", "places", "[I", true)
  | 1 => ("LeaningStreet$Row", "sort", "I", false)
  | _ => ("LeaningStreet$Row", "many", "I", false)
def tyX2 : Nat → FieldType := fun k => match k with
  | 0 => .array .int
  | 1 => .int
  | _ => .int
abbrev wsX20 : List Cond := u_ws RX2 TX2 3
theorem nmX2 : ∀ a, a < 3 → ∀ b, b < 3 → a ≠ b → (TX2 a).2.1 ≠ (TX2 b).2.1 := by decide +kernel
theorem tyX2_ok : ∀ k, k < 3 → parseFieldDescriptor (TX2 k).2.2.1 = some (tyX2 k) := by decide +kernel
abbrev cX2_init : ByteArray := prog_4_method_1_code
def yX2_init : MethodName := ⟨RX2, "<init>", "()V"⟩
abbrev cX2_begin : ByteArray := prog_4_method_2_code
def yX2_begin : MethodName := ⟨RX2, "begin", "(II)V"⟩
abbrev cX2_beLike : ByteArray := prog_4_method_3_code
def yX2_beLike : MethodName := ⟨RX2, "beLike", "(LLeaningStreet$Row;)V"⟩
abbrev cX2_hasPlace : ByteArray := prog_4_method_4_code
def yX2_hasPlace : MethodName := ⟨RX2, "hasPlace", "(I)Z"⟩
abbrev cX2_hasPlaces : ByteArray := prog_4_method_5_code
def yX2_hasPlaces : MethodName := ⟨RX2, "hasPlaces", "(II)Z"⟩
abbrev cX2_isNumber : ByteArray := prog_4_method_6_code
def yX2_isNumber : MethodName := ⟨RX2, "isNumber", "(I)Z"⟩
def RX3 : String := "LeaningStreet$Slot"
def TX3 : u_T := fun k => match k with
  | 0 => ("LeaningStreet$Slot", "thing", "I", false)
  | 1 => ("LeaningStreet$Slot", "number", "I", false)
  | 2 => ("LeaningStreet$Slot", "house", "LLeaningStreet$House;", true)
  | _ => ("LeaningStreet$Slot", "row", "LLeaningStreet$Row;", true)
def tyX3 : Nat → FieldType := fun k => match k with
  | 0 => .int
  | 1 => .int
  | 2 => .object "LeaningStreet$House"
  | _ => .object "LeaningStreet$Row"
abbrev wsX30 : List Cond := u_ws RX3 TX3 4
theorem nmX3 : ∀ a, a < 4 → ∀ b, b < 4 → a ≠ b → (TX3 a).2.1 ≠ (TX3 b).2.1 := by decide +kernel
theorem tyX3_ok : ∀ k, k < 4 → parseFieldDescriptor (TX3 k).2.2.1 = some (tyX3 k) := by decide +kernel
abbrev cX3_init : ByteArray := prog_5_method_1_code
def yX3_init : MethodName := ⟨RX3, "<init>", "()V"⟩
def RX4 : String := "LeaningStreet$Street"
def TX4 : u_T := fun k => match k with
  | 0 => ("LeaningStreet$Street", "houses", "[LLeaningStreet$House;", true)
  | 1 => ("LeaningStreet$Street", "allTexts", "[LLeaningStreet$Text;", true)
  | 2 => ("LeaningStreet$Street", "counting", "[LLeaningStreet$Text;", true)
  | 3 => ("LeaningStreet$Street", "thrusts", "[I", true)
  | 4 => ("LeaningStreet$Street", "lesser", "[I", true)
  | 5 => ("LeaningStreet$Street", "greater", "[I", true)
  | 6 => ("LeaningStreet$Street", "many", "I", false)
  | 7 => ("LeaningStreet$Street", "texts", "I", false)
  | 8 => ("LeaningStreet$Street", "snow", "I", false)
  | 9 => ("LeaningStreet$Street", "rent", "I", false)
  | 10 => ("LeaningStreet$Street", "day", "I", false)
  | _ => ("LeaningStreet$Street", "z", "I", false)
def tyX4 : Nat → FieldType := fun k => match k with
  | 0 => .array (.object "LeaningStreet$House")
  | 1 => .array (.object "LeaningStreet$Text")
  | 2 => .array (.object "LeaningStreet$Text")
  | 3 => .array .int
  | 4 => .array .int
  | 5 => .array .int
  | 6 => .int
  | 7 => .int
  | 8 => .int
  | 9 => .int
  | 10 => .int
  | _ => .int
abbrev wsX40 : List Cond := u_ws RX4 TX4 12
theorem nmX4 : ∀ a, a < 12 → ∀ b, b < 12 → a ≠ b → (TX4 a).2.1 ≠ (TX4 b).2.1 := by decide +kernel
theorem tyX4_ok : ∀ k, k < 12 → parseFieldDescriptor (TX4 k).2.2.1 = some (tyX4 k) := by decide +kernel
abbrev cX4_init : ByteArray := prog_6_method_1_code
def yX4_init : MethodName := ⟨RX4, "<init>", "()V"⟩
abbrev cX4_beLike : ByteArray := prog_6_method_2_code
def yX4_beLike : MethodName := ⟨RX4, "beLike", "(LLeaningStreet$Street;)V"⟩
abbrev cX4_build : ByteArray := prog_6_method_3_code
def yX4_build : MethodName := ⟨RX4, "build", "(IIII)V"⟩
abbrev cX4_buildByLot : ByteArray := prog_6_method_4_code
def yX4_buildByLot : MethodName := ⟨RX4, "buildByLot", "()V"⟩
abbrev cX4_draw : ByteArray := prog_6_method_5_code
def yX4_draw : MethodName := ⟨RX4, "draw", "()I"⟩
abbrev cX4_addText : ByteArray := prog_6_method_6_code
def yX4_addText : MethodName := ⟨RX4, "addText", "(LLeaningStreet$Text;)V"⟩
abbrev cX4_takeWalls : ByteArray := prog_6_method_7_code
def yX4_takeWalls : MethodName := ⟨RX4, "takeWalls", "(LLeaningStreet$Row;)I"⟩
abbrev cX4_differsFrom : ByteArray := prog_6_method_8_code
def yX4_differsFrom : MethodName := ⟨RX4, "differsFrom", "(LLeaningStreet$Row;)I"⟩
abbrev cX4_pushOf : ByteArray := prog_6_method_9_code
def yX4_pushOf : MethodName := ⟨RX4, "pushOf", "(LLeaningStreet$House;)I"⟩
abbrev cX4_workOutThrusts : ByteArray := prog_6_method_10_code
def yX4_workOutThrusts : MethodName := ⟨RX4, "workOutThrusts", "()V"⟩
abbrev cX4_lean : ByteArray := prog_6_method_11_code
def yX4_lean : MethodName := ⟨RX4, "lean", "(II)V"⟩
abbrev cX4_tooMuch : ByteArray := prog_6_method_12_code
def yX4_tooMuch : MethodName := ⟨RX4, "tooMuch", "(I)I"⟩
abbrev cX4_notHolding : ByteArray := prog_6_method_13_code
def yX4_notHolding : MethodName := ⟨RX4, "notHolding", "()I"⟩
abbrev cX4_goOneDay : ByteArray := prog_6_method_14_code
def yX4_goOneDay : MethodName := ⟨RX4, "goOneDay", "()Z"⟩
abbrev cX4_crackAndMove : ByteArray := prog_6_method_15_code
def yX4_crackAndMove : MethodName := ⟨RX4, "crackAndMove", "()Z"⟩
abbrev cX4_fallByCracks : ByteArray := prog_6_method_16_code
def yX4_fallByCracks : MethodName := ⟨RX4, "fallByCracks", "()Z"⟩
abbrev cX4_fallByNeighbours : ByteArray := prog_6_method_17_code
def yX4_fallByNeighbours : MethodName := ⟨RX4, "fallByNeighbours", "()V"⟩
abbrev cX4_hasLostItsRest : ByteArray := prog_6_method_18_code
def yX4_hasLostItsRest : MethodName := ⟨RX4, "hasLostItsRest", "(I)Z"⟩
abbrev cX4_goOn : ByteArray := prog_6_method_19_code
def yX4_goOn : MethodName := ⟨RX4, "goOn", "(I)V"⟩
abbrev cX4_firstFall : ByteArray := prog_6_method_20_code
def yX4_firstFall : MethodName := ⟨RX4, "firstFall", "(I)I"⟩
abbrev cX4_standing : ByteArray := prog_6_method_21_code
def yX4_standing : MethodName := ⟨RX4, "standing", "()I"⟩
abbrev cX4_crackedSince : ByteArray := prog_6_method_22_code
def yX4_crackedSince : MethodName := ⟨RX4, "crackedSince", "(LLeaningStreet$Street;)I"⟩
abbrev cX4_howManyStand : ByteArray := prog_6_method_23_code
def yX4_howManyStand : MethodName := ⟨RX4, "howManyStand", "()I"⟩
abbrev cX4_cracks : ByteArray := prog_6_method_24_code
def yX4_cracks : MethodName := ⟨RX4, "cracks", "()I"⟩
abbrev cX4_props : ByteArray := prog_6_method_25_code
def yX4_props : MethodName := ⟨RX4, "props", "()I"⟩
def RX5 : String := "LeaningStreet$Text"
def TX5 : u_T := fun k => match k with
  | 0 => ("LeaningStreet$Text", "number", "I", true)
  | 1 => ("LeaningStreet$Text", "key", "I", true)
  | 2 => ("LeaningStreet$Text", "pieces", "I", true)
  | 3 => ("LeaningStreet$Text", "code", "[I", true)
  | _ => ("LeaningStreet$Text", "stack", "[I", true)
def tyX5 : Nat → FieldType := fun k => match k with
  | 0 => .int
  | 1 => .int
  | 2 => .int
  | 3 => .array .int
  | _ => .array .int
abbrev wsX50 : List Cond := u_ws RX5 TX5 5
theorem nmX5 : ∀ a, a < 5 → ∀ b, b < 5 → a ≠ b → (TX5 a).2.1 ≠ (TX5 b).2.1 := by decide +kernel
theorem tyX5_ok : ∀ k, k < 5 → parseFieldDescriptor (TX5 k).2.2.1 = some (tyX5 k) := by decide +kernel
abbrev cX5_init : ByteArray := prog_7_method_1_code
def yX5_init : MethodName := ⟨RX5, "<init>", "(III[I)V"⟩
abbrev cX5_value : ByteArray := prog_7_method_2_code
def yX5_value : MethodName := ⟨RX5, "value", "(III)I"⟩
abbrev cX5_joined : ByteArray := prog_7_method_3_code
def yX5_joined : MethodName := ⟨RX5, "joined", "(III)I"⟩
def RX6 : String := "LeaningStreet"
def TX6 : u_T := fun k => match k with
  | 0 => ("LeaningStreet", "now", "LLeaningStreet$Street;", true)
  | 1 => ("LeaningStreet", "image", "LLeaningStreet$Street;", true)
  | 2 => ("LeaningStreet", "thought", "LLeaningStreet$Street;", true)
  | 3 => ("LeaningStreet", "tape", "LLeaningStreet$Reader;", true)
  | 4 => ("LeaningStreet", "sheets", "[LLeaningStreet$Row;", true)
  | 5 => ("LeaningStreet", "slots", "[LLeaningStreet$Slot;", true)
  | 6 => ("LeaningStreet", "waiting", "[I", true)
  | 7 => ("LeaningStreet", "waits", "I", false)
  | _ => ("LeaningStreet", "kept", "Z", false)
def tyX6 : Nat → FieldType := fun k => match k with
  | 0 => .object "LeaningStreet$Street"
  | 1 => .object "LeaningStreet$Street"
  | 2 => .object "LeaningStreet$Street"
  | 3 => .object "LeaningStreet$Reader"
  | 4 => .array (.object "LeaningStreet$Row")
  | 5 => .array (.object "LeaningStreet$Slot")
  | 6 => .array .int
  | 7 => .int
  | _ => .boolean
abbrev wsX60 : List Cond := u_ws RX6 TX6 9
theorem nmX6 : ∀ a, a < 9 → ∀ b, b < 9 → a ≠ b → (TX6 a).2.1 ≠ (TX6 b).2.1 := by decide +kernel
theorem tyX6_ok : ∀ k, k < 9 → parseFieldDescriptor (TX6 k).2.2.1 = some (tyX6 k) := by decide +kernel
abbrev cX6_init : ByteArray := prog_1_method_1_code
def yX6_init : MethodName := ⟨RX6, "<init>", "()V"⟩
abbrev cX6_house : ByteArray := prog_1_method_2_code
def yX6_house : MethodName := ⟨RX6, "house", "(IIII)I"⟩
abbrev cX6_told : ByteArray := prog_1_method_3_code
def yX6_told : MethodName := ⟨RX6, "told", "(II)I"⟩
abbrev cX6_as : ByteArray := prog_1_method_4_code
def yX6_as : MethodName := ⟨RX6, "as", "(II)I"⟩
abbrev cX6_turns : ByteArray := prog_1_method_5_code
def yX6_turns : MethodName := ⟨RX6, "turns", "(II)I"⟩
abbrev cX6_set : ByteArray := prog_1_method_6_code
def yX6_set : MethodName := ⟨RX6, "set", "(III)I"⟩
abbrev cX6_fells : ByteArray := prog_1_method_7_code
def yX6_fells : MethodName := ⟨RX6, "fells", "(I)I"⟩
abbrev cX6_raises : ByteArray := prog_1_method_8_code
def yX6_raises : MethodName := ⟨RX6, "raises", "(I)I"⟩
abbrev cX6_snow : ByteArray := prog_1_method_9_code
def yX6_snow : MethodName := ⟨RX6, "snow", "(I)I"⟩
abbrev cX6_deal : ByteArray := prog_1_method_10_code
def yX6_deal : MethodName := ⟨RX6, "deal", "(I)I"⟩
abbrev cX6_seed : ByteArray := prog_1_method_11_code
def yX6_seed : MethodName := ⟨RX6, "seed", "(I)I"⟩
abbrev cX6_days : ByteArray := prog_1_method_12_code
def yX6_days : MethodName := ⟨RX6, "days", "(I)I"⟩
abbrev cX6_street : ByteArray := prog_1_method_13_code
def yX6_street : MethodName := ⟨RX6, "street", "(I)I"⟩
abbrev cX6_behind : ByteArray := prog_1_method_14_code
def yX6_behind : MethodName := ⟨RX6, "behind", "(II)I"⟩
abbrev cX6_lasts : ByteArray := prog_1_method_15_code
def yX6_lasts : MethodName := ⟨RX6, "lasts", "()I"⟩
abbrev cX6_taken : ByteArray := prog_1_method_16_code
def yX6_taken : MethodName := ⟨RX6, "taken", "(II)I"⟩
abbrev cX6_propped : ByteArray := prog_1_method_17_code
def yX6_propped : MethodName := ⟨RX6, "propped", "(I)I"⟩
abbrev cX6_wall : ByteArray := prog_1_method_18_code
def yX6_wall : MethodName := ⟨RX6, "wall", "(II)I"⟩
abbrev cX6_snows : ByteArray := prog_1_method_19_code
def yX6_snows : MethodName := ⟨RX6, "snows", "(I)I"⟩
abbrev cX6_began : ByteArray := prog_1_method_20_code
def yX6_began : MethodName := ⟨RX6, "began", "(III)I"⟩
abbrev cX6_fee : ByteArray := prog_1_method_21_code
def yX6_fee : MethodName := ⟨RX6, "fee", "()I"⟩
abbrev cX6_fine : ByteArray := prog_1_method_22_code
def yX6_fine : MethodName := ⟨RX6, "fine", "(I)I"⟩
abbrev cX6_feed : ByteArray := prog_1_method_23_code
def yX6_feed : MethodName := ⟨RX6, "feed", "(III)I"⟩
abbrev cX6_trim : ByteArray := prog_1_method_24_code
def yX6_trim : MethodName := ⟨RX6, "trim", "(I)I"⟩
abbrev cX6_text : ByteArray := prog_1_method_25_code
def yX6_text : MethodName := ⟨RX6, "text", "()I"⟩
abbrev cX6_textTold : ByteArray := prog_1_method_26_code
def yX6_textTold : MethodName := ⟨RX6, "textTold", "(II)I"⟩
abbrev cX6_why : ByteArray := prog_1_method_27_code
def yX6_why : MethodName := ⟨RX6, "why", "(I)I"⟩
abbrev cX6_sheet : ByteArray := prog_1_method_28_code
def yX6_sheet : MethodName := ⟨RX6, "sheet", "(III)I"⟩
abbrev cX6_mark : ByteArray := prog_1_method_29_code
def yX6_mark : MethodName := ⟨RX6, "mark", "(III)I"⟩
abbrev cX6_pour : ByteArray := prog_1_method_30_code
def yX6_pour : MethodName := ⟨RX6, "pour", "(I)I"⟩
abbrev cX6_reads : ByteArray := prog_1_method_31_code
def yX6_reads : MethodName := ⟨RX6, "reads", "(I)I"⟩
abbrev cX6_copy : ByteArray := prog_1_method_32_code
def yX6_copy : MethodName := ⟨RX6, "copy", "(IIIII)I"⟩
abbrev cX6_lay : ByteArray := prog_1_method_33_code
def yX6_lay : MethodName := ⟨RX6, "lay", "(III)I"⟩
abbrev cX6_ask : ByteArray := prog_1_method_34_code
def yX6_ask : MethodName := ⟨RX6, "ask", "(II)I"⟩
abbrev cX6_item : ByteArray := prog_1_method_35_code
def yX6_item : MethodName := ⟨RX6, "item", "(II)I"⟩
abbrev cX6_rest : ByteArray := prog_1_method_36_code
def yX6_rest : MethodName := ⟨RX6, "rest", "(II)I"⟩
abbrev cX6_tell : ByteArray := prog_1_method_37_code
def yX6_tell : MethodName := ⟨RX6, "tell", "(I)I"⟩
abbrev cX6_check : ByteArray := prog_1_method_38_code
def yX6_check : MethodName := ⟨RX6, "check", "(I)I"⟩
abbrev cX6_keep : ByteArray := prog_1_method_39_code
def yX6_keep : MethodName := ⟨RX6, "keep", "()I"⟩
abbrev cX6_back : ByteArray := prog_1_method_40_code
def yX6_back : MethodName := ⟨RX6, "back", "()I"⟩
abbrev cX6_count : ByteArray := prog_1_method_41_code
def yX6_count : MethodName := ⟨RX6, "count", "(I)I"⟩
abbrev cX6_fits : ByteArray := prog_1_method_42_code
def yX6_fits : MethodName := ⟨RX6, "fits", "(II)Z"⟩
abbrev cX6_isHouse : ByteArray := prog_1_method_43_code
def yX6_isHouse : MethodName := ⟨RX6, "isHouse", "(I)Z"⟩
abbrev cX6_isKind : ByteArray := prog_1_method_44_code
def yX6_isKind : MethodName := ⟨RX6, "isKind", "(I)Z"⟩
abbrev cX6_isSheet : ByteArray := prog_1_method_45_code
def yX6_isSheet : MethodName := ⟨RX6, "isSheet", "(I)Z"⟩
abbrev cX6_isSlot : ByteArray := prog_1_method_46_code
def yX6_isSlot : MethodName := ⟨RX6, "isSlot", "(I)Z"⟩
abbrev cX6_thinkOf : ByteArray := prog_1_method_47_code
def yX6_thinkOf : MethodName := ⟨RX6, "thinkOf", "(LLeaningStreet$Street;)LLeaningStreet$Street;"⟩
abbrev cX6_thinkWithoutWall : ByteArray := prog_1_method_48_code
def yX6_thinkWithoutWall : MethodName := ⟨RX6, "thinkWithoutWall", "(II)V"⟩
abbrev cX6_isEnough : ByteArray := prog_1_method_49_code
def yX6_isEnough : MethodName := ⟨RX6, "isEnough", "(III)Z"⟩
def RX7 : String := "LeaningStreetModel"
def TX7 : u_T := fun k => match k with
  | 0 => ("LeaningStreetModel", "s", "[I", true)
  | 1 => ("LeaningStreetModel", "image", "[I", true)
  | 2 => ("LeaningStreetModel", "aside", "[I", true)
  | 3 => ("LeaningStreetModel", "hasImage", "Z", false)
  | 4 => ("LeaningStreetModel", "tSort", "[I", true)
  | 5 => ("LeaningStreetModel", "tSize", "[I", true)
  | 6 => ("LeaningStreetModel", "tNumber", "[I", true)
  | 7 => ("LeaningStreetModel", "held", "[I", true)
  | 8 => ("LeaningStreetModel", "heldNumber", "[I", true)
  | 9 => ("LeaningStreetModel", "heldWorth", "[I", true)
  | 10 => ("LeaningStreetModel", "heldSize", "[I", true)
  | 11 => ("LeaningStreetModel", "heldRow", "[I", true)
  | 12 => ("LeaningStreetModel", "thrusts", "[I", true)
  | 13 => ("LeaningStreetModel", "borne", "[I", true)
  | 14 => ("LeaningStreetModel", "close", "[I", true)
  | 15 => ("LeaningStreetModel", "tape", "[I", true)
  | 16 => ("LeaningStreetModel", "taped", "I", false)
  | 17 => ("LeaningStreetModel", "begin", "I", false)
  | 18 => ("LeaningStreetModel", "behind", "I", false)
  | 19 => ("LeaningStreetModel", "token", "I", false)
  | 20 => ("LeaningStreetModel", "number", "I", false)
  | 21 => ("LeaningStreetModel", "letter", "I", false)
  | 22 => ("LeaningStreetModel", "deep", "I", false)
  | 23 => ("LeaningStreetModel", "turned", "I", false)
  | 24 => ("LeaningStreetModel", "laid", "I", false)
  | 25 => ("LeaningStreetModel", "laidAt", "I", false)
  | 26 => ("LeaningStreetModel", "said", "I", false)
  | 27 => ("LeaningStreetModel", "named", "[I", true)
  | 28 => ("LeaningStreetModel", "pile", "[I", true)
  | 29 => ("LeaningStreetModel", "carried", "[I", true)
  | 30 => ("LeaningStreetModel", "waits", "[I", true)
  | 31 => ("LeaningStreetModel", "waiting", "I", false)
  | _ => ("LeaningStreetModel", "rowDue", "[I", true)
def tyX7 : Nat → FieldType := fun k => match k with
  | 0 => .array .int
  | 1 => .array .int
  | 2 => .array .int
  | 3 => .boolean
  | 4 => .array .int
  | 5 => .array .int
  | 6 => .array .int
  | 7 => .array .int
  | 8 => .array .int
  | 9 => .array .int
  | 10 => .array .int
  | 11 => .array .int
  | 12 => .array .int
  | 13 => .array .int
  | 14 => .array .int
  | 15 => .array .int
  | 16 => .int
  | 17 => .int
  | 18 => .int
  | 19 => .int
  | 20 => .int
  | 21 => .int
  | 22 => .int
  | 23 => .int
  | 24 => .int
  | 25 => .int
  | 26 => .int
  | 27 => .array .int
  | 28 => .array .int
  | 29 => .array .int
  | 30 => .array .int
  | 31 => .int
  | _ => .array .int
abbrev wsX70 : List Cond := u_ws RX7 TX7 33
theorem nmX7 : ∀ a, a < 33 → ∀ b, b < 33 → a ≠ b → (TX7 a).2.1 ≠ (TX7 b).2.1 := by decide +kernel
theorem tyX7_ok : ∀ k, k < 33 → parseFieldDescriptor (TX7 k).2.2.1 = some (tyX7 k) := by decide +kernel
abbrev cX7_init : ByteArray := prog_9_method_1_code
def yX7_init : MethodName := ⟨RX7, "<init>", "()V"⟩
abbrev cX7_isIn : ByteArray := prog_9_method_2_code
def yX7_isIn : MethodName := ⟨RX7, "isIn", "(JJJ)Z"⟩
abbrev cX7_orNone : ByteArray := prog_9_method_3_code
def yX7_orNone : MethodName := ⟨RX7, "orNone", "(I)I"⟩
abbrev cX7_held : ByteArray := prog_9_method_4_code
def yX7_held : MethodName := ⟨RX7, "held", "(III)I"⟩
abbrev cX7_off : ByteArray := prog_9_method_5_code
def yX7_off : MethodName := ⟨RX7, "off", "(II)I"⟩
abbrev cX7_manyIn : ByteArray := prog_9_method_6_code
def yX7_manyIn : MethodName := ⟨RX7, "manyIn", "(I)I"⟩
abbrev cX7_becomes : ByteArray := prog_9_method_7_code
def yX7_becomes : MethodName := ⟨RX7, "becomes", "(II)I"⟩
abbrev cX7_textAt : ByteArray := prog_9_method_8_code
def yX7_textAt : MethodName := ⟨RX7, "textAt", "(I)I"⟩
abbrev cX7_of : ByteArray := prog_9_method_9_code
def yX7_of : MethodName := ⟨RX7, "of", "(II)I"⟩
abbrev cX7_sets : ByteArray := prog_9_method_10_code
def yX7_sets : MethodName := ⟨RX7, "sets", "(III)V"⟩
abbrev cX7_isHouse : ByteArray := prog_9_method_11_code
def yX7_isHouse : MethodName := ⟨RX7, "isHouse", "(I)Z"⟩
abbrev cX7_stands : ByteArray := prog_9_method_12_code
def yX7_stands : MethodName := ⟨RX7, "stands", "(I)Z"⟩
abbrev cX7_isText : ByteArray := prog_9_method_13_code
def yX7_isText : MethodName := ⟨RX7, "isText", "(I)Z"⟩
abbrev cX7_drawn : ByteArray := prog_9_method_14_code
def yX7_drawn : MethodName := ⟨RX7, "drawn", "()I"⟩
abbrev cX7_comes : ByteArray := prog_9_method_15_code
def yX7_comes : MethodName := ⟨RX7, "comes", "(IIII)V"⟩
abbrev cX7_mayBe : ByteArray := prog_9_method_16_code
def yX7_mayBe : MethodName := ⟨RX7, "mayBe", "(II)Z"⟩
abbrev cX7_house : ByteArray := prog_9_method_17_code
def yX7_house : MethodName := ⟨RX7, "house", "(IIII)I"⟩
abbrev cX7_pushes : ByteArray := prog_9_method_18_code
def yX7_pushes : MethodName := ⟨RX7, "pushes", "(I)I"⟩
abbrev cX7_bears : ByteArray := prog_9_method_19_code
def yX7_bears : MethodName := ⟨RX7, "bears", "(I)I"⟩
abbrev cX7_worth : ByteArray := prog_9_method_20_code
def yX7_worth : MethodName := ⟨RX7, "worth", "(I)I"⟩
abbrev cX7_allStanding : ByteArray := prog_9_method_21_code
def yX7_allStanding : MethodName := ⟨RX7, "allStanding", "()I"⟩
abbrev cX7_nextOf : ByteArray := prog_9_method_22_code
def yX7_nextOf : MethodName := ⟨RX7, "nextOf", "(III)I"⟩
abbrev cX7_thrust : ByteArray := prog_9_method_23_code
def yX7_thrust : MethodName := ⟨RX7, "thrust", "(I)I"⟩
abbrev cX7_told : ByteArray := prog_9_method_24_code
def yX7_told : MethodName := ⟨RX7, "told", "(II)I"⟩
abbrev cX7_isOf : ByteArray := prog_9_method_25_code
def yX7_isOf : MethodName := ⟨RX7, "isOf", "(II)Z"⟩
abbrev cX7_as : ByteArray := prog_9_method_26_code
def yX7_as : MethodName := ⟨RX7, "as", "(II)I"⟩
abbrev cX7_turns : ByteArray := prog_9_method_27_code
def yX7_turns : MethodName := ⟨RX7, "turns", "(II)I"⟩
abbrev cX7_set : ByteArray := prog_9_method_28_code
def yX7_set : MethodName := ⟨RX7, "set", "(III)I"⟩
abbrev cX7_falls : ByteArray := prog_9_method_29_code
def yX7_falls : MethodName := ⟨RX7, "falls", "(I)V"⟩
abbrev cX7_fells : ByteArray := prog_9_method_30_code
def yX7_fells : MethodName := ⟨RX7, "fells", "(I)I"⟩
abbrev cX7_raises : ByteArray := prog_9_method_31_code
def yX7_raises : MethodName := ⟨RX7, "raises", "(I)I"⟩
abbrev cX7_snow : ByteArray := prog_9_method_32_code
def yX7_snow : MethodName := ⟨RX7, "snow", "(I)I"⟩
abbrev cX7_deal : ByteArray := prog_9_method_33_code
def yX7_deal : MethodName := ⟨RX7, "deal", "(I)I"⟩
abbrev cX7_seed : ByteArray := prog_9_method_34_code
def yX7_seed : MethodName := ⟨RX7, "seed", "(I)I"⟩
abbrev cX7_fallsWith : ByteArray := prog_9_method_35_code
def yX7_fallsWith : MethodName := ⟨RX7, "fallsWith", "(II)Z"⟩
abbrev cX7_goesOn : ByteArray := prog_9_method_36_code
def yX7_goesOn : MethodName := ⟨RX7, "goesOn", "()V"⟩
abbrev cX7_days : ByteArray := prog_9_method_37_code
def yX7_days : MethodName := ⟨RX7, "days", "(I)I"⟩
abbrev cX7_allOf : ByteArray := prog_9_method_38_code
def yX7_allOf : MethodName := ⟨RX7, "allOf", "(I)I"⟩
abbrev cX7_looseOnes : ByteArray := prog_9_method_39_code
def yX7_looseOnes : MethodName := ⟨RX7, "looseOnes", "()I"⟩
abbrev cX7_street : ByteArray := prog_9_method_40_code
def yX7_street : MethodName := ⟨RX7, "street", "(I)I"⟩
abbrev cX7_laysBy : ByteArray := prog_9_method_41_code
def yX7_laysBy : MethodName := ⟨RX7, "laysBy", "()V"⟩
abbrev cX7_laysBack : ByteArray := prog_9_method_42_code
def yX7_laysBack : MethodName := ⟨RX7, "laysBack", "()V"⟩
abbrev cX7_goesOnMany : ByteArray := prog_9_method_43_code
def yX7_goesOnMany : MethodName := ⟨RX7, "goesOnMany", "(I)V"⟩
abbrev cX7_behind : ByteArray := prog_9_method_44_code
def yX7_behind : MethodName := ⟨RX7, "behind", "(II)I"⟩
abbrev cX7_lasts : ByteArray := prog_9_method_45_code
def yX7_lasts : MethodName := ⟨RX7, "lasts", "()I"⟩
abbrev cX7_taken : ByteArray := prog_9_method_46_code
def yX7_taken : MethodName := ⟨RX7, "taken", "(II)I"⟩
abbrev cX7_keeps : ByteArray := prog_9_method_47_code
def yX7_keeps : MethodName := ⟨RX7, "keeps", "(I)Z"⟩
abbrev cX7_propped : ByteArray := prog_9_method_48_code
def yX7_propped : MethodName := ⟨RX7, "propped", "(I)I"⟩
abbrev cX7_wall : ByteArray := prog_9_method_49_code
def yX7_wall : MethodName := ⟨RX7, "wall", "(II)I"⟩
abbrev cX7_snows : ByteArray := prog_9_method_50_code
def yX7_snows : MethodName := ⟨RX7, "snows", "(I)I"⟩
abbrev cX7_fee : ByteArray := prog_9_method_51_code
def yX7_fee : MethodName := ⟨RX7, "fee", "()I"⟩
abbrev cX7_fine : ByteArray := prog_9_method_52_code
def yX7_fine : MethodName := ⟨RX7, "fine", "(I)I"⟩
abbrev cX7_feed : ByteArray := prog_9_method_53_code
def yX7_feed : MethodName := ⟨RX7, "feed", "(III)I"⟩
abbrev cX7_trim : ByteArray := prog_9_method_54_code
def yX7_trim : MethodName := ⟨RX7, "trim", "(I)I"⟩
abbrev cX7_isLetter : ByteArray := prog_9_method_55_code
def yX7_isLetter : MethodName := ⟨RX7, "isLetter", "(I)Z"⟩
abbrev cX7_isDigit : ByteArray := prog_9_method_56_code
def yX7_isDigit : MethodName := ⟨RX7, "isDigit", "(I)Z"⟩
abbrev cX7_nextToken : ByteArray := prog_9_method_57_code
def yX7_nextToken : MethodName := ⟨RX7, "nextToken", "()V"⟩
abbrev cX7_isSign : ByteArray := prog_9_method_58_code
def yX7_isSign : MethodName := ⟨RX7, "isSign", "(I)Z"⟩
abbrev cX7_isWordAt : ByteArray := prog_9_method_59_code
def yX7_isWordAt : MethodName := ⟨RX7, "isWordAt", "(IIII)Z"⟩
abbrev cX7_key : ByteArray := prog_9_method_60_code
def yX7_key : MethodName := ⟨RX7, "key", "()I"⟩
abbrev cX7_isName : ByteArray := prog_9_method_61_code
def yX7_isName : MethodName := ⟨RX7, "isName", "(II)Z"⟩
abbrev cX7_step : ByteArray := prog_9_method_62_code
def yX7_step : MethodName := ⟨RX7, "step", "(II)V"⟩
abbrev cX7_either : ByteArray := prog_9_method_63_code
def yX7_either : MethodName := ⟨RX7, "either", "(I)Z"⟩
abbrev cX7_both : ByteArray := prog_9_method_64_code
def yX7_both : MethodName := ⟨RX7, "both", "(I)Z"⟩
abbrev cX7_test : ByteArray := prog_9_method_65_code
def yX7_test : MethodName := ⟨RX7, "test", "(I)Z"⟩
abbrev cX7_sum : ByteArray := prog_9_method_66_code
def yX7_sum : MethodName := ⟨RX7, "sum", "(I)Z"⟩
abbrev cX7_term : ByteArray := prog_9_method_67_code
def yX7_term : MethodName := ⟨RX7, "term", "(I)Z"⟩
abbrev cX7_part0 : ByteArray := prog_9_method_68_code
def yX7_part0 : MethodName := ⟨RX7, "part0", "(I)Z"⟩
abbrev cX7_parse : ByteArray := prog_9_method_69_code
def yX7_parse : MethodName := ⟨RX7, "parse", "()I"⟩
abbrev cX7_text : ByteArray := prog_9_method_70_code
def yX7_text : MethodName := ⟨RX7, "text", "()I"⟩
abbrev cX7_textTold : ByteArray := prog_9_method_71_code
def yX7_textTold : MethodName := ⟨RX7, "textTold", "(II)I"⟩
abbrev cX7_counts : ByteArray := prog_9_method_72_code
def yX7_counts : MethodName := ⟨RX7, "counts", "(I)I"⟩
abbrev cX7_why : ByteArray := prog_9_method_73_code
def yX7_why : MethodName := ⟨RX7, "why", "(I)I"⟩
abbrev cX7_joined : ByteArray := prog_9_method_74_code
def yX7_joined : MethodName := ⟨RX7, "joined", "(III)I"⟩
abbrev cX7_worked : ByteArray := prog_9_method_75_code
def yX7_worked : MethodName := ⟨RX7, "worked", "(I)I"⟩
abbrev cX7_isSheet : ByteArray := prog_9_method_76_code
def yX7_isSheet : MethodName := ⟨RX7, "isSheet", "(I)Z"⟩
abbrev cX7_sheet : ByteArray := prog_9_method_77_code
def yX7_sheet : MethodName := ⟨RX7, "sheet", "(III)I"⟩
abbrev cX7_mark : ByteArray := prog_9_method_78_code
def yX7_mark : MethodName := ⟨RX7, "mark", "(III)I"⟩
abbrev cX7_pour : ByteArray := prog_9_method_79_code
def yX7_pour : MethodName := ⟨RX7, "pour", "(I)I"⟩
abbrev cX7_reads : ByteArray := prog_9_method_80_code
def yX7_reads : MethodName := ⟨RX7, "reads", "(I)I"⟩
abbrev cX7_began : ByteArray := prog_9_method_81_code
def yX7_began : MethodName := ⟨RX7, "began", "(III)I"⟩
abbrev cX7_copy : ByteArray := prog_9_method_82_code
def yX7_copy : MethodName := ⟨RX7, "copy", "(IIIII)I"⟩
abbrev cX7_isSlot : ByteArray := prog_9_method_83_code
def yX7_isSlot : MethodName := ⟨RX7, "isSlot", "(I)Z"⟩
abbrev cX7_lay : ByteArray := prog_9_method_84_code
def yX7_lay : MethodName := ⟨RX7, "lay", "(III)I"⟩
abbrev cX7_ask : ByteArray := prog_9_method_85_code
def yX7_ask : MethodName := ⟨RX7, "ask", "(II)I"⟩
abbrev cX7_item : ByteArray := prog_9_method_86_code
def yX7_item : MethodName := ⟨RX7, "item", "(II)I"⟩
abbrev cX7_rest : ByteArray := prog_9_method_87_code
def yX7_rest : MethodName := ⟨RX7, "rest", "(II)I"⟩
abbrev cX7_tell : ByteArray := prog_9_method_88_code
def yX7_tell : MethodName := ⟨RX7, "tell", "(I)I"⟩
abbrev cX7_setAside : ByteArray := prog_9_method_89_code
def yX7_setAside : MethodName := ⟨RX7, "setAside", "([I[I)V"⟩
abbrev cX7_check : ByteArray := prog_9_method_90_code
def yX7_check : MethodName := ⟨RX7, "check", "(I)I"⟩
abbrev cX7_keep : ByteArray := prog_9_method_91_code
def yX7_keep : MethodName := ⟨RX7, "keep", "()I"⟩
abbrev cX7_back : ByteArray := prog_9_method_92_code
def yX7_back : MethodName := ⟨RX7, "back", "()I"⟩
abbrev cX7_count : ByteArray := prog_9_method_93_code
def yX7_count : MethodName := ⟨RX7, "count", "(I)I"⟩
def RJx145de : String := "java/io/Serializable"
def TJx145de : u_T := fun k => match k with
  | _ => ("", "", "", false)
def tyJx145de : Nat → FieldType := fun k => match k with
  | _ => .int
abbrev wsJx145de0 : List Cond := u_ws RJx145de TJx145de 0
theorem nmJx145de : ∀ a, a < 0 → ∀ b, b < 0 → a ≠ b → (TJx145de a).2.1 ≠ (TJx145de b).2.1 := by decide +kernel
theorem tyJx145de_ok : ∀ k, k < 0 → parseFieldDescriptor (TJx145de k).2.2.1 = some (tyJx145de k) := by decide +kernel
def RJx9f9b0 : String := "java/lang/CharSequence"
def TJx9f9b0 : u_T := fun k => match k with
  | _ => ("", "", "", false)
def tyJx9f9b0 : Nat → FieldType := fun k => match k with
  | _ => .int
abbrev wsJx9f9b00 : List Cond := u_ws RJx9f9b0 TJx9f9b0 0
theorem nmJx9f9b0 : ∀ a, a < 0 → ∀ b, b < 0 → a ≠ b → (TJx9f9b0 a).2.1 ≠ (TJx9f9b0 b).2.1 := by decide +kernel
theorem tyJx9f9b0_ok : ∀ k, k < 0 → parseFieldDescriptor (TJx9f9b0 k).2.2.1 = some (tyJx9f9b0 k) := by decide +kernel
def RJ11 : String := "java/lang/Character"
def TJ11 : u_T := fun k => match k with
  | _ => ("", "", "", false)
def tyJ11 : Nat → FieldType := fun k => match k with
  | _ => .int
abbrev wsJ110 : List Cond := u_ws RJ11 TJ11 0
theorem nmJ11 : ∀ a, a < 0 → ∀ b, b < 0 → a ≠ b → (TJ11 a).2.1 ≠ (TJ11 b).2.1 := by decide +kernel
theorem tyJ11_ok : ∀ k, k < 0 → parseFieldDescriptor (TJ11 k).2.2.1 = some (tyJ11 k) := by decide +kernel
abbrev cJ11_isValidCodePoint_9a6ad : ByteArray := prog_10_method_11_code
def yJ11_isValidCodePoint_9a6ad : MethodName := ⟨RJ11, "isValidCodePoint", "(I)Z"⟩
abbrev cJ11_highSurrogate_5068e : ByteArray := prog_10_method_28_code
def yJ11_highSurrogate_5068e : MethodName := ⟨RJ11, "highSurrogate", "(I)C"⟩
abbrev cJ11_lowSurrogate_5068e : ByteArray := prog_10_method_29_code
def yJ11_lowSurrogate_5068e : MethodName := ⟨RJ11, "lowSurrogate", "(I)C"⟩
def RJx8e188 : String := "java/lang/Cloneable"
def TJx8e188 : u_T := fun k => match k with
  | _ => ("", "", "", false)
def tyJx8e188 : Nat → FieldType := fun k => match k with
  | _ => .int
abbrev wsJx8e1880 : List Cond := u_ws RJx8e188 TJx8e188 0
theorem nmJx8e188 : ∀ a, a < 0 → ∀ b, b < 0 → a ≠ b → (TJx8e188 a).2.1 ≠ (TJx8e188 b).2.1 := by decide +kernel
theorem tyJx8e188_ok : ∀ k, k < 0 → parseFieldDescriptor (TJx8e188 k).2.2.1 = some (tyJx8e188 k) := by decide +kernel
def RJxb160c : String := "java/lang/Comparable"
def TJxb160c : u_T := fun k => match k with
  | _ => ("", "", "", false)
def tyJxb160c : Nat → FieldType := fun k => match k with
  | _ => .int
abbrev wsJxb160c0 : List Cond := u_ws RJxb160c TJxb160c 0
theorem nmJxb160c : ∀ a, a < 0 → ∀ b, b < 0 → a ≠ b → (TJxb160c a).2.1 ≠ (TJxb160c b).2.1 := by decide +kernel
theorem tyJxb160c_ok : ∀ k, k < 0 → parseFieldDescriptor (TJxb160c k).2.2.1 = some (tyJxb160c k) := by decide +kernel
def RJ6 : String := "java/lang/Integer"
def TJ6 : u_T := fun k => match k with
  | _ => ("", "", "", false)
def tyJ6 : Nat → FieldType := fun k => match k with
  | _ => .int
abbrev wsJ60 : List Cond := u_ws RJ6 TJ6 0
theorem nmJ6 : ∀ a, a < 0 → ∀ b, b < 0 → a ≠ b → (TJ6 a).2.1 ≠ (TJ6 b).2.1 := by decide +kernel
theorem tyJ6_ok : ∀ k, k < 0 → parseFieldDescriptor (TJ6 k).2.2.1 = some (tyJ6 k) := by decide +kernel
abbrev cJ6_bitCount_0f7a4 : ByteArray := prog_12_method_49_code
def yJ6_bitCount_0f7a4 : MethodName := ⟨RJ6, "bitCount", "(I)I"⟩
def RJ9 : String := "java/lang/Math"
def TJ9 : u_T := fun k => match k with
  | _ => ("", "", "", false)
def tyJ9 : Nat → FieldType := fun k => match k with
  | _ => .int
abbrev wsJ90 : List Cond := u_ws RJ9 TJ9 0
theorem nmJ9 : ∀ a, a < 0 → ∀ b, b < 0 → a ≠ b → (TJ9 a).2.1 ≠ (TJ9 b).2.1 := by decide +kernel
theorem tyJ9_ok : ∀ k, k < 0 → parseFieldDescriptor (TJ9 k).2.2.1 = some (tyJ9 k) := by decide +kernel
abbrev cJ9_abs_0f7a4 : ByteArray := prog_13_method_59_code
def yJ9_abs_0f7a4 : MethodName := ⟨RJ9, "abs", "(I)I"⟩
abbrev cJ9_max_7cf53 : ByteArray := prog_13_method_65_code
def yJ9_max_7cf53 : MethodName := ⟨RJ9, "max", "(II)I"⟩
abbrev cJ9_min_7cf53 : ByteArray := prog_13_method_69_code
def yJ9_min_7cf53 : MethodName := ⟨RJ9, "min", "(II)I"⟩
def RJ0 : String := "java/lang/String"
def TJ0 : u_T := fun k => match k with
  | _ => ("", "", "", false)
def tyJ0 : Nat → FieldType := fun k => match k with
  | _ => .int
abbrev wsJ00 : List Cond := u_ws RJ0 TJ0 0
theorem nmJ0 : ∀ a, a < 0 → ∀ b, b < 0 → a ≠ b → (TJ0 a).2.1 ≠ (TJ0 b).2.1 := by decide +kernel
theorem tyJ0_ok : ∀ k, k < 0 → parseFieldDescriptor (TJ0 k).2.2.1 = some (tyJ0 k) := by decide +kernel
abbrev cJ0_length_8abf5 : ByteArray := prog_14_method_54_code
def yJ0_length_8abf5 : MethodName := ⟨RJ0, "length", "()I"⟩
abbrev cJ0_charAt_5068e : ByteArray := prog_14_method_56_code
def yJ0_charAt_5068e : MethodName := ⟨RJ0, "charAt", "(I)C"⟩
abbrev cJ0_indexOf_0f7a4 : ByteArray := prog_14_method_79_code
def yJ0_indexOf_0f7a4 : MethodName := ⟨RJ0, "indexOf", "(I)I"⟩
abbrev cJ0_indexOf_7cf53 : ByteArray := prog_14_method_80_code
def yJ0_indexOf_7cf53 : MethodName := ⟨RJ0, "indexOf", "(II)I"⟩
abbrev cJ0_coder_7d493 : ByteArray := prog_14_method_152_code
def yJ0_coder_7d493 : MethodName := ⟨RJ0, "coder", "()B"⟩
abbrev cJ0_isLatin1_aae02 : ByteArray := prog_14_method_154_code
def yJ0_isLatin1_aae02 : MethodName := ⟨RJ0, "isLatin1", "()Z"⟩
abbrev cJ0_checkIndex_df160 : ByteArray := prog_14_method_155_code
def yJ0_checkIndex_df160 : MethodName := ⟨RJ0, "checkIndex", "(II)V"⟩
abbrev cJ0_checkBoundsBeginEnd_23922 : ByteArray := prog_14_method_158_code
def yJ0_checkBoundsBeginEnd_23922 : MethodName := ⟨RJ0, "checkBoundsBeginEnd", "(III)V"⟩
def RJ1 : String := "java/lang/StringLatin1"
def TJ1 : u_T := fun k => match k with
  | _ => ("", "", "", false)
def tyJ1 : Nat → FieldType := fun k => match k with
  | _ => .int
abbrev wsJ10 : List Cond := u_ws RJ1 TJ1 0
theorem nmJ1 : ∀ a, a < 0 → ∀ b, b < 0 → a ≠ b → (TJ1 a).2.1 ≠ (TJ1 b).2.1 := by decide +kernel
theorem tyJ1_ok : ∀ k, k < 0 → parseFieldDescriptor (TJ1 k).2.2.1 = some (tyJ1 k) := by decide +kernel
abbrev cJ1_charAt_3b067 : ByteArray := prog_15_method_2_code
def yJ1_charAt_3b067 : MethodName := ⟨RJ1, "charAt", "([BI)C"⟩
abbrev cJ1_canEncode_9a6ad : ByteArray := prog_15_method_4_code
def yJ1_canEncode_9a6ad : MethodName := ⟨RJ1, "canEncode", "(I)Z"⟩
abbrev cJ1_indexOf_4cfef : ByteArray := prog_15_method_22_code
def yJ1_indexOf_4cfef : MethodName := ⟨RJ1, "indexOf", "([BIII)I"⟩
abbrev cJ1_indexOfChar_4cfef : ByteArray := prog_15_method_23_code
def yJ1_indexOfChar_4cfef : MethodName := ⟨RJ1, "indexOfChar", "([BIII)I"⟩
def RJ2 : String := "java/lang/StringUTF16"
def TJ2 : u_T := fun k => match k with
  | _ => ("", "", "", false)
def tyJ2 : Nat → FieldType := fun k => match k with
  | _ => .int
abbrev wsJ20 : List Cond := u_ws RJ2 TJ2 0
theorem nmJ2 : ∀ a, a < 0 → ∀ b, b < 0 → a ≠ b → (TJ2 a).2.1 ≠ (TJ2 b).2.1 := by decide +kernel
theorem tyJ2_ok : ∀ k, k < 0 → parseFieldDescriptor (TJ2 k).2.2.1 = some (tyJ2 k) := by decide +kernel
abbrev cJ2_getChar_3b067 : ByteArray := prog_16_method_5_code
def yJ2_getChar_3b067 : MethodName := ⟨RJ2, "getChar", "([BI)C"⟩
abbrev cJ2_length_9d52b : ByteArray := prog_16_method_6_code
def yJ2_length_9d52b : MethodName := ⟨RJ2, "length", "([B)I"⟩
abbrev cJ2_indexOf_4cfef : ByteArray := prog_16_method_40_code
def yJ2_indexOf_4cfef : MethodName := ⟨RJ2, "indexOf", "([BIII)I"⟩
abbrev cJ2_indexOfChar_4cfef : ByteArray := prog_16_method_47_code
def yJ2_indexOfChar_4cfef : MethodName := ⟨RJ2, "indexOfChar", "([BIII)I"⟩
abbrev cJ2_indexOfCharUnsafe_4cfef : ByteArray := prog_16_method_48_code
def yJ2_indexOfCharUnsafe_4cfef : MethodName := ⟨RJ2, "indexOfCharUnsafe", "([BIII)I"⟩
abbrev cJ2_indexOfSupplementary_4cfef : ByteArray := prog_16_method_49_code
def yJ2_indexOfSupplementary_4cfef : MethodName := ⟨RJ2, "indexOfSupplementary", "([BIII)I"⟩
abbrev cJ2_charAt_3b067 : ByteArray := prog_16_method_83_code
def yJ2_charAt_3b067 : MethodName := ⟨RJ2, "charAt", "([BI)C"⟩
abbrev cJ2_checkIndex_2214a : ByteArray := prog_16_method_91_code
def yJ2_checkIndex_2214a : MethodName := ⟨RJ2, "checkIndex", "(I[B)V"⟩
abbrev cJ2_checkBoundsBeginEnd_d044e : ByteArray := prog_16_method_93_code
def yJ2_checkBoundsBeginEnd_d044e : MethodName := ⟨RJ2, "checkBoundsBeginEnd", "(II[B)V"⟩
def RJ10 : String := "java/lang/System"
def TJ10 : u_T := fun k => match k with
  | _ => ("", "", "", false)
def tyJ10 : Nat → FieldType := fun k => match k with
  | _ => .int
abbrev wsJ100 : List Cond := u_ws RJ10 TJ10 0
theorem nmJ10 : ∀ a, a < 0 → ∀ b, b < 0 → a ≠ b → (TJ10 a).2.1 ≠ (TJ10 b).2.1 := by decide +kernel
theorem tyJ10_ok : ∀ k, k < 0 → parseFieldDescriptor (TJ10 k).2.2.1 = some (tyJ10 k) := by decide +kernel
def RJxfd54e : String := "java/lang/constant/Constable"
def TJxfd54e : u_T := fun k => match k with
  | _ => ("", "", "", false)
def tyJxfd54e : Nat → FieldType := fun k => match k with
  | _ => .int
abbrev wsJxfd54e0 : List Cond := u_ws RJxfd54e TJxfd54e 0
theorem nmJxfd54e : ∀ a, a < 0 → ∀ b, b < 0 → a ≠ b → (TJxfd54e a).2.1 ≠ (TJxfd54e b).2.1 := by decide +kernel
theorem tyJxfd54e_ok : ∀ k, k < 0 → parseFieldDescriptor (TJxfd54e k).2.2.1 = some (tyJxfd54e k) := by decide +kernel
def RJx3cf43 : String := "java/lang/constant/ConstantDesc"
def TJx3cf43 : u_T := fun k => match k with
  | _ => ("", "", "", false)
def tyJx3cf43 : Nat → FieldType := fun k => match k with
  | _ => .int
abbrev wsJx3cf430 : List Cond := u_ws RJx3cf43 TJx3cf43 0
theorem nmJx3cf43 : ∀ a, a < 0 → ∀ b, b < 0 → a ≠ b → (TJx3cf43 a).2.1 ≠ (TJx3cf43 b).2.1 := by decide +kernel
theorem tyJx3cf43_ok : ∀ k, k < 0 → parseFieldDescriptor (TJx3cf43 k).2.2.1 = some (tyJx3cf43 k) := by decide +kernel
def RJ7 : String := "java/util/Arrays"
def TJ7 : u_T := fun k => match k with
  | _ => ("", "", "", false)
def tyJ7 : Nat → FieldType := fun k => match k with
  | _ => .int
abbrev wsJ70 : List Cond := u_ws RJ7 TJ7 0
theorem nmJ7 : ∀ a, a < 0 → ∀ b, b < 0 → a ≠ b → (TJ7 a).2.1 ≠ (TJ7 b).2.1 := by decide +kernel
theorem tyJ7_ok : ∀ k, k < 0 → parseFieldDescriptor (TJ7 k).2.2.1 = some (tyJ7 k) := by decide +kernel
abbrev cJ7_fill_53178 : ByteArray := prog_18_method_103_code
def yJ7_fill_53178 : MethodName := ⟨RJ7, "fill", "([II)V"⟩
abbrev cJ7_copyOf_59c91 : ByteArray := prog_18_method_123_code
def yJ7_copyOf_59c91 : MethodName := ⟨RJ7, "copyOf", "([II)[I"⟩
def RJ3 : String := "jdk/internal/util/Preconditions"
def TJ3 : u_T := fun k => match k with
  | _ => ("", "", "", false)
def tyJ3 : Nat → FieldType := fun k => match k with
  | _ => .int
abbrev wsJ30 : List Cond := u_ws RJ3 TJ3 0
theorem nmJ3 : ∀ a, a < 0 → ∀ b, b < 0 → a ≠ b → (TJ3 a).2.1 ≠ (TJ3 b).2.1 := by decide +kernel
theorem tyJ3_ok : ∀ k, k < 0 → parseFieldDescriptor (TJ3 k).2.2.1 = some (tyJ3 k) := by decide +kernel
abbrev cJ3_checkIndex_8e157 : ByteArray := prog_19_method_11_code
def yJ3_checkIndex_8e157 : MethodName := ⟨RJ3, "checkIndex", "(IILjava/util/function/BiFunction;)I"⟩
abbrev cJ3_checkFromToIndex_8c36e : ByteArray := prog_19_method_12_code
def yJ3_checkFromToIndex_8c36e : MethodName := ⟨RJ3, "checkFromToIndex", "(IIILjava/util/function/BiFunction;)I"⟩
def RL : String := "LeaningStreetLaw"
abbrev cL_law : ByteArray := code
def yL_law : MethodName := ⟨RL, "law", "([I)Z"⟩
def wsX0_init : List Cond := .code yX0_init cX0_init 1 none :: ([.methodLink RX0 3 objectInit, .instanceMethod objectInit, .code objectInit ⟨#[0xb1]⟩ 1 none])
def wsX0_beLike : List Cond := .code yX0_beLike cX0_beLike 2 none :: ([.fieldLink RX0 9 "LeaningStreet$House" "kind" "I", .fieldLink RX0 15 "LeaningStreet$House" "weight" "I", .fieldLink RX0 18 "LeaningStreet$House" "lean" "I", .fieldLink RX0 21 "LeaningStreet$House" "wall" "I", .fieldLink RX0 24 "LeaningStreet$House" "crack" "I", .fieldLink RX0 27 "LeaningStreet$House" "prop" "I", .fieldLink RX0 30 "LeaningStreet$House" "stands" "Z"] ++ wsX00)
def wsX0_fall : List Cond := .code yX0_fall cX0_fall 1 none :: ([.fieldLink RX0 30 "LeaningStreet$House" "stands" "Z", .fieldLink RX0 27 "LeaningStreet$House" "prop" "I"] ++ wsX00)
def wsX0_rise : List Cond := .code yX0_rise cX0_rise 1 none :: ([.fieldLink RX0 30 "LeaningStreet$House" "stands" "Z", .fieldLink RX0 18 "LeaningStreet$House" "lean" "I", .fieldLink RX0 24 "LeaningStreet$House" "crack" "I"] ++ wsX00)
def wsX0_part : List Cond := .code yX0_part cX0_part 2 (some .int) :: ([.fieldLink RX0 9 "LeaningStreet$House" "kind" "I", .fieldLink RX0 15 "LeaningStreet$House" "weight" "I", .fieldLink RX0 18 "LeaningStreet$House" "lean" "I", .fieldLink RX0 21 "LeaningStreet$House" "wall" "I", .fieldLink RX0 24 "LeaningStreet$House" "crack" "I", .fieldLink RX0 27 "LeaningStreet$House" "prop" "I"] ++ wsX00)
def wsX0_becomes : List Cond := .code yX0_becomes cX0_becomes 3 none :: ([.fieldLink RX0 15 "LeaningStreet$House" "weight" "I", .fieldLink RX0 18 "LeaningStreet$House" "lean" "I", .fieldLink RX0 21 "LeaningStreet$House" "wall" "I", .fieldLink RX0 24 "LeaningStreet$House" "crack" "I", .fieldLink RX0 27 "LeaningStreet$House" "prop" "I"] ++ wsX00)
def wsX0_isOf : List Cond := .code yX0_isOf cX0_isOf 4 (some .boolean) :: ([.fieldLink RX0 9 "LeaningStreet$House" "kind" "I"] ++ wsX00)
def wsX0_pushing : List Cond := .code yX0_pushing cX0_pushing 3 (some .int) :: ([.methodLink RX0 38 Lib.Math.min.name, .static Lib.Math.min.name, .initialized "java/lang/Math", .code Lib.Math.min.name Lib.Math.min.code 2 (some .int), .methodLink RX0 44 Lib.Math.max.name, .static Lib.Math.max.name, .code Lib.Math.max.name Lib.Math.max.code 2 (some .int), .fieldLink RX0 9 "LeaningStreet$House" "kind" "I"] ++ wsX00)
def wsX0_bearing : List Cond := .code yX0_bearing cX0_bearing 2 (some .int) :: ([.fieldLink RX0 21 "LeaningStreet$House" "wall" "I", .fieldLink RX0 27 "LeaningStreet$House" "prop" "I", .fieldLink RX0 9 "LeaningStreet$House" "kind" "I"] ++ wsX00)
def wsX0_worth : List Cond := .code yX0_worth cX0_worth 1 (some .int) :: ([.fieldLink RX0 9 "LeaningStreet$House" "kind" "I", .fieldLink RX0 21 "LeaningStreet$House" "wall" "I"] ++ wsX00)
def wsX1_init : List Cond := .code yX1_init cX1_init 1 none :: ([.methodLink RX1 3 objectInit, .instanceMethod objectInit, .code objectInit ⟨#[0xb1]⟩ 1 none, .arrayClass .int, .fieldLink RX1 9 "LeaningStreet$Reader" "bytes" "[I", .fieldLink RX1 15 "LeaningStreet$Reader" "many" "I", .fieldLink RX1 19 "LeaningStreet$Reader" "start" "I", .fieldLink RX1 22 "LeaningStreet$Reader" "end" "I", .fieldLink RX1 25 "LeaningStreet$Reader" "sort" "I", .fieldLink RX1 28 "LeaningStreet$Reader" "key" "I", .fieldLink RX1 31 "LeaningStreet$Reader" "code" "[I", .fieldLink RX1 34 "LeaningStreet$Reader" "steps" "I", .fieldLink RX1 37 "LeaningStreet$Reader" "pieces" "I"] ++ wsX10)
def wsX1_addBytesOf : List Cond := .code yX1_addBytesOf cX1_addBytesOf 3 none :: ([.fieldLink RX1 15 "LeaningStreet$Reader" "many" "I", .fieldLink RX1 9 "LeaningStreet$Reader" "bytes" "[I"] ++ wsX10)
def wsX1_sortOf : List Cond := .code yX1_sortOf cX1_sortOf 1 (some .int) :: ([])
def wsX1_goNext : List Cond := .code yX1_goNext cX1_goNext 3 none :: ([.fieldLink RX1 25 "LeaningStreet$Reader" "sort" "I", .fieldLink RX1 22 "LeaningStreet$Reader" "end" "I", .fieldLink RX1 19 "LeaningStreet$Reader" "start" "I", .fieldLink RX1 15 "LeaningStreet$Reader" "many" "I", .fieldLink RX1 9 "LeaningStreet$Reader" "bytes" "[I", .methodLink RX1 62 yX1_sortOf, .static yX1_sortOf, .initialized RX1, .code yX1_sortOf cX1_sortOf 1 (some .int)] ++ wsX10)
def wsJ0_coder_7d493 : List Cond := .code yJ0_coder_7d493 cJ0_coder_7d493 1 (some .byte) :: ([.fieldLink RJ0 38 "java/lang/String" "COMPACT_STRINGS" "Z", .fieldLink RJ0 15 "java/lang/String" "coder" "B"])
def wsJ0_length_8abf5 : List Cond := .code yJ0_length_8abf5 cJ0_length_8abf5 1 (some .int) :: ([.fieldLink RJ0 9 "java/lang/String" "value" "[B", .methodLink RJ0 335 yJ0_coder_7d493, .instanceMethod yJ0_coder_7d493, .selects RJ0 yJ0_coder_7d493 yJ0_coder_7d493, .initialized RJ0, .code yJ0_coder_7d493 cJ0_coder_7d493 1 (some .byte), .fieldLink RJ0 38 "java/lang/String" "COMPACT_STRINGS" "Z", .fieldLink RJ0 15 "java/lang/String" "coder" "B"])
def wsJ0_isLatin1_aae02 : List Cond := .code yJ0_isLatin1_aae02 cJ0_isLatin1_aae02 1 (some .boolean) :: ([.fieldLink RJ0 38 "java/lang/String" "COMPACT_STRINGS" "Z", .fieldLink RJ0 15 "java/lang/String" "coder" "B"])
def wsJ3_checkIndex_8e157 : List Cond := .code yJ3_checkIndex_8e157 cJ3_checkIndex_8e157 3 (some .int) :: ([])
def wsJ0_checkIndex_df160 : List Cond := .code yJ0_checkIndex_df160 cJ0_checkIndex_df160 2 none :: ([.fieldLink RJ0 1053 "jdk/internal/util/Preconditions" "SIOOBE_FORMATTER" "Ljava/util/function/BiFunction;", .methodLink RJ0 1059 yJ3_checkIndex_8e157, .static yJ3_checkIndex_8e157, .initialized RJ3, .code yJ3_checkIndex_8e157 cJ3_checkIndex_8e157 3 (some .int)])
def wsJ1_charAt_3b067 : List Cond := .code yJ1_charAt_3b067 cJ1_charAt_3b067 2 (some .char) :: ([.methodLink RJ1 9 yJ0_checkIndex_df160, .static yJ0_checkIndex_df160, .initialized RJ0, .code yJ0_checkIndex_df160 cJ0_checkIndex_df160 2 none, .fieldLink RJ0 1053 "jdk/internal/util/Preconditions" "SIOOBE_FORMATTER" "Ljava/util/function/BiFunction;", .methodLink RJ0 1059 yJ3_checkIndex_8e157, .static yJ3_checkIndex_8e157, .initialized RJ3, .code yJ3_checkIndex_8e157 cJ3_checkIndex_8e157 3 (some .int)])
def wsJ2_length_9d52b : List Cond := .code yJ2_length_9d52b cJ2_length_9d52b 1 (some .int) :: ([])
def wsJ2_checkIndex_2214a : List Cond := .code yJ2_checkIndex_2214a cJ2_checkIndex_2214a 2 none :: ([.methodLink RJ2 48 yJ2_length_9d52b, .static yJ2_length_9d52b, .initialized RJ2, .code yJ2_length_9d52b cJ2_length_9d52b 1 (some .int), .methodLink RJ2 414 yJ0_checkIndex_df160, .static yJ0_checkIndex_df160, .initialized RJ0, .code yJ0_checkIndex_df160 cJ0_checkIndex_df160 2 none, .fieldLink RJ0 1053 "jdk/internal/util/Preconditions" "SIOOBE_FORMATTER" "Ljava/util/function/BiFunction;", .methodLink RJ0 1059 yJ3_checkIndex_8e157, .static yJ3_checkIndex_8e157, .initialized RJ3, .code yJ3_checkIndex_8e157 cJ3_checkIndex_8e157 3 (some .int)])
def wsJ2_getChar_3b067 : List Cond := .code yJ2_getChar_3b067 cJ2_getChar_3b067 2 (some .char) :: ([.fieldLink RJ2 44 "java/lang/StringUTF16" "$assertionsDisabled" "Z", .fieldLink RJ2 59 "java/lang/StringUTF16" "HI_BYTE_SHIFT" "I", .fieldLink RJ2 63 "java/lang/StringUTF16" "LO_BYTE_SHIFT" "I", .methodLink RJ2 48 yJ2_length_9d52b, .static yJ2_length_9d52b, .initialized RJ2, .code yJ2_length_9d52b cJ2_length_9d52b 1 (some .int)])
def wsJ2_charAt_3b067 : List Cond := .code yJ2_charAt_3b067 cJ2_charAt_3b067 2 (some .char) :: ([.methodLink RJ2 67 yJ2_checkIndex_2214a, .static yJ2_checkIndex_2214a, .initialized RJ2, .code yJ2_checkIndex_2214a cJ2_checkIndex_2214a 2 none, .methodLink RJ2 48 yJ2_length_9d52b, .static yJ2_length_9d52b, .code yJ2_length_9d52b cJ2_length_9d52b 1 (some .int), .methodLink RJ2 414 yJ0_checkIndex_df160, .static yJ0_checkIndex_df160, .initialized RJ0, .code yJ0_checkIndex_df160 cJ0_checkIndex_df160 2 none, .fieldLink RJ0 1053 "jdk/internal/util/Preconditions" "SIOOBE_FORMATTER" "Ljava/util/function/BiFunction;", .methodLink RJ0 1059 yJ3_checkIndex_8e157, .static yJ3_checkIndex_8e157, .initialized RJ3, .code yJ3_checkIndex_8e157 cJ3_checkIndex_8e157 3 (some .int), .methodLink RJ2 71 yJ2_getChar_3b067, .static yJ2_getChar_3b067, .code yJ2_getChar_3b067 cJ2_getChar_3b067 2 (some .char), .fieldLink RJ2 44 "java/lang/StringUTF16" "$assertionsDisabled" "Z", .fieldLink RJ2 59 "java/lang/StringUTF16" "HI_BYTE_SHIFT" "I", .fieldLink RJ2 63 "java/lang/StringUTF16" "LO_BYTE_SHIFT" "I"])
def wsJ0_charAt_5068e_r1 : List Cond := [Cond.fieldLink RJ0 9 "java/lang/String" "value" "[B", Cond.methodLink RJ0 492 yJ0_isLatin1_aae02, Cond.instanceMethod yJ0_isLatin1_aae02, Cond.selects RJ0 yJ0_isLatin1_aae02 yJ0_isLatin1_aae02, Cond.initialized RJ0, Cond.code yJ0_isLatin1_aae02 cJ0_isLatin1_aae02 1 (some .boolean), Cond.fieldLink RJ0 38 "java/lang/String" "COMPACT_STRINGS" "Z", Cond.fieldLink RJ0 15 "java/lang/String" "coder" "B", Cond.methodLink RJ0 495 yJ1_charAt_3b067, Cond.static yJ1_charAt_3b067, Cond.initialized RJ1, Cond.code yJ1_charAt_3b067 cJ1_charAt_3b067 2 (some .char), Cond.methodLink RJ1 9 yJ0_checkIndex_df160, Cond.static yJ0_checkIndex_df160, Cond.code yJ0_checkIndex_df160 cJ0_checkIndex_df160 2 none, Cond.fieldLink RJ0 1053 "jdk/internal/util/Preconditions" "SIOOBE_FORMATTER" "Ljava/util/function/BiFunction;", Cond.methodLink RJ0 1059 yJ3_checkIndex_8e157, Cond.static yJ3_checkIndex_8e157, Cond.initialized RJ3, Cond.code yJ3_checkIndex_8e157 cJ3_checkIndex_8e157 3 (some .int), Cond.methodLink RJ0 498 yJ2_charAt_3b067, Cond.static yJ2_charAt_3b067, Cond.initialized RJ2, Cond.code yJ2_charAt_3b067 cJ2_charAt_3b067 2 (some .char)]
def wsJ0_charAt_5068e_r2 : List Cond := [Cond.methodLink RJ2 67 yJ2_checkIndex_2214a, Cond.static yJ2_checkIndex_2214a, Cond.code yJ2_checkIndex_2214a cJ2_checkIndex_2214a 2 none, Cond.methodLink RJ2 48 yJ2_length_9d52b, Cond.static yJ2_length_9d52b, Cond.code yJ2_length_9d52b cJ2_length_9d52b 1 (some .int), Cond.methodLink RJ2 414 yJ0_checkIndex_df160, Cond.methodLink RJ2 71 yJ2_getChar_3b067, Cond.static yJ2_getChar_3b067, Cond.code yJ2_getChar_3b067 cJ2_getChar_3b067 2 (some .char), Cond.fieldLink RJ2 44 "java/lang/StringUTF16" "$assertionsDisabled" "Z", Cond.fieldLink RJ2 59 "java/lang/StringUTF16" "HI_BYTE_SHIFT" "I", Cond.fieldLink RJ2 63 "java/lang/StringUTF16" "LO_BYTE_SHIFT" "I"]
def wsJ0_charAt_5068e : List Cond := .code yJ0_charAt_5068e cJ0_charAt_5068e 2 (some .char) :: ((wsJ0_charAt_5068e_r1 ++ wsJ0_charAt_5068e_r2))
def wsX1_isWord_r1 : List Cond := [Cond.fieldLink RX1 22 "LeaningStreet$Reader" "end" "I", Cond.fieldLink RX1 19 "LeaningStreet$Reader" "start" "I", Cond.fieldLink RX1 15 "LeaningStreet$Reader" "many" "I", Cond.fieldLink RX1 9 "LeaningStreet$Reader" "bytes" "[I", Cond.methodLink RX1 76 yJ0_length_8abf5, Cond.instanceMethod yJ0_length_8abf5, Cond.selects RJ0 yJ0_length_8abf5 yJ0_length_8abf5, Cond.initialized RJ0, Cond.code yJ0_length_8abf5 cJ0_length_8abf5 1 (some .int), Cond.fieldLink RJ0 9 "java/lang/String" "value" "[B", Cond.methodLink RJ0 335 yJ0_coder_7d493, Cond.instanceMethod yJ0_coder_7d493, Cond.selects RJ0 yJ0_coder_7d493 yJ0_coder_7d493, Cond.code yJ0_coder_7d493 cJ0_coder_7d493 1 (some .byte), Cond.fieldLink RJ0 38 "java/lang/String" "COMPACT_STRINGS" "Z", Cond.fieldLink RJ0 15 "java/lang/String" "coder" "B", Cond.methodLink RX1 81 yJ0_charAt_5068e, Cond.instanceMethod yJ0_charAt_5068e, Cond.selects RJ0 yJ0_charAt_5068e yJ0_charAt_5068e, Cond.code yJ0_charAt_5068e cJ0_charAt_5068e 2 (some .char), Cond.methodLink RJ0 492 yJ0_isLatin1_aae02, Cond.instanceMethod yJ0_isLatin1_aae02, Cond.selects RJ0 yJ0_isLatin1_aae02 yJ0_isLatin1_aae02, Cond.code yJ0_isLatin1_aae02 cJ0_isLatin1_aae02 1 (some .boolean)]
def wsX1_isWord_r2 : List Cond := [Cond.methodLink RJ0 495 yJ1_charAt_3b067, Cond.static yJ1_charAt_3b067, Cond.initialized RJ1, Cond.code yJ1_charAt_3b067 cJ1_charAt_3b067 2 (some .char), Cond.methodLink RJ1 9 yJ0_checkIndex_df160, Cond.static yJ0_checkIndex_df160, Cond.code yJ0_checkIndex_df160 cJ0_checkIndex_df160 2 none, Cond.fieldLink RJ0 1053 "jdk/internal/util/Preconditions" "SIOOBE_FORMATTER" "Ljava/util/function/BiFunction;", Cond.methodLink RJ0 1059 yJ3_checkIndex_8e157, Cond.static yJ3_checkIndex_8e157, Cond.initialized RJ3, Cond.code yJ3_checkIndex_8e157 cJ3_checkIndex_8e157 3 (some .int), Cond.methodLink RJ0 498 yJ2_charAt_3b067, Cond.static yJ2_charAt_3b067, Cond.initialized RJ2, Cond.code yJ2_charAt_3b067 cJ2_charAt_3b067 2 (some .char), Cond.methodLink RJ2 67 yJ2_checkIndex_2214a, Cond.static yJ2_checkIndex_2214a, Cond.code yJ2_checkIndex_2214a cJ2_checkIndex_2214a 2 none, Cond.methodLink RJ2 48 yJ2_length_9d52b, Cond.static yJ2_length_9d52b, Cond.code yJ2_length_9d52b cJ2_length_9d52b 1 (some .int), Cond.methodLink RJ2 414 yJ0_checkIndex_df160, Cond.methodLink RJ2 71 yJ2_getChar_3b067]
def wsX1_isWord_r3 : List Cond := [Cond.static yJ2_getChar_3b067, Cond.code yJ2_getChar_3b067 cJ2_getChar_3b067 2 (some .char), Cond.fieldLink RJ2 44 "java/lang/StringUTF16" "$assertionsDisabled" "Z", Cond.fieldLink RJ2 59 "java/lang/StringUTF16" "HI_BYTE_SHIFT" "I", Cond.fieldLink RJ2 63 "java/lang/StringUTF16" "LO_BYTE_SHIFT" "I"]
def wsX1_isWord : List Cond := .code yX1_isWord cX1_isWord 3 (some .boolean) :: ((wsX1_isWord_r1 ++ (wsX1_isWord_r2 ++ wsX1_isWord_r3)) ++ wsX10)
def wsX1_keyHere_r1 : List Cond := [Cond.fieldLink RX1 25 "LeaningStreet$Reader" "sort" "I", Cond.methodLink RX1 72 yX1_isWord, Cond.instanceMethod yX1_isWord, Cond.selects RX1 yX1_isWord yX1_isWord, Cond.initialized RX1, Cond.code yX1_isWord cX1_isWord 3 (some .boolean), Cond.fieldLink RX1 22 "LeaningStreet$Reader" "end" "I", Cond.fieldLink RX1 19 "LeaningStreet$Reader" "start" "I", Cond.fieldLink RX1 15 "LeaningStreet$Reader" "many" "I", Cond.fieldLink RX1 9 "LeaningStreet$Reader" "bytes" "[I", Cond.methodLink RX1 76 yJ0_length_8abf5, Cond.instanceMethod yJ0_length_8abf5, Cond.selects RJ0 yJ0_length_8abf5 yJ0_length_8abf5, Cond.initialized RJ0, Cond.code yJ0_length_8abf5 cJ0_length_8abf5 1 (some .int), Cond.fieldLink RJ0 9 "java/lang/String" "value" "[B", Cond.methodLink RJ0 335 yJ0_coder_7d493, Cond.instanceMethod yJ0_coder_7d493, Cond.selects RJ0 yJ0_coder_7d493 yJ0_coder_7d493, Cond.code yJ0_coder_7d493 cJ0_coder_7d493 1 (some .byte), Cond.fieldLink RJ0 38 "java/lang/String" "COMPACT_STRINGS" "Z", Cond.fieldLink RJ0 15 "java/lang/String" "coder" "B", Cond.methodLink RX1 81 yJ0_charAt_5068e, Cond.instanceMethod yJ0_charAt_5068e]
def wsX1_keyHere_r2 : List Cond := [Cond.selects RJ0 yJ0_charAt_5068e yJ0_charAt_5068e, Cond.code yJ0_charAt_5068e cJ0_charAt_5068e 2 (some .char), Cond.methodLink RJ0 492 yJ0_isLatin1_aae02, Cond.instanceMethod yJ0_isLatin1_aae02, Cond.selects RJ0 yJ0_isLatin1_aae02 yJ0_isLatin1_aae02, Cond.code yJ0_isLatin1_aae02 cJ0_isLatin1_aae02 1 (some .boolean), Cond.methodLink RJ0 495 yJ1_charAt_3b067, Cond.static yJ1_charAt_3b067, Cond.initialized RJ1, Cond.code yJ1_charAt_3b067 cJ1_charAt_3b067 2 (some .char), Cond.methodLink RJ1 9 yJ0_checkIndex_df160, Cond.static yJ0_checkIndex_df160, Cond.code yJ0_checkIndex_df160 cJ0_checkIndex_df160 2 none, Cond.fieldLink RJ0 1053 "jdk/internal/util/Preconditions" "SIOOBE_FORMATTER" "Ljava/util/function/BiFunction;", Cond.methodLink RJ0 1059 yJ3_checkIndex_8e157, Cond.static yJ3_checkIndex_8e157, Cond.initialized RJ3, Cond.code yJ3_checkIndex_8e157 cJ3_checkIndex_8e157 3 (some .int), Cond.methodLink RJ0 498 yJ2_charAt_3b067, Cond.static yJ2_charAt_3b067, Cond.initialized RJ2, Cond.code yJ2_charAt_3b067 cJ2_charAt_3b067 2 (some .char), Cond.methodLink RJ2 67 yJ2_checkIndex_2214a, Cond.static yJ2_checkIndex_2214a]
def wsX1_keyHere_r3 : List Cond := [Cond.code yJ2_checkIndex_2214a cJ2_checkIndex_2214a 2 none, Cond.methodLink RJ2 48 yJ2_length_9d52b, Cond.static yJ2_length_9d52b, Cond.code yJ2_length_9d52b cJ2_length_9d52b 1 (some .int), Cond.methodLink RJ2 414 yJ0_checkIndex_df160, Cond.methodLink RJ2 71 yJ2_getChar_3b067, Cond.static yJ2_getChar_3b067, Cond.code yJ2_getChar_3b067 cJ2_getChar_3b067 2 (some .char), Cond.fieldLink RJ2 44 "java/lang/StringUTF16" "$assertionsDisabled" "Z", Cond.fieldLink RJ2 59 "java/lang/StringUTF16" "HI_BYTE_SHIFT" "I", Cond.fieldLink RJ2 63 "java/lang/StringUTF16" "LO_BYTE_SHIFT" "I"]
def wsX1_keyHere : List Cond := .code yX1_keyHere cX1_keyHere 2 (some .int) :: ((wsX1_keyHere_r1 ++ (wsX1_keyHere_r2 ++ wsX1_keyHere_r3)) ++ wsX10)
def wsX1_isAt : List Cond := .code yX1_isAt cX1_isAt 2 (some .boolean) :: ([.fieldLink RX1 25 "LeaningStreet$Reader" "sort" "I", .fieldLink RX1 19 "LeaningStreet$Reader" "start" "I", .fieldLink RX1 15 "LeaningStreet$Reader" "many" "I", .fieldLink RX1 9 "LeaningStreet$Reader" "bytes" "[I"] ++ wsX10)
def wsX1_passed : List Cond := .code yX1_passed cX1_passed 4 (some .int) :: ([.methodLink RX1 85 yX1_isAt, .instanceMethod yX1_isAt, .selects RX1 yX1_isAt yX1_isAt, .initialized RX1, .code yX1_isAt cX1_isAt 2 (some .boolean), .fieldLink RX1 25 "LeaningStreet$Reader" "sort" "I", .fieldLink RX1 19 "LeaningStreet$Reader" "start" "I", .fieldLink RX1 15 "LeaningStreet$Reader" "many" "I", .fieldLink RX1 9 "LeaningStreet$Reader" "bytes" "[I", .methodLink RX1 40 yX1_goNext, .instanceMethod yX1_goNext, .selects RX1 yX1_goNext yX1_goNext, .code yX1_goNext cX1_goNext 3 none, .fieldLink RX1 22 "LeaningStreet$Reader" "end" "I", .methodLink RX1 62 yX1_sortOf, .static yX1_sortOf, .code yX1_sortOf cX1_sortOf 1 (some .int)] ++ wsX10)
def wsX1_write : List Cond := .code yX1_write cX1_write 2 none :: ([.fieldLink RX1 34 "LeaningStreet$Reader" "steps" "I", .fieldLink RX1 31 "LeaningStreet$Reader" "code" "[I"] ++ wsX10)
def wsX1_takePiece : List Cond := .code yX1_takePiece cX1_takePiece 2 (some .boolean) :: ([.fieldLink RX1 37 "LeaningStreet$Reader" "pieces" "I", .methodLink RX1 96 yX1_write, .instanceMethod yX1_write, .selects RX1 yX1_write yX1_write, .initialized RX1, .code yX1_write cX1_write 2 none, .fieldLink RX1 34 "LeaningStreet$Reader" "steps" "I", .fieldLink RX1 31 "LeaningStreet$Reader" "code" "[I", .methodLink RX1 40 yX1_goNext, .instanceMethod yX1_goNext, .selects RX1 yX1_goNext yX1_goNext, .code yX1_goNext cX1_goNext 3 none, .fieldLink RX1 25 "LeaningStreet$Reader" "sort" "I", .fieldLink RX1 22 "LeaningStreet$Reader" "end" "I", .fieldLink RX1 19 "LeaningStreet$Reader" "start" "I", .fieldLink RX1 15 "LeaningStreet$Reader" "many" "I", .fieldLink RX1 9 "LeaningStreet$Reader" "bytes" "[I", .methodLink RX1 62 yX1_sortOf, .static yX1_sortOf, .code yX1_sortOf cX1_sortOf 1 (some .int)] ++ wsX10)
def wsX1_isNumber : List Cond := .code yX1_isNumber cX1_isNumber 3 (some .boolean) :: ([.fieldLink RX1 22 "LeaningStreet$Reader" "end" "I", .fieldLink RX1 19 "LeaningStreet$Reader" "start" "I", .fieldLink RX1 9 "LeaningStreet$Reader" "bytes" "[I", .methodLink RX1 119 yX1_takePiece, .instanceMethod yX1_takePiece, .selects RX1 yX1_takePiece yX1_takePiece, .initialized RX1, .code yX1_takePiece cX1_takePiece 2 (some .boolean), .fieldLink RX1 37 "LeaningStreet$Reader" "pieces" "I", .methodLink RX1 96 yX1_write, .instanceMethod yX1_write, .selects RX1 yX1_write yX1_write, .code yX1_write cX1_write 2 none, .fieldLink RX1 34 "LeaningStreet$Reader" "steps" "I", .fieldLink RX1 31 "LeaningStreet$Reader" "code" "[I", .methodLink RX1 40 yX1_goNext, .instanceMethod yX1_goNext, .selects RX1 yX1_goNext yX1_goNext, .code yX1_goNext cX1_goNext 3 none, .fieldLink RX1 25 "LeaningStreet$Reader" "sort" "I", .fieldLink RX1 15 "LeaningStreet$Reader" "many" "I", .methodLink RX1 62 yX1_sortOf, .static yX1_sortOf, .code yX1_sortOf cX1_sortOf 1 (some .int)] ++ wsX10)
def wsJ1_canEncode_9a6ad : List Cond := .code yJ1_canEncode_9a6ad cJ1_canEncode_9a6ad 1 (some .boolean) :: ([])
def wsJ1_indexOfChar_4cfef : List Cond := .code yJ1_indexOfChar_4cfef cJ1_indexOfChar_4cfef 6 (some .int) :: ([])
def wsJ1_indexOf_4cfef : List Cond := .code yJ1_indexOf_4cfef cJ1_indexOf_4cfef 4 (some .int) :: ([.methodLink RJ1 92 Lib.Math.max.name, .static Lib.Math.max.name, .initialized "java/lang/Math", .code Lib.Math.max.name Lib.Math.max.code 2 (some .int), .methodLink RJ1 38 Lib.Math.min.name, .static Lib.Math.min.name, .code Lib.Math.min.name Lib.Math.min.code 2 (some .int), .methodLink RJ1 88 yJ1_canEncode_9a6ad, .static yJ1_canEncode_9a6ad, .initialized RJ1, .code yJ1_canEncode_9a6ad cJ1_canEncode_9a6ad 1 (some .boolean), .methodLink RJ1 95 yJ1_indexOfChar_4cfef, .static yJ1_indexOfChar_4cfef, .code yJ1_indexOfChar_4cfef cJ1_indexOfChar_4cfef 6 (some .int)])
def wsJ3_checkFromToIndex_8c36e : List Cond := .code yJ3_checkFromToIndex_8c36e cJ3_checkFromToIndex_8c36e 4 (some .int) :: ([])
def wsJ0_checkBoundsBeginEnd_23922 : List Cond := .code yJ0_checkBoundsBeginEnd_23922 cJ0_checkBoundsBeginEnd_23922 3 none :: ([.fieldLink RJ0 1053 "jdk/internal/util/Preconditions" "SIOOBE_FORMATTER" "Ljava/util/function/BiFunction;", .methodLink RJ0 1062 yJ3_checkFromToIndex_8c36e, .static yJ3_checkFromToIndex_8c36e, .initialized RJ3, .code yJ3_checkFromToIndex_8c36e cJ3_checkFromToIndex_8c36e 4 (some .int)])
def wsJ2_checkBoundsBeginEnd_d044e : List Cond := .code yJ2_checkBoundsBeginEnd_d044e cJ2_checkBoundsBeginEnd_d044e 3 none :: ([.methodLink RJ2 48 yJ2_length_9d52b, .static yJ2_length_9d52b, .initialized RJ2, .code yJ2_length_9d52b cJ2_length_9d52b 1 (some .int), .methodLink RJ2 241 yJ0_checkBoundsBeginEnd_23922, .static yJ0_checkBoundsBeginEnd_23922, .initialized RJ0, .code yJ0_checkBoundsBeginEnd_23922 cJ0_checkBoundsBeginEnd_23922 3 none, .fieldLink RJ0 1053 "jdk/internal/util/Preconditions" "SIOOBE_FORMATTER" "Ljava/util/function/BiFunction;", .methodLink RJ0 1062 yJ3_checkFromToIndex_8c36e, .static yJ3_checkFromToIndex_8c36e, .initialized RJ3, .code yJ3_checkFromToIndex_8c36e cJ3_checkFromToIndex_8c36e 4 (some .int)])
def wsJ2_indexOfCharUnsafe_4cfef : List Cond := .code yJ2_indexOfCharUnsafe_4cfef cJ2_indexOfCharUnsafe_4cfef 5 (some .int) :: ([.methodLink RJ2 71 yJ2_getChar_3b067, .static yJ2_getChar_3b067, .initialized RJ2, .code yJ2_getChar_3b067 cJ2_getChar_3b067 2 (some .char), .fieldLink RJ2 44 "java/lang/StringUTF16" "$assertionsDisabled" "Z", .fieldLink RJ2 59 "java/lang/StringUTF16" "HI_BYTE_SHIFT" "I", .fieldLink RJ2 63 "java/lang/StringUTF16" "LO_BYTE_SHIFT" "I", .methodLink RJ2 48 yJ2_length_9d52b, .static yJ2_length_9d52b, .code yJ2_length_9d52b cJ2_length_9d52b 1 (some .int)])
def wsJ2_indexOfChar_4cfef_r1 : List Cond := [Cond.methodLink RJ2 96 yJ2_checkBoundsBeginEnd_d044e, Cond.static yJ2_checkBoundsBeginEnd_d044e, Cond.initialized RJ2, Cond.code yJ2_checkBoundsBeginEnd_d044e cJ2_checkBoundsBeginEnd_d044e 3 none, Cond.methodLink RJ2 48 yJ2_length_9d52b, Cond.static yJ2_length_9d52b, Cond.code yJ2_length_9d52b cJ2_length_9d52b 1 (some .int), Cond.methodLink RJ2 241 yJ0_checkBoundsBeginEnd_23922, Cond.static yJ0_checkBoundsBeginEnd_23922, Cond.initialized RJ0, Cond.code yJ0_checkBoundsBeginEnd_23922 cJ0_checkBoundsBeginEnd_23922 3 none, Cond.fieldLink RJ0 1053 "jdk/internal/util/Preconditions" "SIOOBE_FORMATTER" "Ljava/util/function/BiFunction;", Cond.methodLink RJ0 1062 yJ3_checkFromToIndex_8c36e, Cond.static yJ3_checkFromToIndex_8c36e, Cond.initialized RJ3, Cond.code yJ3_checkFromToIndex_8c36e cJ3_checkFromToIndex_8c36e 4 (some .int), Cond.methodLink RJ2 244 yJ2_indexOfCharUnsafe_4cfef, Cond.static yJ2_indexOfCharUnsafe_4cfef, Cond.code yJ2_indexOfCharUnsafe_4cfef cJ2_indexOfCharUnsafe_4cfef 5 (some .int), Cond.methodLink RJ2 71 yJ2_getChar_3b067, Cond.static yJ2_getChar_3b067, Cond.code yJ2_getChar_3b067 cJ2_getChar_3b067 2 (some .char), Cond.fieldLink RJ2 44 "java/lang/StringUTF16" "$assertionsDisabled" "Z", Cond.fieldLink RJ2 59 "java/lang/StringUTF16" "HI_BYTE_SHIFT" "I"]
def wsJ2_indexOfChar_4cfef_r2 : List Cond := [Cond.fieldLink RJ2 63 "java/lang/StringUTF16" "LO_BYTE_SHIFT" "I"]
def wsJ2_indexOfChar_4cfef : List Cond := .code yJ2_indexOfChar_4cfef cJ2_indexOfChar_4cfef 4 (some .int) :: ((wsJ2_indexOfChar_4cfef_r1 ++ wsJ2_indexOfChar_4cfef_r2))
def wsJ11_isValidCodePoint_9a6ad : List Cond := .code yJ11_isValidCodePoint_9a6ad cJ11_isValidCodePoint_9a6ad 2 (some .boolean) :: ([])
def wsJ11_highSurrogate_5068e : List Cond := .code yJ11_highSurrogate_5068e cJ11_highSurrogate_5068e 1 (some .char) :: ([.constant RJ11 110 (55232)])
def wsJ11_lowSurrogate_5068e : List Cond := .code yJ11_lowSurrogate_5068e cJ11_lowSurrogate_5068e 1 (some .char) :: ([.constant RJ11 76 (56320)])
def wsJ2_indexOfSupplementary_4cfef_r1 : List Cond := [Cond.methodLink RJ2 164 yJ11_isValidCodePoint_9a6ad, Cond.static yJ11_isValidCodePoint_9a6ad, Cond.initialized RJ11, Cond.code yJ11_isValidCodePoint_9a6ad cJ11_isValidCodePoint_9a6ad 2 (some .boolean), Cond.methodLink RJ2 157 yJ11_highSurrogate_5068e, Cond.static yJ11_highSurrogate_5068e, Cond.code yJ11_highSurrogate_5068e cJ11_highSurrogate_5068e 1 (some .char), Cond.constant RJ11 110 (55232), Cond.methodLink RJ2 161 yJ11_lowSurrogate_5068e, Cond.static yJ11_lowSurrogate_5068e, Cond.code yJ11_lowSurrogate_5068e cJ11_lowSurrogate_5068e 1 (some .char), Cond.constant RJ11 76 (56320), Cond.methodLink RJ2 96 yJ2_checkBoundsBeginEnd_d044e, Cond.static yJ2_checkBoundsBeginEnd_d044e, Cond.initialized RJ2, Cond.code yJ2_checkBoundsBeginEnd_d044e cJ2_checkBoundsBeginEnd_d044e 3 none, Cond.methodLink RJ2 48 yJ2_length_9d52b, Cond.static yJ2_length_9d52b, Cond.code yJ2_length_9d52b cJ2_length_9d52b 1 (some .int), Cond.methodLink RJ2 241 yJ0_checkBoundsBeginEnd_23922, Cond.static yJ0_checkBoundsBeginEnd_23922, Cond.initialized RJ0, Cond.code yJ0_checkBoundsBeginEnd_23922 cJ0_checkBoundsBeginEnd_23922 3 none, Cond.fieldLink RJ0 1053 "jdk/internal/util/Preconditions" "SIOOBE_FORMATTER" "Ljava/util/function/BiFunction;"]
def wsJ2_indexOfSupplementary_4cfef_r2 : List Cond := [Cond.methodLink RJ0 1062 yJ3_checkFromToIndex_8c36e, Cond.static yJ3_checkFromToIndex_8c36e, Cond.initialized RJ3, Cond.code yJ3_checkFromToIndex_8c36e cJ3_checkFromToIndex_8c36e 4 (some .int), Cond.methodLink RJ2 71 yJ2_getChar_3b067, Cond.static yJ2_getChar_3b067, Cond.code yJ2_getChar_3b067 cJ2_getChar_3b067 2 (some .char), Cond.fieldLink RJ2 44 "java/lang/StringUTF16" "$assertionsDisabled" "Z", Cond.fieldLink RJ2 59 "java/lang/StringUTF16" "HI_BYTE_SHIFT" "I", Cond.fieldLink RJ2 63 "java/lang/StringUTF16" "LO_BYTE_SHIFT" "I"]
def wsJ2_indexOfSupplementary_4cfef : List Cond := .code yJ2_indexOfSupplementary_4cfef cJ2_indexOfSupplementary_4cfef 7 (some .int) :: ((wsJ2_indexOfSupplementary_4cfef_r1 ++ wsJ2_indexOfSupplementary_4cfef_r2))
def wsJ2_indexOf_4cfef_r1 : List Cond := [Cond.methodLink RJ2 224 Lib.Math.max.name, Cond.static Lib.Math.max.name, Cond.initialized "java/lang/Math", Cond.code Lib.Math.max.name Lib.Math.max.code 2 (some .int), Cond.methodLink RJ2 183 Lib.Math.min.name, Cond.static Lib.Math.min.name, Cond.code Lib.Math.min.name Lib.Math.min.code 2 (some .int), Cond.constant RJ2 227 (65536), Cond.methodLink RJ2 228 yJ2_indexOfChar_4cfef, Cond.static yJ2_indexOfChar_4cfef, Cond.initialized RJ2, Cond.code yJ2_indexOfChar_4cfef cJ2_indexOfChar_4cfef 4 (some .int), Cond.methodLink RJ2 96 yJ2_checkBoundsBeginEnd_d044e, Cond.static yJ2_checkBoundsBeginEnd_d044e, Cond.code yJ2_checkBoundsBeginEnd_d044e cJ2_checkBoundsBeginEnd_d044e 3 none, Cond.methodLink RJ2 48 yJ2_length_9d52b, Cond.static yJ2_length_9d52b, Cond.code yJ2_length_9d52b cJ2_length_9d52b 1 (some .int), Cond.methodLink RJ2 241 yJ0_checkBoundsBeginEnd_23922, Cond.static yJ0_checkBoundsBeginEnd_23922, Cond.initialized RJ0, Cond.code yJ0_checkBoundsBeginEnd_23922 cJ0_checkBoundsBeginEnd_23922 3 none, Cond.fieldLink RJ0 1053 "jdk/internal/util/Preconditions" "SIOOBE_FORMATTER" "Ljava/util/function/BiFunction;", Cond.methodLink RJ0 1062 yJ3_checkFromToIndex_8c36e]
def wsJ2_indexOf_4cfef_r2 : List Cond := [Cond.static yJ3_checkFromToIndex_8c36e, Cond.initialized RJ3, Cond.code yJ3_checkFromToIndex_8c36e cJ3_checkFromToIndex_8c36e 4 (some .int), Cond.methodLink RJ2 244 yJ2_indexOfCharUnsafe_4cfef, Cond.static yJ2_indexOfCharUnsafe_4cfef, Cond.code yJ2_indexOfCharUnsafe_4cfef cJ2_indexOfCharUnsafe_4cfef 5 (some .int), Cond.methodLink RJ2 71 yJ2_getChar_3b067, Cond.static yJ2_getChar_3b067, Cond.code yJ2_getChar_3b067 cJ2_getChar_3b067 2 (some .char), Cond.fieldLink RJ2 44 "java/lang/StringUTF16" "$assertionsDisabled" "Z", Cond.fieldLink RJ2 59 "java/lang/StringUTF16" "HI_BYTE_SHIFT" "I", Cond.fieldLink RJ2 63 "java/lang/StringUTF16" "LO_BYTE_SHIFT" "I", Cond.methodLink RJ2 232 yJ2_indexOfSupplementary_4cfef, Cond.static yJ2_indexOfSupplementary_4cfef, Cond.code yJ2_indexOfSupplementary_4cfef cJ2_indexOfSupplementary_4cfef 7 (some .int), Cond.methodLink RJ2 164 yJ11_isValidCodePoint_9a6ad, Cond.static yJ11_isValidCodePoint_9a6ad, Cond.initialized RJ11, Cond.code yJ11_isValidCodePoint_9a6ad cJ11_isValidCodePoint_9a6ad 2 (some .boolean), Cond.methodLink RJ2 157 yJ11_highSurrogate_5068e, Cond.static yJ11_highSurrogate_5068e, Cond.code yJ11_highSurrogate_5068e cJ11_highSurrogate_5068e 1 (some .char), Cond.constant RJ11 110 (55232), Cond.methodLink RJ2 161 yJ11_lowSurrogate_5068e]
def wsJ2_indexOf_4cfef_r3 : List Cond := [Cond.static yJ11_lowSurrogate_5068e, Cond.code yJ11_lowSurrogate_5068e cJ11_lowSurrogate_5068e 1 (some .char), Cond.constant RJ11 76 (56320)]
def wsJ2_indexOf_4cfef : List Cond := .code yJ2_indexOf_4cfef cJ2_indexOf_4cfef 4 (some .int) :: ((wsJ2_indexOf_4cfef_r1 ++ (wsJ2_indexOf_4cfef_r2 ++ wsJ2_indexOf_4cfef_r3)))
def wsJ0_indexOf_7cf53_r1 : List Cond := [Cond.fieldLink RJ0 9 "java/lang/String" "value" "[B", Cond.methodLink RJ0 492 yJ0_isLatin1_aae02, Cond.instanceMethod yJ0_isLatin1_aae02, Cond.selects RJ0 yJ0_isLatin1_aae02 yJ0_isLatin1_aae02, Cond.initialized RJ0, Cond.code yJ0_isLatin1_aae02 cJ0_isLatin1_aae02 1 (some .boolean), Cond.fieldLink RJ0 38 "java/lang/String" "COMPACT_STRINGS" "Z", Cond.fieldLink RJ0 15 "java/lang/String" "coder" "B", Cond.methodLink RJ0 505 yJ0_length_8abf5, Cond.instanceMethod yJ0_length_8abf5, Cond.selects RJ0 yJ0_length_8abf5 yJ0_length_8abf5, Cond.code yJ0_length_8abf5 cJ0_length_8abf5 1 (some .int), Cond.methodLink RJ0 335 yJ0_coder_7d493, Cond.instanceMethod yJ0_coder_7d493, Cond.selects RJ0 yJ0_coder_7d493 yJ0_coder_7d493, Cond.code yJ0_coder_7d493 cJ0_coder_7d493 1 (some .byte), Cond.methodLink RJ0 637 yJ1_indexOf_4cfef, Cond.static yJ1_indexOf_4cfef, Cond.initialized RJ1, Cond.code yJ1_indexOf_4cfef cJ1_indexOf_4cfef 4 (some .int), Cond.methodLink RJ1 92 Lib.Math.max.name, Cond.static Lib.Math.max.name, Cond.initialized "java/lang/Math", Cond.code Lib.Math.max.name Lib.Math.max.code 2 (some .int)]
def wsJ0_indexOf_7cf53_r2 : List Cond := [Cond.methodLink RJ1 38 Lib.Math.min.name, Cond.static Lib.Math.min.name, Cond.code Lib.Math.min.name Lib.Math.min.code 2 (some .int), Cond.methodLink RJ1 88 yJ1_canEncode_9a6ad, Cond.static yJ1_canEncode_9a6ad, Cond.code yJ1_canEncode_9a6ad cJ1_canEncode_9a6ad 1 (some .boolean), Cond.methodLink RJ1 95 yJ1_indexOfChar_4cfef, Cond.static yJ1_indexOfChar_4cfef, Cond.code yJ1_indexOfChar_4cfef cJ1_indexOfChar_4cfef 6 (some .int), Cond.methodLink RJ0 640 yJ2_indexOf_4cfef, Cond.static yJ2_indexOf_4cfef, Cond.initialized RJ2, Cond.code yJ2_indexOf_4cfef cJ2_indexOf_4cfef 4 (some .int), Cond.methodLink RJ2 224 Lib.Math.max.name, Cond.methodLink RJ2 183 Lib.Math.min.name, Cond.constant RJ2 227 (65536), Cond.methodLink RJ2 228 yJ2_indexOfChar_4cfef, Cond.static yJ2_indexOfChar_4cfef, Cond.code yJ2_indexOfChar_4cfef cJ2_indexOfChar_4cfef 4 (some .int), Cond.methodLink RJ2 96 yJ2_checkBoundsBeginEnd_d044e, Cond.static yJ2_checkBoundsBeginEnd_d044e, Cond.code yJ2_checkBoundsBeginEnd_d044e cJ2_checkBoundsBeginEnd_d044e 3 none, Cond.methodLink RJ2 48 yJ2_length_9d52b, Cond.static yJ2_length_9d52b]
def wsJ0_indexOf_7cf53_r3 : List Cond := [Cond.code yJ2_length_9d52b cJ2_length_9d52b 1 (some .int), Cond.methodLink RJ2 241 yJ0_checkBoundsBeginEnd_23922, Cond.static yJ0_checkBoundsBeginEnd_23922, Cond.code yJ0_checkBoundsBeginEnd_23922 cJ0_checkBoundsBeginEnd_23922 3 none, Cond.fieldLink RJ0 1053 "jdk/internal/util/Preconditions" "SIOOBE_FORMATTER" "Ljava/util/function/BiFunction;", Cond.methodLink RJ0 1062 yJ3_checkFromToIndex_8c36e, Cond.static yJ3_checkFromToIndex_8c36e, Cond.initialized RJ3, Cond.code yJ3_checkFromToIndex_8c36e cJ3_checkFromToIndex_8c36e 4 (some .int), Cond.methodLink RJ2 244 yJ2_indexOfCharUnsafe_4cfef, Cond.static yJ2_indexOfCharUnsafe_4cfef, Cond.code yJ2_indexOfCharUnsafe_4cfef cJ2_indexOfCharUnsafe_4cfef 5 (some .int), Cond.methodLink RJ2 71 yJ2_getChar_3b067, Cond.static yJ2_getChar_3b067, Cond.code yJ2_getChar_3b067 cJ2_getChar_3b067 2 (some .char), Cond.fieldLink RJ2 44 "java/lang/StringUTF16" "$assertionsDisabled" "Z", Cond.fieldLink RJ2 59 "java/lang/StringUTF16" "HI_BYTE_SHIFT" "I", Cond.fieldLink RJ2 63 "java/lang/StringUTF16" "LO_BYTE_SHIFT" "I", Cond.methodLink RJ2 232 yJ2_indexOfSupplementary_4cfef, Cond.static yJ2_indexOfSupplementary_4cfef, Cond.code yJ2_indexOfSupplementary_4cfef cJ2_indexOfSupplementary_4cfef 7 (some .int), Cond.methodLink RJ2 164 yJ11_isValidCodePoint_9a6ad, Cond.static yJ11_isValidCodePoint_9a6ad, Cond.initialized RJ11]
def wsJ0_indexOf_7cf53_r4 : List Cond := [Cond.code yJ11_isValidCodePoint_9a6ad cJ11_isValidCodePoint_9a6ad 2 (some .boolean), Cond.methodLink RJ2 157 yJ11_highSurrogate_5068e, Cond.static yJ11_highSurrogate_5068e, Cond.code yJ11_highSurrogate_5068e cJ11_highSurrogate_5068e 1 (some .char), Cond.constant RJ11 110 (55232), Cond.methodLink RJ2 161 yJ11_lowSurrogate_5068e, Cond.static yJ11_lowSurrogate_5068e, Cond.code yJ11_lowSurrogate_5068e cJ11_lowSurrogate_5068e 1 (some .char), Cond.constant RJ11 76 (56320)]
def wsJ0_indexOf_7cf53 : List Cond := .code yJ0_indexOf_7cf53 cJ0_indexOf_7cf53 3 (some .int) :: ((wsJ0_indexOf_7cf53_r1 ++ (wsJ0_indexOf_7cf53_r2 ++ (wsJ0_indexOf_7cf53_r3 ++ wsJ0_indexOf_7cf53_r4))))
def wsJ0_indexOf_0f7a4_r1 : List Cond := [Cond.methodLink RJ0 633 yJ0_indexOf_7cf53, Cond.instanceMethod yJ0_indexOf_7cf53, Cond.selects RJ0 yJ0_indexOf_7cf53 yJ0_indexOf_7cf53, Cond.initialized RJ0, Cond.code yJ0_indexOf_7cf53 cJ0_indexOf_7cf53 3 (some .int), Cond.fieldLink RJ0 9 "java/lang/String" "value" "[B", Cond.methodLink RJ0 492 yJ0_isLatin1_aae02, Cond.instanceMethod yJ0_isLatin1_aae02, Cond.selects RJ0 yJ0_isLatin1_aae02 yJ0_isLatin1_aae02, Cond.code yJ0_isLatin1_aae02 cJ0_isLatin1_aae02 1 (some .boolean), Cond.fieldLink RJ0 38 "java/lang/String" "COMPACT_STRINGS" "Z", Cond.fieldLink RJ0 15 "java/lang/String" "coder" "B", Cond.methodLink RJ0 505 yJ0_length_8abf5, Cond.instanceMethod yJ0_length_8abf5, Cond.selects RJ0 yJ0_length_8abf5 yJ0_length_8abf5, Cond.code yJ0_length_8abf5 cJ0_length_8abf5 1 (some .int), Cond.methodLink RJ0 335 yJ0_coder_7d493, Cond.instanceMethod yJ0_coder_7d493, Cond.selects RJ0 yJ0_coder_7d493 yJ0_coder_7d493, Cond.code yJ0_coder_7d493 cJ0_coder_7d493 1 (some .byte), Cond.methodLink RJ0 637 yJ1_indexOf_4cfef, Cond.static yJ1_indexOf_4cfef, Cond.initialized RJ1, Cond.code yJ1_indexOf_4cfef cJ1_indexOf_4cfef 4 (some .int)]
def wsJ0_indexOf_0f7a4_r2 : List Cond := [Cond.methodLink RJ1 92 Lib.Math.max.name, Cond.static Lib.Math.max.name, Cond.initialized "java/lang/Math", Cond.code Lib.Math.max.name Lib.Math.max.code 2 (some .int), Cond.methodLink RJ1 38 Lib.Math.min.name, Cond.static Lib.Math.min.name, Cond.code Lib.Math.min.name Lib.Math.min.code 2 (some .int), Cond.methodLink RJ1 88 yJ1_canEncode_9a6ad, Cond.static yJ1_canEncode_9a6ad, Cond.code yJ1_canEncode_9a6ad cJ1_canEncode_9a6ad 1 (some .boolean), Cond.methodLink RJ1 95 yJ1_indexOfChar_4cfef, Cond.static yJ1_indexOfChar_4cfef, Cond.code yJ1_indexOfChar_4cfef cJ1_indexOfChar_4cfef 6 (some .int), Cond.methodLink RJ0 640 yJ2_indexOf_4cfef, Cond.static yJ2_indexOf_4cfef, Cond.initialized RJ2, Cond.code yJ2_indexOf_4cfef cJ2_indexOf_4cfef 4 (some .int), Cond.methodLink RJ2 224 Lib.Math.max.name, Cond.methodLink RJ2 183 Lib.Math.min.name, Cond.constant RJ2 227 (65536), Cond.methodLink RJ2 228 yJ2_indexOfChar_4cfef, Cond.static yJ2_indexOfChar_4cfef, Cond.code yJ2_indexOfChar_4cfef cJ2_indexOfChar_4cfef 4 (some .int), Cond.methodLink RJ2 96 yJ2_checkBoundsBeginEnd_d044e]
def wsJ0_indexOf_0f7a4_r3 : List Cond := [Cond.static yJ2_checkBoundsBeginEnd_d044e, Cond.code yJ2_checkBoundsBeginEnd_d044e cJ2_checkBoundsBeginEnd_d044e 3 none, Cond.methodLink RJ2 48 yJ2_length_9d52b, Cond.static yJ2_length_9d52b, Cond.code yJ2_length_9d52b cJ2_length_9d52b 1 (some .int), Cond.methodLink RJ2 241 yJ0_checkBoundsBeginEnd_23922, Cond.static yJ0_checkBoundsBeginEnd_23922, Cond.code yJ0_checkBoundsBeginEnd_23922 cJ0_checkBoundsBeginEnd_23922 3 none, Cond.fieldLink RJ0 1053 "jdk/internal/util/Preconditions" "SIOOBE_FORMATTER" "Ljava/util/function/BiFunction;", Cond.methodLink RJ0 1062 yJ3_checkFromToIndex_8c36e, Cond.static yJ3_checkFromToIndex_8c36e, Cond.initialized RJ3, Cond.code yJ3_checkFromToIndex_8c36e cJ3_checkFromToIndex_8c36e 4 (some .int), Cond.methodLink RJ2 244 yJ2_indexOfCharUnsafe_4cfef, Cond.static yJ2_indexOfCharUnsafe_4cfef, Cond.code yJ2_indexOfCharUnsafe_4cfef cJ2_indexOfCharUnsafe_4cfef 5 (some .int), Cond.methodLink RJ2 71 yJ2_getChar_3b067, Cond.static yJ2_getChar_3b067, Cond.code yJ2_getChar_3b067 cJ2_getChar_3b067 2 (some .char), Cond.fieldLink RJ2 44 "java/lang/StringUTF16" "$assertionsDisabled" "Z", Cond.fieldLink RJ2 59 "java/lang/StringUTF16" "HI_BYTE_SHIFT" "I", Cond.fieldLink RJ2 63 "java/lang/StringUTF16" "LO_BYTE_SHIFT" "I", Cond.methodLink RJ2 232 yJ2_indexOfSupplementary_4cfef, Cond.static yJ2_indexOfSupplementary_4cfef]
def wsJ0_indexOf_0f7a4_r4 : List Cond := [Cond.code yJ2_indexOfSupplementary_4cfef cJ2_indexOfSupplementary_4cfef 7 (some .int), Cond.methodLink RJ2 164 yJ11_isValidCodePoint_9a6ad, Cond.static yJ11_isValidCodePoint_9a6ad, Cond.initialized RJ11, Cond.code yJ11_isValidCodePoint_9a6ad cJ11_isValidCodePoint_9a6ad 2 (some .boolean), Cond.methodLink RJ2 157 yJ11_highSurrogate_5068e, Cond.static yJ11_highSurrogate_5068e, Cond.code yJ11_highSurrogate_5068e cJ11_highSurrogate_5068e 1 (some .char), Cond.constant RJ11 110 (55232), Cond.methodLink RJ2 161 yJ11_lowSurrogate_5068e, Cond.static yJ11_lowSurrogate_5068e, Cond.code yJ11_lowSurrogate_5068e cJ11_lowSurrogate_5068e 1 (some .char), Cond.constant RJ11 76 (56320)]
def wsJ0_indexOf_0f7a4 : List Cond := .code yJ0_indexOf_0f7a4 cJ0_indexOf_0f7a4 2 (some .int) :: ((wsJ0_indexOf_0f7a4_r1 ++ (wsJ0_indexOf_0f7a4_r2 ++ (wsJ0_indexOf_0f7a4_r3 ++ wsJ0_indexOf_0f7a4_r4))))
def wsX1_isName_r1 : List Cond := [Cond.fieldLink RX1 28 "LeaningStreet$Reader" "key" "I", Cond.fieldLink RX1 22 "LeaningStreet$Reader" "end" "I", Cond.fieldLink RX1 19 "LeaningStreet$Reader" "start" "I", Cond.fieldLink RX1 9 "LeaningStreet$Reader" "bytes" "[I", Cond.methodLink RX1 129 yJ0_indexOf_0f7a4, Cond.instanceMethod yJ0_indexOf_0f7a4, Cond.selects RJ0 yJ0_indexOf_0f7a4 yJ0_indexOf_0f7a4, Cond.initialized RJ0, Cond.code yJ0_indexOf_0f7a4 cJ0_indexOf_0f7a4 2 (some .int), Cond.methodLink RJ0 633 yJ0_indexOf_7cf53, Cond.instanceMethod yJ0_indexOf_7cf53, Cond.selects RJ0 yJ0_indexOf_7cf53 yJ0_indexOf_7cf53, Cond.code yJ0_indexOf_7cf53 cJ0_indexOf_7cf53 3 (some .int), Cond.fieldLink RJ0 9 "java/lang/String" "value" "[B", Cond.methodLink RJ0 492 yJ0_isLatin1_aae02, Cond.instanceMethod yJ0_isLatin1_aae02, Cond.selects RJ0 yJ0_isLatin1_aae02 yJ0_isLatin1_aae02, Cond.code yJ0_isLatin1_aae02 cJ0_isLatin1_aae02 1 (some .boolean), Cond.fieldLink RJ0 38 "java/lang/String" "COMPACT_STRINGS" "Z", Cond.fieldLink RJ0 15 "java/lang/String" "coder" "B", Cond.methodLink RJ0 505 yJ0_length_8abf5, Cond.instanceMethod yJ0_length_8abf5, Cond.selects RJ0 yJ0_length_8abf5 yJ0_length_8abf5, Cond.code yJ0_length_8abf5 cJ0_length_8abf5 1 (some .int)]
def wsX1_isName_r2 : List Cond := [Cond.methodLink RJ0 335 yJ0_coder_7d493, Cond.instanceMethod yJ0_coder_7d493, Cond.selects RJ0 yJ0_coder_7d493 yJ0_coder_7d493, Cond.code yJ0_coder_7d493 cJ0_coder_7d493 1 (some .byte), Cond.methodLink RJ0 637 yJ1_indexOf_4cfef, Cond.static yJ1_indexOf_4cfef, Cond.initialized RJ1, Cond.code yJ1_indexOf_4cfef cJ1_indexOf_4cfef 4 (some .int), Cond.methodLink RJ1 92 Lib.Math.max.name, Cond.static Lib.Math.max.name, Cond.initialized "java/lang/Math", Cond.code Lib.Math.max.name Lib.Math.max.code 2 (some .int), Cond.methodLink RJ1 38 Lib.Math.min.name, Cond.static Lib.Math.min.name, Cond.code Lib.Math.min.name Lib.Math.min.code 2 (some .int), Cond.methodLink RJ1 88 yJ1_canEncode_9a6ad, Cond.static yJ1_canEncode_9a6ad, Cond.code yJ1_canEncode_9a6ad cJ1_canEncode_9a6ad 1 (some .boolean), Cond.methodLink RJ1 95 yJ1_indexOfChar_4cfef, Cond.static yJ1_indexOfChar_4cfef, Cond.code yJ1_indexOfChar_4cfef cJ1_indexOfChar_4cfef 6 (some .int), Cond.methodLink RJ0 640 yJ2_indexOf_4cfef, Cond.static yJ2_indexOf_4cfef, Cond.initialized RJ2]
def wsX1_isName_r3 : List Cond := [Cond.code yJ2_indexOf_4cfef cJ2_indexOf_4cfef 4 (some .int), Cond.methodLink RJ2 224 Lib.Math.max.name, Cond.methodLink RJ2 183 Lib.Math.min.name, Cond.constant RJ2 227 (65536), Cond.methodLink RJ2 228 yJ2_indexOfChar_4cfef, Cond.static yJ2_indexOfChar_4cfef, Cond.code yJ2_indexOfChar_4cfef cJ2_indexOfChar_4cfef 4 (some .int), Cond.methodLink RJ2 96 yJ2_checkBoundsBeginEnd_d044e, Cond.static yJ2_checkBoundsBeginEnd_d044e, Cond.code yJ2_checkBoundsBeginEnd_d044e cJ2_checkBoundsBeginEnd_d044e 3 none, Cond.methodLink RJ2 48 yJ2_length_9d52b, Cond.static yJ2_length_9d52b, Cond.code yJ2_length_9d52b cJ2_length_9d52b 1 (some .int), Cond.methodLink RJ2 241 yJ0_checkBoundsBeginEnd_23922, Cond.static yJ0_checkBoundsBeginEnd_23922, Cond.code yJ0_checkBoundsBeginEnd_23922 cJ0_checkBoundsBeginEnd_23922 3 none, Cond.fieldLink RJ0 1053 "jdk/internal/util/Preconditions" "SIOOBE_FORMATTER" "Ljava/util/function/BiFunction;", Cond.methodLink RJ0 1062 yJ3_checkFromToIndex_8c36e, Cond.static yJ3_checkFromToIndex_8c36e, Cond.initialized RJ3, Cond.code yJ3_checkFromToIndex_8c36e cJ3_checkFromToIndex_8c36e 4 (some .int), Cond.methodLink RJ2 244 yJ2_indexOfCharUnsafe_4cfef, Cond.static yJ2_indexOfCharUnsafe_4cfef, Cond.code yJ2_indexOfCharUnsafe_4cfef cJ2_indexOfCharUnsafe_4cfef 5 (some .int)]
def wsX1_isName_r4 : List Cond := [Cond.methodLink RJ2 71 yJ2_getChar_3b067, Cond.static yJ2_getChar_3b067, Cond.code yJ2_getChar_3b067 cJ2_getChar_3b067 2 (some .char), Cond.fieldLink RJ2 44 "java/lang/StringUTF16" "$assertionsDisabled" "Z", Cond.fieldLink RJ2 59 "java/lang/StringUTF16" "HI_BYTE_SHIFT" "I", Cond.fieldLink RJ2 63 "java/lang/StringUTF16" "LO_BYTE_SHIFT" "I", Cond.methodLink RJ2 232 yJ2_indexOfSupplementary_4cfef, Cond.static yJ2_indexOfSupplementary_4cfef, Cond.code yJ2_indexOfSupplementary_4cfef cJ2_indexOfSupplementary_4cfef 7 (some .int), Cond.methodLink RJ2 164 yJ11_isValidCodePoint_9a6ad, Cond.static yJ11_isValidCodePoint_9a6ad, Cond.initialized RJ11, Cond.code yJ11_isValidCodePoint_9a6ad cJ11_isValidCodePoint_9a6ad 2 (some .boolean), Cond.methodLink RJ2 157 yJ11_highSurrogate_5068e, Cond.static yJ11_highSurrogate_5068e, Cond.code yJ11_highSurrogate_5068e cJ11_highSurrogate_5068e 1 (some .char), Cond.constant RJ11 110 (55232), Cond.methodLink RJ2 161 yJ11_lowSurrogate_5068e, Cond.static yJ11_lowSurrogate_5068e, Cond.code yJ11_lowSurrogate_5068e cJ11_lowSurrogate_5068e 1 (some .char), Cond.constant RJ11 76 (56320), Cond.methodLink RX1 119 yX1_takePiece, Cond.instanceMethod yX1_takePiece, Cond.selects RX1 yX1_takePiece yX1_takePiece]
def wsX1_isName_r5 : List Cond := [Cond.initialized RX1, Cond.code yX1_takePiece cX1_takePiece 2 (some .boolean), Cond.fieldLink RX1 37 "LeaningStreet$Reader" "pieces" "I", Cond.methodLink RX1 96 yX1_write, Cond.instanceMethod yX1_write, Cond.selects RX1 yX1_write yX1_write, Cond.code yX1_write cX1_write 2 none, Cond.fieldLink RX1 34 "LeaningStreet$Reader" "steps" "I", Cond.fieldLink RX1 31 "LeaningStreet$Reader" "code" "[I", Cond.methodLink RX1 40 yX1_goNext, Cond.instanceMethod yX1_goNext, Cond.selects RX1 yX1_goNext yX1_goNext, Cond.code yX1_goNext cX1_goNext 3 none, Cond.fieldLink RX1 25 "LeaningStreet$Reader" "sort" "I", Cond.fieldLink RX1 15 "LeaningStreet$Reader" "many" "I", Cond.methodLink RX1 62 yX1_sortOf, Cond.static yX1_sortOf, Cond.code yX1_sortOf cX1_sortOf 1 (some .int)]
def wsX1_isName : List Cond := .code yX1_isName cX1_isName 3 (some .boolean) :: ((wsX1_isName_r1 ++ (wsX1_isName_r2 ++ (wsX1_isName_r3 ++ (wsX1_isName_r4 ++ wsX1_isName_r5)))) ++ wsX10)
def wsX1_isAnd_r1 : List Cond := [Cond.methodLink RX1 100 yX1_isTest, Cond.instanceMethod yX1_isTest, Cond.selects RX1 yX1_isTest yX1_isTest, Cond.initialized RX1, Cond.methodLink RX1 92 yX1_passed, Cond.instanceMethod yX1_passed, Cond.selects RX1 yX1_passed yX1_passed, Cond.code yX1_passed cX1_passed 4 (some .int), Cond.methodLink RX1 85 yX1_isAt, Cond.instanceMethod yX1_isAt, Cond.selects RX1 yX1_isAt yX1_isAt, Cond.code yX1_isAt cX1_isAt 2 (some .boolean), Cond.fieldLink RX1 25 "LeaningStreet$Reader" "sort" "I", Cond.fieldLink RX1 19 "LeaningStreet$Reader" "start" "I", Cond.fieldLink RX1 15 "LeaningStreet$Reader" "many" "I", Cond.fieldLink RX1 9 "LeaningStreet$Reader" "bytes" "[I", Cond.methodLink RX1 40 yX1_goNext, Cond.instanceMethod yX1_goNext, Cond.selects RX1 yX1_goNext yX1_goNext, Cond.code yX1_goNext cX1_goNext 3 none, Cond.fieldLink RX1 22 "LeaningStreet$Reader" "end" "I", Cond.methodLink RX1 62 yX1_sortOf, Cond.static yX1_sortOf, Cond.code yX1_sortOf cX1_sortOf 1 (some .int)]
def wsX1_isAnd_r2 : List Cond := [Cond.methodLink RX1 96 yX1_write, Cond.instanceMethod yX1_write, Cond.selects RX1 yX1_write yX1_write, Cond.code yX1_write cX1_write 2 none, Cond.fieldLink RX1 34 "LeaningStreet$Reader" "steps" "I", Cond.fieldLink RX1 31 "LeaningStreet$Reader" "code" "[I", Cond.code yX1_isOr cX1_isOr 5 (some .boolean), Cond.methodLink RX1 89 yX1_isAnd, Cond.instanceMethod yX1_isAnd, Cond.selects RX1 yX1_isAnd yX1_isAnd, Cond.code yX1_isPiece cX1_isPiece 4 (some .boolean), Cond.methodLink RX1 112 yX1_isNumber, Cond.instanceMethod yX1_isNumber, Cond.selects RX1 yX1_isNumber yX1_isNumber, Cond.code yX1_isNumber cX1_isNumber 3 (some .boolean), Cond.methodLink RX1 119 yX1_takePiece, Cond.instanceMethod yX1_takePiece, Cond.selects RX1 yX1_takePiece yX1_takePiece, Cond.code yX1_takePiece cX1_takePiece 2 (some .boolean), Cond.fieldLink RX1 37 "LeaningStreet$Reader" "pieces" "I", Cond.methodLink RX1 116 yX1_isName, Cond.instanceMethod yX1_isName, Cond.selects RX1 yX1_isName yX1_isName, Cond.code yX1_isName cX1_isName 3 (some .boolean)]
def wsX1_isAnd_r3 : List Cond := [Cond.fieldLink RX1 28 "LeaningStreet$Reader" "key" "I", Cond.methodLink RX1 129 yJ0_indexOf_0f7a4, Cond.instanceMethod yJ0_indexOf_0f7a4, Cond.selects RJ0 yJ0_indexOf_0f7a4 yJ0_indexOf_0f7a4, Cond.initialized RJ0, Cond.code yJ0_indexOf_0f7a4 cJ0_indexOf_0f7a4 2 (some .int), Cond.methodLink RJ0 633 yJ0_indexOf_7cf53, Cond.instanceMethod yJ0_indexOf_7cf53, Cond.selects RJ0 yJ0_indexOf_7cf53 yJ0_indexOf_7cf53, Cond.code yJ0_indexOf_7cf53 cJ0_indexOf_7cf53 3 (some .int), Cond.fieldLink RJ0 9 "java/lang/String" "value" "[B", Cond.methodLink RJ0 492 yJ0_isLatin1_aae02, Cond.instanceMethod yJ0_isLatin1_aae02, Cond.selects RJ0 yJ0_isLatin1_aae02 yJ0_isLatin1_aae02, Cond.code yJ0_isLatin1_aae02 cJ0_isLatin1_aae02 1 (some .boolean), Cond.fieldLink RJ0 38 "java/lang/String" "COMPACT_STRINGS" "Z", Cond.fieldLink RJ0 15 "java/lang/String" "coder" "B", Cond.methodLink RJ0 505 yJ0_length_8abf5, Cond.instanceMethod yJ0_length_8abf5, Cond.selects RJ0 yJ0_length_8abf5 yJ0_length_8abf5, Cond.code yJ0_length_8abf5 cJ0_length_8abf5 1 (some .int), Cond.methodLink RJ0 335 yJ0_coder_7d493, Cond.instanceMethod yJ0_coder_7d493, Cond.selects RJ0 yJ0_coder_7d493 yJ0_coder_7d493]
def wsX1_isAnd_r4 : List Cond := [Cond.code yJ0_coder_7d493 cJ0_coder_7d493 1 (some .byte), Cond.methodLink RJ0 637 yJ1_indexOf_4cfef, Cond.static yJ1_indexOf_4cfef, Cond.initialized RJ1, Cond.code yJ1_indexOf_4cfef cJ1_indexOf_4cfef 4 (some .int), Cond.methodLink RJ1 92 Lib.Math.max.name, Cond.static Lib.Math.max.name, Cond.initialized "java/lang/Math", Cond.code Lib.Math.max.name Lib.Math.max.code 2 (some .int), Cond.methodLink RJ1 38 Lib.Math.min.name, Cond.static Lib.Math.min.name, Cond.code Lib.Math.min.name Lib.Math.min.code 2 (some .int), Cond.methodLink RJ1 88 yJ1_canEncode_9a6ad, Cond.static yJ1_canEncode_9a6ad, Cond.code yJ1_canEncode_9a6ad cJ1_canEncode_9a6ad 1 (some .boolean), Cond.methodLink RJ1 95 yJ1_indexOfChar_4cfef, Cond.static yJ1_indexOfChar_4cfef, Cond.code yJ1_indexOfChar_4cfef cJ1_indexOfChar_4cfef 6 (some .int), Cond.methodLink RJ0 640 yJ2_indexOf_4cfef, Cond.static yJ2_indexOf_4cfef, Cond.initialized RJ2, Cond.code yJ2_indexOf_4cfef cJ2_indexOf_4cfef 4 (some .int), Cond.methodLink RJ2 224 Lib.Math.max.name, Cond.methodLink RJ2 183 Lib.Math.min.name]
def wsX1_isAnd_r5 : List Cond := [Cond.constant RJ2 227 (65536), Cond.methodLink RJ2 228 yJ2_indexOfChar_4cfef, Cond.static yJ2_indexOfChar_4cfef, Cond.code yJ2_indexOfChar_4cfef cJ2_indexOfChar_4cfef 4 (some .int), Cond.methodLink RJ2 96 yJ2_checkBoundsBeginEnd_d044e, Cond.static yJ2_checkBoundsBeginEnd_d044e, Cond.code yJ2_checkBoundsBeginEnd_d044e cJ2_checkBoundsBeginEnd_d044e 3 none, Cond.methodLink RJ2 48 yJ2_length_9d52b, Cond.static yJ2_length_9d52b, Cond.code yJ2_length_9d52b cJ2_length_9d52b 1 (some .int), Cond.methodLink RJ2 241 yJ0_checkBoundsBeginEnd_23922, Cond.static yJ0_checkBoundsBeginEnd_23922, Cond.code yJ0_checkBoundsBeginEnd_23922 cJ0_checkBoundsBeginEnd_23922 3 none, Cond.fieldLink RJ0 1053 "jdk/internal/util/Preconditions" "SIOOBE_FORMATTER" "Ljava/util/function/BiFunction;", Cond.methodLink RJ0 1062 yJ3_checkFromToIndex_8c36e, Cond.static yJ3_checkFromToIndex_8c36e, Cond.initialized RJ3, Cond.code yJ3_checkFromToIndex_8c36e cJ3_checkFromToIndex_8c36e 4 (some .int), Cond.methodLink RJ2 244 yJ2_indexOfCharUnsafe_4cfef, Cond.static yJ2_indexOfCharUnsafe_4cfef, Cond.code yJ2_indexOfCharUnsafe_4cfef cJ2_indexOfCharUnsafe_4cfef 5 (some .int), Cond.methodLink RJ2 71 yJ2_getChar_3b067, Cond.static yJ2_getChar_3b067, Cond.code yJ2_getChar_3b067 cJ2_getChar_3b067 2 (some .char)]
def wsX1_isAnd_r6 : List Cond := [Cond.fieldLink RJ2 44 "java/lang/StringUTF16" "$assertionsDisabled" "Z", Cond.fieldLink RJ2 59 "java/lang/StringUTF16" "HI_BYTE_SHIFT" "I", Cond.fieldLink RJ2 63 "java/lang/StringUTF16" "LO_BYTE_SHIFT" "I", Cond.methodLink RJ2 232 yJ2_indexOfSupplementary_4cfef, Cond.static yJ2_indexOfSupplementary_4cfef, Cond.code yJ2_indexOfSupplementary_4cfef cJ2_indexOfSupplementary_4cfef 7 (some .int), Cond.methodLink RJ2 164 yJ11_isValidCodePoint_9a6ad, Cond.static yJ11_isValidCodePoint_9a6ad, Cond.initialized RJ11, Cond.code yJ11_isValidCodePoint_9a6ad cJ11_isValidCodePoint_9a6ad 2 (some .boolean), Cond.methodLink RJ2 157 yJ11_highSurrogate_5068e, Cond.static yJ11_highSurrogate_5068e, Cond.code yJ11_highSurrogate_5068e cJ11_highSurrogate_5068e 1 (some .char), Cond.constant RJ11 110 (55232), Cond.methodLink RJ2 161 yJ11_lowSurrogate_5068e, Cond.static yJ11_lowSurrogate_5068e, Cond.code yJ11_lowSurrogate_5068e cJ11_lowSurrogate_5068e 1 (some .char), Cond.constant RJ11 76 (56320), Cond.methodLink RX1 109 yX1_isPiece, Cond.instanceMethod yX1_isPiece, Cond.selects RX1 yX1_isPiece yX1_isPiece, Cond.methodLink RX1 47 yX1_isOr, Cond.instanceMethod yX1_isOr, Cond.selects RX1 yX1_isOr yX1_isOr]
def wsX1_isAnd_r7 : List Cond := [Cond.code yX1_isSum cX1_isSum 6 (some .boolean), Cond.methodLink RX1 106 yX1_isTerm, Cond.instanceMethod yX1_isTerm, Cond.selects RX1 yX1_isTerm yX1_isTerm, Cond.code yX1_isTerm cX1_isTerm 6 (some .boolean), Cond.code yX1_isTest cX1_isTest 5 (some .boolean), Cond.methodLink RX1 103 yX1_isSum, Cond.instanceMethod yX1_isSum, Cond.selects RX1 yX1_isSum yX1_isSum]
def wsX1_isAnd : List Cond := .code yX1_isAnd cX1_isAnd 5 (some .boolean) :: ((wsX1_isAnd_r1 ++ (wsX1_isAnd_r2 ++ (wsX1_isAnd_r3 ++ (wsX1_isAnd_r4 ++ (wsX1_isAnd_r5 ++ (wsX1_isAnd_r6 ++ wsX1_isAnd_r7)))))) ++ wsX10)
def wsX1_isOr_r1 : List Cond := [Cond.methodLink RX1 89 yX1_isAnd, Cond.instanceMethod yX1_isAnd, Cond.selects RX1 yX1_isAnd yX1_isAnd, Cond.initialized RX1, Cond.methodLink RX1 92 yX1_passed, Cond.instanceMethod yX1_passed, Cond.selects RX1 yX1_passed yX1_passed, Cond.code yX1_passed cX1_passed 4 (some .int), Cond.methodLink RX1 85 yX1_isAt, Cond.instanceMethod yX1_isAt, Cond.selects RX1 yX1_isAt yX1_isAt, Cond.code yX1_isAt cX1_isAt 2 (some .boolean), Cond.fieldLink RX1 25 "LeaningStreet$Reader" "sort" "I", Cond.fieldLink RX1 19 "LeaningStreet$Reader" "start" "I", Cond.fieldLink RX1 15 "LeaningStreet$Reader" "many" "I", Cond.fieldLink RX1 9 "LeaningStreet$Reader" "bytes" "[I", Cond.methodLink RX1 40 yX1_goNext, Cond.instanceMethod yX1_goNext, Cond.selects RX1 yX1_goNext yX1_goNext, Cond.code yX1_goNext cX1_goNext 3 none, Cond.fieldLink RX1 22 "LeaningStreet$Reader" "end" "I", Cond.methodLink RX1 62 yX1_sortOf, Cond.static yX1_sortOf, Cond.code yX1_sortOf cX1_sortOf 1 (some .int)]
def wsX1_isOr_r2 : List Cond := [Cond.methodLink RX1 96 yX1_write, Cond.instanceMethod yX1_write, Cond.selects RX1 yX1_write yX1_write, Cond.code yX1_write cX1_write 2 none, Cond.fieldLink RX1 34 "LeaningStreet$Reader" "steps" "I", Cond.fieldLink RX1 31 "LeaningStreet$Reader" "code" "[I", Cond.code yX1_isAnd cX1_isAnd 5 (some .boolean), Cond.methodLink RX1 100 yX1_isTest, Cond.instanceMethod yX1_isTest, Cond.selects RX1 yX1_isTest yX1_isTest, Cond.code yX1_isPiece cX1_isPiece 4 (some .boolean), Cond.methodLink RX1 112 yX1_isNumber, Cond.instanceMethod yX1_isNumber, Cond.selects RX1 yX1_isNumber yX1_isNumber, Cond.code yX1_isNumber cX1_isNumber 3 (some .boolean), Cond.methodLink RX1 119 yX1_takePiece, Cond.instanceMethod yX1_takePiece, Cond.selects RX1 yX1_takePiece yX1_takePiece, Cond.code yX1_takePiece cX1_takePiece 2 (some .boolean), Cond.fieldLink RX1 37 "LeaningStreet$Reader" "pieces" "I", Cond.methodLink RX1 116 yX1_isName, Cond.instanceMethod yX1_isName, Cond.selects RX1 yX1_isName yX1_isName, Cond.code yX1_isName cX1_isName 3 (some .boolean)]
def wsX1_isOr_r3 : List Cond := [Cond.fieldLink RX1 28 "LeaningStreet$Reader" "key" "I", Cond.methodLink RX1 129 yJ0_indexOf_0f7a4, Cond.instanceMethod yJ0_indexOf_0f7a4, Cond.selects RJ0 yJ0_indexOf_0f7a4 yJ0_indexOf_0f7a4, Cond.initialized RJ0, Cond.code yJ0_indexOf_0f7a4 cJ0_indexOf_0f7a4 2 (some .int), Cond.methodLink RJ0 633 yJ0_indexOf_7cf53, Cond.instanceMethod yJ0_indexOf_7cf53, Cond.selects RJ0 yJ0_indexOf_7cf53 yJ0_indexOf_7cf53, Cond.code yJ0_indexOf_7cf53 cJ0_indexOf_7cf53 3 (some .int), Cond.fieldLink RJ0 9 "java/lang/String" "value" "[B", Cond.methodLink RJ0 492 yJ0_isLatin1_aae02, Cond.instanceMethod yJ0_isLatin1_aae02, Cond.selects RJ0 yJ0_isLatin1_aae02 yJ0_isLatin1_aae02, Cond.code yJ0_isLatin1_aae02 cJ0_isLatin1_aae02 1 (some .boolean), Cond.fieldLink RJ0 38 "java/lang/String" "COMPACT_STRINGS" "Z", Cond.fieldLink RJ0 15 "java/lang/String" "coder" "B", Cond.methodLink RJ0 505 yJ0_length_8abf5, Cond.instanceMethod yJ0_length_8abf5, Cond.selects RJ0 yJ0_length_8abf5 yJ0_length_8abf5, Cond.code yJ0_length_8abf5 cJ0_length_8abf5 1 (some .int), Cond.methodLink RJ0 335 yJ0_coder_7d493, Cond.instanceMethod yJ0_coder_7d493, Cond.selects RJ0 yJ0_coder_7d493 yJ0_coder_7d493]
def wsX1_isOr_r4 : List Cond := [Cond.code yJ0_coder_7d493 cJ0_coder_7d493 1 (some .byte), Cond.methodLink RJ0 637 yJ1_indexOf_4cfef, Cond.static yJ1_indexOf_4cfef, Cond.initialized RJ1, Cond.code yJ1_indexOf_4cfef cJ1_indexOf_4cfef 4 (some .int), Cond.methodLink RJ1 92 Lib.Math.max.name, Cond.static Lib.Math.max.name, Cond.initialized "java/lang/Math", Cond.code Lib.Math.max.name Lib.Math.max.code 2 (some .int), Cond.methodLink RJ1 38 Lib.Math.min.name, Cond.static Lib.Math.min.name, Cond.code Lib.Math.min.name Lib.Math.min.code 2 (some .int), Cond.methodLink RJ1 88 yJ1_canEncode_9a6ad, Cond.static yJ1_canEncode_9a6ad, Cond.code yJ1_canEncode_9a6ad cJ1_canEncode_9a6ad 1 (some .boolean), Cond.methodLink RJ1 95 yJ1_indexOfChar_4cfef, Cond.static yJ1_indexOfChar_4cfef, Cond.code yJ1_indexOfChar_4cfef cJ1_indexOfChar_4cfef 6 (some .int), Cond.methodLink RJ0 640 yJ2_indexOf_4cfef, Cond.static yJ2_indexOf_4cfef, Cond.initialized RJ2, Cond.code yJ2_indexOf_4cfef cJ2_indexOf_4cfef 4 (some .int), Cond.methodLink RJ2 224 Lib.Math.max.name, Cond.methodLink RJ2 183 Lib.Math.min.name]
def wsX1_isOr_r5 : List Cond := [Cond.constant RJ2 227 (65536), Cond.methodLink RJ2 228 yJ2_indexOfChar_4cfef, Cond.static yJ2_indexOfChar_4cfef, Cond.code yJ2_indexOfChar_4cfef cJ2_indexOfChar_4cfef 4 (some .int), Cond.methodLink RJ2 96 yJ2_checkBoundsBeginEnd_d044e, Cond.static yJ2_checkBoundsBeginEnd_d044e, Cond.code yJ2_checkBoundsBeginEnd_d044e cJ2_checkBoundsBeginEnd_d044e 3 none, Cond.methodLink RJ2 48 yJ2_length_9d52b, Cond.static yJ2_length_9d52b, Cond.code yJ2_length_9d52b cJ2_length_9d52b 1 (some .int), Cond.methodLink RJ2 241 yJ0_checkBoundsBeginEnd_23922, Cond.static yJ0_checkBoundsBeginEnd_23922, Cond.code yJ0_checkBoundsBeginEnd_23922 cJ0_checkBoundsBeginEnd_23922 3 none, Cond.fieldLink RJ0 1053 "jdk/internal/util/Preconditions" "SIOOBE_FORMATTER" "Ljava/util/function/BiFunction;", Cond.methodLink RJ0 1062 yJ3_checkFromToIndex_8c36e, Cond.static yJ3_checkFromToIndex_8c36e, Cond.initialized RJ3, Cond.code yJ3_checkFromToIndex_8c36e cJ3_checkFromToIndex_8c36e 4 (some .int), Cond.methodLink RJ2 244 yJ2_indexOfCharUnsafe_4cfef, Cond.static yJ2_indexOfCharUnsafe_4cfef, Cond.code yJ2_indexOfCharUnsafe_4cfef cJ2_indexOfCharUnsafe_4cfef 5 (some .int), Cond.methodLink RJ2 71 yJ2_getChar_3b067, Cond.static yJ2_getChar_3b067, Cond.code yJ2_getChar_3b067 cJ2_getChar_3b067 2 (some .char)]
def wsX1_isOr_r6 : List Cond := [Cond.fieldLink RJ2 44 "java/lang/StringUTF16" "$assertionsDisabled" "Z", Cond.fieldLink RJ2 59 "java/lang/StringUTF16" "HI_BYTE_SHIFT" "I", Cond.fieldLink RJ2 63 "java/lang/StringUTF16" "LO_BYTE_SHIFT" "I", Cond.methodLink RJ2 232 yJ2_indexOfSupplementary_4cfef, Cond.static yJ2_indexOfSupplementary_4cfef, Cond.code yJ2_indexOfSupplementary_4cfef cJ2_indexOfSupplementary_4cfef 7 (some .int), Cond.methodLink RJ2 164 yJ11_isValidCodePoint_9a6ad, Cond.static yJ11_isValidCodePoint_9a6ad, Cond.initialized RJ11, Cond.code yJ11_isValidCodePoint_9a6ad cJ11_isValidCodePoint_9a6ad 2 (some .boolean), Cond.methodLink RJ2 157 yJ11_highSurrogate_5068e, Cond.static yJ11_highSurrogate_5068e, Cond.code yJ11_highSurrogate_5068e cJ11_highSurrogate_5068e 1 (some .char), Cond.constant RJ11 110 (55232), Cond.methodLink RJ2 161 yJ11_lowSurrogate_5068e, Cond.static yJ11_lowSurrogate_5068e, Cond.code yJ11_lowSurrogate_5068e cJ11_lowSurrogate_5068e 1 (some .char), Cond.constant RJ11 76 (56320), Cond.methodLink RX1 109 yX1_isPiece, Cond.instanceMethod yX1_isPiece, Cond.selects RX1 yX1_isPiece yX1_isPiece, Cond.methodLink RX1 47 yX1_isOr, Cond.instanceMethod yX1_isOr, Cond.selects RX1 yX1_isOr yX1_isOr]
def wsX1_isOr_r7 : List Cond := [Cond.code yX1_isSum cX1_isSum 6 (some .boolean), Cond.methodLink RX1 106 yX1_isTerm, Cond.instanceMethod yX1_isTerm, Cond.selects RX1 yX1_isTerm yX1_isTerm, Cond.code yX1_isTerm cX1_isTerm 6 (some .boolean), Cond.code yX1_isTest cX1_isTest 5 (some .boolean), Cond.methodLink RX1 103 yX1_isSum, Cond.instanceMethod yX1_isSum, Cond.selects RX1 yX1_isSum yX1_isSum]
def wsX1_isOr : List Cond := .code yX1_isOr cX1_isOr 5 (some .boolean) :: ((wsX1_isOr_r1 ++ (wsX1_isOr_r2 ++ (wsX1_isOr_r3 ++ (wsX1_isOr_r4 ++ (wsX1_isOr_r5 ++ (wsX1_isOr_r6 ++ wsX1_isOr_r7)))))) ++ wsX10)
def wsX1_isPiece_r1 : List Cond := [Cond.fieldLink RX1 25 "LeaningStreet$Reader" "sort" "I", Cond.methodLink RX1 112 yX1_isNumber, Cond.instanceMethod yX1_isNumber, Cond.selects RX1 yX1_isNumber yX1_isNumber, Cond.initialized RX1, Cond.code yX1_isNumber cX1_isNumber 3 (some .boolean), Cond.fieldLink RX1 22 "LeaningStreet$Reader" "end" "I", Cond.fieldLink RX1 19 "LeaningStreet$Reader" "start" "I", Cond.fieldLink RX1 9 "LeaningStreet$Reader" "bytes" "[I", Cond.methodLink RX1 119 yX1_takePiece, Cond.instanceMethod yX1_takePiece, Cond.selects RX1 yX1_takePiece yX1_takePiece, Cond.code yX1_takePiece cX1_takePiece 2 (some .boolean), Cond.fieldLink RX1 37 "LeaningStreet$Reader" "pieces" "I", Cond.methodLink RX1 96 yX1_write, Cond.instanceMethod yX1_write, Cond.selects RX1 yX1_write yX1_write, Cond.code yX1_write cX1_write 2 none, Cond.fieldLink RX1 34 "LeaningStreet$Reader" "steps" "I", Cond.fieldLink RX1 31 "LeaningStreet$Reader" "code" "[I", Cond.methodLink RX1 40 yX1_goNext, Cond.instanceMethod yX1_goNext, Cond.selects RX1 yX1_goNext yX1_goNext, Cond.code yX1_goNext cX1_goNext 3 none]
def wsX1_isPiece_r2 : List Cond := [Cond.fieldLink RX1 15 "LeaningStreet$Reader" "many" "I", Cond.methodLink RX1 62 yX1_sortOf, Cond.static yX1_sortOf, Cond.code yX1_sortOf cX1_sortOf 1 (some .int), Cond.methodLink RX1 116 yX1_isName, Cond.instanceMethod yX1_isName, Cond.selects RX1 yX1_isName yX1_isName, Cond.code yX1_isName cX1_isName 3 (some .boolean), Cond.fieldLink RX1 28 "LeaningStreet$Reader" "key" "I", Cond.methodLink RX1 129 yJ0_indexOf_0f7a4, Cond.instanceMethod yJ0_indexOf_0f7a4, Cond.selects RJ0 yJ0_indexOf_0f7a4 yJ0_indexOf_0f7a4, Cond.initialized RJ0, Cond.code yJ0_indexOf_0f7a4 cJ0_indexOf_0f7a4 2 (some .int), Cond.methodLink RJ0 633 yJ0_indexOf_7cf53, Cond.instanceMethod yJ0_indexOf_7cf53, Cond.selects RJ0 yJ0_indexOf_7cf53 yJ0_indexOf_7cf53, Cond.code yJ0_indexOf_7cf53 cJ0_indexOf_7cf53 3 (some .int), Cond.fieldLink RJ0 9 "java/lang/String" "value" "[B", Cond.methodLink RJ0 492 yJ0_isLatin1_aae02, Cond.instanceMethod yJ0_isLatin1_aae02, Cond.selects RJ0 yJ0_isLatin1_aae02 yJ0_isLatin1_aae02, Cond.code yJ0_isLatin1_aae02 cJ0_isLatin1_aae02 1 (some .boolean), Cond.fieldLink RJ0 38 "java/lang/String" "COMPACT_STRINGS" "Z"]
def wsX1_isPiece_r3 : List Cond := [Cond.fieldLink RJ0 15 "java/lang/String" "coder" "B", Cond.methodLink RJ0 505 yJ0_length_8abf5, Cond.instanceMethod yJ0_length_8abf5, Cond.selects RJ0 yJ0_length_8abf5 yJ0_length_8abf5, Cond.code yJ0_length_8abf5 cJ0_length_8abf5 1 (some .int), Cond.methodLink RJ0 335 yJ0_coder_7d493, Cond.instanceMethod yJ0_coder_7d493, Cond.selects RJ0 yJ0_coder_7d493 yJ0_coder_7d493, Cond.code yJ0_coder_7d493 cJ0_coder_7d493 1 (some .byte), Cond.methodLink RJ0 637 yJ1_indexOf_4cfef, Cond.static yJ1_indexOf_4cfef, Cond.initialized RJ1, Cond.code yJ1_indexOf_4cfef cJ1_indexOf_4cfef 4 (some .int), Cond.methodLink RJ1 92 Lib.Math.max.name, Cond.static Lib.Math.max.name, Cond.initialized "java/lang/Math", Cond.code Lib.Math.max.name Lib.Math.max.code 2 (some .int), Cond.methodLink RJ1 38 Lib.Math.min.name, Cond.static Lib.Math.min.name, Cond.code Lib.Math.min.name Lib.Math.min.code 2 (some .int), Cond.methodLink RJ1 88 yJ1_canEncode_9a6ad, Cond.static yJ1_canEncode_9a6ad, Cond.code yJ1_canEncode_9a6ad cJ1_canEncode_9a6ad 1 (some .boolean), Cond.methodLink RJ1 95 yJ1_indexOfChar_4cfef]
def wsX1_isPiece_r4 : List Cond := [Cond.static yJ1_indexOfChar_4cfef, Cond.code yJ1_indexOfChar_4cfef cJ1_indexOfChar_4cfef 6 (some .int), Cond.methodLink RJ0 640 yJ2_indexOf_4cfef, Cond.static yJ2_indexOf_4cfef, Cond.initialized RJ2, Cond.code yJ2_indexOf_4cfef cJ2_indexOf_4cfef 4 (some .int), Cond.methodLink RJ2 224 Lib.Math.max.name, Cond.methodLink RJ2 183 Lib.Math.min.name, Cond.constant RJ2 227 (65536), Cond.methodLink RJ2 228 yJ2_indexOfChar_4cfef, Cond.static yJ2_indexOfChar_4cfef, Cond.code yJ2_indexOfChar_4cfef cJ2_indexOfChar_4cfef 4 (some .int), Cond.methodLink RJ2 96 yJ2_checkBoundsBeginEnd_d044e, Cond.static yJ2_checkBoundsBeginEnd_d044e, Cond.code yJ2_checkBoundsBeginEnd_d044e cJ2_checkBoundsBeginEnd_d044e 3 none, Cond.methodLink RJ2 48 yJ2_length_9d52b, Cond.static yJ2_length_9d52b, Cond.code yJ2_length_9d52b cJ2_length_9d52b 1 (some .int), Cond.methodLink RJ2 241 yJ0_checkBoundsBeginEnd_23922, Cond.static yJ0_checkBoundsBeginEnd_23922, Cond.code yJ0_checkBoundsBeginEnd_23922 cJ0_checkBoundsBeginEnd_23922 3 none, Cond.fieldLink RJ0 1053 "jdk/internal/util/Preconditions" "SIOOBE_FORMATTER" "Ljava/util/function/BiFunction;", Cond.methodLink RJ0 1062 yJ3_checkFromToIndex_8c36e, Cond.static yJ3_checkFromToIndex_8c36e]
def wsX1_isPiece_r5 : List Cond := [Cond.initialized RJ3, Cond.code yJ3_checkFromToIndex_8c36e cJ3_checkFromToIndex_8c36e 4 (some .int), Cond.methodLink RJ2 244 yJ2_indexOfCharUnsafe_4cfef, Cond.static yJ2_indexOfCharUnsafe_4cfef, Cond.code yJ2_indexOfCharUnsafe_4cfef cJ2_indexOfCharUnsafe_4cfef 5 (some .int), Cond.methodLink RJ2 71 yJ2_getChar_3b067, Cond.static yJ2_getChar_3b067, Cond.code yJ2_getChar_3b067 cJ2_getChar_3b067 2 (some .char), Cond.fieldLink RJ2 44 "java/lang/StringUTF16" "$assertionsDisabled" "Z", Cond.fieldLink RJ2 59 "java/lang/StringUTF16" "HI_BYTE_SHIFT" "I", Cond.fieldLink RJ2 63 "java/lang/StringUTF16" "LO_BYTE_SHIFT" "I", Cond.methodLink RJ2 232 yJ2_indexOfSupplementary_4cfef, Cond.static yJ2_indexOfSupplementary_4cfef, Cond.code yJ2_indexOfSupplementary_4cfef cJ2_indexOfSupplementary_4cfef 7 (some .int), Cond.methodLink RJ2 164 yJ11_isValidCodePoint_9a6ad, Cond.static yJ11_isValidCodePoint_9a6ad, Cond.initialized RJ11, Cond.code yJ11_isValidCodePoint_9a6ad cJ11_isValidCodePoint_9a6ad 2 (some .boolean), Cond.methodLink RJ2 157 yJ11_highSurrogate_5068e, Cond.static yJ11_highSurrogate_5068e, Cond.code yJ11_highSurrogate_5068e cJ11_highSurrogate_5068e 1 (some .char), Cond.constant RJ11 110 (55232), Cond.methodLink RJ2 161 yJ11_lowSurrogate_5068e, Cond.static yJ11_lowSurrogate_5068e]
def wsX1_isPiece_r6 : List Cond := [Cond.code yJ11_lowSurrogate_5068e cJ11_lowSurrogate_5068e 1 (some .char), Cond.constant RJ11 76 (56320), Cond.methodLink RX1 85 yX1_isAt, Cond.instanceMethod yX1_isAt, Cond.selects RX1 yX1_isAt yX1_isAt, Cond.code yX1_isAt cX1_isAt 2 (some .boolean), Cond.methodLink RX1 109 yX1_isPiece, Cond.instanceMethod yX1_isPiece, Cond.selects RX1 yX1_isPiece yX1_isPiece, Cond.methodLink RX1 47 yX1_isOr, Cond.instanceMethod yX1_isOr, Cond.selects RX1 yX1_isOr yX1_isOr, Cond.code yX1_isAnd cX1_isAnd 5 (some .boolean), Cond.methodLink RX1 100 yX1_isTest, Cond.instanceMethod yX1_isTest, Cond.selects RX1 yX1_isTest yX1_isTest, Cond.methodLink RX1 92 yX1_passed, Cond.instanceMethod yX1_passed, Cond.selects RX1 yX1_passed yX1_passed, Cond.code yX1_passed cX1_passed 4 (some .int), Cond.code yX1_isOr cX1_isOr 5 (some .boolean), Cond.methodLink RX1 89 yX1_isAnd, Cond.instanceMethod yX1_isAnd, Cond.selects RX1 yX1_isAnd yX1_isAnd]
def wsX1_isPiece_r7 : List Cond := [Cond.code yX1_isSum cX1_isSum 6 (some .boolean), Cond.methodLink RX1 106 yX1_isTerm, Cond.instanceMethod yX1_isTerm, Cond.selects RX1 yX1_isTerm yX1_isTerm, Cond.code yX1_isTerm cX1_isTerm 6 (some .boolean), Cond.code yX1_isTest cX1_isTest 5 (some .boolean), Cond.methodLink RX1 103 yX1_isSum, Cond.instanceMethod yX1_isSum, Cond.selects RX1 yX1_isSum yX1_isSum]
def wsX1_isPiece : List Cond := .code yX1_isPiece cX1_isPiece 4 (some .boolean) :: ((wsX1_isPiece_r1 ++ (wsX1_isPiece_r2 ++ (wsX1_isPiece_r3 ++ (wsX1_isPiece_r4 ++ (wsX1_isPiece_r5 ++ (wsX1_isPiece_r6 ++ wsX1_isPiece_r7)))))) ++ wsX10)
def wsX1_isSum_r1 : List Cond := [Cond.methodLink RX1 106 yX1_isTerm, Cond.instanceMethod yX1_isTerm, Cond.selects RX1 yX1_isTerm yX1_isTerm, Cond.initialized RX1, Cond.methodLink RX1 92 yX1_passed, Cond.instanceMethod yX1_passed, Cond.selects RX1 yX1_passed yX1_passed, Cond.code yX1_passed cX1_passed 4 (some .int), Cond.methodLink RX1 85 yX1_isAt, Cond.instanceMethod yX1_isAt, Cond.selects RX1 yX1_isAt yX1_isAt, Cond.code yX1_isAt cX1_isAt 2 (some .boolean), Cond.fieldLink RX1 25 "LeaningStreet$Reader" "sort" "I", Cond.fieldLink RX1 19 "LeaningStreet$Reader" "start" "I", Cond.fieldLink RX1 15 "LeaningStreet$Reader" "many" "I", Cond.fieldLink RX1 9 "LeaningStreet$Reader" "bytes" "[I", Cond.methodLink RX1 40 yX1_goNext, Cond.instanceMethod yX1_goNext, Cond.selects RX1 yX1_goNext yX1_goNext, Cond.code yX1_goNext cX1_goNext 3 none, Cond.fieldLink RX1 22 "LeaningStreet$Reader" "end" "I", Cond.methodLink RX1 62 yX1_sortOf, Cond.static yX1_sortOf, Cond.code yX1_sortOf cX1_sortOf 1 (some .int)]
def wsX1_isSum_r2 : List Cond := [Cond.methodLink RX1 96 yX1_write, Cond.instanceMethod yX1_write, Cond.selects RX1 yX1_write yX1_write, Cond.code yX1_write cX1_write 2 none, Cond.fieldLink RX1 34 "LeaningStreet$Reader" "steps" "I", Cond.fieldLink RX1 31 "LeaningStreet$Reader" "code" "[I", Cond.code yX1_isAnd cX1_isAnd 5 (some .boolean), Cond.methodLink RX1 100 yX1_isTest, Cond.instanceMethod yX1_isTest, Cond.selects RX1 yX1_isTest yX1_isTest, Cond.code yX1_isOr cX1_isOr 5 (some .boolean), Cond.methodLink RX1 89 yX1_isAnd, Cond.instanceMethod yX1_isAnd, Cond.selects RX1 yX1_isAnd yX1_isAnd, Cond.code yX1_isPiece cX1_isPiece 4 (some .boolean), Cond.methodLink RX1 112 yX1_isNumber, Cond.instanceMethod yX1_isNumber, Cond.selects RX1 yX1_isNumber yX1_isNumber, Cond.code yX1_isNumber cX1_isNumber 3 (some .boolean), Cond.methodLink RX1 119 yX1_takePiece, Cond.instanceMethod yX1_takePiece, Cond.selects RX1 yX1_takePiece yX1_takePiece, Cond.code yX1_takePiece cX1_takePiece 2 (some .boolean), Cond.fieldLink RX1 37 "LeaningStreet$Reader" "pieces" "I"]
def wsX1_isSum_r3 : List Cond := [Cond.methodLink RX1 116 yX1_isName, Cond.instanceMethod yX1_isName, Cond.selects RX1 yX1_isName yX1_isName, Cond.code yX1_isName cX1_isName 3 (some .boolean), Cond.fieldLink RX1 28 "LeaningStreet$Reader" "key" "I", Cond.methodLink RX1 129 yJ0_indexOf_0f7a4, Cond.instanceMethod yJ0_indexOf_0f7a4, Cond.selects RJ0 yJ0_indexOf_0f7a4 yJ0_indexOf_0f7a4, Cond.initialized RJ0, Cond.code yJ0_indexOf_0f7a4 cJ0_indexOf_0f7a4 2 (some .int), Cond.methodLink RJ0 633 yJ0_indexOf_7cf53, Cond.instanceMethod yJ0_indexOf_7cf53, Cond.selects RJ0 yJ0_indexOf_7cf53 yJ0_indexOf_7cf53, Cond.code yJ0_indexOf_7cf53 cJ0_indexOf_7cf53 3 (some .int), Cond.fieldLink RJ0 9 "java/lang/String" "value" "[B", Cond.methodLink RJ0 492 yJ0_isLatin1_aae02, Cond.instanceMethod yJ0_isLatin1_aae02, Cond.selects RJ0 yJ0_isLatin1_aae02 yJ0_isLatin1_aae02, Cond.code yJ0_isLatin1_aae02 cJ0_isLatin1_aae02 1 (some .boolean), Cond.fieldLink RJ0 38 "java/lang/String" "COMPACT_STRINGS" "Z", Cond.fieldLink RJ0 15 "java/lang/String" "coder" "B", Cond.methodLink RJ0 505 yJ0_length_8abf5, Cond.instanceMethod yJ0_length_8abf5, Cond.selects RJ0 yJ0_length_8abf5 yJ0_length_8abf5]
def wsX1_isSum_r4 : List Cond := [Cond.code yJ0_length_8abf5 cJ0_length_8abf5 1 (some .int), Cond.methodLink RJ0 335 yJ0_coder_7d493, Cond.instanceMethod yJ0_coder_7d493, Cond.selects RJ0 yJ0_coder_7d493 yJ0_coder_7d493, Cond.code yJ0_coder_7d493 cJ0_coder_7d493 1 (some .byte), Cond.methodLink RJ0 637 yJ1_indexOf_4cfef, Cond.static yJ1_indexOf_4cfef, Cond.initialized RJ1, Cond.code yJ1_indexOf_4cfef cJ1_indexOf_4cfef 4 (some .int), Cond.methodLink RJ1 92 Lib.Math.max.name, Cond.static Lib.Math.max.name, Cond.initialized "java/lang/Math", Cond.code Lib.Math.max.name Lib.Math.max.code 2 (some .int), Cond.methodLink RJ1 38 Lib.Math.min.name, Cond.static Lib.Math.min.name, Cond.code Lib.Math.min.name Lib.Math.min.code 2 (some .int), Cond.methodLink RJ1 88 yJ1_canEncode_9a6ad, Cond.static yJ1_canEncode_9a6ad, Cond.code yJ1_canEncode_9a6ad cJ1_canEncode_9a6ad 1 (some .boolean), Cond.methodLink RJ1 95 yJ1_indexOfChar_4cfef, Cond.static yJ1_indexOfChar_4cfef, Cond.code yJ1_indexOfChar_4cfef cJ1_indexOfChar_4cfef 6 (some .int), Cond.methodLink RJ0 640 yJ2_indexOf_4cfef, Cond.static yJ2_indexOf_4cfef]
def wsX1_isSum_r5 : List Cond := [Cond.initialized RJ2, Cond.code yJ2_indexOf_4cfef cJ2_indexOf_4cfef 4 (some .int), Cond.methodLink RJ2 224 Lib.Math.max.name, Cond.methodLink RJ2 183 Lib.Math.min.name, Cond.constant RJ2 227 (65536), Cond.methodLink RJ2 228 yJ2_indexOfChar_4cfef, Cond.static yJ2_indexOfChar_4cfef, Cond.code yJ2_indexOfChar_4cfef cJ2_indexOfChar_4cfef 4 (some .int), Cond.methodLink RJ2 96 yJ2_checkBoundsBeginEnd_d044e, Cond.static yJ2_checkBoundsBeginEnd_d044e, Cond.code yJ2_checkBoundsBeginEnd_d044e cJ2_checkBoundsBeginEnd_d044e 3 none, Cond.methodLink RJ2 48 yJ2_length_9d52b, Cond.static yJ2_length_9d52b, Cond.code yJ2_length_9d52b cJ2_length_9d52b 1 (some .int), Cond.methodLink RJ2 241 yJ0_checkBoundsBeginEnd_23922, Cond.static yJ0_checkBoundsBeginEnd_23922, Cond.code yJ0_checkBoundsBeginEnd_23922 cJ0_checkBoundsBeginEnd_23922 3 none, Cond.fieldLink RJ0 1053 "jdk/internal/util/Preconditions" "SIOOBE_FORMATTER" "Ljava/util/function/BiFunction;", Cond.methodLink RJ0 1062 yJ3_checkFromToIndex_8c36e, Cond.static yJ3_checkFromToIndex_8c36e, Cond.initialized RJ3, Cond.code yJ3_checkFromToIndex_8c36e cJ3_checkFromToIndex_8c36e 4 (some .int), Cond.methodLink RJ2 244 yJ2_indexOfCharUnsafe_4cfef, Cond.static yJ2_indexOfCharUnsafe_4cfef]
def wsX1_isSum_r6 : List Cond := [Cond.code yJ2_indexOfCharUnsafe_4cfef cJ2_indexOfCharUnsafe_4cfef 5 (some .int), Cond.methodLink RJ2 71 yJ2_getChar_3b067, Cond.static yJ2_getChar_3b067, Cond.code yJ2_getChar_3b067 cJ2_getChar_3b067 2 (some .char), Cond.fieldLink RJ2 44 "java/lang/StringUTF16" "$assertionsDisabled" "Z", Cond.fieldLink RJ2 59 "java/lang/StringUTF16" "HI_BYTE_SHIFT" "I", Cond.fieldLink RJ2 63 "java/lang/StringUTF16" "LO_BYTE_SHIFT" "I", Cond.methodLink RJ2 232 yJ2_indexOfSupplementary_4cfef, Cond.static yJ2_indexOfSupplementary_4cfef, Cond.code yJ2_indexOfSupplementary_4cfef cJ2_indexOfSupplementary_4cfef 7 (some .int), Cond.methodLink RJ2 164 yJ11_isValidCodePoint_9a6ad, Cond.static yJ11_isValidCodePoint_9a6ad, Cond.initialized RJ11, Cond.code yJ11_isValidCodePoint_9a6ad cJ11_isValidCodePoint_9a6ad 2 (some .boolean), Cond.methodLink RJ2 157 yJ11_highSurrogate_5068e, Cond.static yJ11_highSurrogate_5068e, Cond.code yJ11_highSurrogate_5068e cJ11_highSurrogate_5068e 1 (some .char), Cond.constant RJ11 110 (55232), Cond.methodLink RJ2 161 yJ11_lowSurrogate_5068e, Cond.static yJ11_lowSurrogate_5068e, Cond.code yJ11_lowSurrogate_5068e cJ11_lowSurrogate_5068e 1 (some .char), Cond.constant RJ11 76 (56320), Cond.methodLink RX1 109 yX1_isPiece, Cond.instanceMethod yX1_isPiece]
def wsX1_isSum_r7 : List Cond := [Cond.selects RX1 yX1_isPiece yX1_isPiece, Cond.methodLink RX1 47 yX1_isOr, Cond.instanceMethod yX1_isOr, Cond.selects RX1 yX1_isOr yX1_isOr, Cond.code yX1_isTerm cX1_isTerm 6 (some .boolean), Cond.code yX1_isTest cX1_isTest 5 (some .boolean), Cond.methodLink RX1 103 yX1_isSum, Cond.instanceMethod yX1_isSum, Cond.selects RX1 yX1_isSum yX1_isSum]
def wsX1_isSum : List Cond := .code yX1_isSum cX1_isSum 6 (some .boolean) :: ((wsX1_isSum_r1 ++ (wsX1_isSum_r2 ++ (wsX1_isSum_r3 ++ (wsX1_isSum_r4 ++ (wsX1_isSum_r5 ++ (wsX1_isSum_r6 ++ wsX1_isSum_r7)))))) ++ wsX10)
def wsX1_isTerm_r1 : List Cond := [Cond.methodLink RX1 109 yX1_isPiece, Cond.instanceMethod yX1_isPiece, Cond.selects RX1 yX1_isPiece yX1_isPiece, Cond.initialized RX1, Cond.methodLink RX1 92 yX1_passed, Cond.instanceMethod yX1_passed, Cond.selects RX1 yX1_passed yX1_passed, Cond.code yX1_passed cX1_passed 4 (some .int), Cond.methodLink RX1 85 yX1_isAt, Cond.instanceMethod yX1_isAt, Cond.selects RX1 yX1_isAt yX1_isAt, Cond.code yX1_isAt cX1_isAt 2 (some .boolean), Cond.fieldLink RX1 25 "LeaningStreet$Reader" "sort" "I", Cond.fieldLink RX1 19 "LeaningStreet$Reader" "start" "I", Cond.fieldLink RX1 15 "LeaningStreet$Reader" "many" "I", Cond.fieldLink RX1 9 "LeaningStreet$Reader" "bytes" "[I", Cond.methodLink RX1 40 yX1_goNext, Cond.instanceMethod yX1_goNext, Cond.selects RX1 yX1_goNext yX1_goNext, Cond.code yX1_goNext cX1_goNext 3 none, Cond.fieldLink RX1 22 "LeaningStreet$Reader" "end" "I", Cond.methodLink RX1 62 yX1_sortOf, Cond.static yX1_sortOf, Cond.code yX1_sortOf cX1_sortOf 1 (some .int)]
def wsX1_isTerm_r2 : List Cond := [Cond.methodLink RX1 96 yX1_write, Cond.instanceMethod yX1_write, Cond.selects RX1 yX1_write yX1_write, Cond.code yX1_write cX1_write 2 none, Cond.fieldLink RX1 34 "LeaningStreet$Reader" "steps" "I", Cond.fieldLink RX1 31 "LeaningStreet$Reader" "code" "[I", Cond.code yX1_isAnd cX1_isAnd 5 (some .boolean), Cond.methodLink RX1 100 yX1_isTest, Cond.instanceMethod yX1_isTest, Cond.selects RX1 yX1_isTest yX1_isTest, Cond.code yX1_isOr cX1_isOr 5 (some .boolean), Cond.methodLink RX1 89 yX1_isAnd, Cond.instanceMethod yX1_isAnd, Cond.selects RX1 yX1_isAnd yX1_isAnd, Cond.code yX1_isPiece cX1_isPiece 4 (some .boolean), Cond.methodLink RX1 112 yX1_isNumber, Cond.instanceMethod yX1_isNumber, Cond.selects RX1 yX1_isNumber yX1_isNumber, Cond.code yX1_isNumber cX1_isNumber 3 (some .boolean), Cond.methodLink RX1 119 yX1_takePiece, Cond.instanceMethod yX1_takePiece, Cond.selects RX1 yX1_takePiece yX1_takePiece, Cond.code yX1_takePiece cX1_takePiece 2 (some .boolean), Cond.fieldLink RX1 37 "LeaningStreet$Reader" "pieces" "I"]
def wsX1_isTerm_r3 : List Cond := [Cond.methodLink RX1 116 yX1_isName, Cond.instanceMethod yX1_isName, Cond.selects RX1 yX1_isName yX1_isName, Cond.code yX1_isName cX1_isName 3 (some .boolean), Cond.fieldLink RX1 28 "LeaningStreet$Reader" "key" "I", Cond.methodLink RX1 129 yJ0_indexOf_0f7a4, Cond.instanceMethod yJ0_indexOf_0f7a4, Cond.selects RJ0 yJ0_indexOf_0f7a4 yJ0_indexOf_0f7a4, Cond.initialized RJ0, Cond.code yJ0_indexOf_0f7a4 cJ0_indexOf_0f7a4 2 (some .int), Cond.methodLink RJ0 633 yJ0_indexOf_7cf53, Cond.instanceMethod yJ0_indexOf_7cf53, Cond.selects RJ0 yJ0_indexOf_7cf53 yJ0_indexOf_7cf53, Cond.code yJ0_indexOf_7cf53 cJ0_indexOf_7cf53 3 (some .int), Cond.fieldLink RJ0 9 "java/lang/String" "value" "[B", Cond.methodLink RJ0 492 yJ0_isLatin1_aae02, Cond.instanceMethod yJ0_isLatin1_aae02, Cond.selects RJ0 yJ0_isLatin1_aae02 yJ0_isLatin1_aae02, Cond.code yJ0_isLatin1_aae02 cJ0_isLatin1_aae02 1 (some .boolean), Cond.fieldLink RJ0 38 "java/lang/String" "COMPACT_STRINGS" "Z", Cond.fieldLink RJ0 15 "java/lang/String" "coder" "B", Cond.methodLink RJ0 505 yJ0_length_8abf5, Cond.instanceMethod yJ0_length_8abf5, Cond.selects RJ0 yJ0_length_8abf5 yJ0_length_8abf5]
def wsX1_isTerm_r4 : List Cond := [Cond.code yJ0_length_8abf5 cJ0_length_8abf5 1 (some .int), Cond.methodLink RJ0 335 yJ0_coder_7d493, Cond.instanceMethod yJ0_coder_7d493, Cond.selects RJ0 yJ0_coder_7d493 yJ0_coder_7d493, Cond.code yJ0_coder_7d493 cJ0_coder_7d493 1 (some .byte), Cond.methodLink RJ0 637 yJ1_indexOf_4cfef, Cond.static yJ1_indexOf_4cfef, Cond.initialized RJ1, Cond.code yJ1_indexOf_4cfef cJ1_indexOf_4cfef 4 (some .int), Cond.methodLink RJ1 92 Lib.Math.max.name, Cond.static Lib.Math.max.name, Cond.initialized "java/lang/Math", Cond.code Lib.Math.max.name Lib.Math.max.code 2 (some .int), Cond.methodLink RJ1 38 Lib.Math.min.name, Cond.static Lib.Math.min.name, Cond.code Lib.Math.min.name Lib.Math.min.code 2 (some .int), Cond.methodLink RJ1 88 yJ1_canEncode_9a6ad, Cond.static yJ1_canEncode_9a6ad, Cond.code yJ1_canEncode_9a6ad cJ1_canEncode_9a6ad 1 (some .boolean), Cond.methodLink RJ1 95 yJ1_indexOfChar_4cfef, Cond.static yJ1_indexOfChar_4cfef, Cond.code yJ1_indexOfChar_4cfef cJ1_indexOfChar_4cfef 6 (some .int), Cond.methodLink RJ0 640 yJ2_indexOf_4cfef, Cond.static yJ2_indexOf_4cfef]
def wsX1_isTerm_r5 : List Cond := [Cond.initialized RJ2, Cond.code yJ2_indexOf_4cfef cJ2_indexOf_4cfef 4 (some .int), Cond.methodLink RJ2 224 Lib.Math.max.name, Cond.methodLink RJ2 183 Lib.Math.min.name, Cond.constant RJ2 227 (65536), Cond.methodLink RJ2 228 yJ2_indexOfChar_4cfef, Cond.static yJ2_indexOfChar_4cfef, Cond.code yJ2_indexOfChar_4cfef cJ2_indexOfChar_4cfef 4 (some .int), Cond.methodLink RJ2 96 yJ2_checkBoundsBeginEnd_d044e, Cond.static yJ2_checkBoundsBeginEnd_d044e, Cond.code yJ2_checkBoundsBeginEnd_d044e cJ2_checkBoundsBeginEnd_d044e 3 none, Cond.methodLink RJ2 48 yJ2_length_9d52b, Cond.static yJ2_length_9d52b, Cond.code yJ2_length_9d52b cJ2_length_9d52b 1 (some .int), Cond.methodLink RJ2 241 yJ0_checkBoundsBeginEnd_23922, Cond.static yJ0_checkBoundsBeginEnd_23922, Cond.code yJ0_checkBoundsBeginEnd_23922 cJ0_checkBoundsBeginEnd_23922 3 none, Cond.fieldLink RJ0 1053 "jdk/internal/util/Preconditions" "SIOOBE_FORMATTER" "Ljava/util/function/BiFunction;", Cond.methodLink RJ0 1062 yJ3_checkFromToIndex_8c36e, Cond.static yJ3_checkFromToIndex_8c36e, Cond.initialized RJ3, Cond.code yJ3_checkFromToIndex_8c36e cJ3_checkFromToIndex_8c36e 4 (some .int), Cond.methodLink RJ2 244 yJ2_indexOfCharUnsafe_4cfef, Cond.static yJ2_indexOfCharUnsafe_4cfef]
def wsX1_isTerm_r6 : List Cond := [Cond.code yJ2_indexOfCharUnsafe_4cfef cJ2_indexOfCharUnsafe_4cfef 5 (some .int), Cond.methodLink RJ2 71 yJ2_getChar_3b067, Cond.static yJ2_getChar_3b067, Cond.code yJ2_getChar_3b067 cJ2_getChar_3b067 2 (some .char), Cond.fieldLink RJ2 44 "java/lang/StringUTF16" "$assertionsDisabled" "Z", Cond.fieldLink RJ2 59 "java/lang/StringUTF16" "HI_BYTE_SHIFT" "I", Cond.fieldLink RJ2 63 "java/lang/StringUTF16" "LO_BYTE_SHIFT" "I", Cond.methodLink RJ2 232 yJ2_indexOfSupplementary_4cfef, Cond.static yJ2_indexOfSupplementary_4cfef, Cond.code yJ2_indexOfSupplementary_4cfef cJ2_indexOfSupplementary_4cfef 7 (some .int), Cond.methodLink RJ2 164 yJ11_isValidCodePoint_9a6ad, Cond.static yJ11_isValidCodePoint_9a6ad, Cond.initialized RJ11, Cond.code yJ11_isValidCodePoint_9a6ad cJ11_isValidCodePoint_9a6ad 2 (some .boolean), Cond.methodLink RJ2 157 yJ11_highSurrogate_5068e, Cond.static yJ11_highSurrogate_5068e, Cond.code yJ11_highSurrogate_5068e cJ11_highSurrogate_5068e 1 (some .char), Cond.constant RJ11 110 (55232), Cond.methodLink RJ2 161 yJ11_lowSurrogate_5068e, Cond.static yJ11_lowSurrogate_5068e, Cond.code yJ11_lowSurrogate_5068e cJ11_lowSurrogate_5068e 1 (some .char), Cond.constant RJ11 76 (56320), Cond.methodLink RX1 47 yX1_isOr, Cond.instanceMethod yX1_isOr]
def wsX1_isTerm_r7 : List Cond := [Cond.selects RX1 yX1_isOr yX1_isOr, Cond.code yX1_isSum cX1_isSum 6 (some .boolean), Cond.methodLink RX1 106 yX1_isTerm, Cond.instanceMethod yX1_isTerm, Cond.selects RX1 yX1_isTerm yX1_isTerm, Cond.code yX1_isTest cX1_isTest 5 (some .boolean), Cond.methodLink RX1 103 yX1_isSum, Cond.instanceMethod yX1_isSum, Cond.selects RX1 yX1_isSum yX1_isSum]
def wsX1_isTerm : List Cond := .code yX1_isTerm cX1_isTerm 6 (some .boolean) :: ((wsX1_isTerm_r1 ++ (wsX1_isTerm_r2 ++ (wsX1_isTerm_r3 ++ (wsX1_isTerm_r4 ++ (wsX1_isTerm_r5 ++ (wsX1_isTerm_r6 ++ wsX1_isTerm_r7)))))) ++ wsX10)
def wsX1_isTest_r1 : List Cond := [Cond.methodLink RX1 103 yX1_isSum, Cond.instanceMethod yX1_isSum, Cond.selects RX1 yX1_isSum yX1_isSum, Cond.initialized RX1, Cond.methodLink RX1 92 yX1_passed, Cond.instanceMethod yX1_passed, Cond.selects RX1 yX1_passed yX1_passed, Cond.code yX1_passed cX1_passed 4 (some .int), Cond.methodLink RX1 85 yX1_isAt, Cond.instanceMethod yX1_isAt, Cond.selects RX1 yX1_isAt yX1_isAt, Cond.code yX1_isAt cX1_isAt 2 (some .boolean), Cond.fieldLink RX1 25 "LeaningStreet$Reader" "sort" "I", Cond.fieldLink RX1 19 "LeaningStreet$Reader" "start" "I", Cond.fieldLink RX1 15 "LeaningStreet$Reader" "many" "I", Cond.fieldLink RX1 9 "LeaningStreet$Reader" "bytes" "[I", Cond.methodLink RX1 40 yX1_goNext, Cond.instanceMethod yX1_goNext, Cond.selects RX1 yX1_goNext yX1_goNext, Cond.code yX1_goNext cX1_goNext 3 none, Cond.fieldLink RX1 22 "LeaningStreet$Reader" "end" "I", Cond.methodLink RX1 62 yX1_sortOf, Cond.static yX1_sortOf, Cond.code yX1_sortOf cX1_sortOf 1 (some .int)]
def wsX1_isTest_r2 : List Cond := [Cond.methodLink RX1 96 yX1_write, Cond.instanceMethod yX1_write, Cond.selects RX1 yX1_write yX1_write, Cond.code yX1_write cX1_write 2 none, Cond.fieldLink RX1 34 "LeaningStreet$Reader" "steps" "I", Cond.fieldLink RX1 31 "LeaningStreet$Reader" "code" "[I", Cond.code yX1_isAnd cX1_isAnd 5 (some .boolean), Cond.methodLink RX1 100 yX1_isTest, Cond.instanceMethod yX1_isTest, Cond.selects RX1 yX1_isTest yX1_isTest, Cond.code yX1_isOr cX1_isOr 5 (some .boolean), Cond.methodLink RX1 89 yX1_isAnd, Cond.instanceMethod yX1_isAnd, Cond.selects RX1 yX1_isAnd yX1_isAnd, Cond.code yX1_isPiece cX1_isPiece 4 (some .boolean), Cond.methodLink RX1 112 yX1_isNumber, Cond.instanceMethod yX1_isNumber, Cond.selects RX1 yX1_isNumber yX1_isNumber, Cond.code yX1_isNumber cX1_isNumber 3 (some .boolean), Cond.methodLink RX1 119 yX1_takePiece, Cond.instanceMethod yX1_takePiece, Cond.selects RX1 yX1_takePiece yX1_takePiece, Cond.code yX1_takePiece cX1_takePiece 2 (some .boolean), Cond.fieldLink RX1 37 "LeaningStreet$Reader" "pieces" "I"]
def wsX1_isTest_r3 : List Cond := [Cond.methodLink RX1 116 yX1_isName, Cond.instanceMethod yX1_isName, Cond.selects RX1 yX1_isName yX1_isName, Cond.code yX1_isName cX1_isName 3 (some .boolean), Cond.fieldLink RX1 28 "LeaningStreet$Reader" "key" "I", Cond.methodLink RX1 129 yJ0_indexOf_0f7a4, Cond.instanceMethod yJ0_indexOf_0f7a4, Cond.selects RJ0 yJ0_indexOf_0f7a4 yJ0_indexOf_0f7a4, Cond.initialized RJ0, Cond.code yJ0_indexOf_0f7a4 cJ0_indexOf_0f7a4 2 (some .int), Cond.methodLink RJ0 633 yJ0_indexOf_7cf53, Cond.instanceMethod yJ0_indexOf_7cf53, Cond.selects RJ0 yJ0_indexOf_7cf53 yJ0_indexOf_7cf53, Cond.code yJ0_indexOf_7cf53 cJ0_indexOf_7cf53 3 (some .int), Cond.fieldLink RJ0 9 "java/lang/String" "value" "[B", Cond.methodLink RJ0 492 yJ0_isLatin1_aae02, Cond.instanceMethod yJ0_isLatin1_aae02, Cond.selects RJ0 yJ0_isLatin1_aae02 yJ0_isLatin1_aae02, Cond.code yJ0_isLatin1_aae02 cJ0_isLatin1_aae02 1 (some .boolean), Cond.fieldLink RJ0 38 "java/lang/String" "COMPACT_STRINGS" "Z", Cond.fieldLink RJ0 15 "java/lang/String" "coder" "B", Cond.methodLink RJ0 505 yJ0_length_8abf5, Cond.instanceMethod yJ0_length_8abf5, Cond.selects RJ0 yJ0_length_8abf5 yJ0_length_8abf5]
def wsX1_isTest_r4 : List Cond := [Cond.code yJ0_length_8abf5 cJ0_length_8abf5 1 (some .int), Cond.methodLink RJ0 335 yJ0_coder_7d493, Cond.instanceMethod yJ0_coder_7d493, Cond.selects RJ0 yJ0_coder_7d493 yJ0_coder_7d493, Cond.code yJ0_coder_7d493 cJ0_coder_7d493 1 (some .byte), Cond.methodLink RJ0 637 yJ1_indexOf_4cfef, Cond.static yJ1_indexOf_4cfef, Cond.initialized RJ1, Cond.code yJ1_indexOf_4cfef cJ1_indexOf_4cfef 4 (some .int), Cond.methodLink RJ1 92 Lib.Math.max.name, Cond.static Lib.Math.max.name, Cond.initialized "java/lang/Math", Cond.code Lib.Math.max.name Lib.Math.max.code 2 (some .int), Cond.methodLink RJ1 38 Lib.Math.min.name, Cond.static Lib.Math.min.name, Cond.code Lib.Math.min.name Lib.Math.min.code 2 (some .int), Cond.methodLink RJ1 88 yJ1_canEncode_9a6ad, Cond.static yJ1_canEncode_9a6ad, Cond.code yJ1_canEncode_9a6ad cJ1_canEncode_9a6ad 1 (some .boolean), Cond.methodLink RJ1 95 yJ1_indexOfChar_4cfef, Cond.static yJ1_indexOfChar_4cfef, Cond.code yJ1_indexOfChar_4cfef cJ1_indexOfChar_4cfef 6 (some .int), Cond.methodLink RJ0 640 yJ2_indexOf_4cfef, Cond.static yJ2_indexOf_4cfef]
def wsX1_isTest_r5 : List Cond := [Cond.initialized RJ2, Cond.code yJ2_indexOf_4cfef cJ2_indexOf_4cfef 4 (some .int), Cond.methodLink RJ2 224 Lib.Math.max.name, Cond.methodLink RJ2 183 Lib.Math.min.name, Cond.constant RJ2 227 (65536), Cond.methodLink RJ2 228 yJ2_indexOfChar_4cfef, Cond.static yJ2_indexOfChar_4cfef, Cond.code yJ2_indexOfChar_4cfef cJ2_indexOfChar_4cfef 4 (some .int), Cond.methodLink RJ2 96 yJ2_checkBoundsBeginEnd_d044e, Cond.static yJ2_checkBoundsBeginEnd_d044e, Cond.code yJ2_checkBoundsBeginEnd_d044e cJ2_checkBoundsBeginEnd_d044e 3 none, Cond.methodLink RJ2 48 yJ2_length_9d52b, Cond.static yJ2_length_9d52b, Cond.code yJ2_length_9d52b cJ2_length_9d52b 1 (some .int), Cond.methodLink RJ2 241 yJ0_checkBoundsBeginEnd_23922, Cond.static yJ0_checkBoundsBeginEnd_23922, Cond.code yJ0_checkBoundsBeginEnd_23922 cJ0_checkBoundsBeginEnd_23922 3 none, Cond.fieldLink RJ0 1053 "jdk/internal/util/Preconditions" "SIOOBE_FORMATTER" "Ljava/util/function/BiFunction;", Cond.methodLink RJ0 1062 yJ3_checkFromToIndex_8c36e, Cond.static yJ3_checkFromToIndex_8c36e, Cond.initialized RJ3, Cond.code yJ3_checkFromToIndex_8c36e cJ3_checkFromToIndex_8c36e 4 (some .int), Cond.methodLink RJ2 244 yJ2_indexOfCharUnsafe_4cfef, Cond.static yJ2_indexOfCharUnsafe_4cfef]
def wsX1_isTest_r6 : List Cond := [Cond.code yJ2_indexOfCharUnsafe_4cfef cJ2_indexOfCharUnsafe_4cfef 5 (some .int), Cond.methodLink RJ2 71 yJ2_getChar_3b067, Cond.static yJ2_getChar_3b067, Cond.code yJ2_getChar_3b067 cJ2_getChar_3b067 2 (some .char), Cond.fieldLink RJ2 44 "java/lang/StringUTF16" "$assertionsDisabled" "Z", Cond.fieldLink RJ2 59 "java/lang/StringUTF16" "HI_BYTE_SHIFT" "I", Cond.fieldLink RJ2 63 "java/lang/StringUTF16" "LO_BYTE_SHIFT" "I", Cond.methodLink RJ2 232 yJ2_indexOfSupplementary_4cfef, Cond.static yJ2_indexOfSupplementary_4cfef, Cond.code yJ2_indexOfSupplementary_4cfef cJ2_indexOfSupplementary_4cfef 7 (some .int), Cond.methodLink RJ2 164 yJ11_isValidCodePoint_9a6ad, Cond.static yJ11_isValidCodePoint_9a6ad, Cond.initialized RJ11, Cond.code yJ11_isValidCodePoint_9a6ad cJ11_isValidCodePoint_9a6ad 2 (some .boolean), Cond.methodLink RJ2 157 yJ11_highSurrogate_5068e, Cond.static yJ11_highSurrogate_5068e, Cond.code yJ11_highSurrogate_5068e cJ11_highSurrogate_5068e 1 (some .char), Cond.constant RJ11 110 (55232), Cond.methodLink RJ2 161 yJ11_lowSurrogate_5068e, Cond.static yJ11_lowSurrogate_5068e, Cond.code yJ11_lowSurrogate_5068e cJ11_lowSurrogate_5068e 1 (some .char), Cond.constant RJ11 76 (56320), Cond.methodLink RX1 109 yX1_isPiece, Cond.instanceMethod yX1_isPiece]
def wsX1_isTest_r7 : List Cond := [Cond.selects RX1 yX1_isPiece yX1_isPiece, Cond.methodLink RX1 47 yX1_isOr, Cond.instanceMethod yX1_isOr, Cond.selects RX1 yX1_isOr yX1_isOr, Cond.code yX1_isSum cX1_isSum 6 (some .boolean), Cond.methodLink RX1 106 yX1_isTerm, Cond.instanceMethod yX1_isTerm, Cond.selects RX1 yX1_isTerm yX1_isTerm, Cond.code yX1_isTerm cX1_isTerm 6 (some .boolean)]
def wsX1_isTest : List Cond := .code yX1_isTest cX1_isTest 5 (some .boolean) :: ((wsX1_isTest_r1 ++ (wsX1_isTest_r2 ++ (wsX1_isTest_r3 ++ (wsX1_isTest_r4 ++ (wsX1_isTest_r5 ++ (wsX1_isTest_r6 ++ wsX1_isTest_r7)))))) ++ wsX10)
def wsX1_isText_r1 : List Cond := [Cond.fieldLink RX1 22 "LeaningStreet$Reader" "end" "I", Cond.fieldLink RX1 25 "LeaningStreet$Reader" "sort" "I", Cond.fieldLink RX1 34 "LeaningStreet$Reader" "steps" "I", Cond.fieldLink RX1 37 "LeaningStreet$Reader" "pieces" "I", Cond.fieldLink RX1 28 "LeaningStreet$Reader" "key" "I", Cond.methodLink RX1 40 yX1_goNext, Cond.instanceMethod yX1_goNext, Cond.selects RX1 yX1_goNext yX1_goNext, Cond.initialized RX1, Cond.code yX1_goNext cX1_goNext 3 none, Cond.fieldLink RX1 19 "LeaningStreet$Reader" "start" "I", Cond.fieldLink RX1 15 "LeaningStreet$Reader" "many" "I", Cond.fieldLink RX1 9 "LeaningStreet$Reader" "bytes" "[I", Cond.methodLink RX1 62 yX1_sortOf, Cond.static yX1_sortOf, Cond.code yX1_sortOf cX1_sortOf 1 (some .int), Cond.methodLink RX1 43 yX1_keyHere, Cond.instanceMethod yX1_keyHere, Cond.selects RX1 yX1_keyHere yX1_keyHere, Cond.code yX1_keyHere cX1_keyHere 2 (some .int), Cond.methodLink RX1 72 yX1_isWord, Cond.instanceMethod yX1_isWord, Cond.selects RX1 yX1_isWord yX1_isWord, Cond.code yX1_isWord cX1_isWord 3 (some .boolean)]
def wsX1_isText_r2 : List Cond := [Cond.methodLink RX1 76 yJ0_length_8abf5, Cond.instanceMethod yJ0_length_8abf5, Cond.selects RJ0 yJ0_length_8abf5 yJ0_length_8abf5, Cond.initialized RJ0, Cond.code yJ0_length_8abf5 cJ0_length_8abf5 1 (some .int), Cond.fieldLink RJ0 9 "java/lang/String" "value" "[B", Cond.methodLink RJ0 335 yJ0_coder_7d493, Cond.instanceMethod yJ0_coder_7d493, Cond.selects RJ0 yJ0_coder_7d493 yJ0_coder_7d493, Cond.code yJ0_coder_7d493 cJ0_coder_7d493 1 (some .byte), Cond.fieldLink RJ0 38 "java/lang/String" "COMPACT_STRINGS" "Z", Cond.fieldLink RJ0 15 "java/lang/String" "coder" "B", Cond.methodLink RX1 81 yJ0_charAt_5068e, Cond.instanceMethod yJ0_charAt_5068e, Cond.selects RJ0 yJ0_charAt_5068e yJ0_charAt_5068e, Cond.code yJ0_charAt_5068e cJ0_charAt_5068e 2 (some .char), Cond.methodLink RJ0 492 yJ0_isLatin1_aae02, Cond.instanceMethod yJ0_isLatin1_aae02, Cond.selects RJ0 yJ0_isLatin1_aae02 yJ0_isLatin1_aae02, Cond.code yJ0_isLatin1_aae02 cJ0_isLatin1_aae02 1 (some .boolean), Cond.methodLink RJ0 495 yJ1_charAt_3b067, Cond.static yJ1_charAt_3b067, Cond.initialized RJ1, Cond.code yJ1_charAt_3b067 cJ1_charAt_3b067 2 (some .char)]
def wsX1_isText_r3 : List Cond := [Cond.methodLink RJ1 9 yJ0_checkIndex_df160, Cond.static yJ0_checkIndex_df160, Cond.code yJ0_checkIndex_df160 cJ0_checkIndex_df160 2 none, Cond.fieldLink RJ0 1053 "jdk/internal/util/Preconditions" "SIOOBE_FORMATTER" "Ljava/util/function/BiFunction;", Cond.methodLink RJ0 1059 yJ3_checkIndex_8e157, Cond.static yJ3_checkIndex_8e157, Cond.initialized RJ3, Cond.code yJ3_checkIndex_8e157 cJ3_checkIndex_8e157 3 (some .int), Cond.methodLink RJ0 498 yJ2_charAt_3b067, Cond.static yJ2_charAt_3b067, Cond.initialized RJ2, Cond.code yJ2_charAt_3b067 cJ2_charAt_3b067 2 (some .char), Cond.methodLink RJ2 67 yJ2_checkIndex_2214a, Cond.static yJ2_checkIndex_2214a, Cond.code yJ2_checkIndex_2214a cJ2_checkIndex_2214a 2 none, Cond.methodLink RJ2 48 yJ2_length_9d52b, Cond.static yJ2_length_9d52b, Cond.code yJ2_length_9d52b cJ2_length_9d52b 1 (some .int), Cond.methodLink RJ2 414 yJ0_checkIndex_df160, Cond.methodLink RJ2 71 yJ2_getChar_3b067, Cond.static yJ2_getChar_3b067, Cond.code yJ2_getChar_3b067 cJ2_getChar_3b067 2 (some .char), Cond.fieldLink RJ2 44 "java/lang/StringUTF16" "$assertionsDisabled" "Z", Cond.fieldLink RJ2 59 "java/lang/StringUTF16" "HI_BYTE_SHIFT" "I"]
def wsX1_isText_r4 : List Cond := [Cond.fieldLink RJ2 63 "java/lang/StringUTF16" "LO_BYTE_SHIFT" "I", Cond.methodLink RX1 47 yX1_isOr, Cond.instanceMethod yX1_isOr, Cond.selects RX1 yX1_isOr yX1_isOr, Cond.code yX1_isOr cX1_isOr 5 (some .boolean), Cond.methodLink RX1 89 yX1_isAnd, Cond.instanceMethod yX1_isAnd, Cond.selects RX1 yX1_isAnd yX1_isAnd, Cond.methodLink RX1 92 yX1_passed, Cond.instanceMethod yX1_passed, Cond.selects RX1 yX1_passed yX1_passed, Cond.code yX1_passed cX1_passed 4 (some .int), Cond.methodLink RX1 85 yX1_isAt, Cond.instanceMethod yX1_isAt, Cond.selects RX1 yX1_isAt yX1_isAt, Cond.code yX1_isAt cX1_isAt 2 (some .boolean), Cond.methodLink RX1 96 yX1_write, Cond.instanceMethod yX1_write, Cond.selects RX1 yX1_write yX1_write, Cond.code yX1_write cX1_write 2 none, Cond.fieldLink RX1 31 "LeaningStreet$Reader" "code" "[I", Cond.code yX1_isAnd cX1_isAnd 5 (some .boolean), Cond.methodLink RX1 100 yX1_isTest, Cond.instanceMethod yX1_isTest]
def wsX1_isText_r5 : List Cond := [Cond.selects RX1 yX1_isTest yX1_isTest, Cond.code yX1_isPiece cX1_isPiece 4 (some .boolean), Cond.methodLink RX1 112 yX1_isNumber, Cond.instanceMethod yX1_isNumber, Cond.selects RX1 yX1_isNumber yX1_isNumber, Cond.code yX1_isNumber cX1_isNumber 3 (some .boolean), Cond.methodLink RX1 119 yX1_takePiece, Cond.instanceMethod yX1_takePiece, Cond.selects RX1 yX1_takePiece yX1_takePiece, Cond.code yX1_takePiece cX1_takePiece 2 (some .boolean), Cond.methodLink RX1 116 yX1_isName, Cond.instanceMethod yX1_isName, Cond.selects RX1 yX1_isName yX1_isName, Cond.code yX1_isName cX1_isName 3 (some .boolean), Cond.methodLink RX1 129 yJ0_indexOf_0f7a4, Cond.instanceMethod yJ0_indexOf_0f7a4, Cond.selects RJ0 yJ0_indexOf_0f7a4 yJ0_indexOf_0f7a4, Cond.code yJ0_indexOf_0f7a4 cJ0_indexOf_0f7a4 2 (some .int), Cond.methodLink RJ0 633 yJ0_indexOf_7cf53, Cond.instanceMethod yJ0_indexOf_7cf53, Cond.selects RJ0 yJ0_indexOf_7cf53 yJ0_indexOf_7cf53, Cond.code yJ0_indexOf_7cf53 cJ0_indexOf_7cf53 3 (some .int), Cond.methodLink RJ0 505 yJ0_length_8abf5, Cond.methodLink RJ0 637 yJ1_indexOf_4cfef]
def wsX1_isText_r6 : List Cond := [Cond.static yJ1_indexOf_4cfef, Cond.code yJ1_indexOf_4cfef cJ1_indexOf_4cfef 4 (some .int), Cond.methodLink RJ1 92 Lib.Math.max.name, Cond.static Lib.Math.max.name, Cond.initialized "java/lang/Math", Cond.code Lib.Math.max.name Lib.Math.max.code 2 (some .int), Cond.methodLink RJ1 38 Lib.Math.min.name, Cond.static Lib.Math.min.name, Cond.code Lib.Math.min.name Lib.Math.min.code 2 (some .int), Cond.methodLink RJ1 88 yJ1_canEncode_9a6ad, Cond.static yJ1_canEncode_9a6ad, Cond.code yJ1_canEncode_9a6ad cJ1_canEncode_9a6ad 1 (some .boolean), Cond.methodLink RJ1 95 yJ1_indexOfChar_4cfef, Cond.static yJ1_indexOfChar_4cfef, Cond.code yJ1_indexOfChar_4cfef cJ1_indexOfChar_4cfef 6 (some .int), Cond.methodLink RJ0 640 yJ2_indexOf_4cfef, Cond.static yJ2_indexOf_4cfef, Cond.code yJ2_indexOf_4cfef cJ2_indexOf_4cfef 4 (some .int), Cond.methodLink RJ2 224 Lib.Math.max.name, Cond.methodLink RJ2 183 Lib.Math.min.name, Cond.constant RJ2 227 (65536), Cond.methodLink RJ2 228 yJ2_indexOfChar_4cfef, Cond.static yJ2_indexOfChar_4cfef, Cond.code yJ2_indexOfChar_4cfef cJ2_indexOfChar_4cfef 4 (some .int)]
def wsX1_isText_r7 : List Cond := [Cond.methodLink RJ2 96 yJ2_checkBoundsBeginEnd_d044e, Cond.static yJ2_checkBoundsBeginEnd_d044e, Cond.code yJ2_checkBoundsBeginEnd_d044e cJ2_checkBoundsBeginEnd_d044e 3 none, Cond.methodLink RJ2 241 yJ0_checkBoundsBeginEnd_23922, Cond.static yJ0_checkBoundsBeginEnd_23922, Cond.code yJ0_checkBoundsBeginEnd_23922 cJ0_checkBoundsBeginEnd_23922 3 none, Cond.methodLink RJ0 1062 yJ3_checkFromToIndex_8c36e, Cond.static yJ3_checkFromToIndex_8c36e, Cond.code yJ3_checkFromToIndex_8c36e cJ3_checkFromToIndex_8c36e 4 (some .int), Cond.methodLink RJ2 244 yJ2_indexOfCharUnsafe_4cfef, Cond.static yJ2_indexOfCharUnsafe_4cfef, Cond.code yJ2_indexOfCharUnsafe_4cfef cJ2_indexOfCharUnsafe_4cfef 5 (some .int), Cond.methodLink RJ2 232 yJ2_indexOfSupplementary_4cfef, Cond.static yJ2_indexOfSupplementary_4cfef, Cond.code yJ2_indexOfSupplementary_4cfef cJ2_indexOfSupplementary_4cfef 7 (some .int), Cond.methodLink RJ2 164 yJ11_isValidCodePoint_9a6ad, Cond.static yJ11_isValidCodePoint_9a6ad, Cond.initialized RJ11, Cond.code yJ11_isValidCodePoint_9a6ad cJ11_isValidCodePoint_9a6ad 2 (some .boolean), Cond.methodLink RJ2 157 yJ11_highSurrogate_5068e, Cond.static yJ11_highSurrogate_5068e, Cond.code yJ11_highSurrogate_5068e cJ11_highSurrogate_5068e 1 (some .char), Cond.constant RJ11 110 (55232), Cond.methodLink RJ2 161 yJ11_lowSurrogate_5068e]
def wsX1_isText_r8 : List Cond := [Cond.static yJ11_lowSurrogate_5068e, Cond.code yJ11_lowSurrogate_5068e cJ11_lowSurrogate_5068e 1 (some .char), Cond.constant RJ11 76 (56320), Cond.methodLink RX1 109 yX1_isPiece, Cond.instanceMethod yX1_isPiece, Cond.selects RX1 yX1_isPiece yX1_isPiece, Cond.code yX1_isSum cX1_isSum 6 (some .boolean), Cond.methodLink RX1 106 yX1_isTerm, Cond.instanceMethod yX1_isTerm, Cond.selects RX1 yX1_isTerm yX1_isTerm, Cond.code yX1_isTerm cX1_isTerm 6 (some .boolean), Cond.code yX1_isTest cX1_isTest 5 (some .boolean), Cond.methodLink RX1 103 yX1_isSum, Cond.instanceMethod yX1_isSum, Cond.selects RX1 yX1_isSum yX1_isSum]
def wsX1_isText : List Cond := .code yX1_isText cX1_isText 1 (some .boolean) :: ((wsX1_isText_r1 ++ (wsX1_isText_r2 ++ (wsX1_isText_r3 ++ (wsX1_isText_r4 ++ (wsX1_isText_r5 ++ (wsX1_isText_r6 ++ (wsX1_isText_r7 ++ wsX1_isText_r8))))))) ++ wsX10)
def wsJ7_copyOf_59c91 : List Cond := .code yJ7_copyOf_59c91 cJ7_copyOf_59c91 3 (some (.array .int)) :: ([.methodLink RJ7 316 ⟨"[I", "clone", "()Ljava/lang/Object;"⟩, .sameMethod "[I" "java/lang/Object" "clone" "()Ljava/lang/Object;", .native ⟨"java/lang/Object", "clone", "()Ljava/lang/Object;"⟩, .instanceMethod ⟨"java/lang/Object", "clone", "()Ljava/lang/Object;"⟩, .selects "[I" ⟨"[I", "clone", "()Ljava/lang/Object;"⟩ ⟨"java/lang/Object", "clone", "()Ljava/lang/Object;"⟩, .classLink RJ7 317 "[I", .arrayClass .int, .methodLink RJ7 304 Lib.Math.min.name, .static Lib.Math.min.name, .initialized "java/lang/Math", .code Lib.Math.min.name Lib.Math.min.code 2 (some .int), .methodLink RJ7 150 arraycopyName, .native arraycopyName, .static arraycopyName, .initialized "java/lang/System"])
def wsX5_init : List Cond := .code yX5_init cX5_init 5 none :: ([.methodLink RX5 3 objectInit, .instanceMethod objectInit, .code objectInit ⟨#[0xb1]⟩ 1 none, .fieldLink RX5 9 "LeaningStreet$Text" "number" "I", .fieldLink RX5 15 "LeaningStreet$Text" "key" "I", .fieldLink RX5 18 "LeaningStreet$Text" "pieces" "I", .fieldLink RX5 21 "LeaningStreet$Text" "code" "[I", .methodLink RX5 25 Lib.Math.max.name, .static Lib.Math.max.name, .initialized "java/lang/Math", .code Lib.Math.max.name Lib.Math.max.code 2 (some .int), .arrayClass .int, .fieldLink RX5 31 "LeaningStreet$Text" "stack" "[I"] ++ wsX50)
def wsX1_madeText_r1 : List Cond := [Cond.classLink RX1 51 RX5, Cond.instantiable RX5 5, Cond.initialized RX5, Cond.fieldLink RX1 28 "LeaningStreet$Reader" "key" "I", Cond.fieldLink RX1 37 "LeaningStreet$Reader" "pieces" "I", Cond.fieldLink RX1 31 "LeaningStreet$Reader" "code" "[I", Cond.fieldLink RX1 34 "LeaningStreet$Reader" "steps" "I", Cond.methodLink RX1 53 yJ7_copyOf_59c91, Cond.static yJ7_copyOf_59c91, Cond.initialized RJ7, Cond.code yJ7_copyOf_59c91 cJ7_copyOf_59c91 3 (some (.array .int)), Cond.methodLink RJ7 316 ⟨"[I", "clone", "()Ljava/lang/Object;"⟩, Cond.sameMethod "[I" "java/lang/Object" "clone" "()Ljava/lang/Object;", Cond.native ⟨"java/lang/Object", "clone", "()Ljava/lang/Object;"⟩, Cond.instanceMethod ⟨"java/lang/Object", "clone", "()Ljava/lang/Object;"⟩, Cond.selects "[I" ⟨"[I", "clone", "()Ljava/lang/Object;"⟩ ⟨"java/lang/Object", "clone", "()Ljava/lang/Object;"⟩, Cond.classLink RJ7 317 "[I", Cond.arrayClass .int, Cond.methodLink RJ7 304 Lib.Math.min.name, Cond.static Lib.Math.min.name, Cond.initialized "java/lang/Math", Cond.code Lib.Math.min.name Lib.Math.min.code 2 (some .int), Cond.methodLink RJ7 150 arraycopyName, Cond.native arraycopyName]
def wsX1_madeText_r2 : List Cond := [Cond.static arraycopyName, Cond.initialized "java/lang/System", Cond.methodLink RX1 59 yX5_init, Cond.instanceMethod yX5_init, Cond.code yX5_init cX5_init 5 none, Cond.methodLink RX5 3 objectInit, Cond.instanceMethod objectInit, Cond.code objectInit ⟨#[0xb1]⟩ 1 none, Cond.fieldLink RX5 9 "LeaningStreet$Text" "number" "I", Cond.fieldLink RX5 15 "LeaningStreet$Text" "key" "I", Cond.fieldLink RX5 18 "LeaningStreet$Text" "pieces" "I", Cond.fieldLink RX5 21 "LeaningStreet$Text" "code" "[I", Cond.methodLink RX5 25 Lib.Math.max.name, Cond.static Lib.Math.max.name, Cond.code Lib.Math.max.name Lib.Math.max.code 2 (some .int), Cond.fieldLink RX5 31 "LeaningStreet$Text" "stack" "[I"]
def wsX1_madeText : List Cond := .code yX1_madeText cX1_madeText 2 (some (.object "LeaningStreet$Text")) :: ((wsX1_madeText_r1 ++ wsX1_madeText_r2) ++ wsX50 ++ wsX10)
def wsX2_init : List Cond := .code yX2_init cX2_init 1 none :: ([.methodLink RX2 3 objectInit, .instanceMethod objectInit, .code objectInit ⟨#[0xb1]⟩ 1 none, .arrayClass .int, .fieldLink RX2 9 "LeaningStreet$Row" "places" "[I", .fieldLink RX2 15 "LeaningStreet$Row" "sort" "I", .fieldLink RX2 19 "LeaningStreet$Row" "many" "I"] ++ wsX20)
def wsJ7_fill_53178 : List Cond := .code yJ7_fill_53178 cJ7_fill_53178 4 none :: ([])
def wsX2_begin : List Cond := .code yX2_begin cX2_begin 3 none :: ([.fieldLink RX2 15 "LeaningStreet$Row" "sort" "I", .fieldLink RX2 19 "LeaningStreet$Row" "many" "I", .fieldLink RX2 9 "LeaningStreet$Row" "places" "[I", .methodLink RX2 22 yJ7_fill_53178, .static yJ7_fill_53178, .initialized RJ7, .code yJ7_fill_53178 cJ7_fill_53178 4 none] ++ wsX20)
def wsX2_beLike : List Cond := .code yX2_beLike cX2_beLike 2 none :: ([.fieldLink RX2 15 "LeaningStreet$Row" "sort" "I", .fieldLink RX2 19 "LeaningStreet$Row" "many" "I", .fieldLink RX2 9 "LeaningStreet$Row" "places" "[I", .methodLink RX2 28 arraycopyName, .native arraycopyName, .static arraycopyName, .initialized "java/lang/System"] ++ wsX20)
def wsX2_hasPlace : List Cond := .code yX2_hasPlace cX2_hasPlace 2 (some .boolean) :: ([.fieldLink RX2 19 "LeaningStreet$Row" "many" "I"] ++ wsX20)
def wsX2_hasPlaces : List Cond := .code yX2_hasPlaces cX2_hasPlaces 3 (some .boolean) :: ([.fieldLink RX2 19 "LeaningStreet$Row" "many" "I"] ++ wsX20)
def wsX2_isNumber : List Cond := .code yX2_isNumber cX2_isNumber 2 (some .boolean) :: ([.fieldLink RX2 9 "LeaningStreet$Row" "places" "[I", .constant RX2 34 (-1000000005)] ++ wsX20)
def wsX3_init : List Cond := .code yX3_init cX3_init 1 none :: ([.methodLink RX3 3 objectInit, .instanceMethod objectInit, .code objectInit ⟨#[0xb1]⟩ 1 none, .fieldLink RX3 9 "LeaningStreet$Slot" "thing" "I", .fieldLink RX3 15 "LeaningStreet$Slot" "number" "I", .classLink RX3 18 RX0, .instantiable RX0 7, .initialized RX0, .fieldLink RX3 21 "LeaningStreet$Slot" "house" "LLeaningStreet$House;", .classLink RX3 25 RX2, .instantiable RX2 3, .initialized RX2, .fieldLink RX3 28 "LeaningStreet$Slot" "row" "LLeaningStreet$Row;", .instanceMethod yX0_init, .code yX0_init cX0_init 1 none, .methodLink RX0 3 objectInit, .instanceMethod yX2_init, .code yX2_init cX2_init 1 none, .methodLink RX2 3 objectInit, .arrayClass .int, .fieldLink RX2 9 "LeaningStreet$Row" "places" "[I", .fieldLink RX2 15 "LeaningStreet$Row" "sort" "I", .fieldLink RX2 19 "LeaningStreet$Row" "many" "I"] ++ wsX30 ++ wsX00 ++ wsX20)
def wsX4_init : List Cond := .code yX4_init cX4_init 2 none :: ([.methodLink RX4 3 objectInit, .instanceMethod objectInit, .code objectInit ⟨#[0xb1]⟩ 1 none, .classLink RX4 9 RX0, .fieldLink RX4 11 "LeaningStreet$Street" "houses" "[LLeaningStreet$House;", .classLink RX4 17 RX5, .fieldLink RX4 19 "LeaningStreet$Street" "allTexts" "[LLeaningStreet$Text;", .fieldLink RX4 23 "LeaningStreet$Street" "counting" "[LLeaningStreet$Text;", .arrayClass .int, .fieldLink RX4 26 "LeaningStreet$Street" "thrusts" "[I", .fieldLink RX4 30 "LeaningStreet$Street" "lesser" "[I", .fieldLink RX4 33 "LeaningStreet$Street" "greater" "[I", .fieldLink RX4 36 "LeaningStreet$Street" "many" "I", .fieldLink RX4 40 "LeaningStreet$Street" "texts" "I", .fieldLink RX4 43 "LeaningStreet$Street" "snow" "I", .fieldLink RX4 46 "LeaningStreet$Street" "rent" "I", .fieldLink RX4 49 "LeaningStreet$Street" "day" "I", .fieldLink RX4 52 "LeaningStreet$Street" "z" "I", .instantiable RX0 7, .initialized RX0, .instanceMethod yX0_init, .code yX0_init cX0_init 1 none, .methodLink RX0 3 objectInit] ++ wsX40 ++ wsX00)
def wsX4_beLike : List Cond := .code yX4_beLike cX4_beLike 3 none :: ([.fieldLink RX4 36 "LeaningStreet$Street" "many" "I", .fieldLink RX4 11 "LeaningStreet$Street" "houses" "[LLeaningStreet$House;", .fieldLink RX4 40 "LeaningStreet$Street" "texts" "I", .fieldLink RX4 19 "LeaningStreet$Street" "allTexts" "[LLeaningStreet$Text;", .fieldLink RX4 23 "LeaningStreet$Street" "counting" "[LLeaningStreet$Text;", .fieldLink RX4 43 "LeaningStreet$Street" "snow" "I", .fieldLink RX4 46 "LeaningStreet$Street" "rent" "I", .fieldLink RX4 49 "LeaningStreet$Street" "day" "I", .fieldLink RX4 52 "LeaningStreet$Street" "z" "I", .methodLink RX4 56 yX0_beLike, .instanceMethod yX0_beLike, .selects RX0 yX0_beLike yX0_beLike, .initialized RX0, .code yX0_beLike cX0_beLike 2 none, .fieldLink RX0 9 "LeaningStreet$House" "kind" "I", .fieldLink RX0 15 "LeaningStreet$House" "weight" "I", .fieldLink RX0 18 "LeaningStreet$House" "lean" "I", .fieldLink RX0 21 "LeaningStreet$House" "wall" "I", .fieldLink RX0 24 "LeaningStreet$House" "crack" "I", .fieldLink RX0 27 "LeaningStreet$House" "prop" "I", .fieldLink RX0 30 "LeaningStreet$House" "stands" "Z"] ++ wsX40 ++ wsX00)
def wsX4_build : List Cond := .code yX4_build cX4_build 6 none :: ([.fieldLink RX4 36 "LeaningStreet$Street" "many" "I", .fieldLink RX4 11 "LeaningStreet$Street" "houses" "[LLeaningStreet$House;", .fieldLink RX4 63 "LeaningStreet$House" "kind" "I", .fieldLink RX4 66 "LeaningStreet$House" "weight" "I", .fieldLink RX4 69 "LeaningStreet$House" "lean" "I", .fieldLink RX4 72 "LeaningStreet$House" "wall" "I", .fieldLink RX4 75 "LeaningStreet$House" "prop" "I", .methodLink RX4 60 yX0_rise, .instanceMethod yX0_rise, .selects RX0 yX0_rise yX0_rise, .initialized RX0, .code yX0_rise cX0_rise 1 none, .fieldLink RX0 30 "LeaningStreet$House" "stands" "Z", .fieldLink RX0 18 "LeaningStreet$House" "lean" "I", .fieldLink RX0 24 "LeaningStreet$House" "crack" "I"] ++ wsX40 ++ wsX00)
def wsX4_draw : List Cond := .code yX4_draw cX4_draw 1 (some .int) :: ([.fieldLink RX4 52 "LeaningStreet$Street" "z" "I", .constant RX4 86 (1103515245)] ++ wsX40)
def wsX4_buildByLot_r1 : List Cond := [Cond.methodLink RX4 78 yX4_draw, Cond.instanceMethod yX4_draw, Cond.selects RX4 yX4_draw yX4_draw, Cond.initialized RX4, Cond.code yX4_draw cX4_draw 1 (some .int), Cond.fieldLink RX4 52 "LeaningStreet$Street" "z" "I", Cond.constant RX4 86 (1103515245), Cond.methodLink RX4 82 yX4_build, Cond.instanceMethod yX4_build, Cond.selects RX4 yX4_build yX4_build, Cond.code yX4_build cX4_build 6 none, Cond.fieldLink RX4 36 "LeaningStreet$Street" "many" "I", Cond.fieldLink RX4 11 "LeaningStreet$Street" "houses" "[LLeaningStreet$House;", Cond.fieldLink RX4 63 "LeaningStreet$House" "kind" "I", Cond.fieldLink RX4 66 "LeaningStreet$House" "weight" "I", Cond.fieldLink RX4 69 "LeaningStreet$House" "lean" "I", Cond.fieldLink RX4 72 "LeaningStreet$House" "wall" "I", Cond.fieldLink RX4 75 "LeaningStreet$House" "prop" "I", Cond.methodLink RX4 60 yX0_rise, Cond.instanceMethod yX0_rise, Cond.selects RX0 yX0_rise yX0_rise, Cond.initialized RX0, Cond.code yX0_rise cX0_rise 1 none, Cond.fieldLink RX0 30 "LeaningStreet$House" "stands" "Z"]
def wsX4_buildByLot_r2 : List Cond := [Cond.fieldLink RX0 18 "LeaningStreet$House" "lean" "I", Cond.fieldLink RX0 24 "LeaningStreet$House" "crack" "I"]
def wsX4_buildByLot : List Cond := .code yX4_buildByLot cX4_buildByLot 5 none :: ((wsX4_buildByLot_r1 ++ wsX4_buildByLot_r2) ++ wsX40 ++ wsX00)
def wsX4_addText : List Cond := .code yX4_addText cX4_addText 2 none :: ([.fieldLink RX4 40 "LeaningStreet$Street" "texts" "I", .fieldLink RX4 87 "LeaningStreet$Text" "key" "I", .fieldLink RX4 19 "LeaningStreet$Street" "allTexts" "[LLeaningStreet$Text;", .fieldLink RX4 23 "LeaningStreet$Street" "counting" "[LLeaningStreet$Text;"] ++ wsX40 ++ wsX50)
def wsX4_takeWalls : List Cond := .code yX4_takeWalls cX4_takeWalls 5 (some .int) :: ([.fieldLink RX4 36 "LeaningStreet$Street" "many" "I", .fieldLink RX4 90 "LeaningStreet$Row" "many" "I", .fieldLink RX4 103 "LeaningStreet$Row" "places" "[I", .methodLink RX4 106 Lib.Math.min.name, .static Lib.Math.min.name, .initialized "java/lang/Math", .code Lib.Math.min.name Lib.Math.min.code 2 (some .int), .methodLink RX4 112 Lib.Math.max.name, .static Lib.Math.max.name, .code Lib.Math.max.name Lib.Math.max.code 2 (some .int), .fieldLink RX4 11 "LeaningStreet$Street" "houses" "[LLeaningStreet$House;", .fieldLink RX4 72 "LeaningStreet$House" "wall" "I", .methodLink RX4 93 yX2_isNumber, .instanceMethod yX2_isNumber, .selects RX2 yX2_isNumber yX2_isNumber, .initialized RX2, .code yX2_isNumber cX2_isNumber 2 (some .boolean), .fieldLink RX2 9 "LeaningStreet$Row" "places" "[I", .constant RX2 34 (-1000000005)] ++ wsX40 ++ wsX20 ++ wsX00)
def wsX4_differsFrom : List Cond := .code yX4_differsFrom cX4_differsFrom 5 (some .int) :: ([.fieldLink RX4 90 "LeaningStreet$Row" "many" "I", .fieldLink RX4 36 "LeaningStreet$Street" "many" "I", .fieldLink RX4 11 "LeaningStreet$Street" "houses" "[LLeaningStreet$House;", .fieldLink RX4 115 "LeaningStreet$House" "crack" "I", .fieldLink RX4 103 "LeaningStreet$Row" "places" "[I", .methodLink RX4 118 Lib.Math.abs.name, .static Lib.Math.abs.name, .initialized "java/lang/Math", .code Lib.Math.abs.name Lib.Math.abs.code 1 (some .int), .methodLink RX4 93 yX2_isNumber, .instanceMethod yX2_isNumber, .selects RX2 yX2_isNumber yX2_isNumber, .initialized RX2, .code yX2_isNumber cX2_isNumber 2 (some .boolean), .fieldLink RX2 9 "LeaningStreet$Row" "places" "[I", .constant RX2 34 (-1000000005)] ++ wsX20 ++ wsX40 ++ wsX00)
def wsX5_joined : List Cond := .code yX5_joined cX5_joined 3 (some .int) :: ([])
def wsX5_value : List Cond := .code yX5_value cX5_value 9 (some .int) :: ([.fieldLink RX5 21 "LeaningStreet$Text" "code" "[I", .fieldLink RX5 31 "LeaningStreet$Text" "stack" "[I", .methodLink RX5 34 yX5_joined, .static yX5_joined, .initialized RX5, .code yX5_joined cX5_joined 3 (some .int)] ++ wsX50)
def wsX4_pushOf_r1 : List Cond := [Cond.fieldLink RX4 23 "LeaningStreet$Street" "counting" "[LLeaningStreet$Text;", Cond.fieldLink RX4 69 "LeaningStreet$House" "lean" "I", Cond.methodLink RX4 118 Lib.Math.abs.name, Cond.static Lib.Math.abs.name, Cond.initialized "java/lang/Math", Cond.code Lib.Math.abs.name Lib.Math.abs.code 1 (some .int), Cond.fieldLink RX4 66 "LeaningStreet$House" "weight" "I", Cond.fieldLink RX4 115 "LeaningStreet$House" "crack" "I", Cond.methodLink RX4 122 yX5_value, Cond.instanceMethod yX5_value, Cond.selects RX5 yX5_value yX5_value, Cond.initialized RX5, Cond.code yX5_value cX5_value 9 (some .int), Cond.fieldLink RX5 21 "LeaningStreet$Text" "code" "[I", Cond.fieldLink RX5 31 "LeaningStreet$Text" "stack" "[I", Cond.methodLink RX5 34 yX5_joined, Cond.static yX5_joined, Cond.code yX5_joined cX5_joined 3 (some .int), Cond.methodLink RX4 126 yX0_pushing, Cond.instanceMethod yX0_pushing, Cond.selects RX0 yX0_pushing yX0_pushing, Cond.initialized RX0, Cond.code yX0_pushing cX0_pushing 3 (some .int), Cond.methodLink RX0 38 Lib.Math.min.name]
def wsX4_pushOf_r2 : List Cond := [Cond.static Lib.Math.min.name, Cond.code Lib.Math.min.name Lib.Math.min.code 2 (some .int), Cond.methodLink RX0 44 Lib.Math.max.name, Cond.static Lib.Math.max.name, Cond.code Lib.Math.max.name Lib.Math.max.code 2 (some .int), Cond.fieldLink RX0 9 "LeaningStreet$House" "kind" "I"]
def wsX4_pushOf : List Cond := .code yX4_pushOf cX4_pushOf 4 (some .int) :: ((wsX4_pushOf_r1 ++ wsX4_pushOf_r2) ++ wsX40 ++ wsX00 ++ wsX50)
def wsX4_lean_r1 : List Cond := [Cond.fieldLink RX4 33 "LeaningStreet$Street" "greater" "[I", Cond.fieldLink RX4 11 "LeaningStreet$Street" "houses" "[LLeaningStreet$House;", Cond.fieldLink RX4 69 "LeaningStreet$House" "lean" "I", Cond.fieldLink RX4 26 "LeaningStreet$Street" "thrusts" "[I", Cond.methodLink RX4 136 yX4_pushOf, Cond.instanceMethod yX4_pushOf, Cond.selects RX4 yX4_pushOf yX4_pushOf, Cond.initialized RX4, Cond.code yX4_pushOf cX4_pushOf 4 (some .int), Cond.fieldLink RX4 23 "LeaningStreet$Street" "counting" "[LLeaningStreet$Text;", Cond.methodLink RX4 118 Lib.Math.abs.name, Cond.static Lib.Math.abs.name, Cond.initialized "java/lang/Math", Cond.code Lib.Math.abs.name Lib.Math.abs.code 1 (some .int), Cond.fieldLink RX4 66 "LeaningStreet$House" "weight" "I", Cond.fieldLink RX4 115 "LeaningStreet$House" "crack" "I", Cond.methodLink RX4 122 yX5_value, Cond.instanceMethod yX5_value, Cond.selects RX5 yX5_value yX5_value, Cond.initialized RX5, Cond.code yX5_value cX5_value 9 (some .int), Cond.fieldLink RX5 21 "LeaningStreet$Text" "code" "[I", Cond.fieldLink RX5 31 "LeaningStreet$Text" "stack" "[I", Cond.methodLink RX5 34 yX5_joined]
def wsX4_lean_r2 : List Cond := [Cond.static yX5_joined, Cond.code yX5_joined cX5_joined 3 (some .int), Cond.methodLink RX4 126 yX0_pushing, Cond.instanceMethod yX0_pushing, Cond.selects RX0 yX0_pushing yX0_pushing, Cond.initialized RX0, Cond.code yX0_pushing cX0_pushing 3 (some .int), Cond.methodLink RX0 38 Lib.Math.min.name, Cond.static Lib.Math.min.name, Cond.code Lib.Math.min.name Lib.Math.min.code 2 (some .int), Cond.methodLink RX0 44 Lib.Math.max.name, Cond.static Lib.Math.max.name, Cond.code Lib.Math.max.name Lib.Math.max.code 2 (some .int), Cond.fieldLink RX0 9 "LeaningStreet$House" "kind" "I"]
def wsX4_lean : List Cond := .code yX4_lean cX4_lean 3 none :: ((wsX4_lean_r1 ++ wsX4_lean_r2) ++ wsX40 ++ wsX00 ++ wsX50)
def wsX4_workOutThrusts_r1 : List Cond := [Cond.fieldLink RX4 36 "LeaningStreet$Street" "many" "I", Cond.fieldLink RX4 26 "LeaningStreet$Street" "thrusts" "[I", Cond.fieldLink RX4 30 "LeaningStreet$Street" "lesser" "[I", Cond.fieldLink RX4 33 "LeaningStreet$Street" "greater" "[I", Cond.fieldLink RX4 11 "LeaningStreet$Street" "houses" "[LLeaningStreet$House;", Cond.fieldLink RX4 129 "LeaningStreet$House" "stands" "Z", Cond.fieldLink RX4 43 "LeaningStreet$Street" "snow" "I", Cond.methodLink RX4 133 yX4_lean, Cond.instanceMethod yX4_lean, Cond.selects RX4 yX4_lean yX4_lean, Cond.initialized RX4, Cond.code yX4_lean cX4_lean 3 none, Cond.fieldLink RX4 69 "LeaningStreet$House" "lean" "I", Cond.methodLink RX4 136 yX4_pushOf, Cond.instanceMethod yX4_pushOf, Cond.selects RX4 yX4_pushOf yX4_pushOf, Cond.code yX4_pushOf cX4_pushOf 4 (some .int), Cond.fieldLink RX4 23 "LeaningStreet$Street" "counting" "[LLeaningStreet$Text;", Cond.methodLink RX4 118 Lib.Math.abs.name, Cond.static Lib.Math.abs.name, Cond.initialized "java/lang/Math", Cond.code Lib.Math.abs.name Lib.Math.abs.code 1 (some .int), Cond.fieldLink RX4 66 "LeaningStreet$House" "weight" "I", Cond.fieldLink RX4 115 "LeaningStreet$House" "crack" "I"]
def wsX4_workOutThrusts_r2 : List Cond := [Cond.methodLink RX4 122 yX5_value, Cond.instanceMethod yX5_value, Cond.selects RX5 yX5_value yX5_value, Cond.initialized RX5, Cond.code yX5_value cX5_value 9 (some .int), Cond.fieldLink RX5 21 "LeaningStreet$Text" "code" "[I", Cond.fieldLink RX5 31 "LeaningStreet$Text" "stack" "[I", Cond.methodLink RX5 34 yX5_joined, Cond.static yX5_joined, Cond.code yX5_joined cX5_joined 3 (some .int), Cond.methodLink RX4 126 yX0_pushing, Cond.instanceMethod yX0_pushing, Cond.selects RX0 yX0_pushing yX0_pushing, Cond.initialized RX0, Cond.code yX0_pushing cX0_pushing 3 (some .int), Cond.methodLink RX0 38 Lib.Math.min.name, Cond.static Lib.Math.min.name, Cond.code Lib.Math.min.name Lib.Math.min.code 2 (some .int), Cond.methodLink RX0 44 Lib.Math.max.name, Cond.static Lib.Math.max.name, Cond.code Lib.Math.max.name Lib.Math.max.code 2 (some .int), Cond.fieldLink RX0 9 "LeaningStreet$House" "kind" "I"]
def wsX4_workOutThrusts : List Cond := .code yX4_workOutThrusts cX4_workOutThrusts 3 none :: ((wsX4_workOutThrusts_r1 ++ wsX4_workOutThrusts_r2) ++ wsX40 ++ wsX00 ++ wsX50)
def wsX4_tooMuch : List Cond := .code yX4_tooMuch cX4_tooMuch 2 (some .int) :: ([.fieldLink RX4 11 "LeaningStreet$Street" "houses" "[LLeaningStreet$House;", .fieldLink RX4 129 "LeaningStreet$House" "stands" "Z", .fieldLink RX4 26 "LeaningStreet$Street" "thrusts" "[I", .methodLink RX4 118 Lib.Math.abs.name, .static Lib.Math.abs.name, .initialized "java/lang/Math", .code Lib.Math.abs.name Lib.Math.abs.code 1 (some .int), .methodLink RX4 140 yX0_bearing, .instanceMethod yX0_bearing, .selects RX0 yX0_bearing yX0_bearing, .initialized RX0, .code yX0_bearing cX0_bearing 2 (some .int), .fieldLink RX0 21 "LeaningStreet$House" "wall" "I", .fieldLink RX0 27 "LeaningStreet$House" "prop" "I", .fieldLink RX0 9 "LeaningStreet$House" "kind" "I"] ++ wsX40 ++ wsX00)
def wsX4_notHolding_r1 : List Cond := [Cond.fieldLink RX4 36 "LeaningStreet$Street" "many" "I", Cond.methodLink RX4 143 yX4_workOutThrusts, Cond.instanceMethod yX4_workOutThrusts, Cond.selects RX4 yX4_workOutThrusts yX4_workOutThrusts, Cond.initialized RX4, Cond.code yX4_workOutThrusts cX4_workOutThrusts 3 none, Cond.fieldLink RX4 26 "LeaningStreet$Street" "thrusts" "[I", Cond.fieldLink RX4 30 "LeaningStreet$Street" "lesser" "[I", Cond.fieldLink RX4 33 "LeaningStreet$Street" "greater" "[I", Cond.fieldLink RX4 11 "LeaningStreet$Street" "houses" "[LLeaningStreet$House;", Cond.fieldLink RX4 129 "LeaningStreet$House" "stands" "Z", Cond.fieldLink RX4 43 "LeaningStreet$Street" "snow" "I", Cond.methodLink RX4 133 yX4_lean, Cond.instanceMethod yX4_lean, Cond.selects RX4 yX4_lean yX4_lean, Cond.code yX4_lean cX4_lean 3 none, Cond.fieldLink RX4 69 "LeaningStreet$House" "lean" "I", Cond.methodLink RX4 136 yX4_pushOf, Cond.instanceMethod yX4_pushOf, Cond.selects RX4 yX4_pushOf yX4_pushOf, Cond.code yX4_pushOf cX4_pushOf 4 (some .int), Cond.fieldLink RX4 23 "LeaningStreet$Street" "counting" "[LLeaningStreet$Text;", Cond.methodLink RX4 118 Lib.Math.abs.name, Cond.static Lib.Math.abs.name]
def wsX4_notHolding_r2 : List Cond := [Cond.initialized "java/lang/Math", Cond.code Lib.Math.abs.name Lib.Math.abs.code 1 (some .int), Cond.fieldLink RX4 66 "LeaningStreet$House" "weight" "I", Cond.fieldLink RX4 115 "LeaningStreet$House" "crack" "I", Cond.methodLink RX4 122 yX5_value, Cond.instanceMethod yX5_value, Cond.selects RX5 yX5_value yX5_value, Cond.initialized RX5, Cond.code yX5_value cX5_value 9 (some .int), Cond.fieldLink RX5 21 "LeaningStreet$Text" "code" "[I", Cond.fieldLink RX5 31 "LeaningStreet$Text" "stack" "[I", Cond.methodLink RX5 34 yX5_joined, Cond.static yX5_joined, Cond.code yX5_joined cX5_joined 3 (some .int), Cond.methodLink RX4 126 yX0_pushing, Cond.instanceMethod yX0_pushing, Cond.selects RX0 yX0_pushing yX0_pushing, Cond.initialized RX0, Cond.code yX0_pushing cX0_pushing 3 (some .int), Cond.methodLink RX0 38 Lib.Math.min.name, Cond.static Lib.Math.min.name, Cond.code Lib.Math.min.name Lib.Math.min.code 2 (some .int), Cond.methodLink RX0 44 Lib.Math.max.name, Cond.static Lib.Math.max.name]
def wsX4_notHolding_r3 : List Cond := [Cond.code Lib.Math.max.name Lib.Math.max.code 2 (some .int), Cond.fieldLink RX0 9 "LeaningStreet$House" "kind" "I", Cond.methodLink RX4 146 yX4_tooMuch, Cond.instanceMethod yX4_tooMuch, Cond.selects RX4 yX4_tooMuch yX4_tooMuch, Cond.code yX4_tooMuch cX4_tooMuch 2 (some .int), Cond.methodLink RX4 140 yX0_bearing, Cond.instanceMethod yX0_bearing, Cond.selects RX0 yX0_bearing yX0_bearing, Cond.code yX0_bearing cX0_bearing 2 (some .int), Cond.fieldLink RX0 21 "LeaningStreet$House" "wall" "I", Cond.fieldLink RX0 27 "LeaningStreet$House" "prop" "I"]
def wsX4_notHolding : List Cond := .code yX4_notHolding cX4_notHolding 3 (some .int) :: ((wsX4_notHolding_r1 ++ (wsX4_notHolding_r2 ++ wsX4_notHolding_r3)) ++ wsX40 ++ wsX00 ++ wsX50)
def wsX4_crackAndMove_r1 : List Cond := [Cond.fieldLink RX4 36 "LeaningStreet$Street" "many" "I", Cond.fieldLink RX4 11 "LeaningStreet$Street" "houses" "[LLeaningStreet$House;", Cond.fieldLink RX4 115 "LeaningStreet$House" "crack" "I", Cond.methodLink RX4 106 Lib.Math.min.name, Cond.static Lib.Math.min.name, Cond.initialized "java/lang/Math", Cond.code Lib.Math.min.name Lib.Math.min.code 2 (some .int), Cond.fieldLink RX4 69 "LeaningStreet$House" "lean" "I", Cond.fieldLink RX4 26 "LeaningStreet$Street" "thrusts" "[I", Cond.methodLink RX4 112 Lib.Math.max.name, Cond.static Lib.Math.max.name, Cond.code Lib.Math.max.name Lib.Math.max.code 2 (some .int), Cond.methodLink RX4 146 yX4_tooMuch, Cond.instanceMethod yX4_tooMuch, Cond.selects RX4 yX4_tooMuch yX4_tooMuch, Cond.initialized RX4, Cond.code yX4_tooMuch cX4_tooMuch 2 (some .int), Cond.fieldLink RX4 129 "LeaningStreet$House" "stands" "Z", Cond.methodLink RX4 118 Lib.Math.abs.name, Cond.static Lib.Math.abs.name, Cond.code Lib.Math.abs.name Lib.Math.abs.code 1 (some .int), Cond.methodLink RX4 140 yX0_bearing, Cond.instanceMethod yX0_bearing, Cond.selects RX0 yX0_bearing yX0_bearing]
def wsX4_crackAndMove_r2 : List Cond := [Cond.initialized RX0, Cond.code yX0_bearing cX0_bearing 2 (some .int), Cond.fieldLink RX0 21 "LeaningStreet$House" "wall" "I", Cond.fieldLink RX0 27 "LeaningStreet$House" "prop" "I", Cond.fieldLink RX0 9 "LeaningStreet$House" "kind" "I"]
def wsX4_crackAndMove : List Cond := .code yX4_crackAndMove cX4_crackAndMove 6 (some .boolean) :: ((wsX4_crackAndMove_r1 ++ wsX4_crackAndMove_r2) ++ wsX40 ++ wsX00)
def wsX4_fallByCracks : List Cond := .code yX4_fallByCracks cX4_fallByCracks 3 (some .boolean) :: ([.fieldLink RX4 36 "LeaningStreet$Street" "many" "I", .fieldLink RX4 11 "LeaningStreet$Street" "houses" "[LLeaningStreet$House;", .fieldLink RX4 129 "LeaningStreet$House" "stands" "Z", .fieldLink RX4 115 "LeaningStreet$House" "crack" "I", .methodLink RX4 162 yX0_fall, .instanceMethod yX0_fall, .selects RX0 yX0_fall yX0_fall, .initialized RX0, .code yX0_fall cX0_fall 1 none, .fieldLink RX0 30 "LeaningStreet$House" "stands" "Z", .fieldLink RX0 27 "LeaningStreet$House" "prop" "I"] ++ wsX40 ++ wsX00)
def wsX4_hasLostItsRest : List Cond := .code yX4_hasLostItsRest cX4_hasLostItsRest 3 (some .boolean) :: ([.fieldLink RX4 11 "LeaningStreet$Street" "houses" "[LLeaningStreet$House;", .fieldLink RX4 69 "LeaningStreet$House" "lean" "I", .fieldLink RX4 33 "LeaningStreet$Street" "greater" "[I", .fieldLink RX4 30 "LeaningStreet$Street" "lesser" "[I", .fieldLink RX4 129 "LeaningStreet$House" "stands" "Z"] ++ wsX40 ++ wsX00)
def wsX4_fallByNeighbours : List Cond := .code yX4_fallByNeighbours cX4_fallByNeighbours 4 none :: ([.fieldLink RX4 36 "LeaningStreet$Street" "many" "I", .fieldLink RX4 11 "LeaningStreet$Street" "houses" "[LLeaningStreet$House;", .fieldLink RX4 129 "LeaningStreet$House" "stands" "Z", .methodLink RX4 165 yX4_hasLostItsRest, .instanceMethod yX4_hasLostItsRest, .selects RX4 yX4_hasLostItsRest yX4_hasLostItsRest, .initialized RX4, .code yX4_hasLostItsRest cX4_hasLostItsRest 3 (some .boolean), .fieldLink RX4 69 "LeaningStreet$House" "lean" "I", .fieldLink RX4 33 "LeaningStreet$Street" "greater" "[I", .fieldLink RX4 30 "LeaningStreet$Street" "lesser" "[I", .methodLink RX4 162 yX0_fall, .instanceMethod yX0_fall, .selects RX0 yX0_fall yX0_fall, .initialized RX0, .code yX0_fall cX0_fall 1 none, .fieldLink RX0 30 "LeaningStreet$House" "stands" "Z", .fieldLink RX0 27 "LeaningStreet$House" "prop" "I"] ++ wsX40 ++ wsX00)
def wsX4_props : List Cond := .code yX4_props cX4_props 3 (some .int) :: ([.fieldLink RX4 36 "LeaningStreet$Street" "many" "I", .fieldLink RX4 11 "LeaningStreet$Street" "houses" "[LLeaningStreet$House;", .fieldLink RX4 75 "LeaningStreet$House" "prop" "I"] ++ wsX40 ++ wsX00)
def wsX4_goOneDay_r1 : List Cond := [Cond.fieldLink RX4 46 "LeaningStreet$Street" "rent" "I", Cond.fieldLink RX4 49 "LeaningStreet$Street" "day" "I", Cond.methodLink RX4 143 yX4_workOutThrusts, Cond.instanceMethod yX4_workOutThrusts, Cond.selects RX4 yX4_workOutThrusts yX4_workOutThrusts, Cond.initialized RX4, Cond.code yX4_workOutThrusts cX4_workOutThrusts 3 none, Cond.fieldLink RX4 36 "LeaningStreet$Street" "many" "I", Cond.fieldLink RX4 26 "LeaningStreet$Street" "thrusts" "[I", Cond.fieldLink RX4 30 "LeaningStreet$Street" "lesser" "[I", Cond.fieldLink RX4 33 "LeaningStreet$Street" "greater" "[I", Cond.fieldLink RX4 11 "LeaningStreet$Street" "houses" "[LLeaningStreet$House;", Cond.fieldLink RX4 129 "LeaningStreet$House" "stands" "Z", Cond.fieldLink RX4 43 "LeaningStreet$Street" "snow" "I", Cond.methodLink RX4 133 yX4_lean, Cond.instanceMethod yX4_lean, Cond.selects RX4 yX4_lean yX4_lean, Cond.code yX4_lean cX4_lean 3 none, Cond.fieldLink RX4 69 "LeaningStreet$House" "lean" "I", Cond.methodLink RX4 136 yX4_pushOf, Cond.instanceMethod yX4_pushOf, Cond.selects RX4 yX4_pushOf yX4_pushOf, Cond.code yX4_pushOf cX4_pushOf 4 (some .int), Cond.fieldLink RX4 23 "LeaningStreet$Street" "counting" "[LLeaningStreet$Text;"]
def wsX4_goOneDay_r2 : List Cond := [Cond.methodLink RX4 118 Lib.Math.abs.name, Cond.static Lib.Math.abs.name, Cond.initialized "java/lang/Math", Cond.code Lib.Math.abs.name Lib.Math.abs.code 1 (some .int), Cond.fieldLink RX4 66 "LeaningStreet$House" "weight" "I", Cond.fieldLink RX4 115 "LeaningStreet$House" "crack" "I", Cond.methodLink RX4 122 yX5_value, Cond.instanceMethod yX5_value, Cond.selects RX5 yX5_value yX5_value, Cond.initialized RX5, Cond.code yX5_value cX5_value 9 (some .int), Cond.fieldLink RX5 21 "LeaningStreet$Text" "code" "[I", Cond.fieldLink RX5 31 "LeaningStreet$Text" "stack" "[I", Cond.methodLink RX5 34 yX5_joined, Cond.static yX5_joined, Cond.code yX5_joined cX5_joined 3 (some .int), Cond.methodLink RX4 126 yX0_pushing, Cond.instanceMethod yX0_pushing, Cond.selects RX0 yX0_pushing yX0_pushing, Cond.initialized RX0, Cond.code yX0_pushing cX0_pushing 3 (some .int), Cond.methodLink RX0 38 Lib.Math.min.name, Cond.static Lib.Math.min.name, Cond.code Lib.Math.min.name Lib.Math.min.code 2 (some .int)]
def wsX4_goOneDay_r3 : List Cond := [Cond.methodLink RX0 44 Lib.Math.max.name, Cond.static Lib.Math.max.name, Cond.code Lib.Math.max.name Lib.Math.max.code 2 (some .int), Cond.fieldLink RX0 9 "LeaningStreet$House" "kind" "I", Cond.methodLink RX4 149 yX4_crackAndMove, Cond.instanceMethod yX4_crackAndMove, Cond.selects RX4 yX4_crackAndMove yX4_crackAndMove, Cond.code yX4_crackAndMove cX4_crackAndMove 6 (some .boolean), Cond.methodLink RX4 106 Lib.Math.min.name, Cond.methodLink RX4 112 Lib.Math.max.name, Cond.methodLink RX4 146 yX4_tooMuch, Cond.instanceMethod yX4_tooMuch, Cond.selects RX4 yX4_tooMuch yX4_tooMuch, Cond.code yX4_tooMuch cX4_tooMuch 2 (some .int), Cond.methodLink RX4 140 yX0_bearing, Cond.instanceMethod yX0_bearing, Cond.selects RX0 yX0_bearing yX0_bearing, Cond.code yX0_bearing cX0_bearing 2 (some .int), Cond.fieldLink RX0 21 "LeaningStreet$House" "wall" "I", Cond.fieldLink RX0 27 "LeaningStreet$House" "prop" "I", Cond.methodLink RX4 153 yX4_fallByCracks, Cond.instanceMethod yX4_fallByCracks, Cond.selects RX4 yX4_fallByCracks yX4_fallByCracks, Cond.code yX4_fallByCracks cX4_fallByCracks 3 (some .boolean)]
def wsX4_goOneDay_r4 : List Cond := [Cond.methodLink RX4 162 yX0_fall, Cond.instanceMethod yX0_fall, Cond.selects RX0 yX0_fall yX0_fall, Cond.code yX0_fall cX0_fall 1 none, Cond.fieldLink RX0 30 "LeaningStreet$House" "stands" "Z", Cond.methodLink RX4 156 yX4_fallByNeighbours, Cond.instanceMethod yX4_fallByNeighbours, Cond.selects RX4 yX4_fallByNeighbours yX4_fallByNeighbours, Cond.code yX4_fallByNeighbours cX4_fallByNeighbours 4 none, Cond.methodLink RX4 165 yX4_hasLostItsRest, Cond.instanceMethod yX4_hasLostItsRest, Cond.selects RX4 yX4_hasLostItsRest yX4_hasLostItsRest, Cond.code yX4_hasLostItsRest cX4_hasLostItsRest 3 (some .boolean), Cond.methodLink RX4 159 yX4_props, Cond.instanceMethod yX4_props, Cond.selects RX4 yX4_props yX4_props, Cond.code yX4_props cX4_props 3 (some .int), Cond.fieldLink RX4 75 "LeaningStreet$House" "prop" "I"]
def wsX4_goOneDay : List Cond := .code yX4_goOneDay cX4_goOneDay 3 (some .boolean) :: ((wsX4_goOneDay_r1 ++ (wsX4_goOneDay_r2 ++ (wsX4_goOneDay_r3 ++ wsX4_goOneDay_r4))) ++ wsX40 ++ wsX00 ++ wsX50)
def wsX4_goOn_r1 : List Cond := [Cond.fieldLink RX4 46 "LeaningStreet$Street" "rent" "I", Cond.fieldLink RX4 49 "LeaningStreet$Street" "day" "I", Cond.methodLink RX4 168 yX4_goOneDay, Cond.instanceMethod yX4_goOneDay, Cond.selects RX4 yX4_goOneDay yX4_goOneDay, Cond.initialized RX4, Cond.code yX4_goOneDay cX4_goOneDay 3 (some .boolean), Cond.methodLink RX4 143 yX4_workOutThrusts, Cond.instanceMethod yX4_workOutThrusts, Cond.selects RX4 yX4_workOutThrusts yX4_workOutThrusts, Cond.code yX4_workOutThrusts cX4_workOutThrusts 3 none, Cond.fieldLink RX4 36 "LeaningStreet$Street" "many" "I", Cond.fieldLink RX4 26 "LeaningStreet$Street" "thrusts" "[I", Cond.fieldLink RX4 30 "LeaningStreet$Street" "lesser" "[I", Cond.fieldLink RX4 33 "LeaningStreet$Street" "greater" "[I", Cond.fieldLink RX4 11 "LeaningStreet$Street" "houses" "[LLeaningStreet$House;", Cond.fieldLink RX4 129 "LeaningStreet$House" "stands" "Z", Cond.fieldLink RX4 43 "LeaningStreet$Street" "snow" "I", Cond.methodLink RX4 133 yX4_lean, Cond.instanceMethod yX4_lean, Cond.selects RX4 yX4_lean yX4_lean, Cond.code yX4_lean cX4_lean 3 none, Cond.fieldLink RX4 69 "LeaningStreet$House" "lean" "I", Cond.methodLink RX4 136 yX4_pushOf]
def wsX4_goOn_r2 : List Cond := [Cond.instanceMethod yX4_pushOf, Cond.selects RX4 yX4_pushOf yX4_pushOf, Cond.code yX4_pushOf cX4_pushOf 4 (some .int), Cond.fieldLink RX4 23 "LeaningStreet$Street" "counting" "[LLeaningStreet$Text;", Cond.methodLink RX4 118 Lib.Math.abs.name, Cond.static Lib.Math.abs.name, Cond.initialized "java/lang/Math", Cond.code Lib.Math.abs.name Lib.Math.abs.code 1 (some .int), Cond.fieldLink RX4 66 "LeaningStreet$House" "weight" "I", Cond.fieldLink RX4 115 "LeaningStreet$House" "crack" "I", Cond.methodLink RX4 122 yX5_value, Cond.instanceMethod yX5_value, Cond.selects RX5 yX5_value yX5_value, Cond.initialized RX5, Cond.code yX5_value cX5_value 9 (some .int), Cond.fieldLink RX5 21 "LeaningStreet$Text" "code" "[I", Cond.fieldLink RX5 31 "LeaningStreet$Text" "stack" "[I", Cond.methodLink RX5 34 yX5_joined, Cond.static yX5_joined, Cond.code yX5_joined cX5_joined 3 (some .int), Cond.methodLink RX4 126 yX0_pushing, Cond.instanceMethod yX0_pushing, Cond.selects RX0 yX0_pushing yX0_pushing, Cond.initialized RX0]
def wsX4_goOn_r3 : List Cond := [Cond.code yX0_pushing cX0_pushing 3 (some .int), Cond.methodLink RX0 38 Lib.Math.min.name, Cond.static Lib.Math.min.name, Cond.code Lib.Math.min.name Lib.Math.min.code 2 (some .int), Cond.methodLink RX0 44 Lib.Math.max.name, Cond.static Lib.Math.max.name, Cond.code Lib.Math.max.name Lib.Math.max.code 2 (some .int), Cond.fieldLink RX0 9 "LeaningStreet$House" "kind" "I", Cond.methodLink RX4 149 yX4_crackAndMove, Cond.instanceMethod yX4_crackAndMove, Cond.selects RX4 yX4_crackAndMove yX4_crackAndMove, Cond.code yX4_crackAndMove cX4_crackAndMove 6 (some .boolean), Cond.methodLink RX4 106 Lib.Math.min.name, Cond.methodLink RX4 112 Lib.Math.max.name, Cond.methodLink RX4 146 yX4_tooMuch, Cond.instanceMethod yX4_tooMuch, Cond.selects RX4 yX4_tooMuch yX4_tooMuch, Cond.code yX4_tooMuch cX4_tooMuch 2 (some .int), Cond.methodLink RX4 140 yX0_bearing, Cond.instanceMethod yX0_bearing, Cond.selects RX0 yX0_bearing yX0_bearing, Cond.code yX0_bearing cX0_bearing 2 (some .int), Cond.fieldLink RX0 21 "LeaningStreet$House" "wall" "I", Cond.fieldLink RX0 27 "LeaningStreet$House" "prop" "I"]
def wsX4_goOn_r4 : List Cond := [Cond.methodLink RX4 153 yX4_fallByCracks, Cond.instanceMethod yX4_fallByCracks, Cond.selects RX4 yX4_fallByCracks yX4_fallByCracks, Cond.code yX4_fallByCracks cX4_fallByCracks 3 (some .boolean), Cond.methodLink RX4 162 yX0_fall, Cond.instanceMethod yX0_fall, Cond.selects RX0 yX0_fall yX0_fall, Cond.code yX0_fall cX0_fall 1 none, Cond.fieldLink RX0 30 "LeaningStreet$House" "stands" "Z", Cond.methodLink RX4 156 yX4_fallByNeighbours, Cond.instanceMethod yX4_fallByNeighbours, Cond.selects RX4 yX4_fallByNeighbours yX4_fallByNeighbours, Cond.code yX4_fallByNeighbours cX4_fallByNeighbours 4 none, Cond.methodLink RX4 165 yX4_hasLostItsRest, Cond.instanceMethod yX4_hasLostItsRest, Cond.selects RX4 yX4_hasLostItsRest yX4_hasLostItsRest, Cond.code yX4_hasLostItsRest cX4_hasLostItsRest 3 (some .boolean), Cond.methodLink RX4 159 yX4_props, Cond.instanceMethod yX4_props, Cond.selects RX4 yX4_props yX4_props, Cond.code yX4_props cX4_props 3 (some .int), Cond.fieldLink RX4 75 "LeaningStreet$House" "prop" "I"]
def wsX4_goOn : List Cond := .code yX4_goOn cX4_goOn 3 none :: ((wsX4_goOn_r1 ++ (wsX4_goOn_r2 ++ (wsX4_goOn_r3 ++ wsX4_goOn_r4))) ++ wsX40 ++ wsX00 ++ wsX50)
def wsX4_standing : List Cond := .code yX4_standing cX4_standing 3 (some .int) :: ([.fieldLink RX4 36 "LeaningStreet$Street" "many" "I", .fieldLink RX4 11 "LeaningStreet$Street" "houses" "[LLeaningStreet$House;", .fieldLink RX4 129 "LeaningStreet$House" "stands" "Z"] ++ wsX40 ++ wsX00)
def wsJ6_bitCount_0f7a4 : List Cond := .code yJ6_bitCount_0f7a4 cJ6_bitCount_0f7a4 1 (some .int) :: ([.constant RJ6 265 (1431655765), .constant RJ6 266 (858993459), .constant RJ6 267 (252645135)])
def wsX4_howManyStand : List Cond := .code yX4_howManyStand cX4_howManyStand 1 (some .int) :: ([.methodLink RX4 174 yX4_standing, .instanceMethod yX4_standing, .selects RX4 yX4_standing yX4_standing, .initialized RX4, .code yX4_standing cX4_standing 3 (some .int), .fieldLink RX4 36 "LeaningStreet$Street" "many" "I", .fieldLink RX4 11 "LeaningStreet$Street" "houses" "[LLeaningStreet$House;", .fieldLink RX4 129 "LeaningStreet$House" "stands" "Z", .methodLink RX4 177 yJ6_bitCount_0f7a4, .static yJ6_bitCount_0f7a4, .initialized RJ6, .code yJ6_bitCount_0f7a4 cJ6_bitCount_0f7a4 1 (some .int), .constant RJ6 265 (1431655765), .constant RJ6 266 (858993459), .constant RJ6 267 (252645135)] ++ wsX40 ++ wsX00)
def wsX4_firstFall_r1 : List Cond := [Cond.methodLink RX4 171 yX4_howManyStand, Cond.instanceMethod yX4_howManyStand, Cond.selects RX4 yX4_howManyStand yX4_howManyStand, Cond.initialized RX4, Cond.code yX4_howManyStand cX4_howManyStand 1 (some .int), Cond.methodLink RX4 174 yX4_standing, Cond.instanceMethod yX4_standing, Cond.selects RX4 yX4_standing yX4_standing, Cond.code yX4_standing cX4_standing 3 (some .int), Cond.fieldLink RX4 36 "LeaningStreet$Street" "many" "I", Cond.fieldLink RX4 11 "LeaningStreet$Street" "houses" "[LLeaningStreet$House;", Cond.fieldLink RX4 129 "LeaningStreet$House" "stands" "Z", Cond.methodLink RX4 177 yJ6_bitCount_0f7a4, Cond.static yJ6_bitCount_0f7a4, Cond.initialized RJ6, Cond.code yJ6_bitCount_0f7a4 cJ6_bitCount_0f7a4 1 (some .int), Cond.constant RJ6 265 (1431655765), Cond.constant RJ6 266 (858993459), Cond.constant RJ6 267 (252645135), Cond.methodLink RX4 168 yX4_goOneDay, Cond.instanceMethod yX4_goOneDay, Cond.selects RX4 yX4_goOneDay yX4_goOneDay, Cond.code yX4_goOneDay cX4_goOneDay 3 (some .boolean), Cond.fieldLink RX4 46 "LeaningStreet$Street" "rent" "I"]
def wsX4_firstFall_r2 : List Cond := [Cond.fieldLink RX4 49 "LeaningStreet$Street" "day" "I", Cond.methodLink RX4 143 yX4_workOutThrusts, Cond.instanceMethod yX4_workOutThrusts, Cond.selects RX4 yX4_workOutThrusts yX4_workOutThrusts, Cond.code yX4_workOutThrusts cX4_workOutThrusts 3 none, Cond.fieldLink RX4 26 "LeaningStreet$Street" "thrusts" "[I", Cond.fieldLink RX4 30 "LeaningStreet$Street" "lesser" "[I", Cond.fieldLink RX4 33 "LeaningStreet$Street" "greater" "[I", Cond.fieldLink RX4 43 "LeaningStreet$Street" "snow" "I", Cond.methodLink RX4 133 yX4_lean, Cond.instanceMethod yX4_lean, Cond.selects RX4 yX4_lean yX4_lean, Cond.code yX4_lean cX4_lean 3 none, Cond.fieldLink RX4 69 "LeaningStreet$House" "lean" "I", Cond.methodLink RX4 136 yX4_pushOf, Cond.instanceMethod yX4_pushOf, Cond.selects RX4 yX4_pushOf yX4_pushOf, Cond.code yX4_pushOf cX4_pushOf 4 (some .int), Cond.fieldLink RX4 23 "LeaningStreet$Street" "counting" "[LLeaningStreet$Text;", Cond.methodLink RX4 118 Lib.Math.abs.name, Cond.static Lib.Math.abs.name, Cond.initialized "java/lang/Math", Cond.code Lib.Math.abs.name Lib.Math.abs.code 1 (some .int), Cond.fieldLink RX4 66 "LeaningStreet$House" "weight" "I"]
def wsX4_firstFall_r3 : List Cond := [Cond.fieldLink RX4 115 "LeaningStreet$House" "crack" "I", Cond.methodLink RX4 122 yX5_value, Cond.instanceMethod yX5_value, Cond.selects RX5 yX5_value yX5_value, Cond.initialized RX5, Cond.code yX5_value cX5_value 9 (some .int), Cond.fieldLink RX5 21 "LeaningStreet$Text" "code" "[I", Cond.fieldLink RX5 31 "LeaningStreet$Text" "stack" "[I", Cond.methodLink RX5 34 yX5_joined, Cond.static yX5_joined, Cond.code yX5_joined cX5_joined 3 (some .int), Cond.methodLink RX4 126 yX0_pushing, Cond.instanceMethod yX0_pushing, Cond.selects RX0 yX0_pushing yX0_pushing, Cond.initialized RX0, Cond.code yX0_pushing cX0_pushing 3 (some .int), Cond.methodLink RX0 38 Lib.Math.min.name, Cond.static Lib.Math.min.name, Cond.code Lib.Math.min.name Lib.Math.min.code 2 (some .int), Cond.methodLink RX0 44 Lib.Math.max.name, Cond.static Lib.Math.max.name, Cond.code Lib.Math.max.name Lib.Math.max.code 2 (some .int), Cond.fieldLink RX0 9 "LeaningStreet$House" "kind" "I", Cond.methodLink RX4 149 yX4_crackAndMove]
def wsX4_firstFall_r4 : List Cond := [Cond.instanceMethod yX4_crackAndMove, Cond.selects RX4 yX4_crackAndMove yX4_crackAndMove, Cond.code yX4_crackAndMove cX4_crackAndMove 6 (some .boolean), Cond.methodLink RX4 106 Lib.Math.min.name, Cond.methodLink RX4 112 Lib.Math.max.name, Cond.methodLink RX4 146 yX4_tooMuch, Cond.instanceMethod yX4_tooMuch, Cond.selects RX4 yX4_tooMuch yX4_tooMuch, Cond.code yX4_tooMuch cX4_tooMuch 2 (some .int), Cond.methodLink RX4 140 yX0_bearing, Cond.instanceMethod yX0_bearing, Cond.selects RX0 yX0_bearing yX0_bearing, Cond.code yX0_bearing cX0_bearing 2 (some .int), Cond.fieldLink RX0 21 "LeaningStreet$House" "wall" "I", Cond.fieldLink RX0 27 "LeaningStreet$House" "prop" "I", Cond.methodLink RX4 153 yX4_fallByCracks, Cond.instanceMethod yX4_fallByCracks, Cond.selects RX4 yX4_fallByCracks yX4_fallByCracks, Cond.code yX4_fallByCracks cX4_fallByCracks 3 (some .boolean), Cond.methodLink RX4 162 yX0_fall, Cond.instanceMethod yX0_fall, Cond.selects RX0 yX0_fall yX0_fall, Cond.code yX0_fall cX0_fall 1 none, Cond.fieldLink RX0 30 "LeaningStreet$House" "stands" "Z"]
def wsX4_firstFall_r5 : List Cond := [Cond.methodLink RX4 156 yX4_fallByNeighbours, Cond.instanceMethod yX4_fallByNeighbours, Cond.selects RX4 yX4_fallByNeighbours yX4_fallByNeighbours, Cond.code yX4_fallByNeighbours cX4_fallByNeighbours 4 none, Cond.methodLink RX4 165 yX4_hasLostItsRest, Cond.instanceMethod yX4_hasLostItsRest, Cond.selects RX4 yX4_hasLostItsRest yX4_hasLostItsRest, Cond.code yX4_hasLostItsRest cX4_hasLostItsRest 3 (some .boolean), Cond.methodLink RX4 159 yX4_props, Cond.instanceMethod yX4_props, Cond.selects RX4 yX4_props yX4_props, Cond.code yX4_props cX4_props 3 (some .int), Cond.fieldLink RX4 75 "LeaningStreet$House" "prop" "I"]
def wsX4_firstFall : List Cond := .code yX4_firstFall cX4_firstFall 5 (some .int) :: ((wsX4_firstFall_r1 ++ (wsX4_firstFall_r2 ++ (wsX4_firstFall_r3 ++ (wsX4_firstFall_r4 ++ wsX4_firstFall_r5)))) ++ wsX40 ++ wsX00 ++ wsX50)
def wsX4_crackedSince : List Cond := .code yX4_crackedSince cX4_crackedSince 4 (some .int) :: ([.fieldLink RX4 36 "LeaningStreet$Street" "many" "I", .fieldLink RX4 11 "LeaningStreet$Street" "houses" "[LLeaningStreet$House;", .fieldLink RX4 115 "LeaningStreet$House" "crack" "I"] ++ wsX40 ++ wsX00)
def wsX4_cracks : List Cond := .code yX4_cracks cX4_cracks 3 (some .int) :: ([.fieldLink RX4 36 "LeaningStreet$Street" "many" "I", .fieldLink RX4 11 "LeaningStreet$Street" "houses" "[LLeaningStreet$House;", .fieldLink RX4 115 "LeaningStreet$House" "crack" "I"] ++ wsX40 ++ wsX00)
def wsX6_init_r1 : List Cond := [Cond.methodLink RX6 1 objectInit, Cond.instanceMethod objectInit, Cond.code objectInit ⟨#[0xb1]⟩ 1 none, Cond.classLink RX6 7 RX4, Cond.instantiable RX4 12, Cond.initialized RX4, Cond.fieldLink RX6 10 "LeaningStreet" "now" "LLeaningStreet$Street;", Cond.fieldLink RX6 16 "LeaningStreet" "image" "LLeaningStreet$Street;", Cond.fieldLink RX6 19 "LeaningStreet" "thought" "LLeaningStreet$Street;", Cond.classLink RX6 22 RX1, Cond.instantiable RX1 9, Cond.initialized RX1, Cond.fieldLink RX6 25 "LeaningStreet" "tape" "LLeaningStreet$Reader;", Cond.classLink RX6 29 RX2, Cond.fieldLink RX6 31 "LeaningStreet" "sheets" "[LLeaningStreet$Row;", Cond.classLink RX6 35 RX3, Cond.fieldLink RX6 37 "LeaningStreet" "slots" "[LLeaningStreet$Slot;", Cond.arrayClass .int, Cond.fieldLink RX6 41 "LeaningStreet" "waiting" "[I", Cond.fieldLink RX6 45 "LeaningStreet" "waits" "I", Cond.fieldLink RX6 49 "LeaningStreet" "kept" "Z", Cond.instantiable RX2 3, Cond.initialized RX2, Cond.instantiable RX3 4]
def wsX6_init_r2 : List Cond := [Cond.initialized RX3, Cond.methodLink RX6 9 yX4_init, Cond.instanceMethod yX4_init, Cond.code yX4_init cX4_init 2 none, Cond.methodLink RX4 3 objectInit, Cond.classLink RX4 9 RX0, Cond.fieldLink RX4 11 "LeaningStreet$Street" "houses" "[LLeaningStreet$House;", Cond.classLink RX4 17 RX5, Cond.fieldLink RX4 19 "LeaningStreet$Street" "allTexts" "[LLeaningStreet$Text;", Cond.fieldLink RX4 23 "LeaningStreet$Street" "counting" "[LLeaningStreet$Text;", Cond.fieldLink RX4 26 "LeaningStreet$Street" "thrusts" "[I", Cond.fieldLink RX4 30 "LeaningStreet$Street" "lesser" "[I", Cond.fieldLink RX4 33 "LeaningStreet$Street" "greater" "[I", Cond.fieldLink RX4 36 "LeaningStreet$Street" "many" "I", Cond.fieldLink RX4 40 "LeaningStreet$Street" "texts" "I", Cond.fieldLink RX4 43 "LeaningStreet$Street" "snow" "I", Cond.fieldLink RX4 46 "LeaningStreet$Street" "rent" "I", Cond.fieldLink RX4 49 "LeaningStreet$Street" "day" "I", Cond.fieldLink RX4 52 "LeaningStreet$Street" "z" "I", Cond.instantiable RX0 7, Cond.initialized RX0, Cond.instanceMethod yX0_init, Cond.code yX0_init cX0_init 1 none, Cond.methodLink RX0 3 objectInit]
def wsX6_init_r3 : List Cond := [Cond.instanceMethod yX1_init, Cond.code yX1_init cX1_init 1 none, Cond.methodLink RX1 3 objectInit, Cond.fieldLink RX1 9 "LeaningStreet$Reader" "bytes" "[I", Cond.fieldLink RX1 15 "LeaningStreet$Reader" "many" "I", Cond.fieldLink RX1 19 "LeaningStreet$Reader" "start" "I", Cond.fieldLink RX1 22 "LeaningStreet$Reader" "end" "I", Cond.fieldLink RX1 25 "LeaningStreet$Reader" "sort" "I", Cond.fieldLink RX1 28 "LeaningStreet$Reader" "key" "I", Cond.fieldLink RX1 31 "LeaningStreet$Reader" "code" "[I", Cond.fieldLink RX1 34 "LeaningStreet$Reader" "steps" "I", Cond.fieldLink RX1 37 "LeaningStreet$Reader" "pieces" "I", Cond.instanceMethod yX2_init, Cond.code yX2_init cX2_init 1 none, Cond.methodLink RX2 3 objectInit, Cond.fieldLink RX2 9 "LeaningStreet$Row" "places" "[I", Cond.fieldLink RX2 15 "LeaningStreet$Row" "sort" "I", Cond.fieldLink RX2 19 "LeaningStreet$Row" "many" "I", Cond.instanceMethod yX3_init, Cond.code yX3_init cX3_init 1 none, Cond.methodLink RX3 3 objectInit, Cond.fieldLink RX3 9 "LeaningStreet$Slot" "thing" "I", Cond.fieldLink RX3 15 "LeaningStreet$Slot" "number" "I", Cond.classLink RX3 18 RX0]
def wsX6_init_r4 : List Cond := [Cond.fieldLink RX3 21 "LeaningStreet$Slot" "house" "LLeaningStreet$House;", Cond.classLink RX3 25 RX2, Cond.fieldLink RX3 28 "LeaningStreet$Slot" "row" "LLeaningStreet$Row;"]
def wsX6_init : List Cond := .code yX6_init cX6_init 2 none :: ((wsX6_init_r1 ++ (wsX6_init_r2 ++ (wsX6_init_r3 ++ wsX6_init_r4))) ++ wsX40 ++ wsX60 ++ wsX10 ++ wsX20 ++ wsX30 ++ wsX00)
def wsX6_fits : List Cond := .code yX6_fits cX6_fits 2 (some .boolean) :: ([.fieldLink RX6 306 "LeaningStreet" "LEAST" "[I", .fieldLink RX6 181 "LeaningStreet" "MOST" "[I"])
def wsX6_house_r1 : List Cond := [Cond.constant RX6 59 (-1000000001), Cond.fieldLink RX6 10 "LeaningStreet" "now" "LLeaningStreet$Street;", Cond.fieldLink RX6 60 "LeaningStreet$Street" "many" "I", Cond.constant RX6 63 (-1000000003), Cond.methodLink RX6 55 yX6_fits, Cond.static yX6_fits, Cond.initialized RX6, Cond.code yX6_fits cX6_fits 2 (some .boolean), Cond.fieldLink RX6 306 "LeaningStreet" "LEAST" "[I", Cond.fieldLink RX6 181 "LeaningStreet" "MOST" "[I", Cond.methodLink RX6 64 yX4_build, Cond.instanceMethod yX4_build, Cond.selects RX4 yX4_build yX4_build, Cond.initialized RX4, Cond.code yX4_build cX4_build 6 none, Cond.fieldLink RX4 36 "LeaningStreet$Street" "many" "I", Cond.fieldLink RX4 11 "LeaningStreet$Street" "houses" "[LLeaningStreet$House;", Cond.fieldLink RX4 63 "LeaningStreet$House" "kind" "I", Cond.fieldLink RX4 66 "LeaningStreet$House" "weight" "I", Cond.fieldLink RX4 69 "LeaningStreet$House" "lean" "I", Cond.fieldLink RX4 72 "LeaningStreet$House" "wall" "I", Cond.fieldLink RX4 75 "LeaningStreet$House" "prop" "I", Cond.methodLink RX4 60 yX0_rise, Cond.instanceMethod yX0_rise]
def wsX6_house_r2 : List Cond := [Cond.selects RX0 yX0_rise yX0_rise, Cond.initialized RX0, Cond.code yX0_rise cX0_rise 1 none, Cond.fieldLink RX0 30 "LeaningStreet$House" "stands" "Z", Cond.fieldLink RX0 18 "LeaningStreet$House" "lean" "I", Cond.fieldLink RX0 24 "LeaningStreet$House" "crack" "I"]
def wsX6_house : List Cond := .code yX6_house cX6_house 5 (some .int) :: ((wsX6_house_r1 ++ wsX6_house_r2) ++ wsX60 ++ wsX40 ++ wsX00)
def wsX6_isHouse : List Cond := .code yX6_isHouse cX6_isHouse 2 (some .boolean) :: ([.fieldLink RX6 10 "LeaningStreet" "now" "LLeaningStreet$Street;", .fieldLink RX6 60 "LeaningStreet$Street" "many" "I"] ++ wsX60 ++ wsX40)
def wsX6_told_r1 : List Cond := [Cond.constant RX6 59 (-1000000001), Cond.fieldLink RX6 10 "LeaningStreet" "now" "LLeaningStreet$Street;", Cond.fieldLink RX6 72 "LeaningStreet$Street" "houses" "[LLeaningStreet$House;", Cond.fieldLink RX6 76 "LeaningStreet$House" "stands" "Z", Cond.fieldLink RX6 92 "LeaningStreet$Street" "thrusts" "[I", Cond.methodLink RX6 68 yX6_isHouse, Cond.instanceMethod yX6_isHouse, Cond.selects RX6 yX6_isHouse yX6_isHouse, Cond.initialized RX6, Cond.code yX6_isHouse cX6_isHouse 2 (some .boolean), Cond.fieldLink RX6 60 "LeaningStreet$Street" "many" "I", Cond.methodLink RX6 81 yX4_pushOf, Cond.instanceMethod yX4_pushOf, Cond.selects RX4 yX4_pushOf yX4_pushOf, Cond.initialized RX4, Cond.code yX4_pushOf cX4_pushOf 4 (some .int), Cond.fieldLink RX4 23 "LeaningStreet$Street" "counting" "[LLeaningStreet$Text;", Cond.fieldLink RX4 69 "LeaningStreet$House" "lean" "I", Cond.methodLink RX4 118 Lib.Math.abs.name, Cond.static Lib.Math.abs.name, Cond.initialized "java/lang/Math", Cond.code Lib.Math.abs.name Lib.Math.abs.code 1 (some .int), Cond.fieldLink RX4 66 "LeaningStreet$House" "weight" "I", Cond.fieldLink RX4 115 "LeaningStreet$House" "crack" "I"]
def wsX6_told_r2 : List Cond := [Cond.methodLink RX4 122 yX5_value, Cond.instanceMethod yX5_value, Cond.selects RX5 yX5_value yX5_value, Cond.initialized RX5, Cond.code yX5_value cX5_value 9 (some .int), Cond.fieldLink RX5 21 "LeaningStreet$Text" "code" "[I", Cond.fieldLink RX5 31 "LeaningStreet$Text" "stack" "[I", Cond.methodLink RX5 34 yX5_joined, Cond.static yX5_joined, Cond.code yX5_joined cX5_joined 3 (some .int), Cond.methodLink RX4 126 yX0_pushing, Cond.instanceMethod yX0_pushing, Cond.selects RX0 yX0_pushing yX0_pushing, Cond.initialized RX0, Cond.code yX0_pushing cX0_pushing 3 (some .int), Cond.methodLink RX0 38 Lib.Math.min.name, Cond.static Lib.Math.min.name, Cond.code Lib.Math.min.name Lib.Math.min.code 2 (some .int), Cond.methodLink RX0 44 Lib.Math.max.name, Cond.static Lib.Math.max.name, Cond.code Lib.Math.max.name Lib.Math.max.code 2 (some .int), Cond.fieldLink RX0 9 "LeaningStreet$House" "kind" "I", Cond.methodLink RX6 85 yX0_bearing, Cond.instanceMethod yX0_bearing]
def wsX6_told_r3 : List Cond := [Cond.selects RX0 yX0_bearing yX0_bearing, Cond.code yX0_bearing cX0_bearing 2 (some .int), Cond.fieldLink RX0 21 "LeaningStreet$House" "wall" "I", Cond.fieldLink RX0 27 "LeaningStreet$House" "prop" "I", Cond.methodLink RX6 89 yX4_workOutThrusts, Cond.instanceMethod yX4_workOutThrusts, Cond.selects RX4 yX4_workOutThrusts yX4_workOutThrusts, Cond.code yX4_workOutThrusts cX4_workOutThrusts 3 none, Cond.fieldLink RX4 36 "LeaningStreet$Street" "many" "I", Cond.fieldLink RX4 26 "LeaningStreet$Street" "thrusts" "[I", Cond.fieldLink RX4 30 "LeaningStreet$Street" "lesser" "[I", Cond.fieldLink RX4 33 "LeaningStreet$Street" "greater" "[I", Cond.fieldLink RX4 11 "LeaningStreet$Street" "houses" "[LLeaningStreet$House;", Cond.fieldLink RX4 129 "LeaningStreet$House" "stands" "Z", Cond.fieldLink RX4 43 "LeaningStreet$Street" "snow" "I", Cond.methodLink RX4 133 yX4_lean, Cond.instanceMethod yX4_lean, Cond.selects RX4 yX4_lean yX4_lean, Cond.code yX4_lean cX4_lean 3 none, Cond.methodLink RX4 136 yX4_pushOf, Cond.methodLink RX6 95 yX0_worth, Cond.instanceMethod yX0_worth, Cond.selects RX0 yX0_worth yX0_worth, Cond.code yX0_worth cX0_worth 1 (some .int)]
def wsX6_told_r4 : List Cond := [Cond.methodLink RX6 98 yX0_part, Cond.instanceMethod yX0_part, Cond.selects RX0 yX0_part yX0_part, Cond.code yX0_part cX0_part 2 (some .int), Cond.fieldLink RX0 15 "LeaningStreet$House" "weight" "I", Cond.fieldLink RX0 18 "LeaningStreet$House" "lean" "I", Cond.fieldLink RX0 24 "LeaningStreet$House" "crack" "I"]
def wsX6_told : List Cond := .code yX6_told cX6_told 4 (some .int) :: ((wsX6_told_r1 ++ (wsX6_told_r2 ++ (wsX6_told_r3 ++ wsX6_told_r4))) ++ wsX60 ++ wsX40 ++ wsX00 ++ wsX50)
def wsX6_isKind : List Cond := .code yX6_isKind cX6_isKind 1 (some .boolean) :: ([])
def wsX6_as : List Cond := .code yX6_as cX6_as 3 (some .int) :: ([.constant RX6 59 (-1000000001), .fieldLink RX6 10 "LeaningStreet" "now" "LLeaningStreet$Street;", .fieldLink RX6 72 "LeaningStreet$Street" "houses" "[LLeaningStreet$House;", .fieldLink RX6 108 "LeaningStreet$House" "wall" "I", .constant RX6 111 (-1000000012), .methodLink RX6 68 yX6_isHouse, .instanceMethod yX6_isHouse, .selects RX6 yX6_isHouse yX6_isHouse, .initialized RX6, .code yX6_isHouse cX6_isHouse 2 (some .boolean), .fieldLink RX6 60 "LeaningStreet$Street" "many" "I", .methodLink RX6 102 yX6_isKind, .static yX6_isKind, .code yX6_isKind cX6_isKind 1 (some .boolean), .methodLink RX6 105 yX0_isOf, .instanceMethod yX0_isOf, .selects RX0 yX0_isOf yX0_isOf, .initialized RX0, .code yX0_isOf cX0_isOf 4 (some .boolean), .fieldLink RX0 9 "LeaningStreet$House" "kind" "I"] ++ wsX60 ++ wsX40 ++ wsX00)
def wsX6_turns : List Cond := .code yX6_turns cX6_turns 4 (some .int) :: ([.constant RX6 59 (-1000000001), .fieldLink RX6 10 "LeaningStreet" "now" "LLeaningStreet$Street;", .fieldLink RX6 72 "LeaningStreet$Street" "houses" "[LLeaningStreet$House;", .fieldLink RX6 112 "LeaningStreet$House" "kind" "I", .methodLink RX6 68 yX6_isHouse, .instanceMethod yX6_isHouse, .selects RX6 yX6_isHouse yX6_isHouse, .initialized RX6, .code yX6_isHouse cX6_isHouse 2 (some .boolean), .fieldLink RX6 60 "LeaningStreet$Street" "many" "I", .methodLink RX6 102 yX6_isKind, .static yX6_isKind, .code yX6_isKind cX6_isKind 1 (some .boolean)] ++ wsX60 ++ wsX40 ++ wsX00)
def wsX6_set_r1 : List Cond := [Cond.constant RX6 59 (-1000000001), Cond.fieldLink RX6 10 "LeaningStreet" "now" "LLeaningStreet$Street;", Cond.fieldLink RX6 72 "LeaningStreet$Street" "houses" "[LLeaningStreet$House;", Cond.methodLink RX6 68 yX6_isHouse, Cond.instanceMethod yX6_isHouse, Cond.selects RX6 yX6_isHouse yX6_isHouse, Cond.initialized RX6, Cond.code yX6_isHouse cX6_isHouse 2 (some .boolean), Cond.fieldLink RX6 60 "LeaningStreet$Street" "many" "I", Cond.methodLink RX6 55 yX6_fits, Cond.static yX6_fits, Cond.code yX6_fits cX6_fits 2 (some .boolean), Cond.fieldLink RX6 306 "LeaningStreet" "LEAST" "[I", Cond.fieldLink RX6 181 "LeaningStreet" "MOST" "[I", Cond.methodLink RX6 98 yX0_part, Cond.instanceMethod yX0_part, Cond.selects RX0 yX0_part yX0_part, Cond.initialized RX0, Cond.code yX0_part cX0_part 2 (some .int), Cond.fieldLink RX0 9 "LeaningStreet$House" "kind" "I", Cond.fieldLink RX0 15 "LeaningStreet$House" "weight" "I", Cond.fieldLink RX0 18 "LeaningStreet$House" "lean" "I", Cond.fieldLink RX0 21 "LeaningStreet$House" "wall" "I", Cond.fieldLink RX0 24 "LeaningStreet$House" "crack" "I"]
def wsX6_set_r2 : List Cond := [Cond.fieldLink RX0 27 "LeaningStreet$House" "prop" "I", Cond.methodLink RX6 115 yX0_becomes, Cond.instanceMethod yX0_becomes, Cond.selects RX0 yX0_becomes yX0_becomes, Cond.code yX0_becomes cX0_becomes 3 none]
def wsX6_set : List Cond := .code yX6_set cX6_set 5 (some .int) :: ((wsX6_set_r1 ++ wsX6_set_r2) ++ wsX60 ++ wsX40 ++ wsX00)
def wsX6_fells_r1 : List Cond := [Cond.constant RX6 59 (-1000000001), Cond.fieldLink RX6 10 "LeaningStreet" "now" "LLeaningStreet$Street;", Cond.fieldLink RX6 72 "LeaningStreet$Street" "houses" "[LLeaningStreet$House;", Cond.fieldLink RX6 76 "LeaningStreet$House" "stands" "Z", Cond.constant RX6 119 (-1000000002), Cond.methodLink RX6 68 yX6_isHouse, Cond.instanceMethod yX6_isHouse, Cond.selects RX6 yX6_isHouse yX6_isHouse, Cond.initialized RX6, Cond.code yX6_isHouse cX6_isHouse 2 (some .boolean), Cond.fieldLink RX6 60 "LeaningStreet$Street" "many" "I", Cond.methodLink RX6 120 yX0_fall, Cond.instanceMethod yX0_fall, Cond.selects RX0 yX0_fall yX0_fall, Cond.initialized RX0, Cond.code yX0_fall cX0_fall 1 none, Cond.fieldLink RX0 30 "LeaningStreet$House" "stands" "Z", Cond.fieldLink RX0 27 "LeaningStreet$House" "prop" "I", Cond.methodLink RX6 123 yX4_howManyStand, Cond.instanceMethod yX4_howManyStand, Cond.selects RX4 yX4_howManyStand yX4_howManyStand, Cond.initialized RX4, Cond.code yX4_howManyStand cX4_howManyStand 1 (some .int), Cond.methodLink RX4 174 yX4_standing]
def wsX6_fells_r2 : List Cond := [Cond.instanceMethod yX4_standing, Cond.selects RX4 yX4_standing yX4_standing, Cond.code yX4_standing cX4_standing 3 (some .int), Cond.fieldLink RX4 36 "LeaningStreet$Street" "many" "I", Cond.fieldLink RX4 11 "LeaningStreet$Street" "houses" "[LLeaningStreet$House;", Cond.fieldLink RX4 129 "LeaningStreet$House" "stands" "Z", Cond.methodLink RX4 177 yJ6_bitCount_0f7a4, Cond.static yJ6_bitCount_0f7a4, Cond.initialized RJ6, Cond.code yJ6_bitCount_0f7a4 cJ6_bitCount_0f7a4 1 (some .int), Cond.constant RJ6 265 (1431655765), Cond.constant RJ6 266 (858993459), Cond.constant RJ6 267 (252645135)]
def wsX6_fells : List Cond := .code yX6_fells cX6_fells 2 (some .int) :: ((wsX6_fells_r1 ++ wsX6_fells_r2) ++ wsX60 ++ wsX40 ++ wsX00)
def wsX6_raises_r1 : List Cond := [Cond.constant RX6 59 (-1000000001), Cond.fieldLink RX6 10 "LeaningStreet" "now" "LLeaningStreet$Street;", Cond.fieldLink RX6 72 "LeaningStreet$Street" "houses" "[LLeaningStreet$House;", Cond.fieldLink RX6 76 "LeaningStreet$House" "stands" "Z", Cond.constant RX6 119 (-1000000002), Cond.methodLink RX6 68 yX6_isHouse, Cond.instanceMethod yX6_isHouse, Cond.selects RX6 yX6_isHouse yX6_isHouse, Cond.initialized RX6, Cond.code yX6_isHouse cX6_isHouse 2 (some .boolean), Cond.fieldLink RX6 60 "LeaningStreet$Street" "many" "I", Cond.methodLink RX6 126 yX0_rise, Cond.instanceMethod yX0_rise, Cond.selects RX0 yX0_rise yX0_rise, Cond.initialized RX0, Cond.code yX0_rise cX0_rise 1 none, Cond.fieldLink RX0 30 "LeaningStreet$House" "stands" "Z", Cond.fieldLink RX0 18 "LeaningStreet$House" "lean" "I", Cond.fieldLink RX0 24 "LeaningStreet$House" "crack" "I", Cond.methodLink RX6 123 yX4_howManyStand, Cond.instanceMethod yX4_howManyStand, Cond.selects RX4 yX4_howManyStand yX4_howManyStand, Cond.initialized RX4, Cond.code yX4_howManyStand cX4_howManyStand 1 (some .int)]
def wsX6_raises_r2 : List Cond := [Cond.methodLink RX4 174 yX4_standing, Cond.instanceMethod yX4_standing, Cond.selects RX4 yX4_standing yX4_standing, Cond.code yX4_standing cX4_standing 3 (some .int), Cond.fieldLink RX4 36 "LeaningStreet$Street" "many" "I", Cond.fieldLink RX4 11 "LeaningStreet$Street" "houses" "[LLeaningStreet$House;", Cond.fieldLink RX4 129 "LeaningStreet$House" "stands" "Z", Cond.methodLink RX4 177 yJ6_bitCount_0f7a4, Cond.static yJ6_bitCount_0f7a4, Cond.initialized RJ6, Cond.code yJ6_bitCount_0f7a4 cJ6_bitCount_0f7a4 1 (some .int), Cond.constant RJ6 265 (1431655765), Cond.constant RJ6 266 (858993459), Cond.constant RJ6 267 (252645135)]
def wsX6_raises : List Cond := .code yX6_raises cX6_raises 2 (some .int) :: ((wsX6_raises_r1 ++ wsX6_raises_r2) ++ wsX60 ++ wsX40 ++ wsX00)
def wsX6_snow : List Cond := .code yX6_snow cX6_snow 3 (some .int) :: ([.constant RX6 59 (-1000000001), .fieldLink RX6 10 "LeaningStreet" "now" "LLeaningStreet$Street;", .fieldLink RX6 129 "LeaningStreet$Street" "snow" "I"] ++ wsX60 ++ wsX40)
def wsX6_deal_r1 : List Cond := [Cond.constant RX6 59 (-1000000001), Cond.fieldLink RX6 10 "LeaningStreet" "now" "LLeaningStreet$Street;", Cond.fieldLink RX6 60 "LeaningStreet$Street" "many" "I", Cond.methodLink RX6 132 Lib.Math.min.name, Cond.static Lib.Math.min.name, Cond.initialized "java/lang/Math", Cond.code Lib.Math.min.name Lib.Math.min.code 2 (some .int), Cond.methodLink RX6 138 yX4_buildByLot, Cond.instanceMethod yX4_buildByLot, Cond.selects RX4 yX4_buildByLot yX4_buildByLot, Cond.initialized RX4, Cond.code yX4_buildByLot cX4_buildByLot 5 none, Cond.methodLink RX4 78 yX4_draw, Cond.instanceMethod yX4_draw, Cond.selects RX4 yX4_draw yX4_draw, Cond.code yX4_draw cX4_draw 1 (some .int), Cond.fieldLink RX4 52 "LeaningStreet$Street" "z" "I", Cond.constant RX4 86 (1103515245), Cond.methodLink RX4 82 yX4_build, Cond.instanceMethod yX4_build, Cond.selects RX4 yX4_build yX4_build, Cond.code yX4_build cX4_build 6 none, Cond.fieldLink RX4 36 "LeaningStreet$Street" "many" "I", Cond.fieldLink RX4 11 "LeaningStreet$Street" "houses" "[LLeaningStreet$House;"]
def wsX6_deal_r2 : List Cond := [Cond.fieldLink RX4 63 "LeaningStreet$House" "kind" "I", Cond.fieldLink RX4 66 "LeaningStreet$House" "weight" "I", Cond.fieldLink RX4 69 "LeaningStreet$House" "lean" "I", Cond.fieldLink RX4 72 "LeaningStreet$House" "wall" "I", Cond.fieldLink RX4 75 "LeaningStreet$House" "prop" "I", Cond.methodLink RX4 60 yX0_rise, Cond.instanceMethod yX0_rise, Cond.selects RX0 yX0_rise yX0_rise, Cond.initialized RX0, Cond.code yX0_rise cX0_rise 1 none, Cond.fieldLink RX0 30 "LeaningStreet$House" "stands" "Z", Cond.fieldLink RX0 18 "LeaningStreet$House" "lean" "I", Cond.fieldLink RX0 24 "LeaningStreet$House" "crack" "I"]
def wsX6_deal : List Cond := .code yX6_deal cX6_deal 4 (some .int) :: ((wsX6_deal_r1 ++ wsX6_deal_r2) ++ wsX60 ++ wsX40 ++ wsX00)
def wsX6_seed : List Cond := .code yX6_seed cX6_seed 3 (some .int) :: ([.fieldLink RX6 10 "LeaningStreet" "now" "LLeaningStreet$Street;", .fieldLink RX6 141 "LeaningStreet$Street" "z" "I"] ++ wsX60 ++ wsX40)
def wsX6_days_r1 : List Cond := [Cond.constant RX6 59 (-1000000001), Cond.fieldLink RX6 10 "LeaningStreet" "now" "LLeaningStreet$Street;", Cond.fieldLink RX6 144 "LeaningStreet$Street" "day" "I", Cond.methodLink RX6 132 Lib.Math.min.name, Cond.static Lib.Math.min.name, Cond.initialized "java/lang/Math", Cond.code Lib.Math.min.name Lib.Math.min.code 2 (some .int), Cond.methodLink RX6 123 yX4_howManyStand, Cond.instanceMethod yX4_howManyStand, Cond.selects RX4 yX4_howManyStand yX4_howManyStand, Cond.initialized RX4, Cond.code yX4_howManyStand cX4_howManyStand 1 (some .int), Cond.methodLink RX4 174 yX4_standing, Cond.instanceMethod yX4_standing, Cond.selects RX4 yX4_standing yX4_standing, Cond.code yX4_standing cX4_standing 3 (some .int), Cond.fieldLink RX4 36 "LeaningStreet$Street" "many" "I", Cond.fieldLink RX4 11 "LeaningStreet$Street" "houses" "[LLeaningStreet$House;", Cond.fieldLink RX4 129 "LeaningStreet$House" "stands" "Z", Cond.methodLink RX4 177 yJ6_bitCount_0f7a4, Cond.static yJ6_bitCount_0f7a4, Cond.initialized RJ6, Cond.code yJ6_bitCount_0f7a4 cJ6_bitCount_0f7a4 1 (some .int), Cond.constant RJ6 265 (1431655765)]
def wsX6_days_r2 : List Cond := [Cond.constant RJ6 266 (858993459), Cond.constant RJ6 267 (252645135), Cond.methodLink RX6 147 yX4_goOn, Cond.instanceMethod yX4_goOn, Cond.selects RX4 yX4_goOn yX4_goOn, Cond.code yX4_goOn cX4_goOn 3 none, Cond.fieldLink RX4 46 "LeaningStreet$Street" "rent" "I", Cond.fieldLink RX4 49 "LeaningStreet$Street" "day" "I", Cond.methodLink RX4 168 yX4_goOneDay, Cond.instanceMethod yX4_goOneDay, Cond.selects RX4 yX4_goOneDay yX4_goOneDay, Cond.code yX4_goOneDay cX4_goOneDay 3 (some .boolean), Cond.methodLink RX4 143 yX4_workOutThrusts, Cond.instanceMethod yX4_workOutThrusts, Cond.selects RX4 yX4_workOutThrusts yX4_workOutThrusts, Cond.code yX4_workOutThrusts cX4_workOutThrusts 3 none, Cond.fieldLink RX4 26 "LeaningStreet$Street" "thrusts" "[I", Cond.fieldLink RX4 30 "LeaningStreet$Street" "lesser" "[I", Cond.fieldLink RX4 33 "LeaningStreet$Street" "greater" "[I", Cond.fieldLink RX4 43 "LeaningStreet$Street" "snow" "I", Cond.methodLink RX4 133 yX4_lean, Cond.instanceMethod yX4_lean, Cond.selects RX4 yX4_lean yX4_lean, Cond.code yX4_lean cX4_lean 3 none]
def wsX6_days_r3 : List Cond := [Cond.fieldLink RX4 69 "LeaningStreet$House" "lean" "I", Cond.methodLink RX4 136 yX4_pushOf, Cond.instanceMethod yX4_pushOf, Cond.selects RX4 yX4_pushOf yX4_pushOf, Cond.code yX4_pushOf cX4_pushOf 4 (some .int), Cond.fieldLink RX4 23 "LeaningStreet$Street" "counting" "[LLeaningStreet$Text;", Cond.methodLink RX4 118 Lib.Math.abs.name, Cond.static Lib.Math.abs.name, Cond.code Lib.Math.abs.name Lib.Math.abs.code 1 (some .int), Cond.fieldLink RX4 66 "LeaningStreet$House" "weight" "I", Cond.fieldLink RX4 115 "LeaningStreet$House" "crack" "I", Cond.methodLink RX4 122 yX5_value, Cond.instanceMethod yX5_value, Cond.selects RX5 yX5_value yX5_value, Cond.initialized RX5, Cond.code yX5_value cX5_value 9 (some .int), Cond.fieldLink RX5 21 "LeaningStreet$Text" "code" "[I", Cond.fieldLink RX5 31 "LeaningStreet$Text" "stack" "[I", Cond.methodLink RX5 34 yX5_joined, Cond.static yX5_joined, Cond.code yX5_joined cX5_joined 3 (some .int), Cond.methodLink RX4 126 yX0_pushing, Cond.instanceMethod yX0_pushing, Cond.selects RX0 yX0_pushing yX0_pushing]
def wsX6_days_r4 : List Cond := [Cond.initialized RX0, Cond.code yX0_pushing cX0_pushing 3 (some .int), Cond.methodLink RX0 38 Lib.Math.min.name, Cond.methodLink RX0 44 Lib.Math.max.name, Cond.static Lib.Math.max.name, Cond.code Lib.Math.max.name Lib.Math.max.code 2 (some .int), Cond.fieldLink RX0 9 "LeaningStreet$House" "kind" "I", Cond.methodLink RX4 149 yX4_crackAndMove, Cond.instanceMethod yX4_crackAndMove, Cond.selects RX4 yX4_crackAndMove yX4_crackAndMove, Cond.code yX4_crackAndMove cX4_crackAndMove 6 (some .boolean), Cond.methodLink RX4 106 Lib.Math.min.name, Cond.methodLink RX4 112 Lib.Math.max.name, Cond.methodLink RX4 146 yX4_tooMuch, Cond.instanceMethod yX4_tooMuch, Cond.selects RX4 yX4_tooMuch yX4_tooMuch, Cond.code yX4_tooMuch cX4_tooMuch 2 (some .int), Cond.methodLink RX4 140 yX0_bearing, Cond.instanceMethod yX0_bearing, Cond.selects RX0 yX0_bearing yX0_bearing, Cond.code yX0_bearing cX0_bearing 2 (some .int), Cond.fieldLink RX0 21 "LeaningStreet$House" "wall" "I", Cond.fieldLink RX0 27 "LeaningStreet$House" "prop" "I", Cond.methodLink RX4 153 yX4_fallByCracks]
def wsX6_days_r5 : List Cond := [Cond.instanceMethod yX4_fallByCracks, Cond.selects RX4 yX4_fallByCracks yX4_fallByCracks, Cond.code yX4_fallByCracks cX4_fallByCracks 3 (some .boolean), Cond.methodLink RX4 162 yX0_fall, Cond.instanceMethod yX0_fall, Cond.selects RX0 yX0_fall yX0_fall, Cond.code yX0_fall cX0_fall 1 none, Cond.fieldLink RX0 30 "LeaningStreet$House" "stands" "Z", Cond.methodLink RX4 156 yX4_fallByNeighbours, Cond.instanceMethod yX4_fallByNeighbours, Cond.selects RX4 yX4_fallByNeighbours yX4_fallByNeighbours, Cond.code yX4_fallByNeighbours cX4_fallByNeighbours 4 none, Cond.methodLink RX4 165 yX4_hasLostItsRest, Cond.instanceMethod yX4_hasLostItsRest, Cond.selects RX4 yX4_hasLostItsRest yX4_hasLostItsRest, Cond.code yX4_hasLostItsRest cX4_hasLostItsRest 3 (some .boolean), Cond.methodLink RX4 159 yX4_props, Cond.instanceMethod yX4_props, Cond.selects RX4 yX4_props yX4_props, Cond.code yX4_props cX4_props 3 (some .int), Cond.fieldLink RX4 75 "LeaningStreet$House" "prop" "I"]
def wsX6_days : List Cond := .code yX6_days cX6_days 3 (some .int) :: ((wsX6_days_r1 ++ (wsX6_days_r2 ++ (wsX6_days_r3 ++ (wsX6_days_r4 ++ wsX6_days_r5)))) ++ wsX60 ++ wsX40 ++ wsX00 ++ wsX50)
def wsX6_street_r1 : List Cond := [Cond.fieldLink RX6 10 "LeaningStreet" "now" "LLeaningStreet$Street;", Cond.fieldLink RX6 151 "LeaningStreet$Street" "rent" "I", Cond.constant RX6 59 (-1000000001), Cond.methodLink RX6 154 yX4_standing, Cond.instanceMethod yX4_standing, Cond.selects RX4 yX4_standing yX4_standing, Cond.initialized RX4, Cond.code yX4_standing cX4_standing 3 (some .int), Cond.fieldLink RX4 36 "LeaningStreet$Street" "many" "I", Cond.fieldLink RX4 11 "LeaningStreet$Street" "houses" "[LLeaningStreet$House;", Cond.fieldLink RX4 129 "LeaningStreet$House" "stands" "Z", Cond.methodLink RX6 157 yX4_cracks, Cond.instanceMethod yX4_cracks, Cond.selects RX4 yX4_cracks yX4_cracks, Cond.code yX4_cracks cX4_cracks 3 (some .int), Cond.fieldLink RX4 115 "LeaningStreet$House" "crack" "I", Cond.methodLink RX6 160 yX4_props, Cond.instanceMethod yX4_props, Cond.selects RX4 yX4_props yX4_props, Cond.code yX4_props cX4_props 3 (some .int), Cond.fieldLink RX4 75 "LeaningStreet$House" "prop" "I", Cond.methodLink RX6 163 yX4_notHolding, Cond.instanceMethod yX4_notHolding, Cond.selects RX4 yX4_notHolding yX4_notHolding]
def wsX6_street_r2 : List Cond := [Cond.code yX4_notHolding cX4_notHolding 3 (some .int), Cond.methodLink RX4 143 yX4_workOutThrusts, Cond.instanceMethod yX4_workOutThrusts, Cond.selects RX4 yX4_workOutThrusts yX4_workOutThrusts, Cond.code yX4_workOutThrusts cX4_workOutThrusts 3 none, Cond.fieldLink RX4 26 "LeaningStreet$Street" "thrusts" "[I", Cond.fieldLink RX4 30 "LeaningStreet$Street" "lesser" "[I", Cond.fieldLink RX4 33 "LeaningStreet$Street" "greater" "[I", Cond.fieldLink RX4 43 "LeaningStreet$Street" "snow" "I", Cond.methodLink RX4 133 yX4_lean, Cond.instanceMethod yX4_lean, Cond.selects RX4 yX4_lean yX4_lean, Cond.code yX4_lean cX4_lean 3 none, Cond.fieldLink RX4 69 "LeaningStreet$House" "lean" "I", Cond.methodLink RX4 136 yX4_pushOf, Cond.instanceMethod yX4_pushOf, Cond.selects RX4 yX4_pushOf yX4_pushOf, Cond.code yX4_pushOf cX4_pushOf 4 (some .int), Cond.fieldLink RX4 23 "LeaningStreet$Street" "counting" "[LLeaningStreet$Text;", Cond.methodLink RX4 118 Lib.Math.abs.name, Cond.static Lib.Math.abs.name, Cond.initialized "java/lang/Math", Cond.code Lib.Math.abs.name Lib.Math.abs.code 1 (some .int), Cond.fieldLink RX4 66 "LeaningStreet$House" "weight" "I"]
def wsX6_street_r3 : List Cond := [Cond.methodLink RX4 122 yX5_value, Cond.instanceMethod yX5_value, Cond.selects RX5 yX5_value yX5_value, Cond.initialized RX5, Cond.code yX5_value cX5_value 9 (some .int), Cond.fieldLink RX5 21 "LeaningStreet$Text" "code" "[I", Cond.fieldLink RX5 31 "LeaningStreet$Text" "stack" "[I", Cond.methodLink RX5 34 yX5_joined, Cond.static yX5_joined, Cond.code yX5_joined cX5_joined 3 (some .int), Cond.methodLink RX4 126 yX0_pushing, Cond.instanceMethod yX0_pushing, Cond.selects RX0 yX0_pushing yX0_pushing, Cond.initialized RX0, Cond.code yX0_pushing cX0_pushing 3 (some .int), Cond.methodLink RX0 38 Lib.Math.min.name, Cond.static Lib.Math.min.name, Cond.code Lib.Math.min.name Lib.Math.min.code 2 (some .int), Cond.methodLink RX0 44 Lib.Math.max.name, Cond.static Lib.Math.max.name, Cond.code Lib.Math.max.name Lib.Math.max.code 2 (some .int), Cond.fieldLink RX0 9 "LeaningStreet$House" "kind" "I", Cond.methodLink RX4 146 yX4_tooMuch, Cond.instanceMethod yX4_tooMuch]
def wsX6_street_r4 : List Cond := [Cond.selects RX4 yX4_tooMuch yX4_tooMuch, Cond.code yX4_tooMuch cX4_tooMuch 2 (some .int), Cond.methodLink RX4 140 yX0_bearing, Cond.instanceMethod yX0_bearing, Cond.selects RX0 yX0_bearing yX0_bearing, Cond.code yX0_bearing cX0_bearing 2 (some .int), Cond.fieldLink RX0 21 "LeaningStreet$House" "wall" "I", Cond.fieldLink RX0 27 "LeaningStreet$House" "prop" "I"]
def wsX6_street : List Cond := .code yX6_street cX6_street 2 (some .int) :: ((wsX6_street_r1 ++ (wsX6_street_r2 ++ (wsX6_street_r3 ++ wsX6_street_r4))) ++ wsX60 ++ wsX40 ++ wsX00 ++ wsX50)
def wsX6_thinkOf_r1 : List Cond := [Cond.fieldLink RX6 19 "LeaningStreet" "thought" "LLeaningStreet$Street;", Cond.methodLink RX6 303 yX4_beLike, Cond.instanceMethod yX4_beLike, Cond.selects RX4 yX4_beLike yX4_beLike, Cond.initialized RX4, Cond.code yX4_beLike cX4_beLike 3 none, Cond.fieldLink RX4 36 "LeaningStreet$Street" "many" "I", Cond.fieldLink RX4 11 "LeaningStreet$Street" "houses" "[LLeaningStreet$House;", Cond.fieldLink RX4 40 "LeaningStreet$Street" "texts" "I", Cond.fieldLink RX4 19 "LeaningStreet$Street" "allTexts" "[LLeaningStreet$Text;", Cond.fieldLink RX4 23 "LeaningStreet$Street" "counting" "[LLeaningStreet$Text;", Cond.fieldLink RX4 43 "LeaningStreet$Street" "snow" "I", Cond.fieldLink RX4 46 "LeaningStreet$Street" "rent" "I", Cond.fieldLink RX4 49 "LeaningStreet$Street" "day" "I", Cond.fieldLink RX4 52 "LeaningStreet$Street" "z" "I", Cond.methodLink RX4 56 yX0_beLike, Cond.instanceMethod yX0_beLike, Cond.selects RX0 yX0_beLike yX0_beLike, Cond.initialized RX0, Cond.code yX0_beLike cX0_beLike 2 none, Cond.fieldLink RX0 9 "LeaningStreet$House" "kind" "I", Cond.fieldLink RX0 15 "LeaningStreet$House" "weight" "I", Cond.fieldLink RX0 18 "LeaningStreet$House" "lean" "I", Cond.fieldLink RX0 21 "LeaningStreet$House" "wall" "I"]
def wsX6_thinkOf_r2 : List Cond := [Cond.fieldLink RX0 24 "LeaningStreet$House" "crack" "I", Cond.fieldLink RX0 27 "LeaningStreet$House" "prop" "I", Cond.fieldLink RX0 30 "LeaningStreet$House" "stands" "Z"]
def wsX6_thinkOf : List Cond := .code yX6_thinkOf cX6_thinkOf 2 (some (.object "LeaningStreet$Street")) :: ((wsX6_thinkOf_r1 ++ wsX6_thinkOf_r2) ++ wsX60 ++ wsX40 ++ wsX00)
def wsX6_behind_r1 : List Cond := [Cond.fieldLink RX6 10 "LeaningStreet" "now" "LLeaningStreet$Street;", Cond.fieldLink RX6 60 "LeaningStreet$Street" "many" "I", Cond.constant RX6 59 (-1000000001), Cond.fieldLink RX6 19 "LeaningStreet" "thought" "LLeaningStreet$Street;", Cond.fieldLink RX6 151 "LeaningStreet$Street" "rent" "I", Cond.fieldLink RX6 72 "LeaningStreet$Street" "houses" "[LLeaningStreet$House;", Cond.fieldLink RX6 170 "LeaningStreet$House" "lean" "I", Cond.methodLink RX6 166 yX6_thinkOf, Cond.instanceMethod yX6_thinkOf, Cond.selects RX6 yX6_thinkOf yX6_thinkOf, Cond.initialized RX6, Cond.code yX6_thinkOf cX6_thinkOf 2 (some (.object "LeaningStreet$Street")), Cond.methodLink RX6 303 yX4_beLike, Cond.instanceMethod yX4_beLike, Cond.selects RX4 yX4_beLike yX4_beLike, Cond.initialized RX4, Cond.code yX4_beLike cX4_beLike 3 none, Cond.fieldLink RX4 36 "LeaningStreet$Street" "many" "I", Cond.fieldLink RX4 11 "LeaningStreet$Street" "houses" "[LLeaningStreet$House;", Cond.fieldLink RX4 40 "LeaningStreet$Street" "texts" "I", Cond.fieldLink RX4 19 "LeaningStreet$Street" "allTexts" "[LLeaningStreet$Text;", Cond.fieldLink RX4 23 "LeaningStreet$Street" "counting" "[LLeaningStreet$Text;", Cond.fieldLink RX4 43 "LeaningStreet$Street" "snow" "I", Cond.fieldLink RX4 46 "LeaningStreet$Street" "rent" "I"]
def wsX6_behind_r2 : List Cond := [Cond.fieldLink RX4 49 "LeaningStreet$Street" "day" "I", Cond.fieldLink RX4 52 "LeaningStreet$Street" "z" "I", Cond.methodLink RX4 56 yX0_beLike, Cond.instanceMethod yX0_beLike, Cond.selects RX0 yX0_beLike yX0_beLike, Cond.initialized RX0, Cond.code yX0_beLike cX0_beLike 2 none, Cond.fieldLink RX0 9 "LeaningStreet$House" "kind" "I", Cond.fieldLink RX0 15 "LeaningStreet$House" "weight" "I", Cond.fieldLink RX0 18 "LeaningStreet$House" "lean" "I", Cond.fieldLink RX0 21 "LeaningStreet$House" "wall" "I", Cond.fieldLink RX0 24 "LeaningStreet$House" "crack" "I", Cond.fieldLink RX0 27 "LeaningStreet$House" "prop" "I", Cond.fieldLink RX0 30 "LeaningStreet$House" "stands" "Z", Cond.methodLink RX6 147 yX4_goOn, Cond.instanceMethod yX4_goOn, Cond.selects RX4 yX4_goOn yX4_goOn, Cond.code yX4_goOn cX4_goOn 3 none, Cond.methodLink RX4 168 yX4_goOneDay, Cond.instanceMethod yX4_goOneDay, Cond.selects RX4 yX4_goOneDay yX4_goOneDay, Cond.code yX4_goOneDay cX4_goOneDay 3 (some .boolean), Cond.methodLink RX4 143 yX4_workOutThrusts, Cond.instanceMethod yX4_workOutThrusts]
def wsX6_behind_r3 : List Cond := [Cond.selects RX4 yX4_workOutThrusts yX4_workOutThrusts, Cond.code yX4_workOutThrusts cX4_workOutThrusts 3 none, Cond.fieldLink RX4 26 "LeaningStreet$Street" "thrusts" "[I", Cond.fieldLink RX4 30 "LeaningStreet$Street" "lesser" "[I", Cond.fieldLink RX4 33 "LeaningStreet$Street" "greater" "[I", Cond.fieldLink RX4 129 "LeaningStreet$House" "stands" "Z", Cond.methodLink RX4 133 yX4_lean, Cond.instanceMethod yX4_lean, Cond.selects RX4 yX4_lean yX4_lean, Cond.code yX4_lean cX4_lean 3 none, Cond.fieldLink RX4 69 "LeaningStreet$House" "lean" "I", Cond.methodLink RX4 136 yX4_pushOf, Cond.instanceMethod yX4_pushOf, Cond.selects RX4 yX4_pushOf yX4_pushOf, Cond.code yX4_pushOf cX4_pushOf 4 (some .int), Cond.methodLink RX4 118 Lib.Math.abs.name, Cond.static Lib.Math.abs.name, Cond.initialized "java/lang/Math", Cond.code Lib.Math.abs.name Lib.Math.abs.code 1 (some .int), Cond.fieldLink RX4 66 "LeaningStreet$House" "weight" "I", Cond.fieldLink RX4 115 "LeaningStreet$House" "crack" "I", Cond.methodLink RX4 122 yX5_value, Cond.instanceMethod yX5_value, Cond.selects RX5 yX5_value yX5_value]
def wsX6_behind_r4 : List Cond := [Cond.initialized RX5, Cond.code yX5_value cX5_value 9 (some .int), Cond.fieldLink RX5 21 "LeaningStreet$Text" "code" "[I", Cond.fieldLink RX5 31 "LeaningStreet$Text" "stack" "[I", Cond.methodLink RX5 34 yX5_joined, Cond.static yX5_joined, Cond.code yX5_joined cX5_joined 3 (some .int), Cond.methodLink RX4 126 yX0_pushing, Cond.instanceMethod yX0_pushing, Cond.selects RX0 yX0_pushing yX0_pushing, Cond.code yX0_pushing cX0_pushing 3 (some .int), Cond.methodLink RX0 38 Lib.Math.min.name, Cond.static Lib.Math.min.name, Cond.code Lib.Math.min.name Lib.Math.min.code 2 (some .int), Cond.methodLink RX0 44 Lib.Math.max.name, Cond.static Lib.Math.max.name, Cond.code Lib.Math.max.name Lib.Math.max.code 2 (some .int), Cond.methodLink RX4 149 yX4_crackAndMove, Cond.instanceMethod yX4_crackAndMove, Cond.selects RX4 yX4_crackAndMove yX4_crackAndMove, Cond.code yX4_crackAndMove cX4_crackAndMove 6 (some .boolean), Cond.methodLink RX4 106 Lib.Math.min.name, Cond.methodLink RX4 112 Lib.Math.max.name, Cond.methodLink RX4 146 yX4_tooMuch]
def wsX6_behind_r5 : List Cond := [Cond.instanceMethod yX4_tooMuch, Cond.selects RX4 yX4_tooMuch yX4_tooMuch, Cond.code yX4_tooMuch cX4_tooMuch 2 (some .int), Cond.methodLink RX4 140 yX0_bearing, Cond.instanceMethod yX0_bearing, Cond.selects RX0 yX0_bearing yX0_bearing, Cond.code yX0_bearing cX0_bearing 2 (some .int), Cond.methodLink RX4 153 yX4_fallByCracks, Cond.instanceMethod yX4_fallByCracks, Cond.selects RX4 yX4_fallByCracks yX4_fallByCracks, Cond.code yX4_fallByCracks cX4_fallByCracks 3 (some .boolean), Cond.methodLink RX4 162 yX0_fall, Cond.instanceMethod yX0_fall, Cond.selects RX0 yX0_fall yX0_fall, Cond.code yX0_fall cX0_fall 1 none, Cond.methodLink RX4 156 yX4_fallByNeighbours, Cond.instanceMethod yX4_fallByNeighbours, Cond.selects RX4 yX4_fallByNeighbours yX4_fallByNeighbours, Cond.code yX4_fallByNeighbours cX4_fallByNeighbours 4 none, Cond.methodLink RX4 165 yX4_hasLostItsRest, Cond.instanceMethod yX4_hasLostItsRest, Cond.selects RX4 yX4_hasLostItsRest yX4_hasLostItsRest, Cond.code yX4_hasLostItsRest cX4_hasLostItsRest 3 (some .boolean), Cond.methodLink RX4 159 yX4_props]
def wsX6_behind_r6 : List Cond := [Cond.instanceMethod yX4_props, Cond.selects RX4 yX4_props yX4_props, Cond.code yX4_props cX4_props 3 (some .int), Cond.fieldLink RX4 75 "LeaningStreet$House" "prop" "I", Cond.methodLink RX6 154 yX4_standing, Cond.instanceMethod yX4_standing, Cond.selects RX4 yX4_standing yX4_standing, Cond.code yX4_standing cX4_standing 3 (some .int), Cond.methodLink RX6 157 yX4_cracks, Cond.instanceMethod yX4_cracks, Cond.selects RX4 yX4_cracks yX4_cracks, Cond.code yX4_cracks cX4_cracks 3 (some .int)]
def wsX6_behind : List Cond := .code yX6_behind cX6_behind 3 (some .int) :: ((wsX6_behind_r1 ++ (wsX6_behind_r2 ++ (wsX6_behind_r3 ++ (wsX6_behind_r4 ++ (wsX6_behind_r5 ++ wsX6_behind_r6))))) ++ wsX60 ++ wsX40 ++ wsX00 ++ wsX50)
def wsX6_lasts_r1 : List Cond := [Cond.fieldLink RX6 10 "LeaningStreet" "now" "LLeaningStreet$Street;", Cond.constant RX6 176 (-1000000005), Cond.methodLink RX6 166 yX6_thinkOf, Cond.instanceMethod yX6_thinkOf, Cond.selects RX6 yX6_thinkOf yX6_thinkOf, Cond.initialized RX6, Cond.code yX6_thinkOf cX6_thinkOf 2 (some (.object "LeaningStreet$Street")), Cond.fieldLink RX6 19 "LeaningStreet" "thought" "LLeaningStreet$Street;", Cond.methodLink RX6 303 yX4_beLike, Cond.instanceMethod yX4_beLike, Cond.selects RX4 yX4_beLike yX4_beLike, Cond.initialized RX4, Cond.code yX4_beLike cX4_beLike 3 none, Cond.fieldLink RX4 36 "LeaningStreet$Street" "many" "I", Cond.fieldLink RX4 11 "LeaningStreet$Street" "houses" "[LLeaningStreet$House;", Cond.fieldLink RX4 40 "LeaningStreet$Street" "texts" "I", Cond.fieldLink RX4 19 "LeaningStreet$Street" "allTexts" "[LLeaningStreet$Text;", Cond.fieldLink RX4 23 "LeaningStreet$Street" "counting" "[LLeaningStreet$Text;", Cond.fieldLink RX4 43 "LeaningStreet$Street" "snow" "I", Cond.fieldLink RX4 46 "LeaningStreet$Street" "rent" "I", Cond.fieldLink RX4 49 "LeaningStreet$Street" "day" "I", Cond.fieldLink RX4 52 "LeaningStreet$Street" "z" "I", Cond.methodLink RX4 56 yX0_beLike, Cond.instanceMethod yX0_beLike]
def wsX6_lasts_r2 : List Cond := [Cond.selects RX0 yX0_beLike yX0_beLike, Cond.initialized RX0, Cond.code yX0_beLike cX0_beLike 2 none, Cond.fieldLink RX0 9 "LeaningStreet$House" "kind" "I", Cond.fieldLink RX0 15 "LeaningStreet$House" "weight" "I", Cond.fieldLink RX0 18 "LeaningStreet$House" "lean" "I", Cond.fieldLink RX0 21 "LeaningStreet$House" "wall" "I", Cond.fieldLink RX0 24 "LeaningStreet$House" "crack" "I", Cond.fieldLink RX0 27 "LeaningStreet$House" "prop" "I", Cond.fieldLink RX0 30 "LeaningStreet$House" "stands" "Z", Cond.methodLink RX6 173 yX4_firstFall, Cond.instanceMethod yX4_firstFall, Cond.selects RX4 yX4_firstFall yX4_firstFall, Cond.code yX4_firstFall cX4_firstFall 5 (some .int), Cond.methodLink RX4 171 yX4_howManyStand, Cond.instanceMethod yX4_howManyStand, Cond.selects RX4 yX4_howManyStand yX4_howManyStand, Cond.code yX4_howManyStand cX4_howManyStand 1 (some .int), Cond.methodLink RX4 174 yX4_standing, Cond.instanceMethod yX4_standing, Cond.selects RX4 yX4_standing yX4_standing, Cond.code yX4_standing cX4_standing 3 (some .int), Cond.fieldLink RX4 129 "LeaningStreet$House" "stands" "Z", Cond.methodLink RX4 177 yJ6_bitCount_0f7a4]
def wsX6_lasts_r3 : List Cond := [Cond.static yJ6_bitCount_0f7a4, Cond.initialized RJ6, Cond.code yJ6_bitCount_0f7a4 cJ6_bitCount_0f7a4 1 (some .int), Cond.constant RJ6 265 (1431655765), Cond.constant RJ6 266 (858993459), Cond.constant RJ6 267 (252645135), Cond.methodLink RX4 168 yX4_goOneDay, Cond.instanceMethod yX4_goOneDay, Cond.selects RX4 yX4_goOneDay yX4_goOneDay, Cond.code yX4_goOneDay cX4_goOneDay 3 (some .boolean), Cond.methodLink RX4 143 yX4_workOutThrusts, Cond.instanceMethod yX4_workOutThrusts, Cond.selects RX4 yX4_workOutThrusts yX4_workOutThrusts, Cond.code yX4_workOutThrusts cX4_workOutThrusts 3 none, Cond.fieldLink RX4 26 "LeaningStreet$Street" "thrusts" "[I", Cond.fieldLink RX4 30 "LeaningStreet$Street" "lesser" "[I", Cond.fieldLink RX4 33 "LeaningStreet$Street" "greater" "[I", Cond.methodLink RX4 133 yX4_lean, Cond.instanceMethod yX4_lean, Cond.selects RX4 yX4_lean yX4_lean, Cond.code yX4_lean cX4_lean 3 none, Cond.fieldLink RX4 69 "LeaningStreet$House" "lean" "I", Cond.methodLink RX4 136 yX4_pushOf, Cond.instanceMethod yX4_pushOf]
def wsX6_lasts_r4 : List Cond := [Cond.selects RX4 yX4_pushOf yX4_pushOf, Cond.code yX4_pushOf cX4_pushOf 4 (some .int), Cond.methodLink RX4 118 Lib.Math.abs.name, Cond.static Lib.Math.abs.name, Cond.initialized "java/lang/Math", Cond.code Lib.Math.abs.name Lib.Math.abs.code 1 (some .int), Cond.fieldLink RX4 66 "LeaningStreet$House" "weight" "I", Cond.fieldLink RX4 115 "LeaningStreet$House" "crack" "I", Cond.methodLink RX4 122 yX5_value, Cond.instanceMethod yX5_value, Cond.selects RX5 yX5_value yX5_value, Cond.initialized RX5, Cond.code yX5_value cX5_value 9 (some .int), Cond.fieldLink RX5 21 "LeaningStreet$Text" "code" "[I", Cond.fieldLink RX5 31 "LeaningStreet$Text" "stack" "[I", Cond.methodLink RX5 34 yX5_joined, Cond.static yX5_joined, Cond.code yX5_joined cX5_joined 3 (some .int), Cond.methodLink RX4 126 yX0_pushing, Cond.instanceMethod yX0_pushing, Cond.selects RX0 yX0_pushing yX0_pushing, Cond.code yX0_pushing cX0_pushing 3 (some .int), Cond.methodLink RX0 38 Lib.Math.min.name, Cond.static Lib.Math.min.name]
def wsX6_lasts_r5 : List Cond := [Cond.code Lib.Math.min.name Lib.Math.min.code 2 (some .int), Cond.methodLink RX0 44 Lib.Math.max.name, Cond.static Lib.Math.max.name, Cond.code Lib.Math.max.name Lib.Math.max.code 2 (some .int), Cond.methodLink RX4 149 yX4_crackAndMove, Cond.instanceMethod yX4_crackAndMove, Cond.selects RX4 yX4_crackAndMove yX4_crackAndMove, Cond.code yX4_crackAndMove cX4_crackAndMove 6 (some .boolean), Cond.methodLink RX4 106 Lib.Math.min.name, Cond.methodLink RX4 112 Lib.Math.max.name, Cond.methodLink RX4 146 yX4_tooMuch, Cond.instanceMethod yX4_tooMuch, Cond.selects RX4 yX4_tooMuch yX4_tooMuch, Cond.code yX4_tooMuch cX4_tooMuch 2 (some .int), Cond.methodLink RX4 140 yX0_bearing, Cond.instanceMethod yX0_bearing, Cond.selects RX0 yX0_bearing yX0_bearing, Cond.code yX0_bearing cX0_bearing 2 (some .int), Cond.methodLink RX4 153 yX4_fallByCracks, Cond.instanceMethod yX4_fallByCracks, Cond.selects RX4 yX4_fallByCracks yX4_fallByCracks, Cond.code yX4_fallByCracks cX4_fallByCracks 3 (some .boolean), Cond.methodLink RX4 162 yX0_fall, Cond.instanceMethod yX0_fall]
def wsX6_lasts_r6 : List Cond := [Cond.selects RX0 yX0_fall yX0_fall, Cond.code yX0_fall cX0_fall 1 none, Cond.methodLink RX4 156 yX4_fallByNeighbours, Cond.instanceMethod yX4_fallByNeighbours, Cond.selects RX4 yX4_fallByNeighbours yX4_fallByNeighbours, Cond.code yX4_fallByNeighbours cX4_fallByNeighbours 4 none, Cond.methodLink RX4 165 yX4_hasLostItsRest, Cond.instanceMethod yX4_hasLostItsRest, Cond.selects RX4 yX4_hasLostItsRest yX4_hasLostItsRest, Cond.code yX4_hasLostItsRest cX4_hasLostItsRest 3 (some .boolean), Cond.methodLink RX4 159 yX4_props, Cond.instanceMethod yX4_props, Cond.selects RX4 yX4_props yX4_props, Cond.code yX4_props cX4_props 3 (some .int), Cond.fieldLink RX4 75 "LeaningStreet$House" "prop" "I"]
def wsX6_lasts : List Cond := .code yX6_lasts cX6_lasts 2 (some .int) :: ((wsX6_lasts_r1 ++ (wsX6_lasts_r2 ++ (wsX6_lasts_r3 ++ (wsX6_lasts_r4 ++ (wsX6_lasts_r5 ++ wsX6_lasts_r6))))) ++ wsX60 ++ wsX40 ++ wsX00 ++ wsX50)
def wsX6_taken_r1 : List Cond := [Cond.constant RX6 59 (-1000000001), Cond.fieldLink RX6 10 "LeaningStreet" "now" "LLeaningStreet$Street;", Cond.fieldLink RX6 72 "LeaningStreet$Street" "houses" "[LLeaningStreet$House;", Cond.fieldLink RX6 76 "LeaningStreet$House" "stands" "Z", Cond.constant RX6 119 (-1000000002), Cond.fieldLink RX6 19 "LeaningStreet" "thought" "LLeaningStreet$Street;", Cond.methodLink RX6 68 yX6_isHouse, Cond.instanceMethod yX6_isHouse, Cond.selects RX6 yX6_isHouse yX6_isHouse, Cond.initialized RX6, Cond.code yX6_isHouse cX6_isHouse 2 (some .boolean), Cond.fieldLink RX6 60 "LeaningStreet$Street" "many" "I", Cond.methodLink RX6 166 yX6_thinkOf, Cond.instanceMethod yX6_thinkOf, Cond.selects RX6 yX6_thinkOf yX6_thinkOf, Cond.code yX6_thinkOf cX6_thinkOf 2 (some (.object "LeaningStreet$Street")), Cond.methodLink RX6 303 yX4_beLike, Cond.instanceMethod yX4_beLike, Cond.selects RX4 yX4_beLike yX4_beLike, Cond.initialized RX4, Cond.code yX4_beLike cX4_beLike 3 none, Cond.fieldLink RX4 36 "LeaningStreet$Street" "many" "I", Cond.fieldLink RX4 11 "LeaningStreet$Street" "houses" "[LLeaningStreet$House;", Cond.fieldLink RX4 40 "LeaningStreet$Street" "texts" "I"]
def wsX6_taken_r2 : List Cond := [Cond.fieldLink RX4 19 "LeaningStreet$Street" "allTexts" "[LLeaningStreet$Text;", Cond.fieldLink RX4 23 "LeaningStreet$Street" "counting" "[LLeaningStreet$Text;", Cond.fieldLink RX4 43 "LeaningStreet$Street" "snow" "I", Cond.fieldLink RX4 46 "LeaningStreet$Street" "rent" "I", Cond.fieldLink RX4 49 "LeaningStreet$Street" "day" "I", Cond.fieldLink RX4 52 "LeaningStreet$Street" "z" "I", Cond.methodLink RX4 56 yX0_beLike, Cond.instanceMethod yX0_beLike, Cond.selects RX0 yX0_beLike yX0_beLike, Cond.initialized RX0, Cond.code yX0_beLike cX0_beLike 2 none, Cond.fieldLink RX0 9 "LeaningStreet$House" "kind" "I", Cond.fieldLink RX0 15 "LeaningStreet$House" "weight" "I", Cond.fieldLink RX0 18 "LeaningStreet$House" "lean" "I", Cond.fieldLink RX0 21 "LeaningStreet$House" "wall" "I", Cond.fieldLink RX0 24 "LeaningStreet$House" "crack" "I", Cond.fieldLink RX0 27 "LeaningStreet$House" "prop" "I", Cond.fieldLink RX0 30 "LeaningStreet$House" "stands" "Z", Cond.methodLink RX6 147 yX4_goOn, Cond.instanceMethod yX4_goOn, Cond.selects RX4 yX4_goOn yX4_goOn, Cond.code yX4_goOn cX4_goOn 3 none, Cond.methodLink RX4 168 yX4_goOneDay, Cond.instanceMethod yX4_goOneDay]
def wsX6_taken_r3 : List Cond := [Cond.selects RX4 yX4_goOneDay yX4_goOneDay, Cond.code yX4_goOneDay cX4_goOneDay 3 (some .boolean), Cond.methodLink RX4 143 yX4_workOutThrusts, Cond.instanceMethod yX4_workOutThrusts, Cond.selects RX4 yX4_workOutThrusts yX4_workOutThrusts, Cond.code yX4_workOutThrusts cX4_workOutThrusts 3 none, Cond.fieldLink RX4 26 "LeaningStreet$Street" "thrusts" "[I", Cond.fieldLink RX4 30 "LeaningStreet$Street" "lesser" "[I", Cond.fieldLink RX4 33 "LeaningStreet$Street" "greater" "[I", Cond.fieldLink RX4 129 "LeaningStreet$House" "stands" "Z", Cond.methodLink RX4 133 yX4_lean, Cond.instanceMethod yX4_lean, Cond.selects RX4 yX4_lean yX4_lean, Cond.code yX4_lean cX4_lean 3 none, Cond.fieldLink RX4 69 "LeaningStreet$House" "lean" "I", Cond.methodLink RX4 136 yX4_pushOf, Cond.instanceMethod yX4_pushOf, Cond.selects RX4 yX4_pushOf yX4_pushOf, Cond.code yX4_pushOf cX4_pushOf 4 (some .int), Cond.methodLink RX4 118 Lib.Math.abs.name, Cond.static Lib.Math.abs.name, Cond.initialized "java/lang/Math", Cond.code Lib.Math.abs.name Lib.Math.abs.code 1 (some .int), Cond.fieldLink RX4 66 "LeaningStreet$House" "weight" "I"]
def wsX6_taken_r4 : List Cond := [Cond.fieldLink RX4 115 "LeaningStreet$House" "crack" "I", Cond.methodLink RX4 122 yX5_value, Cond.instanceMethod yX5_value, Cond.selects RX5 yX5_value yX5_value, Cond.initialized RX5, Cond.code yX5_value cX5_value 9 (some .int), Cond.fieldLink RX5 21 "LeaningStreet$Text" "code" "[I", Cond.fieldLink RX5 31 "LeaningStreet$Text" "stack" "[I", Cond.methodLink RX5 34 yX5_joined, Cond.static yX5_joined, Cond.code yX5_joined cX5_joined 3 (some .int), Cond.methodLink RX4 126 yX0_pushing, Cond.instanceMethod yX0_pushing, Cond.selects RX0 yX0_pushing yX0_pushing, Cond.code yX0_pushing cX0_pushing 3 (some .int), Cond.methodLink RX0 38 Lib.Math.min.name, Cond.static Lib.Math.min.name, Cond.code Lib.Math.min.name Lib.Math.min.code 2 (some .int), Cond.methodLink RX0 44 Lib.Math.max.name, Cond.static Lib.Math.max.name, Cond.code Lib.Math.max.name Lib.Math.max.code 2 (some .int), Cond.methodLink RX4 149 yX4_crackAndMove, Cond.instanceMethod yX4_crackAndMove, Cond.selects RX4 yX4_crackAndMove yX4_crackAndMove]
def wsX6_taken_r5 : List Cond := [Cond.code yX4_crackAndMove cX4_crackAndMove 6 (some .boolean), Cond.methodLink RX4 106 Lib.Math.min.name, Cond.methodLink RX4 112 Lib.Math.max.name, Cond.methodLink RX4 146 yX4_tooMuch, Cond.instanceMethod yX4_tooMuch, Cond.selects RX4 yX4_tooMuch yX4_tooMuch, Cond.code yX4_tooMuch cX4_tooMuch 2 (some .int), Cond.methodLink RX4 140 yX0_bearing, Cond.instanceMethod yX0_bearing, Cond.selects RX0 yX0_bearing yX0_bearing, Cond.code yX0_bearing cX0_bearing 2 (some .int), Cond.methodLink RX4 153 yX4_fallByCracks, Cond.instanceMethod yX4_fallByCracks, Cond.selects RX4 yX4_fallByCracks yX4_fallByCracks, Cond.code yX4_fallByCracks cX4_fallByCracks 3 (some .boolean), Cond.methodLink RX4 162 yX0_fall, Cond.instanceMethod yX0_fall, Cond.selects RX0 yX0_fall yX0_fall, Cond.code yX0_fall cX0_fall 1 none, Cond.methodLink RX4 156 yX4_fallByNeighbours, Cond.instanceMethod yX4_fallByNeighbours, Cond.selects RX4 yX4_fallByNeighbours yX4_fallByNeighbours, Cond.code yX4_fallByNeighbours cX4_fallByNeighbours 4 none, Cond.methodLink RX4 165 yX4_hasLostItsRest]
def wsX6_taken_r6 : List Cond := [Cond.instanceMethod yX4_hasLostItsRest, Cond.selects RX4 yX4_hasLostItsRest yX4_hasLostItsRest, Cond.code yX4_hasLostItsRest cX4_hasLostItsRest 3 (some .boolean), Cond.methodLink RX4 159 yX4_props, Cond.instanceMethod yX4_props, Cond.selects RX4 yX4_props yX4_props, Cond.code yX4_props cX4_props 3 (some .int), Cond.fieldLink RX4 75 "LeaningStreet$House" "prop" "I", Cond.methodLink RX6 154 yX4_standing, Cond.instanceMethod yX4_standing, Cond.selects RX4 yX4_standing yX4_standing, Cond.code yX4_standing cX4_standing 3 (some .int), Cond.methodLink RX6 120 yX0_fall]
def wsX6_taken : List Cond := .code yX6_taken cX6_taken 4 (some .int) :: ((wsX6_taken_r1 ++ (wsX6_taken_r2 ++ (wsX6_taken_r3 ++ (wsX6_taken_r4 ++ (wsX6_taken_r5 ++ wsX6_taken_r6))))) ++ wsX60 ++ wsX40 ++ wsX00 ++ wsX50)
def wsX6_isEnough_r1 : List Cond := [Cond.fieldLink RX6 10 "LeaningStreet" "now" "LLeaningStreet$Street;", Cond.fieldLink RX6 72 "LeaningStreet$Street" "houses" "[LLeaningStreet$House;", Cond.fieldLink RX6 215 "LeaningStreet$House" "prop" "I", Cond.fieldLink RX6 181 "LeaningStreet" "MOST" "[I", Cond.fieldLink RX6 19 "LeaningStreet" "thought" "LLeaningStreet$Street;", Cond.methodLink RX6 166 yX6_thinkOf, Cond.instanceMethod yX6_thinkOf, Cond.selects RX6 yX6_thinkOf yX6_thinkOf, Cond.initialized RX6, Cond.code yX6_thinkOf cX6_thinkOf 2 (some (.object "LeaningStreet$Street")), Cond.methodLink RX6 303 yX4_beLike, Cond.instanceMethod yX4_beLike, Cond.selects RX4 yX4_beLike yX4_beLike, Cond.initialized RX4, Cond.code yX4_beLike cX4_beLike 3 none, Cond.fieldLink RX4 36 "LeaningStreet$Street" "many" "I", Cond.fieldLink RX4 11 "LeaningStreet$Street" "houses" "[LLeaningStreet$House;", Cond.fieldLink RX4 40 "LeaningStreet$Street" "texts" "I", Cond.fieldLink RX4 19 "LeaningStreet$Street" "allTexts" "[LLeaningStreet$Text;", Cond.fieldLink RX4 23 "LeaningStreet$Street" "counting" "[LLeaningStreet$Text;", Cond.fieldLink RX4 43 "LeaningStreet$Street" "snow" "I", Cond.fieldLink RX4 46 "LeaningStreet$Street" "rent" "I", Cond.fieldLink RX4 49 "LeaningStreet$Street" "day" "I", Cond.fieldLink RX4 52 "LeaningStreet$Street" "z" "I"]
def wsX6_isEnough_r2 : List Cond := [Cond.methodLink RX4 56 yX0_beLike, Cond.instanceMethod yX0_beLike, Cond.selects RX0 yX0_beLike yX0_beLike, Cond.initialized RX0, Cond.code yX0_beLike cX0_beLike 2 none, Cond.fieldLink RX0 9 "LeaningStreet$House" "kind" "I", Cond.fieldLink RX0 15 "LeaningStreet$House" "weight" "I", Cond.fieldLink RX0 18 "LeaningStreet$House" "lean" "I", Cond.fieldLink RX0 21 "LeaningStreet$House" "wall" "I", Cond.fieldLink RX0 24 "LeaningStreet$House" "crack" "I", Cond.fieldLink RX0 27 "LeaningStreet$House" "prop" "I", Cond.fieldLink RX0 30 "LeaningStreet$House" "stands" "Z", Cond.methodLink RX6 173 yX4_firstFall, Cond.instanceMethod yX4_firstFall, Cond.selects RX4 yX4_firstFall yX4_firstFall, Cond.code yX4_firstFall cX4_firstFall 5 (some .int), Cond.methodLink RX4 171 yX4_howManyStand, Cond.instanceMethod yX4_howManyStand, Cond.selects RX4 yX4_howManyStand yX4_howManyStand, Cond.code yX4_howManyStand cX4_howManyStand 1 (some .int), Cond.methodLink RX4 174 yX4_standing, Cond.instanceMethod yX4_standing, Cond.selects RX4 yX4_standing yX4_standing, Cond.code yX4_standing cX4_standing 3 (some .int)]
def wsX6_isEnough_r3 : List Cond := [Cond.fieldLink RX4 129 "LeaningStreet$House" "stands" "Z", Cond.methodLink RX4 177 yJ6_bitCount_0f7a4, Cond.static yJ6_bitCount_0f7a4, Cond.initialized RJ6, Cond.code yJ6_bitCount_0f7a4 cJ6_bitCount_0f7a4 1 (some .int), Cond.constant RJ6 265 (1431655765), Cond.constant RJ6 266 (858993459), Cond.constant RJ6 267 (252645135), Cond.methodLink RX4 168 yX4_goOneDay, Cond.instanceMethod yX4_goOneDay, Cond.selects RX4 yX4_goOneDay yX4_goOneDay, Cond.code yX4_goOneDay cX4_goOneDay 3 (some .boolean), Cond.methodLink RX4 143 yX4_workOutThrusts, Cond.instanceMethod yX4_workOutThrusts, Cond.selects RX4 yX4_workOutThrusts yX4_workOutThrusts, Cond.code yX4_workOutThrusts cX4_workOutThrusts 3 none, Cond.fieldLink RX4 26 "LeaningStreet$Street" "thrusts" "[I", Cond.fieldLink RX4 30 "LeaningStreet$Street" "lesser" "[I", Cond.fieldLink RX4 33 "LeaningStreet$Street" "greater" "[I", Cond.methodLink RX4 133 yX4_lean, Cond.instanceMethod yX4_lean, Cond.selects RX4 yX4_lean yX4_lean, Cond.code yX4_lean cX4_lean 3 none, Cond.fieldLink RX4 69 "LeaningStreet$House" "lean" "I"]
def wsX6_isEnough_r4 : List Cond := [Cond.methodLink RX4 136 yX4_pushOf, Cond.instanceMethod yX4_pushOf, Cond.selects RX4 yX4_pushOf yX4_pushOf, Cond.code yX4_pushOf cX4_pushOf 4 (some .int), Cond.methodLink RX4 118 Lib.Math.abs.name, Cond.static Lib.Math.abs.name, Cond.initialized "java/lang/Math", Cond.code Lib.Math.abs.name Lib.Math.abs.code 1 (some .int), Cond.fieldLink RX4 66 "LeaningStreet$House" "weight" "I", Cond.fieldLink RX4 115 "LeaningStreet$House" "crack" "I", Cond.methodLink RX4 122 yX5_value, Cond.instanceMethod yX5_value, Cond.selects RX5 yX5_value yX5_value, Cond.initialized RX5, Cond.code yX5_value cX5_value 9 (some .int), Cond.fieldLink RX5 21 "LeaningStreet$Text" "code" "[I", Cond.fieldLink RX5 31 "LeaningStreet$Text" "stack" "[I", Cond.methodLink RX5 34 yX5_joined, Cond.static yX5_joined, Cond.code yX5_joined cX5_joined 3 (some .int), Cond.methodLink RX4 126 yX0_pushing, Cond.instanceMethod yX0_pushing, Cond.selects RX0 yX0_pushing yX0_pushing, Cond.code yX0_pushing cX0_pushing 3 (some .int)]
def wsX6_isEnough_r5 : List Cond := [Cond.methodLink RX0 38 Lib.Math.min.name, Cond.static Lib.Math.min.name, Cond.code Lib.Math.min.name Lib.Math.min.code 2 (some .int), Cond.methodLink RX0 44 Lib.Math.max.name, Cond.static Lib.Math.max.name, Cond.code Lib.Math.max.name Lib.Math.max.code 2 (some .int), Cond.methodLink RX4 149 yX4_crackAndMove, Cond.instanceMethod yX4_crackAndMove, Cond.selects RX4 yX4_crackAndMove yX4_crackAndMove, Cond.code yX4_crackAndMove cX4_crackAndMove 6 (some .boolean), Cond.methodLink RX4 106 Lib.Math.min.name, Cond.methodLink RX4 112 Lib.Math.max.name, Cond.methodLink RX4 146 yX4_tooMuch, Cond.instanceMethod yX4_tooMuch, Cond.selects RX4 yX4_tooMuch yX4_tooMuch, Cond.code yX4_tooMuch cX4_tooMuch 2 (some .int), Cond.methodLink RX4 140 yX0_bearing, Cond.instanceMethod yX0_bearing, Cond.selects RX0 yX0_bearing yX0_bearing, Cond.code yX0_bearing cX0_bearing 2 (some .int), Cond.methodLink RX4 153 yX4_fallByCracks, Cond.instanceMethod yX4_fallByCracks, Cond.selects RX4 yX4_fallByCracks yX4_fallByCracks, Cond.code yX4_fallByCracks cX4_fallByCracks 3 (some .boolean)]
def wsX6_isEnough_r6 : List Cond := [Cond.methodLink RX4 162 yX0_fall, Cond.instanceMethod yX0_fall, Cond.selects RX0 yX0_fall yX0_fall, Cond.code yX0_fall cX0_fall 1 none, Cond.methodLink RX4 156 yX4_fallByNeighbours, Cond.instanceMethod yX4_fallByNeighbours, Cond.selects RX4 yX4_fallByNeighbours yX4_fallByNeighbours, Cond.code yX4_fallByNeighbours cX4_fallByNeighbours 4 none, Cond.methodLink RX4 165 yX4_hasLostItsRest, Cond.instanceMethod yX4_hasLostItsRest, Cond.selects RX4 yX4_hasLostItsRest yX4_hasLostItsRest, Cond.code yX4_hasLostItsRest cX4_hasLostItsRest 3 (some .boolean), Cond.methodLink RX4 159 yX4_props, Cond.instanceMethod yX4_props, Cond.selects RX4 yX4_props yX4_props, Cond.code yX4_props cX4_props 3 (some .int), Cond.fieldLink RX4 75 "LeaningStreet$House" "prop" "I"]
def wsX6_isEnough : List Cond := .code yX6_isEnough cX6_isEnough 4 (some .boolean) :: ((wsX6_isEnough_r1 ++ (wsX6_isEnough_r2 ++ (wsX6_isEnough_r3 ++ (wsX6_isEnough_r4 ++ (wsX6_isEnough_r5 ++ wsX6_isEnough_r6))))) ++ wsX60 ++ wsX40 ++ wsX00 ++ wsX50)
def wsX6_propped_r1 : List Cond := [Cond.constant RX6 59 (-1000000001), Cond.fieldLink RX6 10 "LeaningStreet" "now" "LLeaningStreet$Street;", Cond.fieldLink RX6 19 "LeaningStreet" "thought" "LLeaningStreet$Street;", Cond.fieldLink RX6 181 "LeaningStreet" "MOST" "[I", Cond.fieldLink RX6 60 "LeaningStreet$Street" "many" "I", Cond.constant RX6 176 (-1000000005), Cond.methodLink RX6 166 yX6_thinkOf, Cond.instanceMethod yX6_thinkOf, Cond.selects RX6 yX6_thinkOf yX6_thinkOf, Cond.initialized RX6, Cond.code yX6_thinkOf cX6_thinkOf 2 (some (.object "LeaningStreet$Street")), Cond.methodLink RX6 303 yX4_beLike, Cond.instanceMethod yX4_beLike, Cond.selects RX4 yX4_beLike yX4_beLike, Cond.initialized RX4, Cond.code yX4_beLike cX4_beLike 3 none, Cond.fieldLink RX4 36 "LeaningStreet$Street" "many" "I", Cond.fieldLink RX4 11 "LeaningStreet$Street" "houses" "[LLeaningStreet$House;", Cond.fieldLink RX4 40 "LeaningStreet$Street" "texts" "I", Cond.fieldLink RX4 19 "LeaningStreet$Street" "allTexts" "[LLeaningStreet$Text;", Cond.fieldLink RX4 23 "LeaningStreet$Street" "counting" "[LLeaningStreet$Text;", Cond.fieldLink RX4 43 "LeaningStreet$Street" "snow" "I", Cond.fieldLink RX4 46 "LeaningStreet$Street" "rent" "I", Cond.fieldLink RX4 49 "LeaningStreet$Street" "day" "I"]
def wsX6_propped_r2 : List Cond := [Cond.fieldLink RX4 52 "LeaningStreet$Street" "z" "I", Cond.methodLink RX4 56 yX0_beLike, Cond.instanceMethod yX0_beLike, Cond.selects RX0 yX0_beLike yX0_beLike, Cond.initialized RX0, Cond.code yX0_beLike cX0_beLike 2 none, Cond.fieldLink RX0 9 "LeaningStreet$House" "kind" "I", Cond.fieldLink RX0 15 "LeaningStreet$House" "weight" "I", Cond.fieldLink RX0 18 "LeaningStreet$House" "lean" "I", Cond.fieldLink RX0 21 "LeaningStreet$House" "wall" "I", Cond.fieldLink RX0 24 "LeaningStreet$House" "crack" "I", Cond.fieldLink RX0 27 "LeaningStreet$House" "prop" "I", Cond.fieldLink RX0 30 "LeaningStreet$House" "stands" "Z", Cond.methodLink RX6 173 yX4_firstFall, Cond.instanceMethod yX4_firstFall, Cond.selects RX4 yX4_firstFall yX4_firstFall, Cond.code yX4_firstFall cX4_firstFall 5 (some .int), Cond.methodLink RX4 171 yX4_howManyStand, Cond.instanceMethod yX4_howManyStand, Cond.selects RX4 yX4_howManyStand yX4_howManyStand, Cond.code yX4_howManyStand cX4_howManyStand 1 (some .int), Cond.methodLink RX4 174 yX4_standing, Cond.instanceMethod yX4_standing, Cond.selects RX4 yX4_standing yX4_standing]
def wsX6_propped_r3 : List Cond := [Cond.code yX4_standing cX4_standing 3 (some .int), Cond.fieldLink RX4 129 "LeaningStreet$House" "stands" "Z", Cond.methodLink RX4 177 yJ6_bitCount_0f7a4, Cond.static yJ6_bitCount_0f7a4, Cond.initialized RJ6, Cond.code yJ6_bitCount_0f7a4 cJ6_bitCount_0f7a4 1 (some .int), Cond.constant RJ6 265 (1431655765), Cond.constant RJ6 266 (858993459), Cond.constant RJ6 267 (252645135), Cond.methodLink RX4 168 yX4_goOneDay, Cond.instanceMethod yX4_goOneDay, Cond.selects RX4 yX4_goOneDay yX4_goOneDay, Cond.code yX4_goOneDay cX4_goOneDay 3 (some .boolean), Cond.methodLink RX4 143 yX4_workOutThrusts, Cond.instanceMethod yX4_workOutThrusts, Cond.selects RX4 yX4_workOutThrusts yX4_workOutThrusts, Cond.code yX4_workOutThrusts cX4_workOutThrusts 3 none, Cond.fieldLink RX4 26 "LeaningStreet$Street" "thrusts" "[I", Cond.fieldLink RX4 30 "LeaningStreet$Street" "lesser" "[I", Cond.fieldLink RX4 33 "LeaningStreet$Street" "greater" "[I", Cond.methodLink RX4 133 yX4_lean, Cond.instanceMethod yX4_lean, Cond.selects RX4 yX4_lean yX4_lean, Cond.code yX4_lean cX4_lean 3 none]
def wsX6_propped_r4 : List Cond := [Cond.fieldLink RX4 69 "LeaningStreet$House" "lean" "I", Cond.methodLink RX4 136 yX4_pushOf, Cond.instanceMethod yX4_pushOf, Cond.selects RX4 yX4_pushOf yX4_pushOf, Cond.code yX4_pushOf cX4_pushOf 4 (some .int), Cond.methodLink RX4 118 Lib.Math.abs.name, Cond.static Lib.Math.abs.name, Cond.initialized "java/lang/Math", Cond.code Lib.Math.abs.name Lib.Math.abs.code 1 (some .int), Cond.fieldLink RX4 66 "LeaningStreet$House" "weight" "I", Cond.fieldLink RX4 115 "LeaningStreet$House" "crack" "I", Cond.methodLink RX4 122 yX5_value, Cond.instanceMethod yX5_value, Cond.selects RX5 yX5_value yX5_value, Cond.initialized RX5, Cond.code yX5_value cX5_value 9 (some .int), Cond.fieldLink RX5 21 "LeaningStreet$Text" "code" "[I", Cond.fieldLink RX5 31 "LeaningStreet$Text" "stack" "[I", Cond.methodLink RX5 34 yX5_joined, Cond.static yX5_joined, Cond.code yX5_joined cX5_joined 3 (some .int), Cond.methodLink RX4 126 yX0_pushing, Cond.instanceMethod yX0_pushing, Cond.selects RX0 yX0_pushing yX0_pushing]
def wsX6_propped_r5 : List Cond := [Cond.code yX0_pushing cX0_pushing 3 (some .int), Cond.methodLink RX0 38 Lib.Math.min.name, Cond.static Lib.Math.min.name, Cond.code Lib.Math.min.name Lib.Math.min.code 2 (some .int), Cond.methodLink RX0 44 Lib.Math.max.name, Cond.static Lib.Math.max.name, Cond.code Lib.Math.max.name Lib.Math.max.code 2 (some .int), Cond.methodLink RX4 149 yX4_crackAndMove, Cond.instanceMethod yX4_crackAndMove, Cond.selects RX4 yX4_crackAndMove yX4_crackAndMove, Cond.code yX4_crackAndMove cX4_crackAndMove 6 (some .boolean), Cond.methodLink RX4 106 Lib.Math.min.name, Cond.methodLink RX4 112 Lib.Math.max.name, Cond.methodLink RX4 146 yX4_tooMuch, Cond.instanceMethod yX4_tooMuch, Cond.selects RX4 yX4_tooMuch yX4_tooMuch, Cond.code yX4_tooMuch cX4_tooMuch 2 (some .int), Cond.methodLink RX4 140 yX0_bearing, Cond.instanceMethod yX0_bearing, Cond.selects RX0 yX0_bearing yX0_bearing, Cond.code yX0_bearing cX0_bearing 2 (some .int), Cond.methodLink RX4 153 yX4_fallByCracks, Cond.instanceMethod yX4_fallByCracks, Cond.selects RX4 yX4_fallByCracks yX4_fallByCracks]
def wsX6_propped_r6 : List Cond := [Cond.code yX4_fallByCracks cX4_fallByCracks 3 (some .boolean), Cond.methodLink RX4 162 yX0_fall, Cond.instanceMethod yX0_fall, Cond.selects RX0 yX0_fall yX0_fall, Cond.code yX0_fall cX0_fall 1 none, Cond.methodLink RX4 156 yX4_fallByNeighbours, Cond.instanceMethod yX4_fallByNeighbours, Cond.selects RX4 yX4_fallByNeighbours yX4_fallByNeighbours, Cond.code yX4_fallByNeighbours cX4_fallByNeighbours 4 none, Cond.methodLink RX4 165 yX4_hasLostItsRest, Cond.instanceMethod yX4_hasLostItsRest, Cond.selects RX4 yX4_hasLostItsRest yX4_hasLostItsRest, Cond.code yX4_hasLostItsRest cX4_hasLostItsRest 3 (some .boolean), Cond.methodLink RX4 159 yX4_props, Cond.instanceMethod yX4_props, Cond.selects RX4 yX4_props yX4_props, Cond.code yX4_props cX4_props 3 (some .int), Cond.fieldLink RX4 75 "LeaningStreet$House" "prop" "I", Cond.methodLink RX6 177 yX4_crackedSince, Cond.instanceMethod yX4_crackedSince, Cond.selects RX4 yX4_crackedSince yX4_crackedSince, Cond.code yX4_crackedSince cX4_crackedSince 4 (some .int), Cond.methodLink RX6 184 yX6_isEnough, Cond.instanceMethod yX6_isEnough]
def wsX6_propped_r7 : List Cond := [Cond.selects RX6 yX6_isEnough yX6_isEnough, Cond.code yX6_isEnough cX6_isEnough 4 (some .boolean), Cond.fieldLink RX6 72 "LeaningStreet$Street" "houses" "[LLeaningStreet$House;", Cond.fieldLink RX6 215 "LeaningStreet$House" "prop" "I"]
def wsX6_propped : List Cond := .code yX6_propped cX6_propped 5 (some .int) :: ((wsX6_propped_r1 ++ (wsX6_propped_r2 ++ (wsX6_propped_r3 ++ (wsX6_propped_r4 ++ (wsX6_propped_r5 ++ (wsX6_propped_r6 ++ wsX6_propped_r7)))))) ++ wsX60 ++ wsX40 ++ wsX00 ++ wsX50)
def wsX6_thinkWithoutWall_r1 : List Cond := [Cond.fieldLink RX6 10 "LeaningStreet" "now" "LLeaningStreet$Street;", Cond.fieldLink RX6 72 "LeaningStreet$Street" "houses" "[LLeaningStreet$House;", Cond.fieldLink RX6 108 "LeaningStreet$House" "wall" "I", Cond.fieldLink RX6 19 "LeaningStreet" "thought" "LLeaningStreet$Street;", Cond.methodLink RX6 166 yX6_thinkOf, Cond.instanceMethod yX6_thinkOf, Cond.selects RX6 yX6_thinkOf yX6_thinkOf, Cond.initialized RX6, Cond.code yX6_thinkOf cX6_thinkOf 2 (some (.object "LeaningStreet$Street")), Cond.methodLink RX6 303 yX4_beLike, Cond.instanceMethod yX4_beLike, Cond.selects RX4 yX4_beLike yX4_beLike, Cond.initialized RX4, Cond.code yX4_beLike cX4_beLike 3 none, Cond.fieldLink RX4 36 "LeaningStreet$Street" "many" "I", Cond.fieldLink RX4 11 "LeaningStreet$Street" "houses" "[LLeaningStreet$House;", Cond.fieldLink RX4 40 "LeaningStreet$Street" "texts" "I", Cond.fieldLink RX4 19 "LeaningStreet$Street" "allTexts" "[LLeaningStreet$Text;", Cond.fieldLink RX4 23 "LeaningStreet$Street" "counting" "[LLeaningStreet$Text;", Cond.fieldLink RX4 43 "LeaningStreet$Street" "snow" "I", Cond.fieldLink RX4 46 "LeaningStreet$Street" "rent" "I", Cond.fieldLink RX4 49 "LeaningStreet$Street" "day" "I", Cond.fieldLink RX4 52 "LeaningStreet$Street" "z" "I", Cond.methodLink RX4 56 yX0_beLike]
def wsX6_thinkWithoutWall_r2 : List Cond := [Cond.instanceMethod yX0_beLike, Cond.selects RX0 yX0_beLike yX0_beLike, Cond.initialized RX0, Cond.code yX0_beLike cX0_beLike 2 none, Cond.fieldLink RX0 9 "LeaningStreet$House" "kind" "I", Cond.fieldLink RX0 15 "LeaningStreet$House" "weight" "I", Cond.fieldLink RX0 18 "LeaningStreet$House" "lean" "I", Cond.fieldLink RX0 21 "LeaningStreet$House" "wall" "I", Cond.fieldLink RX0 24 "LeaningStreet$House" "crack" "I", Cond.fieldLink RX0 27 "LeaningStreet$House" "prop" "I", Cond.fieldLink RX0 30 "LeaningStreet$House" "stands" "Z", Cond.methodLink RX6 147 yX4_goOn, Cond.instanceMethod yX4_goOn, Cond.selects RX4 yX4_goOn yX4_goOn, Cond.code yX4_goOn cX4_goOn 3 none, Cond.methodLink RX4 168 yX4_goOneDay, Cond.instanceMethod yX4_goOneDay, Cond.selects RX4 yX4_goOneDay yX4_goOneDay, Cond.code yX4_goOneDay cX4_goOneDay 3 (some .boolean), Cond.methodLink RX4 143 yX4_workOutThrusts, Cond.instanceMethod yX4_workOutThrusts, Cond.selects RX4 yX4_workOutThrusts yX4_workOutThrusts, Cond.code yX4_workOutThrusts cX4_workOutThrusts 3 none, Cond.fieldLink RX4 26 "LeaningStreet$Street" "thrusts" "[I"]
def wsX6_thinkWithoutWall_r3 : List Cond := [Cond.fieldLink RX4 30 "LeaningStreet$Street" "lesser" "[I", Cond.fieldLink RX4 33 "LeaningStreet$Street" "greater" "[I", Cond.fieldLink RX4 129 "LeaningStreet$House" "stands" "Z", Cond.methodLink RX4 133 yX4_lean, Cond.instanceMethod yX4_lean, Cond.selects RX4 yX4_lean yX4_lean, Cond.code yX4_lean cX4_lean 3 none, Cond.fieldLink RX4 69 "LeaningStreet$House" "lean" "I", Cond.methodLink RX4 136 yX4_pushOf, Cond.instanceMethod yX4_pushOf, Cond.selects RX4 yX4_pushOf yX4_pushOf, Cond.code yX4_pushOf cX4_pushOf 4 (some .int), Cond.methodLink RX4 118 Lib.Math.abs.name, Cond.static Lib.Math.abs.name, Cond.initialized "java/lang/Math", Cond.code Lib.Math.abs.name Lib.Math.abs.code 1 (some .int), Cond.fieldLink RX4 66 "LeaningStreet$House" "weight" "I", Cond.fieldLink RX4 115 "LeaningStreet$House" "crack" "I", Cond.methodLink RX4 122 yX5_value, Cond.instanceMethod yX5_value, Cond.selects RX5 yX5_value yX5_value, Cond.initialized RX5, Cond.code yX5_value cX5_value 9 (some .int), Cond.fieldLink RX5 21 "LeaningStreet$Text" "code" "[I"]
def wsX6_thinkWithoutWall_r4 : List Cond := [Cond.fieldLink RX5 31 "LeaningStreet$Text" "stack" "[I", Cond.methodLink RX5 34 yX5_joined, Cond.static yX5_joined, Cond.code yX5_joined cX5_joined 3 (some .int), Cond.methodLink RX4 126 yX0_pushing, Cond.instanceMethod yX0_pushing, Cond.selects RX0 yX0_pushing yX0_pushing, Cond.code yX0_pushing cX0_pushing 3 (some .int), Cond.methodLink RX0 38 Lib.Math.min.name, Cond.static Lib.Math.min.name, Cond.code Lib.Math.min.name Lib.Math.min.code 2 (some .int), Cond.methodLink RX0 44 Lib.Math.max.name, Cond.static Lib.Math.max.name, Cond.code Lib.Math.max.name Lib.Math.max.code 2 (some .int), Cond.methodLink RX4 149 yX4_crackAndMove, Cond.instanceMethod yX4_crackAndMove, Cond.selects RX4 yX4_crackAndMove yX4_crackAndMove, Cond.code yX4_crackAndMove cX4_crackAndMove 6 (some .boolean), Cond.methodLink RX4 106 Lib.Math.min.name, Cond.methodLink RX4 112 Lib.Math.max.name, Cond.methodLink RX4 146 yX4_tooMuch, Cond.instanceMethod yX4_tooMuch, Cond.selects RX4 yX4_tooMuch yX4_tooMuch, Cond.code yX4_tooMuch cX4_tooMuch 2 (some .int)]
def wsX6_thinkWithoutWall_r5 : List Cond := [Cond.methodLink RX4 140 yX0_bearing, Cond.instanceMethod yX0_bearing, Cond.selects RX0 yX0_bearing yX0_bearing, Cond.code yX0_bearing cX0_bearing 2 (some .int), Cond.methodLink RX4 153 yX4_fallByCracks, Cond.instanceMethod yX4_fallByCracks, Cond.selects RX4 yX4_fallByCracks yX4_fallByCracks, Cond.code yX4_fallByCracks cX4_fallByCracks 3 (some .boolean), Cond.methodLink RX4 162 yX0_fall, Cond.instanceMethod yX0_fall, Cond.selects RX0 yX0_fall yX0_fall, Cond.code yX0_fall cX0_fall 1 none, Cond.methodLink RX4 156 yX4_fallByNeighbours, Cond.instanceMethod yX4_fallByNeighbours, Cond.selects RX4 yX4_fallByNeighbours yX4_fallByNeighbours, Cond.code yX4_fallByNeighbours cX4_fallByNeighbours 4 none, Cond.methodLink RX4 165 yX4_hasLostItsRest, Cond.instanceMethod yX4_hasLostItsRest, Cond.selects RX4 yX4_hasLostItsRest yX4_hasLostItsRest, Cond.code yX4_hasLostItsRest cX4_hasLostItsRest 3 (some .boolean), Cond.methodLink RX4 159 yX4_props, Cond.instanceMethod yX4_props, Cond.selects RX4 yX4_props yX4_props, Cond.code yX4_props cX4_props 3 (some .int)]
def wsX6_thinkWithoutWall_r6 : List Cond := [Cond.fieldLink RX4 75 "LeaningStreet$House" "prop" "I"]
def wsX6_thinkWithoutWall : List Cond := .code yX6_thinkWithoutWall cX6_thinkWithoutWall 3 none :: ((wsX6_thinkWithoutWall_r1 ++ (wsX6_thinkWithoutWall_r2 ++ (wsX6_thinkWithoutWall_r3 ++ (wsX6_thinkWithoutWall_r4 ++ (wsX6_thinkWithoutWall_r5 ++ wsX6_thinkWithoutWall_r6))))) ++ wsX60 ++ wsX40 ++ wsX00 ++ wsX50)
def wsX6_wall_r1 : List Cond := [Cond.constant RX6 59 (-1000000001), Cond.constant RX6 176 (-1000000005), Cond.fieldLink RX6 10 "LeaningStreet" "now" "LLeaningStreet$Street;", Cond.fieldLink RX6 60 "LeaningStreet$Street" "many" "I", Cond.fieldLink RX6 19 "LeaningStreet" "thought" "LLeaningStreet$Street;", Cond.methodLink RX6 188 yX6_thinkWithoutWall, Cond.instanceMethod yX6_thinkWithoutWall, Cond.selects RX6 yX6_thinkWithoutWall yX6_thinkWithoutWall, Cond.initialized RX6, Cond.code yX6_thinkWithoutWall cX6_thinkWithoutWall 3 none, Cond.fieldLink RX6 72 "LeaningStreet$Street" "houses" "[LLeaningStreet$House;", Cond.fieldLink RX6 108 "LeaningStreet$House" "wall" "I", Cond.methodLink RX6 166 yX6_thinkOf, Cond.instanceMethod yX6_thinkOf, Cond.selects RX6 yX6_thinkOf yX6_thinkOf, Cond.code yX6_thinkOf cX6_thinkOf 2 (some (.object "LeaningStreet$Street")), Cond.methodLink RX6 303 yX4_beLike, Cond.instanceMethod yX4_beLike, Cond.selects RX4 yX4_beLike yX4_beLike, Cond.initialized RX4, Cond.code yX4_beLike cX4_beLike 3 none, Cond.fieldLink RX4 36 "LeaningStreet$Street" "many" "I", Cond.fieldLink RX4 11 "LeaningStreet$Street" "houses" "[LLeaningStreet$House;", Cond.fieldLink RX4 40 "LeaningStreet$Street" "texts" "I"]
def wsX6_wall_r2 : List Cond := [Cond.fieldLink RX4 19 "LeaningStreet$Street" "allTexts" "[LLeaningStreet$Text;", Cond.fieldLink RX4 23 "LeaningStreet$Street" "counting" "[LLeaningStreet$Text;", Cond.fieldLink RX4 43 "LeaningStreet$Street" "snow" "I", Cond.fieldLink RX4 46 "LeaningStreet$Street" "rent" "I", Cond.fieldLink RX4 49 "LeaningStreet$Street" "day" "I", Cond.fieldLink RX4 52 "LeaningStreet$Street" "z" "I", Cond.methodLink RX4 56 yX0_beLike, Cond.instanceMethod yX0_beLike, Cond.selects RX0 yX0_beLike yX0_beLike, Cond.initialized RX0, Cond.code yX0_beLike cX0_beLike 2 none, Cond.fieldLink RX0 9 "LeaningStreet$House" "kind" "I", Cond.fieldLink RX0 15 "LeaningStreet$House" "weight" "I", Cond.fieldLink RX0 18 "LeaningStreet$House" "lean" "I", Cond.fieldLink RX0 21 "LeaningStreet$House" "wall" "I", Cond.fieldLink RX0 24 "LeaningStreet$House" "crack" "I", Cond.fieldLink RX0 27 "LeaningStreet$House" "prop" "I", Cond.fieldLink RX0 30 "LeaningStreet$House" "stands" "Z", Cond.methodLink RX6 147 yX4_goOn, Cond.instanceMethod yX4_goOn, Cond.selects RX4 yX4_goOn yX4_goOn, Cond.code yX4_goOn cX4_goOn 3 none, Cond.methodLink RX4 168 yX4_goOneDay, Cond.instanceMethod yX4_goOneDay]
def wsX6_wall_r3 : List Cond := [Cond.selects RX4 yX4_goOneDay yX4_goOneDay, Cond.code yX4_goOneDay cX4_goOneDay 3 (some .boolean), Cond.methodLink RX4 143 yX4_workOutThrusts, Cond.instanceMethod yX4_workOutThrusts, Cond.selects RX4 yX4_workOutThrusts yX4_workOutThrusts, Cond.code yX4_workOutThrusts cX4_workOutThrusts 3 none, Cond.fieldLink RX4 26 "LeaningStreet$Street" "thrusts" "[I", Cond.fieldLink RX4 30 "LeaningStreet$Street" "lesser" "[I", Cond.fieldLink RX4 33 "LeaningStreet$Street" "greater" "[I", Cond.fieldLink RX4 129 "LeaningStreet$House" "stands" "Z", Cond.methodLink RX4 133 yX4_lean, Cond.instanceMethod yX4_lean, Cond.selects RX4 yX4_lean yX4_lean, Cond.code yX4_lean cX4_lean 3 none, Cond.fieldLink RX4 69 "LeaningStreet$House" "lean" "I", Cond.methodLink RX4 136 yX4_pushOf, Cond.instanceMethod yX4_pushOf, Cond.selects RX4 yX4_pushOf yX4_pushOf, Cond.code yX4_pushOf cX4_pushOf 4 (some .int), Cond.methodLink RX4 118 Lib.Math.abs.name, Cond.static Lib.Math.abs.name, Cond.initialized "java/lang/Math", Cond.code Lib.Math.abs.name Lib.Math.abs.code 1 (some .int), Cond.fieldLink RX4 66 "LeaningStreet$House" "weight" "I"]
def wsX6_wall_r4 : List Cond := [Cond.fieldLink RX4 115 "LeaningStreet$House" "crack" "I", Cond.methodLink RX4 122 yX5_value, Cond.instanceMethod yX5_value, Cond.selects RX5 yX5_value yX5_value, Cond.initialized RX5, Cond.code yX5_value cX5_value 9 (some .int), Cond.fieldLink RX5 21 "LeaningStreet$Text" "code" "[I", Cond.fieldLink RX5 31 "LeaningStreet$Text" "stack" "[I", Cond.methodLink RX5 34 yX5_joined, Cond.static yX5_joined, Cond.code yX5_joined cX5_joined 3 (some .int), Cond.methodLink RX4 126 yX0_pushing, Cond.instanceMethod yX0_pushing, Cond.selects RX0 yX0_pushing yX0_pushing, Cond.code yX0_pushing cX0_pushing 3 (some .int), Cond.methodLink RX0 38 Lib.Math.min.name, Cond.static Lib.Math.min.name, Cond.code Lib.Math.min.name Lib.Math.min.code 2 (some .int), Cond.methodLink RX0 44 Lib.Math.max.name, Cond.static Lib.Math.max.name, Cond.code Lib.Math.max.name Lib.Math.max.code 2 (some .int), Cond.methodLink RX4 149 yX4_crackAndMove, Cond.instanceMethod yX4_crackAndMove, Cond.selects RX4 yX4_crackAndMove yX4_crackAndMove]
def wsX6_wall_r5 : List Cond := [Cond.code yX4_crackAndMove cX4_crackAndMove 6 (some .boolean), Cond.methodLink RX4 106 Lib.Math.min.name, Cond.methodLink RX4 112 Lib.Math.max.name, Cond.methodLink RX4 146 yX4_tooMuch, Cond.instanceMethod yX4_tooMuch, Cond.selects RX4 yX4_tooMuch yX4_tooMuch, Cond.code yX4_tooMuch cX4_tooMuch 2 (some .int), Cond.methodLink RX4 140 yX0_bearing, Cond.instanceMethod yX0_bearing, Cond.selects RX0 yX0_bearing yX0_bearing, Cond.code yX0_bearing cX0_bearing 2 (some .int), Cond.methodLink RX4 153 yX4_fallByCracks, Cond.instanceMethod yX4_fallByCracks, Cond.selects RX4 yX4_fallByCracks yX4_fallByCracks, Cond.code yX4_fallByCracks cX4_fallByCracks 3 (some .boolean), Cond.methodLink RX4 162 yX0_fall, Cond.instanceMethod yX0_fall, Cond.selects RX0 yX0_fall yX0_fall, Cond.code yX0_fall cX0_fall 1 none, Cond.methodLink RX4 156 yX4_fallByNeighbours, Cond.instanceMethod yX4_fallByNeighbours, Cond.selects RX4 yX4_fallByNeighbours yX4_fallByNeighbours, Cond.code yX4_fallByNeighbours cX4_fallByNeighbours 4 none, Cond.methodLink RX4 165 yX4_hasLostItsRest]
def wsX6_wall_r6 : List Cond := [Cond.instanceMethod yX4_hasLostItsRest, Cond.selects RX4 yX4_hasLostItsRest yX4_hasLostItsRest, Cond.code yX4_hasLostItsRest cX4_hasLostItsRest 3 (some .boolean), Cond.methodLink RX4 159 yX4_props, Cond.instanceMethod yX4_props, Cond.selects RX4 yX4_props yX4_props, Cond.code yX4_props cX4_props 3 (some .int), Cond.fieldLink RX4 75 "LeaningStreet$House" "prop" "I", Cond.methodLink RX6 123 yX4_howManyStand, Cond.instanceMethod yX4_howManyStand, Cond.selects RX4 yX4_howManyStand yX4_howManyStand, Cond.code yX4_howManyStand cX4_howManyStand 1 (some .int), Cond.methodLink RX4 174 yX4_standing, Cond.instanceMethod yX4_standing, Cond.selects RX4 yX4_standing yX4_standing, Cond.code yX4_standing cX4_standing 3 (some .int), Cond.methodLink RX4 177 yJ6_bitCount_0f7a4, Cond.static yJ6_bitCount_0f7a4, Cond.initialized RJ6, Cond.code yJ6_bitCount_0f7a4 cJ6_bitCount_0f7a4 1 (some .int), Cond.constant RJ6 265 (1431655765), Cond.constant RJ6 266 (858993459), Cond.constant RJ6 267 (252645135)]
def wsX6_wall : List Cond := .code yX6_wall cX6_wall 7 (some .int) :: ((wsX6_wall_r1 ++ (wsX6_wall_r2 ++ (wsX6_wall_r3 ++ (wsX6_wall_r4 ++ (wsX6_wall_r5 ++ wsX6_wall_r6))))) ++ wsX60 ++ wsX40 ++ wsX00 ++ wsX50)
def wsX6_snows_r1 : List Cond := [Cond.constant RX6 59 (-1000000001), Cond.fieldLink RX6 10 "LeaningStreet" "now" "LLeaningStreet$Street;", Cond.fieldLink RX6 129 "LeaningStreet$Street" "snow" "I", Cond.fieldLink RX6 19 "LeaningStreet" "thought" "LLeaningStreet$Street;", Cond.constant RX6 176 (-1000000005), Cond.methodLink RX6 166 yX6_thinkOf, Cond.instanceMethod yX6_thinkOf, Cond.selects RX6 yX6_thinkOf yX6_thinkOf, Cond.initialized RX6, Cond.code yX6_thinkOf cX6_thinkOf 2 (some (.object "LeaningStreet$Street")), Cond.methodLink RX6 303 yX4_beLike, Cond.instanceMethod yX4_beLike, Cond.selects RX4 yX4_beLike yX4_beLike, Cond.initialized RX4, Cond.code yX4_beLike cX4_beLike 3 none, Cond.fieldLink RX4 36 "LeaningStreet$Street" "many" "I", Cond.fieldLink RX4 11 "LeaningStreet$Street" "houses" "[LLeaningStreet$House;", Cond.fieldLink RX4 40 "LeaningStreet$Street" "texts" "I", Cond.fieldLink RX4 19 "LeaningStreet$Street" "allTexts" "[LLeaningStreet$Text;", Cond.fieldLink RX4 23 "LeaningStreet$Street" "counting" "[LLeaningStreet$Text;", Cond.fieldLink RX4 43 "LeaningStreet$Street" "snow" "I", Cond.fieldLink RX4 46 "LeaningStreet$Street" "rent" "I", Cond.fieldLink RX4 49 "LeaningStreet$Street" "day" "I", Cond.fieldLink RX4 52 "LeaningStreet$Street" "z" "I"]
def wsX6_snows_r2 : List Cond := [Cond.methodLink RX4 56 yX0_beLike, Cond.instanceMethod yX0_beLike, Cond.selects RX0 yX0_beLike yX0_beLike, Cond.initialized RX0, Cond.code yX0_beLike cX0_beLike 2 none, Cond.fieldLink RX0 9 "LeaningStreet$House" "kind" "I", Cond.fieldLink RX0 15 "LeaningStreet$House" "weight" "I", Cond.fieldLink RX0 18 "LeaningStreet$House" "lean" "I", Cond.fieldLink RX0 21 "LeaningStreet$House" "wall" "I", Cond.fieldLink RX0 24 "LeaningStreet$House" "crack" "I", Cond.fieldLink RX0 27 "LeaningStreet$House" "prop" "I", Cond.fieldLink RX0 30 "LeaningStreet$House" "stands" "Z", Cond.methodLink RX6 173 yX4_firstFall, Cond.instanceMethod yX4_firstFall, Cond.selects RX4 yX4_firstFall yX4_firstFall, Cond.code yX4_firstFall cX4_firstFall 5 (some .int), Cond.methodLink RX4 171 yX4_howManyStand, Cond.instanceMethod yX4_howManyStand, Cond.selects RX4 yX4_howManyStand yX4_howManyStand, Cond.code yX4_howManyStand cX4_howManyStand 1 (some .int), Cond.methodLink RX4 174 yX4_standing, Cond.instanceMethod yX4_standing, Cond.selects RX4 yX4_standing yX4_standing, Cond.code yX4_standing cX4_standing 3 (some .int)]
def wsX6_snows_r3 : List Cond := [Cond.fieldLink RX4 129 "LeaningStreet$House" "stands" "Z", Cond.methodLink RX4 177 yJ6_bitCount_0f7a4, Cond.static yJ6_bitCount_0f7a4, Cond.initialized RJ6, Cond.code yJ6_bitCount_0f7a4 cJ6_bitCount_0f7a4 1 (some .int), Cond.constant RJ6 265 (1431655765), Cond.constant RJ6 266 (858993459), Cond.constant RJ6 267 (252645135), Cond.methodLink RX4 168 yX4_goOneDay, Cond.instanceMethod yX4_goOneDay, Cond.selects RX4 yX4_goOneDay yX4_goOneDay, Cond.code yX4_goOneDay cX4_goOneDay 3 (some .boolean), Cond.methodLink RX4 143 yX4_workOutThrusts, Cond.instanceMethod yX4_workOutThrusts, Cond.selects RX4 yX4_workOutThrusts yX4_workOutThrusts, Cond.code yX4_workOutThrusts cX4_workOutThrusts 3 none, Cond.fieldLink RX4 26 "LeaningStreet$Street" "thrusts" "[I", Cond.fieldLink RX4 30 "LeaningStreet$Street" "lesser" "[I", Cond.fieldLink RX4 33 "LeaningStreet$Street" "greater" "[I", Cond.methodLink RX4 133 yX4_lean, Cond.instanceMethod yX4_lean, Cond.selects RX4 yX4_lean yX4_lean, Cond.code yX4_lean cX4_lean 3 none, Cond.fieldLink RX4 69 "LeaningStreet$House" "lean" "I"]
def wsX6_snows_r4 : List Cond := [Cond.methodLink RX4 136 yX4_pushOf, Cond.instanceMethod yX4_pushOf, Cond.selects RX4 yX4_pushOf yX4_pushOf, Cond.code yX4_pushOf cX4_pushOf 4 (some .int), Cond.methodLink RX4 118 Lib.Math.abs.name, Cond.static Lib.Math.abs.name, Cond.initialized "java/lang/Math", Cond.code Lib.Math.abs.name Lib.Math.abs.code 1 (some .int), Cond.fieldLink RX4 66 "LeaningStreet$House" "weight" "I", Cond.fieldLink RX4 115 "LeaningStreet$House" "crack" "I", Cond.methodLink RX4 122 yX5_value, Cond.instanceMethod yX5_value, Cond.selects RX5 yX5_value yX5_value, Cond.initialized RX5, Cond.code yX5_value cX5_value 9 (some .int), Cond.fieldLink RX5 21 "LeaningStreet$Text" "code" "[I", Cond.fieldLink RX5 31 "LeaningStreet$Text" "stack" "[I", Cond.methodLink RX5 34 yX5_joined, Cond.static yX5_joined, Cond.code yX5_joined cX5_joined 3 (some .int), Cond.methodLink RX4 126 yX0_pushing, Cond.instanceMethod yX0_pushing, Cond.selects RX0 yX0_pushing yX0_pushing, Cond.code yX0_pushing cX0_pushing 3 (some .int)]
def wsX6_snows_r5 : List Cond := [Cond.methodLink RX0 38 Lib.Math.min.name, Cond.static Lib.Math.min.name, Cond.code Lib.Math.min.name Lib.Math.min.code 2 (some .int), Cond.methodLink RX0 44 Lib.Math.max.name, Cond.static Lib.Math.max.name, Cond.code Lib.Math.max.name Lib.Math.max.code 2 (some .int), Cond.methodLink RX4 149 yX4_crackAndMove, Cond.instanceMethod yX4_crackAndMove, Cond.selects RX4 yX4_crackAndMove yX4_crackAndMove, Cond.code yX4_crackAndMove cX4_crackAndMove 6 (some .boolean), Cond.methodLink RX4 106 Lib.Math.min.name, Cond.methodLink RX4 112 Lib.Math.max.name, Cond.methodLink RX4 146 yX4_tooMuch, Cond.instanceMethod yX4_tooMuch, Cond.selects RX4 yX4_tooMuch yX4_tooMuch, Cond.code yX4_tooMuch cX4_tooMuch 2 (some .int), Cond.methodLink RX4 140 yX0_bearing, Cond.instanceMethod yX0_bearing, Cond.selects RX0 yX0_bearing yX0_bearing, Cond.code yX0_bearing cX0_bearing 2 (some .int), Cond.methodLink RX4 153 yX4_fallByCracks, Cond.instanceMethod yX4_fallByCracks, Cond.selects RX4 yX4_fallByCracks yX4_fallByCracks, Cond.code yX4_fallByCracks cX4_fallByCracks 3 (some .boolean)]
def wsX6_snows_r6 : List Cond := [Cond.methodLink RX4 162 yX0_fall, Cond.instanceMethod yX0_fall, Cond.selects RX0 yX0_fall yX0_fall, Cond.code yX0_fall cX0_fall 1 none, Cond.methodLink RX4 156 yX4_fallByNeighbours, Cond.instanceMethod yX4_fallByNeighbours, Cond.selects RX4 yX4_fallByNeighbours yX4_fallByNeighbours, Cond.code yX4_fallByNeighbours cX4_fallByNeighbours 4 none, Cond.methodLink RX4 165 yX4_hasLostItsRest, Cond.instanceMethod yX4_hasLostItsRest, Cond.selects RX4 yX4_hasLostItsRest yX4_hasLostItsRest, Cond.code yX4_hasLostItsRest cX4_hasLostItsRest 3 (some .boolean), Cond.methodLink RX4 159 yX4_props, Cond.instanceMethod yX4_props, Cond.selects RX4 yX4_props yX4_props, Cond.code yX4_props cX4_props 3 (some .int), Cond.fieldLink RX4 75 "LeaningStreet$House" "prop" "I"]
def wsX6_snows : List Cond := .code yX6_snows cX6_snows 3 (some .int) :: ((wsX6_snows_r1 ++ (wsX6_snows_r2 ++ (wsX6_snows_r3 ++ (wsX6_snows_r4 ++ (wsX6_snows_r5 ++ wsX6_snows_r6))))) ++ wsX60 ++ wsX40 ++ wsX00 ++ wsX50)
def wsX6_isSheet : List Cond := .code yX6_isSheet cX6_isSheet 1 (some .boolean) :: ([])
def wsX6_began_r1 : List Cond := [Cond.constant RX6 59 (-1000000001), Cond.fieldLink RX6 31 "LeaningStreet" "sheets" "[LLeaningStreet$Row;", Cond.fieldLink RX6 194 "LeaningStreet$Row" "sort" "I", Cond.constant RX6 197 (-1000000011), Cond.constant RX6 176 (-1000000005), Cond.fieldLink RX6 10 "LeaningStreet" "now" "LLeaningStreet$Street;", Cond.fieldLink RX6 60 "LeaningStreet$Street" "many" "I", Cond.fieldLink RX6 19 "LeaningStreet" "thought" "LLeaningStreet$Street;", Cond.methodLink RX6 191 yX6_isSheet, Cond.static yX6_isSheet, Cond.initialized RX6, Cond.code yX6_isSheet cX6_isSheet 1 (some .boolean), Cond.methodLink RX6 188 yX6_thinkWithoutWall, Cond.instanceMethod yX6_thinkWithoutWall, Cond.selects RX6 yX6_thinkWithoutWall yX6_thinkWithoutWall, Cond.code yX6_thinkWithoutWall cX6_thinkWithoutWall 3 none, Cond.fieldLink RX6 72 "LeaningStreet$Street" "houses" "[LLeaningStreet$House;", Cond.fieldLink RX6 108 "LeaningStreet$House" "wall" "I", Cond.methodLink RX6 166 yX6_thinkOf, Cond.instanceMethod yX6_thinkOf, Cond.selects RX6 yX6_thinkOf yX6_thinkOf, Cond.code yX6_thinkOf cX6_thinkOf 2 (some (.object "LeaningStreet$Street")), Cond.methodLink RX6 303 yX4_beLike, Cond.instanceMethod yX4_beLike]
def wsX6_began_r2 : List Cond := [Cond.selects RX4 yX4_beLike yX4_beLike, Cond.initialized RX4, Cond.code yX4_beLike cX4_beLike 3 none, Cond.fieldLink RX4 36 "LeaningStreet$Street" "many" "I", Cond.fieldLink RX4 11 "LeaningStreet$Street" "houses" "[LLeaningStreet$House;", Cond.fieldLink RX4 40 "LeaningStreet$Street" "texts" "I", Cond.fieldLink RX4 19 "LeaningStreet$Street" "allTexts" "[LLeaningStreet$Text;", Cond.fieldLink RX4 23 "LeaningStreet$Street" "counting" "[LLeaningStreet$Text;", Cond.fieldLink RX4 43 "LeaningStreet$Street" "snow" "I", Cond.fieldLink RX4 46 "LeaningStreet$Street" "rent" "I", Cond.fieldLink RX4 49 "LeaningStreet$Street" "day" "I", Cond.fieldLink RX4 52 "LeaningStreet$Street" "z" "I", Cond.methodLink RX4 56 yX0_beLike, Cond.instanceMethod yX0_beLike, Cond.selects RX0 yX0_beLike yX0_beLike, Cond.initialized RX0, Cond.code yX0_beLike cX0_beLike 2 none, Cond.fieldLink RX0 9 "LeaningStreet$House" "kind" "I", Cond.fieldLink RX0 15 "LeaningStreet$House" "weight" "I", Cond.fieldLink RX0 18 "LeaningStreet$House" "lean" "I", Cond.fieldLink RX0 21 "LeaningStreet$House" "wall" "I", Cond.fieldLink RX0 24 "LeaningStreet$House" "crack" "I", Cond.fieldLink RX0 27 "LeaningStreet$House" "prop" "I", Cond.fieldLink RX0 30 "LeaningStreet$House" "stands" "Z"]
def wsX6_began_r3 : List Cond := [Cond.methodLink RX6 147 yX4_goOn, Cond.instanceMethod yX4_goOn, Cond.selects RX4 yX4_goOn yX4_goOn, Cond.code yX4_goOn cX4_goOn 3 none, Cond.methodLink RX4 168 yX4_goOneDay, Cond.instanceMethod yX4_goOneDay, Cond.selects RX4 yX4_goOneDay yX4_goOneDay, Cond.code yX4_goOneDay cX4_goOneDay 3 (some .boolean), Cond.methodLink RX4 143 yX4_workOutThrusts, Cond.instanceMethod yX4_workOutThrusts, Cond.selects RX4 yX4_workOutThrusts yX4_workOutThrusts, Cond.code yX4_workOutThrusts cX4_workOutThrusts 3 none, Cond.fieldLink RX4 26 "LeaningStreet$Street" "thrusts" "[I", Cond.fieldLink RX4 30 "LeaningStreet$Street" "lesser" "[I", Cond.fieldLink RX4 33 "LeaningStreet$Street" "greater" "[I", Cond.fieldLink RX4 129 "LeaningStreet$House" "stands" "Z", Cond.methodLink RX4 133 yX4_lean, Cond.instanceMethod yX4_lean, Cond.selects RX4 yX4_lean yX4_lean, Cond.code yX4_lean cX4_lean 3 none, Cond.fieldLink RX4 69 "LeaningStreet$House" "lean" "I", Cond.methodLink RX4 136 yX4_pushOf, Cond.instanceMethod yX4_pushOf, Cond.selects RX4 yX4_pushOf yX4_pushOf]
def wsX6_began_r4 : List Cond := [Cond.code yX4_pushOf cX4_pushOf 4 (some .int), Cond.methodLink RX4 118 Lib.Math.abs.name, Cond.static Lib.Math.abs.name, Cond.initialized "java/lang/Math", Cond.code Lib.Math.abs.name Lib.Math.abs.code 1 (some .int), Cond.fieldLink RX4 66 "LeaningStreet$House" "weight" "I", Cond.fieldLink RX4 115 "LeaningStreet$House" "crack" "I", Cond.methodLink RX4 122 yX5_value, Cond.instanceMethod yX5_value, Cond.selects RX5 yX5_value yX5_value, Cond.initialized RX5, Cond.code yX5_value cX5_value 9 (some .int), Cond.fieldLink RX5 21 "LeaningStreet$Text" "code" "[I", Cond.fieldLink RX5 31 "LeaningStreet$Text" "stack" "[I", Cond.methodLink RX5 34 yX5_joined, Cond.static yX5_joined, Cond.code yX5_joined cX5_joined 3 (some .int), Cond.methodLink RX4 126 yX0_pushing, Cond.instanceMethod yX0_pushing, Cond.selects RX0 yX0_pushing yX0_pushing, Cond.code yX0_pushing cX0_pushing 3 (some .int), Cond.methodLink RX0 38 Lib.Math.min.name, Cond.static Lib.Math.min.name, Cond.code Lib.Math.min.name Lib.Math.min.code 2 (some .int)]
def wsX6_began_r5 : List Cond := [Cond.methodLink RX0 44 Lib.Math.max.name, Cond.static Lib.Math.max.name, Cond.code Lib.Math.max.name Lib.Math.max.code 2 (some .int), Cond.methodLink RX4 149 yX4_crackAndMove, Cond.instanceMethod yX4_crackAndMove, Cond.selects RX4 yX4_crackAndMove yX4_crackAndMove, Cond.code yX4_crackAndMove cX4_crackAndMove 6 (some .boolean), Cond.methodLink RX4 106 Lib.Math.min.name, Cond.methodLink RX4 112 Lib.Math.max.name, Cond.methodLink RX4 146 yX4_tooMuch, Cond.instanceMethod yX4_tooMuch, Cond.selects RX4 yX4_tooMuch yX4_tooMuch, Cond.code yX4_tooMuch cX4_tooMuch 2 (some .int), Cond.methodLink RX4 140 yX0_bearing, Cond.instanceMethod yX0_bearing, Cond.selects RX0 yX0_bearing yX0_bearing, Cond.code yX0_bearing cX0_bearing 2 (some .int), Cond.methodLink RX4 153 yX4_fallByCracks, Cond.instanceMethod yX4_fallByCracks, Cond.selects RX4 yX4_fallByCracks yX4_fallByCracks, Cond.code yX4_fallByCracks cX4_fallByCracks 3 (some .boolean), Cond.methodLink RX4 162 yX0_fall, Cond.instanceMethod yX0_fall, Cond.selects RX0 yX0_fall yX0_fall]
def wsX6_began_r6 : List Cond := [Cond.code yX0_fall cX0_fall 1 none, Cond.methodLink RX4 156 yX4_fallByNeighbours, Cond.instanceMethod yX4_fallByNeighbours, Cond.selects RX4 yX4_fallByNeighbours yX4_fallByNeighbours, Cond.code yX4_fallByNeighbours cX4_fallByNeighbours 4 none, Cond.methodLink RX4 165 yX4_hasLostItsRest, Cond.instanceMethod yX4_hasLostItsRest, Cond.selects RX4 yX4_hasLostItsRest yX4_hasLostItsRest, Cond.code yX4_hasLostItsRest cX4_hasLostItsRest 3 (some .boolean), Cond.methodLink RX4 159 yX4_props, Cond.instanceMethod yX4_props, Cond.selects RX4 yX4_props yX4_props, Cond.code yX4_props cX4_props 3 (some .int), Cond.fieldLink RX4 75 "LeaningStreet$House" "prop" "I", Cond.methodLink RX6 198 yX4_differsFrom, Cond.instanceMethod yX4_differsFrom, Cond.selects RX4 yX4_differsFrom yX4_differsFrom, Cond.code yX4_differsFrom cX4_differsFrom 5 (some .int), Cond.fieldLink RX4 90 "LeaningStreet$Row" "many" "I", Cond.fieldLink RX4 103 "LeaningStreet$Row" "places" "[I", Cond.methodLink RX4 93 yX2_isNumber, Cond.instanceMethod yX2_isNumber, Cond.selects RX2 yX2_isNumber yX2_isNumber, Cond.initialized RX2]
def wsX6_began_r7 : List Cond := [Cond.code yX2_isNumber cX2_isNumber 2 (some .boolean), Cond.fieldLink RX2 9 "LeaningStreet$Row" "places" "[I", Cond.constant RX2 34 (-1000000005)]
def wsX6_began : List Cond := .code yX6_began cX6_began 8 (some .int) :: ((wsX6_began_r1 ++ (wsX6_began_r2 ++ (wsX6_began_r3 ++ (wsX6_began_r4 ++ (wsX6_began_r5 ++ (wsX6_began_r6 ++ wsX6_began_r7)))))) ++ wsX60 ++ wsX20 ++ wsX40 ++ wsX00 ++ wsX50)
def wsX6_fee : List Cond := .code yX6_fee cX6_fee 2 (some .int) :: ([.fieldLink RX6 10 "LeaningStreet" "now" "LLeaningStreet$Street;", .fieldLink RX6 202 "LeaningStreet$Street" "counting" "[LLeaningStreet$Text;", .fieldLink RX6 151 "LeaningStreet$Street" "rent" "I", .fieldLink RX6 144 "LeaningStreet$Street" "day" "I", .methodLink RX6 206 yX5_value, .instanceMethod yX5_value, .selects RX5 yX5_value yX5_value, .initialized RX5, .code yX5_value cX5_value 9 (some .int), .fieldLink RX5 21 "LeaningStreet$Text" "code" "[I", .fieldLink RX5 31 "LeaningStreet$Text" "stack" "[I", .methodLink RX5 34 yX5_joined, .static yX5_joined, .code yX5_joined cX5_joined 3 (some .int)] ++ wsX60 ++ wsX40 ++ wsX50)
def wsX6_fine : List Cond := .code yX6_fine cX6_fine 4 (some .int) :: ([.constant RX6 59 (-1000000001), .fieldLink RX6 10 "LeaningStreet" "now" "LLeaningStreet$Street;", .fieldLink RX6 72 "LeaningStreet$Street" "houses" "[LLeaningStreet$House;", .fieldLink RX6 202 "LeaningStreet$Street" "counting" "[LLeaningStreet$Text;", .fieldLink RX6 212 "LeaningStreet$House" "crack" "I", .fieldLink RX6 215 "LeaningStreet$House" "prop" "I", .methodLink RX6 68 yX6_isHouse, .instanceMethod yX6_isHouse, .selects RX6 yX6_isHouse yX6_isHouse, .initialized RX6, .code yX6_isHouse cX6_isHouse 2 (some .boolean), .fieldLink RX6 60 "LeaningStreet$Street" "many" "I", .methodLink RX6 206 yX5_value, .instanceMethod yX5_value, .selects RX5 yX5_value yX5_value, .initialized RX5, .code yX5_value cX5_value 9 (some .int), .fieldLink RX5 21 "LeaningStreet$Text" "code" "[I", .fieldLink RX5 31 "LeaningStreet$Text" "stack" "[I", .methodLink RX5 34 yX5_joined, .static yX5_joined, .code yX5_joined cX5_joined 3 (some .int)] ++ wsX60 ++ wsX40 ++ wsX00 ++ wsX50)
def wsX6_feed : List Cond := .code yX6_feed cX6_feed 4 (some .int) :: ([.fieldLink RX6 25 "LeaningStreet" "tape" "LLeaningStreet$Reader;", .fieldLink RX6 218 "LeaningStreet$Reader" "many" "I", .constant RX6 63 (-1000000003), .methodLink RX6 219 yX1_addBytesOf, .instanceMethod yX1_addBytesOf, .selects RX1 yX1_addBytesOf yX1_addBytesOf, .initialized RX1, .code yX1_addBytesOf cX1_addBytesOf 3 none, .fieldLink RX1 15 "LeaningStreet$Reader" "many" "I", .fieldLink RX1 9 "LeaningStreet$Reader" "bytes" "[I"] ++ wsX60 ++ wsX10)
def wsX6_trim : List Cond := .code yX6_trim cX6_trim 2 (some .int) :: ([.fieldLink RX6 25 "LeaningStreet" "tape" "LLeaningStreet$Reader;", .fieldLink RX6 218 "LeaningStreet$Reader" "many" "I", .constant RX6 59 (-1000000001)] ++ wsX60 ++ wsX10)
def wsX6_text_r1 : List Cond := [Cond.fieldLink RX6 25 "LeaningStreet" "tape" "LLeaningStreet$Reader;", Cond.fieldLink RX6 218 "LeaningStreet$Reader" "many" "I", Cond.fieldLink RX6 226 "LeaningStreet$Reader" "start" "I", Cond.fieldLink RX6 10 "LeaningStreet" "now" "LLeaningStreet$Street;", Cond.fieldLink RX6 229 "LeaningStreet$Street" "texts" "I", Cond.constant RX6 63 (-1000000003), Cond.methodLink RX6 222 yX1_isText, Cond.instanceMethod yX1_isText, Cond.selects RX1 yX1_isText yX1_isText, Cond.initialized RX1, Cond.code yX1_isText cX1_isText 1 (some .boolean), Cond.fieldLink RX1 22 "LeaningStreet$Reader" "end" "I", Cond.fieldLink RX1 25 "LeaningStreet$Reader" "sort" "I", Cond.fieldLink RX1 34 "LeaningStreet$Reader" "steps" "I", Cond.fieldLink RX1 37 "LeaningStreet$Reader" "pieces" "I", Cond.fieldLink RX1 28 "LeaningStreet$Reader" "key" "I", Cond.methodLink RX1 40 yX1_goNext, Cond.instanceMethod yX1_goNext, Cond.selects RX1 yX1_goNext yX1_goNext, Cond.code yX1_goNext cX1_goNext 3 none, Cond.fieldLink RX1 19 "LeaningStreet$Reader" "start" "I", Cond.fieldLink RX1 15 "LeaningStreet$Reader" "many" "I", Cond.fieldLink RX1 9 "LeaningStreet$Reader" "bytes" "[I", Cond.methodLink RX1 62 yX1_sortOf]
def wsX6_text_r2 : List Cond := [Cond.static yX1_sortOf, Cond.code yX1_sortOf cX1_sortOf 1 (some .int), Cond.methodLink RX1 43 yX1_keyHere, Cond.instanceMethod yX1_keyHere, Cond.selects RX1 yX1_keyHere yX1_keyHere, Cond.code yX1_keyHere cX1_keyHere 2 (some .int), Cond.methodLink RX1 72 yX1_isWord, Cond.instanceMethod yX1_isWord, Cond.selects RX1 yX1_isWord yX1_isWord, Cond.code yX1_isWord cX1_isWord 3 (some .boolean), Cond.methodLink RX1 76 yJ0_length_8abf5, Cond.instanceMethod yJ0_length_8abf5, Cond.selects RJ0 yJ0_length_8abf5 yJ0_length_8abf5, Cond.initialized RJ0, Cond.code yJ0_length_8abf5 cJ0_length_8abf5 1 (some .int), Cond.fieldLink RJ0 9 "java/lang/String" "value" "[B", Cond.methodLink RJ0 335 yJ0_coder_7d493, Cond.instanceMethod yJ0_coder_7d493, Cond.selects RJ0 yJ0_coder_7d493 yJ0_coder_7d493, Cond.code yJ0_coder_7d493 cJ0_coder_7d493 1 (some .byte), Cond.fieldLink RJ0 38 "java/lang/String" "COMPACT_STRINGS" "Z", Cond.fieldLink RJ0 15 "java/lang/String" "coder" "B", Cond.methodLink RX1 81 yJ0_charAt_5068e, Cond.instanceMethod yJ0_charAt_5068e]
def wsX6_text_r3 : List Cond := [Cond.selects RJ0 yJ0_charAt_5068e yJ0_charAt_5068e, Cond.code yJ0_charAt_5068e cJ0_charAt_5068e 2 (some .char), Cond.methodLink RJ0 492 yJ0_isLatin1_aae02, Cond.instanceMethod yJ0_isLatin1_aae02, Cond.selects RJ0 yJ0_isLatin1_aae02 yJ0_isLatin1_aae02, Cond.code yJ0_isLatin1_aae02 cJ0_isLatin1_aae02 1 (some .boolean), Cond.methodLink RJ0 495 yJ1_charAt_3b067, Cond.static yJ1_charAt_3b067, Cond.initialized RJ1, Cond.code yJ1_charAt_3b067 cJ1_charAt_3b067 2 (some .char), Cond.methodLink RJ1 9 yJ0_checkIndex_df160, Cond.static yJ0_checkIndex_df160, Cond.code yJ0_checkIndex_df160 cJ0_checkIndex_df160 2 none, Cond.fieldLink RJ0 1053 "jdk/internal/util/Preconditions" "SIOOBE_FORMATTER" "Ljava/util/function/BiFunction;", Cond.methodLink RJ0 1059 yJ3_checkIndex_8e157, Cond.static yJ3_checkIndex_8e157, Cond.initialized RJ3, Cond.code yJ3_checkIndex_8e157 cJ3_checkIndex_8e157 3 (some .int), Cond.methodLink RJ0 498 yJ2_charAt_3b067, Cond.static yJ2_charAt_3b067, Cond.initialized RJ2, Cond.code yJ2_charAt_3b067 cJ2_charAt_3b067 2 (some .char), Cond.methodLink RJ2 67 yJ2_checkIndex_2214a, Cond.static yJ2_checkIndex_2214a]
def wsX6_text_r4 : List Cond := [Cond.code yJ2_checkIndex_2214a cJ2_checkIndex_2214a 2 none, Cond.methodLink RJ2 48 yJ2_length_9d52b, Cond.static yJ2_length_9d52b, Cond.code yJ2_length_9d52b cJ2_length_9d52b 1 (some .int), Cond.methodLink RJ2 414 yJ0_checkIndex_df160, Cond.methodLink RJ2 71 yJ2_getChar_3b067, Cond.static yJ2_getChar_3b067, Cond.code yJ2_getChar_3b067 cJ2_getChar_3b067 2 (some .char), Cond.fieldLink RJ2 44 "java/lang/StringUTF16" "$assertionsDisabled" "Z", Cond.fieldLink RJ2 59 "java/lang/StringUTF16" "HI_BYTE_SHIFT" "I", Cond.fieldLink RJ2 63 "java/lang/StringUTF16" "LO_BYTE_SHIFT" "I", Cond.methodLink RX1 47 yX1_isOr, Cond.instanceMethod yX1_isOr, Cond.selects RX1 yX1_isOr yX1_isOr, Cond.code yX1_isOr cX1_isOr 5 (some .boolean), Cond.methodLink RX1 89 yX1_isAnd, Cond.instanceMethod yX1_isAnd, Cond.selects RX1 yX1_isAnd yX1_isAnd, Cond.methodLink RX1 92 yX1_passed, Cond.instanceMethod yX1_passed, Cond.selects RX1 yX1_passed yX1_passed, Cond.code yX1_passed cX1_passed 4 (some .int), Cond.methodLink RX1 85 yX1_isAt, Cond.instanceMethod yX1_isAt]
def wsX6_text_r5 : List Cond := [Cond.selects RX1 yX1_isAt yX1_isAt, Cond.code yX1_isAt cX1_isAt 2 (some .boolean), Cond.methodLink RX1 96 yX1_write, Cond.instanceMethod yX1_write, Cond.selects RX1 yX1_write yX1_write, Cond.code yX1_write cX1_write 2 none, Cond.fieldLink RX1 31 "LeaningStreet$Reader" "code" "[I", Cond.code yX1_isAnd cX1_isAnd 5 (some .boolean), Cond.methodLink RX1 100 yX1_isTest, Cond.instanceMethod yX1_isTest, Cond.selects RX1 yX1_isTest yX1_isTest, Cond.code yX1_isPiece cX1_isPiece 4 (some .boolean), Cond.methodLink RX1 112 yX1_isNumber, Cond.instanceMethod yX1_isNumber, Cond.selects RX1 yX1_isNumber yX1_isNumber, Cond.code yX1_isNumber cX1_isNumber 3 (some .boolean), Cond.methodLink RX1 119 yX1_takePiece, Cond.instanceMethod yX1_takePiece, Cond.selects RX1 yX1_takePiece yX1_takePiece, Cond.code yX1_takePiece cX1_takePiece 2 (some .boolean), Cond.methodLink RX1 116 yX1_isName, Cond.instanceMethod yX1_isName, Cond.selects RX1 yX1_isName yX1_isName, Cond.code yX1_isName cX1_isName 3 (some .boolean)]
def wsX6_text_r6 : List Cond := [Cond.methodLink RX1 129 yJ0_indexOf_0f7a4, Cond.instanceMethod yJ0_indexOf_0f7a4, Cond.selects RJ0 yJ0_indexOf_0f7a4 yJ0_indexOf_0f7a4, Cond.code yJ0_indexOf_0f7a4 cJ0_indexOf_0f7a4 2 (some .int), Cond.methodLink RJ0 633 yJ0_indexOf_7cf53, Cond.instanceMethod yJ0_indexOf_7cf53, Cond.selects RJ0 yJ0_indexOf_7cf53 yJ0_indexOf_7cf53, Cond.code yJ0_indexOf_7cf53 cJ0_indexOf_7cf53 3 (some .int), Cond.methodLink RJ0 505 yJ0_length_8abf5, Cond.methodLink RJ0 637 yJ1_indexOf_4cfef, Cond.static yJ1_indexOf_4cfef, Cond.code yJ1_indexOf_4cfef cJ1_indexOf_4cfef 4 (some .int), Cond.methodLink RJ1 92 Lib.Math.max.name, Cond.static Lib.Math.max.name, Cond.initialized "java/lang/Math", Cond.code Lib.Math.max.name Lib.Math.max.code 2 (some .int), Cond.methodLink RJ1 38 Lib.Math.min.name, Cond.static Lib.Math.min.name, Cond.code Lib.Math.min.name Lib.Math.min.code 2 (some .int), Cond.methodLink RJ1 88 yJ1_canEncode_9a6ad, Cond.static yJ1_canEncode_9a6ad, Cond.code yJ1_canEncode_9a6ad cJ1_canEncode_9a6ad 1 (some .boolean), Cond.methodLink RJ1 95 yJ1_indexOfChar_4cfef, Cond.static yJ1_indexOfChar_4cfef]
def wsX6_text_r7 : List Cond := [Cond.code yJ1_indexOfChar_4cfef cJ1_indexOfChar_4cfef 6 (some .int), Cond.methodLink RJ0 640 yJ2_indexOf_4cfef, Cond.static yJ2_indexOf_4cfef, Cond.code yJ2_indexOf_4cfef cJ2_indexOf_4cfef 4 (some .int), Cond.methodLink RJ2 224 Lib.Math.max.name, Cond.methodLink RJ2 183 Lib.Math.min.name, Cond.constant RJ2 227 (65536), Cond.methodLink RJ2 228 yJ2_indexOfChar_4cfef, Cond.static yJ2_indexOfChar_4cfef, Cond.code yJ2_indexOfChar_4cfef cJ2_indexOfChar_4cfef 4 (some .int), Cond.methodLink RJ2 96 yJ2_checkBoundsBeginEnd_d044e, Cond.static yJ2_checkBoundsBeginEnd_d044e, Cond.code yJ2_checkBoundsBeginEnd_d044e cJ2_checkBoundsBeginEnd_d044e 3 none, Cond.methodLink RJ2 241 yJ0_checkBoundsBeginEnd_23922, Cond.static yJ0_checkBoundsBeginEnd_23922, Cond.code yJ0_checkBoundsBeginEnd_23922 cJ0_checkBoundsBeginEnd_23922 3 none, Cond.methodLink RJ0 1062 yJ3_checkFromToIndex_8c36e, Cond.static yJ3_checkFromToIndex_8c36e, Cond.code yJ3_checkFromToIndex_8c36e cJ3_checkFromToIndex_8c36e 4 (some .int), Cond.methodLink RJ2 244 yJ2_indexOfCharUnsafe_4cfef, Cond.static yJ2_indexOfCharUnsafe_4cfef, Cond.code yJ2_indexOfCharUnsafe_4cfef cJ2_indexOfCharUnsafe_4cfef 5 (some .int), Cond.methodLink RJ2 232 yJ2_indexOfSupplementary_4cfef, Cond.static yJ2_indexOfSupplementary_4cfef]
def wsX6_text_r8 : List Cond := [Cond.code yJ2_indexOfSupplementary_4cfef cJ2_indexOfSupplementary_4cfef 7 (some .int), Cond.methodLink RJ2 164 yJ11_isValidCodePoint_9a6ad, Cond.static yJ11_isValidCodePoint_9a6ad, Cond.initialized RJ11, Cond.code yJ11_isValidCodePoint_9a6ad cJ11_isValidCodePoint_9a6ad 2 (some .boolean), Cond.methodLink RJ2 157 yJ11_highSurrogate_5068e, Cond.static yJ11_highSurrogate_5068e, Cond.code yJ11_highSurrogate_5068e cJ11_highSurrogate_5068e 1 (some .char), Cond.constant RJ11 110 (55232), Cond.methodLink RJ2 161 yJ11_lowSurrogate_5068e, Cond.static yJ11_lowSurrogate_5068e, Cond.code yJ11_lowSurrogate_5068e cJ11_lowSurrogate_5068e 1 (some .char), Cond.constant RJ11 76 (56320), Cond.methodLink RX1 109 yX1_isPiece, Cond.instanceMethod yX1_isPiece, Cond.selects RX1 yX1_isPiece yX1_isPiece, Cond.code yX1_isSum cX1_isSum 6 (some .boolean), Cond.methodLink RX1 106 yX1_isTerm, Cond.instanceMethod yX1_isTerm, Cond.selects RX1 yX1_isTerm yX1_isTerm, Cond.code yX1_isTerm cX1_isTerm 6 (some .boolean), Cond.code yX1_isTest cX1_isTest 5 (some .boolean), Cond.methodLink RX1 103 yX1_isSum, Cond.instanceMethod yX1_isSum]
def wsX6_text_r9 : List Cond := [Cond.selects RX1 yX1_isSum yX1_isSum, Cond.methodLink RX6 232 yX1_madeText, Cond.instanceMethod yX1_madeText, Cond.selects RX1 yX1_madeText yX1_madeText, Cond.code yX1_madeText cX1_madeText 2 (some (.object "LeaningStreet$Text")), Cond.classLink RX1 51 RX5, Cond.instantiable RX5 5, Cond.initialized RX5, Cond.methodLink RX1 53 yJ7_copyOf_59c91, Cond.static yJ7_copyOf_59c91, Cond.initialized RJ7, Cond.code yJ7_copyOf_59c91 cJ7_copyOf_59c91 3 (some (.array .int)), Cond.methodLink RJ7 316 ⟨"[I", "clone", "()Ljava/lang/Object;"⟩, Cond.sameMethod "[I" "java/lang/Object" "clone" "()Ljava/lang/Object;", Cond.native ⟨"java/lang/Object", "clone", "()Ljava/lang/Object;"⟩, Cond.instanceMethod ⟨"java/lang/Object", "clone", "()Ljava/lang/Object;"⟩, Cond.selects "[I" ⟨"[I", "clone", "()Ljava/lang/Object;"⟩ ⟨"java/lang/Object", "clone", "()Ljava/lang/Object;"⟩, Cond.classLink RJ7 317 "[I", Cond.arrayClass .int, Cond.methodLink RJ7 304 Lib.Math.min.name, Cond.methodLink RJ7 150 arraycopyName, Cond.native arraycopyName, Cond.static arraycopyName, Cond.initialized "java/lang/System"]
def wsX6_text_r10 : List Cond := [Cond.methodLink RX1 59 yX5_init, Cond.instanceMethod yX5_init, Cond.code yX5_init cX5_init 5 none, Cond.methodLink RX5 3 objectInit, Cond.instanceMethod objectInit, Cond.code objectInit ⟨#[0xb1]⟩ 1 none, Cond.fieldLink RX5 9 "LeaningStreet$Text" "number" "I", Cond.fieldLink RX5 15 "LeaningStreet$Text" "key" "I", Cond.fieldLink RX5 18 "LeaningStreet$Text" "pieces" "I", Cond.fieldLink RX5 21 "LeaningStreet$Text" "code" "[I", Cond.methodLink RX5 25 Lib.Math.max.name, Cond.fieldLink RX5 31 "LeaningStreet$Text" "stack" "[I", Cond.methodLink RX6 236 yX4_addText, Cond.instanceMethod yX4_addText, Cond.selects RX4 yX4_addText yX4_addText, Cond.initialized RX4, Cond.code yX4_addText cX4_addText 2 none, Cond.fieldLink RX4 40 "LeaningStreet$Street" "texts" "I", Cond.fieldLink RX4 87 "LeaningStreet$Text" "key" "I", Cond.fieldLink RX4 19 "LeaningStreet$Street" "allTexts" "[LLeaningStreet$Text;", Cond.fieldLink RX4 23 "LeaningStreet$Street" "counting" "[LLeaningStreet$Text;"]
def wsX6_text : List Cond := .code yX6_text cX6_text 2 (some .int) :: ((wsX6_text_r1 ++ (wsX6_text_r2 ++ (wsX6_text_r3 ++ (wsX6_text_r4 ++ (wsX6_text_r5 ++ (wsX6_text_r6 ++ (wsX6_text_r7 ++ (wsX6_text_r8 ++ (wsX6_text_r9 ++ wsX6_text_r10))))))))) ++ wsX60 ++ wsX10 ++ wsX40 ++ wsX50)
def wsX6_textTold : List Cond := .code yX6_textTold cX6_textTold 4 (some .int) :: ([.fieldLink RX6 10 "LeaningStreet" "now" "LLeaningStreet$Street;", .fieldLink RX6 229 "LeaningStreet$Street" "texts" "I", .constant RX6 59 (-1000000001), .fieldLink RX6 240 "LeaningStreet$Street" "allTexts" "[LLeaningStreet$Text;", .fieldLink RX6 243 "LeaningStreet$Text" "key" "I", .fieldLink RX6 246 "LeaningStreet$Text" "pieces" "I"] ++ wsX60 ++ wsX40 ++ wsX50)
def wsX6_why : List Cond := .code yX6_why cX6_why 3 (some .int) :: ([.constant RX6 59 (-1000000001), .fieldLink RX6 10 "LeaningStreet" "now" "LLeaningStreet$Street;", .fieldLink RX6 202 "LeaningStreet$Street" "counting" "[LLeaningStreet$Text;", .constant RX6 176 (-1000000005), .fieldLink RX6 249 "LeaningStreet$Text" "number" "I"] ++ wsX60 ++ wsX40 ++ wsX50)
def wsX6_sheet : List Cond := .code yX6_sheet cX6_sheet 4 (some .int) :: ([.constant RX6 59 (-1000000001), .fieldLink RX6 31 "LeaningStreet" "sheets" "[LLeaningStreet$Row;", .constant RX6 255 (-1000000014), .methodLink RX6 191 yX6_isSheet, .static yX6_isSheet, .initialized RX6, .code yX6_isSheet cX6_isSheet 1 (some .boolean), .methodLink RX6 252 yX2_begin, .instanceMethod yX2_begin, .selects RX2 yX2_begin yX2_begin, .initialized RX2, .code yX2_begin cX2_begin 3 none, .fieldLink RX2 15 "LeaningStreet$Row" "sort" "I", .fieldLink RX2 19 "LeaningStreet$Row" "many" "I", .fieldLink RX2 9 "LeaningStreet$Row" "places" "[I", .methodLink RX2 22 yJ7_fill_53178, .static yJ7_fill_53178, .initialized RJ7, .code yJ7_fill_53178 cJ7_fill_53178 4 none] ++ wsX60 ++ wsX20)
def wsX6_mark : List Cond := .code yX6_mark cX6_mark 5 (some .int) :: ([.constant RX6 59 (-1000000001), .fieldLink RX6 31 "LeaningStreet" "sheets" "[LLeaningStreet$Row;", .fieldLink RX6 194 "LeaningStreet$Row" "sort" "I", .constant RX6 197 (-1000000011), .constant RX6 259 (-1000000013), .constant RX6 176 (-1000000005), .constant RX6 111 (-1000000012), .fieldLink RX6 260 "LeaningStreet$Row" "places" "[I", .constant RX6 263 (-99999), .constant RX6 264 (99999), .methodLink RX6 191 yX6_isSheet, .static yX6_isSheet, .initialized RX6, .code yX6_isSheet cX6_isSheet 1 (some .boolean), .methodLink RX6 256 yX2_hasPlace, .instanceMethod yX2_hasPlace, .selects RX2 yX2_hasPlace yX2_hasPlace, .initialized RX2, .code yX2_hasPlace cX2_hasPlace 2 (some .boolean), .fieldLink RX2 19 "LeaningStreet$Row" "many" "I"] ++ wsX60 ++ wsX20)
def wsX6_pour_r1 : List Cond := [Cond.constant RX6 59 (-1000000001), Cond.fieldLink RX6 31 "LeaningStreet" "sheets" "[LLeaningStreet$Row;", Cond.fieldLink RX6 194 "LeaningStreet$Row" "sort" "I", Cond.constant RX6 197 (-1000000011), Cond.fieldLink RX6 10 "LeaningStreet" "now" "LLeaningStreet$Street;", Cond.methodLink RX6 191 yX6_isSheet, Cond.static yX6_isSheet, Cond.initialized RX6, Cond.code yX6_isSheet cX6_isSheet 1 (some .boolean), Cond.methodLink RX6 265 yX4_takeWalls, Cond.instanceMethod yX4_takeWalls, Cond.selects RX4 yX4_takeWalls yX4_takeWalls, Cond.initialized RX4, Cond.code yX4_takeWalls cX4_takeWalls 5 (some .int), Cond.fieldLink RX4 36 "LeaningStreet$Street" "many" "I", Cond.fieldLink RX4 90 "LeaningStreet$Row" "many" "I", Cond.fieldLink RX4 103 "LeaningStreet$Row" "places" "[I", Cond.methodLink RX4 106 Lib.Math.min.name, Cond.static Lib.Math.min.name, Cond.initialized "java/lang/Math", Cond.code Lib.Math.min.name Lib.Math.min.code 2 (some .int), Cond.methodLink RX4 112 Lib.Math.max.name, Cond.static Lib.Math.max.name, Cond.code Lib.Math.max.name Lib.Math.max.code 2 (some .int)]
def wsX6_pour_r2 : List Cond := [Cond.fieldLink RX4 11 "LeaningStreet$Street" "houses" "[LLeaningStreet$House;", Cond.fieldLink RX4 72 "LeaningStreet$House" "wall" "I", Cond.methodLink RX4 93 yX2_isNumber, Cond.instanceMethod yX2_isNumber, Cond.selects RX2 yX2_isNumber yX2_isNumber, Cond.initialized RX2, Cond.code yX2_isNumber cX2_isNumber 2 (some .boolean), Cond.fieldLink RX2 9 "LeaningStreet$Row" "places" "[I", Cond.constant RX2 34 (-1000000005)]
def wsX6_pour : List Cond := .code yX6_pour cX6_pour 2 (some .int) :: ((wsX6_pour_r1 ++ wsX6_pour_r2) ++ wsX60 ++ wsX20 ++ wsX40 ++ wsX00)
def wsX6_reads : List Cond := .code yX6_reads cX6_reads 4 (some .int) :: ([.constant RX6 59 (-1000000001), .fieldLink RX6 31 "LeaningStreet" "sheets" "[LLeaningStreet$Row;", .fieldLink RX6 194 "LeaningStreet$Row" "sort" "I", .constant RX6 197 (-1000000011), .fieldLink RX6 268 "LeaningStreet$Row" "many" "I", .fieldLink RX6 10 "LeaningStreet" "now" "LLeaningStreet$Street;", .fieldLink RX6 60 "LeaningStreet$Street" "many" "I", .fieldLink RX6 260 "LeaningStreet$Row" "places" "[I", .fieldLink RX6 72 "LeaningStreet$Street" "houses" "[LLeaningStreet$House;", .fieldLink RX6 170 "LeaningStreet$House" "lean" "I", .constant RX6 176 (-1000000005), .methodLink RX6 191 yX6_isSheet, .static yX6_isSheet, .initialized RX6, .code yX6_isSheet cX6_isSheet 1 (some .boolean), .methodLink RX6 269 yX2_isNumber, .instanceMethod yX2_isNumber, .selects RX2 yX2_isNumber yX2_isNumber, .initialized RX2, .code yX2_isNumber cX2_isNumber 2 (some .boolean), .fieldLink RX2 9 "LeaningStreet$Row" "places" "[I", .constant RX2 34 (-1000000005)] ++ wsX60 ++ wsX20 ++ wsX40 ++ wsX00)
def wsX6_copy : List Cond := .code yX6_copy cX6_copy 8 (some .int) :: ([.constant RX6 59 (-1000000001), .fieldLink RX6 31 "LeaningStreet" "sheets" "[LLeaningStreet$Row;", .fieldLink RX6 194 "LeaningStreet$Row" "sort" "I", .constant RX6 197 (-1000000011), .constant RX6 111 (-1000000012), .constant RX6 259 (-1000000013), .fieldLink RX6 260 "LeaningStreet$Row" "places" "[I", .methodLink RX6 275 arraycopyName, .native arraycopyName, .static arraycopyName, .initialized "java/lang/System", .methodLink RX6 191 yX6_isSheet, .static yX6_isSheet, .initialized RX6, .code yX6_isSheet cX6_isSheet 1 (some .boolean), .methodLink RX6 272 yX2_hasPlaces, .instanceMethod yX2_hasPlaces, .selects RX2 yX2_hasPlaces yX2_hasPlaces, .initialized RX2, .code yX2_hasPlaces cX2_hasPlaces 3 (some .boolean), .fieldLink RX2 19 "LeaningStreet$Row" "many" "I"] ++ wsX60 ++ wsX20)
def wsX6_isSlot : List Cond := .code yX6_isSlot cX6_isSlot 1 (some .boolean) :: ([])
def wsX6_lay_r1 : List Cond := [Cond.constant RX6 59 (-1000000001), Cond.fieldLink RX6 31 "LeaningStreet" "sheets" "[LLeaningStreet$Row;", Cond.fieldLink RX6 194 "LeaningStreet$Row" "sort" "I", Cond.constant RX6 197 (-1000000011), Cond.fieldLink RX6 37 "LeaningStreet" "slots" "[LLeaningStreet$Slot;", Cond.fieldLink RX6 284 "LeaningStreet$Slot" "thing" "I", Cond.fieldLink RX6 287 "LeaningStreet$Slot" "house" "LLeaningStreet$House;", Cond.fieldLink RX6 10 "LeaningStreet" "now" "LLeaningStreet$Street;", Cond.fieldLink RX6 72 "LeaningStreet$Street" "houses" "[LLeaningStreet$House;", Cond.fieldLink RX6 295 "LeaningStreet$Slot" "row" "LLeaningStreet$Row;", Cond.fieldLink RX6 302 "LeaningStreet$Slot" "number" "I", Cond.methodLink RX6 281 yX6_isSlot, Cond.static yX6_isSlot, Cond.initialized RX6, Cond.code yX6_isSlot cX6_isSlot 1 (some .boolean), Cond.methodLink RX6 68 yX6_isHouse, Cond.instanceMethod yX6_isHouse, Cond.selects RX6 yX6_isHouse yX6_isHouse, Cond.code yX6_isHouse cX6_isHouse 2 (some .boolean), Cond.fieldLink RX6 60 "LeaningStreet$Street" "many" "I", Cond.methodLink RX6 191 yX6_isSheet, Cond.static yX6_isSheet, Cond.code yX6_isSheet cX6_isSheet 1 (some .boolean), Cond.methodLink RX6 291 yX0_beLike]
def wsX6_lay_r2 : List Cond := [Cond.instanceMethod yX0_beLike, Cond.selects RX0 yX0_beLike yX0_beLike, Cond.initialized RX0, Cond.code yX0_beLike cX0_beLike 2 none, Cond.fieldLink RX0 9 "LeaningStreet$House" "kind" "I", Cond.fieldLink RX0 15 "LeaningStreet$House" "weight" "I", Cond.fieldLink RX0 18 "LeaningStreet$House" "lean" "I", Cond.fieldLink RX0 21 "LeaningStreet$House" "wall" "I", Cond.fieldLink RX0 24 "LeaningStreet$House" "crack" "I", Cond.fieldLink RX0 27 "LeaningStreet$House" "prop" "I", Cond.fieldLink RX0 30 "LeaningStreet$House" "stands" "Z", Cond.methodLink RX6 299 yX2_beLike, Cond.instanceMethod yX2_beLike, Cond.selects RX2 yX2_beLike yX2_beLike, Cond.initialized RX2, Cond.code yX2_beLike cX2_beLike 2 none, Cond.fieldLink RX2 15 "LeaningStreet$Row" "sort" "I", Cond.fieldLink RX2 19 "LeaningStreet$Row" "many" "I", Cond.fieldLink RX2 9 "LeaningStreet$Row" "places" "[I", Cond.methodLink RX2 28 arraycopyName, Cond.native arraycopyName, Cond.static arraycopyName, Cond.initialized "java/lang/System"]
def wsX6_lay : List Cond := .code yX6_lay cX6_lay 6 (some .int) :: ((wsX6_lay_r1 ++ wsX6_lay_r2) ++ wsX60 ++ wsX20 ++ wsX30 ++ wsX40 ++ wsX00)
def wsX6_ask : List Cond := .code yX6_ask cX6_ask 4 (some .int) :: ([.constant RX6 59 (-1000000001), .fieldLink RX6 37 "LeaningStreet" "slots" "[LLeaningStreet$Slot;", .fieldLink RX6 284 "LeaningStreet$Slot" "thing" "I", .constant RX6 197 (-1000000011), .fieldLink RX6 287 "LeaningStreet$Slot" "house" "LLeaningStreet$House;", .constant RX6 111 (-1000000012), .methodLink RX6 281 yX6_isSlot, .static yX6_isSlot, .initialized RX6, .code yX6_isSlot cX6_isSlot 1 (some .boolean), .methodLink RX6 102 yX6_isKind, .static yX6_isKind, .code yX6_isKind cX6_isKind 1 (some .boolean), .methodLink RX6 105 yX0_isOf, .instanceMethod yX0_isOf, .selects RX0 yX0_isOf yX0_isOf, .initialized RX0, .code yX0_isOf cX0_isOf 4 (some .boolean), .fieldLink RX0 9 "LeaningStreet$House" "kind" "I", .methodLink RX6 95 yX0_worth, .instanceMethod yX0_worth, .selects RX0 yX0_worth yX0_worth, .code yX0_worth cX0_worth 1 (some .int), .fieldLink RX0 21 "LeaningStreet$House" "wall" "I"] ++ wsX60 ++ wsX30 ++ wsX00)
def wsX6_item : List Cond := .code yX6_item cX6_item 4 (some .int) :: ([.constant RX6 59 (-1000000001), .fieldLink RX6 37 "LeaningStreet" "slots" "[LLeaningStreet$Slot;", .fieldLink RX6 284 "LeaningStreet$Slot" "thing" "I", .constant RX6 197 (-1000000011), .constant RX6 111 (-1000000012), .fieldLink RX6 295 "LeaningStreet$Slot" "row" "LLeaningStreet$Row;", .constant RX6 259 (-1000000013), .fieldLink RX6 260 "LeaningStreet$Row" "places" "[I", .methodLink RX6 281 yX6_isSlot, .static yX6_isSlot, .initialized RX6, .code yX6_isSlot cX6_isSlot 1 (some .boolean), .methodLink RX6 256 yX2_hasPlace, .instanceMethod yX2_hasPlace, .selects RX2 yX2_hasPlace yX2_hasPlace, .initialized RX2, .code yX2_hasPlace cX2_hasPlace 2 (some .boolean), .fieldLink RX2 19 "LeaningStreet$Row" "many" "I", .methodLink RX6 269 yX2_isNumber, .instanceMethod yX2_isNumber, .selects RX2 yX2_isNumber yX2_isNumber, .code yX2_isNumber cX2_isNumber 2 (some .boolean), .fieldLink RX2 9 "LeaningStreet$Row" "places" "[I", .constant RX2 34 (-1000000005)] ++ wsX60 ++ wsX30 ++ wsX20)
def wsX6_rest : List Cond := .code yX6_rest cX6_rest 4 (some .int) :: ([.constant RX6 59 (-1000000001), .fieldLink RX6 37 "LeaningStreet" "slots" "[LLeaningStreet$Slot;", .fieldLink RX6 284 "LeaningStreet$Slot" "thing" "I", .constant RX6 197 (-1000000011), .constant RX6 111 (-1000000012), .constant RX6 119 (-1000000002), .fieldLink RX6 302 "LeaningStreet$Slot" "number" "I", .methodLink RX6 281 yX6_isSlot, .static yX6_isSlot, .initialized RX6, .code yX6_isSlot cX6_isSlot 1 (some .boolean)] ++ wsX60 ++ wsX30)
def wsX6_tell : List Cond := .code yX6_tell cX6_tell 2 (some .int) :: ([.fieldLink RX6 45 "LeaningStreet" "waits" "I", .constant RX6 63 (-1000000003), .fieldLink RX6 41 "LeaningStreet" "waiting" "[I"] ++ wsX60)
def wsX6_check_r1 : List Cond := [Cond.fieldLink RX6 45 "LeaningStreet" "waits" "I", Cond.constant RX6 59 (-1000000001), Cond.fieldLink RX6 49 "LeaningStreet" "kept" "Z", Cond.constant RX6 119 (-1000000002), Cond.fieldLink RX6 16 "LeaningStreet" "image" "LLeaningStreet$Street;", Cond.fieldLink RX6 144 "LeaningStreet$Street" "day" "I", Cond.methodLink RX6 132 Lib.Math.min.name, Cond.static Lib.Math.min.name, Cond.initialized "java/lang/Math", Cond.code Lib.Math.min.name Lib.Math.min.code 2 (some .int), Cond.fieldLink RX6 19 "LeaningStreet" "thought" "LLeaningStreet$Street;", Cond.fieldLink RX6 41 "LeaningStreet" "waiting" "[I", Cond.methodLink RX6 166 yX6_thinkOf, Cond.instanceMethod yX6_thinkOf, Cond.selects RX6 yX6_thinkOf yX6_thinkOf, Cond.initialized RX6, Cond.code yX6_thinkOf cX6_thinkOf 2 (some (.object "LeaningStreet$Street")), Cond.methodLink RX6 303 yX4_beLike, Cond.instanceMethod yX4_beLike, Cond.selects RX4 yX4_beLike yX4_beLike, Cond.initialized RX4, Cond.code yX4_beLike cX4_beLike 3 none, Cond.fieldLink RX4 36 "LeaningStreet$Street" "many" "I", Cond.fieldLink RX4 11 "LeaningStreet$Street" "houses" "[LLeaningStreet$House;"]
def wsX6_check_r2 : List Cond := [Cond.fieldLink RX4 40 "LeaningStreet$Street" "texts" "I", Cond.fieldLink RX4 19 "LeaningStreet$Street" "allTexts" "[LLeaningStreet$Text;", Cond.fieldLink RX4 23 "LeaningStreet$Street" "counting" "[LLeaningStreet$Text;", Cond.fieldLink RX4 43 "LeaningStreet$Street" "snow" "I", Cond.fieldLink RX4 46 "LeaningStreet$Street" "rent" "I", Cond.fieldLink RX4 49 "LeaningStreet$Street" "day" "I", Cond.fieldLink RX4 52 "LeaningStreet$Street" "z" "I", Cond.methodLink RX4 56 yX0_beLike, Cond.instanceMethod yX0_beLike, Cond.selects RX0 yX0_beLike yX0_beLike, Cond.initialized RX0, Cond.code yX0_beLike cX0_beLike 2 none, Cond.fieldLink RX0 9 "LeaningStreet$House" "kind" "I", Cond.fieldLink RX0 15 "LeaningStreet$House" "weight" "I", Cond.fieldLink RX0 18 "LeaningStreet$House" "lean" "I", Cond.fieldLink RX0 21 "LeaningStreet$House" "wall" "I", Cond.fieldLink RX0 24 "LeaningStreet$House" "crack" "I", Cond.fieldLink RX0 27 "LeaningStreet$House" "prop" "I", Cond.fieldLink RX0 30 "LeaningStreet$House" "stands" "Z", Cond.methodLink RX6 147 yX4_goOn, Cond.instanceMethod yX4_goOn, Cond.selects RX4 yX4_goOn yX4_goOn, Cond.code yX4_goOn cX4_goOn 3 none, Cond.methodLink RX4 168 yX4_goOneDay]
def wsX6_check_r3 : List Cond := [Cond.instanceMethod yX4_goOneDay, Cond.selects RX4 yX4_goOneDay yX4_goOneDay, Cond.code yX4_goOneDay cX4_goOneDay 3 (some .boolean), Cond.methodLink RX4 143 yX4_workOutThrusts, Cond.instanceMethod yX4_workOutThrusts, Cond.selects RX4 yX4_workOutThrusts yX4_workOutThrusts, Cond.code yX4_workOutThrusts cX4_workOutThrusts 3 none, Cond.fieldLink RX4 26 "LeaningStreet$Street" "thrusts" "[I", Cond.fieldLink RX4 30 "LeaningStreet$Street" "lesser" "[I", Cond.fieldLink RX4 33 "LeaningStreet$Street" "greater" "[I", Cond.fieldLink RX4 129 "LeaningStreet$House" "stands" "Z", Cond.methodLink RX4 133 yX4_lean, Cond.instanceMethod yX4_lean, Cond.selects RX4 yX4_lean yX4_lean, Cond.code yX4_lean cX4_lean 3 none, Cond.fieldLink RX4 69 "LeaningStreet$House" "lean" "I", Cond.methodLink RX4 136 yX4_pushOf, Cond.instanceMethod yX4_pushOf, Cond.selects RX4 yX4_pushOf yX4_pushOf, Cond.code yX4_pushOf cX4_pushOf 4 (some .int), Cond.methodLink RX4 118 Lib.Math.abs.name, Cond.static Lib.Math.abs.name, Cond.code Lib.Math.abs.name Lib.Math.abs.code 1 (some .int), Cond.fieldLink RX4 66 "LeaningStreet$House" "weight" "I"]
def wsX6_check_r4 : List Cond := [Cond.fieldLink RX4 115 "LeaningStreet$House" "crack" "I", Cond.methodLink RX4 122 yX5_value, Cond.instanceMethod yX5_value, Cond.selects RX5 yX5_value yX5_value, Cond.initialized RX5, Cond.code yX5_value cX5_value 9 (some .int), Cond.fieldLink RX5 21 "LeaningStreet$Text" "code" "[I", Cond.fieldLink RX5 31 "LeaningStreet$Text" "stack" "[I", Cond.methodLink RX5 34 yX5_joined, Cond.static yX5_joined, Cond.code yX5_joined cX5_joined 3 (some .int), Cond.methodLink RX4 126 yX0_pushing, Cond.instanceMethod yX0_pushing, Cond.selects RX0 yX0_pushing yX0_pushing, Cond.code yX0_pushing cX0_pushing 3 (some .int), Cond.methodLink RX0 38 Lib.Math.min.name, Cond.methodLink RX0 44 Lib.Math.max.name, Cond.static Lib.Math.max.name, Cond.code Lib.Math.max.name Lib.Math.max.code 2 (some .int), Cond.methodLink RX4 149 yX4_crackAndMove, Cond.instanceMethod yX4_crackAndMove, Cond.selects RX4 yX4_crackAndMove yX4_crackAndMove, Cond.code yX4_crackAndMove cX4_crackAndMove 6 (some .boolean), Cond.methodLink RX4 106 Lib.Math.min.name]
def wsX6_check_r5 : List Cond := [Cond.methodLink RX4 112 Lib.Math.max.name, Cond.methodLink RX4 146 yX4_tooMuch, Cond.instanceMethod yX4_tooMuch, Cond.selects RX4 yX4_tooMuch yX4_tooMuch, Cond.code yX4_tooMuch cX4_tooMuch 2 (some .int), Cond.methodLink RX4 140 yX0_bearing, Cond.instanceMethod yX0_bearing, Cond.selects RX0 yX0_bearing yX0_bearing, Cond.code yX0_bearing cX0_bearing 2 (some .int), Cond.methodLink RX4 153 yX4_fallByCracks, Cond.instanceMethod yX4_fallByCracks, Cond.selects RX4 yX4_fallByCracks yX4_fallByCracks, Cond.code yX4_fallByCracks cX4_fallByCracks 3 (some .boolean), Cond.methodLink RX4 162 yX0_fall, Cond.instanceMethod yX0_fall, Cond.selects RX0 yX0_fall yX0_fall, Cond.code yX0_fall cX0_fall 1 none, Cond.methodLink RX4 156 yX4_fallByNeighbours, Cond.instanceMethod yX4_fallByNeighbours, Cond.selects RX4 yX4_fallByNeighbours yX4_fallByNeighbours, Cond.code yX4_fallByNeighbours cX4_fallByNeighbours 4 none, Cond.methodLink RX4 165 yX4_hasLostItsRest, Cond.instanceMethod yX4_hasLostItsRest, Cond.selects RX4 yX4_hasLostItsRest yX4_hasLostItsRest]
def wsX6_check_r6 : List Cond := [Cond.code yX4_hasLostItsRest cX4_hasLostItsRest 3 (some .boolean), Cond.methodLink RX4 159 yX4_props, Cond.instanceMethod yX4_props, Cond.selects RX4 yX4_props yX4_props, Cond.code yX4_props cX4_props 3 (some .int), Cond.fieldLink RX4 75 "LeaningStreet$House" "prop" "I", Cond.methodLink RX6 123 yX4_howManyStand, Cond.instanceMethod yX4_howManyStand, Cond.selects RX4 yX4_howManyStand yX4_howManyStand, Cond.code yX4_howManyStand cX4_howManyStand 1 (some .int), Cond.methodLink RX4 174 yX4_standing, Cond.instanceMethod yX4_standing, Cond.selects RX4 yX4_standing yX4_standing, Cond.code yX4_standing cX4_standing 3 (some .int), Cond.methodLink RX4 177 yJ6_bitCount_0f7a4, Cond.static yJ6_bitCount_0f7a4, Cond.initialized RJ6, Cond.code yJ6_bitCount_0f7a4 cJ6_bitCount_0f7a4 1 (some .int), Cond.constant RJ6 265 (1431655765), Cond.constant RJ6 266 (858993459), Cond.constant RJ6 267 (252645135), Cond.methodLink RX6 157 yX4_cracks, Cond.instanceMethod yX4_cracks, Cond.selects RX4 yX4_cracks yX4_cracks]
def wsX6_check_r7 : List Cond := [Cond.code yX4_cracks cX4_cracks 3 (some .int)]
def wsX6_check : List Cond := .code yX6_check cX6_check 6 (some .int) :: ((wsX6_check_r1 ++ (wsX6_check_r2 ++ (wsX6_check_r3 ++ (wsX6_check_r4 ++ (wsX6_check_r5 ++ (wsX6_check_r6 ++ wsX6_check_r7)))))) ++ wsX60 ++ wsX40 ++ wsX00 ++ wsX50)
def wsX6_keep_r1 : List Cond := [Cond.fieldLink RX6 16 "LeaningStreet" "image" "LLeaningStreet$Street;", Cond.fieldLink RX6 10 "LeaningStreet" "now" "LLeaningStreet$Street;", Cond.fieldLink RX6 49 "LeaningStreet" "kept" "Z", Cond.fieldLink RX6 60 "LeaningStreet$Street" "many" "I", Cond.methodLink RX6 303 yX4_beLike, Cond.instanceMethod yX4_beLike, Cond.selects RX4 yX4_beLike yX4_beLike, Cond.initialized RX4, Cond.code yX4_beLike cX4_beLike 3 none, Cond.fieldLink RX4 36 "LeaningStreet$Street" "many" "I", Cond.fieldLink RX4 11 "LeaningStreet$Street" "houses" "[LLeaningStreet$House;", Cond.fieldLink RX4 40 "LeaningStreet$Street" "texts" "I", Cond.fieldLink RX4 19 "LeaningStreet$Street" "allTexts" "[LLeaningStreet$Text;", Cond.fieldLink RX4 23 "LeaningStreet$Street" "counting" "[LLeaningStreet$Text;", Cond.fieldLink RX4 43 "LeaningStreet$Street" "snow" "I", Cond.fieldLink RX4 46 "LeaningStreet$Street" "rent" "I", Cond.fieldLink RX4 49 "LeaningStreet$Street" "day" "I", Cond.fieldLink RX4 52 "LeaningStreet$Street" "z" "I", Cond.methodLink RX4 56 yX0_beLike, Cond.instanceMethod yX0_beLike, Cond.selects RX0 yX0_beLike yX0_beLike, Cond.initialized RX0, Cond.code yX0_beLike cX0_beLike 2 none, Cond.fieldLink RX0 9 "LeaningStreet$House" "kind" "I"]
def wsX6_keep_r2 : List Cond := [Cond.fieldLink RX0 15 "LeaningStreet$House" "weight" "I", Cond.fieldLink RX0 18 "LeaningStreet$House" "lean" "I", Cond.fieldLink RX0 21 "LeaningStreet$House" "wall" "I", Cond.fieldLink RX0 24 "LeaningStreet$House" "crack" "I", Cond.fieldLink RX0 27 "LeaningStreet$House" "prop" "I", Cond.fieldLink RX0 30 "LeaningStreet$House" "stands" "Z"]
def wsX6_keep : List Cond := .code yX6_keep cX6_keep 1 (some .int) :: ((wsX6_keep_r1 ++ wsX6_keep_r2) ++ wsX60 ++ wsX40 ++ wsX00)
def wsX6_back_r1 : List Cond := [Cond.fieldLink RX6 49 "LeaningStreet" "kept" "Z", Cond.constant RX6 119 (-1000000002), Cond.fieldLink RX6 10 "LeaningStreet" "now" "LLeaningStreet$Street;", Cond.fieldLink RX6 16 "LeaningStreet" "image" "LLeaningStreet$Street;", Cond.fieldLink RX6 60 "LeaningStreet$Street" "many" "I", Cond.methodLink RX6 303 yX4_beLike, Cond.instanceMethod yX4_beLike, Cond.selects RX4 yX4_beLike yX4_beLike, Cond.initialized RX4, Cond.code yX4_beLike cX4_beLike 3 none, Cond.fieldLink RX4 36 "LeaningStreet$Street" "many" "I", Cond.fieldLink RX4 11 "LeaningStreet$Street" "houses" "[LLeaningStreet$House;", Cond.fieldLink RX4 40 "LeaningStreet$Street" "texts" "I", Cond.fieldLink RX4 19 "LeaningStreet$Street" "allTexts" "[LLeaningStreet$Text;", Cond.fieldLink RX4 23 "LeaningStreet$Street" "counting" "[LLeaningStreet$Text;", Cond.fieldLink RX4 43 "LeaningStreet$Street" "snow" "I", Cond.fieldLink RX4 46 "LeaningStreet$Street" "rent" "I", Cond.fieldLink RX4 49 "LeaningStreet$Street" "day" "I", Cond.fieldLink RX4 52 "LeaningStreet$Street" "z" "I", Cond.methodLink RX4 56 yX0_beLike, Cond.instanceMethod yX0_beLike, Cond.selects RX0 yX0_beLike yX0_beLike, Cond.initialized RX0, Cond.code yX0_beLike cX0_beLike 2 none]
def wsX6_back_r2 : List Cond := [Cond.fieldLink RX0 9 "LeaningStreet$House" "kind" "I", Cond.fieldLink RX0 15 "LeaningStreet$House" "weight" "I", Cond.fieldLink RX0 18 "LeaningStreet$House" "lean" "I", Cond.fieldLink RX0 21 "LeaningStreet$House" "wall" "I", Cond.fieldLink RX0 24 "LeaningStreet$House" "crack" "I", Cond.fieldLink RX0 27 "LeaningStreet$House" "prop" "I", Cond.fieldLink RX0 30 "LeaningStreet$House" "stands" "Z"]
def wsX6_back : List Cond := .code yX6_back cX6_back 1 (some .int) :: ((wsX6_back_r1 ++ wsX6_back_r2) ++ wsX60 ++ wsX40 ++ wsX00)
def wsX6_count_r1 : List Cond := [Cond.fieldLink RX6 10 "LeaningStreet" "now" "LLeaningStreet$Street;", Cond.fieldLink RX6 60 "LeaningStreet$Street" "many" "I", Cond.fieldLink RX6 144 "LeaningStreet$Street" "day" "I", Cond.fieldLink RX6 129 "LeaningStreet$Street" "snow" "I", Cond.fieldLink RX6 229 "LeaningStreet$Street" "texts" "I", Cond.fieldLink RX6 45 "LeaningStreet" "waits" "I", Cond.fieldLink RX6 25 "LeaningStreet" "tape" "LLeaningStreet$Reader;", Cond.fieldLink RX6 218 "LeaningStreet$Reader" "many" "I", Cond.fieldLink RX6 141 "LeaningStreet$Street" "z" "I", Cond.constant RX6 59 (-1000000001), Cond.methodLink RX6 123 yX4_howManyStand, Cond.instanceMethod yX4_howManyStand, Cond.selects RX4 yX4_howManyStand yX4_howManyStand, Cond.initialized RX4, Cond.code yX4_howManyStand cX4_howManyStand 1 (some .int), Cond.methodLink RX4 174 yX4_standing, Cond.instanceMethod yX4_standing, Cond.selects RX4 yX4_standing yX4_standing, Cond.code yX4_standing cX4_standing 3 (some .int), Cond.fieldLink RX4 36 "LeaningStreet$Street" "many" "I", Cond.fieldLink RX4 11 "LeaningStreet$Street" "houses" "[LLeaningStreet$House;", Cond.fieldLink RX4 129 "LeaningStreet$House" "stands" "Z", Cond.methodLink RX4 177 yJ6_bitCount_0f7a4, Cond.static yJ6_bitCount_0f7a4]
def wsX6_count_r2 : List Cond := [Cond.initialized RJ6, Cond.code yJ6_bitCount_0f7a4 cJ6_bitCount_0f7a4 1 (some .int), Cond.constant RJ6 265 (1431655765), Cond.constant RJ6 266 (858993459), Cond.constant RJ6 267 (252645135)]
def wsX6_count : List Cond := .code yX6_count cX6_count 2 (some .int) :: ((wsX6_count_r1 ++ wsX6_count_r2) ++ wsX60 ++ wsX40 ++ wsX10 ++ wsX00)
def wsX7_init : List Cond := .code yX7_init cX7_init 2 none :: ([.methodLink RX7 1 objectInit, .instanceMethod objectInit, .code objectInit ⟨#[0xb1]⟩ 1 none, .arrayClass .int, .fieldLink RX7 7 "LeaningStreetModel" "s" "[I", .fieldLink RX7 13 "LeaningStreetModel" "image" "[I", .fieldLink RX7 16 "LeaningStreetModel" "aside" "[I", .fieldLink RX7 19 "LeaningStreetModel" "tSort" "[I", .fieldLink RX7 22 "LeaningStreetModel" "tSize" "[I", .fieldLink RX7 25 "LeaningStreetModel" "tNumber" "[I", .fieldLink RX7 28 "LeaningStreetModel" "held" "[I", .fieldLink RX7 31 "LeaningStreetModel" "heldNumber" "[I", .fieldLink RX7 34 "LeaningStreetModel" "heldWorth" "[I", .fieldLink RX7 37 "LeaningStreetModel" "heldSize" "[I", .fieldLink RX7 40 "LeaningStreetModel" "heldRow" "[I", .fieldLink RX7 43 "LeaningStreetModel" "thrusts" "[I", .fieldLink RX7 46 "LeaningStreetModel" "borne" "[I", .fieldLink RX7 49 "LeaningStreetModel" "close" "[I", .fieldLink RX7 52 "LeaningStreetModel" "tape" "[I", .fieldLink RX7 55 "LeaningStreetModel" "named" "[I", .fieldLink RX7 58 "LeaningStreetModel" "pile" "[I", .fieldLink RX7 61 "LeaningStreetModel" "carried" "[I", .fieldLink RX7 64 "LeaningStreetModel" "waits" "[I", .fieldLink RX7 67 "LeaningStreetModel" "rowDue" "[I"] ++ wsX70)
def wsX7_isIn : List Cond := .code yX7_isIn cX7_isIn 6 (some .boolean) :: ([])
def wsX7_orNone : List Cond := .code yX7_orNone cX7_orNone 1 (some .int) :: ([.constant RX7 70 (-1000000005)])
def wsX7_held : List Cond := .code yX7_held cX7_held 3 (some .int) :: ([])
def wsX7_off : List Cond := .code yX7_off cX7_off 2 (some .int) :: ([])
def wsX7_manyIn : List Cond := .code yX7_manyIn cX7_manyIn 3 (some .int) :: ([])
def wsX7_becomes : List Cond := .code yX7_becomes cX7_becomes 4 (some .int) :: ([.fieldLink RX7 7 "LeaningStreetModel" "s" "[I"] ++ wsX70)
def wsX7_textAt : List Cond := .code yX7_textAt cX7_textAt 2 (some .int) :: ([])
def wsX7_of : List Cond := .code yX7_of cX7_of 3 (some .int) :: ([.fieldLink RX7 7 "LeaningStreetModel" "s" "[I"] ++ wsX70)
def wsX7_sets : List Cond := .code yX7_sets cX7_sets 4 none :: ([.fieldLink RX7 7 "LeaningStreetModel" "s" "[I"] ++ wsX70)
def wsX7_isHouse : List Cond := .code yX7_isHouse cX7_isHouse 2 (some .boolean) :: ([.fieldLink RX7 7 "LeaningStreetModel" "s" "[I", .methodLink RX7 71 yX7_isIn, .static yX7_isIn, .initialized RX7, .code yX7_isIn cX7_isIn 6 (some .boolean)] ++ wsX70)
def wsX7_stands : List Cond := .code yX7_stands cX7_stands 2 (some .boolean) :: ([.methodLink RX7 75 yX7_of, .instanceMethod yX7_of, .selects RX7 yX7_of yX7_of, .initialized RX7, .code yX7_of cX7_of 3 (some .int), .fieldLink RX7 7 "LeaningStreetModel" "s" "[I"] ++ wsX70)
def wsX7_isText : List Cond := .code yX7_isText cX7_isText 2 (some .boolean) :: ([.fieldLink RX7 7 "LeaningStreetModel" "s" "[I", .methodLink RX7 71 yX7_isIn, .static yX7_isIn, .initialized RX7, .code yX7_isIn cX7_isIn 6 (some .boolean)] ++ wsX70)
def wsX7_drawn : List Cond := .code yX7_drawn cX7_drawn 1 (some .int) :: ([.fieldLink RX7 7 "LeaningStreetModel" "s" "[I", .constant RX7 79 (1103515245)] ++ wsX70)
def wsX7_comes : List Cond := .code yX7_comes cX7_comes 6 none :: ([.fieldLink RX7 7 "LeaningStreetModel" "s" "[I", .methodLink RX7 80 yX7_sets, .instanceMethod yX7_sets, .selects RX7 yX7_sets yX7_sets, .initialized RX7, .code yX7_sets cX7_sets 4 none] ++ wsX70)
def wsX7_mayBe : List Cond := .code yX7_mayBe cX7_mayBe 2 (some .boolean) :: ([.constantLong RX7 84 (99), .constantLong RX7 86 (-50), .constantLong RX7 88 (50), .constantLong RX7 90 (999), .constantLong RX7 92 (9), .methodLink RX7 71 yX7_isIn, .static yX7_isIn, .initialized RX7, .code yX7_isIn cX7_isIn 6 (some .boolean)])
def wsX7_house : List Cond := .code yX7_house cX7_house 5 (some .int) :: ([.constantLong RX7 94 (5), .constant RX7 100 (-1000000001), .fieldLink RX7 7 "LeaningStreetModel" "s" "[I", .constant RX7 101 (-1000000003), .methodLink RX7 71 yX7_isIn, .static yX7_isIn, .initialized RX7, .code yX7_isIn cX7_isIn 6 (some .boolean), .methodLink RX7 96 yX7_mayBe, .static yX7_mayBe, .code yX7_mayBe cX7_mayBe 2 (some .boolean), .constantLong RX7 84 (99), .constantLong RX7 86 (-50), .constantLong RX7 88 (50), .constantLong RX7 90 (999), .constantLong RX7 92 (9), .methodLink RX7 102 yX7_comes, .instanceMethod yX7_comes, .selects RX7 yX7_comes yX7_comes, .code yX7_comes cX7_comes 6 none, .methodLink RX7 80 yX7_sets, .instanceMethod yX7_sets, .selects RX7 yX7_sets yX7_sets, .code yX7_sets cX7_sets 4 none] ++ wsX70)
def wsX7_counts : List Cond := .code yX7_counts cX7_counts 4 (some .int) :: ([.fieldLink RX7 7 "LeaningStreetModel" "s" "[I", .methodLink RX7 283 yX7_textAt, .instanceMethod yX7_textAt, .selects RX7 yX7_textAt yX7_textAt, .initialized RX7, .code yX7_textAt cX7_textAt 2 (some .int)] ++ wsX70)
def wsX7_joined : List Cond := .code yX7_joined cX7_joined 3 (some .int) :: ([])
def wsX7_worked : List Cond := .code yX7_worked cX7_worked 6 (some .int) :: ([.fieldLink RX7 7 "LeaningStreetModel" "s" "[I", .fieldLink RX7 58 "LeaningStreetModel" "pile" "[I", .fieldLink RX7 55 "LeaningStreetModel" "named" "[I", .methodLink RX7 283 yX7_textAt, .instanceMethod yX7_textAt, .selects RX7 yX7_textAt yX7_textAt, .initialized RX7, .code yX7_textAt cX7_textAt 2 (some .int), .methodLink RX7 297 yX7_joined, .static yX7_joined, .code yX7_joined cX7_joined 3 (some .int)] ++ wsX70)
def wsX7_pushes_r1 : List Cond := [Cond.fieldLink RX7 55 "LeaningStreetModel" "named" "[I", Cond.methodLink RX7 75 yX7_of, Cond.instanceMethod yX7_of, Cond.selects RX7 yX7_of yX7_of, Cond.initialized RX7, Cond.code yX7_of cX7_of 3 (some .int), Cond.fieldLink RX7 7 "LeaningStreetModel" "s" "[I", Cond.methodLink RX7 106 yX7_off, Cond.static yX7_off, Cond.code yX7_off cX7_off 2 (some .int), Cond.methodLink RX7 109 yX7_counts, Cond.instanceMethod yX7_counts, Cond.selects RX7 yX7_counts yX7_counts, Cond.code yX7_counts cX7_counts 4 (some .int), Cond.methodLink RX7 283 yX7_textAt, Cond.instanceMethod yX7_textAt, Cond.selects RX7 yX7_textAt yX7_textAt, Cond.code yX7_textAt cX7_textAt 2 (some .int), Cond.methodLink RX7 113 yX7_worked, Cond.instanceMethod yX7_worked, Cond.selects RX7 yX7_worked yX7_worked, Cond.code yX7_worked cX7_worked 6 (some .int), Cond.fieldLink RX7 58 "LeaningStreetModel" "pile" "[I", Cond.methodLink RX7 297 yX7_joined]
def wsX7_pushes_r2 : List Cond := [Cond.static yX7_joined, Cond.code yX7_joined cX7_joined 3 (some .int), Cond.methodLink RX7 116 yX7_held, Cond.static yX7_held, Cond.code yX7_held cX7_held 3 (some .int)]
def wsX7_pushes : List Cond := .code yX7_pushes cX7_pushes 5 (some .int) :: ((wsX7_pushes_r1 ++ wsX7_pushes_r2) ++ wsX70)
def wsX7_bears : List Cond := .code yX7_bears cX7_bears 3 (some .int) :: ([.methodLink RX7 75 yX7_of, .instanceMethod yX7_of, .selects RX7 yX7_of yX7_of, .initialized RX7, .code yX7_of cX7_of 3 (some .int), .fieldLink RX7 7 "LeaningStreetModel" "s" "[I"] ++ wsX70)
def wsX7_worth : List Cond := .code yX7_worth cX7_worth 3 (some .int) :: ([.methodLink RX7 75 yX7_of, .instanceMethod yX7_of, .selects RX7 yX7_of yX7_of, .initialized RX7, .code yX7_of cX7_of 3 (some .int), .fieldLink RX7 7 "LeaningStreetModel" "s" "[I"] ++ wsX70)
def wsX7_allStanding : List Cond := .code yX7_allStanding cX7_allStanding 3 (some .int) :: ([.fieldLink RX7 7 "LeaningStreetModel" "s" "[I", .methodLink RX7 119 yX7_stands, .instanceMethod yX7_stands, .selects RX7 yX7_stands yX7_stands, .initialized RX7, .code yX7_stands cX7_stands 2 (some .boolean), .methodLink RX7 75 yX7_of, .instanceMethod yX7_of, .selects RX7 yX7_of yX7_of, .code yX7_of cX7_of 3 (some .int)] ++ wsX70)
def wsX7_nextOf : List Cond := .code yX7_nextOf cX7_nextOf 5 (some .int) :: ([.fieldLink RX7 7 "LeaningStreetModel" "s" "[I"] ++ wsX70)
def wsX7_thrust_r1 : List Cond := [Cond.fieldLink RX7 7 "LeaningStreetModel" "s" "[I", Cond.methodLink RX7 119 yX7_stands, Cond.instanceMethod yX7_stands, Cond.selects RX7 yX7_stands yX7_stands, Cond.initialized RX7, Cond.code yX7_stands cX7_stands 2 (some .boolean), Cond.methodLink RX7 75 yX7_of, Cond.instanceMethod yX7_of, Cond.selects RX7 yX7_of yX7_of, Cond.code yX7_of cX7_of 3 (some .int), Cond.methodLink RX7 123 yX7_allStanding, Cond.instanceMethod yX7_allStanding, Cond.selects RX7 yX7_allStanding yX7_allStanding, Cond.code yX7_allStanding cX7_allStanding 3 (some .int), Cond.methodLink RX7 127 yX7_nextOf, Cond.instanceMethod yX7_nextOf, Cond.selects RX7 yX7_nextOf yX7_nextOf, Cond.code yX7_nextOf cX7_nextOf 5 (some .int), Cond.methodLink RX7 130 yX7_pushes, Cond.instanceMethod yX7_pushes, Cond.selects RX7 yX7_pushes yX7_pushes, Cond.code yX7_pushes cX7_pushes 5 (some .int), Cond.fieldLink RX7 55 "LeaningStreetModel" "named" "[I", Cond.methodLink RX7 106 yX7_off]
def wsX7_thrust_r2 : List Cond := [Cond.static yX7_off, Cond.code yX7_off cX7_off 2 (some .int), Cond.methodLink RX7 109 yX7_counts, Cond.instanceMethod yX7_counts, Cond.selects RX7 yX7_counts yX7_counts, Cond.code yX7_counts cX7_counts 4 (some .int), Cond.methodLink RX7 283 yX7_textAt, Cond.instanceMethod yX7_textAt, Cond.selects RX7 yX7_textAt yX7_textAt, Cond.code yX7_textAt cX7_textAt 2 (some .int), Cond.methodLink RX7 113 yX7_worked, Cond.instanceMethod yX7_worked, Cond.selects RX7 yX7_worked yX7_worked, Cond.code yX7_worked cX7_worked 6 (some .int), Cond.fieldLink RX7 58 "LeaningStreetModel" "pile" "[I", Cond.methodLink RX7 297 yX7_joined, Cond.static yX7_joined, Cond.code yX7_joined cX7_joined 3 (some .int), Cond.methodLink RX7 116 yX7_held, Cond.static yX7_held, Cond.code yX7_held cX7_held 3 (some .int)]
def wsX7_thrust : List Cond := .code yX7_thrust cX7_thrust 6 (some .int) :: ((wsX7_thrust_r1 ++ wsX7_thrust_r2) ++ wsX70)
def wsX7_told_r1 : List Cond := [Cond.constant RX7 100 (-1000000001), Cond.methodLink RX7 133 yX7_isHouse, Cond.instanceMethod yX7_isHouse, Cond.selects RX7 yX7_isHouse yX7_isHouse, Cond.initialized RX7, Cond.code yX7_isHouse cX7_isHouse 2 (some .boolean), Cond.fieldLink RX7 7 "LeaningStreetModel" "s" "[I", Cond.methodLink RX7 71 yX7_isIn, Cond.static yX7_isIn, Cond.code yX7_isIn cX7_isIn 6 (some .boolean), Cond.methodLink RX7 75 yX7_of, Cond.instanceMethod yX7_of, Cond.selects RX7 yX7_of yX7_of, Cond.code yX7_of cX7_of 3 (some .int), Cond.methodLink RX7 130 yX7_pushes, Cond.instanceMethod yX7_pushes, Cond.selects RX7 yX7_pushes yX7_pushes, Cond.code yX7_pushes cX7_pushes 5 (some .int), Cond.fieldLink RX7 55 "LeaningStreetModel" "named" "[I", Cond.methodLink RX7 106 yX7_off, Cond.static yX7_off, Cond.code yX7_off cX7_off 2 (some .int), Cond.methodLink RX7 109 yX7_counts, Cond.instanceMethod yX7_counts]
def wsX7_told_r2 : List Cond := [Cond.selects RX7 yX7_counts yX7_counts, Cond.code yX7_counts cX7_counts 4 (some .int), Cond.methodLink RX7 283 yX7_textAt, Cond.instanceMethod yX7_textAt, Cond.selects RX7 yX7_textAt yX7_textAt, Cond.code yX7_textAt cX7_textAt 2 (some .int), Cond.methodLink RX7 113 yX7_worked, Cond.instanceMethod yX7_worked, Cond.selects RX7 yX7_worked yX7_worked, Cond.code yX7_worked cX7_worked 6 (some .int), Cond.fieldLink RX7 58 "LeaningStreetModel" "pile" "[I", Cond.methodLink RX7 297 yX7_joined, Cond.static yX7_joined, Cond.code yX7_joined cX7_joined 3 (some .int), Cond.methodLink RX7 116 yX7_held, Cond.static yX7_held, Cond.code yX7_held cX7_held 3 (some .int), Cond.methodLink RX7 136 yX7_bears, Cond.instanceMethod yX7_bears, Cond.selects RX7 yX7_bears yX7_bears, Cond.code yX7_bears cX7_bears 3 (some .int), Cond.methodLink RX7 139 yX7_thrust, Cond.instanceMethod yX7_thrust, Cond.selects RX7 yX7_thrust yX7_thrust]
def wsX7_told_r3 : List Cond := [Cond.code yX7_thrust cX7_thrust 6 (some .int), Cond.methodLink RX7 119 yX7_stands, Cond.instanceMethod yX7_stands, Cond.selects RX7 yX7_stands yX7_stands, Cond.code yX7_stands cX7_stands 2 (some .boolean), Cond.methodLink RX7 123 yX7_allStanding, Cond.instanceMethod yX7_allStanding, Cond.selects RX7 yX7_allStanding yX7_allStanding, Cond.code yX7_allStanding cX7_allStanding 3 (some .int), Cond.methodLink RX7 127 yX7_nextOf, Cond.instanceMethod yX7_nextOf, Cond.selects RX7 yX7_nextOf yX7_nextOf, Cond.code yX7_nextOf cX7_nextOf 5 (some .int), Cond.methodLink RX7 142 yX7_worth, Cond.instanceMethod yX7_worth, Cond.selects RX7 yX7_worth yX7_worth, Cond.code yX7_worth cX7_worth 3 (some .int)]
def wsX7_told : List Cond := .code yX7_told cX7_told 3 (some .int) :: ((wsX7_told_r1 ++ (wsX7_told_r2 ++ wsX7_told_r3)) ++ wsX70)
def wsX7_isOf : List Cond := .code yX7_isOf cX7_isOf 2 (some .boolean) :: ([])
def wsX7_as : List Cond := .code yX7_as cX7_as 3 (some .int) :: ([.constantLong RX7 94 (5), .constant RX7 100 (-1000000001), .constant RX7 148 (-1000000012), .methodLink RX7 133 yX7_isHouse, .instanceMethod yX7_isHouse, .selects RX7 yX7_isHouse yX7_isHouse, .initialized RX7, .code yX7_isHouse cX7_isHouse 2 (some .boolean), .fieldLink RX7 7 "LeaningStreetModel" "s" "[I", .methodLink RX7 71 yX7_isIn, .static yX7_isIn, .code yX7_isIn cX7_isIn 6 (some .boolean), .methodLink RX7 75 yX7_of, .instanceMethod yX7_of, .selects RX7 yX7_of yX7_of, .code yX7_of cX7_of 3 (some .int), .methodLink RX7 145 yX7_isOf, .static yX7_isOf, .code yX7_isOf cX7_isOf 2 (some .boolean)] ++ wsX70)
def wsX7_turns : List Cond := .code yX7_turns cX7_turns 3 (some .int) :: ([.constantLong RX7 94 (5), .constant RX7 100 (-1000000001), .methodLink RX7 133 yX7_isHouse, .instanceMethod yX7_isHouse, .selects RX7 yX7_isHouse yX7_isHouse, .initialized RX7, .code yX7_isHouse cX7_isHouse 2 (some .boolean), .fieldLink RX7 7 "LeaningStreetModel" "s" "[I", .methodLink RX7 71 yX7_isIn, .static yX7_isIn, .code yX7_isIn cX7_isIn 6 (some .boolean), .methodLink RX7 149 yX7_becomes, .instanceMethod yX7_becomes, .selects RX7 yX7_becomes yX7_becomes, .code yX7_becomes cX7_becomes 4 (some .int)] ++ wsX70)
def wsX7_set : List Cond := .code yX7_set cX7_set 4 (some .int) :: ([.constant RX7 100 (-1000000001), .methodLink RX7 133 yX7_isHouse, .instanceMethod yX7_isHouse, .selects RX7 yX7_isHouse yX7_isHouse, .initialized RX7, .code yX7_isHouse cX7_isHouse 2 (some .boolean), .fieldLink RX7 7 "LeaningStreetModel" "s" "[I", .methodLink RX7 71 yX7_isIn, .static yX7_isIn, .code yX7_isIn cX7_isIn 6 (some .boolean), .methodLink RX7 96 yX7_mayBe, .static yX7_mayBe, .code yX7_mayBe cX7_mayBe 2 (some .boolean), .constantLong RX7 84 (99), .constantLong RX7 86 (-50), .constantLong RX7 88 (50), .constantLong RX7 90 (999), .constantLong RX7 92 (9), .methodLink RX7 149 yX7_becomes, .instanceMethod yX7_becomes, .selects RX7 yX7_becomes yX7_becomes, .code yX7_becomes cX7_becomes 4 (some .int)] ++ wsX70)
def wsX7_falls : List Cond := .code yX7_falls cX7_falls 2 none :: ([.methodLink RX7 80 yX7_sets, .instanceMethod yX7_sets, .selects RX7 yX7_sets yX7_sets, .initialized RX7, .code yX7_sets cX7_sets 4 none, .fieldLink RX7 7 "LeaningStreetModel" "s" "[I"] ++ wsX70)
def wsX7_fells_r1 : List Cond := [Cond.constant RX7 100 (-1000000001), Cond.constant RX7 152 (-1000000002), Cond.methodLink RX7 133 yX7_isHouse, Cond.instanceMethod yX7_isHouse, Cond.selects RX7 yX7_isHouse yX7_isHouse, Cond.initialized RX7, Cond.code yX7_isHouse cX7_isHouse 2 (some .boolean), Cond.fieldLink RX7 7 "LeaningStreetModel" "s" "[I", Cond.methodLink RX7 71 yX7_isIn, Cond.static yX7_isIn, Cond.code yX7_isIn cX7_isIn 6 (some .boolean), Cond.methodLink RX7 119 yX7_stands, Cond.instanceMethod yX7_stands, Cond.selects RX7 yX7_stands yX7_stands, Cond.code yX7_stands cX7_stands 2 (some .boolean), Cond.methodLink RX7 75 yX7_of, Cond.instanceMethod yX7_of, Cond.selects RX7 yX7_of yX7_of, Cond.code yX7_of cX7_of 3 (some .int), Cond.methodLink RX7 153 yX7_falls, Cond.instanceMethod yX7_falls, Cond.selects RX7 yX7_falls yX7_falls, Cond.code yX7_falls cX7_falls 2 none, Cond.methodLink RX7 80 yX7_sets]
def wsX7_fells_r2 : List Cond := [Cond.instanceMethod yX7_sets, Cond.selects RX7 yX7_sets yX7_sets, Cond.code yX7_sets cX7_sets 4 none, Cond.methodLink RX7 123 yX7_allStanding, Cond.instanceMethod yX7_allStanding, Cond.selects RX7 yX7_allStanding yX7_allStanding, Cond.code yX7_allStanding cX7_allStanding 3 (some .int), Cond.methodLink RX7 157 yX7_manyIn, Cond.static yX7_manyIn, Cond.code yX7_manyIn cX7_manyIn 3 (some .int)]
def wsX7_fells : List Cond := .code yX7_fells cX7_fells 2 (some .int) :: ((wsX7_fells_r1 ++ wsX7_fells_r2) ++ wsX70)
def wsX7_raises_r1 : List Cond := [Cond.constant RX7 100 (-1000000001), Cond.constant RX7 152 (-1000000002), Cond.methodLink RX7 133 yX7_isHouse, Cond.instanceMethod yX7_isHouse, Cond.selects RX7 yX7_isHouse yX7_isHouse, Cond.initialized RX7, Cond.code yX7_isHouse cX7_isHouse 2 (some .boolean), Cond.fieldLink RX7 7 "LeaningStreetModel" "s" "[I", Cond.methodLink RX7 71 yX7_isIn, Cond.static yX7_isIn, Cond.code yX7_isIn cX7_isIn 6 (some .boolean), Cond.methodLink RX7 119 yX7_stands, Cond.instanceMethod yX7_stands, Cond.selects RX7 yX7_stands yX7_stands, Cond.code yX7_stands cX7_stands 2 (some .boolean), Cond.methodLink RX7 75 yX7_of, Cond.instanceMethod yX7_of, Cond.selects RX7 yX7_of yX7_of, Cond.code yX7_of cX7_of 3 (some .int), Cond.methodLink RX7 80 yX7_sets, Cond.instanceMethod yX7_sets, Cond.selects RX7 yX7_sets yX7_sets, Cond.code yX7_sets cX7_sets 4 none, Cond.methodLink RX7 123 yX7_allStanding]
def wsX7_raises_r2 : List Cond := [Cond.instanceMethod yX7_allStanding, Cond.selects RX7 yX7_allStanding yX7_allStanding, Cond.code yX7_allStanding cX7_allStanding 3 (some .int), Cond.methodLink RX7 157 yX7_manyIn, Cond.static yX7_manyIn, Cond.code yX7_manyIn cX7_manyIn 3 (some .int)]
def wsX7_raises : List Cond := .code yX7_raises cX7_raises 2 (some .int) :: ((wsX7_raises_r1 ++ wsX7_raises_r2) ++ wsX70)
def wsX7_snow : List Cond := .code yX7_snow cX7_snow 2 (some .int) :: ([.constantLong RX7 160 (-20), .constantLong RX7 162 (20), .constant RX7 100 (-1000000001), .methodLink RX7 71 yX7_isIn, .static yX7_isIn, .initialized RX7, .code yX7_isIn cX7_isIn 6 (some .boolean), .methodLink RX7 149 yX7_becomes, .instanceMethod yX7_becomes, .selects RX7 yX7_becomes yX7_becomes, .code yX7_becomes cX7_becomes 4 (some .int), .fieldLink RX7 7 "LeaningStreetModel" "s" "[I"] ++ wsX70)
def wsX7_deal : List Cond := .code yX7_deal cX7_deal 6 (some .int) :: ([.constantLong RX7 92 (9), .constant RX7 100 (-1000000001), .fieldLink RX7 7 "LeaningStreetModel" "s" "[I", .methodLink RX7 71 yX7_isIn, .static yX7_isIn, .initialized RX7, .code yX7_isIn cX7_isIn 6 (some .boolean), .methodLink RX7 164 yX7_drawn, .instanceMethod yX7_drawn, .selects RX7 yX7_drawn yX7_drawn, .code yX7_drawn cX7_drawn 1 (some .int), .constant RX7 79 (1103515245), .methodLink RX7 102 yX7_comes, .instanceMethod yX7_comes, .selects RX7 yX7_comes yX7_comes, .code yX7_comes cX7_comes 6 none, .methodLink RX7 80 yX7_sets, .instanceMethod yX7_sets, .selects RX7 yX7_sets yX7_sets, .code yX7_sets cX7_sets 4 none] ++ wsX70)
def wsX7_seed : List Cond := .code yX7_seed cX7_seed 2 (some .int) :: ([.methodLink RX7 149 yX7_becomes, .instanceMethod yX7_becomes, .selects RX7 yX7_becomes yX7_becomes, .initialized RX7, .code yX7_becomes cX7_becomes 4 (some .int), .fieldLink RX7 7 "LeaningStreetModel" "s" "[I"] ++ wsX70)
def wsX7_fallsWith : List Cond := .code yX7_fallsWith cX7_fallsWith 5 (some .boolean) :: ([.methodLink RX7 75 yX7_of, .instanceMethod yX7_of, .selects RX7 yX7_of yX7_of, .initialized RX7, .code yX7_of cX7_of 3 (some .int), .fieldLink RX7 7 "LeaningStreetModel" "s" "[I", .methodLink RX7 106 yX7_off, .static yX7_off, .code yX7_off cX7_off 2 (some .int), .methodLink RX7 127 yX7_nextOf, .instanceMethod yX7_nextOf, .selects RX7 yX7_nextOf yX7_nextOf, .code yX7_nextOf cX7_nextOf 5 (some .int), .methodLink RX7 119 yX7_stands, .instanceMethod yX7_stands, .selects RX7 yX7_stands yX7_stands, .code yX7_stands cX7_stands 2 (some .boolean)] ++ wsX70)
def wsX7_goesOn_r1 : List Cond := [Cond.fieldLink RX7 7 "LeaningStreetModel" "s" "[I", Cond.fieldLink RX7 43 "LeaningStreetModel" "thrusts" "[I", Cond.fieldLink RX7 46 "LeaningStreetModel" "borne" "[I", Cond.methodLink RX7 123 yX7_allStanding, Cond.instanceMethod yX7_allStanding, Cond.selects RX7 yX7_allStanding yX7_allStanding, Cond.initialized RX7, Cond.code yX7_allStanding cX7_allStanding 3 (some .int), Cond.methodLink RX7 119 yX7_stands, Cond.instanceMethod yX7_stands, Cond.selects RX7 yX7_stands yX7_stands, Cond.code yX7_stands cX7_stands 2 (some .boolean), Cond.methodLink RX7 75 yX7_of, Cond.instanceMethod yX7_of, Cond.selects RX7 yX7_of yX7_of, Cond.code yX7_of cX7_of 3 (some .int), Cond.methodLink RX7 139 yX7_thrust, Cond.instanceMethod yX7_thrust, Cond.selects RX7 yX7_thrust yX7_thrust, Cond.code yX7_thrust cX7_thrust 6 (some .int), Cond.methodLink RX7 127 yX7_nextOf, Cond.instanceMethod yX7_nextOf, Cond.selects RX7 yX7_nextOf yX7_nextOf, Cond.code yX7_nextOf cX7_nextOf 5 (some .int)]
def wsX7_goesOn_r2 : List Cond := [Cond.methodLink RX7 130 yX7_pushes, Cond.instanceMethod yX7_pushes, Cond.selects RX7 yX7_pushes yX7_pushes, Cond.code yX7_pushes cX7_pushes 5 (some .int), Cond.fieldLink RX7 55 "LeaningStreetModel" "named" "[I", Cond.methodLink RX7 106 yX7_off, Cond.static yX7_off, Cond.code yX7_off cX7_off 2 (some .int), Cond.methodLink RX7 109 yX7_counts, Cond.instanceMethod yX7_counts, Cond.selects RX7 yX7_counts yX7_counts, Cond.code yX7_counts cX7_counts 4 (some .int), Cond.methodLink RX7 283 yX7_textAt, Cond.instanceMethod yX7_textAt, Cond.selects RX7 yX7_textAt yX7_textAt, Cond.code yX7_textAt cX7_textAt 2 (some .int), Cond.methodLink RX7 113 yX7_worked, Cond.instanceMethod yX7_worked, Cond.selects RX7 yX7_worked yX7_worked, Cond.code yX7_worked cX7_worked 6 (some .int), Cond.fieldLink RX7 58 "LeaningStreetModel" "pile" "[I", Cond.methodLink RX7 297 yX7_joined, Cond.static yX7_joined, Cond.code yX7_joined cX7_joined 3 (some .int)]
def wsX7_goesOn_r3 : List Cond := [Cond.methodLink RX7 116 yX7_held, Cond.static yX7_held, Cond.code yX7_held cX7_held 3 (some .int), Cond.methodLink RX7 136 yX7_bears, Cond.instanceMethod yX7_bears, Cond.selects RX7 yX7_bears yX7_bears, Cond.code yX7_bears cX7_bears 3 (some .int), Cond.methodLink RX7 80 yX7_sets, Cond.instanceMethod yX7_sets, Cond.selects RX7 yX7_sets yX7_sets, Cond.code yX7_sets cX7_sets 4 none, Cond.methodLink RX7 153 yX7_falls, Cond.instanceMethod yX7_falls, Cond.selects RX7 yX7_falls yX7_falls, Cond.code yX7_falls cX7_falls 2 none, Cond.methodLink RX7 167 yX7_fallsWith, Cond.instanceMethod yX7_fallsWith, Cond.selects RX7 yX7_fallsWith yX7_fallsWith, Cond.code yX7_fallsWith cX7_fallsWith 5 (some .boolean)]
def wsX7_goesOn : List Cond := .code yX7_goesOn cX7_goesOn 5 none :: ((wsX7_goesOn_r1 ++ (wsX7_goesOn_r2 ++ wsX7_goesOn_r3)) ++ wsX70)
def wsX7_days_r1 : List Cond := [Cond.constantLong RX7 170 (100), Cond.constant RX7 100 (-1000000001), Cond.fieldLink RX7 7 "LeaningStreetModel" "s" "[I", Cond.methodLink RX7 71 yX7_isIn, Cond.static yX7_isIn, Cond.initialized RX7, Cond.code yX7_isIn cX7_isIn 6 (some .boolean), Cond.methodLink RX7 123 yX7_allStanding, Cond.instanceMethod yX7_allStanding, Cond.selects RX7 yX7_allStanding yX7_allStanding, Cond.code yX7_allStanding cX7_allStanding 3 (some .int), Cond.methodLink RX7 119 yX7_stands, Cond.instanceMethod yX7_stands, Cond.selects RX7 yX7_stands yX7_stands, Cond.code yX7_stands cX7_stands 2 (some .boolean), Cond.methodLink RX7 75 yX7_of, Cond.instanceMethod yX7_of, Cond.selects RX7 yX7_of yX7_of, Cond.code yX7_of cX7_of 3 (some .int), Cond.methodLink RX7 157 yX7_manyIn, Cond.static yX7_manyIn, Cond.code yX7_manyIn cX7_manyIn 3 (some .int), Cond.methodLink RX7 172 yX7_goesOn, Cond.instanceMethod yX7_goesOn]
def wsX7_days_r2 : List Cond := [Cond.selects RX7 yX7_goesOn yX7_goesOn, Cond.code yX7_goesOn cX7_goesOn 5 none, Cond.fieldLink RX7 43 "LeaningStreetModel" "thrusts" "[I", Cond.fieldLink RX7 46 "LeaningStreetModel" "borne" "[I", Cond.methodLink RX7 139 yX7_thrust, Cond.instanceMethod yX7_thrust, Cond.selects RX7 yX7_thrust yX7_thrust, Cond.code yX7_thrust cX7_thrust 6 (some .int), Cond.methodLink RX7 127 yX7_nextOf, Cond.instanceMethod yX7_nextOf, Cond.selects RX7 yX7_nextOf yX7_nextOf, Cond.code yX7_nextOf cX7_nextOf 5 (some .int), Cond.methodLink RX7 130 yX7_pushes, Cond.instanceMethod yX7_pushes, Cond.selects RX7 yX7_pushes yX7_pushes, Cond.code yX7_pushes cX7_pushes 5 (some .int), Cond.fieldLink RX7 55 "LeaningStreetModel" "named" "[I", Cond.methodLink RX7 106 yX7_off, Cond.static yX7_off, Cond.code yX7_off cX7_off 2 (some .int), Cond.methodLink RX7 109 yX7_counts, Cond.instanceMethod yX7_counts, Cond.selects RX7 yX7_counts yX7_counts, Cond.code yX7_counts cX7_counts 4 (some .int)]
def wsX7_days_r3 : List Cond := [Cond.methodLink RX7 283 yX7_textAt, Cond.instanceMethod yX7_textAt, Cond.selects RX7 yX7_textAt yX7_textAt, Cond.code yX7_textAt cX7_textAt 2 (some .int), Cond.methodLink RX7 113 yX7_worked, Cond.instanceMethod yX7_worked, Cond.selects RX7 yX7_worked yX7_worked, Cond.code yX7_worked cX7_worked 6 (some .int), Cond.fieldLink RX7 58 "LeaningStreetModel" "pile" "[I", Cond.methodLink RX7 297 yX7_joined, Cond.static yX7_joined, Cond.code yX7_joined cX7_joined 3 (some .int), Cond.methodLink RX7 116 yX7_held, Cond.static yX7_held, Cond.code yX7_held cX7_held 3 (some .int), Cond.methodLink RX7 136 yX7_bears, Cond.instanceMethod yX7_bears, Cond.selects RX7 yX7_bears yX7_bears, Cond.code yX7_bears cX7_bears 3 (some .int), Cond.methodLink RX7 80 yX7_sets, Cond.instanceMethod yX7_sets, Cond.selects RX7 yX7_sets yX7_sets, Cond.code yX7_sets cX7_sets 4 none, Cond.methodLink RX7 153 yX7_falls]
def wsX7_days_r4 : List Cond := [Cond.instanceMethod yX7_falls, Cond.selects RX7 yX7_falls yX7_falls, Cond.code yX7_falls cX7_falls 2 none, Cond.methodLink RX7 167 yX7_fallsWith, Cond.instanceMethod yX7_fallsWith, Cond.selects RX7 yX7_fallsWith yX7_fallsWith, Cond.code yX7_fallsWith cX7_fallsWith 5 (some .boolean)]
def wsX7_days : List Cond := .code yX7_days cX7_days 4 (some .int) :: ((wsX7_days_r1 ++ (wsX7_days_r2 ++ (wsX7_days_r3 ++ wsX7_days_r4))) ++ wsX70)
def wsX7_allOf : List Cond := .code yX7_allOf cX7_allOf 4 (some .int) :: ([.fieldLink RX7 7 "LeaningStreetModel" "s" "[I", .methodLink RX7 75 yX7_of, .instanceMethod yX7_of, .selects RX7 yX7_of yX7_of, .initialized RX7, .code yX7_of cX7_of 3 (some .int)] ++ wsX70)
def wsX7_looseOnes_r1 : List Cond := [Cond.fieldLink RX7 7 "LeaningStreetModel" "s" "[I", Cond.methodLink RX7 119 yX7_stands, Cond.instanceMethod yX7_stands, Cond.selects RX7 yX7_stands yX7_stands, Cond.initialized RX7, Cond.code yX7_stands cX7_stands 2 (some .boolean), Cond.methodLink RX7 75 yX7_of, Cond.instanceMethod yX7_of, Cond.selects RX7 yX7_of yX7_of, Cond.code yX7_of cX7_of 3 (some .int), Cond.methodLink RX7 139 yX7_thrust, Cond.instanceMethod yX7_thrust, Cond.selects RX7 yX7_thrust yX7_thrust, Cond.code yX7_thrust cX7_thrust 6 (some .int), Cond.methodLink RX7 123 yX7_allStanding, Cond.instanceMethod yX7_allStanding, Cond.selects RX7 yX7_allStanding yX7_allStanding, Cond.code yX7_allStanding cX7_allStanding 3 (some .int), Cond.methodLink RX7 127 yX7_nextOf, Cond.instanceMethod yX7_nextOf, Cond.selects RX7 yX7_nextOf yX7_nextOf, Cond.code yX7_nextOf cX7_nextOf 5 (some .int), Cond.methodLink RX7 130 yX7_pushes, Cond.instanceMethod yX7_pushes]
def wsX7_looseOnes_r2 : List Cond := [Cond.selects RX7 yX7_pushes yX7_pushes, Cond.code yX7_pushes cX7_pushes 5 (some .int), Cond.fieldLink RX7 55 "LeaningStreetModel" "named" "[I", Cond.methodLink RX7 106 yX7_off, Cond.static yX7_off, Cond.code yX7_off cX7_off 2 (some .int), Cond.methodLink RX7 109 yX7_counts, Cond.instanceMethod yX7_counts, Cond.selects RX7 yX7_counts yX7_counts, Cond.code yX7_counts cX7_counts 4 (some .int), Cond.methodLink RX7 283 yX7_textAt, Cond.instanceMethod yX7_textAt, Cond.selects RX7 yX7_textAt yX7_textAt, Cond.code yX7_textAt cX7_textAt 2 (some .int), Cond.methodLink RX7 113 yX7_worked, Cond.instanceMethod yX7_worked, Cond.selects RX7 yX7_worked yX7_worked, Cond.code yX7_worked cX7_worked 6 (some .int), Cond.fieldLink RX7 58 "LeaningStreetModel" "pile" "[I", Cond.methodLink RX7 297 yX7_joined, Cond.static yX7_joined, Cond.code yX7_joined cX7_joined 3 (some .int), Cond.methodLink RX7 116 yX7_held, Cond.static yX7_held]
def wsX7_looseOnes_r3 : List Cond := [Cond.code yX7_held cX7_held 3 (some .int), Cond.methodLink RX7 136 yX7_bears, Cond.instanceMethod yX7_bears, Cond.selects RX7 yX7_bears yX7_bears, Cond.code yX7_bears cX7_bears 3 (some .int)]
def wsX7_looseOnes : List Cond := .code yX7_looseOnes cX7_looseOnes 3 (some .int) :: ((wsX7_looseOnes_r1 ++ (wsX7_looseOnes_r2 ++ wsX7_looseOnes_r3)) ++ wsX70)
def wsX7_street_r1 : List Cond := [Cond.fieldLink RX7 7 "LeaningStreetModel" "s" "[I", Cond.constant RX7 100 (-1000000001), Cond.methodLink RX7 123 yX7_allStanding, Cond.instanceMethod yX7_allStanding, Cond.selects RX7 yX7_allStanding yX7_allStanding, Cond.initialized RX7, Cond.code yX7_allStanding cX7_allStanding 3 (some .int), Cond.methodLink RX7 119 yX7_stands, Cond.instanceMethod yX7_stands, Cond.selects RX7 yX7_stands yX7_stands, Cond.code yX7_stands cX7_stands 2 (some .boolean), Cond.methodLink RX7 75 yX7_of, Cond.instanceMethod yX7_of, Cond.selects RX7 yX7_of yX7_of, Cond.code yX7_of cX7_of 3 (some .int), Cond.methodLink RX7 175 yX7_allOf, Cond.instanceMethod yX7_allOf, Cond.selects RX7 yX7_allOf yX7_allOf, Cond.code yX7_allOf cX7_allOf 4 (some .int), Cond.methodLink RX7 178 yX7_looseOnes, Cond.instanceMethod yX7_looseOnes, Cond.selects RX7 yX7_looseOnes yX7_looseOnes, Cond.code yX7_looseOnes cX7_looseOnes 3 (some .int), Cond.methodLink RX7 139 yX7_thrust]
def wsX7_street_r2 : List Cond := [Cond.instanceMethod yX7_thrust, Cond.selects RX7 yX7_thrust yX7_thrust, Cond.code yX7_thrust cX7_thrust 6 (some .int), Cond.methodLink RX7 127 yX7_nextOf, Cond.instanceMethod yX7_nextOf, Cond.selects RX7 yX7_nextOf yX7_nextOf, Cond.code yX7_nextOf cX7_nextOf 5 (some .int), Cond.methodLink RX7 130 yX7_pushes, Cond.instanceMethod yX7_pushes, Cond.selects RX7 yX7_pushes yX7_pushes, Cond.code yX7_pushes cX7_pushes 5 (some .int), Cond.fieldLink RX7 55 "LeaningStreetModel" "named" "[I", Cond.methodLink RX7 106 yX7_off, Cond.static yX7_off, Cond.code yX7_off cX7_off 2 (some .int), Cond.methodLink RX7 109 yX7_counts, Cond.instanceMethod yX7_counts, Cond.selects RX7 yX7_counts yX7_counts, Cond.code yX7_counts cX7_counts 4 (some .int), Cond.methodLink RX7 283 yX7_textAt, Cond.instanceMethod yX7_textAt, Cond.selects RX7 yX7_textAt yX7_textAt, Cond.code yX7_textAt cX7_textAt 2 (some .int), Cond.methodLink RX7 113 yX7_worked]
def wsX7_street_r3 : List Cond := [Cond.instanceMethod yX7_worked, Cond.selects RX7 yX7_worked yX7_worked, Cond.code yX7_worked cX7_worked 6 (some .int), Cond.fieldLink RX7 58 "LeaningStreetModel" "pile" "[I", Cond.methodLink RX7 297 yX7_joined, Cond.static yX7_joined, Cond.code yX7_joined cX7_joined 3 (some .int), Cond.methodLink RX7 116 yX7_held, Cond.static yX7_held, Cond.code yX7_held cX7_held 3 (some .int), Cond.methodLink RX7 136 yX7_bears, Cond.instanceMethod yX7_bears, Cond.selects RX7 yX7_bears yX7_bears, Cond.code yX7_bears cX7_bears 3 (some .int)]
def wsX7_street : List Cond := .code yX7_street cX7_street 2 (some .int) :: ((wsX7_street_r1 ++ (wsX7_street_r2 ++ wsX7_street_r3)) ++ wsX70)
def wsX7_laysBy : List Cond := .code yX7_laysBy cX7_laysBy 2 none :: ([.fieldLink RX7 49 "LeaningStreetModel" "close" "[I", .fieldLink RX7 7 "LeaningStreetModel" "s" "[I"] ++ wsX70)
def wsX7_laysBack : List Cond := .code yX7_laysBack cX7_laysBack 2 none :: ([.fieldLink RX7 7 "LeaningStreetModel" "s" "[I", .fieldLink RX7 49 "LeaningStreetModel" "close" "[I"] ++ wsX70)
def wsX7_goesOnMany_r1 : List Cond := [Cond.methodLink RX7 172 yX7_goesOn, Cond.instanceMethod yX7_goesOn, Cond.selects RX7 yX7_goesOn yX7_goesOn, Cond.initialized RX7, Cond.code yX7_goesOn cX7_goesOn 5 none, Cond.fieldLink RX7 7 "LeaningStreetModel" "s" "[I", Cond.fieldLink RX7 43 "LeaningStreetModel" "thrusts" "[I", Cond.fieldLink RX7 46 "LeaningStreetModel" "borne" "[I", Cond.methodLink RX7 123 yX7_allStanding, Cond.instanceMethod yX7_allStanding, Cond.selects RX7 yX7_allStanding yX7_allStanding, Cond.code yX7_allStanding cX7_allStanding 3 (some .int), Cond.methodLink RX7 119 yX7_stands, Cond.instanceMethod yX7_stands, Cond.selects RX7 yX7_stands yX7_stands, Cond.code yX7_stands cX7_stands 2 (some .boolean), Cond.methodLink RX7 75 yX7_of, Cond.instanceMethod yX7_of, Cond.selects RX7 yX7_of yX7_of, Cond.code yX7_of cX7_of 3 (some .int), Cond.methodLink RX7 139 yX7_thrust, Cond.instanceMethod yX7_thrust, Cond.selects RX7 yX7_thrust yX7_thrust, Cond.code yX7_thrust cX7_thrust 6 (some .int)]
def wsX7_goesOnMany_r2 : List Cond := [Cond.methodLink RX7 127 yX7_nextOf, Cond.instanceMethod yX7_nextOf, Cond.selects RX7 yX7_nextOf yX7_nextOf, Cond.code yX7_nextOf cX7_nextOf 5 (some .int), Cond.methodLink RX7 130 yX7_pushes, Cond.instanceMethod yX7_pushes, Cond.selects RX7 yX7_pushes yX7_pushes, Cond.code yX7_pushes cX7_pushes 5 (some .int), Cond.fieldLink RX7 55 "LeaningStreetModel" "named" "[I", Cond.methodLink RX7 106 yX7_off, Cond.static yX7_off, Cond.code yX7_off cX7_off 2 (some .int), Cond.methodLink RX7 109 yX7_counts, Cond.instanceMethod yX7_counts, Cond.selects RX7 yX7_counts yX7_counts, Cond.code yX7_counts cX7_counts 4 (some .int), Cond.methodLink RX7 283 yX7_textAt, Cond.instanceMethod yX7_textAt, Cond.selects RX7 yX7_textAt yX7_textAt, Cond.code yX7_textAt cX7_textAt 2 (some .int), Cond.methodLink RX7 113 yX7_worked, Cond.instanceMethod yX7_worked, Cond.selects RX7 yX7_worked yX7_worked, Cond.code yX7_worked cX7_worked 6 (some .int)]
def wsX7_goesOnMany_r3 : List Cond := [Cond.fieldLink RX7 58 "LeaningStreetModel" "pile" "[I", Cond.methodLink RX7 297 yX7_joined, Cond.static yX7_joined, Cond.code yX7_joined cX7_joined 3 (some .int), Cond.methodLink RX7 116 yX7_held, Cond.static yX7_held, Cond.code yX7_held cX7_held 3 (some .int), Cond.methodLink RX7 136 yX7_bears, Cond.instanceMethod yX7_bears, Cond.selects RX7 yX7_bears yX7_bears, Cond.code yX7_bears cX7_bears 3 (some .int), Cond.methodLink RX7 80 yX7_sets, Cond.instanceMethod yX7_sets, Cond.selects RX7 yX7_sets yX7_sets, Cond.code yX7_sets cX7_sets 4 none, Cond.methodLink RX7 153 yX7_falls, Cond.instanceMethod yX7_falls, Cond.selects RX7 yX7_falls yX7_falls, Cond.code yX7_falls cX7_falls 2 none, Cond.methodLink RX7 167 yX7_fallsWith, Cond.instanceMethod yX7_fallsWith, Cond.selects RX7 yX7_fallsWith yX7_fallsWith, Cond.code yX7_fallsWith cX7_fallsWith 5 (some .boolean)]
def wsX7_goesOnMany : List Cond := .code yX7_goesOnMany cX7_goesOnMany 3 none :: ((wsX7_goesOnMany_r1 ++ (wsX7_goesOnMany_r2 ++ wsX7_goesOnMany_r3)) ++ wsX70)
def wsX7_behind_r1 : List Cond := [Cond.constantLong RX7 170 (100), Cond.fieldLink RX7 7 "LeaningStreetModel" "s" "[I", Cond.constant RX7 100 (-1000000001), Cond.methodLink RX7 71 yX7_isIn, Cond.static yX7_isIn, Cond.initialized RX7, Cond.code yX7_isIn cX7_isIn 6 (some .boolean), Cond.methodLink RX7 181 yX7_laysBy, Cond.instanceMethod yX7_laysBy, Cond.selects RX7 yX7_laysBy yX7_laysBy, Cond.code yX7_laysBy cX7_laysBy 2 none, Cond.fieldLink RX7 49 "LeaningStreetModel" "close" "[I", Cond.methodLink RX7 184 yX7_goesOnMany, Cond.instanceMethod yX7_goesOnMany, Cond.selects RX7 yX7_goesOnMany yX7_goesOnMany, Cond.code yX7_goesOnMany cX7_goesOnMany 3 none, Cond.methodLink RX7 172 yX7_goesOn, Cond.instanceMethod yX7_goesOn, Cond.selects RX7 yX7_goesOn yX7_goesOn, Cond.code yX7_goesOn cX7_goesOn 5 none, Cond.fieldLink RX7 43 "LeaningStreetModel" "thrusts" "[I", Cond.fieldLink RX7 46 "LeaningStreetModel" "borne" "[I", Cond.methodLink RX7 123 yX7_allStanding, Cond.instanceMethod yX7_allStanding]
def wsX7_behind_r2 : List Cond := [Cond.selects RX7 yX7_allStanding yX7_allStanding, Cond.code yX7_allStanding cX7_allStanding 3 (some .int), Cond.methodLink RX7 119 yX7_stands, Cond.instanceMethod yX7_stands, Cond.selects RX7 yX7_stands yX7_stands, Cond.code yX7_stands cX7_stands 2 (some .boolean), Cond.methodLink RX7 75 yX7_of, Cond.instanceMethod yX7_of, Cond.selects RX7 yX7_of yX7_of, Cond.code yX7_of cX7_of 3 (some .int), Cond.methodLink RX7 139 yX7_thrust, Cond.instanceMethod yX7_thrust, Cond.selects RX7 yX7_thrust yX7_thrust, Cond.code yX7_thrust cX7_thrust 6 (some .int), Cond.methodLink RX7 127 yX7_nextOf, Cond.instanceMethod yX7_nextOf, Cond.selects RX7 yX7_nextOf yX7_nextOf, Cond.code yX7_nextOf cX7_nextOf 5 (some .int), Cond.methodLink RX7 130 yX7_pushes, Cond.instanceMethod yX7_pushes, Cond.selects RX7 yX7_pushes yX7_pushes, Cond.code yX7_pushes cX7_pushes 5 (some .int), Cond.fieldLink RX7 55 "LeaningStreetModel" "named" "[I", Cond.methodLink RX7 106 yX7_off]
def wsX7_behind_r3 : List Cond := [Cond.static yX7_off, Cond.code yX7_off cX7_off 2 (some .int), Cond.methodLink RX7 109 yX7_counts, Cond.instanceMethod yX7_counts, Cond.selects RX7 yX7_counts yX7_counts, Cond.code yX7_counts cX7_counts 4 (some .int), Cond.methodLink RX7 283 yX7_textAt, Cond.instanceMethod yX7_textAt, Cond.selects RX7 yX7_textAt yX7_textAt, Cond.code yX7_textAt cX7_textAt 2 (some .int), Cond.methodLink RX7 113 yX7_worked, Cond.instanceMethod yX7_worked, Cond.selects RX7 yX7_worked yX7_worked, Cond.code yX7_worked cX7_worked 6 (some .int), Cond.fieldLink RX7 58 "LeaningStreetModel" "pile" "[I", Cond.methodLink RX7 297 yX7_joined, Cond.static yX7_joined, Cond.code yX7_joined cX7_joined 3 (some .int), Cond.methodLink RX7 116 yX7_held, Cond.static yX7_held, Cond.code yX7_held cX7_held 3 (some .int), Cond.methodLink RX7 136 yX7_bears, Cond.instanceMethod yX7_bears, Cond.selects RX7 yX7_bears yX7_bears]
def wsX7_behind_r4 : List Cond := [Cond.code yX7_bears cX7_bears 3 (some .int), Cond.methodLink RX7 80 yX7_sets, Cond.instanceMethod yX7_sets, Cond.selects RX7 yX7_sets yX7_sets, Cond.code yX7_sets cX7_sets 4 none, Cond.methodLink RX7 153 yX7_falls, Cond.instanceMethod yX7_falls, Cond.selects RX7 yX7_falls yX7_falls, Cond.code yX7_falls cX7_falls 2 none, Cond.methodLink RX7 167 yX7_fallsWith, Cond.instanceMethod yX7_fallsWith, Cond.selects RX7 yX7_fallsWith yX7_fallsWith, Cond.code yX7_fallsWith cX7_fallsWith 5 (some .boolean), Cond.methodLink RX7 175 yX7_allOf, Cond.instanceMethod yX7_allOf, Cond.selects RX7 yX7_allOf yX7_allOf, Cond.code yX7_allOf cX7_allOf 4 (some .int), Cond.methodLink RX7 187 yX7_laysBack, Cond.instanceMethod yX7_laysBack, Cond.selects RX7 yX7_laysBack yX7_laysBack, Cond.code yX7_laysBack cX7_laysBack 2 none]
def wsX7_behind : List Cond := .code yX7_behind cX7_behind 4 (some .int) :: ((wsX7_behind_r1 ++ (wsX7_behind_r2 ++ (wsX7_behind_r3 ++ wsX7_behind_r4))) ++ wsX70)
def wsX7_lasts_r1 : List Cond := [Cond.methodLink RX7 181 yX7_laysBy, Cond.instanceMethod yX7_laysBy, Cond.selects RX7 yX7_laysBy yX7_laysBy, Cond.initialized RX7, Cond.code yX7_laysBy cX7_laysBy 2 none, Cond.fieldLink RX7 49 "LeaningStreetModel" "close" "[I", Cond.fieldLink RX7 7 "LeaningStreetModel" "s" "[I", Cond.methodLink RX7 123 yX7_allStanding, Cond.instanceMethod yX7_allStanding, Cond.selects RX7 yX7_allStanding yX7_allStanding, Cond.code yX7_allStanding cX7_allStanding 3 (some .int), Cond.methodLink RX7 119 yX7_stands, Cond.instanceMethod yX7_stands, Cond.selects RX7 yX7_stands yX7_stands, Cond.code yX7_stands cX7_stands 2 (some .boolean), Cond.methodLink RX7 75 yX7_of, Cond.instanceMethod yX7_of, Cond.selects RX7 yX7_of yX7_of, Cond.code yX7_of cX7_of 3 (some .int), Cond.methodLink RX7 172 yX7_goesOn, Cond.instanceMethod yX7_goesOn, Cond.selects RX7 yX7_goesOn yX7_goesOn, Cond.code yX7_goesOn cX7_goesOn 5 none, Cond.fieldLink RX7 43 "LeaningStreetModel" "thrusts" "[I"]
def wsX7_lasts_r2 : List Cond := [Cond.fieldLink RX7 46 "LeaningStreetModel" "borne" "[I", Cond.methodLink RX7 139 yX7_thrust, Cond.instanceMethod yX7_thrust, Cond.selects RX7 yX7_thrust yX7_thrust, Cond.code yX7_thrust cX7_thrust 6 (some .int), Cond.methodLink RX7 127 yX7_nextOf, Cond.instanceMethod yX7_nextOf, Cond.selects RX7 yX7_nextOf yX7_nextOf, Cond.code yX7_nextOf cX7_nextOf 5 (some .int), Cond.methodLink RX7 130 yX7_pushes, Cond.instanceMethod yX7_pushes, Cond.selects RX7 yX7_pushes yX7_pushes, Cond.code yX7_pushes cX7_pushes 5 (some .int), Cond.fieldLink RX7 55 "LeaningStreetModel" "named" "[I", Cond.methodLink RX7 106 yX7_off, Cond.static yX7_off, Cond.code yX7_off cX7_off 2 (some .int), Cond.methodLink RX7 109 yX7_counts, Cond.instanceMethod yX7_counts, Cond.selects RX7 yX7_counts yX7_counts, Cond.code yX7_counts cX7_counts 4 (some .int), Cond.methodLink RX7 283 yX7_textAt, Cond.instanceMethod yX7_textAt, Cond.selects RX7 yX7_textAt yX7_textAt]
def wsX7_lasts_r3 : List Cond := [Cond.code yX7_textAt cX7_textAt 2 (some .int), Cond.methodLink RX7 113 yX7_worked, Cond.instanceMethod yX7_worked, Cond.selects RX7 yX7_worked yX7_worked, Cond.code yX7_worked cX7_worked 6 (some .int), Cond.fieldLink RX7 58 "LeaningStreetModel" "pile" "[I", Cond.methodLink RX7 297 yX7_joined, Cond.static yX7_joined, Cond.code yX7_joined cX7_joined 3 (some .int), Cond.methodLink RX7 116 yX7_held, Cond.static yX7_held, Cond.code yX7_held cX7_held 3 (some .int), Cond.methodLink RX7 136 yX7_bears, Cond.instanceMethod yX7_bears, Cond.selects RX7 yX7_bears yX7_bears, Cond.code yX7_bears cX7_bears 3 (some .int), Cond.methodLink RX7 80 yX7_sets, Cond.instanceMethod yX7_sets, Cond.selects RX7 yX7_sets yX7_sets, Cond.code yX7_sets cX7_sets 4 none, Cond.methodLink RX7 153 yX7_falls, Cond.instanceMethod yX7_falls, Cond.selects RX7 yX7_falls yX7_falls, Cond.code yX7_falls cX7_falls 2 none]
def wsX7_lasts_r4 : List Cond := [Cond.methodLink RX7 167 yX7_fallsWith, Cond.instanceMethod yX7_fallsWith, Cond.selects RX7 yX7_fallsWith yX7_fallsWith, Cond.code yX7_fallsWith cX7_fallsWith 5 (some .boolean), Cond.methodLink RX7 187 yX7_laysBack, Cond.instanceMethod yX7_laysBack, Cond.selects RX7 yX7_laysBack yX7_laysBack, Cond.code yX7_laysBack cX7_laysBack 2 none, Cond.methodLink RX7 190 yX7_orNone, Cond.static yX7_orNone, Cond.code yX7_orNone cX7_orNone 1 (some .int), Cond.constant RX7 70 (-1000000005)]
def wsX7_lasts : List Cond := .code yX7_lasts cX7_lasts 4 (some .int) :: ((wsX7_lasts_r1 ++ (wsX7_lasts_r2 ++ (wsX7_lasts_r3 ++ wsX7_lasts_r4))) ++ wsX70)
def wsX7_taken_r1 : List Cond := [Cond.constantLong RX7 193 (60), Cond.constant RX7 100 (-1000000001), Cond.constant RX7 152 (-1000000002), Cond.methodLink RX7 133 yX7_isHouse, Cond.instanceMethod yX7_isHouse, Cond.selects RX7 yX7_isHouse yX7_isHouse, Cond.initialized RX7, Cond.code yX7_isHouse cX7_isHouse 2 (some .boolean), Cond.fieldLink RX7 7 "LeaningStreetModel" "s" "[I", Cond.methodLink RX7 71 yX7_isIn, Cond.static yX7_isIn, Cond.code yX7_isIn cX7_isIn 6 (some .boolean), Cond.methodLink RX7 119 yX7_stands, Cond.instanceMethod yX7_stands, Cond.selects RX7 yX7_stands yX7_stands, Cond.code yX7_stands cX7_stands 2 (some .boolean), Cond.methodLink RX7 75 yX7_of, Cond.instanceMethod yX7_of, Cond.selects RX7 yX7_of yX7_of, Cond.code yX7_of cX7_of 3 (some .int), Cond.methodLink RX7 181 yX7_laysBy, Cond.instanceMethod yX7_laysBy, Cond.selects RX7 yX7_laysBy yX7_laysBy, Cond.code yX7_laysBy cX7_laysBy 2 none]
def wsX7_taken_r2 : List Cond := [Cond.fieldLink RX7 49 "LeaningStreetModel" "close" "[I", Cond.methodLink RX7 184 yX7_goesOnMany, Cond.instanceMethod yX7_goesOnMany, Cond.selects RX7 yX7_goesOnMany yX7_goesOnMany, Cond.code yX7_goesOnMany cX7_goesOnMany 3 none, Cond.methodLink RX7 172 yX7_goesOn, Cond.instanceMethod yX7_goesOn, Cond.selects RX7 yX7_goesOn yX7_goesOn, Cond.code yX7_goesOn cX7_goesOn 5 none, Cond.fieldLink RX7 43 "LeaningStreetModel" "thrusts" "[I", Cond.fieldLink RX7 46 "LeaningStreetModel" "borne" "[I", Cond.methodLink RX7 123 yX7_allStanding, Cond.instanceMethod yX7_allStanding, Cond.selects RX7 yX7_allStanding yX7_allStanding, Cond.code yX7_allStanding cX7_allStanding 3 (some .int), Cond.methodLink RX7 139 yX7_thrust, Cond.instanceMethod yX7_thrust, Cond.selects RX7 yX7_thrust yX7_thrust, Cond.code yX7_thrust cX7_thrust 6 (some .int), Cond.methodLink RX7 127 yX7_nextOf, Cond.instanceMethod yX7_nextOf, Cond.selects RX7 yX7_nextOf yX7_nextOf, Cond.code yX7_nextOf cX7_nextOf 5 (some .int), Cond.methodLink RX7 130 yX7_pushes]
def wsX7_taken_r3 : List Cond := [Cond.instanceMethod yX7_pushes, Cond.selects RX7 yX7_pushes yX7_pushes, Cond.code yX7_pushes cX7_pushes 5 (some .int), Cond.fieldLink RX7 55 "LeaningStreetModel" "named" "[I", Cond.methodLink RX7 106 yX7_off, Cond.static yX7_off, Cond.code yX7_off cX7_off 2 (some .int), Cond.methodLink RX7 109 yX7_counts, Cond.instanceMethod yX7_counts, Cond.selects RX7 yX7_counts yX7_counts, Cond.code yX7_counts cX7_counts 4 (some .int), Cond.methodLink RX7 283 yX7_textAt, Cond.instanceMethod yX7_textAt, Cond.selects RX7 yX7_textAt yX7_textAt, Cond.code yX7_textAt cX7_textAt 2 (some .int), Cond.methodLink RX7 113 yX7_worked, Cond.instanceMethod yX7_worked, Cond.selects RX7 yX7_worked yX7_worked, Cond.code yX7_worked cX7_worked 6 (some .int), Cond.fieldLink RX7 58 "LeaningStreetModel" "pile" "[I", Cond.methodLink RX7 297 yX7_joined, Cond.static yX7_joined, Cond.code yX7_joined cX7_joined 3 (some .int), Cond.methodLink RX7 116 yX7_held]
def wsX7_taken_r4 : List Cond := [Cond.static yX7_held, Cond.code yX7_held cX7_held 3 (some .int), Cond.methodLink RX7 136 yX7_bears, Cond.instanceMethod yX7_bears, Cond.selects RX7 yX7_bears yX7_bears, Cond.code yX7_bears cX7_bears 3 (some .int), Cond.methodLink RX7 80 yX7_sets, Cond.instanceMethod yX7_sets, Cond.selects RX7 yX7_sets yX7_sets, Cond.code yX7_sets cX7_sets 4 none, Cond.methodLink RX7 153 yX7_falls, Cond.instanceMethod yX7_falls, Cond.selects RX7 yX7_falls yX7_falls, Cond.code yX7_falls cX7_falls 2 none, Cond.methodLink RX7 167 yX7_fallsWith, Cond.instanceMethod yX7_fallsWith, Cond.selects RX7 yX7_fallsWith yX7_fallsWith, Cond.code yX7_fallsWith cX7_fallsWith 5 (some .boolean), Cond.methodLink RX7 187 yX7_laysBack, Cond.instanceMethod yX7_laysBack, Cond.selects RX7 yX7_laysBack yX7_laysBack, Cond.code yX7_laysBack cX7_laysBack 2 none]
def wsX7_taken : List Cond := .code yX7_taken cX7_taken 5 (some .int) :: ((wsX7_taken_r1 ++ (wsX7_taken_r2 ++ (wsX7_taken_r3 ++ wsX7_taken_r4))) ++ wsX70)
def wsX7_keeps_r1 : List Cond := [Cond.methodLink RX7 123 yX7_allStanding, Cond.instanceMethod yX7_allStanding, Cond.selects RX7 yX7_allStanding yX7_allStanding, Cond.initialized RX7, Cond.code yX7_allStanding cX7_allStanding 3 (some .int), Cond.fieldLink RX7 7 "LeaningStreetModel" "s" "[I", Cond.methodLink RX7 119 yX7_stands, Cond.instanceMethod yX7_stands, Cond.selects RX7 yX7_stands yX7_stands, Cond.code yX7_stands cX7_stands 2 (some .boolean), Cond.methodLink RX7 75 yX7_of, Cond.instanceMethod yX7_of, Cond.selects RX7 yX7_of yX7_of, Cond.code yX7_of cX7_of 3 (some .int), Cond.methodLink RX7 184 yX7_goesOnMany, Cond.instanceMethod yX7_goesOnMany, Cond.selects RX7 yX7_goesOnMany yX7_goesOnMany, Cond.code yX7_goesOnMany cX7_goesOnMany 3 none, Cond.methodLink RX7 172 yX7_goesOn, Cond.instanceMethod yX7_goesOn, Cond.selects RX7 yX7_goesOn yX7_goesOn, Cond.code yX7_goesOn cX7_goesOn 5 none, Cond.fieldLink RX7 43 "LeaningStreetModel" "thrusts" "[I", Cond.fieldLink RX7 46 "LeaningStreetModel" "borne" "[I"]
def wsX7_keeps_r2 : List Cond := [Cond.methodLink RX7 139 yX7_thrust, Cond.instanceMethod yX7_thrust, Cond.selects RX7 yX7_thrust yX7_thrust, Cond.code yX7_thrust cX7_thrust 6 (some .int), Cond.methodLink RX7 127 yX7_nextOf, Cond.instanceMethod yX7_nextOf, Cond.selects RX7 yX7_nextOf yX7_nextOf, Cond.code yX7_nextOf cX7_nextOf 5 (some .int), Cond.methodLink RX7 130 yX7_pushes, Cond.instanceMethod yX7_pushes, Cond.selects RX7 yX7_pushes yX7_pushes, Cond.code yX7_pushes cX7_pushes 5 (some .int), Cond.fieldLink RX7 55 "LeaningStreetModel" "named" "[I", Cond.methodLink RX7 106 yX7_off, Cond.static yX7_off, Cond.code yX7_off cX7_off 2 (some .int), Cond.methodLink RX7 109 yX7_counts, Cond.instanceMethod yX7_counts, Cond.selects RX7 yX7_counts yX7_counts, Cond.code yX7_counts cX7_counts 4 (some .int), Cond.methodLink RX7 283 yX7_textAt, Cond.instanceMethod yX7_textAt, Cond.selects RX7 yX7_textAt yX7_textAt, Cond.code yX7_textAt cX7_textAt 2 (some .int)]
def wsX7_keeps_r3 : List Cond := [Cond.methodLink RX7 113 yX7_worked, Cond.instanceMethod yX7_worked, Cond.selects RX7 yX7_worked yX7_worked, Cond.code yX7_worked cX7_worked 6 (some .int), Cond.fieldLink RX7 58 "LeaningStreetModel" "pile" "[I", Cond.methodLink RX7 297 yX7_joined, Cond.static yX7_joined, Cond.code yX7_joined cX7_joined 3 (some .int), Cond.methodLink RX7 116 yX7_held, Cond.static yX7_held, Cond.code yX7_held cX7_held 3 (some .int), Cond.methodLink RX7 136 yX7_bears, Cond.instanceMethod yX7_bears, Cond.selects RX7 yX7_bears yX7_bears, Cond.code yX7_bears cX7_bears 3 (some .int), Cond.methodLink RX7 80 yX7_sets, Cond.instanceMethod yX7_sets, Cond.selects RX7 yX7_sets yX7_sets, Cond.code yX7_sets cX7_sets 4 none, Cond.methodLink RX7 153 yX7_falls, Cond.instanceMethod yX7_falls, Cond.selects RX7 yX7_falls yX7_falls, Cond.code yX7_falls cX7_falls 2 none, Cond.methodLink RX7 167 yX7_fallsWith]
def wsX7_keeps_r4 : List Cond := [Cond.instanceMethod yX7_fallsWith, Cond.selects RX7 yX7_fallsWith yX7_fallsWith, Cond.code yX7_fallsWith cX7_fallsWith 5 (some .boolean), Cond.methodLink RX7 187 yX7_laysBack, Cond.instanceMethod yX7_laysBack, Cond.selects RX7 yX7_laysBack yX7_laysBack, Cond.code yX7_laysBack cX7_laysBack 2 none, Cond.fieldLink RX7 49 "LeaningStreetModel" "close" "[I"]
def wsX7_keeps : List Cond := .code yX7_keeps cX7_keeps 4 (some .boolean) :: ((wsX7_keeps_r1 ++ (wsX7_keeps_r2 ++ (wsX7_keeps_r3 ++ wsX7_keeps_r4))) ++ wsX70)
def wsX7_propped_r1 : List Cond := [Cond.constantLong RX7 195 (40), Cond.constant RX7 100 (-1000000001), Cond.fieldLink RX7 7 "LeaningStreetModel" "s" "[I", Cond.constant RX7 70 (-1000000005), Cond.methodLink RX7 71 yX7_isIn, Cond.static yX7_isIn, Cond.initialized RX7, Cond.code yX7_isIn cX7_isIn 6 (some .boolean), Cond.methodLink RX7 181 yX7_laysBy, Cond.instanceMethod yX7_laysBy, Cond.selects RX7 yX7_laysBy yX7_laysBy, Cond.code yX7_laysBy cX7_laysBy 2 none, Cond.fieldLink RX7 49 "LeaningStreetModel" "close" "[I", Cond.methodLink RX7 197 yX7_keeps, Cond.instanceMethod yX7_keeps, Cond.selects RX7 yX7_keeps yX7_keeps, Cond.code yX7_keeps cX7_keeps 4 (some .boolean), Cond.methodLink RX7 123 yX7_allStanding, Cond.instanceMethod yX7_allStanding, Cond.selects RX7 yX7_allStanding yX7_allStanding, Cond.code yX7_allStanding cX7_allStanding 3 (some .int), Cond.methodLink RX7 119 yX7_stands, Cond.instanceMethod yX7_stands, Cond.selects RX7 yX7_stands yX7_stands]
def wsX7_propped_r2 : List Cond := [Cond.code yX7_stands cX7_stands 2 (some .boolean), Cond.methodLink RX7 75 yX7_of, Cond.instanceMethod yX7_of, Cond.selects RX7 yX7_of yX7_of, Cond.code yX7_of cX7_of 3 (some .int), Cond.methodLink RX7 184 yX7_goesOnMany, Cond.instanceMethod yX7_goesOnMany, Cond.selects RX7 yX7_goesOnMany yX7_goesOnMany, Cond.code yX7_goesOnMany cX7_goesOnMany 3 none, Cond.methodLink RX7 172 yX7_goesOn, Cond.instanceMethod yX7_goesOn, Cond.selects RX7 yX7_goesOn yX7_goesOn, Cond.code yX7_goesOn cX7_goesOn 5 none, Cond.fieldLink RX7 43 "LeaningStreetModel" "thrusts" "[I", Cond.fieldLink RX7 46 "LeaningStreetModel" "borne" "[I", Cond.methodLink RX7 139 yX7_thrust, Cond.instanceMethod yX7_thrust, Cond.selects RX7 yX7_thrust yX7_thrust, Cond.code yX7_thrust cX7_thrust 6 (some .int), Cond.methodLink RX7 127 yX7_nextOf, Cond.instanceMethod yX7_nextOf, Cond.selects RX7 yX7_nextOf yX7_nextOf, Cond.code yX7_nextOf cX7_nextOf 5 (some .int), Cond.methodLink RX7 130 yX7_pushes]
def wsX7_propped_r3 : List Cond := [Cond.instanceMethod yX7_pushes, Cond.selects RX7 yX7_pushes yX7_pushes, Cond.code yX7_pushes cX7_pushes 5 (some .int), Cond.fieldLink RX7 55 "LeaningStreetModel" "named" "[I", Cond.methodLink RX7 106 yX7_off, Cond.static yX7_off, Cond.code yX7_off cX7_off 2 (some .int), Cond.methodLink RX7 109 yX7_counts, Cond.instanceMethod yX7_counts, Cond.selects RX7 yX7_counts yX7_counts, Cond.code yX7_counts cX7_counts 4 (some .int), Cond.methodLink RX7 283 yX7_textAt, Cond.instanceMethod yX7_textAt, Cond.selects RX7 yX7_textAt yX7_textAt, Cond.code yX7_textAt cX7_textAt 2 (some .int), Cond.methodLink RX7 113 yX7_worked, Cond.instanceMethod yX7_worked, Cond.selects RX7 yX7_worked yX7_worked, Cond.code yX7_worked cX7_worked 6 (some .int), Cond.fieldLink RX7 58 "LeaningStreetModel" "pile" "[I", Cond.methodLink RX7 297 yX7_joined, Cond.static yX7_joined, Cond.code yX7_joined cX7_joined 3 (some .int), Cond.methodLink RX7 116 yX7_held]
def wsX7_propped_r4 : List Cond := [Cond.static yX7_held, Cond.code yX7_held cX7_held 3 (some .int), Cond.methodLink RX7 136 yX7_bears, Cond.instanceMethod yX7_bears, Cond.selects RX7 yX7_bears yX7_bears, Cond.code yX7_bears cX7_bears 3 (some .int), Cond.methodLink RX7 80 yX7_sets, Cond.instanceMethod yX7_sets, Cond.selects RX7 yX7_sets yX7_sets, Cond.code yX7_sets cX7_sets 4 none, Cond.methodLink RX7 153 yX7_falls, Cond.instanceMethod yX7_falls, Cond.selects RX7 yX7_falls yX7_falls, Cond.code yX7_falls cX7_falls 2 none, Cond.methodLink RX7 167 yX7_fallsWith, Cond.instanceMethod yX7_fallsWith, Cond.selects RX7 yX7_fallsWith yX7_fallsWith, Cond.code yX7_fallsWith cX7_fallsWith 5 (some .boolean), Cond.methodLink RX7 187 yX7_laysBack, Cond.instanceMethod yX7_laysBack, Cond.selects RX7 yX7_laysBack yX7_laysBack, Cond.code yX7_laysBack cX7_laysBack 2 none]
def wsX7_propped : List Cond := .code yX7_propped cX7_propped 4 (some .int) :: ((wsX7_propped_r1 ++ (wsX7_propped_r2 ++ (wsX7_propped_r3 ++ wsX7_propped_r4))) ++ wsX70)
def wsX7_wall_r1 : List Cond := [Cond.constantLong RX7 193 (60), Cond.constant RX7 100 (-1000000001), Cond.fieldLink RX7 7 "LeaningStreetModel" "s" "[I", Cond.constant RX7 70 (-1000000005), Cond.methodLink RX7 71 yX7_isIn, Cond.static yX7_isIn, Cond.initialized RX7, Cond.code yX7_isIn cX7_isIn 6 (some .boolean), Cond.methodLink RX7 181 yX7_laysBy, Cond.instanceMethod yX7_laysBy, Cond.selects RX7 yX7_laysBy yX7_laysBy, Cond.code yX7_laysBy cX7_laysBy 2 none, Cond.fieldLink RX7 49 "LeaningStreetModel" "close" "[I", Cond.methodLink RX7 80 yX7_sets, Cond.instanceMethod yX7_sets, Cond.selects RX7 yX7_sets yX7_sets, Cond.code yX7_sets cX7_sets 4 none, Cond.methodLink RX7 184 yX7_goesOnMany, Cond.instanceMethod yX7_goesOnMany, Cond.selects RX7 yX7_goesOnMany yX7_goesOnMany, Cond.code yX7_goesOnMany cX7_goesOnMany 3 none, Cond.methodLink RX7 172 yX7_goesOn, Cond.instanceMethod yX7_goesOn, Cond.selects RX7 yX7_goesOn yX7_goesOn]
def wsX7_wall_r2 : List Cond := [Cond.code yX7_goesOn cX7_goesOn 5 none, Cond.fieldLink RX7 43 "LeaningStreetModel" "thrusts" "[I", Cond.fieldLink RX7 46 "LeaningStreetModel" "borne" "[I", Cond.methodLink RX7 123 yX7_allStanding, Cond.instanceMethod yX7_allStanding, Cond.selects RX7 yX7_allStanding yX7_allStanding, Cond.code yX7_allStanding cX7_allStanding 3 (some .int), Cond.methodLink RX7 119 yX7_stands, Cond.instanceMethod yX7_stands, Cond.selects RX7 yX7_stands yX7_stands, Cond.code yX7_stands cX7_stands 2 (some .boolean), Cond.methodLink RX7 75 yX7_of, Cond.instanceMethod yX7_of, Cond.selects RX7 yX7_of yX7_of, Cond.code yX7_of cX7_of 3 (some .int), Cond.methodLink RX7 139 yX7_thrust, Cond.instanceMethod yX7_thrust, Cond.selects RX7 yX7_thrust yX7_thrust, Cond.code yX7_thrust cX7_thrust 6 (some .int), Cond.methodLink RX7 127 yX7_nextOf, Cond.instanceMethod yX7_nextOf, Cond.selects RX7 yX7_nextOf yX7_nextOf, Cond.code yX7_nextOf cX7_nextOf 5 (some .int), Cond.methodLink RX7 130 yX7_pushes]
def wsX7_wall_r3 : List Cond := [Cond.instanceMethod yX7_pushes, Cond.selects RX7 yX7_pushes yX7_pushes, Cond.code yX7_pushes cX7_pushes 5 (some .int), Cond.fieldLink RX7 55 "LeaningStreetModel" "named" "[I", Cond.methodLink RX7 106 yX7_off, Cond.static yX7_off, Cond.code yX7_off cX7_off 2 (some .int), Cond.methodLink RX7 109 yX7_counts, Cond.instanceMethod yX7_counts, Cond.selects RX7 yX7_counts yX7_counts, Cond.code yX7_counts cX7_counts 4 (some .int), Cond.methodLink RX7 283 yX7_textAt, Cond.instanceMethod yX7_textAt, Cond.selects RX7 yX7_textAt yX7_textAt, Cond.code yX7_textAt cX7_textAt 2 (some .int), Cond.methodLink RX7 113 yX7_worked, Cond.instanceMethod yX7_worked, Cond.selects RX7 yX7_worked yX7_worked, Cond.code yX7_worked cX7_worked 6 (some .int), Cond.fieldLink RX7 58 "LeaningStreetModel" "pile" "[I", Cond.methodLink RX7 297 yX7_joined, Cond.static yX7_joined, Cond.code yX7_joined cX7_joined 3 (some .int), Cond.methodLink RX7 116 yX7_held]
def wsX7_wall_r4 : List Cond := [Cond.static yX7_held, Cond.code yX7_held cX7_held 3 (some .int), Cond.methodLink RX7 136 yX7_bears, Cond.instanceMethod yX7_bears, Cond.selects RX7 yX7_bears yX7_bears, Cond.code yX7_bears cX7_bears 3 (some .int), Cond.methodLink RX7 153 yX7_falls, Cond.instanceMethod yX7_falls, Cond.selects RX7 yX7_falls yX7_falls, Cond.code yX7_falls cX7_falls 2 none, Cond.methodLink RX7 167 yX7_fallsWith, Cond.instanceMethod yX7_fallsWith, Cond.selects RX7 yX7_fallsWith yX7_fallsWith, Cond.code yX7_fallsWith cX7_fallsWith 5 (some .boolean), Cond.methodLink RX7 175 yX7_allOf, Cond.instanceMethod yX7_allOf, Cond.selects RX7 yX7_allOf yX7_allOf, Cond.code yX7_allOf cX7_allOf 4 (some .int), Cond.methodLink RX7 187 yX7_laysBack, Cond.instanceMethod yX7_laysBack, Cond.selects RX7 yX7_laysBack yX7_laysBack, Cond.code yX7_laysBack cX7_laysBack 2 none]
def wsX7_wall : List Cond := .code yX7_wall cX7_wall 7 (some .int) :: ((wsX7_wall_r1 ++ (wsX7_wall_r2 ++ (wsX7_wall_r3 ++ wsX7_wall_r4))) ++ wsX70)
def wsX7_snows_r1 : List Cond := [Cond.constantLong RX7 193 (60), Cond.constant RX7 100 (-1000000001), Cond.fieldLink RX7 7 "LeaningStreetModel" "s" "[I", Cond.constant RX7 70 (-1000000005), Cond.methodLink RX7 71 yX7_isIn, Cond.static yX7_isIn, Cond.initialized RX7, Cond.code yX7_isIn cX7_isIn 6 (some .boolean), Cond.methodLink RX7 181 yX7_laysBy, Cond.instanceMethod yX7_laysBy, Cond.selects RX7 yX7_laysBy yX7_laysBy, Cond.code yX7_laysBy cX7_laysBy 2 none, Cond.fieldLink RX7 49 "LeaningStreetModel" "close" "[I", Cond.methodLink RX7 197 yX7_keeps, Cond.instanceMethod yX7_keeps, Cond.selects RX7 yX7_keeps yX7_keeps, Cond.code yX7_keeps cX7_keeps 4 (some .boolean), Cond.methodLink RX7 123 yX7_allStanding, Cond.instanceMethod yX7_allStanding, Cond.selects RX7 yX7_allStanding yX7_allStanding, Cond.code yX7_allStanding cX7_allStanding 3 (some .int), Cond.methodLink RX7 119 yX7_stands, Cond.instanceMethod yX7_stands, Cond.selects RX7 yX7_stands yX7_stands]
def wsX7_snows_r2 : List Cond := [Cond.code yX7_stands cX7_stands 2 (some .boolean), Cond.methodLink RX7 75 yX7_of, Cond.instanceMethod yX7_of, Cond.selects RX7 yX7_of yX7_of, Cond.code yX7_of cX7_of 3 (some .int), Cond.methodLink RX7 184 yX7_goesOnMany, Cond.instanceMethod yX7_goesOnMany, Cond.selects RX7 yX7_goesOnMany yX7_goesOnMany, Cond.code yX7_goesOnMany cX7_goesOnMany 3 none, Cond.methodLink RX7 172 yX7_goesOn, Cond.instanceMethod yX7_goesOn, Cond.selects RX7 yX7_goesOn yX7_goesOn, Cond.code yX7_goesOn cX7_goesOn 5 none, Cond.fieldLink RX7 43 "LeaningStreetModel" "thrusts" "[I", Cond.fieldLink RX7 46 "LeaningStreetModel" "borne" "[I", Cond.methodLink RX7 139 yX7_thrust, Cond.instanceMethod yX7_thrust, Cond.selects RX7 yX7_thrust yX7_thrust, Cond.code yX7_thrust cX7_thrust 6 (some .int), Cond.methodLink RX7 127 yX7_nextOf, Cond.instanceMethod yX7_nextOf, Cond.selects RX7 yX7_nextOf yX7_nextOf, Cond.code yX7_nextOf cX7_nextOf 5 (some .int), Cond.methodLink RX7 130 yX7_pushes]
def wsX7_snows_r3 : List Cond := [Cond.instanceMethod yX7_pushes, Cond.selects RX7 yX7_pushes yX7_pushes, Cond.code yX7_pushes cX7_pushes 5 (some .int), Cond.fieldLink RX7 55 "LeaningStreetModel" "named" "[I", Cond.methodLink RX7 106 yX7_off, Cond.static yX7_off, Cond.code yX7_off cX7_off 2 (some .int), Cond.methodLink RX7 109 yX7_counts, Cond.instanceMethod yX7_counts, Cond.selects RX7 yX7_counts yX7_counts, Cond.code yX7_counts cX7_counts 4 (some .int), Cond.methodLink RX7 283 yX7_textAt, Cond.instanceMethod yX7_textAt, Cond.selects RX7 yX7_textAt yX7_textAt, Cond.code yX7_textAt cX7_textAt 2 (some .int), Cond.methodLink RX7 113 yX7_worked, Cond.instanceMethod yX7_worked, Cond.selects RX7 yX7_worked yX7_worked, Cond.code yX7_worked cX7_worked 6 (some .int), Cond.fieldLink RX7 58 "LeaningStreetModel" "pile" "[I", Cond.methodLink RX7 297 yX7_joined, Cond.static yX7_joined, Cond.code yX7_joined cX7_joined 3 (some .int), Cond.methodLink RX7 116 yX7_held]
def wsX7_snows_r4 : List Cond := [Cond.static yX7_held, Cond.code yX7_held cX7_held 3 (some .int), Cond.methodLink RX7 136 yX7_bears, Cond.instanceMethod yX7_bears, Cond.selects RX7 yX7_bears yX7_bears, Cond.code yX7_bears cX7_bears 3 (some .int), Cond.methodLink RX7 80 yX7_sets, Cond.instanceMethod yX7_sets, Cond.selects RX7 yX7_sets yX7_sets, Cond.code yX7_sets cX7_sets 4 none, Cond.methodLink RX7 153 yX7_falls, Cond.instanceMethod yX7_falls, Cond.selects RX7 yX7_falls yX7_falls, Cond.code yX7_falls cX7_falls 2 none, Cond.methodLink RX7 167 yX7_fallsWith, Cond.instanceMethod yX7_fallsWith, Cond.selects RX7 yX7_fallsWith yX7_fallsWith, Cond.code yX7_fallsWith cX7_fallsWith 5 (some .boolean), Cond.methodLink RX7 187 yX7_laysBack, Cond.instanceMethod yX7_laysBack, Cond.selects RX7 yX7_laysBack yX7_laysBack, Cond.code yX7_laysBack cX7_laysBack 2 none]
def wsX7_snows : List Cond := .code yX7_snows cX7_snows 3 (some .int) :: ((wsX7_snows_r1 ++ (wsX7_snows_r2 ++ (wsX7_snows_r3 ++ wsX7_snows_r4))) ++ wsX70)
def wsX7_fee : List Cond := .code yX7_fee cX7_fee 2 (some .int) :: ([.fieldLink RX7 7 "LeaningStreetModel" "s" "[I", .fieldLink RX7 55 "LeaningStreetModel" "named" "[I", .methodLink RX7 109 yX7_counts, .instanceMethod yX7_counts, .selects RX7 yX7_counts yX7_counts, .initialized RX7, .code yX7_counts cX7_counts 4 (some .int), .methodLink RX7 283 yX7_textAt, .instanceMethod yX7_textAt, .selects RX7 yX7_textAt yX7_textAt, .code yX7_textAt cX7_textAt 2 (some .int), .methodLink RX7 113 yX7_worked, .instanceMethod yX7_worked, .selects RX7 yX7_worked yX7_worked, .code yX7_worked cX7_worked 6 (some .int), .fieldLink RX7 58 "LeaningStreetModel" "pile" "[I", .methodLink RX7 297 yX7_joined, .static yX7_joined, .code yX7_joined cX7_joined 3 (some .int)] ++ wsX70)
def wsX7_fine_r1 : List Cond := [Cond.constant RX7 100 (-1000000001), Cond.fieldLink RX7 55 "LeaningStreetModel" "named" "[I", Cond.methodLink RX7 133 yX7_isHouse, Cond.instanceMethod yX7_isHouse, Cond.selects RX7 yX7_isHouse yX7_isHouse, Cond.initialized RX7, Cond.code yX7_isHouse cX7_isHouse 2 (some .boolean), Cond.fieldLink RX7 7 "LeaningStreetModel" "s" "[I", Cond.methodLink RX7 71 yX7_isIn, Cond.static yX7_isIn, Cond.code yX7_isIn cX7_isIn 6 (some .boolean), Cond.methodLink RX7 109 yX7_counts, Cond.instanceMethod yX7_counts, Cond.selects RX7 yX7_counts yX7_counts, Cond.code yX7_counts cX7_counts 4 (some .int), Cond.methodLink RX7 283 yX7_textAt, Cond.instanceMethod yX7_textAt, Cond.selects RX7 yX7_textAt yX7_textAt, Cond.code yX7_textAt cX7_textAt 2 (some .int), Cond.methodLink RX7 75 yX7_of, Cond.instanceMethod yX7_of, Cond.selects RX7 yX7_of yX7_of, Cond.code yX7_of cX7_of 3 (some .int), Cond.methodLink RX7 113 yX7_worked]
def wsX7_fine_r2 : List Cond := [Cond.instanceMethod yX7_worked, Cond.selects RX7 yX7_worked yX7_worked, Cond.code yX7_worked cX7_worked 6 (some .int), Cond.fieldLink RX7 58 "LeaningStreetModel" "pile" "[I", Cond.methodLink RX7 297 yX7_joined, Cond.static yX7_joined, Cond.code yX7_joined cX7_joined 3 (some .int)]
def wsX7_fine : List Cond := .code yX7_fine cX7_fine 3 (some .int) :: ((wsX7_fine_r1 ++ wsX7_fine_r2) ++ wsX70)
def wsX7_feed : List Cond := .code yX7_feed cX7_feed 6 (some .int) :: ([.fieldLink RX7 200 "LeaningStreetModel" "taped" "I", .constant RX7 101 (-1000000003), .fieldLink RX7 52 "LeaningStreetModel" "tape" "[I"] ++ wsX70)
def wsX7_trim : List Cond := .code yX7_trim cX7_trim 2 (some .int) :: ([.fieldLink RX7 200 "LeaningStreetModel" "taped" "I", .constant RX7 100 (-1000000001), .methodLink RX7 71 yX7_isIn, .static yX7_isIn, .initialized RX7, .code yX7_isIn cX7_isIn 6 (some .boolean)] ++ wsX70)
def wsX7_isLetter : List Cond := .code yX7_isLetter cX7_isLetter 2 (some .boolean) :: ([.fieldLink RX7 200 "LeaningStreetModel" "taped" "I", .fieldLink RX7 52 "LeaningStreetModel" "tape" "[I", .constantLong RX7 204 (97), .constantLong RX7 206 (122), .methodLink RX7 71 yX7_isIn, .static yX7_isIn, .initialized RX7, .code yX7_isIn cX7_isIn 6 (some .boolean)] ++ wsX70)
def wsX7_isDigit : List Cond := .code yX7_isDigit cX7_isDigit 2 (some .boolean) :: ([.fieldLink RX7 200 "LeaningStreetModel" "taped" "I", .fieldLink RX7 52 "LeaningStreetModel" "tape" "[I", .constantLong RX7 208 (48), .constantLong RX7 210 (57), .methodLink RX7 71 yX7_isIn, .static yX7_isIn, .initialized RX7, .code yX7_isIn cX7_isIn 6 (some .boolean)] ++ wsX70)
def wsX7_nextToken : List Cond := .code yX7_nextToken cX7_nextToken 3 none :: ([.fieldLink RX7 212 "LeaningStreetModel" "behind" "I", .fieldLink RX7 215 "LeaningStreetModel" "token" "I", .fieldLink RX7 200 "LeaningStreetModel" "taped" "I", .fieldLink RX7 52 "LeaningStreetModel" "tape" "[I", .fieldLink RX7 218 "LeaningStreetModel" "begin" "I", .fieldLink RX7 224 "LeaningStreetModel" "letter" "I", .fieldLink RX7 230 "LeaningStreetModel" "number" "I", .methodLink RX7 221 yX7_isLetter, .instanceMethod yX7_isLetter, .selects RX7 yX7_isLetter yX7_isLetter, .initialized RX7, .code yX7_isLetter cX7_isLetter 2 (some .boolean), .constantLong RX7 204 (97), .constantLong RX7 206 (122), .methodLink RX7 71 yX7_isIn, .static yX7_isIn, .code yX7_isIn cX7_isIn 6 (some .boolean), .methodLink RX7 227 yX7_isDigit, .instanceMethod yX7_isDigit, .selects RX7 yX7_isDigit yX7_isDigit, .code yX7_isDigit cX7_isDigit 2 (some .boolean), .constantLong RX7 208 (48), .constantLong RX7 210 (57)] ++ wsX70)
def wsX7_isSign : List Cond := .code yX7_isSign cX7_isSign 2 (some .boolean) :: ([.fieldLink RX7 215 "LeaningStreetModel" "token" "I", .fieldLink RX7 224 "LeaningStreetModel" "letter" "I"] ++ wsX70)
def wsX7_isWordAt : List Cond := .code yX7_isWordAt cX7_isWordAt 6 (some .boolean) :: ([.fieldLink RX7 215 "LeaningStreetModel" "token" "I", .fieldLink RX7 212 "LeaningStreetModel" "behind" "I", .fieldLink RX7 218 "LeaningStreetModel" "begin" "I", .fieldLink RX7 52 "LeaningStreetModel" "tape" "[I"] ++ wsX70)
def wsX7_key : List Cond := .code yX7_key cX7_key 1 (some .int) :: ([.methodLink RX7 233 yX7_isWordAt, .instanceMethod yX7_isWordAt, .selects RX7 yX7_isWordAt yX7_isWordAt, .initialized RX7, .code yX7_isWordAt cX7_isWordAt 6 (some .boolean), .fieldLink RX7 215 "LeaningStreetModel" "token" "I", .fieldLink RX7 212 "LeaningStreetModel" "behind" "I", .fieldLink RX7 218 "LeaningStreetModel" "begin" "I", .fieldLink RX7 52 "LeaningStreetModel" "tape" "[I"] ++ wsX70)
def wsX7_isName : List Cond := .code yX7_isName cX7_isName 2 (some .boolean) :: ([])
def wsX7_step : List Cond := .code yX7_step cX7_step 3 none :: ([.fieldLink RX7 7 "LeaningStreetModel" "s" "[I", .fieldLink RX7 237 "LeaningStreetModel" "laidAt" "I", .fieldLink RX7 240 "LeaningStreetModel" "laid" "I"] ++ wsX70)
def wsX7_both_r1 : List Cond := [Cond.methodLink RX7 256 yX7_test, Cond.instanceMethod yX7_test, Cond.selects RX7 yX7_test yX7_test, Cond.initialized RX7, Cond.methodLink RX7 246 yX7_isSign, Cond.instanceMethod yX7_isSign, Cond.selects RX7 yX7_isSign yX7_isSign, Cond.code yX7_isSign cX7_isSign 2 (some .boolean), Cond.fieldLink RX7 215 "LeaningStreetModel" "token" "I", Cond.fieldLink RX7 224 "LeaningStreetModel" "letter" "I", Cond.methodLink RX7 249 yX7_nextToken, Cond.instanceMethod yX7_nextToken, Cond.selects RX7 yX7_nextToken yX7_nextToken, Cond.code yX7_nextToken cX7_nextToken 3 none, Cond.fieldLink RX7 212 "LeaningStreetModel" "behind" "I", Cond.fieldLink RX7 200 "LeaningStreetModel" "taped" "I", Cond.fieldLink RX7 52 "LeaningStreetModel" "tape" "[I", Cond.fieldLink RX7 218 "LeaningStreetModel" "begin" "I", Cond.fieldLink RX7 230 "LeaningStreetModel" "number" "I", Cond.methodLink RX7 221 yX7_isLetter, Cond.instanceMethod yX7_isLetter, Cond.selects RX7 yX7_isLetter yX7_isLetter, Cond.code yX7_isLetter cX7_isLetter 2 (some .boolean), Cond.constantLong RX7 204 (97)]
def wsX7_both_r2 : List Cond := [Cond.constantLong RX7 206 (122), Cond.methodLink RX7 71 yX7_isIn, Cond.static yX7_isIn, Cond.code yX7_isIn cX7_isIn 6 (some .boolean), Cond.methodLink RX7 227 yX7_isDigit, Cond.instanceMethod yX7_isDigit, Cond.selects RX7 yX7_isDigit yX7_isDigit, Cond.code yX7_isDigit cX7_isDigit 2 (some .boolean), Cond.constantLong RX7 208 (48), Cond.constantLong RX7 210 (57), Cond.methodLink RX7 252 yX7_step, Cond.instanceMethod yX7_step, Cond.selects RX7 yX7_step yX7_step, Cond.code yX7_step cX7_step 3 none, Cond.fieldLink RX7 7 "LeaningStreetModel" "s" "[I", Cond.fieldLink RX7 237 "LeaningStreetModel" "laidAt" "I", Cond.fieldLink RX7 240 "LeaningStreetModel" "laid" "I", Cond.code yX7_either cX7_either 2 (some .boolean), Cond.methodLink RX7 243 yX7_both, Cond.instanceMethod yX7_both, Cond.selects RX7 yX7_both yX7_both, Cond.code yX7_part0 cX7_part0 2 (some .boolean), Cond.fieldLink RX7 268 "LeaningStreetModel" "said" "I", Cond.fieldLink RX7 274 "LeaningStreetModel" "turned" "I"]
def wsX7_both_r3 : List Cond := [Cond.fieldLink RX7 277 "LeaningStreetModel" "deep" "I", Cond.methodLink RX7 271 yX7_isName, Cond.static yX7_isName, Cond.code yX7_isName cX7_isName 2 (some .boolean), Cond.methodLink RX7 265 yX7_part0, Cond.instanceMethod yX7_part0, Cond.selects RX7 yX7_part0 yX7_part0, Cond.methodLink RX7 280 yX7_either, Cond.instanceMethod yX7_either, Cond.selects RX7 yX7_either yX7_either, Cond.code yX7_sum cX7_sum 3 (some .boolean), Cond.methodLink RX7 262 yX7_term, Cond.instanceMethod yX7_term, Cond.selects RX7 yX7_term yX7_term, Cond.code yX7_term cX7_term 3 (some .boolean), Cond.code yX7_test cX7_test 3 (some .boolean), Cond.methodLink RX7 259 yX7_sum, Cond.instanceMethod yX7_sum, Cond.selects RX7 yX7_sum yX7_sum]
def wsX7_both : List Cond := .code yX7_both cX7_both 2 (some .boolean) :: ((wsX7_both_r1 ++ (wsX7_both_r2 ++ wsX7_both_r3)) ++ wsX70)
def wsX7_either_r1 : List Cond := [Cond.methodLink RX7 243 yX7_both, Cond.instanceMethod yX7_both, Cond.selects RX7 yX7_both yX7_both, Cond.initialized RX7, Cond.methodLink RX7 246 yX7_isSign, Cond.instanceMethod yX7_isSign, Cond.selects RX7 yX7_isSign yX7_isSign, Cond.code yX7_isSign cX7_isSign 2 (some .boolean), Cond.fieldLink RX7 215 "LeaningStreetModel" "token" "I", Cond.fieldLink RX7 224 "LeaningStreetModel" "letter" "I", Cond.methodLink RX7 249 yX7_nextToken, Cond.instanceMethod yX7_nextToken, Cond.selects RX7 yX7_nextToken yX7_nextToken, Cond.code yX7_nextToken cX7_nextToken 3 none, Cond.fieldLink RX7 212 "LeaningStreetModel" "behind" "I", Cond.fieldLink RX7 200 "LeaningStreetModel" "taped" "I", Cond.fieldLink RX7 52 "LeaningStreetModel" "tape" "[I", Cond.fieldLink RX7 218 "LeaningStreetModel" "begin" "I", Cond.fieldLink RX7 230 "LeaningStreetModel" "number" "I", Cond.methodLink RX7 221 yX7_isLetter, Cond.instanceMethod yX7_isLetter, Cond.selects RX7 yX7_isLetter yX7_isLetter, Cond.code yX7_isLetter cX7_isLetter 2 (some .boolean), Cond.constantLong RX7 204 (97)]
def wsX7_either_r2 : List Cond := [Cond.constantLong RX7 206 (122), Cond.methodLink RX7 71 yX7_isIn, Cond.static yX7_isIn, Cond.code yX7_isIn cX7_isIn 6 (some .boolean), Cond.methodLink RX7 227 yX7_isDigit, Cond.instanceMethod yX7_isDigit, Cond.selects RX7 yX7_isDigit yX7_isDigit, Cond.code yX7_isDigit cX7_isDigit 2 (some .boolean), Cond.constantLong RX7 208 (48), Cond.constantLong RX7 210 (57), Cond.methodLink RX7 252 yX7_step, Cond.instanceMethod yX7_step, Cond.selects RX7 yX7_step yX7_step, Cond.code yX7_step cX7_step 3 none, Cond.fieldLink RX7 7 "LeaningStreetModel" "s" "[I", Cond.fieldLink RX7 237 "LeaningStreetModel" "laidAt" "I", Cond.fieldLink RX7 240 "LeaningStreetModel" "laid" "I", Cond.code yX7_both cX7_both 2 (some .boolean), Cond.methodLink RX7 256 yX7_test, Cond.instanceMethod yX7_test, Cond.selects RX7 yX7_test yX7_test, Cond.code yX7_part0 cX7_part0 2 (some .boolean), Cond.fieldLink RX7 268 "LeaningStreetModel" "said" "I", Cond.fieldLink RX7 274 "LeaningStreetModel" "turned" "I"]
def wsX7_either_r3 : List Cond := [Cond.fieldLink RX7 277 "LeaningStreetModel" "deep" "I", Cond.methodLink RX7 271 yX7_isName, Cond.static yX7_isName, Cond.code yX7_isName cX7_isName 2 (some .boolean), Cond.methodLink RX7 265 yX7_part0, Cond.instanceMethod yX7_part0, Cond.selects RX7 yX7_part0 yX7_part0, Cond.methodLink RX7 280 yX7_either, Cond.instanceMethod yX7_either, Cond.selects RX7 yX7_either yX7_either, Cond.code yX7_sum cX7_sum 3 (some .boolean), Cond.methodLink RX7 262 yX7_term, Cond.instanceMethod yX7_term, Cond.selects RX7 yX7_term yX7_term, Cond.code yX7_term cX7_term 3 (some .boolean), Cond.code yX7_test cX7_test 3 (some .boolean), Cond.methodLink RX7 259 yX7_sum, Cond.instanceMethod yX7_sum, Cond.selects RX7 yX7_sum yX7_sum]
def wsX7_either : List Cond := .code yX7_either cX7_either 2 (some .boolean) :: ((wsX7_either_r1 ++ (wsX7_either_r2 ++ wsX7_either_r3)) ++ wsX70)
def wsX7_part0_r1 : List Cond := [Cond.fieldLink RX7 215 "LeaningStreetModel" "token" "I", Cond.fieldLink RX7 230 "LeaningStreetModel" "number" "I", Cond.fieldLink RX7 268 "LeaningStreetModel" "said" "I", Cond.fieldLink RX7 224 "LeaningStreetModel" "letter" "I", Cond.fieldLink RX7 274 "LeaningStreetModel" "turned" "I", Cond.fieldLink RX7 277 "LeaningStreetModel" "deep" "I", Cond.methodLink RX7 252 yX7_step, Cond.instanceMethod yX7_step, Cond.selects RX7 yX7_step yX7_step, Cond.initialized RX7, Cond.code yX7_step cX7_step 3 none, Cond.fieldLink RX7 7 "LeaningStreetModel" "s" "[I", Cond.fieldLink RX7 237 "LeaningStreetModel" "laidAt" "I", Cond.fieldLink RX7 240 "LeaningStreetModel" "laid" "I", Cond.methodLink RX7 249 yX7_nextToken, Cond.instanceMethod yX7_nextToken, Cond.selects RX7 yX7_nextToken yX7_nextToken, Cond.code yX7_nextToken cX7_nextToken 3 none, Cond.fieldLink RX7 212 "LeaningStreetModel" "behind" "I", Cond.fieldLink RX7 200 "LeaningStreetModel" "taped" "I", Cond.fieldLink RX7 52 "LeaningStreetModel" "tape" "[I", Cond.fieldLink RX7 218 "LeaningStreetModel" "begin" "I", Cond.methodLink RX7 221 yX7_isLetter, Cond.instanceMethod yX7_isLetter]
def wsX7_part0_r2 : List Cond := [Cond.selects RX7 yX7_isLetter yX7_isLetter, Cond.code yX7_isLetter cX7_isLetter 2 (some .boolean), Cond.constantLong RX7 204 (97), Cond.constantLong RX7 206 (122), Cond.methodLink RX7 71 yX7_isIn, Cond.static yX7_isIn, Cond.code yX7_isIn cX7_isIn 6 (some .boolean), Cond.methodLink RX7 227 yX7_isDigit, Cond.instanceMethod yX7_isDigit, Cond.selects RX7 yX7_isDigit yX7_isDigit, Cond.code yX7_isDigit cX7_isDigit 2 (some .boolean), Cond.constantLong RX7 208 (48), Cond.constantLong RX7 210 (57), Cond.methodLink RX7 271 yX7_isName, Cond.static yX7_isName, Cond.code yX7_isName cX7_isName 2 (some .boolean), Cond.methodLink RX7 246 yX7_isSign, Cond.instanceMethod yX7_isSign, Cond.selects RX7 yX7_isSign yX7_isSign, Cond.code yX7_isSign cX7_isSign 2 (some .boolean), Cond.methodLink RX7 265 yX7_part0, Cond.instanceMethod yX7_part0, Cond.selects RX7 yX7_part0 yX7_part0, Cond.methodLink RX7 280 yX7_either]
def wsX7_part0_r3 : List Cond := [Cond.instanceMethod yX7_either, Cond.selects RX7 yX7_either yX7_either, Cond.code yX7_both cX7_both 2 (some .boolean), Cond.methodLink RX7 256 yX7_test, Cond.instanceMethod yX7_test, Cond.selects RX7 yX7_test yX7_test, Cond.code yX7_either cX7_either 2 (some .boolean), Cond.methodLink RX7 243 yX7_both, Cond.instanceMethod yX7_both, Cond.selects RX7 yX7_both yX7_both, Cond.code yX7_sum cX7_sum 3 (some .boolean), Cond.methodLink RX7 262 yX7_term, Cond.instanceMethod yX7_term, Cond.selects RX7 yX7_term yX7_term, Cond.code yX7_term cX7_term 3 (some .boolean), Cond.code yX7_test cX7_test 3 (some .boolean), Cond.methodLink RX7 259 yX7_sum, Cond.instanceMethod yX7_sum, Cond.selects RX7 yX7_sum yX7_sum]
def wsX7_part0 : List Cond := .code yX7_part0 cX7_part0 2 (some .boolean) :: ((wsX7_part0_r1 ++ (wsX7_part0_r2 ++ wsX7_part0_r3)) ++ wsX70)
def wsX7_sum_r1 : List Cond := [Cond.fieldLink RX7 224 "LeaningStreetModel" "letter" "I", Cond.methodLink RX7 262 yX7_term, Cond.instanceMethod yX7_term, Cond.selects RX7 yX7_term yX7_term, Cond.initialized RX7, Cond.methodLink RX7 246 yX7_isSign, Cond.instanceMethod yX7_isSign, Cond.selects RX7 yX7_isSign yX7_isSign, Cond.code yX7_isSign cX7_isSign 2 (some .boolean), Cond.fieldLink RX7 215 "LeaningStreetModel" "token" "I", Cond.methodLink RX7 249 yX7_nextToken, Cond.instanceMethod yX7_nextToken, Cond.selects RX7 yX7_nextToken yX7_nextToken, Cond.code yX7_nextToken cX7_nextToken 3 none, Cond.fieldLink RX7 212 "LeaningStreetModel" "behind" "I", Cond.fieldLink RX7 200 "LeaningStreetModel" "taped" "I", Cond.fieldLink RX7 52 "LeaningStreetModel" "tape" "[I", Cond.fieldLink RX7 218 "LeaningStreetModel" "begin" "I", Cond.fieldLink RX7 230 "LeaningStreetModel" "number" "I", Cond.methodLink RX7 221 yX7_isLetter, Cond.instanceMethod yX7_isLetter, Cond.selects RX7 yX7_isLetter yX7_isLetter, Cond.code yX7_isLetter cX7_isLetter 2 (some .boolean), Cond.constantLong RX7 204 (97)]
def wsX7_sum_r2 : List Cond := [Cond.constantLong RX7 206 (122), Cond.methodLink RX7 71 yX7_isIn, Cond.static yX7_isIn, Cond.code yX7_isIn cX7_isIn 6 (some .boolean), Cond.methodLink RX7 227 yX7_isDigit, Cond.instanceMethod yX7_isDigit, Cond.selects RX7 yX7_isDigit yX7_isDigit, Cond.code yX7_isDigit cX7_isDigit 2 (some .boolean), Cond.constantLong RX7 208 (48), Cond.constantLong RX7 210 (57), Cond.methodLink RX7 252 yX7_step, Cond.instanceMethod yX7_step, Cond.selects RX7 yX7_step yX7_step, Cond.code yX7_step cX7_step 3 none, Cond.fieldLink RX7 7 "LeaningStreetModel" "s" "[I", Cond.fieldLink RX7 237 "LeaningStreetModel" "laidAt" "I", Cond.fieldLink RX7 240 "LeaningStreetModel" "laid" "I", Cond.code yX7_both cX7_both 2 (some .boolean), Cond.methodLink RX7 256 yX7_test, Cond.instanceMethod yX7_test, Cond.selects RX7 yX7_test yX7_test, Cond.code yX7_either cX7_either 2 (some .boolean), Cond.methodLink RX7 243 yX7_both, Cond.instanceMethod yX7_both]
def wsX7_sum_r3 : List Cond := [Cond.selects RX7 yX7_both yX7_both, Cond.code yX7_part0 cX7_part0 2 (some .boolean), Cond.fieldLink RX7 268 "LeaningStreetModel" "said" "I", Cond.fieldLink RX7 274 "LeaningStreetModel" "turned" "I", Cond.fieldLink RX7 277 "LeaningStreetModel" "deep" "I", Cond.methodLink RX7 271 yX7_isName, Cond.static yX7_isName, Cond.code yX7_isName cX7_isName 2 (some .boolean), Cond.methodLink RX7 265 yX7_part0, Cond.instanceMethod yX7_part0, Cond.selects RX7 yX7_part0 yX7_part0, Cond.methodLink RX7 280 yX7_either, Cond.instanceMethod yX7_either, Cond.selects RX7 yX7_either yX7_either, Cond.code yX7_term cX7_term 3 (some .boolean), Cond.code yX7_test cX7_test 3 (some .boolean), Cond.methodLink RX7 259 yX7_sum, Cond.instanceMethod yX7_sum, Cond.selects RX7 yX7_sum yX7_sum]
def wsX7_sum : List Cond := .code yX7_sum cX7_sum 3 (some .boolean) :: ((wsX7_sum_r1 ++ (wsX7_sum_r2 ++ wsX7_sum_r3)) ++ wsX70)
def wsX7_term_r1 : List Cond := [Cond.fieldLink RX7 224 "LeaningStreetModel" "letter" "I", Cond.methodLink RX7 265 yX7_part0, Cond.instanceMethod yX7_part0, Cond.selects RX7 yX7_part0 yX7_part0, Cond.initialized RX7, Cond.methodLink RX7 246 yX7_isSign, Cond.instanceMethod yX7_isSign, Cond.selects RX7 yX7_isSign yX7_isSign, Cond.code yX7_isSign cX7_isSign 2 (some .boolean), Cond.fieldLink RX7 215 "LeaningStreetModel" "token" "I", Cond.methodLink RX7 249 yX7_nextToken, Cond.instanceMethod yX7_nextToken, Cond.selects RX7 yX7_nextToken yX7_nextToken, Cond.code yX7_nextToken cX7_nextToken 3 none, Cond.fieldLink RX7 212 "LeaningStreetModel" "behind" "I", Cond.fieldLink RX7 200 "LeaningStreetModel" "taped" "I", Cond.fieldLink RX7 52 "LeaningStreetModel" "tape" "[I", Cond.fieldLink RX7 218 "LeaningStreetModel" "begin" "I", Cond.fieldLink RX7 230 "LeaningStreetModel" "number" "I", Cond.methodLink RX7 221 yX7_isLetter, Cond.instanceMethod yX7_isLetter, Cond.selects RX7 yX7_isLetter yX7_isLetter, Cond.code yX7_isLetter cX7_isLetter 2 (some .boolean), Cond.constantLong RX7 204 (97)]
def wsX7_term_r2 : List Cond := [Cond.constantLong RX7 206 (122), Cond.methodLink RX7 71 yX7_isIn, Cond.static yX7_isIn, Cond.code yX7_isIn cX7_isIn 6 (some .boolean), Cond.methodLink RX7 227 yX7_isDigit, Cond.instanceMethod yX7_isDigit, Cond.selects RX7 yX7_isDigit yX7_isDigit, Cond.code yX7_isDigit cX7_isDigit 2 (some .boolean), Cond.constantLong RX7 208 (48), Cond.constantLong RX7 210 (57), Cond.methodLink RX7 252 yX7_step, Cond.instanceMethod yX7_step, Cond.selects RX7 yX7_step yX7_step, Cond.code yX7_step cX7_step 3 none, Cond.fieldLink RX7 7 "LeaningStreetModel" "s" "[I", Cond.fieldLink RX7 237 "LeaningStreetModel" "laidAt" "I", Cond.fieldLink RX7 240 "LeaningStreetModel" "laid" "I", Cond.code yX7_both cX7_both 2 (some .boolean), Cond.methodLink RX7 256 yX7_test, Cond.instanceMethod yX7_test, Cond.selects RX7 yX7_test yX7_test, Cond.code yX7_either cX7_either 2 (some .boolean), Cond.methodLink RX7 243 yX7_both, Cond.instanceMethod yX7_both]
def wsX7_term_r3 : List Cond := [Cond.selects RX7 yX7_both yX7_both, Cond.code yX7_part0 cX7_part0 2 (some .boolean), Cond.fieldLink RX7 268 "LeaningStreetModel" "said" "I", Cond.fieldLink RX7 274 "LeaningStreetModel" "turned" "I", Cond.fieldLink RX7 277 "LeaningStreetModel" "deep" "I", Cond.methodLink RX7 271 yX7_isName, Cond.static yX7_isName, Cond.code yX7_isName cX7_isName 2 (some .boolean), Cond.methodLink RX7 280 yX7_either, Cond.instanceMethod yX7_either, Cond.selects RX7 yX7_either yX7_either, Cond.code yX7_sum cX7_sum 3 (some .boolean), Cond.methodLink RX7 262 yX7_term, Cond.instanceMethod yX7_term, Cond.selects RX7 yX7_term yX7_term, Cond.code yX7_test cX7_test 3 (some .boolean), Cond.methodLink RX7 259 yX7_sum, Cond.instanceMethod yX7_sum, Cond.selects RX7 yX7_sum yX7_sum]
def wsX7_term : List Cond := .code yX7_term cX7_term 3 (some .boolean) :: ((wsX7_term_r1 ++ (wsX7_term_r2 ++ wsX7_term_r3)) ++ wsX70)
def wsX7_test_r1 : List Cond := [Cond.fieldLink RX7 224 "LeaningStreetModel" "letter" "I", Cond.methodLink RX7 259 yX7_sum, Cond.instanceMethod yX7_sum, Cond.selects RX7 yX7_sum yX7_sum, Cond.initialized RX7, Cond.methodLink RX7 246 yX7_isSign, Cond.instanceMethod yX7_isSign, Cond.selects RX7 yX7_isSign yX7_isSign, Cond.code yX7_isSign cX7_isSign 2 (some .boolean), Cond.fieldLink RX7 215 "LeaningStreetModel" "token" "I", Cond.methodLink RX7 249 yX7_nextToken, Cond.instanceMethod yX7_nextToken, Cond.selects RX7 yX7_nextToken yX7_nextToken, Cond.code yX7_nextToken cX7_nextToken 3 none, Cond.fieldLink RX7 212 "LeaningStreetModel" "behind" "I", Cond.fieldLink RX7 200 "LeaningStreetModel" "taped" "I", Cond.fieldLink RX7 52 "LeaningStreetModel" "tape" "[I", Cond.fieldLink RX7 218 "LeaningStreetModel" "begin" "I", Cond.fieldLink RX7 230 "LeaningStreetModel" "number" "I", Cond.methodLink RX7 221 yX7_isLetter, Cond.instanceMethod yX7_isLetter, Cond.selects RX7 yX7_isLetter yX7_isLetter, Cond.code yX7_isLetter cX7_isLetter 2 (some .boolean), Cond.constantLong RX7 204 (97)]
def wsX7_test_r2 : List Cond := [Cond.constantLong RX7 206 (122), Cond.methodLink RX7 71 yX7_isIn, Cond.static yX7_isIn, Cond.code yX7_isIn cX7_isIn 6 (some .boolean), Cond.methodLink RX7 227 yX7_isDigit, Cond.instanceMethod yX7_isDigit, Cond.selects RX7 yX7_isDigit yX7_isDigit, Cond.code yX7_isDigit cX7_isDigit 2 (some .boolean), Cond.constantLong RX7 208 (48), Cond.constantLong RX7 210 (57), Cond.methodLink RX7 252 yX7_step, Cond.instanceMethod yX7_step, Cond.selects RX7 yX7_step yX7_step, Cond.code yX7_step cX7_step 3 none, Cond.fieldLink RX7 7 "LeaningStreetModel" "s" "[I", Cond.fieldLink RX7 237 "LeaningStreetModel" "laidAt" "I", Cond.fieldLink RX7 240 "LeaningStreetModel" "laid" "I", Cond.code yX7_both cX7_both 2 (some .boolean), Cond.methodLink RX7 256 yX7_test, Cond.instanceMethod yX7_test, Cond.selects RX7 yX7_test yX7_test, Cond.code yX7_either cX7_either 2 (some .boolean), Cond.methodLink RX7 243 yX7_both, Cond.instanceMethod yX7_both]
def wsX7_test_r3 : List Cond := [Cond.selects RX7 yX7_both yX7_both, Cond.code yX7_part0 cX7_part0 2 (some .boolean), Cond.fieldLink RX7 268 "LeaningStreetModel" "said" "I", Cond.fieldLink RX7 274 "LeaningStreetModel" "turned" "I", Cond.fieldLink RX7 277 "LeaningStreetModel" "deep" "I", Cond.methodLink RX7 271 yX7_isName, Cond.static yX7_isName, Cond.code yX7_isName cX7_isName 2 (some .boolean), Cond.methodLink RX7 265 yX7_part0, Cond.instanceMethod yX7_part0, Cond.selects RX7 yX7_part0 yX7_part0, Cond.methodLink RX7 280 yX7_either, Cond.instanceMethod yX7_either, Cond.selects RX7 yX7_either yX7_either, Cond.code yX7_sum cX7_sum 3 (some .boolean), Cond.methodLink RX7 262 yX7_term, Cond.instanceMethod yX7_term, Cond.selects RX7 yX7_term yX7_term, Cond.code yX7_term cX7_term 3 (some .boolean)]
def wsX7_test : List Cond := .code yX7_test cX7_test 3 (some .boolean) :: ((wsX7_test_r1 ++ (wsX7_test_r2 ++ wsX7_test_r3)) ++ wsX70)
def wsX7_parse_r1 : List Cond := [Cond.fieldLink RX7 212 "LeaningStreetModel" "behind" "I", Cond.fieldLink RX7 215 "LeaningStreetModel" "token" "I", Cond.fieldLink RX7 277 "LeaningStreetModel" "deep" "I", Cond.fieldLink RX7 274 "LeaningStreetModel" "turned" "I", Cond.fieldLink RX7 240 "LeaningStreetModel" "laid" "I", Cond.fieldLink RX7 268 "LeaningStreetModel" "said" "I", Cond.fieldLink RX7 7 "LeaningStreetModel" "s" "[I", Cond.fieldLink RX7 237 "LeaningStreetModel" "laidAt" "I", Cond.fieldLink RX7 200 "LeaningStreetModel" "taped" "I", Cond.methodLink RX7 283 yX7_textAt, Cond.instanceMethod yX7_textAt, Cond.selects RX7 yX7_textAt yX7_textAt, Cond.initialized RX7, Cond.code yX7_textAt cX7_textAt 2 (some .int), Cond.methodLink RX7 249 yX7_nextToken, Cond.instanceMethod yX7_nextToken, Cond.selects RX7 yX7_nextToken yX7_nextToken, Cond.code yX7_nextToken cX7_nextToken 3 none, Cond.fieldLink RX7 52 "LeaningStreetModel" "tape" "[I", Cond.fieldLink RX7 218 "LeaningStreetModel" "begin" "I", Cond.fieldLink RX7 224 "LeaningStreetModel" "letter" "I", Cond.fieldLink RX7 230 "LeaningStreetModel" "number" "I", Cond.methodLink RX7 221 yX7_isLetter, Cond.instanceMethod yX7_isLetter]
def wsX7_parse_r2 : List Cond := [Cond.selects RX7 yX7_isLetter yX7_isLetter, Cond.code yX7_isLetter cX7_isLetter 2 (some .boolean), Cond.constantLong RX7 204 (97), Cond.constantLong RX7 206 (122), Cond.methodLink RX7 71 yX7_isIn, Cond.static yX7_isIn, Cond.code yX7_isIn cX7_isIn 6 (some .boolean), Cond.methodLink RX7 227 yX7_isDigit, Cond.instanceMethod yX7_isDigit, Cond.selects RX7 yX7_isDigit yX7_isDigit, Cond.code yX7_isDigit cX7_isDigit 2 (some .boolean), Cond.constantLong RX7 208 (48), Cond.constantLong RX7 210 (57), Cond.methodLink RX7 286 yX7_key, Cond.instanceMethod yX7_key, Cond.selects RX7 yX7_key yX7_key, Cond.code yX7_key cX7_key 1 (some .int), Cond.methodLink RX7 233 yX7_isWordAt, Cond.instanceMethod yX7_isWordAt, Cond.selects RX7 yX7_isWordAt yX7_isWordAt, Cond.code yX7_isWordAt cX7_isWordAt 6 (some .boolean), Cond.methodLink RX7 280 yX7_either, Cond.instanceMethod yX7_either, Cond.selects RX7 yX7_either yX7_either]
def wsX7_parse_r3 : List Cond := [Cond.code yX7_either cX7_either 2 (some .boolean), Cond.methodLink RX7 243 yX7_both, Cond.instanceMethod yX7_both, Cond.selects RX7 yX7_both yX7_both, Cond.methodLink RX7 246 yX7_isSign, Cond.instanceMethod yX7_isSign, Cond.selects RX7 yX7_isSign yX7_isSign, Cond.code yX7_isSign cX7_isSign 2 (some .boolean), Cond.methodLink RX7 252 yX7_step, Cond.instanceMethod yX7_step, Cond.selects RX7 yX7_step yX7_step, Cond.code yX7_step cX7_step 3 none, Cond.code yX7_both cX7_both 2 (some .boolean), Cond.methodLink RX7 256 yX7_test, Cond.instanceMethod yX7_test, Cond.selects RX7 yX7_test yX7_test, Cond.code yX7_part0 cX7_part0 2 (some .boolean), Cond.methodLink RX7 271 yX7_isName, Cond.static yX7_isName, Cond.code yX7_isName cX7_isName 2 (some .boolean), Cond.methodLink RX7 265 yX7_part0, Cond.instanceMethod yX7_part0, Cond.selects RX7 yX7_part0 yX7_part0, Cond.code yX7_sum cX7_sum 3 (some .boolean)]
def wsX7_parse_r4 : List Cond := [Cond.methodLink RX7 262 yX7_term, Cond.instanceMethod yX7_term, Cond.selects RX7 yX7_term yX7_term, Cond.code yX7_term cX7_term 3 (some .boolean), Cond.code yX7_test cX7_test 3 (some .boolean), Cond.methodLink RX7 259 yX7_sum, Cond.instanceMethod yX7_sum, Cond.selects RX7 yX7_sum yX7_sum]
def wsX7_parse : List Cond := .code yX7_parse cX7_parse 3 (some .int) :: ((wsX7_parse_r1 ++ (wsX7_parse_r2 ++ (wsX7_parse_r3 ++ wsX7_parse_r4))) ++ wsX70)
def wsX7_text_r1 : List Cond := [Cond.fieldLink RX7 218 "LeaningStreetModel" "begin" "I", Cond.fieldLink RX7 7 "LeaningStreetModel" "s" "[I", Cond.constant RX7 101 (-1000000003), Cond.fieldLink RX7 268 "LeaningStreetModel" "said" "I", Cond.fieldLink RX7 240 "LeaningStreetModel" "laid" "I", Cond.methodLink RX7 289 yX7_parse, Cond.instanceMethod yX7_parse, Cond.selects RX7 yX7_parse yX7_parse, Cond.initialized RX7, Cond.code yX7_parse cX7_parse 3 (some .int), Cond.fieldLink RX7 212 "LeaningStreetModel" "behind" "I", Cond.fieldLink RX7 215 "LeaningStreetModel" "token" "I", Cond.fieldLink RX7 277 "LeaningStreetModel" "deep" "I", Cond.fieldLink RX7 274 "LeaningStreetModel" "turned" "I", Cond.fieldLink RX7 237 "LeaningStreetModel" "laidAt" "I", Cond.fieldLink RX7 200 "LeaningStreetModel" "taped" "I", Cond.methodLink RX7 283 yX7_textAt, Cond.instanceMethod yX7_textAt, Cond.selects RX7 yX7_textAt yX7_textAt, Cond.code yX7_textAt cX7_textAt 2 (some .int), Cond.methodLink RX7 249 yX7_nextToken, Cond.instanceMethod yX7_nextToken, Cond.selects RX7 yX7_nextToken yX7_nextToken, Cond.code yX7_nextToken cX7_nextToken 3 none]
def wsX7_text_r2 : List Cond := [Cond.fieldLink RX7 52 "LeaningStreetModel" "tape" "[I", Cond.fieldLink RX7 224 "LeaningStreetModel" "letter" "I", Cond.fieldLink RX7 230 "LeaningStreetModel" "number" "I", Cond.methodLink RX7 221 yX7_isLetter, Cond.instanceMethod yX7_isLetter, Cond.selects RX7 yX7_isLetter yX7_isLetter, Cond.code yX7_isLetter cX7_isLetter 2 (some .boolean), Cond.constantLong RX7 204 (97), Cond.constantLong RX7 206 (122), Cond.methodLink RX7 71 yX7_isIn, Cond.static yX7_isIn, Cond.code yX7_isIn cX7_isIn 6 (some .boolean), Cond.methodLink RX7 227 yX7_isDigit, Cond.instanceMethod yX7_isDigit, Cond.selects RX7 yX7_isDigit yX7_isDigit, Cond.code yX7_isDigit cX7_isDigit 2 (some .boolean), Cond.constantLong RX7 208 (48), Cond.constantLong RX7 210 (57), Cond.methodLink RX7 286 yX7_key, Cond.instanceMethod yX7_key, Cond.selects RX7 yX7_key yX7_key, Cond.code yX7_key cX7_key 1 (some .int), Cond.methodLink RX7 233 yX7_isWordAt, Cond.instanceMethod yX7_isWordAt]
def wsX7_text_r3 : List Cond := [Cond.selects RX7 yX7_isWordAt yX7_isWordAt, Cond.code yX7_isWordAt cX7_isWordAt 6 (some .boolean), Cond.methodLink RX7 280 yX7_either, Cond.instanceMethod yX7_either, Cond.selects RX7 yX7_either yX7_either, Cond.code yX7_either cX7_either 2 (some .boolean), Cond.methodLink RX7 243 yX7_both, Cond.instanceMethod yX7_both, Cond.selects RX7 yX7_both yX7_both, Cond.methodLink RX7 246 yX7_isSign, Cond.instanceMethod yX7_isSign, Cond.selects RX7 yX7_isSign yX7_isSign, Cond.code yX7_isSign cX7_isSign 2 (some .boolean), Cond.methodLink RX7 252 yX7_step, Cond.instanceMethod yX7_step, Cond.selects RX7 yX7_step yX7_step, Cond.code yX7_step cX7_step 3 none, Cond.code yX7_both cX7_both 2 (some .boolean), Cond.methodLink RX7 256 yX7_test, Cond.instanceMethod yX7_test, Cond.selects RX7 yX7_test yX7_test, Cond.code yX7_part0 cX7_part0 2 (some .boolean), Cond.methodLink RX7 271 yX7_isName, Cond.static yX7_isName]
def wsX7_text_r4 : List Cond := [Cond.code yX7_isName cX7_isName 2 (some .boolean), Cond.methodLink RX7 265 yX7_part0, Cond.instanceMethod yX7_part0, Cond.selects RX7 yX7_part0 yX7_part0, Cond.code yX7_sum cX7_sum 3 (some .boolean), Cond.methodLink RX7 262 yX7_term, Cond.instanceMethod yX7_term, Cond.selects RX7 yX7_term yX7_term, Cond.code yX7_term cX7_term 3 (some .boolean), Cond.code yX7_test cX7_test 3 (some .boolean), Cond.methodLink RX7 259 yX7_sum, Cond.instanceMethod yX7_sum, Cond.selects RX7 yX7_sum yX7_sum]
def wsX7_text : List Cond := .code yX7_text cX7_text 3 (some .int) :: ((wsX7_text_r1 ++ (wsX7_text_r2 ++ (wsX7_text_r3 ++ wsX7_text_r4))) ++ wsX70)
def wsX7_textTold : List Cond := .code yX7_textTold cX7_textTold 3 (some .int) :: ([.constant RX7 100 (-1000000001), .fieldLink RX7 7 "LeaningStreetModel" "s" "[I", .methodLink RX7 292 yX7_isText, .instanceMethod yX7_isText, .selects RX7 yX7_isText yX7_isText, .initialized RX7, .code yX7_isText cX7_isText 2 (some .boolean), .methodLink RX7 71 yX7_isIn, .static yX7_isIn, .code yX7_isIn cX7_isIn 6 (some .boolean), .methodLink RX7 283 yX7_textAt, .instanceMethod yX7_textAt, .selects RX7 yX7_textAt yX7_textAt, .code yX7_textAt cX7_textAt 2 (some .int)] ++ wsX70)
def wsX7_why : List Cond := .code yX7_why cX7_why 2 (some .int) :: ([.constantLong RX7 295 (2), .constant RX7 100 (-1000000001), .methodLink RX7 71 yX7_isIn, .static yX7_isIn, .initialized RX7, .code yX7_isIn cX7_isIn 6 (some .boolean), .methodLink RX7 109 yX7_counts, .instanceMethod yX7_counts, .selects RX7 yX7_counts yX7_counts, .code yX7_counts cX7_counts 4 (some .int), .fieldLink RX7 7 "LeaningStreetModel" "s" "[I", .methodLink RX7 283 yX7_textAt, .instanceMethod yX7_textAt, .selects RX7 yX7_textAt yX7_textAt, .code yX7_textAt cX7_textAt 2 (some .int), .methodLink RX7 190 yX7_orNone, .static yX7_orNone, .code yX7_orNone cX7_orNone 1 (some .int), .constant RX7 70 (-1000000005)] ++ wsX70)
def wsX7_isSheet : List Cond := .code yX7_isSheet cX7_isSheet 1 (some .boolean) :: ([.constantLong RX7 300 (3), .methodLink RX7 71 yX7_isIn, .static yX7_isIn, .initialized RX7, .code yX7_isIn cX7_isIn 6 (some .boolean)])
def wsX7_sheet : List Cond := .code yX7_sheet cX7_sheet 5 (some .int) :: ([.constantLong RX7 305 (-1), .constant RX7 100 (-1000000001), .constant RX7 307 (-1000000014), .fieldLink RX7 19 "LeaningStreetModel" "tSort" "[I", .fieldLink RX7 22 "LeaningStreetModel" "tSize" "[I", .fieldLink RX7 25 "LeaningStreetModel" "tNumber" "[I", .methodLink RX7 302 yX7_isSheet, .static yX7_isSheet, .initialized RX7, .code yX7_isSheet cX7_isSheet 1 (some .boolean), .constantLong RX7 300 (3), .methodLink RX7 71 yX7_isIn, .static yX7_isIn, .code yX7_isIn cX7_isIn 6 (some .boolean)] ++ wsX70)
def wsX7_mark : List Cond := .code yX7_mark cX7_mark 4 (some .int) :: ([.constant RX7 100 (-1000000001), .fieldLink RX7 19 "LeaningStreetModel" "tSort" "[I", .constant RX7 308 (-1000000011), .fieldLink RX7 22 "LeaningStreetModel" "tSize" "[I", .constant RX7 309 (-1000000013), .constant RX7 70 (-1000000005), .constant RX7 148 (-1000000012), .constantLong RX7 310 (-99999), .constantLong RX7 312 (99999), .fieldLink RX7 25 "LeaningStreetModel" "tNumber" "[I", .methodLink RX7 302 yX7_isSheet, .static yX7_isSheet, .initialized RX7, .code yX7_isSheet cX7_isSheet 1 (some .boolean), .constantLong RX7 300 (3), .methodLink RX7 71 yX7_isIn, .static yX7_isIn, .code yX7_isIn cX7_isIn 6 (some .boolean)] ++ wsX70)
def wsX7_pour : List Cond := .code yX7_pour cX7_pour 6 (some .int) :: ([.constant RX7 100 (-1000000001), .fieldLink RX7 19 "LeaningStreetModel" "tSort" "[I", .constant RX7 308 (-1000000011), .fieldLink RX7 22 "LeaningStreetModel" "tSize" "[I", .fieldLink RX7 7 "LeaningStreetModel" "s" "[I", .fieldLink RX7 25 "LeaningStreetModel" "tNumber" "[I", .constant RX7 70 (-1000000005), .methodLink RX7 302 yX7_isSheet, .static yX7_isSheet, .initialized RX7, .code yX7_isSheet cX7_isSheet 1 (some .boolean), .constantLong RX7 300 (3), .methodLink RX7 71 yX7_isIn, .static yX7_isIn, .code yX7_isIn cX7_isIn 6 (some .boolean), .methodLink RX7 116 yX7_held, .static yX7_held, .code yX7_held cX7_held 3 (some .int), .methodLink RX7 149 yX7_becomes, .instanceMethod yX7_becomes, .selects RX7 yX7_becomes yX7_becomes, .code yX7_becomes cX7_becomes 4 (some .int)] ++ wsX70)
def wsX7_reads : List Cond := .code yX7_reads cX7_reads 4 (some .int) :: ([.constant RX7 100 (-1000000001), .fieldLink RX7 19 "LeaningStreetModel" "tSort" "[I", .constant RX7 308 (-1000000011), .fieldLink RX7 22 "LeaningStreetModel" "tSize" "[I", .fieldLink RX7 25 "LeaningStreetModel" "tNumber" "[I", .constant RX7 70 (-1000000005), .fieldLink RX7 7 "LeaningStreetModel" "s" "[I", .methodLink RX7 302 yX7_isSheet, .static yX7_isSheet, .initialized RX7, .code yX7_isSheet cX7_isSheet 1 (some .boolean), .constantLong RX7 300 (3), .methodLink RX7 71 yX7_isIn, .static yX7_isIn, .code yX7_isIn cX7_isIn 6 (some .boolean), .methodLink RX7 75 yX7_of, .instanceMethod yX7_of, .selects RX7 yX7_of yX7_of, .code yX7_of cX7_of 3 (some .int)] ++ wsX70)
def wsX7_began_r1 : List Cond := [Cond.constantLong RX7 193 (60), Cond.constant RX7 100 (-1000000001), Cond.fieldLink RX7 19 "LeaningStreetModel" "tSort" "[I", Cond.constant RX7 308 (-1000000011), Cond.fieldLink RX7 7 "LeaningStreetModel" "s" "[I", Cond.fieldLink RX7 22 "LeaningStreetModel" "tSize" "[I", Cond.fieldLink RX7 25 "LeaningStreetModel" "tNumber" "[I", Cond.constant RX7 70 (-1000000005), Cond.methodLink RX7 302 yX7_isSheet, Cond.static yX7_isSheet, Cond.initialized RX7, Cond.code yX7_isSheet cX7_isSheet 1 (some .boolean), Cond.constantLong RX7 300 (3), Cond.methodLink RX7 71 yX7_isIn, Cond.static yX7_isIn, Cond.code yX7_isIn cX7_isIn 6 (some .boolean), Cond.methodLink RX7 181 yX7_laysBy, Cond.instanceMethod yX7_laysBy, Cond.selects RX7 yX7_laysBy yX7_laysBy, Cond.code yX7_laysBy cX7_laysBy 2 none, Cond.fieldLink RX7 49 "LeaningStreetModel" "close" "[I", Cond.methodLink RX7 80 yX7_sets, Cond.instanceMethod yX7_sets, Cond.selects RX7 yX7_sets yX7_sets]
def wsX7_began_r2 : List Cond := [Cond.code yX7_sets cX7_sets 4 none, Cond.methodLink RX7 184 yX7_goesOnMany, Cond.instanceMethod yX7_goesOnMany, Cond.selects RX7 yX7_goesOnMany yX7_goesOnMany, Cond.code yX7_goesOnMany cX7_goesOnMany 3 none, Cond.methodLink RX7 172 yX7_goesOn, Cond.instanceMethod yX7_goesOn, Cond.selects RX7 yX7_goesOn yX7_goesOn, Cond.code yX7_goesOn cX7_goesOn 5 none, Cond.fieldLink RX7 43 "LeaningStreetModel" "thrusts" "[I", Cond.fieldLink RX7 46 "LeaningStreetModel" "borne" "[I", Cond.methodLink RX7 123 yX7_allStanding, Cond.instanceMethod yX7_allStanding, Cond.selects RX7 yX7_allStanding yX7_allStanding, Cond.code yX7_allStanding cX7_allStanding 3 (some .int), Cond.methodLink RX7 119 yX7_stands, Cond.instanceMethod yX7_stands, Cond.selects RX7 yX7_stands yX7_stands, Cond.code yX7_stands cX7_stands 2 (some .boolean), Cond.methodLink RX7 75 yX7_of, Cond.instanceMethod yX7_of, Cond.selects RX7 yX7_of yX7_of, Cond.code yX7_of cX7_of 3 (some .int), Cond.methodLink RX7 139 yX7_thrust]
def wsX7_began_r3 : List Cond := [Cond.instanceMethod yX7_thrust, Cond.selects RX7 yX7_thrust yX7_thrust, Cond.code yX7_thrust cX7_thrust 6 (some .int), Cond.methodLink RX7 127 yX7_nextOf, Cond.instanceMethod yX7_nextOf, Cond.selects RX7 yX7_nextOf yX7_nextOf, Cond.code yX7_nextOf cX7_nextOf 5 (some .int), Cond.methodLink RX7 130 yX7_pushes, Cond.instanceMethod yX7_pushes, Cond.selects RX7 yX7_pushes yX7_pushes, Cond.code yX7_pushes cX7_pushes 5 (some .int), Cond.fieldLink RX7 55 "LeaningStreetModel" "named" "[I", Cond.methodLink RX7 106 yX7_off, Cond.static yX7_off, Cond.code yX7_off cX7_off 2 (some .int), Cond.methodLink RX7 109 yX7_counts, Cond.instanceMethod yX7_counts, Cond.selects RX7 yX7_counts yX7_counts, Cond.code yX7_counts cX7_counts 4 (some .int), Cond.methodLink RX7 283 yX7_textAt, Cond.instanceMethod yX7_textAt, Cond.selects RX7 yX7_textAt yX7_textAt, Cond.code yX7_textAt cX7_textAt 2 (some .int), Cond.methodLink RX7 113 yX7_worked]
def wsX7_began_r4 : List Cond := [Cond.instanceMethod yX7_worked, Cond.selects RX7 yX7_worked yX7_worked, Cond.code yX7_worked cX7_worked 6 (some .int), Cond.fieldLink RX7 58 "LeaningStreetModel" "pile" "[I", Cond.methodLink RX7 297 yX7_joined, Cond.static yX7_joined, Cond.code yX7_joined cX7_joined 3 (some .int), Cond.methodLink RX7 116 yX7_held, Cond.static yX7_held, Cond.code yX7_held cX7_held 3 (some .int), Cond.methodLink RX7 136 yX7_bears, Cond.instanceMethod yX7_bears, Cond.selects RX7 yX7_bears yX7_bears, Cond.code yX7_bears cX7_bears 3 (some .int), Cond.methodLink RX7 153 yX7_falls, Cond.instanceMethod yX7_falls, Cond.selects RX7 yX7_falls yX7_falls, Cond.code yX7_falls cX7_falls 2 none, Cond.methodLink RX7 167 yX7_fallsWith, Cond.instanceMethod yX7_fallsWith, Cond.selects RX7 yX7_fallsWith yX7_fallsWith, Cond.code yX7_fallsWith cX7_fallsWith 5 (some .boolean), Cond.methodLink RX7 187 yX7_laysBack, Cond.instanceMethod yX7_laysBack]
def wsX7_began_r5 : List Cond := [Cond.selects RX7 yX7_laysBack yX7_laysBack, Cond.code yX7_laysBack cX7_laysBack 2 none]
def wsX7_began : List Cond := .code yX7_began cX7_began 10 (some .int) :: ((wsX7_began_r1 ++ (wsX7_began_r2 ++ (wsX7_began_r3 ++ (wsX7_began_r4 ++ wsX7_began_r5)))) ++ wsX70)
def wsX7_copy : List Cond := .code yX7_copy cX7_copy 7 (some .int) :: ([.constant RX7 100 (-1000000001), .fieldLink RX7 19 "LeaningStreetModel" "tSort" "[I", .constant RX7 308 (-1000000011), .constant RX7 148 (-1000000012), .fieldLink RX7 22 "LeaningStreetModel" "tSize" "[I", .constant RX7 309 (-1000000013), .fieldLink RX7 61 "LeaningStreetModel" "carried" "[I", .fieldLink RX7 25 "LeaningStreetModel" "tNumber" "[I", .methodLink RX7 302 yX7_isSheet, .static yX7_isSheet, .initialized RX7, .code yX7_isSheet cX7_isSheet 1 (some .boolean), .constantLong RX7 300 (3), .methodLink RX7 71 yX7_isIn, .static yX7_isIn, .code yX7_isIn cX7_isIn 6 (some .boolean)] ++ wsX70)
def wsX7_isSlot : List Cond := .code yX7_isSlot cX7_isSlot 1 (some .boolean) :: ([.constantLong RX7 314 (4), .methodLink RX7 71 yX7_isIn, .static yX7_isIn, .initialized RX7, .code yX7_isIn cX7_isIn 6 (some .boolean)])
def wsX7_lay_r1 : List Cond := [Cond.constant RX7 100 (-1000000001), Cond.fieldLink RX7 19 "LeaningStreetModel" "tSort" "[I", Cond.constant RX7 308 (-1000000011), Cond.fieldLink RX7 28 "LeaningStreetModel" "held" "[I", Cond.fieldLink RX7 31 "LeaningStreetModel" "heldNumber" "[I", Cond.fieldLink RX7 34 "LeaningStreetModel" "heldWorth" "[I", Cond.fieldLink RX7 37 "LeaningStreetModel" "heldSize" "[I", Cond.fieldLink RX7 22 "LeaningStreetModel" "tSize" "[I", Cond.fieldLink RX7 40 "LeaningStreetModel" "heldRow" "[I", Cond.fieldLink RX7 25 "LeaningStreetModel" "tNumber" "[I", Cond.methodLink RX7 133 yX7_isHouse, Cond.instanceMethod yX7_isHouse, Cond.selects RX7 yX7_isHouse yX7_isHouse, Cond.initialized RX7, Cond.code yX7_isHouse cX7_isHouse 2 (some .boolean), Cond.fieldLink RX7 7 "LeaningStreetModel" "s" "[I", Cond.methodLink RX7 71 yX7_isIn, Cond.static yX7_isIn, Cond.code yX7_isIn cX7_isIn 6 (some .boolean), Cond.methodLink RX7 302 yX7_isSheet, Cond.static yX7_isSheet, Cond.code yX7_isSheet cX7_isSheet 1 (some .boolean), Cond.constantLong RX7 300 (3), Cond.methodLink RX7 316 yX7_isSlot]
def wsX7_lay_r2 : List Cond := [Cond.static yX7_isSlot, Cond.code yX7_isSlot cX7_isSlot 1 (some .boolean), Cond.constantLong RX7 314 (4), Cond.methodLink RX7 75 yX7_of, Cond.instanceMethod yX7_of, Cond.selects RX7 yX7_of yX7_of, Cond.code yX7_of cX7_of 3 (some .int), Cond.methodLink RX7 142 yX7_worth, Cond.instanceMethod yX7_worth, Cond.selects RX7 yX7_worth yX7_worth, Cond.code yX7_worth cX7_worth 3 (some .int)]
def wsX7_lay : List Cond := .code yX7_lay cX7_lay 7 (some .int) :: ((wsX7_lay_r1 ++ wsX7_lay_r2) ++ wsX70)
def wsX7_ask : List Cond := .code yX7_ask cX7_ask 3 (some .int) :: ([.constantLong RX7 94 (5), .constant RX7 100 (-1000000001), .fieldLink RX7 28 "LeaningStreetModel" "held" "[I", .constant RX7 308 (-1000000011), .fieldLink RX7 31 "LeaningStreetModel" "heldNumber" "[I", .fieldLink RX7 34 "LeaningStreetModel" "heldWorth" "[I", .constant RX7 148 (-1000000012), .methodLink RX7 316 yX7_isSlot, .static yX7_isSlot, .initialized RX7, .code yX7_isSlot cX7_isSlot 1 (some .boolean), .constantLong RX7 314 (4), .methodLink RX7 71 yX7_isIn, .static yX7_isIn, .code yX7_isIn cX7_isIn 6 (some .boolean), .methodLink RX7 145 yX7_isOf, .static yX7_isOf, .code yX7_isOf cX7_isOf 2 (some .boolean)] ++ wsX70)
def wsX7_item : List Cond := .code yX7_item cX7_item 4 (some .int) :: ([.constant RX7 100 (-1000000001), .fieldLink RX7 28 "LeaningStreetModel" "held" "[I", .constant RX7 308 (-1000000011), .constant RX7 148 (-1000000012), .fieldLink RX7 37 "LeaningStreetModel" "heldSize" "[I", .constant RX7 309 (-1000000013), .fieldLink RX7 40 "LeaningStreetModel" "heldRow" "[I", .constant RX7 70 (-1000000005), .methodLink RX7 316 yX7_isSlot, .static yX7_isSlot, .initialized RX7, .code yX7_isSlot cX7_isSlot 1 (some .boolean), .constantLong RX7 314 (4), .methodLink RX7 71 yX7_isIn, .static yX7_isIn, .code yX7_isIn cX7_isIn 6 (some .boolean)] ++ wsX70)
def wsX7_rest : List Cond := .code yX7_rest cX7_rest 3 (some .int) :: ([.constant RX7 100 (-1000000001), .fieldLink RX7 28 "LeaningStreetModel" "held" "[I", .constant RX7 308 (-1000000011), .constant RX7 148 (-1000000012), .constant RX7 152 (-1000000002), .fieldLink RX7 31 "LeaningStreetModel" "heldNumber" "[I", .methodLink RX7 316 yX7_isSlot, .static yX7_isSlot, .initialized RX7, .code yX7_isSlot cX7_isSlot 1 (some .boolean), .constantLong RX7 314 (4), .methodLink RX7 71 yX7_isIn, .static yX7_isIn, .code yX7_isIn cX7_isIn 6 (some .boolean)] ++ wsX70)
def wsX7_tell : List Cond := .code yX7_tell cX7_tell 2 (some .int) :: ([.fieldLink RX7 319 "LeaningStreetModel" "waiting" "I", .constant RX7 101 (-1000000003), .fieldLink RX7 64 "LeaningStreetModel" "waits" "[I"] ++ wsX70)
def wsX7_setAside : List Cond := .code yX7_setAside cX7_setAside 4 none :: ([])
def wsX7_check_r1 : List Cond := [Cond.fieldLink RX7 319 "LeaningStreetModel" "waiting" "I", Cond.constantLong RX7 322 (30), Cond.constant RX7 100 (-1000000001), Cond.fieldLink RX7 324 "LeaningStreetModel" "hasImage" "Z", Cond.constant RX7 152 (-1000000002), Cond.fieldLink RX7 7 "LeaningStreetModel" "s" "[I", Cond.fieldLink RX7 16 "LeaningStreetModel" "aside" "[I", Cond.fieldLink RX7 13 "LeaningStreetModel" "image" "[I", Cond.fieldLink RX7 67 "LeaningStreetModel" "rowDue" "[I", Cond.fieldLink RX7 64 "LeaningStreetModel" "waits" "[I", Cond.methodLink RX7 71 yX7_isIn, Cond.static yX7_isIn, Cond.initialized RX7, Cond.code yX7_isIn cX7_isIn 6 (some .boolean), Cond.methodLink RX7 328 yX7_setAside, Cond.instanceMethod yX7_setAside, Cond.selects RX7 yX7_setAside yX7_setAside, Cond.code yX7_setAside cX7_setAside 4 none, Cond.methodLink RX7 172 yX7_goesOn, Cond.instanceMethod yX7_goesOn, Cond.selects RX7 yX7_goesOn yX7_goesOn, Cond.code yX7_goesOn cX7_goesOn 5 none, Cond.fieldLink RX7 43 "LeaningStreetModel" "thrusts" "[I", Cond.fieldLink RX7 46 "LeaningStreetModel" "borne" "[I"]
def wsX7_check_r2 : List Cond := [Cond.methodLink RX7 123 yX7_allStanding, Cond.instanceMethod yX7_allStanding, Cond.selects RX7 yX7_allStanding yX7_allStanding, Cond.code yX7_allStanding cX7_allStanding 3 (some .int), Cond.methodLink RX7 119 yX7_stands, Cond.instanceMethod yX7_stands, Cond.selects RX7 yX7_stands yX7_stands, Cond.code yX7_stands cX7_stands 2 (some .boolean), Cond.methodLink RX7 75 yX7_of, Cond.instanceMethod yX7_of, Cond.selects RX7 yX7_of yX7_of, Cond.code yX7_of cX7_of 3 (some .int), Cond.methodLink RX7 139 yX7_thrust, Cond.instanceMethod yX7_thrust, Cond.selects RX7 yX7_thrust yX7_thrust, Cond.code yX7_thrust cX7_thrust 6 (some .int), Cond.methodLink RX7 127 yX7_nextOf, Cond.instanceMethod yX7_nextOf, Cond.selects RX7 yX7_nextOf yX7_nextOf, Cond.code yX7_nextOf cX7_nextOf 5 (some .int), Cond.methodLink RX7 130 yX7_pushes, Cond.instanceMethod yX7_pushes, Cond.selects RX7 yX7_pushes yX7_pushes, Cond.code yX7_pushes cX7_pushes 5 (some .int)]
def wsX7_check_r3 : List Cond := [Cond.fieldLink RX7 55 "LeaningStreetModel" "named" "[I", Cond.methodLink RX7 106 yX7_off, Cond.static yX7_off, Cond.code yX7_off cX7_off 2 (some .int), Cond.methodLink RX7 109 yX7_counts, Cond.instanceMethod yX7_counts, Cond.selects RX7 yX7_counts yX7_counts, Cond.code yX7_counts cX7_counts 4 (some .int), Cond.methodLink RX7 283 yX7_textAt, Cond.instanceMethod yX7_textAt, Cond.selects RX7 yX7_textAt yX7_textAt, Cond.code yX7_textAt cX7_textAt 2 (some .int), Cond.methodLink RX7 113 yX7_worked, Cond.instanceMethod yX7_worked, Cond.selects RX7 yX7_worked yX7_worked, Cond.code yX7_worked cX7_worked 6 (some .int), Cond.fieldLink RX7 58 "LeaningStreetModel" "pile" "[I", Cond.methodLink RX7 297 yX7_joined, Cond.static yX7_joined, Cond.code yX7_joined cX7_joined 3 (some .int), Cond.methodLink RX7 116 yX7_held, Cond.static yX7_held, Cond.code yX7_held cX7_held 3 (some .int), Cond.methodLink RX7 136 yX7_bears]
def wsX7_check_r4 : List Cond := [Cond.instanceMethod yX7_bears, Cond.selects RX7 yX7_bears yX7_bears, Cond.code yX7_bears cX7_bears 3 (some .int), Cond.methodLink RX7 80 yX7_sets, Cond.instanceMethod yX7_sets, Cond.selects RX7 yX7_sets yX7_sets, Cond.code yX7_sets cX7_sets 4 none, Cond.methodLink RX7 153 yX7_falls, Cond.instanceMethod yX7_falls, Cond.selects RX7 yX7_falls yX7_falls, Cond.code yX7_falls cX7_falls 2 none, Cond.methodLink RX7 167 yX7_fallsWith, Cond.instanceMethod yX7_fallsWith, Cond.selects RX7 yX7_fallsWith yX7_fallsWith, Cond.code yX7_fallsWith cX7_fallsWith 5 (some .boolean), Cond.methodLink RX7 157 yX7_manyIn, Cond.static yX7_manyIn, Cond.code yX7_manyIn cX7_manyIn 3 (some .int), Cond.methodLink RX7 175 yX7_allOf, Cond.instanceMethod yX7_allOf, Cond.selects RX7 yX7_allOf yX7_allOf, Cond.code yX7_allOf cX7_allOf 4 (some .int)]
def wsX7_check : List Cond := .code yX7_check cX7_check 5 (some .int) :: ((wsX7_check_r1 ++ (wsX7_check_r2 ++ (wsX7_check_r3 ++ wsX7_check_r4))) ++ wsX70)
def wsX7_keep : List Cond := .code yX7_keep cX7_keep 1 (some .int) :: ([.fieldLink RX7 324 "LeaningStreetModel" "hasImage" "Z", .fieldLink RX7 7 "LeaningStreetModel" "s" "[I", .fieldLink RX7 13 "LeaningStreetModel" "image" "[I", .methodLink RX7 328 yX7_setAside, .instanceMethod yX7_setAside, .selects RX7 yX7_setAside yX7_setAside, .initialized RX7, .code yX7_setAside cX7_setAside 4 none] ++ wsX70)
def wsX7_back : List Cond := .code yX7_back cX7_back 1 (some .int) :: ([.fieldLink RX7 324 "LeaningStreetModel" "hasImage" "Z", .constant RX7 152 (-1000000002), .fieldLink RX7 13 "LeaningStreetModel" "image" "[I", .fieldLink RX7 7 "LeaningStreetModel" "s" "[I", .methodLink RX7 328 yX7_setAside, .instanceMethod yX7_setAside, .selects RX7 yX7_setAside yX7_setAside, .initialized RX7, .code yX7_setAside cX7_setAside 4 none] ++ wsX70)
def wsX7_count : List Cond := .code yX7_count cX7_count 2 (some .int) :: ([.fieldLink RX7 7 "LeaningStreetModel" "s" "[I", .fieldLink RX7 319 "LeaningStreetModel" "waiting" "I", .fieldLink RX7 200 "LeaningStreetModel" "taped" "I", .constant RX7 100 (-1000000001), .methodLink RX7 123 yX7_allStanding, .instanceMethod yX7_allStanding, .selects RX7 yX7_allStanding yX7_allStanding, .initialized RX7, .code yX7_allStanding cX7_allStanding 3 (some .int), .methodLink RX7 119 yX7_stands, .instanceMethod yX7_stands, .selects RX7 yX7_stands yX7_stands, .code yX7_stands cX7_stands 2 (some .boolean), .methodLink RX7 75 yX7_of, .instanceMethod yX7_of, .selects RX7 yX7_of yX7_of, .code yX7_of cX7_of 3 (some .int), .methodLink RX7 157 yX7_manyIn, .static yX7_manyIn, .code yX7_manyIn cX7_manyIn 3 (some .int)] ++ wsX70)
def wsJ9_abs_0f7a4 : List Cond := .code yJ9_abs_0f7a4 cJ9_abs_0f7a4 1 (some .int) :: ([])
def wsJ9_max_7cf53 : List Cond := .code yJ9_max_7cf53 cJ9_max_7cf53 2 (some .int) :: ([])
def wsJ9_min_7cf53 : List Cond := .code yJ9_min_7cf53 cJ9_min_7cf53 2 (some .int) :: ([])
def wsL_law_r1 : List Cond := [Cond.classLink RL 7 RX6, Cond.instantiable RX6 9, Cond.initialized RX6, Cond.classLink RL 10 RX7, Cond.instantiable RX7 33, Cond.initialized RX7, Cond.methodLink RL 9 yX6_init, Cond.instanceMethod yX6_init, Cond.code yX6_init cX6_init 2 none, Cond.methodLink RX6 1 objectInit, Cond.instanceMethod objectInit, Cond.code objectInit ⟨#[0xb1]⟩ 1 none, Cond.classLink RX6 7 RX4, Cond.instantiable RX4 12, Cond.initialized RX4, Cond.fieldLink RX6 10 "LeaningStreet" "now" "LLeaningStreet$Street;", Cond.fieldLink RX6 16 "LeaningStreet" "image" "LLeaningStreet$Street;", Cond.fieldLink RX6 19 "LeaningStreet" "thought" "LLeaningStreet$Street;", Cond.classLink RX6 22 RX1, Cond.instantiable RX1 9, Cond.initialized RX1, Cond.fieldLink RX6 25 "LeaningStreet" "tape" "LLeaningStreet$Reader;", Cond.classLink RX6 29 RX2, Cond.fieldLink RX6 31 "LeaningStreet" "sheets" "[LLeaningStreet$Row;"]
def wsL_law_r2 : List Cond := [Cond.classLink RX6 35 RX3, Cond.fieldLink RX6 37 "LeaningStreet" "slots" "[LLeaningStreet$Slot;", Cond.arrayClass .int, Cond.fieldLink RX6 41 "LeaningStreet" "waiting" "[I", Cond.fieldLink RX6 45 "LeaningStreet" "waits" "I", Cond.fieldLink RX6 49 "LeaningStreet" "kept" "Z", Cond.instantiable RX2 3, Cond.initialized RX2, Cond.instantiable RX3 4, Cond.initialized RX3, Cond.methodLink RX6 9 yX4_init, Cond.instanceMethod yX4_init, Cond.code yX4_init cX4_init 2 none, Cond.methodLink RX4 3 objectInit, Cond.classLink RX4 9 RX0, Cond.fieldLink RX4 11 "LeaningStreet$Street" "houses" "[LLeaningStreet$House;", Cond.classLink RX4 17 RX5, Cond.fieldLink RX4 19 "LeaningStreet$Street" "allTexts" "[LLeaningStreet$Text;", Cond.fieldLink RX4 23 "LeaningStreet$Street" "counting" "[LLeaningStreet$Text;", Cond.fieldLink RX4 26 "LeaningStreet$Street" "thrusts" "[I", Cond.fieldLink RX4 30 "LeaningStreet$Street" "lesser" "[I", Cond.fieldLink RX4 33 "LeaningStreet$Street" "greater" "[I", Cond.fieldLink RX4 36 "LeaningStreet$Street" "many" "I", Cond.fieldLink RX4 40 "LeaningStreet$Street" "texts" "I"]
def wsL_law_r3 : List Cond := [Cond.fieldLink RX4 43 "LeaningStreet$Street" "snow" "I", Cond.fieldLink RX4 46 "LeaningStreet$Street" "rent" "I", Cond.fieldLink RX4 49 "LeaningStreet$Street" "day" "I", Cond.fieldLink RX4 52 "LeaningStreet$Street" "z" "I", Cond.instantiable RX0 7, Cond.initialized RX0, Cond.instanceMethod yX0_init, Cond.code yX0_init cX0_init 1 none, Cond.methodLink RX0 3 objectInit, Cond.instanceMethod yX1_init, Cond.code yX1_init cX1_init 1 none, Cond.methodLink RX1 3 objectInit, Cond.fieldLink RX1 9 "LeaningStreet$Reader" "bytes" "[I", Cond.fieldLink RX1 15 "LeaningStreet$Reader" "many" "I", Cond.fieldLink RX1 19 "LeaningStreet$Reader" "start" "I", Cond.fieldLink RX1 22 "LeaningStreet$Reader" "end" "I", Cond.fieldLink RX1 25 "LeaningStreet$Reader" "sort" "I", Cond.fieldLink RX1 28 "LeaningStreet$Reader" "key" "I", Cond.fieldLink RX1 31 "LeaningStreet$Reader" "code" "[I", Cond.fieldLink RX1 34 "LeaningStreet$Reader" "steps" "I", Cond.fieldLink RX1 37 "LeaningStreet$Reader" "pieces" "I", Cond.instanceMethod yX2_init, Cond.code yX2_init cX2_init 1 none, Cond.methodLink RX2 3 objectInit]
def wsL_law_r4 : List Cond := [Cond.fieldLink RX2 9 "LeaningStreet$Row" "places" "[I", Cond.fieldLink RX2 15 "LeaningStreet$Row" "sort" "I", Cond.fieldLink RX2 19 "LeaningStreet$Row" "many" "I", Cond.instanceMethod yX3_init, Cond.code yX3_init cX3_init 1 none, Cond.methodLink RX3 3 objectInit, Cond.fieldLink RX3 9 "LeaningStreet$Slot" "thing" "I", Cond.fieldLink RX3 15 "LeaningStreet$Slot" "number" "I", Cond.classLink RX3 18 RX0, Cond.fieldLink RX3 21 "LeaningStreet$Slot" "house" "LLeaningStreet$House;", Cond.classLink RX3 25 RX2, Cond.fieldLink RX3 28 "LeaningStreet$Slot" "row" "LLeaningStreet$Row;", Cond.methodLink RL 12 yX7_init, Cond.instanceMethod yX7_init, Cond.code yX7_init cX7_init 2 none, Cond.methodLink RX7 1 objectInit, Cond.fieldLink RX7 7 "LeaningStreetModel" "s" "[I", Cond.fieldLink RX7 13 "LeaningStreetModel" "image" "[I", Cond.fieldLink RX7 16 "LeaningStreetModel" "aside" "[I", Cond.fieldLink RX7 19 "LeaningStreetModel" "tSort" "[I", Cond.fieldLink RX7 22 "LeaningStreetModel" "tSize" "[I", Cond.fieldLink RX7 25 "LeaningStreetModel" "tNumber" "[I", Cond.fieldLink RX7 28 "LeaningStreetModel" "held" "[I", Cond.fieldLink RX7 31 "LeaningStreetModel" "heldNumber" "[I"]
def wsL_law_r5 : List Cond := [Cond.fieldLink RX7 34 "LeaningStreetModel" "heldWorth" "[I", Cond.fieldLink RX7 37 "LeaningStreetModel" "heldSize" "[I", Cond.fieldLink RX7 40 "LeaningStreetModel" "heldRow" "[I", Cond.fieldLink RX7 43 "LeaningStreetModel" "thrusts" "[I", Cond.fieldLink RX7 46 "LeaningStreetModel" "borne" "[I", Cond.fieldLink RX7 49 "LeaningStreetModel" "close" "[I", Cond.fieldLink RX7 52 "LeaningStreetModel" "tape" "[I", Cond.fieldLink RX7 55 "LeaningStreetModel" "named" "[I", Cond.fieldLink RX7 58 "LeaningStreetModel" "pile" "[I", Cond.fieldLink RX7 61 "LeaningStreetModel" "carried" "[I", Cond.fieldLink RX7 64 "LeaningStreetModel" "waits" "[I", Cond.fieldLink RX7 67 "LeaningStreetModel" "rowDue" "[I", Cond.methodLink RL 13 yX6_house, Cond.instanceMethod yX6_house, Cond.selects RX6 yX6_house yX6_house, Cond.code yX6_house cX6_house 5 (some .int), Cond.constant RX6 59 (-1000000001), Cond.fieldLink RX6 60 "LeaningStreet$Street" "many" "I", Cond.constant RX6 63 (-1000000003), Cond.methodLink RX6 55 yX6_fits, Cond.static yX6_fits, Cond.code yX6_fits cX6_fits 2 (some .boolean), Cond.fieldLink RX6 306 "LeaningStreet" "LEAST" "[I", Cond.fieldLink RX6 181 "LeaningStreet" "MOST" "[I"]
def wsL_law_r6 : List Cond := [Cond.methodLink RX6 64 yX4_build, Cond.instanceMethod yX4_build, Cond.selects RX4 yX4_build yX4_build, Cond.code yX4_build cX4_build 6 none, Cond.fieldLink RX4 63 "LeaningStreet$House" "kind" "I", Cond.fieldLink RX4 66 "LeaningStreet$House" "weight" "I", Cond.fieldLink RX4 69 "LeaningStreet$House" "lean" "I", Cond.fieldLink RX4 72 "LeaningStreet$House" "wall" "I", Cond.fieldLink RX4 75 "LeaningStreet$House" "prop" "I", Cond.methodLink RX4 60 yX0_rise, Cond.instanceMethod yX0_rise, Cond.selects RX0 yX0_rise yX0_rise, Cond.code yX0_rise cX0_rise 1 none, Cond.fieldLink RX0 30 "LeaningStreet$House" "stands" "Z", Cond.fieldLink RX0 18 "LeaningStreet$House" "lean" "I", Cond.fieldLink RX0 24 "LeaningStreet$House" "crack" "I", Cond.methodLink RL 17 yX7_house, Cond.instanceMethod yX7_house, Cond.selects RX7 yX7_house yX7_house, Cond.code yX7_house cX7_house 5 (some .int), Cond.constantLong RX7 94 (5), Cond.constant RX7 100 (-1000000001), Cond.constant RX7 101 (-1000000003), Cond.methodLink RX7 71 yX7_isIn]
def wsL_law_r7 : List Cond := [Cond.static yX7_isIn, Cond.code yX7_isIn cX7_isIn 6 (some .boolean), Cond.methodLink RX7 96 yX7_mayBe, Cond.static yX7_mayBe, Cond.code yX7_mayBe cX7_mayBe 2 (some .boolean), Cond.constantLong RX7 84 (99), Cond.constantLong RX7 86 (-50), Cond.constantLong RX7 88 (50), Cond.constantLong RX7 90 (999), Cond.constantLong RX7 92 (9), Cond.methodLink RX7 102 yX7_comes, Cond.instanceMethod yX7_comes, Cond.selects RX7 yX7_comes yX7_comes, Cond.code yX7_comes cX7_comes 6 none, Cond.methodLink RX7 80 yX7_sets, Cond.instanceMethod yX7_sets, Cond.selects RX7 yX7_sets yX7_sets, Cond.code yX7_sets cX7_sets 4 none, Cond.methodLink RL 18 yX6_told, Cond.instanceMethod yX6_told, Cond.selects RX6 yX6_told yX6_told, Cond.code yX6_told cX6_told 4 (some .int), Cond.fieldLink RX6 72 "LeaningStreet$Street" "houses" "[LLeaningStreet$House;", Cond.fieldLink RX6 76 "LeaningStreet$House" "stands" "Z"]
def wsL_law_r8 : List Cond := [Cond.fieldLink RX6 92 "LeaningStreet$Street" "thrusts" "[I", Cond.methodLink RX6 68 yX6_isHouse, Cond.instanceMethod yX6_isHouse, Cond.selects RX6 yX6_isHouse yX6_isHouse, Cond.code yX6_isHouse cX6_isHouse 2 (some .boolean), Cond.methodLink RX6 81 yX4_pushOf, Cond.instanceMethod yX4_pushOf, Cond.selects RX4 yX4_pushOf yX4_pushOf, Cond.code yX4_pushOf cX4_pushOf 4 (some .int), Cond.methodLink RX4 118 Lib.Math.abs.name, Cond.static Lib.Math.abs.name, Cond.initialized "java/lang/Math", Cond.code Lib.Math.abs.name Lib.Math.abs.code 1 (some .int), Cond.fieldLink RX4 115 "LeaningStreet$House" "crack" "I", Cond.methodLink RX4 122 yX5_value, Cond.instanceMethod yX5_value, Cond.selects RX5 yX5_value yX5_value, Cond.initialized RX5, Cond.code yX5_value cX5_value 9 (some .int), Cond.fieldLink RX5 21 "LeaningStreet$Text" "code" "[I", Cond.fieldLink RX5 31 "LeaningStreet$Text" "stack" "[I", Cond.methodLink RX5 34 yX5_joined, Cond.static yX5_joined, Cond.code yX5_joined cX5_joined 3 (some .int)]
def wsL_law_r9 : List Cond := [Cond.methodLink RX4 126 yX0_pushing, Cond.instanceMethod yX0_pushing, Cond.selects RX0 yX0_pushing yX0_pushing, Cond.code yX0_pushing cX0_pushing 3 (some .int), Cond.methodLink RX0 38 Lib.Math.min.name, Cond.static Lib.Math.min.name, Cond.code Lib.Math.min.name Lib.Math.min.code 2 (some .int), Cond.methodLink RX0 44 Lib.Math.max.name, Cond.static Lib.Math.max.name, Cond.code Lib.Math.max.name Lib.Math.max.code 2 (some .int), Cond.fieldLink RX0 9 "LeaningStreet$House" "kind" "I", Cond.methodLink RX6 85 yX0_bearing, Cond.instanceMethod yX0_bearing, Cond.selects RX0 yX0_bearing yX0_bearing, Cond.code yX0_bearing cX0_bearing 2 (some .int), Cond.fieldLink RX0 21 "LeaningStreet$House" "wall" "I", Cond.fieldLink RX0 27 "LeaningStreet$House" "prop" "I", Cond.methodLink RX6 89 yX4_workOutThrusts, Cond.instanceMethod yX4_workOutThrusts, Cond.selects RX4 yX4_workOutThrusts yX4_workOutThrusts, Cond.code yX4_workOutThrusts cX4_workOutThrusts 3 none, Cond.fieldLink RX4 129 "LeaningStreet$House" "stands" "Z", Cond.methodLink RX4 133 yX4_lean, Cond.instanceMethod yX4_lean]
def wsL_law_r10 : List Cond := [Cond.selects RX4 yX4_lean yX4_lean, Cond.code yX4_lean cX4_lean 3 none, Cond.methodLink RX4 136 yX4_pushOf, Cond.methodLink RX6 95 yX0_worth, Cond.instanceMethod yX0_worth, Cond.selects RX0 yX0_worth yX0_worth, Cond.code yX0_worth cX0_worth 1 (some .int), Cond.methodLink RX6 98 yX0_part, Cond.instanceMethod yX0_part, Cond.selects RX0 yX0_part yX0_part, Cond.code yX0_part cX0_part 2 (some .int), Cond.fieldLink RX0 15 "LeaningStreet$House" "weight" "I", Cond.methodLink RL 22 yX7_told, Cond.instanceMethod yX7_told, Cond.selects RX7 yX7_told yX7_told, Cond.code yX7_told cX7_told 3 (some .int), Cond.methodLink RX7 133 yX7_isHouse, Cond.instanceMethod yX7_isHouse, Cond.selects RX7 yX7_isHouse yX7_isHouse, Cond.code yX7_isHouse cX7_isHouse 2 (some .boolean), Cond.methodLink RX7 75 yX7_of, Cond.instanceMethod yX7_of, Cond.selects RX7 yX7_of yX7_of, Cond.code yX7_of cX7_of 3 (some .int)]
def wsL_law_r11 : List Cond := [Cond.methodLink RX7 130 yX7_pushes, Cond.instanceMethod yX7_pushes, Cond.selects RX7 yX7_pushes yX7_pushes, Cond.code yX7_pushes cX7_pushes 5 (some .int), Cond.methodLink RX7 106 yX7_off, Cond.static yX7_off, Cond.code yX7_off cX7_off 2 (some .int), Cond.methodLink RX7 109 yX7_counts, Cond.instanceMethod yX7_counts, Cond.selects RX7 yX7_counts yX7_counts, Cond.code yX7_counts cX7_counts 4 (some .int), Cond.methodLink RX7 283 yX7_textAt, Cond.instanceMethod yX7_textAt, Cond.selects RX7 yX7_textAt yX7_textAt, Cond.code yX7_textAt cX7_textAt 2 (some .int), Cond.methodLink RX7 113 yX7_worked, Cond.instanceMethod yX7_worked, Cond.selects RX7 yX7_worked yX7_worked, Cond.code yX7_worked cX7_worked 6 (some .int), Cond.methodLink RX7 297 yX7_joined, Cond.static yX7_joined, Cond.code yX7_joined cX7_joined 3 (some .int), Cond.methodLink RX7 116 yX7_held, Cond.static yX7_held]
def wsL_law_r12 : List Cond := [Cond.code yX7_held cX7_held 3 (some .int), Cond.methodLink RX7 136 yX7_bears, Cond.instanceMethod yX7_bears, Cond.selects RX7 yX7_bears yX7_bears, Cond.code yX7_bears cX7_bears 3 (some .int), Cond.methodLink RX7 139 yX7_thrust, Cond.instanceMethod yX7_thrust, Cond.selects RX7 yX7_thrust yX7_thrust, Cond.code yX7_thrust cX7_thrust 6 (some .int), Cond.methodLink RX7 119 yX7_stands, Cond.instanceMethod yX7_stands, Cond.selects RX7 yX7_stands yX7_stands, Cond.code yX7_stands cX7_stands 2 (some .boolean), Cond.methodLink RX7 123 yX7_allStanding, Cond.instanceMethod yX7_allStanding, Cond.selects RX7 yX7_allStanding yX7_allStanding, Cond.code yX7_allStanding cX7_allStanding 3 (some .int), Cond.methodLink RX7 127 yX7_nextOf, Cond.instanceMethod yX7_nextOf, Cond.selects RX7 yX7_nextOf yX7_nextOf, Cond.code yX7_nextOf cX7_nextOf 5 (some .int), Cond.methodLink RX7 142 yX7_worth, Cond.instanceMethod yX7_worth, Cond.selects RX7 yX7_worth yX7_worth]
def wsL_law_r13 : List Cond := [Cond.code yX7_worth cX7_worth 3 (some .int), Cond.methodLink RL 23 yX6_as, Cond.instanceMethod yX6_as, Cond.selects RX6 yX6_as yX6_as, Cond.code yX6_as cX6_as 3 (some .int), Cond.fieldLink RX6 108 "LeaningStreet$House" "wall" "I", Cond.constant RX6 111 (-1000000012), Cond.methodLink RX6 102 yX6_isKind, Cond.static yX6_isKind, Cond.code yX6_isKind cX6_isKind 1 (some .boolean), Cond.methodLink RX6 105 yX0_isOf, Cond.instanceMethod yX0_isOf, Cond.selects RX0 yX0_isOf yX0_isOf, Cond.code yX0_isOf cX0_isOf 4 (some .boolean), Cond.methodLink RL 26 yX7_as, Cond.instanceMethod yX7_as, Cond.selects RX7 yX7_as yX7_as, Cond.code yX7_as cX7_as 3 (some .int), Cond.constant RX7 148 (-1000000012), Cond.methodLink RX7 145 yX7_isOf, Cond.static yX7_isOf, Cond.code yX7_isOf cX7_isOf 2 (some .boolean), Cond.methodLink RL 27 yX6_turns, Cond.instanceMethod yX6_turns]
def wsL_law_r14 : List Cond := [Cond.selects RX6 yX6_turns yX6_turns, Cond.code yX6_turns cX6_turns 4 (some .int), Cond.fieldLink RX6 112 "LeaningStreet$House" "kind" "I", Cond.methodLink RL 30 yX7_turns, Cond.instanceMethod yX7_turns, Cond.selects RX7 yX7_turns yX7_turns, Cond.code yX7_turns cX7_turns 3 (some .int), Cond.methodLink RX7 149 yX7_becomes, Cond.instanceMethod yX7_becomes, Cond.selects RX7 yX7_becomes yX7_becomes, Cond.code yX7_becomes cX7_becomes 4 (some .int), Cond.methodLink RL 31 yX6_set, Cond.instanceMethod yX6_set, Cond.selects RX6 yX6_set yX6_set, Cond.code yX6_set cX6_set 5 (some .int), Cond.methodLink RX6 115 yX0_becomes, Cond.instanceMethod yX0_becomes, Cond.selects RX0 yX0_becomes yX0_becomes, Cond.code yX0_becomes cX0_becomes 3 none, Cond.methodLink RL 35 yX7_set, Cond.instanceMethod yX7_set, Cond.selects RX7 yX7_set yX7_set, Cond.code yX7_set cX7_set 4 (some .int), Cond.methodLink RL 36 yX6_fells]
def wsL_law_r15 : List Cond := [Cond.instanceMethod yX6_fells, Cond.selects RX6 yX6_fells yX6_fells, Cond.code yX6_fells cX6_fells 2 (some .int), Cond.constant RX6 119 (-1000000002), Cond.methodLink RX6 120 yX0_fall, Cond.instanceMethod yX0_fall, Cond.selects RX0 yX0_fall yX0_fall, Cond.code yX0_fall cX0_fall 1 none, Cond.methodLink RX6 123 yX4_howManyStand, Cond.instanceMethod yX4_howManyStand, Cond.selects RX4 yX4_howManyStand yX4_howManyStand, Cond.code yX4_howManyStand cX4_howManyStand 1 (some .int), Cond.methodLink RX4 174 yX4_standing, Cond.instanceMethod yX4_standing, Cond.selects RX4 yX4_standing yX4_standing, Cond.code yX4_standing cX4_standing 3 (some .int), Cond.methodLink RX4 177 yJ6_bitCount_0f7a4, Cond.static yJ6_bitCount_0f7a4, Cond.initialized RJ6, Cond.code yJ6_bitCount_0f7a4 cJ6_bitCount_0f7a4 1 (some .int), Cond.constant RJ6 265 (1431655765), Cond.constant RJ6 266 (858993459), Cond.constant RJ6 267 (252645135), Cond.methodLink RL 40 yX7_fells]
def wsL_law_r16 : List Cond := [Cond.instanceMethod yX7_fells, Cond.selects RX7 yX7_fells yX7_fells, Cond.code yX7_fells cX7_fells 2 (some .int), Cond.constant RX7 152 (-1000000002), Cond.methodLink RX7 153 yX7_falls, Cond.instanceMethod yX7_falls, Cond.selects RX7 yX7_falls yX7_falls, Cond.code yX7_falls cX7_falls 2 none, Cond.methodLink RX7 157 yX7_manyIn, Cond.static yX7_manyIn, Cond.code yX7_manyIn cX7_manyIn 3 (some .int), Cond.methodLink RL 41 yX6_raises, Cond.instanceMethod yX6_raises, Cond.selects RX6 yX6_raises yX6_raises, Cond.code yX6_raises cX6_raises 2 (some .int), Cond.methodLink RX6 126 yX0_rise, Cond.methodLink RL 44 yX7_raises, Cond.instanceMethod yX7_raises, Cond.selects RX7 yX7_raises yX7_raises, Cond.code yX7_raises cX7_raises 2 (some .int), Cond.methodLink RL 45 yX6_snow, Cond.instanceMethod yX6_snow, Cond.selects RX6 yX6_snow yX6_snow, Cond.code yX6_snow cX6_snow 3 (some .int)]
def wsL_law_r17 : List Cond := [Cond.fieldLink RX6 129 "LeaningStreet$Street" "snow" "I", Cond.methodLink RL 48 yX7_snow, Cond.instanceMethod yX7_snow, Cond.selects RX7 yX7_snow yX7_snow, Cond.code yX7_snow cX7_snow 2 (some .int), Cond.constantLong RX7 160 (-20), Cond.constantLong RX7 162 (20), Cond.methodLink RL 49 yX6_deal, Cond.instanceMethod yX6_deal, Cond.selects RX6 yX6_deal yX6_deal, Cond.code yX6_deal cX6_deal 4 (some .int), Cond.methodLink RX6 132 Lib.Math.min.name, Cond.methodLink RX6 138 yX4_buildByLot, Cond.instanceMethod yX4_buildByLot, Cond.selects RX4 yX4_buildByLot yX4_buildByLot, Cond.code yX4_buildByLot cX4_buildByLot 5 none, Cond.methodLink RX4 78 yX4_draw, Cond.instanceMethod yX4_draw, Cond.selects RX4 yX4_draw yX4_draw, Cond.code yX4_draw cX4_draw 1 (some .int), Cond.constant RX4 86 (1103515245), Cond.methodLink RX4 82 yX4_build, Cond.methodLink RL 52 yX7_deal, Cond.instanceMethod yX7_deal]
def wsL_law_r18 : List Cond := [Cond.selects RX7 yX7_deal yX7_deal, Cond.code yX7_deal cX7_deal 6 (some .int), Cond.methodLink RX7 164 yX7_drawn, Cond.instanceMethod yX7_drawn, Cond.selects RX7 yX7_drawn yX7_drawn, Cond.code yX7_drawn cX7_drawn 1 (some .int), Cond.constant RX7 79 (1103515245), Cond.methodLink RL 53 yX6_seed, Cond.instanceMethod yX6_seed, Cond.selects RX6 yX6_seed yX6_seed, Cond.code yX6_seed cX6_seed 3 (some .int), Cond.fieldLink RX6 141 "LeaningStreet$Street" "z" "I", Cond.methodLink RL 56 yX7_seed, Cond.instanceMethod yX7_seed, Cond.selects RX7 yX7_seed yX7_seed, Cond.code yX7_seed cX7_seed 2 (some .int), Cond.methodLink RL 57 yX6_days, Cond.instanceMethod yX6_days, Cond.selects RX6 yX6_days yX6_days, Cond.code yX6_days cX6_days 3 (some .int), Cond.fieldLink RX6 144 "LeaningStreet$Street" "day" "I", Cond.methodLink RX6 147 yX4_goOn, Cond.instanceMethod yX4_goOn, Cond.selects RX4 yX4_goOn yX4_goOn]
def wsL_law_r19 : List Cond := [Cond.code yX4_goOn cX4_goOn 3 none, Cond.methodLink RX4 168 yX4_goOneDay, Cond.instanceMethod yX4_goOneDay, Cond.selects RX4 yX4_goOneDay yX4_goOneDay, Cond.code yX4_goOneDay cX4_goOneDay 3 (some .boolean), Cond.methodLink RX4 143 yX4_workOutThrusts, Cond.methodLink RX4 149 yX4_crackAndMove, Cond.instanceMethod yX4_crackAndMove, Cond.selects RX4 yX4_crackAndMove yX4_crackAndMove, Cond.code yX4_crackAndMove cX4_crackAndMove 6 (some .boolean), Cond.methodLink RX4 106 Lib.Math.min.name, Cond.methodLink RX4 112 Lib.Math.max.name, Cond.methodLink RX4 146 yX4_tooMuch, Cond.instanceMethod yX4_tooMuch, Cond.selects RX4 yX4_tooMuch yX4_tooMuch, Cond.code yX4_tooMuch cX4_tooMuch 2 (some .int), Cond.methodLink RX4 140 yX0_bearing, Cond.methodLink RX4 153 yX4_fallByCracks, Cond.instanceMethod yX4_fallByCracks, Cond.selects RX4 yX4_fallByCracks yX4_fallByCracks, Cond.code yX4_fallByCracks cX4_fallByCracks 3 (some .boolean), Cond.methodLink RX4 162 yX0_fall, Cond.methodLink RX4 156 yX4_fallByNeighbours, Cond.instanceMethod yX4_fallByNeighbours]
def wsL_law_r20 : List Cond := [Cond.selects RX4 yX4_fallByNeighbours yX4_fallByNeighbours, Cond.code yX4_fallByNeighbours cX4_fallByNeighbours 4 none, Cond.methodLink RX4 165 yX4_hasLostItsRest, Cond.instanceMethod yX4_hasLostItsRest, Cond.selects RX4 yX4_hasLostItsRest yX4_hasLostItsRest, Cond.code yX4_hasLostItsRest cX4_hasLostItsRest 3 (some .boolean), Cond.methodLink RX4 159 yX4_props, Cond.instanceMethod yX4_props, Cond.selects RX4 yX4_props yX4_props, Cond.code yX4_props cX4_props 3 (some .int), Cond.methodLink RL 60 yX7_days, Cond.instanceMethod yX7_days, Cond.selects RX7 yX7_days yX7_days, Cond.code yX7_days cX7_days 4 (some .int), Cond.constantLong RX7 170 (100), Cond.methodLink RX7 172 yX7_goesOn, Cond.instanceMethod yX7_goesOn, Cond.selects RX7 yX7_goesOn yX7_goesOn, Cond.code yX7_goesOn cX7_goesOn 5 none, Cond.methodLink RX7 167 yX7_fallsWith, Cond.instanceMethod yX7_fallsWith, Cond.selects RX7 yX7_fallsWith yX7_fallsWith, Cond.code yX7_fallsWith cX7_fallsWith 5 (some .boolean), Cond.methodLink RL 61 yX6_street]
def wsL_law_r21 : List Cond := [Cond.instanceMethod yX6_street, Cond.selects RX6 yX6_street yX6_street, Cond.code yX6_street cX6_street 2 (some .int), Cond.fieldLink RX6 151 "LeaningStreet$Street" "rent" "I", Cond.methodLink RX6 154 yX4_standing, Cond.methodLink RX6 157 yX4_cracks, Cond.instanceMethod yX4_cracks, Cond.selects RX4 yX4_cracks yX4_cracks, Cond.code yX4_cracks cX4_cracks 3 (some .int), Cond.methodLink RX6 160 yX4_props, Cond.methodLink RX6 163 yX4_notHolding, Cond.instanceMethod yX4_notHolding, Cond.selects RX4 yX4_notHolding yX4_notHolding, Cond.code yX4_notHolding cX4_notHolding 3 (some .int), Cond.methodLink RL 64 yX7_street, Cond.instanceMethod yX7_street, Cond.selects RX7 yX7_street yX7_street, Cond.code yX7_street cX7_street 2 (some .int), Cond.methodLink RX7 175 yX7_allOf, Cond.instanceMethod yX7_allOf, Cond.selects RX7 yX7_allOf yX7_allOf, Cond.code yX7_allOf cX7_allOf 4 (some .int), Cond.methodLink RX7 178 yX7_looseOnes, Cond.instanceMethod yX7_looseOnes]
def wsL_law_r22 : List Cond := [Cond.selects RX7 yX7_looseOnes yX7_looseOnes, Cond.code yX7_looseOnes cX7_looseOnes 3 (some .int), Cond.methodLink RL 65 yX6_behind, Cond.instanceMethod yX6_behind, Cond.selects RX6 yX6_behind yX6_behind, Cond.code yX6_behind cX6_behind 3 (some .int), Cond.fieldLink RX6 170 "LeaningStreet$House" "lean" "I", Cond.methodLink RX6 166 yX6_thinkOf, Cond.instanceMethod yX6_thinkOf, Cond.selects RX6 yX6_thinkOf yX6_thinkOf, Cond.code yX6_thinkOf cX6_thinkOf 2 (some (.object "LeaningStreet$Street")), Cond.methodLink RX6 303 yX4_beLike, Cond.instanceMethod yX4_beLike, Cond.selects RX4 yX4_beLike yX4_beLike, Cond.code yX4_beLike cX4_beLike 3 none, Cond.methodLink RX4 56 yX0_beLike, Cond.instanceMethod yX0_beLike, Cond.selects RX0 yX0_beLike yX0_beLike, Cond.code yX0_beLike cX0_beLike 2 none, Cond.methodLink RL 68 yX7_behind, Cond.instanceMethod yX7_behind, Cond.selects RX7 yX7_behind yX7_behind, Cond.code yX7_behind cX7_behind 4 (some .int), Cond.methodLink RX7 181 yX7_laysBy]
def wsL_law_r23 : List Cond := [Cond.instanceMethod yX7_laysBy, Cond.selects RX7 yX7_laysBy yX7_laysBy, Cond.code yX7_laysBy cX7_laysBy 2 none, Cond.methodLink RX7 184 yX7_goesOnMany, Cond.instanceMethod yX7_goesOnMany, Cond.selects RX7 yX7_goesOnMany yX7_goesOnMany, Cond.code yX7_goesOnMany cX7_goesOnMany 3 none, Cond.methodLink RX7 187 yX7_laysBack, Cond.instanceMethod yX7_laysBack, Cond.selects RX7 yX7_laysBack yX7_laysBack, Cond.code yX7_laysBack cX7_laysBack 2 none, Cond.methodLink RL 69 yX6_lasts, Cond.instanceMethod yX6_lasts, Cond.selects RX6 yX6_lasts yX6_lasts, Cond.code yX6_lasts cX6_lasts 2 (some .int), Cond.constant RX6 176 (-1000000005), Cond.methodLink RX6 173 yX4_firstFall, Cond.instanceMethod yX4_firstFall, Cond.selects RX4 yX4_firstFall yX4_firstFall, Cond.code yX4_firstFall cX4_firstFall 5 (some .int), Cond.methodLink RX4 171 yX4_howManyStand, Cond.methodLink RL 73 yX7_lasts, Cond.instanceMethod yX7_lasts, Cond.selects RX7 yX7_lasts yX7_lasts]
def wsL_law_r24 : List Cond := [Cond.code yX7_lasts cX7_lasts 4 (some .int), Cond.methodLink RX7 190 yX7_orNone, Cond.static yX7_orNone, Cond.code yX7_orNone cX7_orNone 1 (some .int), Cond.constant RX7 70 (-1000000005), Cond.methodLink RL 74 yX6_taken, Cond.instanceMethod yX6_taken, Cond.selects RX6 yX6_taken yX6_taken, Cond.code yX6_taken cX6_taken 4 (some .int), Cond.methodLink RL 77 yX7_taken, Cond.instanceMethod yX7_taken, Cond.selects RX7 yX7_taken yX7_taken, Cond.code yX7_taken cX7_taken 5 (some .int), Cond.constantLong RX7 193 (60), Cond.methodLink RL 78 yX6_propped, Cond.instanceMethod yX6_propped, Cond.selects RX6 yX6_propped yX6_propped, Cond.code yX6_propped cX6_propped 5 (some .int), Cond.methodLink RX6 177 yX4_crackedSince, Cond.instanceMethod yX4_crackedSince, Cond.selects RX4 yX4_crackedSince yX4_crackedSince, Cond.code yX4_crackedSince cX4_crackedSince 4 (some .int), Cond.methodLink RX6 184 yX6_isEnough, Cond.instanceMethod yX6_isEnough]
def wsL_law_r25 : List Cond := [Cond.selects RX6 yX6_isEnough yX6_isEnough, Cond.code yX6_isEnough cX6_isEnough 4 (some .boolean), Cond.fieldLink RX6 215 "LeaningStreet$House" "prop" "I", Cond.methodLink RL 81 yX7_propped, Cond.instanceMethod yX7_propped, Cond.selects RX7 yX7_propped yX7_propped, Cond.code yX7_propped cX7_propped 4 (some .int), Cond.constantLong RX7 195 (40), Cond.methodLink RX7 197 yX7_keeps, Cond.instanceMethod yX7_keeps, Cond.selects RX7 yX7_keeps yX7_keeps, Cond.code yX7_keeps cX7_keeps 4 (some .boolean), Cond.methodLink RL 82 yX6_wall, Cond.instanceMethod yX6_wall, Cond.selects RX6 yX6_wall yX6_wall, Cond.code yX6_wall cX6_wall 7 (some .int), Cond.methodLink RX6 188 yX6_thinkWithoutWall, Cond.instanceMethod yX6_thinkWithoutWall, Cond.selects RX6 yX6_thinkWithoutWall yX6_thinkWithoutWall, Cond.code yX6_thinkWithoutWall cX6_thinkWithoutWall 3 none, Cond.methodLink RL 85 yX7_wall, Cond.instanceMethod yX7_wall, Cond.selects RX7 yX7_wall yX7_wall, Cond.code yX7_wall cX7_wall 7 (some .int)]
def wsL_law_r26 : List Cond := [Cond.methodLink RL 86 yX6_snows, Cond.instanceMethod yX6_snows, Cond.selects RX6 yX6_snows yX6_snows, Cond.code yX6_snows cX6_snows 3 (some .int), Cond.methodLink RL 89 yX7_snows, Cond.instanceMethod yX7_snows, Cond.selects RX7 yX7_snows yX7_snows, Cond.code yX7_snows cX7_snows 3 (some .int), Cond.methodLink RL 90 yX6_began, Cond.instanceMethod yX6_began, Cond.selects RX6 yX6_began yX6_began, Cond.code yX6_began cX6_began 8 (some .int), Cond.fieldLink RX6 194 "LeaningStreet$Row" "sort" "I", Cond.constant RX6 197 (-1000000011), Cond.methodLink RX6 191 yX6_isSheet, Cond.static yX6_isSheet, Cond.code yX6_isSheet cX6_isSheet 1 (some .boolean), Cond.methodLink RX6 198 yX4_differsFrom, Cond.instanceMethod yX4_differsFrom, Cond.selects RX4 yX4_differsFrom yX4_differsFrom, Cond.code yX4_differsFrom cX4_differsFrom 5 (some .int), Cond.fieldLink RX4 90 "LeaningStreet$Row" "many" "I", Cond.fieldLink RX4 103 "LeaningStreet$Row" "places" "[I", Cond.methodLink RX4 93 yX2_isNumber]
def wsL_law_r27 : List Cond := [Cond.instanceMethod yX2_isNumber, Cond.selects RX2 yX2_isNumber yX2_isNumber, Cond.code yX2_isNumber cX2_isNumber 2 (some .boolean), Cond.constant RX2 34 (-1000000005), Cond.methodLink RL 93 yX7_began, Cond.instanceMethod yX7_began, Cond.selects RX7 yX7_began yX7_began, Cond.code yX7_began cX7_began 10 (some .int), Cond.constant RX7 308 (-1000000011), Cond.methodLink RX7 302 yX7_isSheet, Cond.static yX7_isSheet, Cond.code yX7_isSheet cX7_isSheet 1 (some .boolean), Cond.constantLong RX7 300 (3), Cond.methodLink RL 94 yX6_fee, Cond.instanceMethod yX6_fee, Cond.selects RX6 yX6_fee yX6_fee, Cond.code yX6_fee cX6_fee 2 (some .int), Cond.fieldLink RX6 202 "LeaningStreet$Street" "counting" "[LLeaningStreet$Text;", Cond.methodLink RX6 206 yX5_value, Cond.methodLink RL 97 yX7_fee, Cond.instanceMethod yX7_fee, Cond.selects RX7 yX7_fee yX7_fee, Cond.code yX7_fee cX7_fee 2 (some .int), Cond.methodLink RL 98 yX6_fine]
def wsL_law_r28 : List Cond := [Cond.instanceMethod yX6_fine, Cond.selects RX6 yX6_fine yX6_fine, Cond.code yX6_fine cX6_fine 4 (some .int), Cond.fieldLink RX6 212 "LeaningStreet$House" "crack" "I", Cond.methodLink RL 101 yX7_fine, Cond.instanceMethod yX7_fine, Cond.selects RX7 yX7_fine yX7_fine, Cond.code yX7_fine cX7_fine 3 (some .int), Cond.methodLink RL 102 yX6_feed, Cond.instanceMethod yX6_feed, Cond.selects RX6 yX6_feed yX6_feed, Cond.code yX6_feed cX6_feed 4 (some .int), Cond.fieldLink RX6 218 "LeaningStreet$Reader" "many" "I", Cond.methodLink RX6 219 yX1_addBytesOf, Cond.instanceMethod yX1_addBytesOf, Cond.selects RX1 yX1_addBytesOf yX1_addBytesOf, Cond.code yX1_addBytesOf cX1_addBytesOf 3 none, Cond.methodLink RL 105 yX7_feed, Cond.instanceMethod yX7_feed, Cond.selects RX7 yX7_feed yX7_feed, Cond.code yX7_feed cX7_feed 6 (some .int), Cond.fieldLink RX7 200 "LeaningStreetModel" "taped" "I", Cond.methodLink RL 106 yX6_trim, Cond.instanceMethod yX6_trim]
def wsL_law_r29 : List Cond := [Cond.selects RX6 yX6_trim yX6_trim, Cond.code yX6_trim cX6_trim 2 (some .int), Cond.methodLink RL 109 yX7_trim, Cond.instanceMethod yX7_trim, Cond.selects RX7 yX7_trim yX7_trim, Cond.code yX7_trim cX7_trim 2 (some .int), Cond.methodLink RL 110 yX6_text, Cond.instanceMethod yX6_text, Cond.selects RX6 yX6_text yX6_text, Cond.code yX6_text cX6_text 2 (some .int), Cond.fieldLink RX6 226 "LeaningStreet$Reader" "start" "I", Cond.fieldLink RX6 229 "LeaningStreet$Street" "texts" "I", Cond.methodLink RX6 222 yX1_isText, Cond.instanceMethod yX1_isText, Cond.selects RX1 yX1_isText yX1_isText, Cond.code yX1_isText cX1_isText 1 (some .boolean), Cond.methodLink RX1 40 yX1_goNext, Cond.instanceMethod yX1_goNext, Cond.selects RX1 yX1_goNext yX1_goNext, Cond.code yX1_goNext cX1_goNext 3 none, Cond.methodLink RX1 62 yX1_sortOf, Cond.static yX1_sortOf, Cond.code yX1_sortOf cX1_sortOf 1 (some .int), Cond.methodLink RX1 43 yX1_keyHere]
def wsL_law_r30 : List Cond := [Cond.instanceMethod yX1_keyHere, Cond.selects RX1 yX1_keyHere yX1_keyHere, Cond.code yX1_keyHere cX1_keyHere 2 (some .int), Cond.methodLink RX1 72 yX1_isWord, Cond.instanceMethod yX1_isWord, Cond.selects RX1 yX1_isWord yX1_isWord, Cond.code yX1_isWord cX1_isWord 3 (some .boolean), Cond.methodLink RX1 76 yJ0_length_8abf5, Cond.instanceMethod yJ0_length_8abf5, Cond.selects RJ0 yJ0_length_8abf5 yJ0_length_8abf5, Cond.initialized RJ0, Cond.code yJ0_length_8abf5 cJ0_length_8abf5 1 (some .int), Cond.fieldLink RJ0 9 "java/lang/String" "value" "[B", Cond.methodLink RJ0 335 yJ0_coder_7d493, Cond.instanceMethod yJ0_coder_7d493, Cond.selects RJ0 yJ0_coder_7d493 yJ0_coder_7d493, Cond.code yJ0_coder_7d493 cJ0_coder_7d493 1 (some .byte), Cond.fieldLink RJ0 38 "java/lang/String" "COMPACT_STRINGS" "Z", Cond.fieldLink RJ0 15 "java/lang/String" "coder" "B", Cond.methodLink RX1 81 yJ0_charAt_5068e, Cond.instanceMethod yJ0_charAt_5068e, Cond.selects RJ0 yJ0_charAt_5068e yJ0_charAt_5068e, Cond.code yJ0_charAt_5068e cJ0_charAt_5068e 2 (some .char), Cond.methodLink RJ0 492 yJ0_isLatin1_aae02]
def wsL_law_r31 : List Cond := [Cond.instanceMethod yJ0_isLatin1_aae02, Cond.selects RJ0 yJ0_isLatin1_aae02 yJ0_isLatin1_aae02, Cond.code yJ0_isLatin1_aae02 cJ0_isLatin1_aae02 1 (some .boolean), Cond.methodLink RJ0 495 yJ1_charAt_3b067, Cond.static yJ1_charAt_3b067, Cond.initialized RJ1, Cond.code yJ1_charAt_3b067 cJ1_charAt_3b067 2 (some .char), Cond.methodLink RJ1 9 yJ0_checkIndex_df160, Cond.static yJ0_checkIndex_df160, Cond.code yJ0_checkIndex_df160 cJ0_checkIndex_df160 2 none, Cond.fieldLink RJ0 1053 "jdk/internal/util/Preconditions" "SIOOBE_FORMATTER" "Ljava/util/function/BiFunction;", Cond.methodLink RJ0 1059 yJ3_checkIndex_8e157, Cond.static yJ3_checkIndex_8e157, Cond.initialized RJ3, Cond.code yJ3_checkIndex_8e157 cJ3_checkIndex_8e157 3 (some .int), Cond.methodLink RJ0 498 yJ2_charAt_3b067, Cond.static yJ2_charAt_3b067, Cond.initialized RJ2, Cond.code yJ2_charAt_3b067 cJ2_charAt_3b067 2 (some .char), Cond.methodLink RJ2 67 yJ2_checkIndex_2214a, Cond.static yJ2_checkIndex_2214a, Cond.code yJ2_checkIndex_2214a cJ2_checkIndex_2214a 2 none, Cond.methodLink RJ2 48 yJ2_length_9d52b, Cond.static yJ2_length_9d52b]
def wsL_law_r32 : List Cond := [Cond.code yJ2_length_9d52b cJ2_length_9d52b 1 (some .int), Cond.methodLink RJ2 414 yJ0_checkIndex_df160, Cond.methodLink RJ2 71 yJ2_getChar_3b067, Cond.static yJ2_getChar_3b067, Cond.code yJ2_getChar_3b067 cJ2_getChar_3b067 2 (some .char), Cond.fieldLink RJ2 44 "java/lang/StringUTF16" "$assertionsDisabled" "Z", Cond.fieldLink RJ2 59 "java/lang/StringUTF16" "HI_BYTE_SHIFT" "I", Cond.fieldLink RJ2 63 "java/lang/StringUTF16" "LO_BYTE_SHIFT" "I", Cond.methodLink RX1 47 yX1_isOr, Cond.instanceMethod yX1_isOr, Cond.selects RX1 yX1_isOr yX1_isOr, Cond.code yX1_isOr cX1_isOr 5 (some .boolean), Cond.methodLink RX1 89 yX1_isAnd, Cond.instanceMethod yX1_isAnd, Cond.selects RX1 yX1_isAnd yX1_isAnd, Cond.methodLink RX1 92 yX1_passed, Cond.instanceMethod yX1_passed, Cond.selects RX1 yX1_passed yX1_passed, Cond.code yX1_passed cX1_passed 4 (some .int), Cond.methodLink RX1 85 yX1_isAt, Cond.instanceMethod yX1_isAt, Cond.selects RX1 yX1_isAt yX1_isAt, Cond.code yX1_isAt cX1_isAt 2 (some .boolean), Cond.methodLink RX1 96 yX1_write]
def wsL_law_r33 : List Cond := [Cond.instanceMethod yX1_write, Cond.selects RX1 yX1_write yX1_write, Cond.code yX1_write cX1_write 2 none, Cond.code yX1_isAnd cX1_isAnd 5 (some .boolean), Cond.methodLink RX1 100 yX1_isTest, Cond.instanceMethod yX1_isTest, Cond.selects RX1 yX1_isTest yX1_isTest, Cond.code yX1_isPiece cX1_isPiece 4 (some .boolean), Cond.methodLink RX1 112 yX1_isNumber, Cond.instanceMethod yX1_isNumber, Cond.selects RX1 yX1_isNumber yX1_isNumber, Cond.code yX1_isNumber cX1_isNumber 3 (some .boolean), Cond.methodLink RX1 119 yX1_takePiece, Cond.instanceMethod yX1_takePiece, Cond.selects RX1 yX1_takePiece yX1_takePiece, Cond.code yX1_takePiece cX1_takePiece 2 (some .boolean), Cond.methodLink RX1 116 yX1_isName, Cond.instanceMethod yX1_isName, Cond.selects RX1 yX1_isName yX1_isName, Cond.code yX1_isName cX1_isName 3 (some .boolean), Cond.methodLink RX1 129 yJ0_indexOf_0f7a4, Cond.instanceMethod yJ0_indexOf_0f7a4, Cond.selects RJ0 yJ0_indexOf_0f7a4 yJ0_indexOf_0f7a4, Cond.code yJ0_indexOf_0f7a4 cJ0_indexOf_0f7a4 2 (some .int)]
def wsL_law_r34 : List Cond := [Cond.methodLink RJ0 633 yJ0_indexOf_7cf53, Cond.instanceMethod yJ0_indexOf_7cf53, Cond.selects RJ0 yJ0_indexOf_7cf53 yJ0_indexOf_7cf53, Cond.code yJ0_indexOf_7cf53 cJ0_indexOf_7cf53 3 (some .int), Cond.methodLink RJ0 505 yJ0_length_8abf5, Cond.methodLink RJ0 637 yJ1_indexOf_4cfef, Cond.static yJ1_indexOf_4cfef, Cond.code yJ1_indexOf_4cfef cJ1_indexOf_4cfef 4 (some .int), Cond.methodLink RJ1 92 Lib.Math.max.name, Cond.methodLink RJ1 38 Lib.Math.min.name, Cond.methodLink RJ1 88 yJ1_canEncode_9a6ad, Cond.static yJ1_canEncode_9a6ad, Cond.code yJ1_canEncode_9a6ad cJ1_canEncode_9a6ad 1 (some .boolean), Cond.methodLink RJ1 95 yJ1_indexOfChar_4cfef, Cond.static yJ1_indexOfChar_4cfef, Cond.code yJ1_indexOfChar_4cfef cJ1_indexOfChar_4cfef 6 (some .int), Cond.methodLink RJ0 640 yJ2_indexOf_4cfef, Cond.static yJ2_indexOf_4cfef, Cond.code yJ2_indexOf_4cfef cJ2_indexOf_4cfef 4 (some .int), Cond.methodLink RJ2 224 Lib.Math.max.name, Cond.methodLink RJ2 183 Lib.Math.min.name, Cond.constant RJ2 227 (65536), Cond.methodLink RJ2 228 yJ2_indexOfChar_4cfef, Cond.static yJ2_indexOfChar_4cfef]
def wsL_law_r35 : List Cond := [Cond.code yJ2_indexOfChar_4cfef cJ2_indexOfChar_4cfef 4 (some .int), Cond.methodLink RJ2 96 yJ2_checkBoundsBeginEnd_d044e, Cond.static yJ2_checkBoundsBeginEnd_d044e, Cond.code yJ2_checkBoundsBeginEnd_d044e cJ2_checkBoundsBeginEnd_d044e 3 none, Cond.methodLink RJ2 241 yJ0_checkBoundsBeginEnd_23922, Cond.static yJ0_checkBoundsBeginEnd_23922, Cond.code yJ0_checkBoundsBeginEnd_23922 cJ0_checkBoundsBeginEnd_23922 3 none, Cond.methodLink RJ0 1062 yJ3_checkFromToIndex_8c36e, Cond.static yJ3_checkFromToIndex_8c36e, Cond.code yJ3_checkFromToIndex_8c36e cJ3_checkFromToIndex_8c36e 4 (some .int), Cond.methodLink RJ2 244 yJ2_indexOfCharUnsafe_4cfef, Cond.static yJ2_indexOfCharUnsafe_4cfef, Cond.code yJ2_indexOfCharUnsafe_4cfef cJ2_indexOfCharUnsafe_4cfef 5 (some .int), Cond.methodLink RJ2 232 yJ2_indexOfSupplementary_4cfef, Cond.static yJ2_indexOfSupplementary_4cfef, Cond.code yJ2_indexOfSupplementary_4cfef cJ2_indexOfSupplementary_4cfef 7 (some .int), Cond.methodLink RJ2 164 yJ11_isValidCodePoint_9a6ad, Cond.static yJ11_isValidCodePoint_9a6ad, Cond.initialized RJ11, Cond.code yJ11_isValidCodePoint_9a6ad cJ11_isValidCodePoint_9a6ad 2 (some .boolean), Cond.methodLink RJ2 157 yJ11_highSurrogate_5068e, Cond.static yJ11_highSurrogate_5068e, Cond.code yJ11_highSurrogate_5068e cJ11_highSurrogate_5068e 1 (some .char), Cond.constant RJ11 110 (55232)]
def wsL_law_r36 : List Cond := [Cond.methodLink RJ2 161 yJ11_lowSurrogate_5068e, Cond.static yJ11_lowSurrogate_5068e, Cond.code yJ11_lowSurrogate_5068e cJ11_lowSurrogate_5068e 1 (some .char), Cond.constant RJ11 76 (56320), Cond.methodLink RX1 109 yX1_isPiece, Cond.instanceMethod yX1_isPiece, Cond.selects RX1 yX1_isPiece yX1_isPiece, Cond.code yX1_isSum cX1_isSum 6 (some .boolean), Cond.methodLink RX1 106 yX1_isTerm, Cond.instanceMethod yX1_isTerm, Cond.selects RX1 yX1_isTerm yX1_isTerm, Cond.code yX1_isTerm cX1_isTerm 6 (some .boolean), Cond.code yX1_isTest cX1_isTest 5 (some .boolean), Cond.methodLink RX1 103 yX1_isSum, Cond.instanceMethod yX1_isSum, Cond.selects RX1 yX1_isSum yX1_isSum, Cond.methodLink RX6 232 yX1_madeText, Cond.instanceMethod yX1_madeText, Cond.selects RX1 yX1_madeText yX1_madeText, Cond.code yX1_madeText cX1_madeText 2 (some (.object "LeaningStreet$Text")), Cond.classLink RX1 51 RX5, Cond.instantiable RX5 5, Cond.methodLink RX1 53 yJ7_copyOf_59c91, Cond.static yJ7_copyOf_59c91]
def wsL_law_r37 : List Cond := [Cond.initialized RJ7, Cond.code yJ7_copyOf_59c91 cJ7_copyOf_59c91 3 (some (.array .int)), Cond.methodLink RJ7 316 ⟨"[I", "clone", "()Ljava/lang/Object;"⟩, Cond.sameMethod "[I" "java/lang/Object" "clone" "()Ljava/lang/Object;", Cond.native ⟨"java/lang/Object", "clone", "()Ljava/lang/Object;"⟩, Cond.instanceMethod ⟨"java/lang/Object", "clone", "()Ljava/lang/Object;"⟩, Cond.selects "[I" ⟨"[I", "clone", "()Ljava/lang/Object;"⟩ ⟨"java/lang/Object", "clone", "()Ljava/lang/Object;"⟩, Cond.classLink RJ7 317 "[I", Cond.methodLink RJ7 304 Lib.Math.min.name, Cond.methodLink RJ7 150 arraycopyName, Cond.native arraycopyName, Cond.static arraycopyName, Cond.initialized "java/lang/System", Cond.methodLink RX1 59 yX5_init, Cond.instanceMethod yX5_init, Cond.code yX5_init cX5_init 5 none, Cond.methodLink RX5 3 objectInit, Cond.fieldLink RX5 9 "LeaningStreet$Text" "number" "I", Cond.fieldLink RX5 15 "LeaningStreet$Text" "key" "I", Cond.fieldLink RX5 18 "LeaningStreet$Text" "pieces" "I", Cond.methodLink RX5 25 Lib.Math.max.name, Cond.methodLink RX6 236 yX4_addText, Cond.instanceMethod yX4_addText, Cond.selects RX4 yX4_addText yX4_addText]
def wsL_law_r38 : List Cond := [Cond.code yX4_addText cX4_addText 2 none, Cond.fieldLink RX4 87 "LeaningStreet$Text" "key" "I", Cond.methodLink RL 113 yX7_text, Cond.instanceMethod yX7_text, Cond.selects RX7 yX7_text yX7_text, Cond.code yX7_text cX7_text 3 (some .int), Cond.fieldLink RX7 218 "LeaningStreetModel" "begin" "I", Cond.fieldLink RX7 268 "LeaningStreetModel" "said" "I", Cond.fieldLink RX7 240 "LeaningStreetModel" "laid" "I", Cond.methodLink RX7 289 yX7_parse, Cond.instanceMethod yX7_parse, Cond.selects RX7 yX7_parse yX7_parse, Cond.code yX7_parse cX7_parse 3 (some .int), Cond.fieldLink RX7 212 "LeaningStreetModel" "behind" "I", Cond.fieldLink RX7 215 "LeaningStreetModel" "token" "I", Cond.fieldLink RX7 277 "LeaningStreetModel" "deep" "I", Cond.fieldLink RX7 274 "LeaningStreetModel" "turned" "I", Cond.fieldLink RX7 237 "LeaningStreetModel" "laidAt" "I", Cond.methodLink RX7 249 yX7_nextToken, Cond.instanceMethod yX7_nextToken, Cond.selects RX7 yX7_nextToken yX7_nextToken, Cond.code yX7_nextToken cX7_nextToken 3 none, Cond.fieldLink RX7 224 "LeaningStreetModel" "letter" "I", Cond.fieldLink RX7 230 "LeaningStreetModel" "number" "I"]
def wsL_law_r39 : List Cond := [Cond.methodLink RX7 221 yX7_isLetter, Cond.instanceMethod yX7_isLetter, Cond.selects RX7 yX7_isLetter yX7_isLetter, Cond.code yX7_isLetter cX7_isLetter 2 (some .boolean), Cond.constantLong RX7 204 (97), Cond.constantLong RX7 206 (122), Cond.methodLink RX7 227 yX7_isDigit, Cond.instanceMethod yX7_isDigit, Cond.selects RX7 yX7_isDigit yX7_isDigit, Cond.code yX7_isDigit cX7_isDigit 2 (some .boolean), Cond.constantLong RX7 208 (48), Cond.constantLong RX7 210 (57), Cond.methodLink RX7 286 yX7_key, Cond.instanceMethod yX7_key, Cond.selects RX7 yX7_key yX7_key, Cond.code yX7_key cX7_key 1 (some .int), Cond.methodLink RX7 233 yX7_isWordAt, Cond.instanceMethod yX7_isWordAt, Cond.selects RX7 yX7_isWordAt yX7_isWordAt, Cond.code yX7_isWordAt cX7_isWordAt 6 (some .boolean), Cond.methodLink RX7 280 yX7_either, Cond.instanceMethod yX7_either, Cond.selects RX7 yX7_either yX7_either, Cond.code yX7_either cX7_either 2 (some .boolean)]
def wsL_law_r40 : List Cond := [Cond.methodLink RX7 243 yX7_both, Cond.instanceMethod yX7_both, Cond.selects RX7 yX7_both yX7_both, Cond.methodLink RX7 246 yX7_isSign, Cond.instanceMethod yX7_isSign, Cond.selects RX7 yX7_isSign yX7_isSign, Cond.code yX7_isSign cX7_isSign 2 (some .boolean), Cond.methodLink RX7 252 yX7_step, Cond.instanceMethod yX7_step, Cond.selects RX7 yX7_step yX7_step, Cond.code yX7_step cX7_step 3 none, Cond.code yX7_both cX7_both 2 (some .boolean), Cond.methodLink RX7 256 yX7_test, Cond.instanceMethod yX7_test, Cond.selects RX7 yX7_test yX7_test, Cond.code yX7_part0 cX7_part0 2 (some .boolean), Cond.methodLink RX7 271 yX7_isName, Cond.static yX7_isName, Cond.code yX7_isName cX7_isName 2 (some .boolean), Cond.methodLink RX7 265 yX7_part0, Cond.instanceMethod yX7_part0, Cond.selects RX7 yX7_part0 yX7_part0, Cond.code yX7_sum cX7_sum 3 (some .boolean), Cond.methodLink RX7 262 yX7_term]
def wsL_law_r41 : List Cond := [Cond.instanceMethod yX7_term, Cond.selects RX7 yX7_term yX7_term, Cond.code yX7_term cX7_term 3 (some .boolean), Cond.code yX7_test cX7_test 3 (some .boolean), Cond.methodLink RX7 259 yX7_sum, Cond.instanceMethod yX7_sum, Cond.selects RX7 yX7_sum yX7_sum, Cond.methodLink RL 114 yX6_textTold, Cond.instanceMethod yX6_textTold, Cond.selects RX6 yX6_textTold yX6_textTold, Cond.code yX6_textTold cX6_textTold 4 (some .int), Cond.fieldLink RX6 240 "LeaningStreet$Street" "allTexts" "[LLeaningStreet$Text;", Cond.fieldLink RX6 243 "LeaningStreet$Text" "key" "I", Cond.fieldLink RX6 246 "LeaningStreet$Text" "pieces" "I", Cond.methodLink RL 117 yX7_textTold, Cond.instanceMethod yX7_textTold, Cond.selects RX7 yX7_textTold yX7_textTold, Cond.code yX7_textTold cX7_textTold 3 (some .int), Cond.methodLink RX7 292 yX7_isText, Cond.instanceMethod yX7_isText, Cond.selects RX7 yX7_isText yX7_isText, Cond.code yX7_isText cX7_isText 2 (some .boolean), Cond.methodLink RL 118 yX6_why, Cond.instanceMethod yX6_why]
def wsL_law_r42 : List Cond := [Cond.selects RX6 yX6_why yX6_why, Cond.code yX6_why cX6_why 3 (some .int), Cond.fieldLink RX6 249 "LeaningStreet$Text" "number" "I", Cond.methodLink RL 121 yX7_why, Cond.instanceMethod yX7_why, Cond.selects RX7 yX7_why yX7_why, Cond.code yX7_why cX7_why 2 (some .int), Cond.constantLong RX7 295 (2), Cond.methodLink RL 122 yX6_sheet, Cond.instanceMethod yX6_sheet, Cond.selects RX6 yX6_sheet yX6_sheet, Cond.code yX6_sheet cX6_sheet 4 (some .int), Cond.constant RX6 255 (-1000000014), Cond.methodLink RX6 252 yX2_begin, Cond.instanceMethod yX2_begin, Cond.selects RX2 yX2_begin yX2_begin, Cond.code yX2_begin cX2_begin 3 none, Cond.methodLink RX2 22 yJ7_fill_53178, Cond.static yJ7_fill_53178, Cond.code yJ7_fill_53178 cJ7_fill_53178 4 none, Cond.methodLink RL 125 yX7_sheet, Cond.instanceMethod yX7_sheet, Cond.selects RX7 yX7_sheet yX7_sheet, Cond.code yX7_sheet cX7_sheet 5 (some .int)]
def wsL_law_r43 : List Cond := [Cond.constantLong RX7 305 (-1), Cond.constant RX7 307 (-1000000014), Cond.methodLink RL 126 yX6_mark, Cond.instanceMethod yX6_mark, Cond.selects RX6 yX6_mark yX6_mark, Cond.code yX6_mark cX6_mark 5 (some .int), Cond.constant RX6 259 (-1000000013), Cond.fieldLink RX6 260 "LeaningStreet$Row" "places" "[I", Cond.constant RX6 263 (-99999), Cond.constant RX6 264 (99999), Cond.methodLink RX6 256 yX2_hasPlace, Cond.instanceMethod yX2_hasPlace, Cond.selects RX2 yX2_hasPlace yX2_hasPlace, Cond.code yX2_hasPlace cX2_hasPlace 2 (some .boolean), Cond.methodLink RL 129 yX7_mark, Cond.instanceMethod yX7_mark, Cond.selects RX7 yX7_mark yX7_mark, Cond.code yX7_mark cX7_mark 4 (some .int), Cond.constant RX7 309 (-1000000013), Cond.constantLong RX7 310 (-99999), Cond.constantLong RX7 312 (99999), Cond.methodLink RL 130 yX6_pour, Cond.instanceMethod yX6_pour, Cond.selects RX6 yX6_pour yX6_pour]
def wsL_law_r44 : List Cond := [Cond.code yX6_pour cX6_pour 2 (some .int), Cond.methodLink RX6 265 yX4_takeWalls, Cond.instanceMethod yX4_takeWalls, Cond.selects RX4 yX4_takeWalls yX4_takeWalls, Cond.code yX4_takeWalls cX4_takeWalls 5 (some .int), Cond.methodLink RL 133 yX7_pour, Cond.instanceMethod yX7_pour, Cond.selects RX7 yX7_pour yX7_pour, Cond.code yX7_pour cX7_pour 6 (some .int), Cond.methodLink RL 134 yX6_reads, Cond.instanceMethod yX6_reads, Cond.selects RX6 yX6_reads yX6_reads, Cond.code yX6_reads cX6_reads 4 (some .int), Cond.fieldLink RX6 268 "LeaningStreet$Row" "many" "I", Cond.methodLink RX6 269 yX2_isNumber, Cond.methodLink RL 137 yX7_reads, Cond.instanceMethod yX7_reads, Cond.selects RX7 yX7_reads yX7_reads, Cond.code yX7_reads cX7_reads 4 (some .int), Cond.methodLink RL 138 yX6_copy, Cond.instanceMethod yX6_copy, Cond.selects RX6 yX6_copy yX6_copy, Cond.code yX6_copy cX6_copy 8 (some .int), Cond.methodLink RX6 275 arraycopyName]
def wsL_law_r45 : List Cond := [Cond.methodLink RX6 272 yX2_hasPlaces, Cond.instanceMethod yX2_hasPlaces, Cond.selects RX2 yX2_hasPlaces yX2_hasPlaces, Cond.code yX2_hasPlaces cX2_hasPlaces 3 (some .boolean), Cond.methodLink RL 142 yX7_copy, Cond.instanceMethod yX7_copy, Cond.selects RX7 yX7_copy yX7_copy, Cond.code yX7_copy cX7_copy 7 (some .int), Cond.methodLink RL 143 yX6_lay, Cond.instanceMethod yX6_lay, Cond.selects RX6 yX6_lay yX6_lay, Cond.code yX6_lay cX6_lay 6 (some .int), Cond.fieldLink RX6 284 "LeaningStreet$Slot" "thing" "I", Cond.fieldLink RX6 287 "LeaningStreet$Slot" "house" "LLeaningStreet$House;", Cond.fieldLink RX6 295 "LeaningStreet$Slot" "row" "LLeaningStreet$Row;", Cond.fieldLink RX6 302 "LeaningStreet$Slot" "number" "I", Cond.methodLink RX6 281 yX6_isSlot, Cond.static yX6_isSlot, Cond.code yX6_isSlot cX6_isSlot 1 (some .boolean), Cond.methodLink RX6 291 yX0_beLike, Cond.methodLink RX6 299 yX2_beLike, Cond.instanceMethod yX2_beLike, Cond.selects RX2 yX2_beLike yX2_beLike, Cond.code yX2_beLike cX2_beLike 2 none]
def wsL_law_r46 : List Cond := [Cond.methodLink RX2 28 arraycopyName, Cond.methodLink RL 146 yX7_lay, Cond.instanceMethod yX7_lay, Cond.selects RX7 yX7_lay yX7_lay, Cond.code yX7_lay cX7_lay 7 (some .int), Cond.methodLink RX7 316 yX7_isSlot, Cond.static yX7_isSlot, Cond.code yX7_isSlot cX7_isSlot 1 (some .boolean), Cond.constantLong RX7 314 (4), Cond.methodLink RL 147 yX6_ask, Cond.instanceMethod yX6_ask, Cond.selects RX6 yX6_ask yX6_ask, Cond.code yX6_ask cX6_ask 4 (some .int), Cond.methodLink RL 150 yX7_ask, Cond.instanceMethod yX7_ask, Cond.selects RX7 yX7_ask yX7_ask, Cond.code yX7_ask cX7_ask 3 (some .int), Cond.methodLink RL 151 yX6_item, Cond.instanceMethod yX6_item, Cond.selects RX6 yX6_item yX6_item, Cond.code yX6_item cX6_item 4 (some .int), Cond.methodLink RL 154 yX7_item, Cond.instanceMethod yX7_item, Cond.selects RX7 yX7_item yX7_item]
def wsL_law_r47 : List Cond := [Cond.code yX7_item cX7_item 4 (some .int), Cond.methodLink RL 155 yX6_rest, Cond.instanceMethod yX6_rest, Cond.selects RX6 yX6_rest yX6_rest, Cond.code yX6_rest cX6_rest 4 (some .int), Cond.methodLink RL 158 yX7_rest, Cond.instanceMethod yX7_rest, Cond.selects RX7 yX7_rest yX7_rest, Cond.code yX7_rest cX7_rest 3 (some .int), Cond.methodLink RL 159 yX6_tell, Cond.instanceMethod yX6_tell, Cond.selects RX6 yX6_tell yX6_tell, Cond.code yX6_tell cX6_tell 2 (some .int), Cond.methodLink RL 162 yX7_tell, Cond.instanceMethod yX7_tell, Cond.selects RX7 yX7_tell yX7_tell, Cond.code yX7_tell cX7_tell 2 (some .int), Cond.fieldLink RX7 319 "LeaningStreetModel" "waiting" "I", Cond.methodLink RL 163 yX6_check, Cond.instanceMethod yX6_check, Cond.selects RX6 yX6_check yX6_check, Cond.code yX6_check cX6_check 6 (some .int), Cond.methodLink RL 166 yX7_check, Cond.instanceMethod yX7_check]
def wsL_law_r48 : List Cond := [Cond.selects RX7 yX7_check yX7_check, Cond.code yX7_check cX7_check 5 (some .int), Cond.constantLong RX7 322 (30), Cond.fieldLink RX7 324 "LeaningStreetModel" "hasImage" "Z", Cond.methodLink RX7 328 yX7_setAside, Cond.instanceMethod yX7_setAside, Cond.selects RX7 yX7_setAside yX7_setAside, Cond.code yX7_setAside cX7_setAside 4 none, Cond.methodLink RL 167 yX6_keep, Cond.instanceMethod yX6_keep, Cond.selects RX6 yX6_keep yX6_keep, Cond.code yX6_keep cX6_keep 1 (some .int), Cond.methodLink RL 170 yX7_keep, Cond.instanceMethod yX7_keep, Cond.selects RX7 yX7_keep yX7_keep, Cond.code yX7_keep cX7_keep 1 (some .int), Cond.methodLink RL 171 yX6_back, Cond.instanceMethod yX6_back, Cond.selects RX6 yX6_back yX6_back, Cond.code yX6_back cX6_back 1 (some .int), Cond.methodLink RL 174 yX7_back, Cond.instanceMethod yX7_back, Cond.selects RX7 yX7_back yX7_back, Cond.code yX7_back cX7_back 1 (some .int)]
def wsL_law_r49 : List Cond := [Cond.methodLink RL 175 yX6_count, Cond.instanceMethod yX6_count, Cond.selects RX6 yX6_count yX6_count, Cond.code yX6_count cX6_count 2 (some .int), Cond.methodLink RL 178 yX7_count, Cond.instanceMethod yX7_count, Cond.selects RX7 yX7_count yX7_count, Cond.code yX7_count cX7_count 2 (some .int)]
def wsL_law : List Cond := (wsL_law_r1 ++ (wsL_law_r2 ++ (wsL_law_r3 ++ (wsL_law_r4 ++ (wsL_law_r5 ++ (wsL_law_r6 ++ (wsL_law_r7 ++ (wsL_law_r8 ++ (wsL_law_r9 ++ (wsL_law_r10 ++ (wsL_law_r11 ++ (wsL_law_r12 ++ (wsL_law_r13 ++ (wsL_law_r14 ++ (wsL_law_r15 ++ (wsL_law_r16 ++ (wsL_law_r17 ++ (wsL_law_r18 ++ (wsL_law_r19 ++ (wsL_law_r20 ++ (wsL_law_r21 ++ (wsL_law_r22 ++ (wsL_law_r23 ++ (wsL_law_r24 ++ (wsL_law_r25 ++ (wsL_law_r26 ++ (wsL_law_r27 ++ (wsL_law_r28 ++ (wsL_law_r29 ++ (wsL_law_r30 ++ (wsL_law_r31 ++ (wsL_law_r32 ++ (wsL_law_r33 ++ (wsL_law_r34 ++ (wsL_law_r35 ++ (wsL_law_r36 ++ (wsL_law_r37 ++ (wsL_law_r38 ++ (wsL_law_r39 ++ (wsL_law_r40 ++ (wsL_law_r41 ++ (wsL_law_r42 ++ (wsL_law_r43 ++ (wsL_law_r44 ++ (wsL_law_r45 ++ (wsL_law_r46 ++ (wsL_law_r47 ++ (wsL_law_r48 ++ wsL_law_r49)))))))))))))))))))))))))))))))))))))))))))))))) ++ wsX60 ++ wsX70 ++ wsX40 ++ wsX10 ++ wsX20 ++ wsX30 ++ wsX00 ++ wsX50 ++ ([] : List Cond)
abbrev vwCl : List vw_C := [(RX0, TX0, 7), (RX1, TX1, 9), (RX2, TX2, 3), (RX3, TX3, 4), (RX4, TX4, 12), (RX5, TX5, 5), (RX6, TX6, 9), (RX7, TX7, 33)]
end
section
/-! ===== the machine's fixed things in one tuple; the judgement GW; contracts GM ===== -/
abbrev GC : Type := Program × Launch × Env × Room × State × MethodId × Array Value × List Frame × Method × Code × (State → Prop) × (Nat → Prop) × va_G × (Nat → ClassId) × Nat × ((Nat → Prop) → State → Heap → Prop)
/-- the array classes that worlds name: ints, houses, rows, slots, texts -/
def zTy (c : Nat → ClassId) : List (ClassId × FieldType) := [(c 0, .int), (c 1, .object "LeaningStreet$House"), (c 2, .object "LeaningStreet$Row"), (c 3, .object "LeaningStreet$Slot"), (c 4, .object "LeaningStreet$Text")]
/-- what is carried along beside the world: it may be narrowed, moved, and stays where nobody writes -/
def zOK (Z : (Nat → Prop) → State → Heap → Prop) : Prop := (∀ (A B : Nat → Prop) (U : State) (H : Heap), (∀ q, B q → A q) → Z A U H → Z B U H) ∧ (∀ (A : Nat → Prop) (u U : State) (H : Heap), u.vm.Alike U.vm → Z A u H → Z A U H) ∧ (∀ (A : Nat → Prop) (U : State) (H H1 : Heap), (∀ a : Nat, a < H.size → ¬ A a → H1[a]? = H[a]?) → Z A U H → Z A U H1)
def Kl (κ : GC) : Launch := κ.2.1
def KD (κ : GC) : va_G := κ.2.2.2.2.2.2.2.2.2.2.2.2.1
def GN (κ : GC) (n : Nat) : Prop := κ.2.2.2.2.2.2.2.2.2.2.2.2.2.2.1 = n
/-- from here on: with the world w, at pc, locals lv, operands st, n1 cells of n2 slots made so far, it comes to its end -/
def GW (κ : GC) (n1 n2 : Nat) (w : va_W) (pc : Nat) (lv : List (Nat × Value)) (st : List Value) : Prop :=
  match κ with
  | (p, l, e, R, s, m, args, below, meth, c, Q, A, D, cy, nL, Z) => ∀ (H : Heap) (locs : List Loc) (ls : Array Slot), va_P D vwCl w H → va_D A w → va_S A s.heap H locs → lv_has ls nL lv → W p l e R s m args below meth c H locs n1 n2 Q (F0 m pc ls st)
/-- the fixed facts of a body: machine, code, words, own class, the tables, the room -/
def GX (κ : GC) (cy0 : Nat → ClassId) (Z0 : (Nat → Prop) → State → Heap → Prop) (cc : ByteArray) (Ts : List Cond) (own : String) (rm : Room) : Prop :=
  match κ with
  | (p, l, e, R, s, m, args, below, meth, c, Q, A, D, cy, nL, Z) => p.tables.exec = Jvm.exec ∧ c.code = cc ∧ (∀ w ∈ Ts, w.before args s = true) ∧ s.vm.findClass own = some m.cls ∧ va_K D vwCl (zTy cy) s ∧ c.maxLocals = nL ∧ (∀ q, s.heap.size ≤ q → A q) ∧ meth.locks = false ∧ R = rm ∧ cy = cy0 ∧ Z = Z0 ∧ Z A s s.heap
/-- a contract: from the world w the method answers res and leaves the world w2, with Po res w2; mc cells of ms slots are new -/
def GM (l : Launch) (D : va_G) (cy : Nat → ClassId) (Z : (Nat → Prop) → State → Heap → Prop) (y : MethodName) (ws : List Cond) (rm : Room) (av : List Value) (w : va_W) (Po : Option Value → va_W → Prop) (mc ms : Nat) : Prop :=
  ∀ sz : Nat, Met l y ws rm (va_Pc av (fun U => U.heap.size = sz ∧ va_P D vwCl w U.heap ∧ va_K D vwCl (zTy cy) U ∧ va_D (fun _ => True) w ∧ Z (va_A w sz) U U.heap)) (fun _ st oc t => (∃ (res : Option Value) (w2 : va_W), Po res w2 ∧ oc = .returned res ∧ va_P D vwCl w2 t.heap ∧ va_D (va_A w sz) w2) ∧ va_F (va_A w sz) st t) mc ms (va_A w sz)
/-- a contract with one answer and one world -/
def GD (l : Launch) (D : va_G) (cy : Nat → ClassId) (Z : (Nat → Prop) → State → Heap → Prop) (y : MethodName) (ws : List Cond) (rm : Room) (av : List Value) (w : va_W) (res : Option Value) (w2 : va_W) (mc ms : Nat) : Prop := GM l D cy Z y ws rm av w (fun x y => x = res ∧ y = w2) mc ms
/-- the end of a body -/
def GR (κ : GC) (cc : ByteArray) (mc ms : Nat) (ret : Option FieldType) (Po : Option Value → va_W → Prop) : Prop := ∀ (res : Option Value) (w2 : va_W), Po res w2 →
  (∀ (ty : FieldType) (x : Int32) (pc : Nat) (lv : List (Nat × Value)), ret = some ty → res = some (.int x) → narrow ty (.int x) = .int x → decode cc pc = .ok (.ireturn, 1) → GW κ mc ms w2 pc lv [.int x]) ∧
  (∀ (pc : Nat) (lv : List (Nat × Value)), ret = none → res = none → decode cc pc = .ok (.return_, 1) → GW κ mc ms w2 pc lv []) ∧
  (∀ (rt : FieldType) (v : Value) (pc : Nat) (lv : List (Nat × Value)), ret = some rt → ((∃ n, rt = .object n) ∨ ∃ t, rt = .array t) → (v = .null ∨ ∃ a, v = .ref a) → res = some v → decode cc pc = .ok (.areturn, 1) → GW κ mc ms w2 pc lv [v])
set_option maxHeartbeats 4000000 in
theorem g_entry {l : Launch} {D : va_G} {cy : Nat → ClassId} {Z : (Nat → Prop) → State → Heap → Prop} {y : MethodName} {ws ws' : List Cond} {rm : Room} {cc : ByteArray} {maxL : Nat} {ret : Option FieldType} {av : List Value} {w : va_W} {Po : Option Value → va_W → Prop} {mc ms : Nat} (hy : plainName y.cls = true) (hw : ws = Cond.code y cc maxL ret :: ws') (hlen : (lg_sl av).length ≤ maxL)
    (body : ∀ κ : GC, GN κ maxL → GX κ cy Z cc ws y.cls rm → GR κ cc mc ms ret Po → GW κ 0 0 w 0 (lv_args 0 av) []) : GM l D cy Z y ws rm av w Po mc ms := by
  intro sz
  refine Met.ofW (cc := cc) (maxL := maxL) (ret := ret) hy hw ?_
  intro p e s m args below meth c s₁ B hml hv
  obtain ⟨rfl, hsz, hP, hK, hD0, hZ⟩ := hv
  have hx := B.exec
  have hb := B.bytes
  have hr := B.returns
  have hts := atoms_spec (ws := ws) B.pre
  have hown : s.vm.findClass y.cls = some m.cls := findClass_of_methodNamed B.named
  have hlocks := B.notSynchronized
  subst hsz
  have hD := hD0.self (sz := s.heap.size)
  have hl := lv_entry av (n := maxL) hlen
  rw [lg_entry_eq]
  have hS : va_S (va_A w s.heap.size) s.heap s.heap [] := va_S.rf
  refine body (p, l, e, (headSpec ws rm).room, s, m, av.toArray, below, meth, c, (MQ below (fun _ st oc t => (∃ (res : Option Value) (w2 : va_W), Po res w2 ∧ oc = .returned res ∧ va_P D vwCl w2 t.heap ∧ va_D (va_A w s.heap.size) w2) ∧ va_F (va_A w s.heap.size) st t) av.toArray s mc ms (va_A w s.heap.size)), va_A w s.heap.size, D, cy, maxL, Z) rfl ⟨hx, hb, hts, hown, hK, hml, fun q h => Or.inr h, hlocks, rfl, rfl, rfl, hZ⟩ (fun res w2 hPo => ⟨?_, ?_, ?_⟩) s.heap [] _ hP hD hS hl
  · intro ty x pc lv e1 e2 hn hdg H locs ls hP hD hS hl
    exact W.zret hx hb (hr.trans e1) hn (fun t ht hW => ⟨⟨_, w2, hPo, by rw [e2], by rw [ht]; exact hP, hD⟩, hS.F ht⟩) hS.2.2 hdg hlocks
  · intro pc lv e1 e2 hdg H locs ls hP hD hS hl
    exact W.vret hx hb (hr.trans e1) (fun t ht hW => ⟨⟨_, w2, hPo, by rw [e2], by rw [ht]; exact hP, hD⟩, hS.F ht⟩) hS.2.2 hdg hlocks
  · intro rt v pc lv e1 hrt hv e2 hdg H locs ls hP hD hS hl
    exact W.aret hx hb (hr.trans e1) hrt hv (fun t ht hW => ⟨⟨_, w2, hPo, by rw [e2], by rw [ht]; exact hP, hD⟩, hS.F ht⟩) hS.2.2 hdg hlocks

section GG
variable {κ : GC} {cy : Nat → ClassId} {Z : (Nat → Prop) → State → Heap → Prop} {cc : ByteArray} {Ts : List Cond} {own : String} {rm : Room} {n1 n2 : Nat} {w : va_W} {pc : Nat} {lv : List (Nat × Value)} {st : List Value}
theorem g_iconst (hX : GX κ cy Z cc Ts own rm) {n : Int} {v : Int32} (hv : Int32.ofInt n = v) (d : decode cc pc = .ok (.iconst n, 1)) (k : GW κ n1 n2 w (pc + 1) lv (.int v :: st)) : GW κ n1 n2 w pc lv (st) := by
  obtain ⟨p, l, e, R, s, m, args, below, meth, c, Q, A, D, cy', nL', Z'⟩ := κ
  obtain ⟨hx, hb, hts, hown, hK, hml, hA, hlk, hR, hcy, hZe, hZ⟩ := hX
  intro H locs ls hP hD hS hl
  exact lv_iconst hx hb d hv (k H locs ls hP hD hS hl)
theorem g_bipush (hX : GX κ cy Z cc Ts own rm) {n : Int} {v : Int32} (hv : (Int8.ofInt n).toInt32 = v) (d : decode cc pc = .ok (.bipush n, 2)) (k : GW κ n1 n2 w (pc + 2) lv (.int v :: st)) : GW κ n1 n2 w pc lv (st) := by
  obtain ⟨p, l, e, R, s, m, args, below, meth, c, Q, A, D, cy', nL', Z'⟩ := κ
  obtain ⟨hx, hb, hts, hown, hK, hml, hA, hlk, hR, hcy, hZe, hZ⟩ := hX
  intro H locs ls hP hD hS hl
  exact lv_bipush hx hb d hv (k H locs ls hP hD hS hl)
theorem g_sipush (hX : GX κ cy Z cc Ts own rm) {n : Int} {v : Int32} (hv : (Int16.ofInt n).toInt32 = v) (d : decode cc pc = .ok (.sipush n, 3)) (k : GW κ n1 n2 w (pc + 3) lv (.int v :: st)) : GW κ n1 n2 w pc lv (st) := by
  obtain ⟨p, l, e, R, s, m, args, below, meth, c, Q, A, D, cy', nL', Z'⟩ := κ
  obtain ⟨hx, hb, hts, hown, hK, hml, hA, hlk, hR, hcy, hZe, hZ⟩ := hX
  intro H locs ls hP hD hS hl
  exact lv_sipush hx hb d hv (k H locs ls hP hD hS hl)
theorem g_lconst (hX : GX κ cy Z cc Ts own rm) {n : Fin 2} {v : Int64} (hv : Int64.ofNat (n : Nat) = v) (d : decode cc pc = .ok (.lconst n, 1)) (k : GW κ n1 n2 w (pc + 1) lv (.long v :: st)) : GW κ n1 n2 w pc lv (st) := by
  obtain ⟨p, l, e, R, s, m, args, below, meth, c, Q, A, D, cy', nL', Z'⟩ := κ
  obtain ⟨hx, hb, hts, hown, hK, hml, hA, hlk, hR, hcy, hZe, hZ⟩ := hX
  intro H locs ls hP hD hS hl
  exact lv_lconst hx hb d hv (k H locs ls hP hD hS hl)
theorem g_ldc (hX : GX κ cy Z cc Ts own rm) {index : Nat} {v : Int32} (hm : Cond.constant own index v ∈ Ts) (d : decode cc pc = .ok (.ldc index, 2)) (k : GW κ n1 n2 w (pc + 2) lv (.int v :: st)) : GW κ n1 n2 w pc lv (st) := by
  obtain ⟨p, l, e, R, s, m, args, below, meth, c, Q, A, D, cy', nL', Z'⟩ := κ
  obtain ⟨hx, hb, hts, hown, hK, hml, hA, hlk, hR, hcy, hZe, hZ⟩ := hX
  intro H locs ls hP hD hS hl
  exact lv_ldc hx hb hown (hts _ hm) d (k H locs ls hP hD hS hl)
theorem g_ldcw (hX : GX κ cy Z cc Ts own rm) {index : Nat} {v : Int32} (hm : Cond.constant own index v ∈ Ts) (d : decode cc pc = .ok (.ldc_w index, 3)) (k : GW κ n1 n2 w (pc + 3) lv (.int v :: st)) : GW κ n1 n2 w pc lv (st) := by
  obtain ⟨p, l, e, R, s, m, args, below, meth, c, Q, A, D, cy', nL', Z'⟩ := κ
  obtain ⟨hx, hb, hts, hown, hK, hml, hA, hlk, hR, hcy, hZe, hZ⟩ := hX
  intro H locs ls hP hD hS hl
  exact lv_ldcw hx hb hown (hts _ hm) d (k H locs ls hP hD hS hl)
theorem g_ldc2 (hX : GX κ cy Z cc Ts own rm) {index : Nat} {v : Int64} (hm : Cond.constantLong own index v ∈ Ts) (d : decode cc pc = .ok (.ldc2_w index, 3)) (k : GW κ n1 n2 w (pc + 3) lv (.long v :: st)) : GW κ n1 n2 w pc lv (st) := by
  obtain ⟨p, l, e, R, s, m, args, below, meth, c, Q, A, D, cy', nL', Z'⟩ := κ
  obtain ⟨hx, hb, hts, hown, hK, hml, hA, hlk, hR, hcy, hZe, hZ⟩ := hX
  intro H locs ls hP hD hS hl
  exact lv_ldc2 hx hb hown (hts _ hm) d (k H locs ls hP hD hS hl)
theorem g_iload_n (hX : GX κ cy Z cc Ts own rm) (i : Nat) {q : Fin 4} {j : Nat} {x : Int32} (hl0 : lv[i]? = some (j, .int x)) (hq : (q : Nat) = j) (d : decode cc pc = .ok (.iload_n q, 1)) (k : GW κ n1 n2 w (pc + 1) lv (.int x :: st)) : GW κ n1 n2 w pc lv (st) := by
  obtain ⟨p, l, e, R, s, m, args, below, meth, c, Q, A, D, cy', nL', Z'⟩ := κ
  obtain ⟨hx, hb, hts, hown, hK, hml, hA, hlk, hR, hcy, hZe, hZ⟩ := hX
  intro H locs ls hP hD hS hl
  exact lv_iload_n hx hb d hq (lv_at hl i hl0) (k H locs ls hP hD hS hl)
theorem g_iload (hX : GX κ cy Z cc Ts own rm) (i : Nat) {j : Nat} {x : Int32} (hl0 : lv[i]? = some (j, .int x)) (d : decode cc pc = .ok (.iload j, 2)) (k : GW κ n1 n2 w (pc + 2) lv (.int x :: st)) : GW κ n1 n2 w pc lv (st) := by
  obtain ⟨p, l, e, R, s, m, args, below, meth, c, Q, A, D, cy', nL', Z'⟩ := κ
  obtain ⟨hx, hb, hts, hown, hK, hml, hA, hlk, hR, hcy, hZe, hZ⟩ := hX
  intro H locs ls hP hD hS hl
  exact lv_iload hx hb d (lv_at hl i hl0) (k H locs ls hP hD hS hl)
theorem g_lload_n (hX : GX κ cy Z cc Ts own rm) (i : Nat) {q : Fin 4} {j : Nat} {x : Int64} (hl0 : lv[i]? = some (j, .long x)) (hq : (q : Nat) = j) (d : decode cc pc = .ok (.lload_n q, 1)) (k : GW κ n1 n2 w (pc + 1) lv (.long x :: st)) : GW κ n1 n2 w pc lv (st) := by
  obtain ⟨p, l, e, R, s, m, args, below, meth, c, Q, A, D, cy', nL', Z'⟩ := κ
  obtain ⟨hx, hb, hts, hown, hK, hml, hA, hlk, hR, hcy, hZe, hZ⟩ := hX
  intro H locs ls hP hD hS hl
  exact lv_lload_n hx hb d hq (lv_at hl i hl0) (k H locs ls hP hD hS hl)
theorem g_lload (hX : GX κ cy Z cc Ts own rm) (i : Nat) {j : Nat} {x : Int64} (hl0 : lv[i]? = some (j, .long x)) (d : decode cc pc = .ok (.lload j, 2)) (k : GW κ n1 n2 w (pc + 2) lv (.long x :: st)) : GW κ n1 n2 w pc lv (st) := by
  obtain ⟨p, l, e, R, s, m, args, below, meth, c, Q, A, D, cy', nL', Z'⟩ := κ
  obtain ⟨hx, hb, hts, hown, hK, hml, hA, hlk, hR, hcy, hZe, hZ⟩ := hX
  intro H locs ls hP hD hS hl
  exact lv_lload hx hb d (lv_at hl i hl0) (k H locs ls hP hD hS hl)
theorem g_aload_n (hX : GX κ cy Z cc Ts own rm) (i : Nat) {q : Fin 4} {j : Nat} {x : Nat} (hl0 : lv[i]? = some (j, .ref x)) (hq : (q : Nat) = j) (d : decode cc pc = .ok (.aload_n q, 1)) (k : GW κ n1 n2 w (pc + 1) lv (.ref x :: st)) : GW κ n1 n2 w pc lv (st) := by
  obtain ⟨p, l, e, R, s, m, args, below, meth, c, Q, A, D, cy', nL', Z'⟩ := κ
  obtain ⟨hx, hb, hts, hown, hK, hml, hA, hlk, hR, hcy, hZe, hZ⟩ := hX
  intro H locs ls hP hD hS hl
  exact lv_aload_n hx hb d hq (lv_at hl i hl0) (k H locs ls hP hD hS hl)
theorem g_aload (hX : GX κ cy Z cc Ts own rm) (i : Nat) {j : Nat} {x : Nat} (hl0 : lv[i]? = some (j, .ref x)) (d : decode cc pc = .ok (.aload j, 2)) (k : GW κ n1 n2 w (pc + 2) lv (.ref x :: st)) : GW κ n1 n2 w pc lv (st) := by
  obtain ⟨p, l, e, R, s, m, args, below, meth, c, Q, A, D, cy', nL', Z'⟩ := κ
  obtain ⟨hx, hb, hts, hown, hK, hml, hA, hlk, hR, hcy, hZe, hZ⟩ := hX
  intro H locs ls hP hD hS hl
  exact lv_aload hx hb d (lv_at hl i hl0) (k H locs ls hP hD hS hl)
theorem g_aload_nN (hX : GX κ cy Z cc Ts own rm) (i : Nat) {q : Fin 4} {j : Nat} (hl0 : lv[i]? = some (j, .null)) (hq : (q : Nat) = j) (d : decode cc pc = .ok (.aload_n q, 1)) (k : GW κ n1 n2 w (pc + 1) lv (.null :: st)) : GW κ n1 n2 w pc lv (st) := by
  obtain ⟨p, l, e, R, s, m, args, below, meth, c, Q, A, D, cy', nL', Z'⟩ := κ
  obtain ⟨hx, hb, hts, hown, hK, hml, hA, hlk, hR, hcy, hZe, hZ⟩ := hX
  intro H locs ls hP hD hS hl
  exact lv_aload_nN hx hb d hq (lv_at hl i hl0) (k H locs ls hP hD hS hl)
theorem g_aloadN (hX : GX κ cy Z cc Ts own rm) (i : Nat) {j : Nat} (hl0 : lv[i]? = some (j, .null)) (d : decode cc pc = .ok (.aload j, 2)) (k : GW κ n1 n2 w (pc + 2) lv (.null :: st)) : GW κ n1 n2 w pc lv (st) := by
  obtain ⟨p, l, e, R, s, m, args, below, meth, c, Q, A, D, cy', nL', Z'⟩ := κ
  obtain ⟨hx, hb, hts, hown, hK, hml, hA, hlk, hR, hcy, hZe, hZ⟩ := hX
  intro H locs ls hP hD hS hl
  exact lv_aloadN hx hb d (lv_at hl i hl0) (k H locs ls hP hD hS hl)
theorem g_istore_n (hX : GX κ cy Z cc Ts own rm) {q : Fin 4} {x : Int32} {lv2 : List (Nat × Value)} (j nL : Nat) (hn : GN κ nL) (hq : (q : Nat) = j) (hj : j < nL) (h2 : (j, Value.int x) :: lv.filter (fun q => !(q.1 == j) && !(q.1 + 1 == j && q.2.category == 2)) = lv2) (d : decode cc pc = .ok (.istore_n q, 1)) (k : GW κ n1 n2 w (pc + 1) lv2 st) : GW κ n1 n2 w pc lv (.int x :: st) := by
  obtain ⟨p, l, e, R, s, m, args, below, meth, c, Q, A, D, cy', nL', Z'⟩ := κ
  obtain ⟨hx, hb, hts, hown, hK, hml, hA, hlk, hR, hcy, hZe, hZ⟩ := hX
  intro H locs ls hP hD hS hl
  have hn : nL' = nL := hn
  subst hn
  exact lv_istore_n (lv' := lv2) hx hb d hq hl hj h2 (fun ls2 hl2 => k H locs ls2 hP hD hS hl2)
theorem g_istore (hX : GX κ cy Z cc Ts own rm) {x : Int32} {lv2 : List (Nat × Value)} (j nL : Nat) (hn : GN κ nL) (hj : j < nL) (h2 : (j, Value.int x) :: lv.filter (fun q => !(q.1 == j) && !(q.1 + 1 == j && q.2.category == 2)) = lv2) (d : decode cc pc = .ok (.istore j, 2)) (k : GW κ n1 n2 w (pc + 2) lv2 st) : GW κ n1 n2 w pc lv (.int x :: st) := by
  obtain ⟨p, l, e, R, s, m, args, below, meth, c, Q, A, D, cy', nL', Z'⟩ := κ
  obtain ⟨hx, hb, hts, hown, hK, hml, hA, hlk, hR, hcy, hZe, hZ⟩ := hX
  intro H locs ls hP hD hS hl
  have hn : nL' = nL := hn
  subst hn
  exact lv_istore (lv' := lv2) hx hb d hl hj h2 (fun ls2 hl2 => k H locs ls2 hP hD hS hl2)
theorem g_astore_n (hX : GX κ cy Z cc Ts own rm) {q : Fin 4} {x : Nat} {lv2 : List (Nat × Value)} (j nL : Nat) (hn : GN κ nL) (hq : (q : Nat) = j) (hj : j < nL) (h2 : (j, Value.ref x) :: lv.filter (fun q => !(q.1 == j) && !(q.1 + 1 == j && q.2.category == 2)) = lv2) (d : decode cc pc = .ok (.astore_n q, 1)) (k : GW κ n1 n2 w (pc + 1) lv2 st) : GW κ n1 n2 w pc lv (.ref x :: st) := by
  obtain ⟨p, l, e, R, s, m, args, below, meth, c, Q, A, D, cy', nL', Z'⟩ := κ
  obtain ⟨hx, hb, hts, hown, hK, hml, hA, hlk, hR, hcy, hZe, hZ⟩ := hX
  intro H locs ls hP hD hS hl
  have hn : nL' = nL := hn
  subst hn
  exact lv_astore_n (lv' := lv2) hx hb d hq hl hj h2 (fun ls2 hl2 => k H locs ls2 hP hD hS hl2)
theorem g_astore (hX : GX κ cy Z cc Ts own rm) {x : Nat} {lv2 : List (Nat × Value)} (j nL : Nat) (hn : GN κ nL) (hj : j < nL) (h2 : (j, Value.ref x) :: lv.filter (fun q => !(q.1 == j) && !(q.1 + 1 == j && q.2.category == 2)) = lv2) (d : decode cc pc = .ok (.astore j, 2)) (k : GW κ n1 n2 w (pc + 2) lv2 st) : GW κ n1 n2 w pc lv (.ref x :: st) := by
  obtain ⟨p, l, e, R, s, m, args, below, meth, c, Q, A, D, cy', nL', Z'⟩ := κ
  obtain ⟨hx, hb, hts, hown, hK, hml, hA, hlk, hR, hcy, hZe, hZ⟩ := hX
  intro H locs ls hP hD hS hl
  have hn : nL' = nL := hn
  subst hn
  exact lv_astore (lv' := lv2) hx hb d hl hj h2 (fun ls2 hl2 => k H locs ls2 hP hD hS hl2)
theorem g_iinc (hX : GX κ cy Z cc Ts own rm) {n : Int} {x v : Int32} {lv2 : List (Nat × Value)} (i j nL : Nat) (hn : GN κ nL) (hl0 : lv[i]? = some (j, .int x)) (hv : x + Int32.ofInt n = v) (hj : j < nL) (h2 : (j, Value.int v) :: lv.filter (fun q => !(q.1 == j) && !(q.1 + 1 == j && q.2.category == 2)) = lv2) (d : decode cc pc = .ok (.iinc j n, 3)) (k : GW κ n1 n2 w (pc + 3) lv2 st) : GW κ n1 n2 w pc lv st := by
  obtain ⟨p, l, e, R, s, m, args, below, meth, c, Q, A, D, cy', nL', Z'⟩ := κ
  obtain ⟨hx, hb, hts, hown, hK, hml, hA, hlk, hR, hcy, hZe, hZ⟩ := hX
  intro H locs ls hP hD hS hl
  have hn : nL' = nL := hn
  subst hn
  exact lv_iinc (lv' := lv2) hx hb d hl hl0 hv hj h2 (fun ls2 hl2 => k H locs ls2 hP hD hS hl2)
theorem g_iadd (hX : GX κ cy Z cc Ts own rm) {x y : Int32} (d : decode cc pc = .ok (.iadd, 1)) (k : GW κ n1 n2 w (pc + 1) lv (.int (x + y) :: st)) : GW κ n1 n2 w pc lv (.int y :: .int x :: st) := by
  obtain ⟨p, l, e, R, s, m, args, below, meth, c, Q, A, D, cy', nL', Z'⟩ := κ
  obtain ⟨hx, hb, hts, hown, hK, hml, hA, hlk, hR, hcy, hZe, hZ⟩ := hX
  intro H locs ls hP hD hS hl
  exact lv_iadd hx hb d (k H locs ls hP hD hS hl)
theorem g_isub (hX : GX κ cy Z cc Ts own rm) {x y : Int32} (d : decode cc pc = .ok (.isub, 1)) (k : GW κ n1 n2 w (pc + 1) lv (.int (x - y) :: st)) : GW κ n1 n2 w pc lv (.int y :: .int x :: st) := by
  obtain ⟨p, l, e, R, s, m, args, below, meth, c, Q, A, D, cy', nL', Z'⟩ := κ
  obtain ⟨hx, hb, hts, hown, hK, hml, hA, hlk, hR, hcy, hZe, hZ⟩ := hX
  intro H locs ls hP hD hS hl
  exact lv_isub hx hb d (k H locs ls hP hD hS hl)
theorem g_imul (hX : GX κ cy Z cc Ts own rm) {x y : Int32} (d : decode cc pc = .ok (.imul, 1)) (k : GW κ n1 n2 w (pc + 1) lv (.int (x * y) :: st)) : GW κ n1 n2 w pc lv (.int y :: .int x :: st) := by
  obtain ⟨p, l, e, R, s, m, args, below, meth, c, Q, A, D, cy', nL', Z'⟩ := κ
  obtain ⟨hx, hb, hts, hown, hK, hml, hA, hlk, hR, hcy, hZe, hZ⟩ := hX
  intro H locs ls hP hD hS hl
  exact lv_imul hx hb d (k H locs ls hP hD hS hl)
theorem g_iand (hX : GX κ cy Z cc Ts own rm) {x y : Int32} (d : decode cc pc = .ok (.iand, 1)) (k : GW κ n1 n2 w (pc + 1) lv (.int (x &&& y) :: st)) : GW κ n1 n2 w pc lv (.int y :: .int x :: st) := by
  obtain ⟨p, l, e, R, s, m, args, below, meth, c, Q, A, D, cy', nL', Z'⟩ := κ
  obtain ⟨hx, hb, hts, hown, hK, hml, hA, hlk, hR, hcy, hZe, hZ⟩ := hX
  intro H locs ls hP hD hS hl
  exact lv_iand hx hb d (k H locs ls hP hD hS hl)
theorem g_ior (hX : GX κ cy Z cc Ts own rm) {x y : Int32} (d : decode cc pc = .ok (.ior, 1)) (k : GW κ n1 n2 w (pc + 1) lv (.int (x ||| y) :: st)) : GW κ n1 n2 w pc lv (.int y :: .int x :: st) := by
  obtain ⟨p, l, e, R, s, m, args, below, meth, c, Q, A, D, cy', nL', Z'⟩ := κ
  obtain ⟨hx, hb, hts, hown, hK, hml, hA, hlk, hR, hcy, hZe, hZ⟩ := hX
  intro H locs ls hP hD hS hl
  exact lv_ior hx hb d (k H locs ls hP hD hS hl)
theorem g_ixor (hX : GX κ cy Z cc Ts own rm) {x y : Int32} (d : decode cc pc = .ok (.ixor, 1)) (k : GW κ n1 n2 w (pc + 1) lv (.int (x ^^^ y) :: st)) : GW κ n1 n2 w pc lv (.int y :: .int x :: st) := by
  obtain ⟨p, l, e, R, s, m, args, below, meth, c, Q, A, D, cy', nL', Z'⟩ := κ
  obtain ⟨hx, hb, hts, hown, hK, hml, hA, hlk, hR, hcy, hZe, hZ⟩ := hX
  intro H locs ls hP hD hS hl
  exact lv_ixor hx hb d (k H locs ls hP hD hS hl)
theorem g_ishl (hX : GX κ cy Z cc Ts own rm) {x y : Int32} (d : decode cc pc = .ok (.ishl, 1)) (k : GW κ n1 n2 w (pc + 1) lv (.int (x <<< (y &&& 31)) :: st)) : GW κ n1 n2 w pc lv (.int y :: .int x :: st) := by
  obtain ⟨p, l, e, R, s, m, args, below, meth, c, Q, A, D, cy', nL', Z'⟩ := κ
  obtain ⟨hx, hb, hts, hown, hK, hml, hA, hlk, hR, hcy, hZe, hZ⟩ := hX
  intro H locs ls hP hD hS hl
  exact lv_ishl hx hb d (k H locs ls hP hD hS hl)
theorem g_ishr (hX : GX κ cy Z cc Ts own rm) {x y : Int32} (d : decode cc pc = .ok (.ishr, 1)) (k : GW κ n1 n2 w (pc + 1) lv (.int (x >>> (y &&& 31)) :: st)) : GW κ n1 n2 w pc lv (.int y :: .int x :: st) := by
  obtain ⟨p, l, e, R, s, m, args, below, meth, c, Q, A, D, cy', nL', Z'⟩ := κ
  obtain ⟨hx, hb, hts, hown, hK, hml, hA, hlk, hR, hcy, hZe, hZ⟩ := hX
  intro H locs ls hP hD hS hl
  exact lv_ishr hx hb d (k H locs ls hP hD hS hl)
theorem g_lcmp (hX : GX κ cy Z cc Ts own rm) {x y : Int64} (d : decode cc pc = .ok (.lcmp, 1)) (k : GW κ n1 n2 w (pc + 1) lv (.int (lg_cmp x y) :: st)) : GW κ n1 n2 w pc lv (.long y :: .long x :: st) := by
  obtain ⟨p, l, e, R, s, m, args, below, meth, c, Q, A, D, cy', nL', Z'⟩ := κ
  obtain ⟨hx, hb, hts, hown, hK, hml, hA, hlk, hR, hcy, hZe, hZ⟩ := hX
  intro H locs ls hP hD hS hl
  exact W.lcmp hx hb d (k H locs ls hP hD hS hl)
theorem g_ladd (hX : GX κ cy Z cc Ts own rm) {x y : Int64} (d : decode cc pc = .ok (.ladd, 1)) (k : GW κ n1 n2 w (pc + 1) lv (.long (x + y) :: st)) : GW κ n1 n2 w pc lv (.long y :: .long x :: st) := by
  obtain ⟨p, l, e, R, s, m, args, below, meth, c, Q, A, D, cy', nL', Z'⟩ := κ
  obtain ⟨hx, hb, hts, hown, hK, hml, hA, hlk, hR, hcy, hZe, hZ⟩ := hX
  intro H locs ls hP hD hS hl
  exact lv_ladd hx hb d (k H locs ls hP hD hS hl)
theorem g_idiv (hX : GX κ cy Z cc Ts own rm) {x y : Int32} (hne : ¬ y = 0) (d : decode cc pc = .ok (.idiv, 1)) (k : GW κ n1 n2 w (pc + 1) lv (.int (x / y) :: st)) : GW κ n1 n2 w pc lv (.int y :: .int x :: st) := by
  obtain ⟨p, l, e, R, s, m, args, below, meth, c, Q, A, D, cy', nL', Z'⟩ := κ
  obtain ⟨hx, hb, hts, hown, hK, hml, hA, hlk, hR, hcy, hZe, hZ⟩ := hX
  intro H locs ls hP hD hS hl
  exact lv_idiv hx hb d hne (k H locs ls hP hD hS hl)
theorem g_irem (hX : GX κ cy Z cc Ts own rm) {x y : Int32} (hne : ¬ y = 0) (d : decode cc pc = .ok (.irem, 1)) (k : GW κ n1 n2 w (pc + 1) lv (.int (x - x / y * y) :: st)) : GW κ n1 n2 w pc lv (.int y :: .int x :: st) := by
  obtain ⟨p, l, e, R, s, m, args, below, meth, c, Q, A, D, cy', nL', Z'⟩ := κ
  obtain ⟨hx, hb, hts, hown, hK, hml, hA, hlk, hR, hcy, hZe, hZ⟩ := hX
  intro H locs ls hP hD hS hl
  exact lv_irem hx hb d hne (k H locs ls hP hD hS hl)
theorem g_ineg (hX : GX κ cy Z cc Ts own rm) {x : Int32} (d : decode cc pc = .ok (.ineg, 1)) (k : GW κ n1 n2 w (pc + 1) lv (.int (-x) :: st)) : GW κ n1 n2 w pc lv (.int x :: st) := by
  obtain ⟨p, l, e, R, s, m, args, below, meth, c, Q, A, D, cy', nL', Z'⟩ := κ
  obtain ⟨hx, hb, hts, hown, hK, hml, hA, hlk, hR, hcy, hZe, hZ⟩ := hX
  intro H locs ls hP hD hS hl
  exact lv_ineg hx hb d (k H locs ls hP hD hS hl)
theorem g_iushr (hX : GX κ cy Z cc Ts own rm) {x y : Int32} (d : decode cc pc = .ok (.iushr, 1)) (k : GW κ n1 n2 w (pc + 1) lv (.int ((x.toUInt32 >>> (y.toUInt32 &&& Int32.toUInt32 31)).toInt32) :: st)) : GW κ n1 n2 w pc lv (.int y :: .int x :: st) := by
  obtain ⟨p, l, e, R, s, m, args, below, meth, c, Q, A, D, cy', nL', Z'⟩ := κ
  obtain ⟨hx, hb, hts, hown, hK, hml, hA, hlk, hR, hcy, hZe, hZ⟩ := hX
  intro H locs ls hP hD hS hl
  exact lv_iushr hx hb d rfl (k H locs ls hP hD hS hl)
theorem g_i2l (hX : GX κ cy Z cc Ts own rm) {x : Int32} (d : decode cc pc = .ok (.i2l, 1)) (k : GW κ n1 n2 w (pc + 1) lv (.long x.toInt64 :: st)) : GW κ n1 n2 w pc lv (.int x :: st) := by
  obtain ⟨p, l, e, R, s, m, args, below, meth, c, Q, A, D, cy', nL', Z'⟩ := κ
  obtain ⟨hx, hb, hts, hown, hK, hml, hA, hlk, hR, hcy, hZe, hZ⟩ := hX
  intro H locs ls hP hD hS hl
  exact lv_i2l hx hb d rfl (k H locs ls hP hD hS hl)
theorem g_i2s (hX : GX κ cy Z cc Ts own rm) {x : Int32} (d : decode cc pc = .ok (.i2s, 1)) (k : GW κ n1 n2 w (pc + 1) lv (.int x.toInt16.toInt32 :: st)) : GW κ n1 n2 w pc lv (.int x :: st) := by
  obtain ⟨p, l, e, R, s, m, args, below, meth, c, Q, A, D, cy', nL', Z'⟩ := κ
  obtain ⟨hx, hb, hts, hown, hK, hml, hA, hlk, hR, hcy, hZe, hZ⟩ := hX
  intro H locs ls hP hD hS hl
  exact lv_i2s hx hb d rfl (k H locs ls hP hD hS hl)
theorem g_i2c (hX : GX κ cy Z cc Ts own rm) {x : Int32} (d : decode cc pc = .ok (.i2c, 1)) (k : GW κ n1 n2 w (pc + 1) lv (.int (x.toUInt32 % 65536).toInt32 :: st)) : GW κ n1 n2 w pc lv (.int x :: st) := by
  obtain ⟨p, l, e, R, s, m, args, below, meth, c, Q, A, D, cy', nL', Z'⟩ := κ
  obtain ⟨hx, hb, hts, hown, hK, hml, hA, hlk, hR, hcy, hZe, hZ⟩ := hX
  intro H locs ls hP hD hS hl
  exact lv_i2c hx hb d rfl (k H locs ls hP hD hS hl)
theorem g_dup (hX : GX κ cy Z cc Ts own rm) {v : Value} (hv : v.category = 1) (d : decode cc pc = .ok (.dup, 1)) (k : GW κ n1 n2 w (pc + 1) lv (v :: v :: st)) : GW κ n1 n2 w pc lv (v :: st) := by
  obtain ⟨p, l, e, R, s, m, args, below, meth, c, Q, A, D, cy', nL', Z'⟩ := κ
  obtain ⟨hx, hb, hts, hown, hK, hml, hA, hlk, hR, hcy, hZe, hZ⟩ := hX
  intro H locs ls hP hD hS hl
  exact lv_dup hx hb d hv (k H locs ls hP hD hS hl)
theorem g_pop (hX : GX κ cy Z cc Ts own rm) {v : Value} (hv : v.category = 1) (d : decode cc pc = .ok (.pop, 1)) (k : GW κ n1 n2 w (pc + 1) lv (st)) : GW κ n1 n2 w pc lv (v :: st) := by
  obtain ⟨p, l, e, R, s, m, args, below, meth, c, Q, A, D, cy', nL', Z'⟩ := κ
  obtain ⟨hx, hb, hts, hown, hK, hml, hA, hlk, hR, hcy, hZe, hZ⟩ := hX
  intro H locs ls hP hD hS hl
  exact lv_pop hx hb d hv (k H locs ls hP hD hS hl)
theorem g_dup2 (hX : GX κ cy Z cc Ts own rm) {v u : Value} (hv : v.category = 1) (hu : u.category = 1) (d : decode cc pc = .ok (.dup2, 1)) (k : GW κ n1 n2 w (pc + 1) lv (v :: u :: v :: u :: st)) : GW κ n1 n2 w pc lv (v :: u :: st) := by
  obtain ⟨p, l, e, R, s, m, args, below, meth, c, Q, A, D, cy', nL', Z'⟩ := κ
  obtain ⟨hx, hb, hts, hown, hK, hml, hA, hlk, hR, hcy, hZe, hZ⟩ := hX
  intro H locs ls hP hD hS hl
  exact lv_dup2_11 hx hb d hv hu (k H locs ls hP hD hS hl)
theorem g_if_eq (hX : GX κ cy Z cc Ts own rm) {x : Int32} {off : Int} (tgt : Nat) (ht : (pc : Int) + off = (tgt : Int)) (d : decode cc pc = .ok (.ifCond .eq off, 3)) (kt : x = 0 → GW κ n1 n2 w tgt lv st) (kf : ¬ x = 0 → GW κ n1 n2 w (pc + 3) lv st) : GW κ n1 n2 w pc lv (.int x :: st) := by
  obtain ⟨p, l, e, R, s, m, args, below, meth, c, Q, A, D, cy', nL', Z'⟩ := κ
  obtain ⟨hx, hb, hts, hown, hK, hml, hA, hlk, hR, hcy, hZe, hZ⟩ := hX
  intro H locs ls hP hD hS hl
  exact lv_if_eq hx hb d ht (fun q => kt q H locs ls hP hD hS hl) (fun q => kf q H locs ls hP hD hS hl)
theorem g_icmp_eq (hX : GX κ cy Z cc Ts own rm) {x y : Int32} {off : Int} (tgt : Nat) (ht : (pc : Int) + off = (tgt : Int)) (d : decode cc pc = .ok (.if_icmp .eq off, 3)) (kt : x = y → GW κ n1 n2 w tgt lv st) (kf : ¬ x = y → GW κ n1 n2 w (pc + 3) lv st) : GW κ n1 n2 w pc lv (.int y :: .int x :: st) := by
  obtain ⟨p, l, e, R, s, m, args, below, meth, c, Q, A, D, cy', nL', Z'⟩ := κ
  obtain ⟨hx, hb, hts, hown, hK, hml, hA, hlk, hR, hcy, hZe, hZ⟩ := hX
  intro H locs ls hP hD hS hl
  exact lv_icmp_eq hx hb d ht (fun q => kt q H locs ls hP hD hS hl) (fun q => kf q H locs ls hP hD hS hl)
theorem g_if_ne (hX : GX κ cy Z cc Ts own rm) {x : Int32} {off : Int} (tgt : Nat) (ht : (pc : Int) + off = (tgt : Int)) (d : decode cc pc = .ok (.ifCond .ne off, 3)) (kt : ¬ x = 0 → GW κ n1 n2 w tgt lv st) (kf : x = 0 → GW κ n1 n2 w (pc + 3) lv st) : GW κ n1 n2 w pc lv (.int x :: st) := by
  obtain ⟨p, l, e, R, s, m, args, below, meth, c, Q, A, D, cy', nL', Z'⟩ := κ
  obtain ⟨hx, hb, hts, hown, hK, hml, hA, hlk, hR, hcy, hZe, hZ⟩ := hX
  intro H locs ls hP hD hS hl
  exact lv_if_ne hx hb d ht (fun q => kt q H locs ls hP hD hS hl) (fun q => kf q H locs ls hP hD hS hl)
theorem g_icmp_ne (hX : GX κ cy Z cc Ts own rm) {x y : Int32} {off : Int} (tgt : Nat) (ht : (pc : Int) + off = (tgt : Int)) (d : decode cc pc = .ok (.if_icmp .ne off, 3)) (kt : ¬ x = y → GW κ n1 n2 w tgt lv st) (kf : x = y → GW κ n1 n2 w (pc + 3) lv st) : GW κ n1 n2 w pc lv (.int y :: .int x :: st) := by
  obtain ⟨p, l, e, R, s, m, args, below, meth, c, Q, A, D, cy', nL', Z'⟩ := κ
  obtain ⟨hx, hb, hts, hown, hK, hml, hA, hlk, hR, hcy, hZe, hZ⟩ := hX
  intro H locs ls hP hD hS hl
  exact lv_icmp_ne hx hb d ht (fun q => kt q H locs ls hP hD hS hl) (fun q => kf q H locs ls hP hD hS hl)
theorem g_if_lt (hX : GX κ cy Z cc Ts own rm) {x : Int32} {off : Int} (tgt : Nat) (ht : (pc : Int) + off = (tgt : Int)) (d : decode cc pc = .ok (.ifCond .lt off, 3)) (kt : x < 0 → GW κ n1 n2 w tgt lv st) (kf : ¬ x < 0 → GW κ n1 n2 w (pc + 3) lv st) : GW κ n1 n2 w pc lv (.int x :: st) := by
  obtain ⟨p, l, e, R, s, m, args, below, meth, c, Q, A, D, cy', nL', Z'⟩ := κ
  obtain ⟨hx, hb, hts, hown, hK, hml, hA, hlk, hR, hcy, hZe, hZ⟩ := hX
  intro H locs ls hP hD hS hl
  exact lv_if_lt hx hb d ht (fun q => kt q H locs ls hP hD hS hl) (fun q => kf q H locs ls hP hD hS hl)
theorem g_icmp_lt (hX : GX κ cy Z cc Ts own rm) {x y : Int32} {off : Int} (tgt : Nat) (ht : (pc : Int) + off = (tgt : Int)) (d : decode cc pc = .ok (.if_icmp .lt off, 3)) (kt : x < y → GW κ n1 n2 w tgt lv st) (kf : ¬ x < y → GW κ n1 n2 w (pc + 3) lv st) : GW κ n1 n2 w pc lv (.int y :: .int x :: st) := by
  obtain ⟨p, l, e, R, s, m, args, below, meth, c, Q, A, D, cy', nL', Z'⟩ := κ
  obtain ⟨hx, hb, hts, hown, hK, hml, hA, hlk, hR, hcy, hZe, hZ⟩ := hX
  intro H locs ls hP hD hS hl
  exact lv_icmp_lt hx hb d ht (fun q => kt q H locs ls hP hD hS hl) (fun q => kf q H locs ls hP hD hS hl)
theorem g_if_ge (hX : GX κ cy Z cc Ts own rm) {x : Int32} {off : Int} (tgt : Nat) (ht : (pc : Int) + off = (tgt : Int)) (d : decode cc pc = .ok (.ifCond .ge off, 3)) (kt : 0 ≤ x → GW κ n1 n2 w tgt lv st) (kf : ¬ 0 ≤ x → GW κ n1 n2 w (pc + 3) lv st) : GW κ n1 n2 w pc lv (.int x :: st) := by
  obtain ⟨p, l, e, R, s, m, args, below, meth, c, Q, A, D, cy', nL', Z'⟩ := κ
  obtain ⟨hx, hb, hts, hown, hK, hml, hA, hlk, hR, hcy, hZe, hZ⟩ := hX
  intro H locs ls hP hD hS hl
  exact lv_if_ge hx hb d ht (fun q => kt q H locs ls hP hD hS hl) (fun q => kf q H locs ls hP hD hS hl)
theorem g_icmp_ge (hX : GX κ cy Z cc Ts own rm) {x y : Int32} {off : Int} (tgt : Nat) (ht : (pc : Int) + off = (tgt : Int)) (d : decode cc pc = .ok (.if_icmp .ge off, 3)) (kt : y ≤ x → GW κ n1 n2 w tgt lv st) (kf : ¬ y ≤ x → GW κ n1 n2 w (pc + 3) lv st) : GW κ n1 n2 w pc lv (.int y :: .int x :: st) := by
  obtain ⟨p, l, e, R, s, m, args, below, meth, c, Q, A, D, cy', nL', Z'⟩ := κ
  obtain ⟨hx, hb, hts, hown, hK, hml, hA, hlk, hR, hcy, hZe, hZ⟩ := hX
  intro H locs ls hP hD hS hl
  exact lv_icmp_ge hx hb d ht (fun q => kt q H locs ls hP hD hS hl) (fun q => kf q H locs ls hP hD hS hl)
theorem g_if_gt (hX : GX κ cy Z cc Ts own rm) {x : Int32} {off : Int} (tgt : Nat) (ht : (pc : Int) + off = (tgt : Int)) (d : decode cc pc = .ok (.ifCond .gt off, 3)) (kt : 0 < x → GW κ n1 n2 w tgt lv st) (kf : ¬ 0 < x → GW κ n1 n2 w (pc + 3) lv st) : GW κ n1 n2 w pc lv (.int x :: st) := by
  obtain ⟨p, l, e, R, s, m, args, below, meth, c, Q, A, D, cy', nL', Z'⟩ := κ
  obtain ⟨hx, hb, hts, hown, hK, hml, hA, hlk, hR, hcy, hZe, hZ⟩ := hX
  intro H locs ls hP hD hS hl
  exact lv_if_gt hx hb d ht (fun q => kt q H locs ls hP hD hS hl) (fun q => kf q H locs ls hP hD hS hl)
theorem g_icmp_gt (hX : GX κ cy Z cc Ts own rm) {x y : Int32} {off : Int} (tgt : Nat) (ht : (pc : Int) + off = (tgt : Int)) (d : decode cc pc = .ok (.if_icmp .gt off, 3)) (kt : y < x → GW κ n1 n2 w tgt lv st) (kf : ¬ y < x → GW κ n1 n2 w (pc + 3) lv st) : GW κ n1 n2 w pc lv (.int y :: .int x :: st) := by
  obtain ⟨p, l, e, R, s, m, args, below, meth, c, Q, A, D, cy', nL', Z'⟩ := κ
  obtain ⟨hx, hb, hts, hown, hK, hml, hA, hlk, hR, hcy, hZe, hZ⟩ := hX
  intro H locs ls hP hD hS hl
  exact lv_icmp_gt hx hb d ht (fun q => kt q H locs ls hP hD hS hl) (fun q => kf q H locs ls hP hD hS hl)
theorem g_if_le (hX : GX κ cy Z cc Ts own rm) {x : Int32} {off : Int} (tgt : Nat) (ht : (pc : Int) + off = (tgt : Int)) (d : decode cc pc = .ok (.ifCond .le off, 3)) (kt : x ≤ 0 → GW κ n1 n2 w tgt lv st) (kf : ¬ x ≤ 0 → GW κ n1 n2 w (pc + 3) lv st) : GW κ n1 n2 w pc lv (.int x :: st) := by
  obtain ⟨p, l, e, R, s, m, args, below, meth, c, Q, A, D, cy', nL', Z'⟩ := κ
  obtain ⟨hx, hb, hts, hown, hK, hml, hA, hlk, hR, hcy, hZe, hZ⟩ := hX
  intro H locs ls hP hD hS hl
  exact lv_if_le hx hb d ht (fun q => kt q H locs ls hP hD hS hl) (fun q => kf q H locs ls hP hD hS hl)
theorem g_icmp_le (hX : GX κ cy Z cc Ts own rm) {x y : Int32} {off : Int} (tgt : Nat) (ht : (pc : Int) + off = (tgt : Int)) (d : decode cc pc = .ok (.if_icmp .le off, 3)) (kt : x ≤ y → GW κ n1 n2 w tgt lv st) (kf : ¬ x ≤ y → GW κ n1 n2 w (pc + 3) lv st) : GW κ n1 n2 w pc lv (.int y :: .int x :: st) := by
  obtain ⟨p, l, e, R, s, m, args, below, meth, c, Q, A, D, cy', nL', Z'⟩ := κ
  obtain ⟨hx, hb, hts, hown, hK, hml, hA, hlk, hR, hcy, hZe, hZ⟩ := hX
  intro H locs ls hP hD hS hl
  exact lv_icmp_le hx hb d ht (fun q => kt q H locs ls hP hD hS hl) (fun q => kf q H locs ls hP hD hS hl)
theorem g_goto (hX : GX κ cy Z cc Ts own rm) {off : Int} (tgt : Nat) (ht : (pc : Int) + off = (tgt : Int)) (d : decode cc pc = .ok (.goto off, 3)) (k : GW κ n1 n2 w tgt lv st) : GW κ n1 n2 w pc lv st := by
  obtain ⟨p, l, e, R, s, m, args, below, meth, c, Q, A, D, cy', nL', Z'⟩ := κ
  obtain ⟨hx, hb, hts, hown, hK, hml, hA, hlk, hR, hcy, hZe, hZ⟩ := hX
  intro H locs ls hP hD hS hl
  exact lv_goto hx hb d ht (k H locs ls hP hD hS hl)
theorem g_ifnonnull (hX : GX κ cy Z cc Ts own rm) {x : Nat} {off : Int} (tgt : Nat) (ht : (pc : Int) + off = (tgt : Int)) (d : decode cc pc = .ok (.ifnonnull off, 3)) (k : GW κ n1 n2 w tgt lv st) : GW κ n1 n2 w pc lv (.ref x :: st) := by
  obtain ⟨p, l, e, R, s, m, args, below, meth, c, Q, A, D, cy', nL', Z'⟩ := κ
  obtain ⟨hx, hb, hts, hown, hK, hml, hA, hlk, hR, hcy, hZe, hZ⟩ := hX
  intro H locs ls hP hD hS hl
  exact lv_ifnonnull hx hb d ht (k H locs ls hP hD hS hl)
theorem g_ifnonnullN (hX : GX κ cy Z cc Ts own rm) {off : Int} (d : decode cc pc = .ok (.ifnonnull off, 3)) (k : GW κ n1 n2 w (pc + 3) lv st) : GW κ n1 n2 w pc lv (.null :: st) := by
  obtain ⟨p, l, e, R, s, m, args, below, meth, c, Q, A, D, cy', nL', Z'⟩ := κ
  obtain ⟨hx, hb, hts, hown, hK, hml, hA, hlk, hR, hcy, hZe, hZ⟩ := hX
  intro H locs ls hP hD hS hl
  exact lv_ifnonnullN hx hb d (k H locs ls hP hD hS hl)
theorem g_tableIn (hX : GX κ cy Z cc Ts own rm) {dflt lo hi : Int} {offs : Array Int} {len : Nat} {x : Int32} {off : Int} (tgt : Nat) (h1 : ¬ x.toInt < lo) (h2 : ¬ hi < x.toInt) (ho : offs[(x.toInt - lo).toNat]? = some off) (ht : (pc : Int) + off = (tgt : Int)) (d : decode cc pc = .ok (.tableswitch dflt lo hi offs, len)) (k : GW κ n1 n2 w tgt lv st) : GW κ n1 n2 w pc lv (.int x :: st) := by
  obtain ⟨p, l, e, R, s, m, args, below, meth, c, Q, A, D, cy', nL', Z'⟩ := κ
  obtain ⟨hx, hb, hts, hown, hK, hml, hA, hlk, hR, hcy, hZe, hZ⟩ := hX
  intro H locs ls hP hD hS hl
  exact lv_tableIn hx hb d h1 h2 ho ht (k H locs ls hP hD hS hl)
theorem g_tableOut (hX : GX κ cy Z cc Ts own rm) {dflt lo hi : Int} {offs : Array Int} {len : Nat} {x : Int32} (tgt : Nat) (h : x.toInt < lo ∨ hi < x.toInt) (ht : (pc : Int) + dflt = (tgt : Int)) (d : decode cc pc = .ok (.tableswitch dflt lo hi offs, len)) (k : GW κ n1 n2 w tgt lv st) : GW κ n1 n2 w pc lv (.int x :: st) := by
  obtain ⟨p, l, e, R, s, m, args, below, meth, c, Q, A, D, cy', nL', Z'⟩ := κ
  obtain ⟨hx, hb, hts, hown, hK, hml, hA, hlk, hR, hcy, hZe, hZ⟩ := hX
  intro H locs ls hP hD hS hl
  exact lv_tableOut hx hb d h ht (k H locs ls hP hD hS hl)
theorem g_lookup (hX : GX κ cy Z cc Ts own rm) {dflt : Int} {ps : Array (Int × Int)} {len : Nat} {x : Int32} {off : Int} (tgt : Nat) (hp : (ps.toList.zip (ps.toList.drop 1)).all (fun (a, next) => a.1 < next.1) = true) (ho : Op.lookupswitch.offset ps.toList dflt x.toInt = off) (ht : (pc : Int) + off = (tgt : Int)) (d : decode cc pc = .ok (.lookupswitch dflt ps, len)) (k : GW κ n1 n2 w tgt lv st) : GW κ n1 n2 w pc lv (.int x :: st) := by
  obtain ⟨p, l, e, R, s, m, args, below, meth, c, Q, A, D, cy', nL', Z'⟩ := κ
  obtain ⟨hx, hb, hts, hown, hK, hml, hA, hlk, hR, hcy, hZe, hZ⟩ := hX
  intro H locs ls hP hD hS hl
  exact lv_lookup hx hb d hp ho ht (k H locs ls hP hD hS hl)
theorem g_get (hX : GX κ cy Z cc Ts own rm) {C ref : String} {T : u_T} {N index : Nat} {a : Nat} {fs : List Value} {v : Value} (ci q0 k0 : Nat) (hin : ∀ x ∈ u_ws C T N, x ∈ Ts) (he : w[q0]? = some (a, .inr (ci, fs))) (hc : vwCl[ci]? = some (C, T, N)) (hk : k0 < N) (hlk0 : Cond.fieldLink own index ref (T k0).2.1 (T k0).2.2.1 ∈ Ts) (href : (T k0).1 = ref) (hv : fs[k0]? = some v) (d : decode cc pc = .ok (.getfield index, 3)) (k : GW κ n1 n2 w (pc + 3) lv (v :: st)) : GW κ n1 n2 w pc lv (.ref a :: st) := by
  obtain ⟨p, l, e, R, s, m, args, below, meth, c, Q, A, D, cy', nL', Z'⟩ := κ
  obtain ⟨hx, hb, hts, hown, hK, hml, hA, hlk, hR, hcy, hZe, hZ⟩ := hX
  intro H locs ls hP hD hS hl
  exact va_get (D := D) hx hb hts hin hown hK hP q0 he hc k0 hk (hts _ hlk0) (fun _ h9 => by rw [← href]; exact h9) hv d (k H locs ls hP hD hS hl)
theorem g_put (hX : GX κ cy Z cc Ts own rm) {C ref : String} {T : u_T} {N index : Nat} {a : Nat} {fs : List Value} {v : Value} {w2 : va_W} {ty : FieldType} (ci q0 k0 : Nat) (hin : ∀ x ∈ u_ws C T N, x ∈ Ts) (ty0 : Nat → FieldType) (hty : ∀ k, k < N → parseFieldDescriptor (T k).2.2.1 = some (ty0 k)) (hnm : ∀ a, a < N → ∀ b, b < N → a ≠ b → (T a).2.1 ≠ (T b).2.1) (he : w[q0]? = some (a, .inr (ci, fs))) (hc : vwCl[ci]? = some (C, T, N)) (hk : k0 < N) (hlk0 : Cond.fieldLink own index ref (T k0).2.1 (T k0).2.2.1 ∈ Ts) (href : (T k0).1 = ref) (hfin : (T k0).2.2.2 = false) (hd : parseFieldDescriptor (T k0).2.2.1 = some ty) (hn : narrow ty v = v) (hfit : fits ty v = true) (hl9 : k0 < fs.length) (hw2 : w.set q0 (a, .inr (ci, fs.set k0 v)) = w2) (d : decode cc pc = .ok (.putfield index, 3)) (k : GW κ n1 n2 w2 (pc + 3) lv st) : GW κ n1 n2 w pc lv (v :: .ref a :: st) := by
  obtain ⟨p, l, e, R, s, m, args, below, meth, c, Q, A, D, cy', nL', Z'⟩ := κ
  obtain ⟨hx, hb, hts, hown, hK, hml, hA, hlk, hR, hcy, hZe, hZ⟩ := hX
  intro H locs ls hP hD hS hl
  subst hw2
  exact va_put (D := D) hx hb hts hin ty0 hty hnm hown hK hP hD hS q0 he hc k0 hk (hts _ hlk0) (fun _ h9 => by rw [← href]; exact h9) hfin hd hn hfit hl9 d (fun H1 locs1 hP hD hS => k H1 locs1 ls hP hD hS hl)
theorem g_ald (hX : GX κ cy Z cc Ts own rm) {a n : Nat} {f : Nat → Int32} {i : Int32} (q0 : Nat) (he : w[q0]? = some (a, .inl (cy 0, n, .inl f))) (hi : vp_in i n) (d : decode cc pc = .ok (.iaload, 1)) (k : GW κ n1 n2 w (pc + 1) lv (.int (f i.toNatClampNeg) :: st)) : GW κ n1 n2 w pc lv (.int i :: .ref a :: st) := by
  obtain ⟨p, l, e, R, s, m, args, below, meth, c, Q, A, D, cy', nL', Z'⟩ := κ
  obtain ⟨hx, hb, hts, hown, hK, hml, hA, hlk, hR, hcy, hZe, hZ⟩ := hX
  intro H locs ls hP hD hS hl
  subst hcy
  exact va_iald hx hb hK hP q0 0 he rfl hi d (k H locs ls hP hD hS hl)
theorem g_ast (hX : GX κ cy Z cc Ts own rm) {a n : Nat} {f : Nat → Int32} {i x : Int32} {w2 : va_W} (q0 : Nat) (he : w[q0]? = some (a, .inl (cy 0, n, .inl f))) (hi : vp_in i n) (hw2 : w.set q0 (a, .inl (cy 0, n, .inl (upd f i.toNatClampNeg x))) = w2) (d : decode cc pc = .ok (.iastore, 1)) (k : GW κ n1 n2 w2 (pc + 1) lv st) : GW κ n1 n2 w pc lv (.int x :: .int i :: .ref a :: st) := by
  obtain ⟨p, l, e, R, s, m, args, below, meth, c, Q, A, D, cy', nL', Z'⟩ := κ
  obtain ⟨hx, hb, hts, hown, hK, hml, hA, hlk, hR, hcy, hZe, hZ⟩ := hX
  intro H locs ls hP hD hS hl
  subst hw2
  subst hcy
  exact va_iast hx hb hK hP hD hS q0 0 he rfl hi d (fun H1 locs1 hP hD hS => k H1 locs1 ls hP hD hS hl)
theorem g_aald (hX : GX κ cy Z cc Ts own rm) {a n : Nat} {f : Nat → Option Nat} {i : Int32} {C : String} (q0 t0 : Nat) (he : w[q0]? = some (a, .inl (cy t0, n, .inr (.inr (.inr (.inr f)))))) (ht : (zTy cy)[t0]? = some (cy t0, .object C)) (hi : vp_in i n) (d : decode cc pc = .ok (.aaload, 1)) (k : GW κ n1 n2 w (pc + 1) lv (va_rf (f i.toNatClampNeg) :: st)) : GW κ n1 n2 w pc lv (.int i :: .ref a :: st) := by
  obtain ⟨p, l, e, R, s, m, args, below, meth, c, Q, A, D, cy', nL', Z'⟩ := κ
  obtain ⟨hx, hb, hts, hown, hK, hml, hA, hlk, hR, hcy, hZe, hZ⟩ := hX
  intro H locs ls hP hD hS hl
  subst hcy
  exact va_aldq hx hb hK hP q0 t0 he ht hi d (k H locs ls hP hD hS hl)
theorem g_alen (hX : GX κ cy Z cc Ts own rm) {a n : Nat} {f : Nat → Int32} {v : Int32} (q0 : Nat) (he : w[q0]? = some (a, .inl (cy 0, n, .inl f))) (hv : Int32.ofNat n = v) (d : decode cc pc = .ok (.arraylength, 1)) (k : GW κ n1 n2 w (pc + 1) lv (.int v :: st)) : GW κ n1 n2 w pc lv (.ref a :: st) := by
  obtain ⟨p, l, e, R, s, m, args, below, meth, c, Q, A, D, cy', nL', Z'⟩ := κ
  obtain ⟨hx, hb, hts, hown, hK, hml, hA, hlk, hR, hcy, hZe, hZ⟩ := hX
  intro H locs ls hP hD hS hl
  subst hcy
  exact va_alen hx hb hK hP q0 0 he rfl hv d (k H locs ls hP hD hS hl)
theorem g_callV (hX : GX κ cy Z cc Ts own rm) (hzo : zOK Z) {y : MethodName} {ws ws2 : List Cond} {rm2 : Room} {bytes : ByteArray} {maxL index mc ms : Nat} {ret : Option FieldType} {Po : Option Value → va_W → Prop} {C : String} {b : Nat} (As rest : List Value) (ci q0 : Nat) {qc : vw_C} {fs : List Value} (hcl : vwCl[ci]? = some qc) (hcn : qc.1 = C) (he : w[q0]? = some (b, .inr (ci, fs))) (hM : GM (Kl κ) (KD κ) cy Z y ws rm2 (.ref b :: As) w Po mc ms) (hG : GoodIn Ts (wsV own index C y ws)) (hw : ws = Cond.code y bytes maxL ret :: ws2) (hrc : rm2.cells = mc) (hrs : rm2.slots = ms) (hd : y.cls = C ∧ y.cls ≠ "java/lang/invoke/MethodHandle" ∧ y.cls ≠ "java/lang/invoke/VarHandle" ∧ (parseMethodDescriptor y.desc).map (fun d => d.parameters.length) = some As.length) (hR1 : rm2.frames + 1 ≤ rm.frames) (hR2 : 8 + (maxL + 11) + rm2.locals ≤ rm.locals) {st0 : List Value} (hst : st0 = As.reverse ++ .ref b :: rest) (hrest : (rest.map fun v => v.category).sum ≤ 8) (hf : n1 + mc ≤ rm.cells ∧ n2 + ms ≤ rm.slots) (d : decode cc pc = .ok (.invokevirtual index, 3)) (k : ∀ (res : Option Value) (w2 : va_W), Po res w2 → GW κ (n1 + mc) (n2 + ms) w2 (pc + 3) lv (res.toList ++ rest)) : GW κ n1 n2 w pc lv st0 := by
  obtain ⟨p, l, e, R, s, m, args, below, meth, c, Q, A, D, cy', nL', Z'⟩ := κ
  obtain ⟨hx, hb, hts, hown, hK, hml, hA, hlk, hR, hcy, hZe, hZ⟩ := hX
  intro H locs ls hP hD hS hl
  subst hR
  subst hcy
  subst hZe
  have hF : ∀ q, va_A w H.size q → A q := fun q h => by
    rcases h with ⟨k9, e9, h⟩ | h
    · exact hD.2 k9 (q, e9) h
    · exact hA q (Nat.le_trans hS.1 h)
  have hpre : ∀ U : State, U.heap = H → s.WarmedH U.vm → U.heap.size = H.size ∧ va_P D vwCl w U.heap ∧ va_K D vwCl (zTy cy') U ∧ va_D (fun _ => True) w ∧ Z' (va_A w H.size) U U.heap := fun U hU hW => by
    refine ⟨by rw [hU], by rw [hU]; exact hP, va_K.moved hW.alike hK, hD.weaken (fun _ _ _ _ => trivial), ?_⟩
    rw [hU]
    exact hzo.1 A _ U H hF (hzo.2.1 A s U H hW.alike (hzo.2.2 A s s.heap H hS.2.1 hZ))
  have hrv : ∃ cellB : Cell, H[b]? = some cellB ∧ cellB.vm.isStatics = false ∧ s.vm.findClass C = some cellB.cls := by rw [← hcn]; exact va_recv hK hP hcl he
  intro T hT X
  have hr := va_runV (l := l) (e := e) (below := below) (meth := meth) (As := As) (rest := rest) (n := As.length) (locs := locs) (cells := n1) (slots := n2) (g := F0 m pc ls st0) ⟨hx, hb, hml, hown, hts⟩ (hM H.size) (cwV As.length hts hG hw hrc hrs hd ⟨hR1, hR2⟩) ⟨fun a U g mk q => by obtain ⟨q0, q1, qP, qK, qD, qZ⟩ := q; exact ⟨q0, q1, qP, va_K.moved (u := U) (U := U.calling g mk a) (Vm.Alike.refl U.vm) qK, qD, hzo.2.1 _ U _ _ (Vm.Alike.refl U.vm) qZ⟩, hrv, fun U hU hW => ⟨rfl, hpre U hU hW⟩⟩ rfl rfl hl.1 hst (lv_room hrest) d hf
  obtain ⟨v9, st₀, t, T', L, h0, X', hL, e1, e2, ⟨⟨res, w2, hPo, hv, hP1, hD1⟩, hz, hk⟩, stp⟩ := hr T hT X
  cases hv
  rw [h0] at hz hk
  obtain ⟨t2, a1, b1⟩ := k _ w2 hPo T'.heap (locs ++ L) ls (by rw [e1]; exact hP1) (hD1.weaken (fun _ q _ h => hF q.1 h))
    ⟨Nat.le_trans hS.1 (by rw [e1]; exact hz), fun q h1 h2 => by rw [e1, hk q (Nat.lt_of_lt_of_le h1 hS.1) (fun z => h2 (hF q z))]; exact hS.2.1 q h1 h2, fun q hq => by
      rcases List.mem_append.mp hq with h | h
      · exact hS.2.2 q h
      · exact hF _ (hL q h)⟩ hl T' rfl X'
  exact ⟨t2, stp t2 a1, b1⟩
theorem g_callS (hX : GX κ cy Z cc Ts own rm) (hzo : zOK Z) {y : MethodName} {ws ws2 : List Cond} {rm2 : Room} {bytes : ByteArray} {maxL index mc ms : Nat} {ret : Option FieldType} {Po : Option Value → va_W → Prop}  (As rest : List Value)  (hM : GM (Kl κ) (KD κ) cy Z y ws rm2 (As) w Po mc ms) (hG : GoodIn Ts (va_wsS own index y ws)) (hw : ws = Cond.code y bytes maxL ret :: ws2) (hrc : rm2.cells = mc) (hrs : rm2.slots = ms) (hd : y.cls ≠ "java/lang/invoke/MethodHandle" ∧ y.cls ≠ "java/lang/invoke/VarHandle" ∧ (parseMethodDescriptor y.desc).map (fun d => d.parameters.length) = some As.length) (hR1 : rm2.frames + 1 ≤ rm.frames) (hR2 : 8 + (maxL + 11) + rm2.locals ≤ rm.locals) {st0 : List Value} (hst : st0 = As.reverse ++ rest) (hrest : (rest.map fun v => v.category).sum ≤ 8) (hf : n1 + mc ≤ rm.cells ∧ n2 + ms ≤ rm.slots) (d : decode cc pc = .ok (.invokestatic index, 3)) (k : ∀ (res : Option Value) (w2 : va_W), Po res w2 → GW κ (n1 + mc) (n2 + ms) w2 (pc + 3) lv (res.toList ++ rest)) : GW κ n1 n2 w pc lv st0 := by
  obtain ⟨p, l, e, R, s, m, args, below, meth, c, Q, A, D, cy', nL', Z'⟩ := κ
  obtain ⟨hx, hb, hts, hown, hK, hml, hA, hlk, hR, hcy, hZe, hZ⟩ := hX
  intro H locs ls hP hD hS hl
  subst hR
  subst hcy
  subst hZe
  have hF : ∀ q, va_A w H.size q → A q := fun q h => by
    rcases h with ⟨k9, e9, h⟩ | h
    · exact hD.2 k9 (q, e9) h
    · exact hA q (Nat.le_trans hS.1 h)
  have hpre : ∀ U : State, U.heap = H → s.WarmedH U.vm → U.heap.size = H.size ∧ va_P D vwCl w U.heap ∧ va_K D vwCl (zTy cy') U ∧ va_D (fun _ => True) w ∧ Z' (va_A w H.size) U U.heap := fun U hU hW => by
    refine ⟨by rw [hU], by rw [hU]; exact hP, va_K.moved hW.alike hK, hD.weaken (fun _ _ _ _ => trivial), ?_⟩
    rw [hU]
    exact hzo.1 A _ U H hF (hzo.2.1 A s U H hW.alike (hzo.2.2 A s s.heap H hS.2.1 hZ))
  intro T hT X
  have hr := va_runS (l := l) (e := e) (below := below) (meth := meth) (As := As) (rest := rest) (n := As.length) (locs := locs) (cells := n1) (slots := n2) (g := F0 m pc ls st0) ⟨hx, hb, hml, hown, hts⟩ (hM H.size) (va_cwS As.length hts hG hw hrc hrs hd ⟨hR1, hR2⟩) ⟨fun a U g mk q => by obtain ⟨q0, q1, qP, qK, qD, qZ⟩ := q; exact ⟨q0, q1, qP, va_K.moved (u := U) (U := U.calling g mk a) (Vm.Alike.refl U.vm) qK, qD, hzo.2.1 _ U _ _ (Vm.Alike.refl U.vm) qZ⟩, fun U hU hW => ⟨rfl, hpre U hU hW⟩⟩ rfl rfl hl.1 hst (lv_room hrest) d hf
  obtain ⟨v9, st₀, t, T', L, h0, X', hL, e1, e2, ⟨⟨res, w2, hPo, hv, hP1, hD1⟩, hz, hk⟩, stp⟩ := hr T hT X
  cases hv
  rw [h0] at hz hk
  obtain ⟨t2, a1, b1⟩ := k _ w2 hPo T'.heap (locs ++ L) ls (by rw [e1]; exact hP1) (hD1.weaken (fun _ q _ h => hF q.1 h))
    ⟨Nat.le_trans hS.1 (by rw [e1]; exact hz), fun q h1 h2 => by rw [e1, hk q (Nat.lt_of_lt_of_le h1 hS.1) (fun z => h2 (hF q z))]; exact hS.2.1 q h1 h2, fun q hq => by
      rcases List.mem_append.mp hq with h | h
      · exact hS.2.2 q h
      · exact hF _ (hL q h)⟩ hl T' rfl X'
  exact ⟨t2, stp t2 a1, b1⟩
end GG
end
section
def bI (b : Bool) : Int32 := if b then 1 else 0
theorem bI_t : bI true = 1 := rfl
theorem bI_f : bI false = 0 := rfl
theorem bI_ne {b : Bool} (h : ¬ bI b = 0) : b = true := by cases b with | false => exact absurd rfl h | true => rfl
theorem bI_eq {b : Bool} (h : bI b = 0) : b = false := by cases b with | false => rfl | true => exact absurd h (by decide)
theorem bI_nar (b : Bool) : narrow .boolean (.int (bI b)) = .int (bI b) := by cases b <;> rfl
theorem bI_one (b : Bool) (h : b = true) : (1 : Int32) = bI b := by rw [h]; rfl
theorem bI_zero (b : Bool) (h : b = false) : (0 : Int32) = bI b := by rw [h]; rfl
/-- the row j of the family becomes f -/
def mU (r : Nat → Nat → Int32) (j : Nat) (f : Nat → Int32) : Nat → Nat → Int32 := fun k => if k = j then f else r k
theorem mU_s (r : Nat → Nat → Int32) (j : Nat) (f : Nat → Int32) : mU r j f j = f := by simp [mU]
theorem mU_n (r : Nat → Nat → Int32) {j k : Nat} (f : Nat → Int32) (h : k ≠ j) : mU r j f k = r k := by simp [mU, h]
theorem mU_mU (r : Nat → Nat → Int32) (j : Nat) (f g : Nat → Int32) : mU (mU r j f) j g = mU r j g := by funext k; by_cases h : k = j <;> simp [mU, h]
theorem mU_self (r : Nat → Nat → Int32) (j : Nat) : mU r j (r j) = r := by funext k; by_cases h : k = j <;> simp [mU, h]
def mF (a : Nat → Nat) (v : Nat → Int32) : List Value := [.ref (a 0), .ref (a 1), .ref (a 2), .int (v 3), .ref (a 4), .ref (a 5), .ref (a 6), .ref (a 7), .ref (a 8), .ref (a 9), .ref (a 10), .ref (a 11), .ref (a 12), .ref (a 13), .ref (a 14), .ref (a 15), .int (v 16), .int (v 17), .int (v 18), .int (v 19), .int (v 20), .int (v 21), .int (v 22), .int (v 23), .int (v 24), .int (v 25), .int (v 26), .ref (a 27), .ref (a 28), .ref (a 29), .ref (a 30), .int (v 31), .ref (a 32)]
def mN : Nat → Nat := fun j => match j with
  | 0 => 3069
  | 1 => 3069
  | 2 => 3069
  | 4 => 4
  | 5 => 4
  | 6 => 96
  | 7 => 5
  | 8 => 5
  | 9 => 5
  | 10 => 5
  | 11 => 120
  | 12 => 9
  | 13 => 9
  | 14 => 69
  | 15 => 96
  | 27 => 128
  | 28 => 100
  | 29 => 24
  | 30 => 60
  | 32 => 60
  | _ => 0
def mA (j : Nat) : Bool := [0, 1, 2, 4, 5, 6, 7, 8, 9, 10, 11, 14, 15, 29, 30, 32].contains j
/-- scratch rows: nobody asks what they hold between calls -/
def mB (j : Nat) : Bool := [12, 13, 27, 28].contains j
def mI (j : Nat) : Bool := [3, 16, 17, 18, 19, 20, 21, 22, 23, 24, 25, 26, 31].contains j
/-- C is a family of worlds that hold the reference at h0: its object at the place q 33, its row j at the place q j -/
def mLens (cI : ClassId) (h0 : Nat) (a q : Nat → Nat) (C : (Nat → Int32) → (Nat → Nat → Int32) → (Nat → Nat → Int32) → va_W) : Prop :=
  (∀ v r x, (C v r x)[q 33]? = some (h0, .inr (7, mF a v))) ∧ (∀ v r x k y, mI k = true → (C v r x).set (q 33) (h0, .inr (7, (mF a v).set k (.int y))) = C (upd v k y) r x) ∧
  (∀ v r x j, mA j = true → (C v r x)[q j]? = some (a j, .inl (cI, mN j, .inl (r j)))) ∧ (∀ v r x j f, mA j = true → (C v r x).set (q j) (a j, .inl (cI, mN j, .inl f)) = C v (mU r j f) x) ∧
  (∀ v r x j, mB j = true → (C v r x)[q j]? = some (a j, .inl (cI, mN j, .inl (x j)))) ∧ (∀ v r x j f, mB j = true → (C v r x).set (q j) (a j, .inl (cI, mN j, .inl f)) = C v r (mU x j f))
theorem m_ref : ∀ k : Nat, (TX7 k).1 = "LeaningStreetModel" := by intro k; unfold TX7; split <;> rfl
/-- what a caller needs of a callee beside its contract -/
def mK (own : String) (y : MethodName) (ws : List Cond) (maxL n : Nat) : Prop := (∃ (bytes : ByteArray) (ret : Option FieldType) (ws2 : List Cond), ws = Cond.code y bytes maxL ret :: ws2) ∧ (y.cls = own ∧ y.cls ≠ "java/lang/invoke/MethodHandle" ∧ y.cls ≠ "java/lang/invoke/VarHandle" ∧ (parseMethodDescriptor y.desc).map (fun d => d.parameters.length) = some n)
section MM
variable {κ : GC} {cy : Nat → ClassId} {Z : (Nat → Prop) → State → Heap → Prop} {cc : ByteArray} {Ts : List Cond} {rm : Room} {n1 n2 : Nat} {pc : Nat} {lv : List (Nat × Value)} {st : List Value} {h0 : Nat} {a q : Nat → Nat} {C : (Nat → Int32) → (Nat → Nat → Int32) → (Nat → Nat → Int32) → va_W} {v : Nat → Int32} {r x : Nat → Nat → Int32}
theorem m_getA (hX : GX κ cy Z cc Ts RX7 rm) (hC : mLens (cy 0) h0 a q C) (hin : ∀ x ∈ wsX70, x ∈ Ts) (j : Nat) (hj : j < 33) {index : Nat} (hv : (mF a v)[j]? = some (.ref (a j))) (hl : Cond.fieldLink RX7 index "LeaningStreetModel" (TX7 j).2.1 (TX7 j).2.2.1 ∈ Ts) (d : decode cc pc = .ok (.getfield index, 3)) (k : GW κ n1 n2 (C v r x) (pc + 3) lv (.ref (a j) :: st)) : GW κ n1 n2 (C v r x) pc lv (.ref h0 :: st) := g_get hX 7 (q 33) j hin (hC.1 v r x) rfl hj hl (m_ref j) hv d k
theorem m_getI (hX : GX κ cy Z cc Ts RX7 rm) (hC : mLens (cy 0) h0 a q C) (hin : ∀ x ∈ wsX70, x ∈ Ts) (j : Nat) (hj : j < 33) {index : Nat} {z : Int32} (hv : (mF a v)[j]? = some (.int z)) (hl : Cond.fieldLink RX7 index "LeaningStreetModel" (TX7 j).2.1 (TX7 j).2.2.1 ∈ Ts) (d : decode cc pc = .ok (.getfield index, 3)) (k : GW κ n1 n2 (C v r x) (pc + 3) lv (.int z :: st)) : GW κ n1 n2 (C v r x) pc lv (.ref h0 :: st) := g_get hX 7 (q 33) j hin (hC.1 v r x) rfl hj hl (m_ref j) hv d k
theorem m_putI (hX : GX κ cy Z cc Ts RX7 rm) (hC : mLens (cy 0) h0 a q C) (hin : ∀ x ∈ wsX70, x ∈ Ts) (j : Nat) (hj : j < 33) (hI : mI j = true) {index : Nat} {z : Int32} {ty : FieldType} (hfin : (TX7 j).2.2.2 = false) (hd : parseFieldDescriptor (TX7 j).2.2.1 = some ty) (hn : narrow ty (.int z) = .int z) (hfit : fits ty (.int z) = true) (hl : Cond.fieldLink RX7 index "LeaningStreetModel" (TX7 j).2.1 (TX7 j).2.2.1 ∈ Ts) (d : decode cc pc = .ok (.putfield index, 3)) (k : GW κ n1 n2 (C (upd v j z) r x) (pc + 3) lv st) : GW κ n1 n2 (C v r x) pc lv (.int z :: .ref h0 :: st) := g_put hX 7 (q 33) j hin tyX7 tyX7_ok nmX7 (hC.1 v r x) rfl hj hl (m_ref j) hfin hd hn hfit hj (hC.2.1 v r x j z hI) d k
theorem m_ald (hX : GX κ cy Z cc Ts RX7 rm) (hC : mLens (cy 0) h0 a q C) (j : Nat) (hA : mA j = true) {i : Int32} (hi : vp_in i (mN j)) (d : decode cc pc = .ok (.iaload, 1)) (k : GW κ n1 n2 (C v r x) (pc + 1) lv (.int (r j i.toNatClampNeg) :: st)) : GW κ n1 n2 (C v r x) pc lv (.int i :: .ref (a j) :: st) := g_ald hX (q j) (hC.2.2.1 v r x j hA) hi d k
theorem m_aldN (hX : GX κ cy Z cc Ts RX7 rm) (hC : mLens (cy 0) h0 a q C) (j : Nat) (hA : mA j = true) {i : Nat} (hi : i < mN j) (hN : mN j < 2 ^ 31) (d : decode cc pc = .ok (.iaload, 1)) (k : GW κ n1 n2 (C v r x) (pc + 1) lv (.int (r j i) :: st)) : GW κ n1 n2 (C v r x) pc lv (.int (nI i) :: .ref (a j) :: st) := m_ald hX hC j hA (vp_in_nI hi hN) d (by rw [nI_clamp (Nat.lt_trans hi hN)]; exact k)
theorem m_ast (hX : GX κ cy Z cc Ts RX7 rm) (hC : mLens (cy 0) h0 a q C) (j : Nat) (hA : mA j = true) {i z : Int32} (hi : vp_in i (mN j)) (d : decode cc pc = .ok (.iastore, 1)) (k : GW κ n1 n2 (C v (mU r j (upd (r j) i.toNatClampNeg z)) x) (pc + 1) lv st) : GW κ n1 n2 (C v r x) pc lv (.int z :: .int i :: .ref (a j) :: st) := g_ast hX (q j) (hC.2.2.1 v r x j hA) hi (hC.2.2.2.1 v r x j _ hA) d k
theorem m_astN (hX : GX κ cy Z cc Ts RX7 rm) (hC : mLens (cy 0) h0 a q C) (j : Nat) (hA : mA j = true) {i : Nat} {z : Int32} (hi : i < mN j) (hN : mN j < 2 ^ 31) (d : decode cc pc = .ok (.iastore, 1)) (k : GW κ n1 n2 (C v (mU r j (upd (r j) i z)) x) (pc + 1) lv st) : GW κ n1 n2 (C v r x) pc lv (.int z :: .int (nI i) :: .ref (a j) :: st) := m_ast hX hC j hA (vp_in_nI hi hN) d (by rw [nI_clamp (Nat.lt_trans hi hN)]; exact k)
theorem mb_ald (hX : GX κ cy Z cc Ts RX7 rm) (hC : mLens (cy 0) h0 a q C) (j : Nat) (hB : mB j = true) {i : Int32} (hi : vp_in i (mN j)) (d : decode cc pc = .ok (.iaload, 1)) (k : GW κ n1 n2 (C v r x) (pc + 1) lv (.int (x j i.toNatClampNeg) :: st)) : GW κ n1 n2 (C v r x) pc lv (.int i :: .ref (a j) :: st) := g_ald hX (q j) (hC.2.2.2.2.1 v r x j hB) hi d k
theorem mb_aldN (hX : GX κ cy Z cc Ts RX7 rm) (hC : mLens (cy 0) h0 a q C) (j : Nat) (hB : mB j = true) {i : Nat} (hi : i < mN j) (hN : mN j < 2 ^ 31) (d : decode cc pc = .ok (.iaload, 1)) (k : GW κ n1 n2 (C v r x) (pc + 1) lv (.int (x j i) :: st)) : GW κ n1 n2 (C v r x) pc lv (.int (nI i) :: .ref (a j) :: st) := mb_ald hX hC j hB (vp_in_nI hi hN) d (by rw [nI_clamp (Nat.lt_trans hi hN)]; exact k)
theorem mb_ast (hX : GX κ cy Z cc Ts RX7 rm) (hC : mLens (cy 0) h0 a q C) (j : Nat) (hB : mB j = true) {i z : Int32} (hi : vp_in i (mN j)) (d : decode cc pc = .ok (.iastore, 1)) (k : GW κ n1 n2 (C v r (mU x j (upd (x j) i.toNatClampNeg z))) (pc + 1) lv st) : GW κ n1 n2 (C v r x) pc lv (.int z :: .int i :: .ref (a j) :: st) := g_ast hX (q j) (hC.2.2.2.2.1 v r x j hB) hi (hC.2.2.2.2.2 v r x j _ hB) d k
theorem mb_astN (hX : GX κ cy Z cc Ts RX7 rm) (hC : mLens (cy 0) h0 a q C) (j : Nat) (hB : mB j = true) {i : Nat} {z : Int32} (hi : i < mN j) (hN : mN j < 2 ^ 31) (d : decode cc pc = .ok (.iastore, 1)) (k : GW κ n1 n2 (C v r (mU x j (upd (x j) i z))) (pc + 1) lv st) : GW κ n1 n2 (C v r x) pc lv (.int z :: .int (nI i) :: .ref (a j) :: st) := mb_ast hX hC j hB (vp_in_nI hi hN) d (by rw [nI_clamp (Nat.lt_trans hi hN)]; exact k)
theorem m_call (hX : GX κ cy Z cc Ts RX7 rm) (hzo : zOK Z) (hC : mLens (cy 0) h0 a q C) {y : MethodName} {ws : List Cond} {rm2 : Room} {maxL index : Nat} {Po : Option Value → va_W → Prop} (As rest : List Value) (hM : GM (Kl κ) (KD κ) cy Z y ws rm2 (.ref h0 :: As) (C v r x) Po 0 0) (hk : mK RX7 y ws maxL As.length) (hG : GoodIn Ts (wsV RX7 index RX7 y ws)) (hrc : rm2.cells = 0) (hrs : rm2.slots = 0) (hR1 : rm2.frames + 1 ≤ rm.frames) (hR2 : 8 + (maxL + 11) + rm2.locals ≤ rm.locals) (hf : n1 + 0 ≤ rm.cells ∧ n2 + 0 ≤ rm.slots) {st0 : List Value} (hst : st0 = As.reverse ++ .ref h0 :: rest) (hrest : (rest.map fun v => v.category).sum ≤ 8) (d : decode cc pc = .ok (.invokevirtual index, 3)) (k : ∀ (res : Option Value) (w2 : va_W), Po res w2 → GW κ n1 n2 w2 (pc + 3) lv (res.toList ++ rest)) : GW κ n1 n2 (C v r x) pc lv st0 := by
  obtain ⟨⟨bytes, ret, ws2, hw⟩, hd⟩ := hk
  exact g_callV hX hzo As rest 7 (q 33) (qc := (RX7, TX7, 33)) rfl rfl (hC.1 v r x) hM hG hw hrc hrs hd hR1 hR2 hst hrest hf d k
theorem m_callD (hX : GX κ cy Z cc Ts RX7 rm) (hzo : zOK Z) (hC : mLens (cy 0) h0 a q C) {y : MethodName} {ws : List Cond} {rm2 : Room} {maxL index : Nat} {res : Option Value} {w2 : va_W} (As rest : List Value) (hM : GD (Kl κ) (KD κ) cy Z y ws rm2 (.ref h0 :: As) (C v r x) res w2 0 0) (hk : mK RX7 y ws maxL As.length) (hG : GoodIn Ts (wsV RX7 index RX7 y ws)) (hrc : rm2.cells = 0) (hrs : rm2.slots = 0) (hR1 : rm2.frames + 1 ≤ rm.frames) (hR2 : 8 + (maxL + 11) + rm2.locals ≤ rm.locals) (hf : n1 + 0 ≤ rm.cells ∧ n2 + 0 ≤ rm.slots) {st0 st1 : List Value} (hst : st0 = As.reverse ++ .ref h0 :: rest) (hst1 : res.toList ++ rest = st1) (hrest : (rest.map fun v => v.category).sum ≤ 8) (d : decode cc pc = .ok (.invokevirtual index, 3)) (k : GW κ n1 n2 w2 (pc + 3) lv st1) : GW κ n1 n2 (C v r x) pc lv st0 := by
  refine m_call hX hzo hC As rest hM hk hG hrc hrs hR1 hR2 hf hst hrest d ?_
  rintro res' w' ⟨rfl, rfl⟩
  rw [hst1]
  exact k
end MM
/-- a static method's call, the world as it is -/
theorem s_call {κ : GC} {cy : Nat → ClassId} {Z : (Nat → Prop) → State → Heap → Prop} {cc : ByteArray} {Ts : List Cond} {own own2 : String} {rm : Room} {n1 n2 : Nat} {pc : Nat} {lv : List (Nat × Value)} {w : va_W} (hX : GX κ cy Z cc Ts own rm) (hzo : zOK Z) {y : MethodName} {ws : List Cond} {rm2 : Room} {maxL index : Nat} {res : Option Value} (As rest : List Value) (hM : GD (Kl κ) (KD κ) cy Z y ws rm2 As w res w 0 0) (hk : mK own2 y ws maxL As.length) (hG : GoodIn Ts (va_wsS own index y ws)) (hrc : rm2.cells = 0) (hrs : rm2.slots = 0) (hR1 : rm2.frames + 1 ≤ rm.frames) (hR2 : 8 + (maxL + 11) + rm2.locals ≤ rm.locals) (hf : n1 + 0 ≤ rm.cells ∧ n2 + 0 ≤ rm.slots) {st0 st1 : List Value} (hst : st0 = As.reverse ++ rest) (hst1 : res.toList ++ rest = st1) (hrest : (rest.map fun v => v.category).sum ≤ 8) (d : decode cc pc = .ok (.invokestatic index, 3)) (k : GW κ n1 n2 w (pc + 3) lv st1) : GW κ n1 n2 w pc lv st0 := by
  obtain ⟨⟨bytes, ret, ws2, hw⟩, hd⟩ := hk
  refine g_callS hX hzo As rest hM hG hw hrc hrs hd.2 hR1 hR2 hst hrest hf d ?_
  rintro res' w' ⟨rfl, rfl⟩
  rw [hst1]
  exact k
section NN
variable {κ : GC} {cy : Nat → ClassId} {Z : (Nat → Prop) → State → Heap → Prop} {cc : ByteArray} {Ts : List Cond} {own : String} {rm : Room} {n1 n2 : Nat} {w : va_W} {pc : Nat} {lv : List (Nat × Value)} {st : List Value}
theorem g_iaddN (hX : GX κ cy Z cc Ts own rm) {x y : Nat} (d : decode cc pc = .ok (.iadd, 1)) (k : GW κ n1 n2 w (pc + 1) lv (.int (nI (x + y)) :: st)) : GW κ n1 n2 w pc lv (.int (nI y) :: .int (nI x) :: st) := g_iadd hX d (by rw [nI_add]; exact k)
theorem g_imulN (hX : GX κ cy Z cc Ts own rm) {x y : Nat} (d : decode cc pc = .ok (.imul, 1)) (k : GW κ n1 n2 w (pc + 1) lv (.int (nI (x * y)) :: st)) : GW κ n1 n2 w pc lv (.int (nI y) :: .int (nI x) :: st) := g_imul hX d (by rw [pk_mul]; exact k)
theorem g_isubN (hX : GX κ cy Z cc Ts own rm) {x y : Nat} (h : y ≤ x) (d : decode cc pc = .ok (.isub, 1)) (k : GW κ n1 n2 w (pc + 1) lv (.int (nI (x - y)) :: st)) : GW κ n1 n2 w pc lv (.int (nI y) :: .int (nI x) :: st) := g_isub hX d (by rw [pk_sub h]; exact k)
theorem g_iincN (hX : GX κ cy Z cc Ts own rm) {n x : Nat} {lv2 : List (Nat × Value)} (i j nL : Nat) (hn : GN κ nL) (hl0 : lv[i]? = some (j, .int (nI x))) (hj : j < nL) (h2 : (j, Value.int (nI (x + n))) :: lv.filter (fun q => !(q.1 == j) && !(q.1 + 1 == j && q.2.category == 2)) = lv2) (d : decode cc pc = .ok (.iinc j (n : Int), 3)) (k : GW κ n1 n2 w (pc + 3) lv2 st) : GW κ n1 n2 w pc lv st := g_iinc hX i j nL hn hl0 (by rw [show Int32.ofInt (n : Int) = nI n from Int32.ofInt_eq_ofNat]; exact nI_add x n) hj h2 d k
theorem g_ifb_eq (hX : GX κ cy Z cc Ts own rm) {b : Bool} {off : Int} (tgt : Nat) (ht : (pc : Int) + off = (tgt : Int)) (d : decode cc pc = .ok (.ifCond .eq off, 3)) (kt : b = false → GW κ n1 n2 w tgt lv st) (kf : b = true → GW κ n1 n2 w (pc + 3) lv st) : GW κ n1 n2 w pc lv (.int (bI b) :: st) := g_if_eq hX tgt ht d (fun h => kt (bI_eq h)) (fun h => kf (bI_ne h))
theorem g_ifb_ne (hX : GX κ cy Z cc Ts own rm) {b : Bool} {off : Int} (tgt : Nat) (ht : (pc : Int) + off = (tgt : Int)) (d : decode cc pc = .ok (.ifCond .ne off, 3)) (kt : b = true → GW κ n1 n2 w tgt lv st) (kf : b = false → GW κ n1 n2 w (pc + 3) lv st) : GW κ n1 n2 w pc lv (.int (bI b) :: st) := g_if_ne hX tgt ht d (fun h => kt (bI_ne h)) (fun h => kf (bI_eq h))
theorem g_icmpN_eq (hX : GX κ cy Z cc Ts own rm) {x y : Nat} (hx : x < 2147483648) (hy : y < 2147483648) {off : Int} (tgt : Nat) (ht : (pc : Int) + off = (tgt : Int)) (d : decode cc pc = .ok (.if_icmp .eq off, 3)) (kt : x = y → GW κ n1 n2 w tgt lv st) (kf : ¬ x = y → GW κ n1 n2 w (pc + 3) lv st) : GW κ n1 n2 w pc lv (.int (nI y) :: .int (nI x) :: st) := g_icmp_eq hX tgt ht d (fun h => kt ((nI_eq hx hy).mp h)) (fun h => kf (fun z => h ((nI_eq hx hy).mpr z)))
theorem g_icmpN_ne (hX : GX κ cy Z cc Ts own rm) {x y : Nat} (hx : x < 2147483648) (hy : y < 2147483648) {off : Int} (tgt : Nat) (ht : (pc : Int) + off = (tgt : Int)) (d : decode cc pc = .ok (.if_icmp .ne off, 3)) (kt : ¬ x = y → GW κ n1 n2 w tgt lv st) (kf : x = y → GW κ n1 n2 w (pc + 3) lv st) : GW κ n1 n2 w pc lv (.int (nI y) :: .int (nI x) :: st) := g_icmp_ne hX tgt ht d (fun h => kt (fun z => h ((nI_eq hx hy).mpr z))) (fun h => kf ((nI_eq hx hy).mp h))
theorem g_icmpN_lt (hX : GX κ cy Z cc Ts own rm) {x y : Nat} (hx : x < 2147483648) (hy : y < 2147483648) {off : Int} (tgt : Nat) (ht : (pc : Int) + off = (tgt : Int)) (d : decode cc pc = .ok (.if_icmp .lt off, 3)) (kt : x < y → GW κ n1 n2 w tgt lv st) (kf : y ≤ x → GW κ n1 n2 w (pc + 3) lv st) : GW κ n1 n2 w pc lv (.int (nI y) :: .int (nI x) :: st) := g_icmp_lt hX tgt ht d (fun h => kt ((nI_ltI hx hy).mp h)) (fun h => kf (Nat.not_lt.mp (fun z => h ((nI_ltI hx hy).mpr z))))
theorem g_icmpN_ge (hX : GX κ cy Z cc Ts own rm) {x y : Nat} (hx : x < 2147483648) (hy : y < 2147483648) {off : Int} (tgt : Nat) (ht : (pc : Int) + off = (tgt : Int)) (d : decode cc pc = .ok (.if_icmp .ge off, 3)) (kt : y ≤ x → GW κ n1 n2 w tgt lv st) (kf : x < y → GW κ n1 n2 w (pc + 3) lv st) : GW κ n1 n2 w pc lv (.int (nI y) :: .int (nI x) :: st) := g_icmp_ge hX tgt ht d (fun h => kt ((nI_leI hy hx).mp h)) (fun h => kf (Nat.not_le.mp (fun z => h ((nI_leI hy hx).mpr z))))
theorem g_icmpN_gt (hX : GX κ cy Z cc Ts own rm) {x y : Nat} (hx : x < 2147483648) (hy : y < 2147483648) {off : Int} (tgt : Nat) (ht : (pc : Int) + off = (tgt : Int)) (d : decode cc pc = .ok (.if_icmp .gt off, 3)) (kt : y < x → GW κ n1 n2 w tgt lv st) (kf : x ≤ y → GW κ n1 n2 w (pc + 3) lv st) : GW κ n1 n2 w pc lv (.int (nI y) :: .int (nI x) :: st) := g_icmp_gt hX tgt ht d (fun h => kt ((nI_ltI hy hx).mp h)) (fun h => kf (Nat.not_lt.mp (fun z => h ((nI_ltI hy hx).mpr z))))
theorem g_icmpN_le (hX : GX κ cy Z cc Ts own rm) {x y : Nat} (hx : x < 2147483648) (hy : y < 2147483648) {off : Int} (tgt : Nat) (ht : (pc : Int) + off = (tgt : Int)) (d : decode cc pc = .ok (.if_icmp .le off, 3)) (kt : x ≤ y → GW κ n1 n2 w tgt lv st) (kf : y < x → GW κ n1 n2 w (pc + 3) lv st) : GW κ n1 n2 w pc lv (.int (nI y) :: .int (nI x) :: st) := g_icmp_le hX tgt ht d (fun h => kt ((nI_leI hx hy).mp h)) (fun h => kf (Nat.not_le.mp (fun z => h ((nI_leI hx hy).mpr z))))
theorem g_ifN_eq (hX : GX κ cy Z cc Ts own rm) {x : Nat} (hx : x < 2147483648) {off : Int} (tgt : Nat) (ht : (pc : Int) + off = (tgt : Int)) (d : decode cc pc = .ok (.ifCond .eq off, 3)) (kt : x = 0 → GW κ n1 n2 w tgt lv st) (kf : ¬ x = 0 → GW κ n1 n2 w (pc + 3) lv st) : GW κ n1 n2 w pc lv (.int (nI x) :: st) := g_if_eq hX tgt ht d (fun h => kt ((nI_eq hx (by decide)).mp (h.trans nI_0.symm))) (fun h => kf (fun z => h (by rw [z]; exact nI_0)))
theorem g_ifN_ne (hX : GX κ cy Z cc Ts own rm) {x : Nat} (hx : x < 2147483648) {off : Int} (tgt : Nat) (ht : (pc : Int) + off = (tgt : Int)) (d : decode cc pc = .ok (.ifCond .ne off, 3)) (kt : ¬ x = 0 → GW κ n1 n2 w tgt lv st) (kf : x = 0 → GW κ n1 n2 w (pc + 3) lv st) : GW κ n1 n2 w pc lv (.int (nI x) :: st) := g_if_ne hX tgt ht d (fun h => kt (fun z => h (by rw [z]; exact nI_0))) (fun h => kf ((nI_eq hx (by decide)).mp (h.trans nI_0.symm)))
theorem g_ifN_lt (hX : GX κ cy Z cc Ts own rm) {x : Nat} (hx : x < 2147483648) {off : Int} (tgt : Nat) (ht : (pc : Int) + off = (tgt : Int)) (d : decode cc pc = .ok (.ifCond .lt off, 3)) (kf : GW κ n1 n2 w (pc + 3) lv st) : GW κ n1 n2 w pc lv (.int (nI x) :: st) := g_if_lt hX tgt ht d (fun h => absurd h (nI_pos hx)) (fun _ => kf)
theorem g_ifN_ge (hX : GX κ cy Z cc Ts own rm) {x : Nat} (hx : x < 2147483648) {off : Int} (tgt : Nat) (ht : (pc : Int) + off = (tgt : Int)) (d : decode cc pc = .ok (.ifCond .ge off, 3)) (kt : GW κ n1 n2 w tgt lv st) : GW κ n1 n2 w pc lv (.int (nI x) :: st) := g_if_ge hX tgt ht d (fun _ => kt) (fun h => absurd (nI_pos' hx) h)
theorem g_reti {mc ms : Nat} {res : Int32} {w2 : va_W} (hR : GR κ cc mc ms (some .int) (fun x y => x = some (.int res) ∧ y = w2)) {x : Int32} (hx : x = res) (hw : w = w2) (d : decode cc pc = .ok (.ireturn, 1)) : GW κ mc ms w pc lv [.int x] := by subst hx; subst hw; exact (hR _ _ ⟨rfl, rfl⟩).1 .int x pc lv rfl rfl rfl d
theorem g_retz {mc ms : Nat} {res : Bool} {w2 : va_W} (hR : GR κ cc mc ms (some .boolean) (fun x y => x = some (.int (bI res)) ∧ y = w2)) {x : Int32} (hx : x = bI res) (hw : w = w2) (d : decode cc pc = .ok (.ireturn, 1)) : GW κ mc ms w pc lv [.int x] := by subst hx; subst hw; exact (hR _ _ ⟨rfl, rfl⟩).1 .boolean _ pc lv rfl rfl (bI_nar res) d
theorem g_retv {mc ms : Nat} {w2 : va_W} (hR : GR κ cc mc ms none (fun x y => x = none ∧ y = w2)) (hw : w = w2) (d : decode cc pc = .ok (.return_, 1)) : GW κ mc ms w pc lv [] := by subst hw; exact (hR _ _ ⟨rfl, rfl⟩).2.1 pc lv rfl rfl d
theorem g_retiP {mc ms : Nat} {Po : Option Value → va_W → Prop} (hR : GR κ cc mc ms (some .int) Po) {x : Int32} (hx : Po (some (.int x)) w) (d : decode cc pc = .ok (.ireturn, 1)) : GW κ mc ms w pc lv [.int x] := (hR _ _ hx).1 .int x pc lv rfl rfl rfl d
theorem g_retzP {mc ms : Nat} {Po : Option Value → va_W → Prop} (hR : GR κ cc mc ms (some .boolean) Po) {x : Bool} (hx : Po (some (.int (bI x))) w) (d : decode cc pc = .ok (.ireturn, 1)) : GW κ mc ms w pc lv [.int (bI x)] := (hR _ _ hx).1 .boolean _ pc lv rfl rfl (bI_nar x) d
theorem g_retvP {mc ms : Nat} {Po : Option Value → va_W → Prop} (hR : GR κ cc mc ms none Po) (hx : Po none w) (d : decode cc pc = .ok (.return_, 1)) : GW κ mc ms w pc lv [] := (hR _ _ hx).2.1 pc lv rfl rfl d
/-- another name for what stands on top, by an equation -/
theorem g_top {x y : Value} (h : x = y) (k : GW κ n1 n2 w pc lv (y :: st)) : GW κ n1 n2 w pc lv (x :: st) := by rw [h]; exact k
/-- the locals in another order, or fewer -/
theorem g_lv {lv2 : List (Nat × Value)} (ks : List Nat) (h : lv_pick lv ks = lv2) (k : GW κ n1 n2 w pc lv2 st) : GW κ n1 n2 w pc lv st := by
  obtain ⟨p, l, e, R, s, m, args, below, meth, c, Q, A, D, cy', nL', Z'⟩ := κ
  intro H locs ls hP hD hS hl
  exact k H locs ls hP hD hS (lv_sub hl ks h)
end NN
end
section
theorem dX7_init_0 : decode cX7_init 0 = .ok (.aload_n 0, 1) := by decide +kernel
theorem dX7_init_1 : decode cX7_init 1 = .ok (.invokespecial 1, 3) := by decide +kernel
theorem dX7_init_4 : decode cX7_init 4 = .ok (.aload_n 0, 1) := by decide +kernel
theorem dX7_init_5 : decode cX7_init 5 = .ok (.sipush 3069, 3) := by decide +kernel
theorem dX7_init_8 : decode cX7_init 8 = .ok (.newarray .int, 2) := by decide +kernel
theorem dX7_init_10 : decode cX7_init 10 = .ok (.putfield 7, 3) := by decide +kernel
theorem dX7_init_13 : decode cX7_init 13 = .ok (.aload_n 0, 1) := by decide +kernel
theorem dX7_init_14 : decode cX7_init 14 = .ok (.sipush 3069, 3) := by decide +kernel
theorem dX7_init_17 : decode cX7_init 17 = .ok (.newarray .int, 2) := by decide +kernel
theorem dX7_init_19 : decode cX7_init 19 = .ok (.putfield 13, 3) := by decide +kernel
theorem dX7_init_22 : decode cX7_init 22 = .ok (.aload_n 0, 1) := by decide +kernel
theorem dX7_init_23 : decode cX7_init 23 = .ok (.sipush 3069, 3) := by decide +kernel
theorem dX7_init_26 : decode cX7_init 26 = .ok (.newarray .int, 2) := by decide +kernel
theorem dX7_init_28 : decode cX7_init 28 = .ok (.putfield 16, 3) := by decide +kernel
theorem dX7_init_31 : decode cX7_init 31 = .ok (.aload_n 0, 1) := by decide +kernel
theorem dX7_init_32 : decode cX7_init 32 = .ok (.iconst 4, 1) := by decide +kernel
theorem dX7_init_33 : decode cX7_init 33 = .ok (.newarray .int, 2) := by decide +kernel
theorem dX7_init_35 : decode cX7_init 35 = .ok (.putfield 19, 3) := by decide +kernel
theorem dX7_init_38 : decode cX7_init 38 = .ok (.aload_n 0, 1) := by decide +kernel
theorem dX7_init_39 : decode cX7_init 39 = .ok (.iconst 4, 1) := by decide +kernel
theorem dX7_init_40 : decode cX7_init 40 = .ok (.newarray .int, 2) := by decide +kernel
theorem dX7_init_42 : decode cX7_init 42 = .ok (.putfield 22, 3) := by decide +kernel
theorem dX7_init_45 : decode cX7_init 45 = .ok (.aload_n 0, 1) := by decide +kernel
theorem dX7_init_46 : decode cX7_init 46 = .ok (.bipush 96, 2) := by decide +kernel
theorem dX7_init_48 : decode cX7_init 48 = .ok (.newarray .int, 2) := by decide +kernel
theorem dX7_init_50 : decode cX7_init 50 = .ok (.putfield 25, 3) := by decide +kernel
theorem dX7_init_53 : decode cX7_init 53 = .ok (.aload_n 0, 1) := by decide +kernel
theorem dX7_init_54 : decode cX7_init 54 = .ok (.iconst 5, 1) := by decide +kernel
theorem dX7_init_55 : decode cX7_init 55 = .ok (.newarray .int, 2) := by decide +kernel
theorem dX7_init_57 : decode cX7_init 57 = .ok (.putfield 28, 3) := by decide +kernel
theorem dX7_init_60 : decode cX7_init 60 = .ok (.aload_n 0, 1) := by decide +kernel
theorem dX7_init_61 : decode cX7_init 61 = .ok (.iconst 5, 1) := by decide +kernel
theorem dX7_init_62 : decode cX7_init 62 = .ok (.newarray .int, 2) := by decide +kernel
theorem dX7_init_64 : decode cX7_init 64 = .ok (.putfield 31, 3) := by decide +kernel
theorem dX7_init_67 : decode cX7_init 67 = .ok (.aload_n 0, 1) := by decide +kernel
theorem dX7_init_68 : decode cX7_init 68 = .ok (.iconst 5, 1) := by decide +kernel
theorem dX7_init_69 : decode cX7_init 69 = .ok (.newarray .int, 2) := by decide +kernel
theorem dX7_init_71 : decode cX7_init 71 = .ok (.putfield 34, 3) := by decide +kernel
theorem dX7_init_74 : decode cX7_init 74 = .ok (.aload_n 0, 1) := by decide +kernel
theorem dX7_init_75 : decode cX7_init 75 = .ok (.iconst 5, 1) := by decide +kernel
theorem dX7_init_76 : decode cX7_init 76 = .ok (.newarray .int, 2) := by decide +kernel
theorem dX7_init_78 : decode cX7_init 78 = .ok (.putfield 37, 3) := by decide +kernel
theorem dX7_init_81 : decode cX7_init 81 = .ok (.aload_n 0, 1) := by decide +kernel
theorem dX7_init_82 : decode cX7_init 82 = .ok (.bipush 120, 2) := by decide +kernel
theorem dX7_init_84 : decode cX7_init 84 = .ok (.newarray .int, 2) := by decide +kernel
theorem dX7_init_86 : decode cX7_init 86 = .ok (.putfield 40, 3) := by decide +kernel
theorem dX7_init_89 : decode cX7_init 89 = .ok (.aload_n 0, 1) := by decide +kernel
theorem dX7_init_90 : decode cX7_init 90 = .ok (.bipush 9, 2) := by decide +kernel
theorem dX7_init_92 : decode cX7_init 92 = .ok (.newarray .int, 2) := by decide +kernel
theorem dX7_init_94 : decode cX7_init 94 = .ok (.putfield 43, 3) := by decide +kernel
theorem dX7_init_97 : decode cX7_init 97 = .ok (.aload_n 0, 1) := by decide +kernel
theorem dX7_init_98 : decode cX7_init 98 = .ok (.bipush 9, 2) := by decide +kernel
theorem dX7_init_100 : decode cX7_init 100 = .ok (.newarray .int, 2) := by decide +kernel
theorem dX7_init_102 : decode cX7_init 102 = .ok (.putfield 46, 3) := by decide +kernel
theorem dX7_init_105 : decode cX7_init 105 = .ok (.aload_n 0, 1) := by decide +kernel
theorem dX7_init_106 : decode cX7_init 106 = .ok (.bipush 69, 2) := by decide +kernel
theorem dX7_init_108 : decode cX7_init 108 = .ok (.newarray .int, 2) := by decide +kernel
theorem dX7_init_110 : decode cX7_init 110 = .ok (.putfield 49, 3) := by decide +kernel
theorem dX7_init_113 : decode cX7_init 113 = .ok (.aload_n 0, 1) := by decide +kernel
theorem dX7_init_114 : decode cX7_init 114 = .ok (.bipush 96, 2) := by decide +kernel
theorem dX7_init_116 : decode cX7_init 116 = .ok (.newarray .int, 2) := by decide +kernel
theorem dX7_init_118 : decode cX7_init 118 = .ok (.putfield 52, 3) := by decide +kernel
theorem dX7_init_121 : decode cX7_init 121 = .ok (.aload_n 0, 1) := by decide +kernel
theorem dX7_init_122 : decode cX7_init 122 = .ok (.sipush 128, 3) := by decide +kernel
theorem dX7_init_125 : decode cX7_init 125 = .ok (.newarray .int, 2) := by decide +kernel
theorem dX7_init_127 : decode cX7_init 127 = .ok (.putfield 55, 3) := by decide +kernel
theorem dX7_init_130 : decode cX7_init 130 = .ok (.aload_n 0, 1) := by decide +kernel
theorem dX7_init_131 : decode cX7_init 131 = .ok (.bipush 100, 2) := by decide +kernel
theorem dX7_init_133 : decode cX7_init 133 = .ok (.newarray .int, 2) := by decide +kernel
theorem dX7_init_135 : decode cX7_init 135 = .ok (.putfield 58, 3) := by decide +kernel
theorem dX7_init_138 : decode cX7_init 138 = .ok (.aload_n 0, 1) := by decide +kernel
theorem dX7_init_139 : decode cX7_init 139 = .ok (.bipush 24, 2) := by decide +kernel
theorem dX7_init_141 : decode cX7_init 141 = .ok (.newarray .int, 2) := by decide +kernel
theorem dX7_init_143 : decode cX7_init 143 = .ok (.putfield 61, 3) := by decide +kernel
theorem dX7_init_146 : decode cX7_init 146 = .ok (.aload_n 0, 1) := by decide +kernel
theorem dX7_init_147 : decode cX7_init 147 = .ok (.bipush 60, 2) := by decide +kernel
theorem dX7_init_149 : decode cX7_init 149 = .ok (.newarray .int, 2) := by decide +kernel
theorem dX7_init_151 : decode cX7_init 151 = .ok (.putfield 64, 3) := by decide +kernel
theorem dX7_init_154 : decode cX7_init 154 = .ok (.aload_n 0, 1) := by decide +kernel
theorem dX7_init_155 : decode cX7_init 155 = .ok (.bipush 60, 2) := by decide +kernel
theorem dX7_init_157 : decode cX7_init 157 = .ok (.newarray .int, 2) := by decide +kernel
theorem dX7_init_159 : decode cX7_init 159 = .ok (.putfield 67, 3) := by decide +kernel
theorem dX7_init_162 : decode cX7_init 162 = .ok (.aload_n 0, 1) := by decide +kernel
theorem dX7_init_163 : decode cX7_init 163 = .ok (.getfield 7, 3) := by decide +kernel
theorem dX7_init_166 : decode cX7_init 166 = .ok (.iconst 5, 1) := by decide +kernel
theorem dX7_init_167 : decode cX7_init 167 = .ok (.iconst 1, 1) := by decide +kernel
theorem dX7_init_168 : decode cX7_init 168 = .ok (.iastore, 1) := by decide +kernel
theorem dX7_init_169 : decode cX7_init 169 = .ok (.iconst 0, 1) := by decide +kernel
theorem dX7_init_170 : decode cX7_init 170 = .ok (.istore_n 1, 1) := by decide +kernel
theorem dX7_init_171 : decode cX7_init 171 = .ok (.iload_n 1, 1) := by decide +kernel
theorem dX7_init_172 : decode cX7_init 172 = .ok (.iconst 4, 1) := by decide +kernel
theorem dX7_init_173 : decode cX7_init 173 = .ok (.if_icmp .ge 16, 3) := by decide +kernel
theorem dX7_init_176 : decode cX7_init 176 = .ok (.aload_n 0, 1) := by decide +kernel
theorem dX7_init_177 : decode cX7_init 177 = .ok (.getfield 19, 3) := by decide +kernel
theorem dX7_init_180 : decode cX7_init 180 = .ok (.iload_n 1, 1) := by decide +kernel
theorem dX7_init_181 : decode cX7_init 181 = .ok (.iconst (-1), 1) := by decide +kernel
theorem dX7_init_182 : decode cX7_init 182 = .ok (.iastore, 1) := by decide +kernel
theorem dX7_init_183 : decode cX7_init 183 = .ok (.iinc 1 1, 3) := by decide +kernel
theorem dX7_init_186 : decode cX7_init 186 = .ok (.goto (-15), 3) := by decide +kernel
theorem dX7_init_189 : decode cX7_init 189 = .ok (.return_, 1) := by decide +kernel
theorem dX7_isIn_0 : decode cX7_isIn 0 = .ok (.lload_n 0, 1) := by decide +kernel
theorem dX7_isIn_1 : decode cX7_isIn 1 = .ok (.lload_n 2, 1) := by decide +kernel
theorem dX7_isIn_2 : decode cX7_isIn 2 = .ok (.lcmp, 1) := by decide +kernel
theorem dX7_isIn_3 : decode cX7_isIn 3 = .ok (.ifCond .lt 14, 3) := by decide +kernel
theorem dX7_isIn_6 : decode cX7_isIn 6 = .ok (.lload_n 0, 1) := by decide +kernel
theorem dX7_isIn_7 : decode cX7_isIn 7 = .ok (.lload 4, 2) := by decide +kernel
theorem dX7_isIn_9 : decode cX7_isIn 9 = .ok (.lcmp, 1) := by decide +kernel
theorem dX7_isIn_10 : decode cX7_isIn 10 = .ok (.ifCond .gt 7, 3) := by decide +kernel
theorem dX7_isIn_13 : decode cX7_isIn 13 = .ok (.iconst 1, 1) := by decide +kernel
theorem dX7_isIn_14 : decode cX7_isIn 14 = .ok (.goto 4, 3) := by decide +kernel
theorem dX7_isIn_17 : decode cX7_isIn 17 = .ok (.iconst 0, 1) := by decide +kernel
theorem dX7_isIn_18 : decode cX7_isIn 18 = .ok (.ireturn, 1) := by decide +kernel
theorem dX7_orNone_0 : decode cX7_orNone 0 = .ok (.iload_n 0, 1) := by decide +kernel
theorem dX7_orNone_1 : decode cX7_orNone 1 = .ok (.ifCond .ge 8, 3) := by decide +kernel
theorem dX7_orNone_4 : decode cX7_orNone 4 = .ok (.ldc 70, 2) := by decide +kernel
theorem dX7_orNone_6 : decode cX7_orNone 6 = .ok (.goto 4, 3) := by decide +kernel
theorem dX7_orNone_9 : decode cX7_orNone 9 = .ok (.iload_n 0, 1) := by decide +kernel
theorem dX7_orNone_10 : decode cX7_orNone 10 = .ok (.ireturn, 1) := by decide +kernel
theorem dX7_held_0 : decode cX7_held 0 = .ok (.iload_n 0, 1) := by decide +kernel
theorem dX7_held_1 : decode cX7_held 1 = .ok (.iload_n 1, 1) := by decide +kernel
theorem dX7_held_2 : decode cX7_held 2 = .ok (.if_icmp .ge 7, 3) := by decide +kernel
theorem dX7_held_5 : decode cX7_held 5 = .ok (.iload_n 1, 1) := by decide +kernel
theorem dX7_held_6 : decode cX7_held 6 = .ok (.goto 13, 3) := by decide +kernel
theorem dX7_held_9 : decode cX7_held 9 = .ok (.iload_n 0, 1) := by decide +kernel
theorem dX7_held_10 : decode cX7_held 10 = .ok (.iload_n 2, 1) := by decide +kernel
theorem dX7_held_11 : decode cX7_held 11 = .ok (.if_icmp .le 7, 3) := by decide +kernel
theorem dX7_held_14 : decode cX7_held 14 = .ok (.iload_n 2, 1) := by decide +kernel
theorem dX7_held_15 : decode cX7_held 15 = .ok (.goto 4, 3) := by decide +kernel
theorem dX7_held_18 : decode cX7_held 18 = .ok (.iload_n 0, 1) := by decide +kernel
theorem dX7_held_19 : decode cX7_held 19 = .ok (.ireturn, 1) := by decide +kernel
theorem dX7_off_0 : decode cX7_off 0 = .ok (.iload_n 0, 1) := by decide +kernel
theorem dX7_off_1 : decode cX7_off 1 = .ok (.iload_n 1, 1) := by decide +kernel
theorem dX7_off_2 : decode cX7_off 2 = .ok (.if_icmp .ge 9, 3) := by decide +kernel
theorem dX7_off_5 : decode cX7_off 5 = .ok (.iload_n 1, 1) := by decide +kernel
theorem dX7_off_6 : decode cX7_off 6 = .ok (.iload_n 0, 1) := by decide +kernel
theorem dX7_off_7 : decode cX7_off 7 = .ok (.isub, 1) := by decide +kernel
theorem dX7_off_8 : decode cX7_off 8 = .ok (.goto 6, 3) := by decide +kernel
theorem dX7_off_11 : decode cX7_off 11 = .ok (.iload_n 0, 1) := by decide +kernel
theorem dX7_off_12 : decode cX7_off 12 = .ok (.iload_n 1, 1) := by decide +kernel
theorem dX7_off_13 : decode cX7_off 13 = .ok (.isub, 1) := by decide +kernel
theorem dX7_off_14 : decode cX7_off 14 = .ok (.ireturn, 1) := by decide +kernel
theorem dX7_manyIn_0 : decode cX7_manyIn 0 = .ok (.iconst 0, 1) := by decide +kernel
theorem dX7_manyIn_1 : decode cX7_manyIn 1 = .ok (.istore_n 1, 1) := by decide +kernel
theorem dX7_manyIn_2 : decode cX7_manyIn 2 = .ok (.iload_n 0, 1) := by decide +kernel
theorem dX7_manyIn_3 : decode cX7_manyIn 3 = .ok (.istore_n 2, 1) := by decide +kernel
theorem dX7_manyIn_4 : decode cX7_manyIn 4 = .ok (.iload_n 2, 1) := by decide +kernel
theorem dX7_manyIn_5 : decode cX7_manyIn 5 = .ok (.ifCond .eq 15, 3) := by decide +kernel
theorem dX7_manyIn_8 : decode cX7_manyIn 8 = .ok (.iinc 1 1, 3) := by decide +kernel
theorem dX7_manyIn_11 : decode cX7_manyIn 11 = .ok (.iload_n 2, 1) := by decide +kernel
theorem dX7_manyIn_12 : decode cX7_manyIn 12 = .ok (.iload_n 2, 1) := by decide +kernel
theorem dX7_manyIn_13 : decode cX7_manyIn 13 = .ok (.iconst 1, 1) := by decide +kernel
theorem dX7_manyIn_14 : decode cX7_manyIn 14 = .ok (.isub, 1) := by decide +kernel
theorem dX7_manyIn_15 : decode cX7_manyIn 15 = .ok (.iand, 1) := by decide +kernel
theorem dX7_manyIn_16 : decode cX7_manyIn 16 = .ok (.istore_n 2, 1) := by decide +kernel
theorem dX7_manyIn_17 : decode cX7_manyIn 17 = .ok (.goto (-13), 3) := by decide +kernel
theorem dX7_manyIn_20 : decode cX7_manyIn 20 = .ok (.iload_n 1, 1) := by decide +kernel
theorem dX7_manyIn_21 : decode cX7_manyIn 21 = .ok (.ireturn, 1) := by decide +kernel
theorem dX7_becomes_0 : decode cX7_becomes 0 = .ok (.aload_n 0, 1) := by decide +kernel
theorem dX7_becomes_1 : decode cX7_becomes 1 = .ok (.getfield 7, 3) := by decide +kernel
theorem dX7_becomes_4 : decode cX7_becomes 4 = .ok (.iload_n 1, 1) := by decide +kernel
theorem dX7_becomes_5 : decode cX7_becomes 5 = .ok (.iaload, 1) := by decide +kernel
theorem dX7_becomes_6 : decode cX7_becomes 6 = .ok (.istore_n 3, 1) := by decide +kernel
theorem dX7_becomes_7 : decode cX7_becomes 7 = .ok (.aload_n 0, 1) := by decide +kernel
theorem dX7_becomes_8 : decode cX7_becomes 8 = .ok (.getfield 7, 3) := by decide +kernel
theorem dX7_becomes_11 : decode cX7_becomes 11 = .ok (.iload_n 1, 1) := by decide +kernel
theorem dX7_becomes_12 : decode cX7_becomes 12 = .ok (.iload_n 2, 1) := by decide +kernel
theorem dX7_becomes_13 : decode cX7_becomes 13 = .ok (.iastore, 1) := by decide +kernel
theorem dX7_becomes_14 : decode cX7_becomes 14 = .ok (.iload_n 3, 1) := by decide +kernel
theorem dX7_becomes_15 : decode cX7_becomes 15 = .ok (.ireturn, 1) := by decide +kernel
theorem dX7_textAt_0 : decode cX7_textAt 0 = .ok (.bipush 69, 2) := by decide +kernel
theorem dX7_textAt_2 : decode cX7_textAt 2 = .ok (.sipush 200, 3) := by decide +kernel
theorem dX7_textAt_5 : decode cX7_textAt 5 = .ok (.iload_n 1, 1) := by decide +kernel
theorem dX7_textAt_6 : decode cX7_textAt 6 = .ok (.imul, 1) := by decide +kernel
theorem dX7_textAt_7 : decode cX7_textAt 7 = .ok (.iadd, 1) := by decide +kernel
theorem dX7_textAt_8 : decode cX7_textAt 8 = .ok (.ireturn, 1) := by decide +kernel
theorem dX7_of_0 : decode cX7_of 0 = .ok (.aload_n 0, 1) := by decide +kernel
theorem dX7_of_1 : decode cX7_of 1 = .ok (.getfield 7, 3) := by decide +kernel
theorem dX7_of_4 : decode cX7_of 4 = .ok (.bipush 6, 2) := by decide +kernel
theorem dX7_of_6 : decode cX7_of 6 = .ok (.bipush 7, 2) := by decide +kernel
theorem dX7_of_8 : decode cX7_of 8 = .ok (.iload_n 1, 1) := by decide +kernel
theorem dX7_of_9 : decode cX7_of 9 = .ok (.imul, 1) := by decide +kernel
theorem dX7_of_10 : decode cX7_of 10 = .ok (.iadd, 1) := by decide +kernel
theorem dX7_of_11 : decode cX7_of 11 = .ok (.iload_n 2, 1) := by decide +kernel
theorem dX7_of_12 : decode cX7_of 12 = .ok (.iadd, 1) := by decide +kernel
theorem dX7_of_13 : decode cX7_of 13 = .ok (.iaload, 1) := by decide +kernel
theorem dX7_of_14 : decode cX7_of 14 = .ok (.ireturn, 1) := by decide +kernel
theorem dX7_sets_0 : decode cX7_sets 0 = .ok (.aload_n 0, 1) := by decide +kernel
theorem dX7_sets_1 : decode cX7_sets 1 = .ok (.getfield 7, 3) := by decide +kernel
theorem dX7_sets_4 : decode cX7_sets 4 = .ok (.bipush 6, 2) := by decide +kernel
theorem dX7_sets_6 : decode cX7_sets 6 = .ok (.bipush 7, 2) := by decide +kernel
theorem dX7_sets_8 : decode cX7_sets 8 = .ok (.iload_n 1, 1) := by decide +kernel
theorem dX7_sets_9 : decode cX7_sets 9 = .ok (.imul, 1) := by decide +kernel
theorem dX7_sets_10 : decode cX7_sets 10 = .ok (.iadd, 1) := by decide +kernel
theorem dX7_sets_11 : decode cX7_sets 11 = .ok (.iload_n 2, 1) := by decide +kernel
theorem dX7_sets_12 : decode cX7_sets 12 = .ok (.iadd, 1) := by decide +kernel
theorem dX7_sets_13 : decode cX7_sets 13 = .ok (.iload_n 3, 1) := by decide +kernel
theorem dX7_sets_14 : decode cX7_sets 14 = .ok (.iastore, 1) := by decide +kernel
theorem dX7_sets_15 : decode cX7_sets 15 = .ok (.return_, 1) := by decide +kernel
set_option maxRecDepth 20000 in
theorem ggX7_isHouse_X7_isIn : GoodIn wsX7_isHouse wsX7_isIn := goodIn_r _ [5] (by decide +kernel) (by decide +kernel)
set_option maxRecDepth 20000 in
theorem gX7_isHouse_X7_isIn : GoodIn wsX7_isHouse (va_wsS RX7 71 yX7_isIn wsX7_isIn) := goodIn_app (goodIn_of _ (by decide +kernel)) ggX7_isHouse_X7_isIn
theorem dX7_isHouse_0 : decode cX7_isHouse 0 = .ok (.iload_n 1, 1) := by decide +kernel
theorem dX7_isHouse_1 : decode cX7_isHouse 1 = .ok (.i2l, 1) := by decide +kernel
theorem dX7_isHouse_2 : decode cX7_isHouse 2 = .ok (.lconst 0, 1) := by decide +kernel
theorem dX7_isHouse_3 : decode cX7_isHouse 3 = .ok (.aload_n 0, 1) := by decide +kernel
theorem dX7_isHouse_4 : decode cX7_isHouse 4 = .ok (.getfield 7, 3) := by decide +kernel
theorem dX7_isHouse_7 : decode cX7_isHouse 7 = .ok (.iconst 0, 1) := by decide +kernel
theorem dX7_isHouse_8 : decode cX7_isHouse 8 = .ok (.iaload, 1) := by decide +kernel
theorem dX7_isHouse_9 : decode cX7_isHouse 9 = .ok (.iconst 1, 1) := by decide +kernel
theorem dX7_isHouse_10 : decode cX7_isHouse 10 = .ok (.isub, 1) := by decide +kernel
theorem dX7_isHouse_11 : decode cX7_isHouse 11 = .ok (.i2l, 1) := by decide +kernel
theorem dX7_isHouse_12 : decode cX7_isHouse 12 = .ok (.invokestatic 71, 3) := by decide +kernel
theorem dX7_isHouse_15 : decode cX7_isHouse 15 = .ok (.ireturn, 1) := by decide +kernel
set_option maxRecDepth 20000 in
theorem ggX7_stands_X7_of : GoodIn wsX7_stands wsX7_of := goodIn_r _ [5, 6, 7, 8, 9, 10, 11, 12, 13, 14, 15, 16, 17, 18, 19, 20, 21, 22, 23, 24, 25, 26, 27, 28, 29, 30, 31, 32, 33, 34, 35, 36, 37, 38, 39] (by decide +kernel) (by decide +kernel)
set_option maxRecDepth 20000 in
theorem gX7_stands_X7_of : GoodIn wsX7_stands (wsV RX7 75 RX7 yX7_of wsX7_of) := goodIn_app (goodIn_of _ (by decide +kernel)) ggX7_stands_X7_of
theorem dX7_stands_0 : decode cX7_stands 0 = .ok (.aload_n 0, 1) := by decide +kernel
theorem dX7_stands_1 : decode cX7_stands 1 = .ok (.iload_n 1, 1) := by decide +kernel
theorem dX7_stands_2 : decode cX7_stands 2 = .ok (.bipush 6, 2) := by decide +kernel
theorem dX7_stands_4 : decode cX7_stands 4 = .ok (.invokevirtual 75, 3) := by decide +kernel
theorem dX7_stands_7 : decode cX7_stands 7 = .ok (.ifCond .ne 7, 3) := by decide +kernel
theorem dX7_stands_10 : decode cX7_stands 10 = .ok (.iconst 1, 1) := by decide +kernel
theorem dX7_stands_11 : decode cX7_stands 11 = .ok (.goto 4, 3) := by decide +kernel
theorem dX7_stands_14 : decode cX7_stands 14 = .ok (.iconst 0, 1) := by decide +kernel
theorem dX7_stands_15 : decode cX7_stands 15 = .ok (.ireturn, 1) := by decide +kernel
set_option maxRecDepth 20000 in
theorem ggX7_isText_X7_isIn : GoodIn wsX7_isText wsX7_isIn := goodIn_r _ [5] (by decide +kernel) (by decide +kernel)
set_option maxRecDepth 20000 in
theorem gX7_isText_X7_isIn : GoodIn wsX7_isText (va_wsS RX7 71 yX7_isIn wsX7_isIn) := goodIn_app (goodIn_of _ (by decide +kernel)) ggX7_isText_X7_isIn
theorem dX7_isText_0 : decode cX7_isText 0 = .ok (.iload_n 1, 1) := by decide +kernel
theorem dX7_isText_1 : decode cX7_isText 1 = .ok (.i2l, 1) := by decide +kernel
theorem dX7_isText_2 : decode cX7_isText 2 = .ok (.lconst 0, 1) := by decide +kernel
theorem dX7_isText_3 : decode cX7_isText 3 = .ok (.aload_n 0, 1) := by decide +kernel
theorem dX7_isText_4 : decode cX7_isText 4 = .ok (.getfield 7, 3) := by decide +kernel
theorem dX7_isText_7 : decode cX7_isText 7 = .ok (.iconst 1, 1) := by decide +kernel
theorem dX7_isText_8 : decode cX7_isText 8 = .ok (.iaload, 1) := by decide +kernel
theorem dX7_isText_9 : decode cX7_isText 9 = .ok (.iconst 1, 1) := by decide +kernel
theorem dX7_isText_10 : decode cX7_isText 10 = .ok (.isub, 1) := by decide +kernel
theorem dX7_isText_11 : decode cX7_isText 11 = .ok (.i2l, 1) := by decide +kernel
theorem dX7_isText_12 : decode cX7_isText 12 = .ok (.invokestatic 71, 3) := by decide +kernel
theorem dX7_isText_15 : decode cX7_isText 15 = .ok (.ireturn, 1) := by decide +kernel
theorem dX7_drawn_0 : decode cX7_drawn 0 = .ok (.aload_n 0, 1) := by decide +kernel
theorem dX7_drawn_1 : decode cX7_drawn 1 = .ok (.getfield 7, 3) := by decide +kernel
theorem dX7_drawn_4 : decode cX7_drawn 4 = .ok (.iconst 5, 1) := by decide +kernel
theorem dX7_drawn_5 : decode cX7_drawn 5 = .ok (.aload_n 0, 1) := by decide +kernel
theorem dX7_drawn_6 : decode cX7_drawn 6 = .ok (.getfield 7, 3) := by decide +kernel
theorem dX7_drawn_9 : decode cX7_drawn 9 = .ok (.iconst 5, 1) := by decide +kernel
theorem dX7_drawn_10 : decode cX7_drawn 10 = .ok (.iaload, 1) := by decide +kernel
theorem dX7_drawn_11 : decode cX7_drawn 11 = .ok (.ldc 79, 2) := by decide +kernel
theorem dX7_drawn_13 : decode cX7_drawn 13 = .ok (.imul, 1) := by decide +kernel
theorem dX7_drawn_14 : decode cX7_drawn 14 = .ok (.sipush 12345, 3) := by decide +kernel
theorem dX7_drawn_17 : decode cX7_drawn 17 = .ok (.iadd, 1) := by decide +kernel
theorem dX7_drawn_18 : decode cX7_drawn 18 = .ok (.iastore, 1) := by decide +kernel
theorem dX7_drawn_19 : decode cX7_drawn 19 = .ok (.aload_n 0, 1) := by decide +kernel
theorem dX7_drawn_20 : decode cX7_drawn 20 = .ok (.getfield 7, 3) := by decide +kernel
theorem dX7_drawn_23 : decode cX7_drawn 23 = .ok (.iconst 5, 1) := by decide +kernel
theorem dX7_drawn_24 : decode cX7_drawn 24 = .ok (.iaload, 1) := by decide +kernel
theorem dX7_drawn_25 : decode cX7_drawn 25 = .ok (.bipush 8, 2) := by decide +kernel
theorem dX7_drawn_27 : decode cX7_drawn 27 = .ok (.iushr, 1) := by decide +kernel
theorem dX7_drawn_28 : decode cX7_drawn 28 = .ok (.ireturn, 1) := by decide +kernel
set_option maxRecDepth 20000 in
theorem ggX7_comes_X7_sets : GoodIn wsX7_comes wsX7_sets := goodIn_r _ [6, 1, 7, 8, 9, 10, 11, 12, 13, 14, 15, 16, 17, 18, 19, 20, 21, 22, 23, 24, 25, 26, 27, 28, 29, 30, 31, 32, 33, 34, 35, 36, 37, 38, 39] (by decide +kernel) (by decide +kernel)
set_option maxRecDepth 20000 in
theorem gX7_comes_X7_sets : GoodIn wsX7_comes (wsV RX7 80 RX7 yX7_sets wsX7_sets) := goodIn_app (goodIn_of _ (by decide +kernel)) ggX7_comes_X7_sets
theorem dX7_comes_0 : decode cX7_comes 0 = .ok (.aload_n 0, 1) := by decide +kernel
theorem dX7_comes_1 : decode cX7_comes 1 = .ok (.getfield 7, 3) := by decide +kernel
theorem dX7_comes_4 : decode cX7_comes 4 = .ok (.iconst 0, 1) := by decide +kernel
theorem dX7_comes_5 : decode cX7_comes 5 = .ok (.iaload, 1) := by decide +kernel
theorem dX7_comes_6 : decode cX7_comes 6 = .ok (.istore 5, 2) := by decide +kernel
theorem dX7_comes_8 : decode cX7_comes 8 = .ok (.aload_n 0, 1) := by decide +kernel
theorem dX7_comes_9 : decode cX7_comes 9 = .ok (.getfield 7, 3) := by decide +kernel
theorem dX7_comes_12 : decode cX7_comes 12 = .ok (.iconst 0, 1) := by decide +kernel
theorem dX7_comes_13 : decode cX7_comes 13 = .ok (.dup2, 1) := by decide +kernel
theorem dX7_comes_14 : decode cX7_comes 14 = .ok (.iaload, 1) := by decide +kernel
theorem dX7_comes_15 : decode cX7_comes 15 = .ok (.iconst 1, 1) := by decide +kernel
theorem dX7_comes_16 : decode cX7_comes 16 = .ok (.iadd, 1) := by decide +kernel
theorem dX7_comes_17 : decode cX7_comes 17 = .ok (.iastore, 1) := by decide +kernel
theorem dX7_comes_18 : decode cX7_comes 18 = .ok (.aload_n 0, 1) := by decide +kernel
theorem dX7_comes_19 : decode cX7_comes 19 = .ok (.iload 5, 2) := by decide +kernel
theorem dX7_comes_21 : decode cX7_comes 21 = .ok (.iconst 0, 1) := by decide +kernel
theorem dX7_comes_22 : decode cX7_comes 22 = .ok (.iload_n 1, 1) := by decide +kernel
theorem dX7_comes_23 : decode cX7_comes 23 = .ok (.invokevirtual 80, 3) := by decide +kernel
theorem dX7_comes_26 : decode cX7_comes 26 = .ok (.aload_n 0, 1) := by decide +kernel
theorem dX7_comes_27 : decode cX7_comes 27 = .ok (.iload 5, 2) := by decide +kernel
theorem dX7_comes_29 : decode cX7_comes 29 = .ok (.iconst 1, 1) := by decide +kernel
theorem dX7_comes_30 : decode cX7_comes 30 = .ok (.iload_n 2, 1) := by decide +kernel
theorem dX7_comes_31 : decode cX7_comes 31 = .ok (.invokevirtual 80, 3) := by decide +kernel
theorem dX7_comes_34 : decode cX7_comes 34 = .ok (.aload_n 0, 1) := by decide +kernel
theorem dX7_comes_35 : decode cX7_comes 35 = .ok (.iload 5, 2) := by decide +kernel
theorem dX7_comes_37 : decode cX7_comes 37 = .ok (.iconst 2, 1) := by decide +kernel
theorem dX7_comes_38 : decode cX7_comes 38 = .ok (.iload_n 3, 1) := by decide +kernel
theorem dX7_comes_39 : decode cX7_comes 39 = .ok (.invokevirtual 80, 3) := by decide +kernel
theorem dX7_comes_42 : decode cX7_comes 42 = .ok (.aload_n 0, 1) := by decide +kernel
theorem dX7_comes_43 : decode cX7_comes 43 = .ok (.iload 5, 2) := by decide +kernel
theorem dX7_comes_45 : decode cX7_comes 45 = .ok (.iconst 3, 1) := by decide +kernel
theorem dX7_comes_46 : decode cX7_comes 46 = .ok (.iload 4, 2) := by decide +kernel
theorem dX7_comes_48 : decode cX7_comes 48 = .ok (.invokevirtual 80, 3) := by decide +kernel
theorem dX7_comes_51 : decode cX7_comes 51 = .ok (.aload_n 0, 1) := by decide +kernel
theorem dX7_comes_52 : decode cX7_comes 52 = .ok (.iload 5, 2) := by decide +kernel
theorem dX7_comes_54 : decode cX7_comes 54 = .ok (.iconst 4, 1) := by decide +kernel
theorem dX7_comes_55 : decode cX7_comes 55 = .ok (.iconst 0, 1) := by decide +kernel
theorem dX7_comes_56 : decode cX7_comes 56 = .ok (.invokevirtual 80, 3) := by decide +kernel
theorem dX7_comes_59 : decode cX7_comes 59 = .ok (.aload_n 0, 1) := by decide +kernel
theorem dX7_comes_60 : decode cX7_comes 60 = .ok (.iload 5, 2) := by decide +kernel
theorem dX7_comes_62 : decode cX7_comes 62 = .ok (.iconst 5, 1) := by decide +kernel
theorem dX7_comes_63 : decode cX7_comes 63 = .ok (.iconst 0, 1) := by decide +kernel
theorem dX7_comes_64 : decode cX7_comes 64 = .ok (.invokevirtual 80, 3) := by decide +kernel
theorem dX7_comes_67 : decode cX7_comes 67 = .ok (.aload_n 0, 1) := by decide +kernel
theorem dX7_comes_68 : decode cX7_comes 68 = .ok (.iload 5, 2) := by decide +kernel
theorem dX7_comes_70 : decode cX7_comes 70 = .ok (.bipush 6, 2) := by decide +kernel
theorem dX7_comes_72 : decode cX7_comes 72 = .ok (.iconst 0, 1) := by decide +kernel
theorem dX7_comes_73 : decode cX7_comes 73 = .ok (.invokevirtual 80, 3) := by decide +kernel
theorem dX7_comes_76 : decode cX7_comes 76 = .ok (.return_, 1) := by decide +kernel
set_option maxRecDepth 20000 in
theorem ggX7_mayBe_X7_isIn : GoodIn wsX7_mayBe wsX7_isIn := goodIn_r _ [9] (by decide +kernel) (by decide +kernel)
set_option maxRecDepth 20000 in
theorem gX7_mayBe_X7_isIn : GoodIn wsX7_mayBe (va_wsS RX7 71 yX7_isIn wsX7_isIn) := goodIn_app (goodIn_of _ (by decide +kernel)) ggX7_mayBe_X7_isIn
theorem dX7_mayBe_0 : decode cX7_mayBe 0 = .ok (.iload_n 0, 1) := by decide +kernel
theorem dX7_mayBe_1 : decode cX7_mayBe 1 = .ok (.tableswitch 87 1 5 #[35, 45, 57, 67, 77], 35) := by decide +kernel
theorem dX7_mayBe_36 : decode cX7_mayBe 36 = .ok (.iload_n 1, 1) := by decide +kernel
theorem dX7_mayBe_37 : decode cX7_mayBe 37 = .ok (.i2l, 1) := by decide +kernel
theorem dX7_mayBe_38 : decode cX7_mayBe 38 = .ok (.lconst 1, 1) := by decide +kernel
theorem dX7_mayBe_39 : decode cX7_mayBe 39 = .ok (.ldc2_w 84, 3) := by decide +kernel
theorem dX7_mayBe_42 : decode cX7_mayBe 42 = .ok (.invokestatic 71, 3) := by decide +kernel
theorem dX7_mayBe_45 : decode cX7_mayBe 45 = .ok (.ireturn, 1) := by decide +kernel
theorem dX7_mayBe_46 : decode cX7_mayBe 46 = .ok (.iload_n 1, 1) := by decide +kernel
theorem dX7_mayBe_47 : decode cX7_mayBe 47 = .ok (.i2l, 1) := by decide +kernel
theorem dX7_mayBe_48 : decode cX7_mayBe 48 = .ok (.ldc2_w 86, 3) := by decide +kernel
theorem dX7_mayBe_51 : decode cX7_mayBe 51 = .ok (.ldc2_w 88, 3) := by decide +kernel
theorem dX7_mayBe_54 : decode cX7_mayBe 54 = .ok (.invokestatic 71, 3) := by decide +kernel
theorem dX7_mayBe_57 : decode cX7_mayBe 57 = .ok (.ireturn, 1) := by decide +kernel
theorem dX7_mayBe_58 : decode cX7_mayBe 58 = .ok (.iload_n 1, 1) := by decide +kernel
theorem dX7_mayBe_59 : decode cX7_mayBe 59 = .ok (.i2l, 1) := by decide +kernel
theorem dX7_mayBe_60 : decode cX7_mayBe 60 = .ok (.lconst 0, 1) := by decide +kernel
theorem dX7_mayBe_61 : decode cX7_mayBe 61 = .ok (.ldc2_w 84, 3) := by decide +kernel
theorem dX7_mayBe_64 : decode cX7_mayBe 64 = .ok (.invokestatic 71, 3) := by decide +kernel
theorem dX7_mayBe_67 : decode cX7_mayBe 67 = .ok (.ireturn, 1) := by decide +kernel
theorem dX7_mayBe_68 : decode cX7_mayBe 68 = .ok (.iload_n 1, 1) := by decide +kernel
theorem dX7_mayBe_69 : decode cX7_mayBe 69 = .ok (.i2l, 1) := by decide +kernel
theorem dX7_mayBe_70 : decode cX7_mayBe 70 = .ok (.lconst 0, 1) := by decide +kernel
theorem dX7_mayBe_71 : decode cX7_mayBe 71 = .ok (.ldc2_w 90, 3) := by decide +kernel
theorem dX7_mayBe_74 : decode cX7_mayBe 74 = .ok (.invokestatic 71, 3) := by decide +kernel
theorem dX7_mayBe_77 : decode cX7_mayBe 77 = .ok (.ireturn, 1) := by decide +kernel
theorem dX7_mayBe_78 : decode cX7_mayBe 78 = .ok (.iload_n 1, 1) := by decide +kernel
theorem dX7_mayBe_79 : decode cX7_mayBe 79 = .ok (.i2l, 1) := by decide +kernel
theorem dX7_mayBe_80 : decode cX7_mayBe 80 = .ok (.lconst 0, 1) := by decide +kernel
theorem dX7_mayBe_81 : decode cX7_mayBe 81 = .ok (.ldc2_w 92, 3) := by decide +kernel
theorem dX7_mayBe_84 : decode cX7_mayBe 84 = .ok (.invokestatic 71, 3) := by decide +kernel
theorem dX7_mayBe_87 : decode cX7_mayBe 87 = .ok (.ireturn, 1) := by decide +kernel
theorem dX7_mayBe_88 : decode cX7_mayBe 88 = .ok (.iconst 0, 1) := by decide +kernel
theorem dX7_mayBe_89 : decode cX7_mayBe 89 = .ok (.ireturn, 1) := by decide +kernel
set_option maxRecDepth 20000 in
theorem ggX7_house_X7_isIn : GoodIn wsX7_house wsX7_isIn := goodIn_r _ [8] (by decide +kernel) (by decide +kernel)
set_option maxRecDepth 20000 in
theorem gX7_house_X7_isIn : GoodIn wsX7_house (va_wsS RX7 71 yX7_isIn wsX7_isIn) := goodIn_app (goodIn_of _ (by decide +kernel)) ggX7_house_X7_isIn
set_option maxRecDepth 20000 in
theorem ggX7_house_X7_mayBe : GoodIn wsX7_house wsX7_mayBe := goodIn_r _ [11, 12, 13, 14, 15, 16, 5, 6, 7, 8] (by decide +kernel) (by decide +kernel)
set_option maxRecDepth 20000 in
theorem gX7_house_X7_mayBe : GoodIn wsX7_house (va_wsS RX7 96 yX7_mayBe wsX7_mayBe) := goodIn_app (goodIn_of _ (by decide +kernel)) ggX7_house_X7_mayBe
set_option maxRecDepth 20000 in
theorem ggX7_house_X7_comes : GoodIn wsX7_house wsX7_comes := goodIn_r _ [20, 3, 21, 22, 23, 7, 24, 25, 26, 27, 28, 29, 30, 31, 32, 33, 34, 35, 36, 37, 38, 39, 40, 41, 42, 43, 44, 45, 46, 47, 48, 49, 50, 51, 52, 53, 54, 55, 56, 57] (by decide +kernel) (by decide +kernel)
set_option maxRecDepth 20000 in
theorem gX7_house_X7_comes : GoodIn wsX7_house (wsV RX7 102 RX7 yX7_comes wsX7_comes) := goodIn_app (goodIn_of _ (by decide +kernel)) ggX7_house_X7_comes
theorem dX7_house_0 : decode cX7_house 0 = .ok (.iload_n 1, 1) := by decide +kernel
theorem dX7_house_1 : decode cX7_house 1 = .ok (.i2l, 1) := by decide +kernel
theorem dX7_house_2 : decode cX7_house 2 = .ok (.lconst 0, 1) := by decide +kernel
theorem dX7_house_3 : decode cX7_house 3 = .ok (.ldc2_w 94, 3) := by decide +kernel
theorem dX7_house_6 : decode cX7_house 6 = .ok (.invokestatic 71, 3) := by decide +kernel
theorem dX7_house_9 : decode cX7_house 9 = .ok (.ifCond .eq 28, 3) := by decide +kernel
theorem dX7_house_12 : decode cX7_house 12 = .ok (.iconst 1, 1) := by decide +kernel
theorem dX7_house_13 : decode cX7_house 13 = .ok (.iload_n 2, 1) := by decide +kernel
theorem dX7_house_14 : decode cX7_house 14 = .ok (.invokestatic 96, 3) := by decide +kernel
theorem dX7_house_17 : decode cX7_house 17 = .ok (.ifCond .eq 20, 3) := by decide +kernel
theorem dX7_house_20 : decode cX7_house 20 = .ok (.iconst 2, 1) := by decide +kernel
theorem dX7_house_21 : decode cX7_house 21 = .ok (.iload_n 3, 1) := by decide +kernel
theorem dX7_house_22 : decode cX7_house 22 = .ok (.invokestatic 96, 3) := by decide +kernel
theorem dX7_house_25 : decode cX7_house 25 = .ok (.ifCond .eq 12, 3) := by decide +kernel
theorem dX7_house_28 : decode cX7_house 28 = .ok (.iconst 3, 1) := by decide +kernel
theorem dX7_house_29 : decode cX7_house 29 = .ok (.iload 4, 2) := by decide +kernel
theorem dX7_house_31 : decode cX7_house 31 = .ok (.invokestatic 96, 3) := by decide +kernel
theorem dX7_house_34 : decode cX7_house 34 = .ok (.ifCond .ne 6, 3) := by decide +kernel
theorem dX7_house_37 : decode cX7_house 37 = .ok (.ldc 100, 2) := by decide +kernel
theorem dX7_house_39 : decode cX7_house 39 = .ok (.ireturn, 1) := by decide +kernel
theorem dX7_house_40 : decode cX7_house 40 = .ok (.aload_n 0, 1) := by decide +kernel
theorem dX7_house_41 : decode cX7_house 41 = .ok (.getfield 7, 3) := by decide +kernel
theorem dX7_house_44 : decode cX7_house 44 = .ok (.iconst 0, 1) := by decide +kernel
theorem dX7_house_45 : decode cX7_house 45 = .ok (.iaload, 1) := by decide +kernel
theorem dX7_house_46 : decode cX7_house 46 = .ok (.bipush 9, 2) := by decide +kernel
theorem dX7_house_48 : decode cX7_house 48 = .ok (.if_icmp .ne 6, 3) := by decide +kernel
theorem dX7_house_51 : decode cX7_house 51 = .ok (.ldc 101, 2) := by decide +kernel
theorem dX7_house_53 : decode cX7_house 53 = .ok (.ireturn, 1) := by decide +kernel
theorem dX7_house_54 : decode cX7_house 54 = .ok (.aload_n 0, 1) := by decide +kernel
theorem dX7_house_55 : decode cX7_house 55 = .ok (.iload_n 1, 1) := by decide +kernel
theorem dX7_house_56 : decode cX7_house 56 = .ok (.iload_n 2, 1) := by decide +kernel
theorem dX7_house_57 : decode cX7_house 57 = .ok (.iload_n 3, 1) := by decide +kernel
theorem dX7_house_58 : decode cX7_house 58 = .ok (.iload 4, 2) := by decide +kernel
theorem dX7_house_60 : decode cX7_house 60 = .ok (.invokevirtual 102, 3) := by decide +kernel
theorem dX7_house_63 : decode cX7_house 63 = .ok (.aload_n 0, 1) := by decide +kernel
theorem dX7_house_64 : decode cX7_house 64 = .ok (.getfield 7, 3) := by decide +kernel
theorem dX7_house_67 : decode cX7_house 67 = .ok (.iconst 0, 1) := by decide +kernel
theorem dX7_house_68 : decode cX7_house 68 = .ok (.iaload, 1) := by decide +kernel
theorem dX7_house_69 : decode cX7_house 69 = .ok (.iconst 1, 1) := by decide +kernel
theorem dX7_house_70 : decode cX7_house 70 = .ok (.isub, 1) := by decide +kernel
theorem dX7_house_71 : decode cX7_house 71 = .ok (.ireturn, 1) := by decide +kernel
set_option maxRecDepth 20000 in
theorem ggX7_pushes_X7_of : GoodIn wsX7_pushes wsX7_of := goodIn_r _ [6, 7, 30, 31, 32, 33, 34, 35, 36, 37, 38, 39, 40, 41, 42, 43, 44, 45, 46, 47, 48, 49, 50, 51, 52, 53, 54, 55, 56, 57, 58, 59, 60, 61, 62] (by decide +kernel) (by decide +kernel)
set_option maxRecDepth 20000 in
theorem gX7_pushes_X7_of : GoodIn wsX7_pushes (wsV RX7 75 RX7 yX7_of wsX7_of) := goodIn_app (goodIn_of _ (by decide +kernel)) ggX7_pushes_X7_of
set_option maxRecDepth 20000 in
theorem ggX7_pushes_X7_off : GoodIn wsX7_pushes wsX7_off := goodIn_r _ [10] (by decide +kernel) (by decide +kernel)
set_option maxRecDepth 20000 in
theorem gX7_pushes_X7_off : GoodIn wsX7_pushes (va_wsS RX7 106 yX7_off wsX7_off) := goodIn_app (goodIn_of _ (by decide +kernel)) ggX7_pushes_X7_off
set_option maxRecDepth 20000 in
theorem ggX7_pushes_X7_counts : GoodIn wsX7_pushes wsX7_counts := goodIn_r _ [14, 7, 15, 16, 17, 5, 18, 30, 31, 32, 33, 34, 35, 36, 37, 38, 39, 40, 41, 42, 43, 44, 45, 46, 47, 48, 49, 50, 51, 52, 53, 54, 55, 56, 57, 58, 59, 60, 61, 62] (by decide +kernel) (by decide +kernel)
set_option maxRecDepth 20000 in
theorem gX7_pushes_X7_counts : GoodIn wsX7_pushes (wsV RX7 109 RX7 yX7_counts wsX7_counts) := goodIn_app (goodIn_of _ (by decide +kernel)) ggX7_pushes_X7_counts
set_option maxRecDepth 20000 in
theorem ggX7_pushes_X7_worked : GoodIn wsX7_pushes wsX7_worked := goodIn_r _ [22, 7, 23, 1, 15, 16, 17, 5, 18, 24, 25, 26, 30, 31, 32, 33, 34, 35, 36, 37, 38, 39, 40, 41, 42, 43, 44, 45, 46, 47, 48, 49, 50, 51, 52, 53, 54, 55, 56, 57, 58, 59, 60, 61, 62] (by decide +kernel) (by decide +kernel)
set_option maxRecDepth 20000 in
theorem gX7_pushes_X7_worked : GoodIn wsX7_pushes (wsV RX7 113 RX7 yX7_worked wsX7_worked) := goodIn_app (goodIn_of _ (by decide +kernel)) ggX7_pushes_X7_worked
set_option maxRecDepth 20000 in
theorem ggX7_pushes_X7_held : GoodIn wsX7_pushes wsX7_held := goodIn_r _ [29] (by decide +kernel) (by decide +kernel)
set_option maxRecDepth 20000 in
theorem gX7_pushes_X7_held : GoodIn wsX7_pushes (va_wsS RX7 116 yX7_held wsX7_held) := goodIn_app (goodIn_of _ (by decide +kernel)) ggX7_pushes_X7_held
theorem dX7_pushes_0 : decode cX7_pushes 0 = .ok (.aload_n 0, 1) := by decide +kernel
theorem dX7_pushes_1 : decode cX7_pushes 1 = .ok (.iload_n 1, 1) := by decide +kernel
theorem dX7_pushes_2 : decode cX7_pushes 2 = .ok (.iconst 2, 1) := by decide +kernel
theorem dX7_pushes_3 : decode cX7_pushes 3 = .ok (.invokevirtual 75, 3) := by decide +kernel
theorem dX7_pushes_6 : decode cX7_pushes 6 = .ok (.iconst 0, 1) := by decide +kernel
theorem dX7_pushes_7 : decode cX7_pushes 7 = .ok (.invokestatic 106, 3) := by decide +kernel
theorem dX7_pushes_10 : decode cX7_pushes 10 = .ok (.istore_n 2, 1) := by decide +kernel
theorem dX7_pushes_11 : decode cX7_pushes 11 = .ok (.aload_n 0, 1) := by decide +kernel
theorem dX7_pushes_12 : decode cX7_pushes 12 = .ok (.iload_n 1, 1) := by decide +kernel
theorem dX7_pushes_13 : decode cX7_pushes 13 = .ok (.iconst 1, 1) := by decide +kernel
theorem dX7_pushes_14 : decode cX7_pushes 14 = .ok (.invokevirtual 75, 3) := by decide +kernel
theorem dX7_pushes_17 : decode cX7_pushes 17 = .ok (.iload_n 2, 1) := by decide +kernel
theorem dX7_pushes_18 : decode cX7_pushes 18 = .ok (.imul, 1) := by decide +kernel
theorem dX7_pushes_19 : decode cX7_pushes 19 = .ok (.bipush 10, 2) := by decide +kernel
theorem dX7_pushes_21 : decode cX7_pushes 21 = .ok (.idiv, 1) := by decide +kernel
theorem dX7_pushes_22 : decode cX7_pushes 22 = .ok (.istore_n 3, 1) := by decide +kernel
theorem dX7_pushes_23 : decode cX7_pushes 23 = .ok (.aload_n 0, 1) := by decide +kernel
theorem dX7_pushes_24 : decode cX7_pushes 24 = .ok (.iconst 0, 1) := by decide +kernel
theorem dX7_pushes_25 : decode cX7_pushes 25 = .ok (.invokevirtual 109, 3) := by decide +kernel
theorem dX7_pushes_28 : decode cX7_pushes 28 = .ok (.istore 4, 2) := by decide +kernel
theorem dX7_pushes_30 : decode cX7_pushes 30 = .ok (.iload 4, 2) := by decide +kernel
theorem dX7_pushes_32 : decode cX7_pushes 32 = .ok (.ifCond .lt 51, 3) := by decide +kernel
theorem dX7_pushes_35 : decode cX7_pushes 35 = .ok (.aload_n 0, 1) := by decide +kernel
theorem dX7_pushes_36 : decode cX7_pushes 36 = .ok (.getfield 55, 3) := by decide +kernel
theorem dX7_pushes_39 : decode cX7_pushes 39 = .ok (.bipush 119, 2) := by decide +kernel
theorem dX7_pushes_41 : decode cX7_pushes 41 = .ok (.aload_n 0, 1) := by decide +kernel
theorem dX7_pushes_42 : decode cX7_pushes 42 = .ok (.iload_n 1, 1) := by decide +kernel
theorem dX7_pushes_43 : decode cX7_pushes 43 = .ok (.iconst 1, 1) := by decide +kernel
theorem dX7_pushes_44 : decode cX7_pushes 44 = .ok (.invokevirtual 75, 3) := by decide +kernel
theorem dX7_pushes_47 : decode cX7_pushes 47 = .ok (.iastore, 1) := by decide +kernel
theorem dX7_pushes_48 : decode cX7_pushes 48 = .ok (.aload_n 0, 1) := by decide +kernel
theorem dX7_pushes_49 : decode cX7_pushes 49 = .ok (.getfield 55, 3) := by decide +kernel
theorem dX7_pushes_52 : decode cX7_pushes 52 = .ok (.bipush 108, 2) := by decide +kernel
theorem dX7_pushes_54 : decode cX7_pushes 54 = .ok (.iload_n 2, 1) := by decide +kernel
theorem dX7_pushes_55 : decode cX7_pushes 55 = .ok (.iastore, 1) := by decide +kernel
theorem dX7_pushes_56 : decode cX7_pushes 56 = .ok (.aload_n 0, 1) := by decide +kernel
theorem dX7_pushes_57 : decode cX7_pushes 57 = .ok (.getfield 55, 3) := by decide +kernel
theorem dX7_pushes_60 : decode cX7_pushes 60 = .ok (.bipush 99, 2) := by decide +kernel
theorem dX7_pushes_62 : decode cX7_pushes 62 = .ok (.aload_n 0, 1) := by decide +kernel
theorem dX7_pushes_63 : decode cX7_pushes 63 = .ok (.iload_n 1, 1) := by decide +kernel
theorem dX7_pushes_64 : decode cX7_pushes 64 = .ok (.iconst 4, 1) := by decide +kernel
theorem dX7_pushes_65 : decode cX7_pushes 65 = .ok (.invokevirtual 75, 3) := by decide +kernel
theorem dX7_pushes_68 : decode cX7_pushes 68 = .ok (.iastore, 1) := by decide +kernel
theorem dX7_pushes_69 : decode cX7_pushes 69 = .ok (.aload_n 0, 1) := by decide +kernel
theorem dX7_pushes_70 : decode cX7_pushes 70 = .ok (.iload 4, 2) := by decide +kernel
theorem dX7_pushes_72 : decode cX7_pushes 72 = .ok (.invokevirtual 113, 3) := by decide +kernel
theorem dX7_pushes_75 : decode cX7_pushes 75 = .ok (.iconst 0, 1) := by decide +kernel
theorem dX7_pushes_76 : decode cX7_pushes 76 = .ok (.sipush 999, 3) := by decide +kernel
theorem dX7_pushes_79 : decode cX7_pushes 79 = .ok (.invokestatic 116, 3) := by decide +kernel
theorem dX7_pushes_82 : decode cX7_pushes 82 = .ok (.istore_n 3, 1) := by decide +kernel
theorem dX7_pushes_83 : decode cX7_pushes 83 = .ok (.aload_n 0, 1) := by decide +kernel
theorem dX7_pushes_84 : decode cX7_pushes 84 = .ok (.iload_n 1, 1) := by decide +kernel
theorem dX7_pushes_85 : decode cX7_pushes 85 = .ok (.iconst 0, 1) := by decide +kernel
theorem dX7_pushes_86 : decode cX7_pushes 86 = .ok (.invokevirtual 75, 3) := by decide +kernel
theorem dX7_pushes_89 : decode cX7_pushes 89 = .ok (.tableswitch 68 1 5 #[35, 39, 43, 60, 66], 35) := by decide +kernel
theorem dX7_pushes_124 : decode cX7_pushes 124 = .ok (.iload_n 3, 1) := by decide +kernel
theorem dX7_pushes_125 : decode cX7_pushes 125 = .ok (.iconst 2, 1) := by decide +kernel
theorem dX7_pushes_126 : decode cX7_pushes 126 = .ok (.idiv, 1) := by decide +kernel
theorem dX7_pushes_127 : decode cX7_pushes 127 = .ok (.ireturn, 1) := by decide +kernel
theorem dX7_pushes_128 : decode cX7_pushes 128 = .ok (.iload_n 3, 1) := by decide +kernel
theorem dX7_pushes_129 : decode cX7_pushes 129 = .ok (.iconst 4, 1) := by decide +kernel
theorem dX7_pushes_130 : decode cX7_pushes 130 = .ok (.iadd, 1) := by decide +kernel
theorem dX7_pushes_131 : decode cX7_pushes 131 = .ok (.ireturn, 1) := by decide +kernel
theorem dX7_pushes_132 : decode cX7_pushes 132 = .ok (.iload_n 3, 1) := by decide +kernel
theorem dX7_pushes_133 : decode cX7_pushes 133 = .ok (.iconst 2, 1) := by decide +kernel
theorem dX7_pushes_134 : decode cX7_pushes 134 = .ok (.idiv, 1) := by decide +kernel
theorem dX7_pushes_135 : decode cX7_pushes 135 = .ok (.iconst 5, 1) := by decide +kernel
theorem dX7_pushes_136 : decode cX7_pushes 136 = .ok (.if_icmp .le 11, 3) := by decide +kernel
theorem dX7_pushes_139 : decode cX7_pushes 139 = .ok (.iload_n 3, 1) := by decide +kernel
theorem dX7_pushes_140 : decode cX7_pushes 140 = .ok (.iconst 2, 1) := by decide +kernel
theorem dX7_pushes_141 : decode cX7_pushes 141 = .ok (.idiv, 1) := by decide +kernel
theorem dX7_pushes_142 : decode cX7_pushes 142 = .ok (.iconst 5, 1) := by decide +kernel
theorem dX7_pushes_143 : decode cX7_pushes 143 = .ok (.isub, 1) := by decide +kernel
theorem dX7_pushes_144 : decode cX7_pushes 144 = .ok (.goto 4, 3) := by decide +kernel
theorem dX7_pushes_147 : decode cX7_pushes 147 = .ok (.iconst 0, 1) := by decide +kernel
theorem dX7_pushes_148 : decode cX7_pushes 148 = .ok (.ireturn, 1) := by decide +kernel
theorem dX7_pushes_149 : decode cX7_pushes 149 = .ok (.iconst 2, 1) := by decide +kernel
theorem dX7_pushes_150 : decode cX7_pushes 150 = .ok (.iload_n 3, 1) := by decide +kernel
theorem dX7_pushes_151 : decode cX7_pushes 151 = .ok (.iconst 4, 1) := by decide +kernel
theorem dX7_pushes_152 : decode cX7_pushes 152 = .ok (.iadd, 1) := by decide +kernel
theorem dX7_pushes_153 : decode cX7_pushes 153 = .ok (.imul, 1) := by decide +kernel
theorem dX7_pushes_154 : decode cX7_pushes 154 = .ok (.ireturn, 1) := by decide +kernel
theorem dX7_pushes_155 : decode cX7_pushes 155 = .ok (.iconst 0, 1) := by decide +kernel
theorem dX7_pushes_156 : decode cX7_pushes 156 = .ok (.ireturn, 1) := by decide +kernel
theorem dX7_pushes_157 : decode cX7_pushes 157 = .ok (.iload_n 3, 1) := by decide +kernel
theorem dX7_pushes_158 : decode cX7_pushes 158 = .ok (.ireturn, 1) := by decide +kernel
set_option maxRecDepth 20000 in
theorem ggX7_bears_X7_of : GoodIn wsX7_bears wsX7_of := goodIn_r _ [5, 6, 7, 8, 9, 10, 11, 12, 13, 14, 15, 16, 17, 18, 19, 20, 21, 22, 23, 24, 25, 26, 27, 28, 29, 30, 31, 32, 33, 34, 35, 36, 37, 38, 39] (by decide +kernel) (by decide +kernel)
set_option maxRecDepth 20000 in
theorem gX7_bears_X7_of : GoodIn wsX7_bears (wsV RX7 75 RX7 yX7_of wsX7_of) := goodIn_app (goodIn_of _ (by decide +kernel)) ggX7_bears_X7_of
theorem dX7_bears_0 : decode cX7_bears 0 = .ok (.aload_n 0, 1) := by decide +kernel
theorem dX7_bears_1 : decode cX7_bears 1 = .ok (.iload_n 1, 1) := by decide +kernel
theorem dX7_bears_2 : decode cX7_bears 2 = .ok (.iconst 3, 1) := by decide +kernel
theorem dX7_bears_3 : decode cX7_bears 3 = .ok (.invokevirtual 75, 3) := by decide +kernel
theorem dX7_bears_6 : decode cX7_bears 6 = .ok (.bipush 10, 2) := by decide +kernel
theorem dX7_bears_8 : decode cX7_bears 8 = .ok (.aload_n 0, 1) := by decide +kernel
theorem dX7_bears_9 : decode cX7_bears 9 = .ok (.iload_n 1, 1) := by decide +kernel
theorem dX7_bears_10 : decode cX7_bears 10 = .ok (.iconst 5, 1) := by decide +kernel
theorem dX7_bears_11 : decode cX7_bears 11 = .ok (.invokevirtual 75, 3) := by decide +kernel
theorem dX7_bears_14 : decode cX7_bears 14 = .ok (.imul, 1) := by decide +kernel
theorem dX7_bears_15 : decode cX7_bears 15 = .ok (.iadd, 1) := by decide +kernel
theorem dX7_bears_16 : decode cX7_bears 16 = .ok (.istore_n 2, 1) := by decide +kernel
theorem dX7_bears_17 : decode cX7_bears 17 = .ok (.aload_n 0, 1) := by decide +kernel
theorem dX7_bears_18 : decode cX7_bears 18 = .ok (.iload_n 1, 1) := by decide +kernel
theorem dX7_bears_19 : decode cX7_bears 19 = .ok (.iconst 0, 1) := by decide +kernel
theorem dX7_bears_20 : decode cX7_bears 20 = .ok (.invokevirtual 75, 3) := by decide +kernel
theorem dX7_bears_23 : decode cX7_bears 23 = .ok (.tableswitch 45 1 5 #[33, 37, 33, 37, 41], 33) := by decide +kernel
theorem dX7_bears_56 : decode cX7_bears 56 = .ok (.iload_n 2, 1) := by decide +kernel
theorem dX7_bears_57 : decode cX7_bears 57 = .ok (.iconst 5, 1) := by decide +kernel
theorem dX7_bears_58 : decode cX7_bears 58 = .ok (.iadd, 1) := by decide +kernel
theorem dX7_bears_59 : decode cX7_bears 59 = .ok (.ireturn, 1) := by decide +kernel
theorem dX7_bears_60 : decode cX7_bears 60 = .ok (.iconst 2, 1) := by decide +kernel
theorem dX7_bears_61 : decode cX7_bears 61 = .ok (.iload_n 2, 1) := by decide +kernel
theorem dX7_bears_62 : decode cX7_bears 62 = .ok (.imul, 1) := by decide +kernel
theorem dX7_bears_63 : decode cX7_bears 63 = .ok (.ireturn, 1) := by decide +kernel
theorem dX7_bears_64 : decode cX7_bears 64 = .ok (.sipush 999, 3) := by decide +kernel
theorem dX7_bears_67 : decode cX7_bears 67 = .ok (.ireturn, 1) := by decide +kernel
theorem dX7_bears_68 : decode cX7_bears 68 = .ok (.iload_n 2, 1) := by decide +kernel
theorem dX7_bears_69 : decode cX7_bears 69 = .ok (.ireturn, 1) := by decide +kernel
set_option maxRecDepth 20000 in
theorem ggX7_worth_X7_of : GoodIn wsX7_worth wsX7_of := goodIn_r _ [5, 6, 7, 8, 9, 10, 11, 12, 13, 14, 15, 16, 17, 18, 19, 20, 21, 22, 23, 24, 25, 26, 27, 28, 29, 30, 31, 32, 33, 34, 35, 36, 37, 38, 39] (by decide +kernel) (by decide +kernel)
set_option maxRecDepth 20000 in
theorem gX7_worth_X7_of : GoodIn wsX7_worth (wsV RX7 75 RX7 yX7_of wsX7_of) := goodIn_app (goodIn_of _ (by decide +kernel)) ggX7_worth_X7_of
theorem dX7_worth_0 : decode cX7_worth 0 = .ok (.aload_n 0, 1) := by decide +kernel
theorem dX7_worth_1 : decode cX7_worth 1 = .ok (.iload_n 1, 1) := by decide +kernel
theorem dX7_worth_2 : decode cX7_worth 2 = .ok (.iconst 3, 1) := by decide +kernel
theorem dX7_worth_3 : decode cX7_worth 3 = .ok (.invokevirtual 75, 3) := by decide +kernel
theorem dX7_worth_6 : decode cX7_worth 6 = .ok (.istore_n 2, 1) := by decide +kernel
theorem dX7_worth_7 : decode cX7_worth 7 = .ok (.aload_n 0, 1) := by decide +kernel
theorem dX7_worth_8 : decode cX7_worth 8 = .ok (.iload_n 1, 1) := by decide +kernel
theorem dX7_worth_9 : decode cX7_worth 9 = .ok (.iconst 0, 1) := by decide +kernel
theorem dX7_worth_10 : decode cX7_worth 10 = .ok (.invokevirtual 75, 3) := by decide +kernel
theorem dX7_worth_13 : decode cX7_worth 13 = .ok (.tableswitch 60 1 5 #[35, 40, 45, 52, 57], 35) := by decide +kernel
theorem dX7_worth_48 : decode cX7_worth 48 = .ok (.iload_n 2, 1) := by decide +kernel
theorem dX7_worth_49 : decode cX7_worth 49 = .ok (.bipush 7, 2) := by decide +kernel
theorem dX7_worth_51 : decode cX7_worth 51 = .ok (.iadd, 1) := by decide +kernel
theorem dX7_worth_52 : decode cX7_worth 52 = .ok (.ireturn, 1) := by decide +kernel
theorem dX7_worth_53 : decode cX7_worth 53 = .ok (.bipush 99, 2) := by decide +kernel
theorem dX7_worth_55 : decode cX7_worth 55 = .ok (.iload_n 2, 1) := by decide +kernel
theorem dX7_worth_56 : decode cX7_worth 56 = .ok (.isub, 1) := by decide +kernel
theorem dX7_worth_57 : decode cX7_worth 57 = .ok (.ireturn, 1) := by decide +kernel
theorem dX7_worth_58 : decode cX7_worth 58 = .ok (.iconst 2, 1) := by decide +kernel
theorem dX7_worth_59 : decode cX7_worth 59 = .ok (.iload_n 2, 1) := by decide +kernel
theorem dX7_worth_60 : decode cX7_worth 60 = .ok (.bipush 7, 2) := by decide +kernel
theorem dX7_worth_62 : decode cX7_worth 62 = .ok (.iadd, 1) := by decide +kernel
theorem dX7_worth_63 : decode cX7_worth 63 = .ok (.imul, 1) := by decide +kernel
theorem dX7_worth_64 : decode cX7_worth 64 = .ok (.ireturn, 1) := by decide +kernel
theorem dX7_worth_65 : decode cX7_worth 65 = .ok (.bipush 94, 2) := by decide +kernel
theorem dX7_worth_67 : decode cX7_worth 67 = .ok (.iload_n 2, 1) := by decide +kernel
theorem dX7_worth_68 : decode cX7_worth 68 = .ok (.isub, 1) := by decide +kernel
theorem dX7_worth_69 : decode cX7_worth 69 = .ok (.ireturn, 1) := by decide +kernel
theorem dX7_worth_70 : decode cX7_worth 70 = .ok (.bipush 6, 2) := by decide +kernel
theorem dX7_worth_72 : decode cX7_worth 72 = .ok (.ireturn, 1) := by decide +kernel
theorem dX7_worth_73 : decode cX7_worth 73 = .ok (.iload_n 2, 1) := by decide +kernel
theorem dX7_worth_74 : decode cX7_worth 74 = .ok (.ireturn, 1) := by decide +kernel
set_option maxRecDepth 20000 in
theorem ggX7_allStanding_X7_stands : GoodIn wsX7_allStanding wsX7_stands := goodIn_r _ [6, 7, 8, 9, 5, 10, 1, 11, 12, 13, 14, 15, 16, 17, 18, 19, 20, 21, 22, 23, 24, 25, 26, 27, 28, 29, 30, 31, 32, 33, 34, 35, 36, 37, 38, 39, 40, 41, 42, 43] (by decide +kernel) (by decide +kernel)
set_option maxRecDepth 20000 in
theorem gX7_allStanding_X7_stands : GoodIn wsX7_allStanding (wsV RX7 119 RX7 yX7_stands wsX7_stands) := goodIn_app (goodIn_of _ (by decide +kernel)) ggX7_allStanding_X7_stands
theorem dX7_allStanding_0 : decode cX7_allStanding 0 = .ok (.iconst 0, 1) := by decide +kernel
theorem dX7_allStanding_1 : decode cX7_allStanding 1 = .ok (.istore_n 1, 1) := by decide +kernel
theorem dX7_allStanding_2 : decode cX7_allStanding 2 = .ok (.iconst 0, 1) := by decide +kernel
theorem dX7_allStanding_3 : decode cX7_allStanding 3 = .ok (.istore_n 2, 1) := by decide +kernel
theorem dX7_allStanding_4 : decode cX7_allStanding 4 = .ok (.iload_n 2, 1) := by decide +kernel
theorem dX7_allStanding_5 : decode cX7_allStanding 5 = .ok (.aload_n 0, 1) := by decide +kernel
theorem dX7_allStanding_6 : decode cX7_allStanding 6 = .ok (.getfield 7, 3) := by decide +kernel
theorem dX7_allStanding_9 : decode cX7_allStanding 9 = .ok (.iconst 0, 1) := by decide +kernel
theorem dX7_allStanding_10 : decode cX7_allStanding 10 = .ok (.iaload, 1) := by decide +kernel
theorem dX7_allStanding_11 : decode cX7_allStanding 11 = .ok (.if_icmp .ge 27, 3) := by decide +kernel
theorem dX7_allStanding_14 : decode cX7_allStanding 14 = .ok (.iload_n 1, 1) := by decide +kernel
theorem dX7_allStanding_15 : decode cX7_allStanding 15 = .ok (.aload_n 0, 1) := by decide +kernel
theorem dX7_allStanding_16 : decode cX7_allStanding 16 = .ok (.iload_n 2, 1) := by decide +kernel
theorem dX7_allStanding_17 : decode cX7_allStanding 17 = .ok (.invokevirtual 119, 3) := by decide +kernel
theorem dX7_allStanding_20 : decode cX7_allStanding 20 = .ok (.ifCond .eq 9, 3) := by decide +kernel
theorem dX7_allStanding_23 : decode cX7_allStanding 23 = .ok (.iconst 1, 1) := by decide +kernel
theorem dX7_allStanding_24 : decode cX7_allStanding 24 = .ok (.iload_n 2, 1) := by decide +kernel
theorem dX7_allStanding_25 : decode cX7_allStanding 25 = .ok (.ishl, 1) := by decide +kernel
theorem dX7_allStanding_26 : decode cX7_allStanding 26 = .ok (.goto 4, 3) := by decide +kernel
theorem dX7_allStanding_29 : decode cX7_allStanding 29 = .ok (.iconst 0, 1) := by decide +kernel
theorem dX7_allStanding_30 : decode cX7_allStanding 30 = .ok (.ior, 1) := by decide +kernel
theorem dX7_allStanding_31 : decode cX7_allStanding 31 = .ok (.istore_n 1, 1) := by decide +kernel
theorem dX7_allStanding_32 : decode cX7_allStanding 32 = .ok (.iinc 2 1, 3) := by decide +kernel
theorem dX7_allStanding_35 : decode cX7_allStanding 35 = .ok (.goto (-31), 3) := by decide +kernel
theorem dX7_allStanding_38 : decode cX7_allStanding 38 = .ok (.iload_n 1, 1) := by decide +kernel
theorem dX7_allStanding_39 : decode cX7_allStanding 39 = .ok (.ireturn, 1) := by decide +kernel
theorem dX7_nextOf_0 : decode cX7_nextOf 0 = .ok (.iload_n 1, 1) := by decide +kernel
theorem dX7_nextOf_1 : decode cX7_nextOf 1 = .ok (.iload_n 2, 1) := by decide +kernel
theorem dX7_nextOf_2 : decode cX7_nextOf 2 = .ok (.iadd, 1) := by decide +kernel
theorem dX7_nextOf_3 : decode cX7_nextOf 3 = .ok (.istore 4, 2) := by decide +kernel
theorem dX7_nextOf_5 : decode cX7_nextOf 5 = .ok (.iload 4, 2) := by decide +kernel
theorem dX7_nextOf_7 : decode cX7_nextOf 7 = .ok (.ifCond .lt 32, 3) := by decide +kernel
theorem dX7_nextOf_10 : decode cX7_nextOf 10 = .ok (.iload 4, 2) := by decide +kernel
theorem dX7_nextOf_12 : decode cX7_nextOf 12 = .ok (.aload_n 0, 1) := by decide +kernel
theorem dX7_nextOf_13 : decode cX7_nextOf 13 = .ok (.getfield 7, 3) := by decide +kernel
theorem dX7_nextOf_16 : decode cX7_nextOf 16 = .ok (.iconst 0, 1) := by decide +kernel
theorem dX7_nextOf_17 : decode cX7_nextOf 17 = .ok (.iaload, 1) := by decide +kernel
theorem dX7_nextOf_18 : decode cX7_nextOf 18 = .ok (.if_icmp .ge 21, 3) := by decide +kernel
theorem dX7_nextOf_21 : decode cX7_nextOf 21 = .ok (.iload_n 3, 1) := by decide +kernel
theorem dX7_nextOf_22 : decode cX7_nextOf 22 = .ok (.iload 4, 2) := by decide +kernel
theorem dX7_nextOf_24 : decode cX7_nextOf 24 = .ok (.ishr, 1) := by decide +kernel
theorem dX7_nextOf_25 : decode cX7_nextOf 25 = .ok (.iconst 1, 1) := by decide +kernel
theorem dX7_nextOf_26 : decode cX7_nextOf 26 = .ok (.iand, 1) := by decide +kernel
theorem dX7_nextOf_27 : decode cX7_nextOf 27 = .ok (.ifCond .ne 12, 3) := by decide +kernel
theorem dX7_nextOf_30 : decode cX7_nextOf 30 = .ok (.iload 4, 2) := by decide +kernel
theorem dX7_nextOf_32 : decode cX7_nextOf 32 = .ok (.iload_n 2, 1) := by decide +kernel
theorem dX7_nextOf_33 : decode cX7_nextOf 33 = .ok (.iadd, 1) := by decide +kernel
theorem dX7_nextOf_34 : decode cX7_nextOf 34 = .ok (.istore 4, 2) := by decide +kernel
theorem dX7_nextOf_36 : decode cX7_nextOf 36 = .ok (.goto (-31), 3) := by decide +kernel
theorem dX7_nextOf_39 : decode cX7_nextOf 39 = .ok (.iload 4, 2) := by decide +kernel
theorem dX7_nextOf_41 : decode cX7_nextOf 41 = .ok (.ifCond .lt 19, 3) := by decide +kernel
theorem dX7_nextOf_44 : decode cX7_nextOf 44 = .ok (.iload 4, 2) := by decide +kernel
theorem dX7_nextOf_46 : decode cX7_nextOf 46 = .ok (.aload_n 0, 1) := by decide +kernel
theorem dX7_nextOf_47 : decode cX7_nextOf 47 = .ok (.getfield 7, 3) := by decide +kernel
theorem dX7_nextOf_50 : decode cX7_nextOf 50 = .ok (.iconst 0, 1) := by decide +kernel
theorem dX7_nextOf_51 : decode cX7_nextOf 51 = .ok (.iaload, 1) := by decide +kernel
theorem dX7_nextOf_52 : decode cX7_nextOf 52 = .ok (.if_icmp .ge 8, 3) := by decide +kernel
theorem dX7_nextOf_55 : decode cX7_nextOf 55 = .ok (.iload 4, 2) := by decide +kernel
theorem dX7_nextOf_57 : decode cX7_nextOf 57 = .ok (.goto 4, 3) := by decide +kernel
theorem dX7_nextOf_60 : decode cX7_nextOf 60 = .ok (.iconst (-1), 1) := by decide +kernel
theorem dX7_nextOf_61 : decode cX7_nextOf 61 = .ok (.ireturn, 1) := by decide +kernel
set_option maxRecDepth 20000 in
theorem ggX7_thrust_X7_stands : GoodIn wsX7_thrust wsX7_stands := goodIn_r _ [6, 7, 8, 9, 5, 10, 1, 46, 47, 48, 49, 50, 51, 52, 53, 54, 55, 56, 57, 58, 59, 60, 61, 62, 63, 64, 65, 66, 67, 68, 69, 70, 71, 72, 73, 74, 75, 76, 77, 78] (by decide +kernel) (by decide +kernel)
set_option maxRecDepth 20000 in
theorem gX7_thrust_X7_stands : GoodIn wsX7_thrust (wsV RX7 119 RX7 yX7_stands wsX7_stands) := goodIn_app (goodIn_of _ (by decide +kernel)) ggX7_thrust_X7_stands
set_option maxRecDepth 20000 in
theorem ggX7_thrust_X7_allStanding : GoodIn wsX7_thrust wsX7_allStanding := goodIn_r _ [14, 1, 2, 3, 4, 5, 6, 7, 8, 9, 10, 46, 47, 48, 49, 50, 51, 52, 53, 54, 55, 56, 57, 58, 59, 60, 61, 62, 63, 64, 65, 66, 67, 68, 69, 70, 71, 72, 73, 74, 75, 76, 77, 78] (by decide +kernel) (by decide +kernel)
set_option maxRecDepth 20000 in
theorem gX7_thrust_X7_allStanding : GoodIn wsX7_thrust (wsV RX7 123 RX7 yX7_allStanding wsX7_allStanding) := goodIn_app (goodIn_of _ (by decide +kernel)) ggX7_thrust_X7_allStanding
set_option maxRecDepth 20000 in
theorem ggX7_thrust_X7_nextOf : GoodIn wsX7_thrust wsX7_nextOf := goodIn_r _ [18, 1, 46, 47, 48, 49, 50, 51, 52, 53, 54, 55, 56, 57, 58, 59, 60, 61, 62, 63, 64, 65, 66, 67, 68, 69, 70, 71, 72, 73, 74, 75, 76, 77, 78] (by decide +kernel) (by decide +kernel)
set_option maxRecDepth 20000 in
theorem gX7_thrust_X7_nextOf : GoodIn wsX7_thrust (wsV RX7 127 RX7 yX7_nextOf wsX7_nextOf) := goodIn_app (goodIn_of _ (by decide +kernel)) ggX7_thrust_X7_nextOf
set_option maxRecDepth 20000 in
theorem ggX7_thrust_X7_of : GoodIn wsX7_thrust wsX7_of := goodIn_r _ [10, 1, 46, 47, 48, 49, 50, 51, 52, 53, 54, 55, 56, 57, 58, 59, 60, 61, 62, 63, 64, 65, 66, 67, 68, 69, 70, 71, 72, 73, 74, 75, 76, 77, 78] (by decide +kernel) (by decide +kernel)
set_option maxRecDepth 20000 in
theorem gX7_thrust_X7_of : GoodIn wsX7_thrust (wsV RX7 75 RX7 yX7_of wsX7_of) := goodIn_app (goodIn_of _ (by decide +kernel)) ggX7_thrust_X7_of
set_option maxRecDepth 20000 in
theorem ggX7_thrust_X7_pushes : GoodIn wsX7_thrust wsX7_pushes := goodIn_r _ [22, 23, 7, 8, 9, 5, 10, 1, 24, 25, 26, 27, 28, 29, 30, 31, 32, 33, 34, 35, 36, 37, 38, 39, 40, 41, 42, 43, 44, 45, 46, 47, 48, 49, 50, 51, 52, 53, 54, 55, 56, 57, 58, 59, 60, 61, 62, 63, 64, 65, 66, 67, 68, 69, 70, 71, 72, 73, 74, 75, 76, 77, 78] (by decide +kernel) (by decide +kernel)
set_option maxRecDepth 20000 in
theorem gX7_thrust_X7_pushes : GoodIn wsX7_thrust (wsV RX7 130 RX7 yX7_pushes wsX7_pushes) := goodIn_app (goodIn_of _ (by decide +kernel)) ggX7_thrust_X7_pushes
theorem dX7_thrust_0 : decode cX7_thrust 0 = .ok (.aload_n 0, 1) := by decide +kernel
theorem dX7_thrust_1 : decode cX7_thrust 1 = .ok (.iload_n 1, 1) := by decide +kernel
theorem dX7_thrust_2 : decode cX7_thrust 2 = .ok (.invokevirtual 119, 3) := by decide +kernel
theorem dX7_thrust_5 : decode cX7_thrust 5 = .ok (.ifCond .ne 5, 3) := by decide +kernel
theorem dX7_thrust_8 : decode cX7_thrust 8 = .ok (.iconst 0, 1) := by decide +kernel
theorem dX7_thrust_9 : decode cX7_thrust 9 = .ok (.ireturn, 1) := by decide +kernel
theorem dX7_thrust_10 : decode cX7_thrust 10 = .ok (.aload_n 0, 1) := by decide +kernel
theorem dX7_thrust_11 : decode cX7_thrust 11 = .ok (.invokevirtual 123, 3) := by decide +kernel
theorem dX7_thrust_14 : decode cX7_thrust 14 = .ok (.istore_n 2, 1) := by decide +kernel
theorem dX7_thrust_15 : decode cX7_thrust 15 = .ok (.aload_n 0, 1) := by decide +kernel
theorem dX7_thrust_16 : decode cX7_thrust 16 = .ok (.iload_n 1, 1) := by decide +kernel
theorem dX7_thrust_17 : decode cX7_thrust 17 = .ok (.iconst (-1), 1) := by decide +kernel
theorem dX7_thrust_18 : decode cX7_thrust 18 = .ok (.iload_n 2, 1) := by decide +kernel
theorem dX7_thrust_19 : decode cX7_thrust 19 = .ok (.invokevirtual 127, 3) := by decide +kernel
theorem dX7_thrust_22 : decode cX7_thrust 22 = .ok (.istore_n 3, 1) := by decide +kernel
theorem dX7_thrust_23 : decode cX7_thrust 23 = .ok (.aload_n 0, 1) := by decide +kernel
theorem dX7_thrust_24 : decode cX7_thrust 24 = .ok (.iload_n 1, 1) := by decide +kernel
theorem dX7_thrust_25 : decode cX7_thrust 25 = .ok (.iconst 1, 1) := by decide +kernel
theorem dX7_thrust_26 : decode cX7_thrust 26 = .ok (.iload_n 2, 1) := by decide +kernel
theorem dX7_thrust_27 : decode cX7_thrust 27 = .ok (.invokevirtual 127, 3) := by decide +kernel
theorem dX7_thrust_30 : decode cX7_thrust 30 = .ok (.istore 4, 2) := by decide +kernel
theorem dX7_thrust_32 : decode cX7_thrust 32 = .ok (.aload_n 0, 1) := by decide +kernel
theorem dX7_thrust_33 : decode cX7_thrust 33 = .ok (.getfield 7, 3) := by decide +kernel
theorem dX7_thrust_36 : decode cX7_thrust 36 = .ok (.iconst 4, 1) := by decide +kernel
theorem dX7_thrust_37 : decode cX7_thrust 37 = .ok (.iaload, 1) := by decide +kernel
theorem dX7_thrust_38 : decode cX7_thrust 38 = .ok (.istore 5, 2) := by decide +kernel
theorem dX7_thrust_40 : decode cX7_thrust 40 = .ok (.iload 5, 2) := by decide +kernel
theorem dX7_thrust_42 : decode cX7_thrust 42 = .ok (.iload_n 3, 1) := by decide +kernel
theorem dX7_thrust_43 : decode cX7_thrust 43 = .ok (.ifCond .lt 20, 3) := by decide +kernel
theorem dX7_thrust_46 : decode cX7_thrust 46 = .ok (.aload_n 0, 1) := by decide +kernel
theorem dX7_thrust_47 : decode cX7_thrust 47 = .ok (.iload_n 3, 1) := by decide +kernel
theorem dX7_thrust_48 : decode cX7_thrust 48 = .ok (.iconst 2, 1) := by decide +kernel
theorem dX7_thrust_49 : decode cX7_thrust 49 = .ok (.invokevirtual 75, 3) := by decide +kernel
theorem dX7_thrust_52 : decode cX7_thrust 52 = .ok (.ifCond .le 11, 3) := by decide +kernel
theorem dX7_thrust_55 : decode cX7_thrust 55 = .ok (.aload_n 0, 1) := by decide +kernel
theorem dX7_thrust_56 : decode cX7_thrust 56 = .ok (.iload_n 3, 1) := by decide +kernel
theorem dX7_thrust_57 : decode cX7_thrust 57 = .ok (.invokevirtual 130, 3) := by decide +kernel
theorem dX7_thrust_60 : decode cX7_thrust 60 = .ok (.goto 4, 3) := by decide +kernel
theorem dX7_thrust_63 : decode cX7_thrust 63 = .ok (.iconst 0, 1) := by decide +kernel
theorem dX7_thrust_64 : decode cX7_thrust 64 = .ok (.iadd, 1) := by decide +kernel
theorem dX7_thrust_65 : decode cX7_thrust 65 = .ok (.istore 5, 2) := by decide +kernel
theorem dX7_thrust_67 : decode cX7_thrust 67 = .ok (.iload 5, 2) := by decide +kernel
theorem dX7_thrust_69 : decode cX7_thrust 69 = .ok (.iload 4, 2) := by decide +kernel
theorem dX7_thrust_71 : decode cX7_thrust 71 = .ok (.ifCond .lt 22, 3) := by decide +kernel
theorem dX7_thrust_74 : decode cX7_thrust 74 = .ok (.aload_n 0, 1) := by decide +kernel
theorem dX7_thrust_75 : decode cX7_thrust 75 = .ok (.iload 4, 2) := by decide +kernel
theorem dX7_thrust_77 : decode cX7_thrust 77 = .ok (.iconst 2, 1) := by decide +kernel
theorem dX7_thrust_78 : decode cX7_thrust 78 = .ok (.invokevirtual 75, 3) := by decide +kernel
theorem dX7_thrust_81 : decode cX7_thrust 81 = .ok (.ifCond .ge 12, 3) := by decide +kernel
theorem dX7_thrust_84 : decode cX7_thrust 84 = .ok (.aload_n 0, 1) := by decide +kernel
theorem dX7_thrust_85 : decode cX7_thrust 85 = .ok (.iload 4, 2) := by decide +kernel
theorem dX7_thrust_87 : decode cX7_thrust 87 = .ok (.invokevirtual 130, 3) := by decide +kernel
theorem dX7_thrust_90 : decode cX7_thrust 90 = .ok (.goto 4, 3) := by decide +kernel
theorem dX7_thrust_93 : decode cX7_thrust 93 = .ok (.iconst 0, 1) := by decide +kernel
theorem dX7_thrust_94 : decode cX7_thrust 94 = .ok (.isub, 1) := by decide +kernel
theorem dX7_thrust_95 : decode cX7_thrust 95 = .ok (.istore 5, 2) := by decide +kernel
theorem dX7_thrust_97 : decode cX7_thrust 97 = .ok (.iload 5, 2) := by decide +kernel
theorem dX7_thrust_99 : decode cX7_thrust 99 = .ok (.ireturn, 1) := by decide +kernel
set_option maxRecDepth 20000 in
theorem ggX7_told_X7_isHouse : GoodIn wsX7_told wsX7_isHouse := goodIn_r _ [6, 7, 8, 9, 5, 10, 66, 67, 68, 69, 70, 71, 72, 73, 74, 75, 76, 77, 78, 79, 80, 81, 82, 83, 84, 85, 86, 87, 88, 89, 90, 91, 92, 93, 94, 95, 96, 97, 98] (by decide +kernel) (by decide +kernel)
set_option maxRecDepth 20000 in
theorem gX7_told_X7_isHouse : GoodIn wsX7_told (wsV RX7 133 RX7 yX7_isHouse wsX7_isHouse) := goodIn_app (goodIn_of _ (by decide +kernel)) ggX7_told_X7_isHouse
set_option maxRecDepth 20000 in
theorem ggX7_told_X7_of : GoodIn wsX7_told wsX7_of := goodIn_r _ [14, 7, 66, 67, 68, 69, 70, 71, 72, 73, 74, 75, 76, 77, 78, 79, 80, 81, 82, 83, 84, 85, 86, 87, 88, 89, 90, 91, 92, 93, 94, 95, 96, 97, 98] (by decide +kernel) (by decide +kernel)
set_option maxRecDepth 20000 in
theorem gX7_told_X7_of : GoodIn wsX7_told (wsV RX7 75 RX7 yX7_of wsX7_of) := goodIn_app (goodIn_of _ (by decide +kernel)) ggX7_told_X7_of
set_option maxRecDepth 20000 in
theorem ggX7_told_X7_pushes : GoodIn wsX7_told wsX7_pushes := goodIn_r _ [18, 19, 11, 12, 13, 5, 14, 7, 20, 21, 22, 23, 24, 25, 26, 27, 28, 29, 30, 31, 32, 33, 34, 35, 36, 37, 38, 39, 40, 41, 66, 67, 68, 69, 70, 71, 72, 73, 74, 75, 76, 77, 78, 79, 80, 81, 82, 83, 84, 85, 86, 87, 88, 89, 90, 91, 92, 93, 94, 95, 96, 97, 98] (by decide +kernel) (by decide +kernel)
set_option maxRecDepth 20000 in
theorem gX7_told_X7_pushes : GoodIn wsX7_told (wsV RX7 130 RX7 yX7_pushes wsX7_pushes) := goodIn_app (goodIn_of _ (by decide +kernel)) ggX7_told_X7_pushes
set_option maxRecDepth 20000 in
theorem ggX7_told_X7_bears : GoodIn wsX7_told wsX7_bears := goodIn_r _ [45, 11, 12, 13, 5, 14, 7, 66, 67, 68, 69, 70, 71, 72, 73, 74, 75, 76, 77, 78, 79, 80, 81, 82, 83, 84, 85, 86, 87, 88, 89, 90, 91, 92, 93, 94, 95, 96, 97, 98] (by decide +kernel) (by decide +kernel)
set_option maxRecDepth 20000 in
theorem gX7_told_X7_bears : GoodIn wsX7_told (wsV RX7 136 RX7 yX7_bears wsX7_bears) := goodIn_app (goodIn_of _ (by decide +kernel)) ggX7_told_X7_bears
set_option maxRecDepth 20000 in
theorem ggX7_told_X7_thrust : GoodIn wsX7_told wsX7_thrust := goodIn_r _ [49, 7, 50, 51, 52, 5, 53, 11, 12, 13, 14, 54, 55, 56, 57, 58, 59, 60, 61, 15, 16, 17, 18, 19, 20, 21, 22, 23, 24, 25, 26, 27, 28, 29, 30, 31, 32, 33, 34, 35, 36, 37, 38, 39, 40, 41, 66, 67, 68, 69, 70, 71, 72, 73, 74, 75, 76, 77, 78, 79, 80, 81, 82, 83, 84, 85, 86, 87, 88, 89, 90, 91, 92, 93, 94, 95, 96, 97, 98] (by decide +kernel) (by decide +kernel)
set_option maxRecDepth 20000 in
theorem gX7_told_X7_thrust : GoodIn wsX7_told (wsV RX7 139 RX7 yX7_thrust wsX7_thrust) := goodIn_app (goodIn_of _ (by decide +kernel)) ggX7_told_X7_thrust
set_option maxRecDepth 20000 in
theorem ggX7_told_X7_worth : GoodIn wsX7_told wsX7_worth := goodIn_r _ [65, 11, 12, 13, 5, 14, 7, 66, 67, 68, 69, 70, 71, 72, 73, 74, 75, 76, 77, 78, 79, 80, 81, 82, 83, 84, 85, 86, 87, 88, 89, 90, 91, 92, 93, 94, 95, 96, 97, 98] (by decide +kernel) (by decide +kernel)
set_option maxRecDepth 20000 in
theorem gX7_told_X7_worth : GoodIn wsX7_told (wsV RX7 142 RX7 yX7_worth wsX7_worth) := goodIn_app (goodIn_of _ (by decide +kernel)) ggX7_told_X7_worth
theorem dX7_told_0 : decode cX7_told 0 = .ok (.aload_n 0, 1) := by decide +kernel
theorem dX7_told_1 : decode cX7_told 1 = .ok (.iload_n 1, 1) := by decide +kernel
theorem dX7_told_2 : decode cX7_told 2 = .ok (.invokevirtual 133, 3) := by decide +kernel
theorem dX7_told_5 : decode cX7_told 5 = .ok (.ifCond .ne 6, 3) := by decide +kernel
theorem dX7_told_8 : decode cX7_told 8 = .ok (.ldc 100, 2) := by decide +kernel
theorem dX7_told_10 : decode cX7_told 10 = .ok (.ireturn, 1) := by decide +kernel
end
section
theorem dX7_told_11 : decode cX7_told 11 = .ok (.iload_n 2, 1) := by decide +kernel
theorem dX7_told_12 : decode cX7_told 12 = .ok (.tableswitch 101 0 10 #[60, 60, 60, 60, 60, 60, 67, 77, 83, 89, 95], 60) := by decide +kernel
theorem dX7_told_72 : decode cX7_told 72 = .ok (.aload_n 0, 1) := by decide +kernel
theorem dX7_told_73 : decode cX7_told 73 = .ok (.iload_n 1, 1) := by decide +kernel
theorem dX7_told_74 : decode cX7_told 74 = .ok (.iload_n 2, 1) := by decide +kernel
theorem dX7_told_75 : decode cX7_told 75 = .ok (.invokevirtual 75, 3) := by decide +kernel
theorem dX7_told_78 : decode cX7_told 78 = .ok (.ireturn, 1) := by decide +kernel
theorem dX7_told_79 : decode cX7_told 79 = .ok (.iconst 1, 1) := by decide +kernel
theorem dX7_told_80 : decode cX7_told 80 = .ok (.aload_n 0, 1) := by decide +kernel
theorem dX7_told_81 : decode cX7_told 81 = .ok (.iload_n 1, 1) := by decide +kernel
theorem dX7_told_82 : decode cX7_told 82 = .ok (.bipush 6, 2) := by decide +kernel
theorem dX7_told_84 : decode cX7_told 84 = .ok (.invokevirtual 75, 3) := by decide +kernel
theorem dX7_told_87 : decode cX7_told 87 = .ok (.isub, 1) := by decide +kernel
theorem dX7_told_88 : decode cX7_told 88 = .ok (.ireturn, 1) := by decide +kernel
theorem dX7_told_89 : decode cX7_told 89 = .ok (.aload_n 0, 1) := by decide +kernel
theorem dX7_told_90 : decode cX7_told 90 = .ok (.iload_n 1, 1) := by decide +kernel
theorem dX7_told_91 : decode cX7_told 91 = .ok (.invokevirtual 130, 3) := by decide +kernel
theorem dX7_told_94 : decode cX7_told 94 = .ok (.ireturn, 1) := by decide +kernel
theorem dX7_told_95 : decode cX7_told 95 = .ok (.aload_n 0, 1) := by decide +kernel
theorem dX7_told_96 : decode cX7_told 96 = .ok (.iload_n 1, 1) := by decide +kernel
theorem dX7_told_97 : decode cX7_told 97 = .ok (.invokevirtual 136, 3) := by decide +kernel
theorem dX7_told_100 : decode cX7_told 100 = .ok (.ireturn, 1) := by decide +kernel
theorem dX7_told_101 : decode cX7_told 101 = .ok (.aload_n 0, 1) := by decide +kernel
theorem dX7_told_102 : decode cX7_told 102 = .ok (.iload_n 1, 1) := by decide +kernel
theorem dX7_told_103 : decode cX7_told 103 = .ok (.invokevirtual 139, 3) := by decide +kernel
theorem dX7_told_106 : decode cX7_told 106 = .ok (.ireturn, 1) := by decide +kernel
theorem dX7_told_107 : decode cX7_told 107 = .ok (.aload_n 0, 1) := by decide +kernel
theorem dX7_told_108 : decode cX7_told 108 = .ok (.iload_n 1, 1) := by decide +kernel
theorem dX7_told_109 : decode cX7_told 109 = .ok (.invokevirtual 142, 3) := by decide +kernel
theorem dX7_told_112 : decode cX7_told 112 = .ok (.ireturn, 1) := by decide +kernel
theorem dX7_told_113 : decode cX7_told 113 = .ok (.ldc 100, 2) := by decide +kernel
theorem dX7_told_115 : decode cX7_told 115 = .ok (.ireturn, 1) := by decide +kernel
theorem dX7_isOf_0 : decode cX7_isOf 0 = .ok (.iload_n 0, 1) := by decide +kernel
theorem dX7_isOf_1 : decode cX7_isOf 1 = .ok (.iload_n 1, 1) := by decide +kernel
theorem dX7_isOf_2 : decode cX7_isOf 2 = .ok (.if_icmp .eq 27, 3) := by decide +kernel
theorem dX7_isOf_5 : decode cX7_isOf 5 = .ok (.iload_n 1, 1) := by decide +kernel
theorem dX7_isOf_6 : decode cX7_isOf 6 = .ok (.ifCond .eq 23, 3) := by decide +kernel
theorem dX7_isOf_9 : decode cX7_isOf 9 = .ok (.iload_n 1, 1) := by decide +kernel
theorem dX7_isOf_10 : decode cX7_isOf 10 = .ok (.iconst 1, 1) := by decide +kernel
theorem dX7_isOf_11 : decode cX7_isOf 11 = .ok (.if_icmp .ne 8, 3) := by decide +kernel
theorem dX7_isOf_14 : decode cX7_isOf 14 = .ok (.iload_n 0, 1) := by decide +kernel
theorem dX7_isOf_15 : decode cX7_isOf 15 = .ok (.iconst 3, 1) := by decide +kernel
theorem dX7_isOf_16 : decode cX7_isOf 16 = .ok (.if_icmp .eq 13, 3) := by decide +kernel
theorem dX7_isOf_19 : decode cX7_isOf 19 = .ok (.iload_n 1, 1) := by decide +kernel
theorem dX7_isOf_20 : decode cX7_isOf 20 = .ok (.iconst 2, 1) := by decide +kernel
theorem dX7_isOf_21 : decode cX7_isOf 21 = .ok (.if_icmp .ne 12, 3) := by decide +kernel
theorem dX7_isOf_24 : decode cX7_isOf 24 = .ok (.iload_n 0, 1) := by decide +kernel
theorem dX7_isOf_25 : decode cX7_isOf 25 = .ok (.iconst 4, 1) := by decide +kernel
theorem dX7_isOf_26 : decode cX7_isOf 26 = .ok (.if_icmp .ne 7, 3) := by decide +kernel
theorem dX7_isOf_29 : decode cX7_isOf 29 = .ok (.iconst 1, 1) := by decide +kernel
theorem dX7_isOf_30 : decode cX7_isOf 30 = .ok (.goto 4, 3) := by decide +kernel
theorem dX7_isOf_33 : decode cX7_isOf 33 = .ok (.iconst 0, 1) := by decide +kernel
theorem dX7_isOf_34 : decode cX7_isOf 34 = .ok (.ireturn, 1) := by decide +kernel
set_option maxRecDepth 20000 in
theorem ggX7_as_X7_isHouse : GoodIn wsX7_as wsX7_isHouse := goodIn_r _ [8, 9, 10, 11, 7, 12, 20, 21, 22, 23, 24, 25, 26, 27, 28, 29, 30, 31, 32, 33, 34, 35, 36, 37, 38, 39, 40, 41, 42, 43, 44, 45, 46, 47, 48, 49, 50, 51, 52] (by decide +kernel) (by decide +kernel)
set_option maxRecDepth 20000 in
theorem gX7_as_X7_isHouse : GoodIn wsX7_as (wsV RX7 133 RX7 yX7_isHouse wsX7_isHouse) := goodIn_app (goodIn_of _ (by decide +kernel)) ggX7_as_X7_isHouse
set_option maxRecDepth 20000 in
theorem ggX7_as_X7_isIn : GoodIn wsX7_as wsX7_isIn := goodIn_r _ [12] (by decide +kernel) (by decide +kernel)
set_option maxRecDepth 20000 in
theorem gX7_as_X7_isIn : GoodIn wsX7_as (va_wsS RX7 71 yX7_isIn wsX7_isIn) := goodIn_app (goodIn_of _ (by decide +kernel)) ggX7_as_X7_isIn
set_option maxRecDepth 20000 in
theorem ggX7_as_X7_of : GoodIn wsX7_as wsX7_of := goodIn_r _ [16, 9, 20, 21, 22, 23, 24, 25, 26, 27, 28, 29, 30, 31, 32, 33, 34, 35, 36, 37, 38, 39, 40, 41, 42, 43, 44, 45, 46, 47, 48, 49, 50, 51, 52] (by decide +kernel) (by decide +kernel)
set_option maxRecDepth 20000 in
theorem gX7_as_X7_of : GoodIn wsX7_as (wsV RX7 75 RX7 yX7_of wsX7_of) := goodIn_app (goodIn_of _ (by decide +kernel)) ggX7_as_X7_of
set_option maxRecDepth 20000 in
theorem ggX7_as_X7_isOf : GoodIn wsX7_as wsX7_isOf := goodIn_r _ [19] (by decide +kernel) (by decide +kernel)
set_option maxRecDepth 20000 in
theorem gX7_as_X7_isOf : GoodIn wsX7_as (va_wsS RX7 145 yX7_isOf wsX7_isOf) := goodIn_app (goodIn_of _ (by decide +kernel)) ggX7_as_X7_isOf
theorem dX7_as_0 : decode cX7_as 0 = .ok (.aload_n 0, 1) := by decide +kernel
theorem dX7_as_1 : decode cX7_as 1 = .ok (.iload_n 1, 1) := by decide +kernel
theorem dX7_as_2 : decode cX7_as 2 = .ok (.invokevirtual 133, 3) := by decide +kernel
theorem dX7_as_5 : decode cX7_as 5 = .ok (.ifCond .eq 15, 3) := by decide +kernel
theorem dX7_as_8 : decode cX7_as 8 = .ok (.iload_n 2, 1) := by decide +kernel
theorem dX7_as_9 : decode cX7_as 9 = .ok (.i2l, 1) := by decide +kernel
theorem dX7_as_10 : decode cX7_as 10 = .ok (.lconst 0, 1) := by decide +kernel
theorem dX7_as_11 : decode cX7_as 11 = .ok (.ldc2_w 94, 3) := by decide +kernel
theorem dX7_as_14 : decode cX7_as 14 = .ok (.invokestatic 71, 3) := by decide +kernel
theorem dX7_as_17 : decode cX7_as 17 = .ok (.ifCond .ne 6, 3) := by decide +kernel
theorem dX7_as_20 : decode cX7_as 20 = .ok (.ldc 100, 2) := by decide +kernel
theorem dX7_as_22 : decode cX7_as 22 = .ok (.ireturn, 1) := by decide +kernel
theorem dX7_as_23 : decode cX7_as 23 = .ok (.aload_n 0, 1) := by decide +kernel
theorem dX7_as_24 : decode cX7_as 24 = .ok (.iload_n 1, 1) := by decide +kernel
theorem dX7_as_25 : decode cX7_as 25 = .ok (.iconst 0, 1) := by decide +kernel
theorem dX7_as_26 : decode cX7_as 26 = .ok (.invokevirtual 75, 3) := by decide +kernel
theorem dX7_as_29 : decode cX7_as 29 = .ok (.iload_n 2, 1) := by decide +kernel
theorem dX7_as_30 : decode cX7_as 30 = .ok (.invokestatic 145, 3) := by decide +kernel
theorem dX7_as_33 : decode cX7_as 33 = .ok (.ifCond .eq 12, 3) := by decide +kernel
theorem dX7_as_36 : decode cX7_as 36 = .ok (.aload_n 0, 1) := by decide +kernel
theorem dX7_as_37 : decode cX7_as 37 = .ok (.iload_n 1, 1) := by decide +kernel
theorem dX7_as_38 : decode cX7_as 38 = .ok (.iconst 3, 1) := by decide +kernel
theorem dX7_as_39 : decode cX7_as 39 = .ok (.invokevirtual 75, 3) := by decide +kernel
theorem dX7_as_42 : decode cX7_as 42 = .ok (.goto 5, 3) := by decide +kernel
theorem dX7_as_45 : decode cX7_as 45 = .ok (.ldc 148, 2) := by decide +kernel
theorem dX7_as_47 : decode cX7_as 47 = .ok (.ireturn, 1) := by decide +kernel
set_option maxRecDepth 20000 in
theorem ggX7_turns_X7_isHouse : GoodIn wsX7_turns wsX7_isHouse := goodIn_r _ [7, 8, 9, 10, 6, 11, 16, 17, 18, 19, 20, 21, 22, 23, 24, 25, 26, 27, 28, 29, 30, 31, 32, 33, 34, 35, 36, 37, 38, 39, 40, 41, 42, 43, 44, 45, 46, 47, 48] (by decide +kernel) (by decide +kernel)
set_option maxRecDepth 20000 in
theorem gX7_turns_X7_isHouse : GoodIn wsX7_turns (wsV RX7 133 RX7 yX7_isHouse wsX7_isHouse) := goodIn_app (goodIn_of _ (by decide +kernel)) ggX7_turns_X7_isHouse
set_option maxRecDepth 20000 in
theorem ggX7_turns_X7_isIn : GoodIn wsX7_turns wsX7_isIn := goodIn_r _ [11] (by decide +kernel) (by decide +kernel)
set_option maxRecDepth 20000 in
theorem gX7_turns_X7_isIn : GoodIn wsX7_turns (va_wsS RX7 71 yX7_isIn wsX7_isIn) := goodIn_app (goodIn_of _ (by decide +kernel)) ggX7_turns_X7_isIn
set_option maxRecDepth 20000 in
theorem ggX7_turns_X7_becomes : GoodIn wsX7_turns wsX7_becomes := goodIn_r _ [15, 8, 16, 17, 18, 19, 20, 21, 22, 23, 24, 25, 26, 27, 28, 29, 30, 31, 32, 33, 34, 35, 36, 37, 38, 39, 40, 41, 42, 43, 44, 45, 46, 47, 48] (by decide +kernel) (by decide +kernel)
set_option maxRecDepth 20000 in
theorem gX7_turns_X7_becomes : GoodIn wsX7_turns (wsV RX7 149 RX7 yX7_becomes wsX7_becomes) := goodIn_app (goodIn_of _ (by decide +kernel)) ggX7_turns_X7_becomes
theorem dX7_turns_0 : decode cX7_turns 0 = .ok (.aload_n 0, 1) := by decide +kernel
theorem dX7_turns_1 : decode cX7_turns 1 = .ok (.iload_n 1, 1) := by decide +kernel
theorem dX7_turns_2 : decode cX7_turns 2 = .ok (.invokevirtual 133, 3) := by decide +kernel
theorem dX7_turns_5 : decode cX7_turns 5 = .ok (.ifCond .eq 30, 3) := by decide +kernel
theorem dX7_turns_8 : decode cX7_turns 8 = .ok (.iload_n 2, 1) := by decide +kernel
theorem dX7_turns_9 : decode cX7_turns 9 = .ok (.i2l, 1) := by decide +kernel
theorem dX7_turns_10 : decode cX7_turns 10 = .ok (.lconst 0, 1) := by decide +kernel
theorem dX7_turns_11 : decode cX7_turns 11 = .ok (.ldc2_w 94, 3) := by decide +kernel
theorem dX7_turns_14 : decode cX7_turns 14 = .ok (.invokestatic 71, 3) := by decide +kernel
theorem dX7_turns_17 : decode cX7_turns 17 = .ok (.ifCond .eq 18, 3) := by decide +kernel
theorem dX7_turns_20 : decode cX7_turns 20 = .ok (.aload_n 0, 1) := by decide +kernel
theorem dX7_turns_21 : decode cX7_turns 21 = .ok (.bipush 6, 2) := by decide +kernel
theorem dX7_turns_23 : decode cX7_turns 23 = .ok (.bipush 7, 2) := by decide +kernel
theorem dX7_turns_25 : decode cX7_turns 25 = .ok (.iload_n 1, 1) := by decide +kernel
theorem dX7_turns_26 : decode cX7_turns 26 = .ok (.imul, 1) := by decide +kernel
theorem dX7_turns_27 : decode cX7_turns 27 = .ok (.iadd, 1) := by decide +kernel
theorem dX7_turns_28 : decode cX7_turns 28 = .ok (.iload_n 2, 1) := by decide +kernel
theorem dX7_turns_29 : decode cX7_turns 29 = .ok (.invokevirtual 149, 3) := by decide +kernel
theorem dX7_turns_32 : decode cX7_turns 32 = .ok (.goto 5, 3) := by decide +kernel
theorem dX7_turns_35 : decode cX7_turns 35 = .ok (.ldc 100, 2) := by decide +kernel
theorem dX7_turns_37 : decode cX7_turns 37 = .ok (.ireturn, 1) := by decide +kernel
set_option maxRecDepth 20000 in
theorem ggX7_set_X7_isHouse : GoodIn wsX7_set wsX7_isHouse := goodIn_r _ [6, 7, 8, 9, 5, 10, 23, 24, 25, 26, 27, 28, 29, 30, 31, 32, 33, 34, 35, 36, 37, 38, 39, 40, 41, 42, 43, 44, 45, 46, 47, 48, 49, 50, 51, 52, 53, 54, 55] (by decide +kernel) (by decide +kernel)
set_option maxRecDepth 20000 in
theorem gX7_set_X7_isHouse : GoodIn wsX7_set (wsV RX7 133 RX7 yX7_isHouse wsX7_isHouse) := goodIn_app (goodIn_of _ (by decide +kernel)) ggX7_set_X7_isHouse
set_option maxRecDepth 20000 in
theorem ggX7_set_X7_mayBe : GoodIn wsX7_set wsX7_mayBe := goodIn_r _ [13, 14, 15, 16, 17, 18, 8, 9, 5, 10] (by decide +kernel) (by decide +kernel)
set_option maxRecDepth 20000 in
theorem gX7_set_X7_mayBe : GoodIn wsX7_set (va_wsS RX7 96 yX7_mayBe wsX7_mayBe) := goodIn_app (goodIn_of _ (by decide +kernel)) ggX7_set_X7_mayBe
set_option maxRecDepth 20000 in
theorem ggX7_set_X7_becomes : GoodIn wsX7_set wsX7_becomes := goodIn_r _ [22, 7, 23, 24, 25, 26, 27, 28, 29, 30, 31, 32, 33, 34, 35, 36, 37, 38, 39, 40, 41, 42, 43, 44, 45, 46, 47, 48, 49, 50, 51, 52, 53, 54, 55] (by decide +kernel) (by decide +kernel)
set_option maxRecDepth 20000 in
theorem gX7_set_X7_becomes : GoodIn wsX7_set (wsV RX7 149 RX7 yX7_becomes wsX7_becomes) := goodIn_app (goodIn_of _ (by decide +kernel)) ggX7_set_X7_becomes
theorem dX7_set_0 : decode cX7_set 0 = .ok (.aload_n 0, 1) := by decide +kernel
theorem dX7_set_1 : decode cX7_set 1 = .ok (.iload_n 1, 1) := by decide +kernel
theorem dX7_set_2 : decode cX7_set 2 = .ok (.invokevirtual 133, 3) := by decide +kernel
theorem dX7_set_5 : decode cX7_set 5 = .ok (.ifCond .eq 28, 3) := by decide +kernel
theorem dX7_set_8 : decode cX7_set 8 = .ok (.iload_n 2, 1) := by decide +kernel
theorem dX7_set_9 : decode cX7_set 9 = .ok (.iload_n 3, 1) := by decide +kernel
theorem dX7_set_10 : decode cX7_set 10 = .ok (.invokestatic 96, 3) := by decide +kernel
theorem dX7_set_13 : decode cX7_set 13 = .ok (.ifCond .eq 20, 3) := by decide +kernel
theorem dX7_set_16 : decode cX7_set 16 = .ok (.aload_n 0, 1) := by decide +kernel
theorem dX7_set_17 : decode cX7_set 17 = .ok (.bipush 6, 2) := by decide +kernel
theorem dX7_set_19 : decode cX7_set 19 = .ok (.bipush 7, 2) := by decide +kernel
theorem dX7_set_21 : decode cX7_set 21 = .ok (.iload_n 1, 1) := by decide +kernel
theorem dX7_set_22 : decode cX7_set 22 = .ok (.imul, 1) := by decide +kernel
theorem dX7_set_23 : decode cX7_set 23 = .ok (.iadd, 1) := by decide +kernel
theorem dX7_set_24 : decode cX7_set 24 = .ok (.iload_n 2, 1) := by decide +kernel
theorem dX7_set_25 : decode cX7_set 25 = .ok (.iadd, 1) := by decide +kernel
theorem dX7_set_26 : decode cX7_set 26 = .ok (.iload_n 3, 1) := by decide +kernel
theorem dX7_set_27 : decode cX7_set 27 = .ok (.invokevirtual 149, 3) := by decide +kernel
theorem dX7_set_30 : decode cX7_set 30 = .ok (.goto 5, 3) := by decide +kernel
theorem dX7_set_33 : decode cX7_set 33 = .ok (.ldc 100, 2) := by decide +kernel
theorem dX7_set_35 : decode cX7_set 35 = .ok (.ireturn, 1) := by decide +kernel
set_option maxRecDepth 20000 in
theorem ggX7_falls_X7_sets : GoodIn wsX7_falls wsX7_sets := goodIn_r _ [5, 6, 7, 8, 9, 10, 11, 12, 13, 14, 15, 16, 17, 18, 19, 20, 21, 22, 23, 24, 25, 26, 27, 28, 29, 30, 31, 32, 33, 34, 35, 36, 37, 38, 39] (by decide +kernel) (by decide +kernel)
set_option maxRecDepth 20000 in
theorem gX7_falls_X7_sets : GoodIn wsX7_falls (wsV RX7 80 RX7 yX7_sets wsX7_sets) := goodIn_app (goodIn_of _ (by decide +kernel)) ggX7_falls_X7_sets
theorem dX7_falls_0 : decode cX7_falls 0 = .ok (.aload_n 0, 1) := by decide +kernel
theorem dX7_falls_1 : decode cX7_falls 1 = .ok (.iload_n 1, 1) := by decide +kernel
theorem dX7_falls_2 : decode cX7_falls 2 = .ok (.bipush 6, 2) := by decide +kernel
theorem dX7_falls_4 : decode cX7_falls 4 = .ok (.iconst 1, 1) := by decide +kernel
theorem dX7_falls_5 : decode cX7_falls 5 = .ok (.invokevirtual 80, 3) := by decide +kernel
theorem dX7_falls_8 : decode cX7_falls 8 = .ok (.aload_n 0, 1) := by decide +kernel
theorem dX7_falls_9 : decode cX7_falls 9 = .ok (.iload_n 1, 1) := by decide +kernel
theorem dX7_falls_10 : decode cX7_falls 10 = .ok (.iconst 5, 1) := by decide +kernel
theorem dX7_falls_11 : decode cX7_falls 11 = .ok (.iconst 0, 1) := by decide +kernel
theorem dX7_falls_12 : decode cX7_falls 12 = .ok (.invokevirtual 80, 3) := by decide +kernel
theorem dX7_falls_15 : decode cX7_falls 15 = .ok (.return_, 1) := by decide +kernel
set_option maxRecDepth 20000 in
theorem ggX7_fells_X7_isHouse : GoodIn wsX7_fells wsX7_isHouse := goodIn_r _ [7, 8, 9, 10, 6, 11, 35, 36, 37, 38, 39, 40, 41, 42, 43, 44, 45, 46, 47, 48, 49, 50, 51, 52, 53, 54, 55, 56, 57, 58, 59, 60, 61, 62, 63, 64, 65, 66, 67] (by decide +kernel) (by decide +kernel)
set_option maxRecDepth 20000 in
theorem gX7_fells_X7_isHouse : GoodIn wsX7_fells (wsV RX7 133 RX7 yX7_isHouse wsX7_isHouse) := goodIn_app (goodIn_of _ (by decide +kernel)) ggX7_fells_X7_isHouse
set_option maxRecDepth 20000 in
theorem ggX7_fells_X7_stands : GoodIn wsX7_fells wsX7_stands := goodIn_r _ [15, 16, 17, 18, 6, 19, 8, 35, 36, 37, 38, 39, 40, 41, 42, 43, 44, 45, 46, 47, 48, 49, 50, 51, 52, 53, 54, 55, 56, 57, 58, 59, 60, 61, 62, 63, 64, 65, 66, 67] (by decide +kernel) (by decide +kernel)
set_option maxRecDepth 20000 in
theorem gX7_fells_X7_stands : GoodIn wsX7_fells (wsV RX7 119 RX7 yX7_stands wsX7_stands) := goodIn_app (goodIn_of _ (by decide +kernel)) ggX7_fells_X7_stands
set_option maxRecDepth 20000 in
theorem ggX7_fells_X7_falls : GoodIn wsX7_fells wsX7_falls := goodIn_r _ [23, 24, 25, 26, 6, 27, 8, 35, 36, 37, 38, 39, 40, 41, 42, 43, 44, 45, 46, 47, 48, 49, 50, 51, 52, 53, 54, 55, 56, 57, 58, 59, 60, 61, 62, 63, 64, 65, 66, 67] (by decide +kernel) (by decide +kernel)
set_option maxRecDepth 20000 in
theorem gX7_fells_X7_falls : GoodIn wsX7_fells (wsV RX7 153 RX7 yX7_falls wsX7_falls) := goodIn_app (goodIn_of _ (by decide +kernel)) ggX7_fells_X7_falls
set_option maxRecDepth 20000 in
theorem ggX7_fells_X7_allStanding : GoodIn wsX7_fells wsX7_allStanding := goodIn_r _ [31, 8, 12, 13, 14, 6, 15, 16, 17, 18, 19, 35, 36, 37, 38, 39, 40, 41, 42, 43, 44, 45, 46, 47, 48, 49, 50, 51, 52, 53, 54, 55, 56, 57, 58, 59, 60, 61, 62, 63, 64, 65, 66, 67] (by decide +kernel) (by decide +kernel)
set_option maxRecDepth 20000 in
theorem gX7_fells_X7_allStanding : GoodIn wsX7_fells (wsV RX7 123 RX7 yX7_allStanding wsX7_allStanding) := goodIn_app (goodIn_of _ (by decide +kernel)) ggX7_fells_X7_allStanding
set_option maxRecDepth 20000 in
theorem ggX7_fells_X7_manyIn : GoodIn wsX7_fells wsX7_manyIn := goodIn_r _ [34] (by decide +kernel) (by decide +kernel)
set_option maxRecDepth 20000 in
theorem gX7_fells_X7_manyIn : GoodIn wsX7_fells (va_wsS RX7 157 yX7_manyIn wsX7_manyIn) := goodIn_app (goodIn_of _ (by decide +kernel)) ggX7_fells_X7_manyIn
theorem dX7_fells_0 : decode cX7_fells 0 = .ok (.aload_n 0, 1) := by decide +kernel
theorem dX7_fells_1 : decode cX7_fells 1 = .ok (.iload_n 1, 1) := by decide +kernel
theorem dX7_fells_2 : decode cX7_fells 2 = .ok (.invokevirtual 133, 3) := by decide +kernel
theorem dX7_fells_5 : decode cX7_fells 5 = .ok (.ifCond .ne 6, 3) := by decide +kernel
theorem dX7_fells_8 : decode cX7_fells 8 = .ok (.ldc 100, 2) := by decide +kernel
theorem dX7_fells_10 : decode cX7_fells 10 = .ok (.ireturn, 1) := by decide +kernel
theorem dX7_fells_11 : decode cX7_fells 11 = .ok (.aload_n 0, 1) := by decide +kernel
theorem dX7_fells_12 : decode cX7_fells 12 = .ok (.iload_n 1, 1) := by decide +kernel
theorem dX7_fells_13 : decode cX7_fells 13 = .ok (.invokevirtual 119, 3) := by decide +kernel
theorem dX7_fells_16 : decode cX7_fells 16 = .ok (.ifCond .ne 6, 3) := by decide +kernel
theorem dX7_fells_19 : decode cX7_fells 19 = .ok (.ldc 152, 2) := by decide +kernel
theorem dX7_fells_21 : decode cX7_fells 21 = .ok (.ireturn, 1) := by decide +kernel
theorem dX7_fells_22 : decode cX7_fells 22 = .ok (.aload_n 0, 1) := by decide +kernel
theorem dX7_fells_23 : decode cX7_fells 23 = .ok (.iload_n 1, 1) := by decide +kernel
theorem dX7_fells_24 : decode cX7_fells 24 = .ok (.invokevirtual 153, 3) := by decide +kernel
theorem dX7_fells_27 : decode cX7_fells 27 = .ok (.aload_n 0, 1) := by decide +kernel
theorem dX7_fells_28 : decode cX7_fells 28 = .ok (.invokevirtual 123, 3) := by decide +kernel
theorem dX7_fells_31 : decode cX7_fells 31 = .ok (.invokestatic 157, 3) := by decide +kernel
theorem dX7_fells_34 : decode cX7_fells 34 = .ok (.ireturn, 1) := by decide +kernel
set_option maxRecDepth 20000 in
theorem ggX7_raises_X7_isHouse : GoodIn wsX7_raises wsX7_isHouse := goodIn_r _ [7, 8, 9, 10, 6, 11, 31, 32, 33, 34, 35, 36, 37, 38, 39, 40, 41, 42, 43, 44, 45, 46, 47, 48, 49, 50, 51, 52, 53, 54, 55, 56, 57, 58, 59, 60, 61, 62, 63] (by decide +kernel) (by decide +kernel)
set_option maxRecDepth 20000 in
theorem gX7_raises_X7_isHouse : GoodIn wsX7_raises (wsV RX7 133 RX7 yX7_isHouse wsX7_isHouse) := goodIn_app (goodIn_of _ (by decide +kernel)) ggX7_raises_X7_isHouse
set_option maxRecDepth 20000 in
theorem ggX7_raises_X7_stands : GoodIn wsX7_raises wsX7_stands := goodIn_r _ [15, 16, 17, 18, 6, 19, 8, 31, 32, 33, 34, 35, 36, 37, 38, 39, 40, 41, 42, 43, 44, 45, 46, 47, 48, 49, 50, 51, 52, 53, 54, 55, 56, 57, 58, 59, 60, 61, 62, 63] (by decide +kernel) (by decide +kernel)
set_option maxRecDepth 20000 in
theorem gX7_raises_X7_stands : GoodIn wsX7_raises (wsV RX7 119 RX7 yX7_stands wsX7_stands) := goodIn_app (goodIn_of _ (by decide +kernel)) ggX7_raises_X7_stands
set_option maxRecDepth 20000 in
theorem ggX7_raises_X7_sets : GoodIn wsX7_raises wsX7_sets := goodIn_r _ [23, 8, 31, 32, 33, 34, 35, 36, 37, 38, 39, 40, 41, 42, 43, 44, 45, 46, 47, 48, 49, 50, 51, 52, 53, 54, 55, 56, 57, 58, 59, 60, 61, 62, 63] (by decide +kernel) (by decide +kernel)
set_option maxRecDepth 20000 in
theorem gX7_raises_X7_sets : GoodIn wsX7_raises (wsV RX7 80 RX7 yX7_sets wsX7_sets) := goodIn_app (goodIn_of _ (by decide +kernel)) ggX7_raises_X7_sets
set_option maxRecDepth 20000 in
theorem ggX7_raises_X7_allStanding : GoodIn wsX7_raises wsX7_allStanding := goodIn_r _ [27, 8, 12, 13, 14, 6, 15, 16, 17, 18, 19, 31, 32, 33, 34, 35, 36, 37, 38, 39, 40, 41, 42, 43, 44, 45, 46, 47, 48, 49, 50, 51, 52, 53, 54, 55, 56, 57, 58, 59, 60, 61, 62, 63] (by decide +kernel) (by decide +kernel)
set_option maxRecDepth 20000 in
theorem gX7_raises_X7_allStanding : GoodIn wsX7_raises (wsV RX7 123 RX7 yX7_allStanding wsX7_allStanding) := goodIn_app (goodIn_of _ (by decide +kernel)) ggX7_raises_X7_allStanding
set_option maxRecDepth 20000 in
theorem ggX7_raises_X7_manyIn : GoodIn wsX7_raises wsX7_manyIn := goodIn_r _ [30] (by decide +kernel) (by decide +kernel)
set_option maxRecDepth 20000 in
theorem gX7_raises_X7_manyIn : GoodIn wsX7_raises (va_wsS RX7 157 yX7_manyIn wsX7_manyIn) := goodIn_app (goodIn_of _ (by decide +kernel)) ggX7_raises_X7_manyIn
theorem dX7_raises_0 : decode cX7_raises 0 = .ok (.aload_n 0, 1) := by decide +kernel
theorem dX7_raises_1 : decode cX7_raises 1 = .ok (.iload_n 1, 1) := by decide +kernel
theorem dX7_raises_2 : decode cX7_raises 2 = .ok (.invokevirtual 133, 3) := by decide +kernel
theorem dX7_raises_5 : decode cX7_raises 5 = .ok (.ifCond .ne 6, 3) := by decide +kernel
theorem dX7_raises_8 : decode cX7_raises 8 = .ok (.ldc 100, 2) := by decide +kernel
theorem dX7_raises_10 : decode cX7_raises 10 = .ok (.ireturn, 1) := by decide +kernel
theorem dX7_raises_11 : decode cX7_raises 11 = .ok (.aload_n 0, 1) := by decide +kernel
theorem dX7_raises_12 : decode cX7_raises 12 = .ok (.iload_n 1, 1) := by decide +kernel
theorem dX7_raises_13 : decode cX7_raises 13 = .ok (.invokevirtual 119, 3) := by decide +kernel
theorem dX7_raises_16 : decode cX7_raises 16 = .ok (.ifCond .eq 6, 3) := by decide +kernel
theorem dX7_raises_19 : decode cX7_raises 19 = .ok (.ldc 152, 2) := by decide +kernel
theorem dX7_raises_21 : decode cX7_raises 21 = .ok (.ireturn, 1) := by decide +kernel
theorem dX7_raises_22 : decode cX7_raises 22 = .ok (.aload_n 0, 1) := by decide +kernel
theorem dX7_raises_23 : decode cX7_raises 23 = .ok (.iload_n 1, 1) := by decide +kernel
theorem dX7_raises_24 : decode cX7_raises 24 = .ok (.bipush 6, 2) := by decide +kernel
theorem dX7_raises_26 : decode cX7_raises 26 = .ok (.iconst 0, 1) := by decide +kernel
theorem dX7_raises_27 : decode cX7_raises 27 = .ok (.invokevirtual 80, 3) := by decide +kernel
theorem dX7_raises_30 : decode cX7_raises 30 = .ok (.aload_n 0, 1) := by decide +kernel
theorem dX7_raises_31 : decode cX7_raises 31 = .ok (.iload_n 1, 1) := by decide +kernel
theorem dX7_raises_32 : decode cX7_raises 32 = .ok (.iconst 2, 1) := by decide +kernel
theorem dX7_raises_33 : decode cX7_raises 33 = .ok (.iconst 0, 1) := by decide +kernel
theorem dX7_raises_34 : decode cX7_raises 34 = .ok (.invokevirtual 80, 3) := by decide +kernel
theorem dX7_raises_37 : decode cX7_raises 37 = .ok (.aload_n 0, 1) := by decide +kernel
theorem dX7_raises_38 : decode cX7_raises 38 = .ok (.iload_n 1, 1) := by decide +kernel
theorem dX7_raises_39 : decode cX7_raises 39 = .ok (.iconst 4, 1) := by decide +kernel
theorem dX7_raises_40 : decode cX7_raises 40 = .ok (.iconst 0, 1) := by decide +kernel
theorem dX7_raises_41 : decode cX7_raises 41 = .ok (.invokevirtual 80, 3) := by decide +kernel
theorem dX7_raises_44 : decode cX7_raises 44 = .ok (.aload_n 0, 1) := by decide +kernel
theorem dX7_raises_45 : decode cX7_raises 45 = .ok (.invokevirtual 123, 3) := by decide +kernel
theorem dX7_raises_48 : decode cX7_raises 48 = .ok (.invokestatic 157, 3) := by decide +kernel
theorem dX7_raises_51 : decode cX7_raises 51 = .ok (.ireturn, 1) := by decide +kernel
set_option maxRecDepth 20000 in
theorem ggX7_snow_X7_isIn : GoodIn wsX7_snow wsX7_isIn := goodIn_r _ [7] (by decide +kernel) (by decide +kernel)
set_option maxRecDepth 20000 in
theorem gX7_snow_X7_isIn : GoodIn wsX7_snow (va_wsS RX7 71 yX7_isIn wsX7_isIn) := goodIn_app (goodIn_of _ (by decide +kernel)) ggX7_snow_X7_isIn
set_option maxRecDepth 20000 in
theorem ggX7_snow_X7_becomes : GoodIn wsX7_snow wsX7_becomes := goodIn_r _ [11, 12, 13, 14, 15, 16, 17, 18, 19, 20, 21, 22, 23, 24, 25, 26, 27, 28, 29, 30, 31, 32, 33, 34, 35, 36, 37, 38, 39, 40, 41, 42, 43, 44, 45] (by decide +kernel) (by decide +kernel)
set_option maxRecDepth 20000 in
theorem gX7_snow_X7_becomes : GoodIn wsX7_snow (wsV RX7 149 RX7 yX7_becomes wsX7_becomes) := goodIn_app (goodIn_of _ (by decide +kernel)) ggX7_snow_X7_becomes
theorem dX7_snow_0 : decode cX7_snow 0 = .ok (.iload_n 1, 1) := by decide +kernel
theorem dX7_snow_1 : decode cX7_snow 1 = .ok (.i2l, 1) := by decide +kernel
theorem dX7_snow_2 : decode cX7_snow 2 = .ok (.ldc2_w 160, 3) := by decide +kernel
theorem dX7_snow_5 : decode cX7_snow 5 = .ok (.ldc2_w 162, 3) := by decide +kernel
theorem dX7_snow_8 : decode cX7_snow 8 = .ok (.invokestatic 71, 3) := by decide +kernel
theorem dX7_snow_11 : decode cX7_snow 11 = .ok (.ifCond .eq 12, 3) := by decide +kernel
theorem dX7_snow_14 : decode cX7_snow 14 = .ok (.aload_n 0, 1) := by decide +kernel
theorem dX7_snow_15 : decode cX7_snow 15 = .ok (.iconst 4, 1) := by decide +kernel
theorem dX7_snow_16 : decode cX7_snow 16 = .ok (.iload_n 1, 1) := by decide +kernel
theorem dX7_snow_17 : decode cX7_snow 17 = .ok (.invokevirtual 149, 3) := by decide +kernel
theorem dX7_snow_20 : decode cX7_snow 20 = .ok (.goto 5, 3) := by decide +kernel
theorem dX7_snow_23 : decode cX7_snow 23 = .ok (.ldc 100, 2) := by decide +kernel
theorem dX7_snow_25 : decode cX7_snow 25 = .ok (.ireturn, 1) := by decide +kernel
set_option maxRecDepth 20000 in
theorem ggX7_deal_X7_isIn : GoodIn wsX7_deal wsX7_isIn := goodIn_r _ [7] (by decide +kernel) (by decide +kernel)
set_option maxRecDepth 20000 in
theorem gX7_deal_X7_isIn : GoodIn wsX7_deal (va_wsS RX7 71 yX7_isIn wsX7_isIn) := goodIn_app (goodIn_of _ (by decide +kernel)) ggX7_deal_X7_isIn
set_option maxRecDepth 20000 in
theorem ggX7_deal_X7_drawn : GoodIn wsX7_deal wsX7_drawn := goodIn_r _ [11, 3, 12, 21, 22, 23, 24, 25, 26, 27, 28, 29, 30, 31, 32, 33, 34, 35, 36, 37, 38, 39, 40, 41, 42, 43, 44, 45, 46, 47, 48, 49, 50, 51, 52, 53] (by decide +kernel) (by decide +kernel)
set_option maxRecDepth 20000 in
theorem gX7_deal_X7_drawn : GoodIn wsX7_deal (wsV RX7 164 RX7 yX7_drawn wsX7_drawn) := goodIn_app (goodIn_of _ (by decide +kernel)) ggX7_deal_X7_drawn
set_option maxRecDepth 20000 in
theorem ggX7_deal_X7_comes : GoodIn wsX7_deal wsX7_comes := goodIn_r _ [16, 3, 17, 18, 19, 6, 20, 21, 22, 23, 24, 25, 26, 27, 28, 29, 30, 31, 32, 33, 34, 35, 36, 37, 38, 39, 40, 41, 42, 43, 44, 45, 46, 47, 48, 49, 50, 51, 52, 53] (by decide +kernel) (by decide +kernel)
set_option maxRecDepth 20000 in
theorem gX7_deal_X7_comes : GoodIn wsX7_deal (wsV RX7 102 RX7 yX7_comes wsX7_comes) := goodIn_app (goodIn_of _ (by decide +kernel)) ggX7_deal_X7_comes
theorem dX7_deal_0 : decode cX7_deal 0 = .ok (.iload_n 1, 1) := by decide +kernel
theorem dX7_deal_1 : decode cX7_deal 1 = .ok (.i2l, 1) := by decide +kernel
theorem dX7_deal_2 : decode cX7_deal 2 = .ok (.lconst 1, 1) := by decide +kernel
theorem dX7_deal_3 : decode cX7_deal 3 = .ok (.ldc2_w 92, 3) := by decide +kernel
theorem dX7_deal_6 : decode cX7_deal 6 = .ok (.invokestatic 71, 3) := by decide +kernel
theorem dX7_deal_9 : decode cX7_deal 9 = .ok (.ifCond .ne 6, 3) := by decide +kernel
theorem dX7_deal_12 : decode cX7_deal 12 = .ok (.ldc 100, 2) := by decide +kernel
theorem dX7_deal_14 : decode cX7_deal 14 = .ok (.ireturn, 1) := by decide +kernel
theorem dX7_deal_15 : decode cX7_deal 15 = .ok (.iconst 0, 1) := by decide +kernel
theorem dX7_deal_16 : decode cX7_deal 16 = .ok (.istore_n 2, 1) := by decide +kernel
theorem dX7_deal_17 : decode cX7_deal 17 = .ok (.iload_n 2, 1) := by decide +kernel
theorem dX7_deal_18 : decode cX7_deal 18 = .ok (.iload_n 1, 1) := by decide +kernel
theorem dX7_deal_19 : decode cX7_deal 19 = .ok (.if_icmp .ge 67, 3) := by decide +kernel
theorem dX7_deal_22 : decode cX7_deal 22 = .ok (.aload_n 0, 1) := by decide +kernel
theorem dX7_deal_23 : decode cX7_deal 23 = .ok (.getfield 7, 3) := by decide +kernel
theorem dX7_deal_26 : decode cX7_deal 26 = .ok (.iconst 0, 1) := by decide +kernel
theorem dX7_deal_27 : decode cX7_deal 27 = .ok (.iaload, 1) := by decide +kernel
theorem dX7_deal_28 : decode cX7_deal 28 = .ok (.bipush 9, 2) := by decide +kernel
theorem dX7_deal_30 : decode cX7_deal 30 = .ok (.if_icmp .ge 56, 3) := by decide +kernel
theorem dX7_deal_33 : decode cX7_deal 33 = .ok (.aload_n 0, 1) := by decide +kernel
theorem dX7_deal_34 : decode cX7_deal 34 = .ok (.invokevirtual 164, 3) := by decide +kernel
theorem dX7_deal_37 : decode cX7_deal 37 = .ok (.bipush 6, 2) := by decide +kernel
theorem dX7_deal_39 : decode cX7_deal 39 = .ok (.irem, 1) := by decide +kernel
theorem dX7_deal_40 : decode cX7_deal 40 = .ok (.istore_n 3, 1) := by decide +kernel
theorem dX7_deal_41 : decode cX7_deal 41 = .ok (.iconst 1, 1) := by decide +kernel
theorem dX7_deal_42 : decode cX7_deal 42 = .ok (.aload_n 0, 1) := by decide +kernel
theorem dX7_deal_43 : decode cX7_deal 43 = .ok (.invokevirtual 164, 3) := by decide +kernel
theorem dX7_deal_46 : decode cX7_deal 46 = .ok (.bipush 60, 2) := by decide +kernel
theorem dX7_deal_48 : decode cX7_deal 48 = .ok (.irem, 1) := by decide +kernel
theorem dX7_deal_49 : decode cX7_deal 49 = .ok (.iadd, 1) := by decide +kernel
theorem dX7_deal_50 : decode cX7_deal 50 = .ok (.istore 4, 2) := by decide +kernel
theorem dX7_deal_52 : decode cX7_deal 52 = .ok (.aload_n 0, 1) := by decide +kernel
theorem dX7_deal_53 : decode cX7_deal 53 = .ok (.invokevirtual 164, 3) := by decide +kernel
theorem dX7_deal_56 : decode cX7_deal 56 = .ok (.bipush 41, 2) := by decide +kernel
theorem dX7_deal_58 : decode cX7_deal 58 = .ok (.irem, 1) := by decide +kernel
theorem dX7_deal_59 : decode cX7_deal 59 = .ok (.bipush 20, 2) := by decide +kernel
theorem dX7_deal_61 : decode cX7_deal 61 = .ok (.isub, 1) := by decide +kernel
theorem dX7_deal_62 : decode cX7_deal 62 = .ok (.istore 5, 2) := by decide +kernel
theorem dX7_deal_64 : decode cX7_deal 64 = .ok (.aload_n 0, 1) := by decide +kernel
theorem dX7_deal_65 : decode cX7_deal 65 = .ok (.iload_n 3, 1) := by decide +kernel
theorem dX7_deal_66 : decode cX7_deal 66 = .ok (.iload 4, 2) := by decide +kernel
theorem dX7_deal_68 : decode cX7_deal 68 = .ok (.iload 5, 2) := by decide +kernel
theorem dX7_deal_70 : decode cX7_deal 70 = .ok (.aload_n 0, 1) := by decide +kernel
theorem dX7_deal_71 : decode cX7_deal 71 = .ok (.invokevirtual 164, 3) := by decide +kernel
theorem dX7_deal_74 : decode cX7_deal 74 = .ok (.bipush 60, 2) := by decide +kernel
theorem dX7_deal_76 : decode cX7_deal 76 = .ok (.irem, 1) := by decide +kernel
theorem dX7_deal_77 : decode cX7_deal 77 = .ok (.invokevirtual 102, 3) := by decide +kernel
theorem dX7_deal_80 : decode cX7_deal 80 = .ok (.iinc 2 1, 3) := by decide +kernel
theorem dX7_deal_83 : decode cX7_deal 83 = .ok (.goto (-66), 3) := by decide +kernel
theorem dX7_deal_86 : decode cX7_deal 86 = .ok (.iload_n 2, 1) := by decide +kernel
theorem dX7_deal_87 : decode cX7_deal 87 = .ok (.ireturn, 1) := by decide +kernel
set_option maxRecDepth 20000 in
theorem ggX7_seed_X7_becomes : GoodIn wsX7_seed wsX7_becomes := goodIn_r _ [5, 6, 7, 8, 9, 10, 11, 12, 13, 14, 15, 16, 17, 18, 19, 20, 21, 22, 23, 24, 25, 26, 27, 28, 29, 30, 31, 32, 33, 34, 35, 36, 37, 38, 39] (by decide +kernel) (by decide +kernel)
set_option maxRecDepth 20000 in
theorem gX7_seed_X7_becomes : GoodIn wsX7_seed (wsV RX7 149 RX7 yX7_becomes wsX7_becomes) := goodIn_app (goodIn_of _ (by decide +kernel)) ggX7_seed_X7_becomes
theorem dX7_seed_0 : decode cX7_seed 0 = .ok (.aload_n 0, 1) := by decide +kernel
theorem dX7_seed_1 : decode cX7_seed 1 = .ok (.iconst 5, 1) := by decide +kernel
theorem dX7_seed_2 : decode cX7_seed 2 = .ok (.iload_n 1, 1) := by decide +kernel
theorem dX7_seed_3 : decode cX7_seed 3 = .ok (.invokevirtual 149, 3) := by decide +kernel
theorem dX7_seed_6 : decode cX7_seed 6 = .ok (.ireturn, 1) := by decide +kernel
set_option maxRecDepth 20000 in
theorem ggX7_fallsWith_X7_of : GoodIn wsX7_fallsWith wsX7_of := goodIn_r _ [5, 6, 18, 19, 20, 21, 22, 23, 24, 25, 26, 27, 28, 29, 30, 31, 32, 33, 34, 35, 36, 37, 38, 39, 40, 41, 42, 43, 44, 45, 46, 47, 48, 49, 50] (by decide +kernel) (by decide +kernel)
set_option maxRecDepth 20000 in
theorem gX7_fallsWith_X7_of : GoodIn wsX7_fallsWith (wsV RX7 75 RX7 yX7_of wsX7_of) := goodIn_app (goodIn_of _ (by decide +kernel)) ggX7_fallsWith_X7_of
set_option maxRecDepth 20000 in
theorem ggX7_fallsWith_X7_off : GoodIn wsX7_fallsWith wsX7_off := goodIn_r _ [9] (by decide +kernel) (by decide +kernel)
set_option maxRecDepth 20000 in
theorem gX7_fallsWith_X7_off : GoodIn wsX7_fallsWith (va_wsS RX7 106 yX7_off wsX7_off) := goodIn_app (goodIn_of _ (by decide +kernel)) ggX7_fallsWith_X7_off
set_option maxRecDepth 20000 in
theorem ggX7_fallsWith_X7_nextOf : GoodIn wsX7_fallsWith wsX7_nextOf := goodIn_r _ [13, 6, 18, 19, 20, 21, 22, 23, 24, 25, 26, 27, 28, 29, 30, 31, 32, 33, 34, 35, 36, 37, 38, 39, 40, 41, 42, 43, 44, 45, 46, 47, 48, 49, 50] (by decide +kernel) (by decide +kernel)
set_option maxRecDepth 20000 in
theorem gX7_fallsWith_X7_nextOf : GoodIn wsX7_fallsWith (wsV RX7 127 RX7 yX7_nextOf wsX7_nextOf) := goodIn_app (goodIn_of _ (by decide +kernel)) ggX7_fallsWith_X7_nextOf
set_option maxRecDepth 20000 in
theorem ggX7_fallsWith_X7_stands : GoodIn wsX7_fallsWith wsX7_stands := goodIn_r _ [17, 1, 2, 3, 4, 5, 6, 18, 19, 20, 21, 22, 23, 24, 25, 26, 27, 28, 29, 30, 31, 32, 33, 34, 35, 36, 37, 38, 39, 40, 41, 42, 43, 44, 45, 46, 47, 48, 49, 50] (by decide +kernel) (by decide +kernel)
set_option maxRecDepth 20000 in
theorem gX7_fallsWith_X7_stands : GoodIn wsX7_fallsWith (wsV RX7 119 RX7 yX7_stands wsX7_stands) := goodIn_app (goodIn_of _ (by decide +kernel)) ggX7_fallsWith_X7_stands
theorem dX7_fallsWith_0 : decode cX7_fallsWith 0 = .ok (.aload_n 0, 1) := by decide +kernel
theorem dX7_fallsWith_1 : decode cX7_fallsWith 1 = .ok (.iload_n 1, 1) := by decide +kernel
theorem dX7_fallsWith_2 : decode cX7_fallsWith 2 = .ok (.iconst 2, 1) := by decide +kernel
theorem dX7_fallsWith_3 : decode cX7_fallsWith 3 = .ok (.invokevirtual 75, 3) := by decide +kernel
theorem dX7_fallsWith_6 : decode cX7_fallsWith 6 = .ok (.istore_n 3, 1) := by decide +kernel
theorem dX7_fallsWith_7 : decode cX7_fallsWith 7 = .ok (.iload_n 3, 1) := by decide +kernel
theorem dX7_fallsWith_8 : decode cX7_fallsWith 8 = .ok (.iconst 0, 1) := by decide +kernel
theorem dX7_fallsWith_9 : decode cX7_fallsWith 9 = .ok (.invokestatic 106, 3) := by decide +kernel
theorem dX7_fallsWith_12 : decode cX7_fallsWith 12 = .ok (.bipush 20, 2) := by decide +kernel
theorem dX7_fallsWith_14 : decode cX7_fallsWith 14 = .ok (.if_icmp .ge 5, 3) := by decide +kernel
theorem dX7_fallsWith_17 : decode cX7_fallsWith 17 = .ok (.iconst 0, 1) := by decide +kernel
theorem dX7_fallsWith_18 : decode cX7_fallsWith 18 = .ok (.ireturn, 1) := by decide +kernel
theorem dX7_fallsWith_19 : decode cX7_fallsWith 19 = .ok (.aload_n 0, 1) := by decide +kernel
theorem dX7_fallsWith_20 : decode cX7_fallsWith 20 = .ok (.iload_n 1, 1) := by decide +kernel
theorem dX7_fallsWith_21 : decode cX7_fallsWith 21 = .ok (.iload_n 3, 1) := by decide +kernel
theorem dX7_fallsWith_22 : decode cX7_fallsWith 22 = .ok (.ifCond .le 7, 3) := by decide +kernel
theorem dX7_fallsWith_25 : decode cX7_fallsWith 25 = .ok (.iconst 1, 1) := by decide +kernel
theorem dX7_fallsWith_26 : decode cX7_fallsWith 26 = .ok (.goto 4, 3) := by decide +kernel
theorem dX7_fallsWith_29 : decode cX7_fallsWith 29 = .ok (.iconst (-1), 1) := by decide +kernel
theorem dX7_fallsWith_30 : decode cX7_fallsWith 30 = .ok (.iload_n 2, 1) := by decide +kernel
theorem dX7_fallsWith_31 : decode cX7_fallsWith 31 = .ok (.invokevirtual 127, 3) := by decide +kernel
theorem dX7_fallsWith_34 : decode cX7_fallsWith 34 = .ok (.istore 4, 2) := by decide +kernel
theorem dX7_fallsWith_36 : decode cX7_fallsWith 36 = .ok (.iload 4, 2) := by decide +kernel
theorem dX7_fallsWith_38 : decode cX7_fallsWith 38 = .ok (.ifCond .lt 16, 3) := by decide +kernel
theorem dX7_fallsWith_41 : decode cX7_fallsWith 41 = .ok (.aload_n 0, 1) := by decide +kernel
theorem dX7_fallsWith_42 : decode cX7_fallsWith 42 = .ok (.iload 4, 2) := by decide +kernel
theorem dX7_fallsWith_44 : decode cX7_fallsWith 44 = .ok (.invokevirtual 119, 3) := by decide +kernel
theorem dX7_fallsWith_47 : decode cX7_fallsWith 47 = .ok (.ifCond .ne 7, 3) := by decide +kernel
theorem dX7_fallsWith_50 : decode cX7_fallsWith 50 = .ok (.iconst 1, 1) := by decide +kernel
theorem dX7_fallsWith_51 : decode cX7_fallsWith 51 = .ok (.goto 4, 3) := by decide +kernel
theorem dX7_fallsWith_54 : decode cX7_fallsWith 54 = .ok (.iconst 0, 1) := by decide +kernel
theorem dX7_fallsWith_55 : decode cX7_fallsWith 55 = .ok (.ireturn, 1) := by decide +kernel
set_option maxRecDepth 20000 in
theorem ggX7_goesOn_X7_allStanding : GoodIn wsX7_goesOn wsX7_allStanding := goodIn_r _ [8, 1, 9, 10, 11, 7, 12, 13, 14, 15, 16, 68, 69, 70, 71, 72, 73, 74, 75, 76, 77, 78, 79, 80, 81, 82, 83, 84, 85, 86, 87, 88, 89, 90, 91, 92, 93, 94, 95, 96, 97, 98, 99, 100] (by decide +kernel) (by decide +kernel)
set_option maxRecDepth 20000 in
theorem gX7_goesOn_X7_allStanding : GoodIn wsX7_goesOn (wsV RX7 123 RX7 yX7_allStanding wsX7_allStanding) := goodIn_app (goodIn_of _ (by decide +kernel)) ggX7_goesOn_X7_allStanding
set_option maxRecDepth 20000 in
theorem ggX7_goesOn_X7_thrust : GoodIn wsX7_goesOn wsX7_thrust := goodIn_r _ [20, 1, 9, 10, 11, 7, 12, 13, 14, 15, 16, 4, 5, 6, 8, 21, 22, 23, 24, 25, 26, 27, 28, 29, 30, 31, 32, 33, 34, 35, 36, 37, 38, 39, 40, 41, 42, 43, 44, 45, 46, 47, 48, 49, 50, 51, 68, 69, 70, 71, 72, 73, 74, 75, 76, 77, 78, 79, 80, 81, 82, 83, 84, 85, 86, 87, 88, 89, 90, 91, 92, 93, 94, 95, 96, 97, 98, 99, 100] (by decide +kernel) (by decide +kernel)
set_option maxRecDepth 20000 in
theorem gX7_goesOn_X7_thrust : GoodIn wsX7_goesOn (wsV RX7 139 RX7 yX7_thrust wsX7_thrust) := goodIn_app (goodIn_of _ (by decide +kernel)) ggX7_goesOn_X7_thrust
set_option maxRecDepth 20000 in
theorem ggX7_goesOn_X7_bears : GoodIn wsX7_goesOn wsX7_bears := goodIn_r _ [55, 13, 14, 15, 7, 16, 1, 68, 69, 70, 71, 72, 73, 74, 75, 76, 77, 78, 79, 80, 81, 82, 83, 84, 85, 86, 87, 88, 89, 90, 91, 92, 93, 94, 95, 96, 97, 98, 99, 100] (by decide +kernel) (by decide +kernel)
set_option maxRecDepth 20000 in
theorem gX7_goesOn_X7_bears : GoodIn wsX7_goesOn (wsV RX7 136 RX7 yX7_bears wsX7_bears) := goodIn_app (goodIn_of _ (by decide +kernel)) ggX7_goesOn_X7_bears
set_option maxRecDepth 20000 in
theorem ggX7_goesOn_X7_off : GoodIn wsX7_goesOn wsX7_off := goodIn_r _ [32] (by decide +kernel) (by decide +kernel)
set_option maxRecDepth 20000 in
theorem gX7_goesOn_X7_off : GoodIn wsX7_goesOn (va_wsS RX7 106 yX7_off wsX7_off) := goodIn_app (goodIn_of _ (by decide +kernel)) ggX7_goesOn_X7_off
set_option maxRecDepth 20000 in
theorem ggX7_goesOn_X7_stands : GoodIn wsX7_goesOn wsX7_stands := goodIn_r _ [12, 13, 14, 15, 7, 16, 1, 68, 69, 70, 71, 72, 73, 74, 75, 76, 77, 78, 79, 80, 81, 82, 83, 84, 85, 86, 87, 88, 89, 90, 91, 92, 93, 94, 95, 96, 97, 98, 99, 100] (by decide +kernel) (by decide +kernel)
set_option maxRecDepth 20000 in
theorem gX7_goesOn_X7_stands : GoodIn wsX7_goesOn (wsV RX7 119 RX7 yX7_stands wsX7_stands) := goodIn_app (goodIn_of _ (by decide +kernel)) ggX7_goesOn_X7_stands
set_option maxRecDepth 20000 in
theorem ggX7_goesOn_X7_of : GoodIn wsX7_goesOn wsX7_of := goodIn_r _ [16, 1, 68, 69, 70, 71, 72, 73, 74, 75, 76, 77, 78, 79, 80, 81, 82, 83, 84, 85, 86, 87, 88, 89, 90, 91, 92, 93, 94, 95, 96, 97, 98, 99, 100] (by decide +kernel) (by decide +kernel)
set_option maxRecDepth 20000 in
theorem gX7_goesOn_X7_of : GoodIn wsX7_goesOn (wsV RX7 75 RX7 yX7_of wsX7_of) := goodIn_app (goodIn_of _ (by decide +kernel)) ggX7_goesOn_X7_of
set_option maxRecDepth 20000 in
theorem ggX7_goesOn_X7_held : GoodIn wsX7_goesOn wsX7_held := goodIn_r _ [51] (by decide +kernel) (by decide +kernel)
set_option maxRecDepth 20000 in
theorem gX7_goesOn_X7_held : GoodIn wsX7_goesOn (va_wsS RX7 116 yX7_held wsX7_held) := goodIn_app (goodIn_of _ (by decide +kernel)) ggX7_goesOn_X7_held
set_option maxRecDepth 20000 in
theorem ggX7_goesOn_X7_sets : GoodIn wsX7_goesOn wsX7_sets := goodIn_r _ [59, 1, 68, 69, 70, 71, 72, 73, 74, 75, 76, 77, 78, 79, 80, 81, 82, 83, 84, 85, 86, 87, 88, 89, 90, 91, 92, 93, 94, 95, 96, 97, 98, 99, 100] (by decide +kernel) (by decide +kernel)
set_option maxRecDepth 20000 in
theorem gX7_goesOn_X7_sets : GoodIn wsX7_goesOn (wsV RX7 80 RX7 yX7_sets wsX7_sets) := goodIn_app (goodIn_of _ (by decide +kernel)) ggX7_goesOn_X7_sets
set_option maxRecDepth 20000 in
theorem ggX7_goesOn_X7_falls : GoodIn wsX7_goesOn wsX7_falls := goodIn_r _ [63, 56, 57, 58, 7, 59, 1, 68, 69, 70, 71, 72, 73, 74, 75, 76, 77, 78, 79, 80, 81, 82, 83, 84, 85, 86, 87, 88, 89, 90, 91, 92, 93, 94, 95, 96, 97, 98, 99, 100] (by decide +kernel) (by decide +kernel)
set_option maxRecDepth 20000 in
theorem gX7_goesOn_X7_falls : GoodIn wsX7_goesOn (wsV RX7 153 RX7 yX7_falls wsX7_falls) := goodIn_app (goodIn_of _ (by decide +kernel)) ggX7_goesOn_X7_falls
set_option maxRecDepth 20000 in
theorem ggX7_goesOn_X7_fallsWith : GoodIn wsX7_goesOn wsX7_fallsWith := goodIn_r _ [67, 13, 14, 15, 7, 16, 1, 30, 31, 32, 21, 22, 23, 24, 9, 10, 11, 12, 68, 69, 70, 71, 72, 73, 74, 75, 76, 77, 78, 79, 80, 81, 82, 83, 84, 85, 86, 87, 88, 89, 90, 91, 92, 93, 94, 95, 96, 97, 98, 99, 100] (by decide +kernel) (by decide +kernel)
set_option maxRecDepth 20000 in
theorem gX7_goesOn_X7_fallsWith : GoodIn wsX7_goesOn (wsV RX7 167 RX7 yX7_fallsWith wsX7_fallsWith) := goodIn_app (goodIn_of _ (by decide +kernel)) ggX7_goesOn_X7_fallsWith
theorem dX7_goesOn_0 : decode cX7_goesOn 0 = .ok (.aload_n 0, 1) := by decide +kernel
theorem dX7_goesOn_1 : decode cX7_goesOn 1 = .ok (.invokevirtual 123, 3) := by decide +kernel
theorem dX7_goesOn_4 : decode cX7_goesOn 4 = .ok (.istore_n 1, 1) := by decide +kernel
theorem dX7_goesOn_5 : decode cX7_goesOn 5 = .ok (.iconst 0, 1) := by decide +kernel
theorem dX7_goesOn_6 : decode cX7_goesOn 6 = .ok (.istore_n 2, 1) := by decide +kernel
theorem dX7_goesOn_7 : decode cX7_goesOn 7 = .ok (.iconst 0, 1) := by decide +kernel
theorem dX7_goesOn_8 : decode cX7_goesOn 8 = .ok (.istore_n 3, 1) := by decide +kernel
theorem dX7_goesOn_9 : decode cX7_goesOn 9 = .ok (.iload_n 3, 1) := by decide +kernel
theorem dX7_goesOn_10 : decode cX7_goesOn 10 = .ok (.aload_n 0, 1) := by decide +kernel
theorem dX7_goesOn_11 : decode cX7_goesOn 11 = .ok (.getfield 7, 3) := by decide +kernel
theorem dX7_goesOn_14 : decode cX7_goesOn 14 = .ok (.iconst 0, 1) := by decide +kernel
theorem dX7_goesOn_15 : decode cX7_goesOn 15 = .ok (.iaload, 1) := by decide +kernel
theorem dX7_goesOn_16 : decode cX7_goesOn 16 = .ok (.if_icmp .ge 31, 3) := by decide +kernel
theorem dX7_goesOn_19 : decode cX7_goesOn 19 = .ok (.aload_n 0, 1) := by decide +kernel
theorem dX7_goesOn_20 : decode cX7_goesOn 20 = .ok (.getfield 43, 3) := by decide +kernel
theorem dX7_goesOn_23 : decode cX7_goesOn 23 = .ok (.iload_n 3, 1) := by decide +kernel
theorem dX7_goesOn_24 : decode cX7_goesOn 24 = .ok (.aload_n 0, 1) := by decide +kernel
theorem dX7_goesOn_25 : decode cX7_goesOn 25 = .ok (.iload_n 3, 1) := by decide +kernel
theorem dX7_goesOn_26 : decode cX7_goesOn 26 = .ok (.invokevirtual 139, 3) := by decide +kernel
theorem dX7_goesOn_29 : decode cX7_goesOn 29 = .ok (.iastore, 1) := by decide +kernel
theorem dX7_goesOn_30 : decode cX7_goesOn 30 = .ok (.aload_n 0, 1) := by decide +kernel
theorem dX7_goesOn_31 : decode cX7_goesOn 31 = .ok (.getfield 46, 3) := by decide +kernel
theorem dX7_goesOn_34 : decode cX7_goesOn 34 = .ok (.iload_n 3, 1) := by decide +kernel
theorem dX7_goesOn_35 : decode cX7_goesOn 35 = .ok (.aload_n 0, 1) := by decide +kernel
theorem dX7_goesOn_36 : decode cX7_goesOn 36 = .ok (.iload_n 3, 1) := by decide +kernel
theorem dX7_goesOn_37 : decode cX7_goesOn 37 = .ok (.invokevirtual 136, 3) := by decide +kernel
theorem dX7_goesOn_40 : decode cX7_goesOn 40 = .ok (.iastore, 1) := by decide +kernel
theorem dX7_goesOn_41 : decode cX7_goesOn 41 = .ok (.iinc 3 1, 3) := by decide +kernel
theorem dX7_goesOn_44 : decode cX7_goesOn 44 = .ok (.goto (-35), 3) := by decide +kernel
theorem dX7_goesOn_47 : decode cX7_goesOn 47 = .ok (.iconst 0, 1) := by decide +kernel
theorem dX7_goesOn_48 : decode cX7_goesOn 48 = .ok (.istore_n 3, 1) := by decide +kernel
theorem dX7_goesOn_49 : decode cX7_goesOn 49 = .ok (.iload_n 3, 1) := by decide +kernel
theorem dX7_goesOn_50 : decode cX7_goesOn 50 = .ok (.aload_n 0, 1) := by decide +kernel
theorem dX7_goesOn_51 : decode cX7_goesOn 51 = .ok (.getfield 7, 3) := by decide +kernel
theorem dX7_goesOn_54 : decode cX7_goesOn 54 = .ok (.iconst 0, 1) := by decide +kernel
theorem dX7_goesOn_55 : decode cX7_goesOn 55 = .ok (.iaload, 1) := by decide +kernel
theorem dX7_goesOn_56 : decode cX7_goesOn 56 = .ok (.if_icmp .ge 97, 3) := by decide +kernel
theorem dX7_goesOn_59 : decode cX7_goesOn 59 = .ok (.aload_n 0, 1) := by decide +kernel
theorem dX7_goesOn_60 : decode cX7_goesOn 60 = .ok (.getfield 43, 3) := by decide +kernel
theorem dX7_goesOn_63 : decode cX7_goesOn 63 = .ok (.iload_n 3, 1) := by decide +kernel
theorem dX7_goesOn_64 : decode cX7_goesOn 64 = .ok (.iaload, 1) := by decide +kernel
theorem dX7_goesOn_65 : decode cX7_goesOn 65 = .ok (.iconst 0, 1) := by decide +kernel
theorem dX7_goesOn_66 : decode cX7_goesOn 66 = .ok (.invokestatic 106, 3) := by decide +kernel
theorem dX7_goesOn_69 : decode cX7_goesOn 69 = .ok (.aload_n 0, 1) := by decide +kernel
theorem dX7_goesOn_70 : decode cX7_goesOn 70 = .ok (.getfield 46, 3) := by decide +kernel
theorem dX7_goesOn_73 : decode cX7_goesOn 73 = .ok (.iload_n 3, 1) := by decide +kernel
theorem dX7_goesOn_74 : decode cX7_goesOn 74 = .ok (.iaload, 1) := by decide +kernel
theorem dX7_goesOn_75 : decode cX7_goesOn 75 = .ok (.isub, 1) := by decide +kernel
theorem dX7_goesOn_76 : decode cX7_goesOn 76 = .ok (.istore 4, 2) := by decide +kernel
theorem dX7_goesOn_78 : decode cX7_goesOn 78 = .ok (.aload_n 0, 1) := by decide +kernel
theorem dX7_goesOn_79 : decode cX7_goesOn 79 = .ok (.iload_n 3, 1) := by decide +kernel
theorem dX7_goesOn_80 : decode cX7_goesOn 80 = .ok (.invokevirtual 119, 3) := by decide +kernel
theorem dX7_goesOn_83 : decode cX7_goesOn 83 = .ok (.ifCond .eq 64, 3) := by decide +kernel
theorem dX7_goesOn_86 : decode cX7_goesOn 86 = .ok (.iload 4, 2) := by decide +kernel
theorem dX7_goesOn_88 : decode cX7_goesOn 88 = .ok (.ifCond .le 59, 3) := by decide +kernel
theorem dX7_goesOn_91 : decode cX7_goesOn 91 = .ok (.aload_n 0, 1) := by decide +kernel
theorem dX7_goesOn_92 : decode cX7_goesOn 92 = .ok (.iload_n 3, 1) := by decide +kernel
theorem dX7_goesOn_93 : decode cX7_goesOn 93 = .ok (.iconst 4, 1) := by decide +kernel
theorem dX7_goesOn_94 : decode cX7_goesOn 94 = .ok (.aload_n 0, 1) := by decide +kernel
theorem dX7_goesOn_95 : decode cX7_goesOn 95 = .ok (.iload_n 3, 1) := by decide +kernel
theorem dX7_goesOn_96 : decode cX7_goesOn 96 = .ok (.iconst 4, 1) := by decide +kernel
theorem dX7_goesOn_97 : decode cX7_goesOn 97 = .ok (.invokevirtual 75, 3) := by decide +kernel
theorem dX7_goesOn_100 : decode cX7_goesOn 100 = .ok (.iload 4, 2) := by decide +kernel
theorem dX7_goesOn_102 : decode cX7_goesOn 102 = .ok (.iadd, 1) := by decide +kernel
theorem dX7_goesOn_103 : decode cX7_goesOn 103 = .ok (.iconst 0, 1) := by decide +kernel
theorem dX7_goesOn_104 : decode cX7_goesOn 104 = .ok (.sipush 999, 3) := by decide +kernel
theorem dX7_goesOn_107 : decode cX7_goesOn 107 = .ok (.invokestatic 116, 3) := by decide +kernel
theorem dX7_goesOn_110 : decode cX7_goesOn 110 = .ok (.invokevirtual 80, 3) := by decide +kernel
theorem dX7_goesOn_113 : decode cX7_goesOn 113 = .ok (.aload_n 0, 1) := by decide +kernel
theorem dX7_goesOn_114 : decode cX7_goesOn 114 = .ok (.iload_n 3, 1) := by decide +kernel
theorem dX7_goesOn_115 : decode cX7_goesOn 115 = .ok (.iconst 2, 1) := by decide +kernel
theorem dX7_goesOn_116 : decode cX7_goesOn 116 = .ok (.aload_n 0, 1) := by decide +kernel
theorem dX7_goesOn_117 : decode cX7_goesOn 117 = .ok (.iload_n 3, 1) := by decide +kernel
theorem dX7_goesOn_118 : decode cX7_goesOn 118 = .ok (.iconst 2, 1) := by decide +kernel
theorem dX7_goesOn_119 : decode cX7_goesOn 119 = .ok (.invokevirtual 75, 3) := by decide +kernel
theorem dX7_goesOn_122 : decode cX7_goesOn 122 = .ok (.aload_n 0, 1) := by decide +kernel
theorem dX7_goesOn_123 : decode cX7_goesOn 123 = .ok (.getfield 43, 3) := by decide +kernel
theorem dX7_goesOn_126 : decode cX7_goesOn 126 = .ok (.iload_n 3, 1) := by decide +kernel
theorem dX7_goesOn_127 : decode cX7_goesOn 127 = .ok (.iaload, 1) := by decide +kernel
theorem dX7_goesOn_128 : decode cX7_goesOn 128 = .ok (.ifCond .le 7, 3) := by decide +kernel
theorem dX7_goesOn_131 : decode cX7_goesOn 131 = .ok (.iconst 1, 1) := by decide +kernel
theorem dX7_goesOn_132 : decode cX7_goesOn 132 = .ok (.goto 4, 3) := by decide +kernel
theorem dX7_goesOn_135 : decode cX7_goesOn 135 = .ok (.iconst (-1), 1) := by decide +kernel
theorem dX7_goesOn_136 : decode cX7_goesOn 136 = .ok (.iadd, 1) := by decide +kernel
theorem dX7_goesOn_137 : decode cX7_goesOn 137 = .ok (.bipush (-50), 2) := by decide +kernel
theorem dX7_goesOn_139 : decode cX7_goesOn 139 = .ok (.bipush 50, 2) := by decide +kernel
theorem dX7_goesOn_141 : decode cX7_goesOn 141 = .ok (.invokestatic 116, 3) := by decide +kernel
theorem dX7_goesOn_144 : decode cX7_goesOn 144 = .ok (.invokevirtual 80, 3) := by decide +kernel
theorem dX7_goesOn_147 : decode cX7_goesOn 147 = .ok (.iinc 3 1, 3) := by decide +kernel
theorem dX7_goesOn_150 : decode cX7_goesOn 150 = .ok (.goto (-101), 3) := by decide +kernel
theorem dX7_goesOn_153 : decode cX7_goesOn 153 = .ok (.iconst 0, 1) := by decide +kernel
theorem dX7_goesOn_154 : decode cX7_goesOn 154 = .ok (.istore_n 3, 1) := by decide +kernel
theorem dX7_goesOn_155 : decode cX7_goesOn 155 = .ok (.iload_n 3, 1) := by decide +kernel
theorem dX7_goesOn_156 : decode cX7_goesOn 156 = .ok (.aload_n 0, 1) := by decide +kernel
theorem dX7_goesOn_157 : decode cX7_goesOn 157 = .ok (.getfield 7, 3) := by decide +kernel
theorem dX7_goesOn_160 : decode cX7_goesOn 160 = .ok (.iconst 0, 1) := by decide +kernel
theorem dX7_goesOn_161 : decode cX7_goesOn 161 = .ok (.iaload, 1) := by decide +kernel
theorem dX7_goesOn_162 : decode cX7_goesOn 162 = .ok (.if_icmp .ge 33, 3) := by decide +kernel
theorem dX7_goesOn_165 : decode cX7_goesOn 165 = .ok (.aload_n 0, 1) := by decide +kernel
theorem dX7_goesOn_166 : decode cX7_goesOn 166 = .ok (.iload_n 3, 1) := by decide +kernel
theorem dX7_goesOn_167 : decode cX7_goesOn 167 = .ok (.invokevirtual 119, 3) := by decide +kernel
theorem dX7_goesOn_170 : decode cX7_goesOn 170 = .ok (.ifCond .eq 19, 3) := by decide +kernel
theorem dX7_goesOn_173 : decode cX7_goesOn 173 = .ok (.aload_n 0, 1) := by decide +kernel
theorem dX7_goesOn_174 : decode cX7_goesOn 174 = .ok (.iload_n 3, 1) := by decide +kernel
theorem dX7_goesOn_175 : decode cX7_goesOn 175 = .ok (.iconst 4, 1) := by decide +kernel
theorem dX7_goesOn_176 : decode cX7_goesOn 176 = .ok (.invokevirtual 75, 3) := by decide +kernel
theorem dX7_goesOn_179 : decode cX7_goesOn 179 = .ok (.bipush 100, 2) := by decide +kernel
theorem dX7_goesOn_181 : decode cX7_goesOn 181 = .ok (.if_icmp .lt 8, 3) := by decide +kernel
theorem dX7_goesOn_184 : decode cX7_goesOn 184 = .ok (.aload_n 0, 1) := by decide +kernel
theorem dX7_goesOn_185 : decode cX7_goesOn 185 = .ok (.iload_n 3, 1) := by decide +kernel
theorem dX7_goesOn_186 : decode cX7_goesOn 186 = .ok (.invokevirtual 153, 3) := by decide +kernel
theorem dX7_goesOn_189 : decode cX7_goesOn 189 = .ok (.iinc 3 1, 3) := by decide +kernel
theorem dX7_goesOn_192 : decode cX7_goesOn 192 = .ok (.goto (-37), 3) := by decide +kernel
theorem dX7_goesOn_195 : decode cX7_goesOn 195 = .ok (.iconst 1, 1) := by decide +kernel
theorem dX7_goesOn_196 : decode cX7_goesOn 196 = .ok (.istore_n 3, 1) := by decide +kernel
theorem dX7_goesOn_197 : decode cX7_goesOn 197 = .ok (.iload_n 3, 1) := by decide +kernel
theorem dX7_goesOn_198 : decode cX7_goesOn 198 = .ok (.ifCond .eq 55, 3) := by decide +kernel
theorem dX7_goesOn_201 : decode cX7_goesOn 201 = .ok (.iconst 0, 1) := by decide +kernel
theorem dX7_goesOn_202 : decode cX7_goesOn 202 = .ok (.istore_n 3, 1) := by decide +kernel
theorem dX7_goesOn_203 : decode cX7_goesOn 203 = .ok (.iconst 0, 1) := by decide +kernel
theorem dX7_goesOn_204 : decode cX7_goesOn 204 = .ok (.istore 4, 2) := by decide +kernel
theorem dX7_goesOn_206 : decode cX7_goesOn 206 = .ok (.iload 4, 2) := by decide +kernel
theorem dX7_goesOn_208 : decode cX7_goesOn 208 = .ok (.aload_n 0, 1) := by decide +kernel
theorem dX7_goesOn_209 : decode cX7_goesOn 209 = .ok (.getfield 7, 3) := by decide +kernel
theorem dX7_goesOn_212 : decode cX7_goesOn 212 = .ok (.iconst 0, 1) := by decide +kernel
theorem dX7_goesOn_213 : decode cX7_goesOn 213 = .ok (.iaload, 1) := by decide +kernel
theorem dX7_goesOn_214 : decode cX7_goesOn 214 = .ok (.if_icmp .ge 36, 3) := by decide +kernel
theorem dX7_goesOn_217 : decode cX7_goesOn 217 = .ok (.aload_n 0, 1) := by decide +kernel
theorem dX7_goesOn_218 : decode cX7_goesOn 218 = .ok (.iload 4, 2) := by decide +kernel
theorem dX7_goesOn_220 : decode cX7_goesOn 220 = .ok (.invokevirtual 119, 3) := by decide +kernel
theorem dX7_goesOn_223 : decode cX7_goesOn 223 = .ok (.ifCond .eq 21, 3) := by decide +kernel
theorem dX7_goesOn_226 : decode cX7_goesOn 226 = .ok (.aload_n 0, 1) := by decide +kernel
theorem dX7_goesOn_227 : decode cX7_goesOn 227 = .ok (.iload 4, 2) := by decide +kernel
theorem dX7_goesOn_229 : decode cX7_goesOn 229 = .ok (.iload_n 1, 1) := by decide +kernel
theorem dX7_goesOn_230 : decode cX7_goesOn 230 = .ok (.invokevirtual 167, 3) := by decide +kernel
theorem dX7_goesOn_233 : decode cX7_goesOn 233 = .ok (.ifCond .eq 11, 3) := by decide +kernel
theorem dX7_goesOn_236 : decode cX7_goesOn 236 = .ok (.aload_n 0, 1) := by decide +kernel
theorem dX7_goesOn_237 : decode cX7_goesOn 237 = .ok (.iload 4, 2) := by decide +kernel
theorem dX7_goesOn_239 : decode cX7_goesOn 239 = .ok (.invokevirtual 153, 3) := by decide +kernel
theorem dX7_goesOn_242 : decode cX7_goesOn 242 = .ok (.iconst 1, 1) := by decide +kernel
theorem dX7_goesOn_243 : decode cX7_goesOn 243 = .ok (.istore_n 3, 1) := by decide +kernel
theorem dX7_goesOn_244 : decode cX7_goesOn 244 = .ok (.iinc 4 1, 3) := by decide +kernel
theorem dX7_goesOn_247 : decode cX7_goesOn 247 = .ok (.goto (-41), 3) := by decide +kernel
theorem dX7_goesOn_250 : decode cX7_goesOn 250 = .ok (.goto (-53), 3) := by decide +kernel
theorem dX7_goesOn_253 : decode cX7_goesOn 253 = .ok (.iconst 0, 1) := by decide +kernel
theorem dX7_goesOn_254 : decode cX7_goesOn 254 = .ok (.istore 4, 2) := by decide +kernel
theorem dX7_goesOn_256 : decode cX7_goesOn 256 = .ok (.iload 4, 2) := by decide +kernel
theorem dX7_goesOn_258 : decode cX7_goesOn 258 = .ok (.aload_n 0, 1) := by decide +kernel
theorem dX7_goesOn_259 : decode cX7_goesOn 259 = .ok (.getfield 7, 3) := by decide +kernel
theorem dX7_goesOn_262 : decode cX7_goesOn 262 = .ok (.iconst 0, 1) := by decide +kernel
theorem dX7_goesOn_263 : decode cX7_goesOn 263 = .ok (.iaload, 1) := by decide +kernel
theorem dX7_goesOn_264 : decode cX7_goesOn 264 = .ok (.if_icmp .ge 19, 3) := by decide +kernel
theorem dX7_goesOn_267 : decode cX7_goesOn 267 = .ok (.iload_n 2, 1) := by decide +kernel
theorem dX7_goesOn_268 : decode cX7_goesOn 268 = .ok (.aload_n 0, 1) := by decide +kernel
theorem dX7_goesOn_269 : decode cX7_goesOn 269 = .ok (.iload 4, 2) := by decide +kernel
theorem dX7_goesOn_271 : decode cX7_goesOn 271 = .ok (.iconst 5, 1) := by decide +kernel
theorem dX7_goesOn_272 : decode cX7_goesOn 272 = .ok (.invokevirtual 75, 3) := by decide +kernel
theorem dX7_goesOn_275 : decode cX7_goesOn 275 = .ok (.iadd, 1) := by decide +kernel
theorem dX7_goesOn_276 : decode cX7_goesOn 276 = .ok (.istore_n 2, 1) := by decide +kernel
theorem dX7_goesOn_277 : decode cX7_goesOn 277 = .ok (.iinc 4 1, 3) := by decide +kernel
theorem dX7_goesOn_280 : decode cX7_goesOn 280 = .ok (.goto (-24), 3) := by decide +kernel
theorem dX7_goesOn_283 : decode cX7_goesOn 283 = .ok (.aload_n 0, 1) := by decide +kernel
theorem dX7_goesOn_284 : decode cX7_goesOn 284 = .ok (.getfield 7, 3) := by decide +kernel
theorem dX7_goesOn_287 : decode cX7_goesOn 287 = .ok (.iconst 3, 1) := by decide +kernel
theorem dX7_goesOn_288 : decode cX7_goesOn 288 = .ok (.dup2, 1) := by decide +kernel
theorem dX7_goesOn_289 : decode cX7_goesOn 289 = .ok (.iaload, 1) := by decide +kernel
theorem dX7_goesOn_290 : decode cX7_goesOn 290 = .ok (.iload_n 2, 1) := by decide +kernel
theorem dX7_goesOn_291 : decode cX7_goesOn 291 = .ok (.iadd, 1) := by decide +kernel
theorem dX7_goesOn_292 : decode cX7_goesOn 292 = .ok (.iastore, 1) := by decide +kernel
theorem dX7_goesOn_293 : decode cX7_goesOn 293 = .ok (.aload_n 0, 1) := by decide +kernel
theorem dX7_goesOn_294 : decode cX7_goesOn 294 = .ok (.getfield 7, 3) := by decide +kernel
theorem dX7_goesOn_297 : decode cX7_goesOn 297 = .ok (.iconst 2, 1) := by decide +kernel
theorem dX7_goesOn_298 : decode cX7_goesOn 298 = .ok (.dup2, 1) := by decide +kernel
theorem dX7_goesOn_299 : decode cX7_goesOn 299 = .ok (.iaload, 1) := by decide +kernel
theorem dX7_goesOn_300 : decode cX7_goesOn 300 = .ok (.iconst 1, 1) := by decide +kernel
theorem dX7_goesOn_301 : decode cX7_goesOn 301 = .ok (.iadd, 1) := by decide +kernel
theorem dX7_goesOn_302 : decode cX7_goesOn 302 = .ok (.iastore, 1) := by decide +kernel
theorem dX7_goesOn_303 : decode cX7_goesOn 303 = .ok (.return_, 1) := by decide +kernel
set_option maxRecDepth 20000 in
theorem ggX7_days_X7_isIn : GoodIn wsX7_days wsX7_isIn := goodIn_r _ [7] (by decide +kernel) (by decide +kernel)
set_option maxRecDepth 20000 in
theorem gX7_days_X7_isIn : GoodIn wsX7_days (va_wsS RX7 71 yX7_isIn wsX7_isIn) := goodIn_app (goodIn_of _ (by decide +kernel)) ggX7_days_X7_isIn
set_option maxRecDepth 20000 in
theorem ggX7_days_X7_allStanding : GoodIn wsX7_days wsX7_allStanding := goodIn_r _ [11, 3, 12, 13, 14, 6, 15, 16, 17, 18, 19, 80, 81, 82, 83, 84, 85, 86, 87, 88, 89, 90, 91, 92, 93, 94, 95, 96, 97, 98, 99, 100, 101, 102, 103, 104, 105, 106, 107, 108, 109, 110, 111, 112] (by decide +kernel) (by decide +kernel)
set_option maxRecDepth 20000 in
theorem gX7_days_X7_allStanding : GoodIn wsX7_days (wsV RX7 123 RX7 yX7_allStanding wsX7_allStanding) := goodIn_app (goodIn_of _ (by decide +kernel)) ggX7_days_X7_allStanding
set_option maxRecDepth 20000 in
theorem ggX7_days_X7_manyIn : GoodIn wsX7_days wsX7_manyIn := goodIn_r _ [22] (by decide +kernel) (by decide +kernel)
set_option maxRecDepth 20000 in
theorem gX7_days_X7_manyIn : GoodIn wsX7_days (va_wsS RX7 157 yX7_manyIn wsX7_manyIn) := goodIn_app (goodIn_of _ (by decide +kernel)) ggX7_days_X7_manyIn
set_option maxRecDepth 20000 in
theorem ggX7_days_X7_goesOn : GoodIn wsX7_days wsX7_goesOn := goodIn_r _ [26, 3, 27, 28, 8, 9, 10, 6, 11, 12, 13, 14, 15, 16, 17, 18, 19, 29, 30, 31, 32, 33, 34, 35, 36, 37, 38, 39, 40, 41, 42, 43, 44, 45, 46, 47, 48, 49, 50, 51, 52, 53, 54, 55, 56, 57, 58, 59, 60, 61, 62, 63, 64, 65, 66, 67, 68, 69, 70, 71, 72, 73, 74, 75, 76, 77, 78, 79, 80, 81, 82, 83, 84, 85, 86, 87, 88, 89, 90, 91, 92, 93, 94, 95, 96, 97, 98, 99, 100, 101, 102, 103, 104, 105, 106, 107, 108, 109, 110, 111, 112] (by decide +kernel) (by decide +kernel)
set_option maxRecDepth 20000 in
theorem gX7_days_X7_goesOn : GoodIn wsX7_days (wsV RX7 172 RX7 yX7_goesOn wsX7_goesOn) := goodIn_app (goodIn_of _ (by decide +kernel)) ggX7_days_X7_goesOn
theorem dX7_days_0 : decode cX7_days 0 = .ok (.iload_n 1, 1) := by decide +kernel
theorem dX7_days_1 : decode cX7_days 1 = .ok (.i2l, 1) := by decide +kernel
theorem dX7_days_2 : decode cX7_days 2 = .ok (.lconst 1, 1) := by decide +kernel
theorem dX7_days_3 : decode cX7_days 3 = .ok (.ldc2_w 170, 3) := by decide +kernel
theorem dX7_days_6 : decode cX7_days 6 = .ok (.invokestatic 71, 3) := by decide +kernel
theorem dX7_days_9 : decode cX7_days 9 = .ok (.ifCond .ne 6, 3) := by decide +kernel
theorem dX7_days_12 : decode cX7_days 12 = .ok (.ldc 100, 2) := by decide +kernel
theorem dX7_days_14 : decode cX7_days 14 = .ok (.ireturn, 1) := by decide +kernel
theorem dX7_days_15 : decode cX7_days 15 = .ok (.aload_n 0, 1) := by decide +kernel
theorem dX7_days_16 : decode cX7_days 16 = .ok (.invokevirtual 123, 3) := by decide +kernel
theorem dX7_days_19 : decode cX7_days 19 = .ok (.invokestatic 157, 3) := by decide +kernel
theorem dX7_days_22 : decode cX7_days 22 = .ok (.istore_n 2, 1) := by decide +kernel
theorem dX7_days_23 : decode cX7_days 23 = .ok (.iconst 0, 1) := by decide +kernel
theorem dX7_days_24 : decode cX7_days 24 = .ok (.istore_n 3, 1) := by decide +kernel
theorem dX7_days_25 : decode cX7_days 25 = .ok (.iload_n 3, 1) := by decide +kernel
theorem dX7_days_26 : decode cX7_days 26 = .ok (.iload_n 1, 1) := by decide +kernel
theorem dX7_days_27 : decode cX7_days 27 = .ok (.if_icmp .ge 25, 3) := by decide +kernel
theorem dX7_days_30 : decode cX7_days 30 = .ok (.aload_n 0, 1) := by decide +kernel
theorem dX7_days_31 : decode cX7_days 31 = .ok (.getfield 7, 3) := by decide +kernel
theorem dX7_days_34 : decode cX7_days 34 = .ok (.iconst 2, 1) := by decide +kernel
theorem dX7_days_35 : decode cX7_days 35 = .ok (.iaload, 1) := by decide +kernel
theorem dX7_days_36 : decode cX7_days 36 = .ok (.sipush 9999, 3) := by decide +kernel
theorem dX7_days_39 : decode cX7_days 39 = .ok (.if_icmp .ge 13, 3) := by decide +kernel
theorem dX7_days_42 : decode cX7_days 42 = .ok (.aload_n 0, 1) := by decide +kernel
theorem dX7_days_43 : decode cX7_days 43 = .ok (.invokevirtual 172, 3) := by decide +kernel
theorem dX7_days_46 : decode cX7_days 46 = .ok (.iinc 3 1, 3) := by decide +kernel
theorem dX7_days_49 : decode cX7_days 49 = .ok (.goto (-24), 3) := by decide +kernel
theorem dX7_days_52 : decode cX7_days 52 = .ok (.iload_n 2, 1) := by decide +kernel
theorem dX7_days_53 : decode cX7_days 53 = .ok (.aload_n 0, 1) := by decide +kernel
theorem dX7_days_54 : decode cX7_days 54 = .ok (.invokevirtual 123, 3) := by decide +kernel
theorem dX7_days_57 : decode cX7_days 57 = .ok (.invokestatic 157, 3) := by decide +kernel
theorem dX7_days_60 : decode cX7_days 60 = .ok (.isub, 1) := by decide +kernel
theorem dX7_days_61 : decode cX7_days 61 = .ok (.ireturn, 1) := by decide +kernel
set_option maxRecDepth 20000 in
theorem ggX7_allOf_X7_of : GoodIn wsX7_allOf wsX7_of := goodIn_r _ [6, 1, 7, 8, 9, 10, 11, 12, 13, 14, 15, 16, 17, 18, 19, 20, 21, 22, 23, 24, 25, 26, 27, 28, 29, 30, 31, 32, 33, 34, 35, 36, 37, 38, 39] (by decide +kernel) (by decide +kernel)
set_option maxRecDepth 20000 in
theorem gX7_allOf_X7_of : GoodIn wsX7_allOf (wsV RX7 75 RX7 yX7_of wsX7_of) := goodIn_app (goodIn_of _ (by decide +kernel)) ggX7_allOf_X7_of
theorem dX7_allOf_0 : decode cX7_allOf 0 = .ok (.iconst 0, 1) := by decide +kernel
theorem dX7_allOf_1 : decode cX7_allOf 1 = .ok (.istore_n 2, 1) := by decide +kernel
theorem dX7_allOf_2 : decode cX7_allOf 2 = .ok (.iconst 0, 1) := by decide +kernel
theorem dX7_allOf_3 : decode cX7_allOf 3 = .ok (.istore_n 3, 1) := by decide +kernel
theorem dX7_allOf_4 : decode cX7_allOf 4 = .ok (.iload_n 3, 1) := by decide +kernel
theorem dX7_allOf_5 : decode cX7_allOf 5 = .ok (.aload_n 0, 1) := by decide +kernel
theorem dX7_allOf_6 : decode cX7_allOf 6 = .ok (.getfield 7, 3) := by decide +kernel
theorem dX7_allOf_9 : decode cX7_allOf 9 = .ok (.iconst 0, 1) := by decide +kernel
theorem dX7_allOf_10 : decode cX7_allOf 10 = .ok (.iaload, 1) := by decide +kernel
theorem dX7_allOf_11 : decode cX7_allOf 11 = .ok (.if_icmp .ge 18, 3) := by decide +kernel
theorem dX7_allOf_14 : decode cX7_allOf 14 = .ok (.iload_n 2, 1) := by decide +kernel
theorem dX7_allOf_15 : decode cX7_allOf 15 = .ok (.aload_n 0, 1) := by decide +kernel
theorem dX7_allOf_16 : decode cX7_allOf 16 = .ok (.iload_n 3, 1) := by decide +kernel
theorem dX7_allOf_17 : decode cX7_allOf 17 = .ok (.iload_n 1, 1) := by decide +kernel
theorem dX7_allOf_18 : decode cX7_allOf 18 = .ok (.invokevirtual 75, 3) := by decide +kernel
theorem dX7_allOf_21 : decode cX7_allOf 21 = .ok (.iadd, 1) := by decide +kernel
theorem dX7_allOf_22 : decode cX7_allOf 22 = .ok (.istore_n 2, 1) := by decide +kernel
theorem dX7_allOf_23 : decode cX7_allOf 23 = .ok (.iinc 3 1, 3) := by decide +kernel
theorem dX7_allOf_26 : decode cX7_allOf 26 = .ok (.goto (-22), 3) := by decide +kernel
theorem dX7_allOf_29 : decode cX7_allOf 29 = .ok (.iload_n 2, 1) := by decide +kernel
theorem dX7_allOf_30 : decode cX7_allOf 30 = .ok (.ireturn, 1) := by decide +kernel
set_option maxRecDepth 20000 in
theorem ggX7_looseOnes_X7_stands : GoodIn wsX7_looseOnes wsX7_stands := goodIn_r _ [6, 7, 8, 9, 5, 10, 1, 54, 55, 56, 57, 58, 59, 60, 61, 62, 63, 64, 65, 66, 67, 68, 69, 70, 71, 72, 73, 74, 75, 76, 77, 78, 79, 80, 81, 82, 83, 84, 85, 86] (by decide +kernel) (by decide +kernel)
set_option maxRecDepth 20000 in
theorem gX7_looseOnes_X7_stands : GoodIn wsX7_looseOnes (wsV RX7 119 RX7 yX7_stands wsX7_stands) := goodIn_app (goodIn_of _ (by decide +kernel)) ggX7_looseOnes_X7_stands
set_option maxRecDepth 20000 in
theorem ggX7_looseOnes_X7_thrust : GoodIn wsX7_looseOnes wsX7_thrust := goodIn_r _ [14, 1, 2, 3, 4, 5, 6, 7, 8, 9, 10, 15, 16, 17, 18, 19, 20, 21, 22, 23, 24, 25, 26, 27, 28, 29, 30, 31, 32, 33, 34, 35, 36, 37, 38, 39, 40, 41, 42, 43, 44, 45, 46, 47, 48, 49, 54, 55, 56, 57, 58, 59, 60, 61, 62, 63, 64, 65, 66, 67, 68, 69, 70, 71, 72, 73, 74, 75, 76, 77, 78, 79, 80, 81, 82, 83, 84, 85, 86] (by decide +kernel) (by decide +kernel)
set_option maxRecDepth 20000 in
theorem gX7_looseOnes_X7_thrust : GoodIn wsX7_looseOnes (wsV RX7 139 RX7 yX7_thrust wsX7_thrust) := goodIn_app (goodIn_of _ (by decide +kernel)) ggX7_looseOnes_X7_thrust
set_option maxRecDepth 20000 in
theorem ggX7_looseOnes_X7_off : GoodIn wsX7_looseOnes wsX7_off := goodIn_r _ [30] (by decide +kernel) (by decide +kernel)
set_option maxRecDepth 20000 in
theorem gX7_looseOnes_X7_off : GoodIn wsX7_looseOnes (va_wsS RX7 106 yX7_off wsX7_off) := goodIn_app (goodIn_of _ (by decide +kernel)) ggX7_looseOnes_X7_off
set_option maxRecDepth 20000 in
theorem ggX7_looseOnes_X7_bears : GoodIn wsX7_looseOnes wsX7_bears := goodIn_r _ [53, 7, 8, 9, 5, 10, 1, 54, 55, 56, 57, 58, 59, 60, 61, 62, 63, 64, 65, 66, 67, 68, 69, 70, 71, 72, 73, 74, 75, 76, 77, 78, 79, 80, 81, 82, 83, 84, 85, 86] (by decide +kernel) (by decide +kernel)
set_option maxRecDepth 20000 in
theorem gX7_looseOnes_X7_bears : GoodIn wsX7_looseOnes (wsV RX7 136 RX7 yX7_bears wsX7_bears) := goodIn_app (goodIn_of _ (by decide +kernel)) ggX7_looseOnes_X7_bears
theorem dX7_looseOnes_0 : decode cX7_looseOnes 0 = .ok (.iconst 0, 1) := by decide +kernel
theorem dX7_looseOnes_1 : decode cX7_looseOnes 1 = .ok (.istore_n 1, 1) := by decide +kernel
theorem dX7_looseOnes_2 : decode cX7_looseOnes 2 = .ok (.iconst 0, 1) := by decide +kernel
theorem dX7_looseOnes_3 : decode cX7_looseOnes 3 = .ok (.istore_n 2, 1) := by decide +kernel
theorem dX7_looseOnes_4 : decode cX7_looseOnes 4 = .ok (.iload_n 2, 1) := by decide +kernel
theorem dX7_looseOnes_5 : decode cX7_looseOnes 5 = .ok (.aload_n 0, 1) := by decide +kernel
theorem dX7_looseOnes_6 : decode cX7_looseOnes 6 = .ok (.getfield 7, 3) := by decide +kernel
theorem dX7_looseOnes_9 : decode cX7_looseOnes 9 = .ok (.iconst 0, 1) := by decide +kernel
theorem dX7_looseOnes_10 : decode cX7_looseOnes 10 = .ok (.iaload, 1) := by decide +kernel
theorem dX7_looseOnes_11 : decode cX7_looseOnes 11 = .ok (.if_icmp .ge 44, 3) := by decide +kernel
theorem dX7_looseOnes_14 : decode cX7_looseOnes 14 = .ok (.iload_n 1, 1) := by decide +kernel
theorem dX7_looseOnes_15 : decode cX7_looseOnes 15 = .ok (.aload_n 0, 1) := by decide +kernel
theorem dX7_looseOnes_16 : decode cX7_looseOnes 16 = .ok (.iload_n 2, 1) := by decide +kernel
theorem dX7_looseOnes_17 : decode cX7_looseOnes 17 = .ok (.invokevirtual 119, 3) := by decide +kernel
theorem dX7_looseOnes_20 : decode cX7_looseOnes 20 = .ok (.ifCond .eq 26, 3) := by decide +kernel
theorem dX7_looseOnes_23 : decode cX7_looseOnes 23 = .ok (.aload_n 0, 1) := by decide +kernel
theorem dX7_looseOnes_24 : decode cX7_looseOnes 24 = .ok (.iload_n 2, 1) := by decide +kernel
theorem dX7_looseOnes_25 : decode cX7_looseOnes 25 = .ok (.invokevirtual 139, 3) := by decide +kernel
theorem dX7_looseOnes_28 : decode cX7_looseOnes 28 = .ok (.iconst 0, 1) := by decide +kernel
theorem dX7_looseOnes_29 : decode cX7_looseOnes 29 = .ok (.invokestatic 106, 3) := by decide +kernel
theorem dX7_looseOnes_32 : decode cX7_looseOnes 32 = .ok (.aload_n 0, 1) := by decide +kernel
theorem dX7_looseOnes_33 : decode cX7_looseOnes 33 = .ok (.iload_n 2, 1) := by decide +kernel
theorem dX7_looseOnes_34 : decode cX7_looseOnes 34 = .ok (.invokevirtual 136, 3) := by decide +kernel
theorem dX7_looseOnes_37 : decode cX7_looseOnes 37 = .ok (.if_icmp .le 9, 3) := by decide +kernel
theorem dX7_looseOnes_40 : decode cX7_looseOnes 40 = .ok (.iconst 1, 1) := by decide +kernel
theorem dX7_looseOnes_41 : decode cX7_looseOnes 41 = .ok (.iload_n 2, 1) := by decide +kernel
theorem dX7_looseOnes_42 : decode cX7_looseOnes 42 = .ok (.ishl, 1) := by decide +kernel
theorem dX7_looseOnes_43 : decode cX7_looseOnes 43 = .ok (.goto 4, 3) := by decide +kernel
theorem dX7_looseOnes_46 : decode cX7_looseOnes 46 = .ok (.iconst 0, 1) := by decide +kernel
theorem dX7_looseOnes_47 : decode cX7_looseOnes 47 = .ok (.ior, 1) := by decide +kernel
theorem dX7_looseOnes_48 : decode cX7_looseOnes 48 = .ok (.istore_n 1, 1) := by decide +kernel
theorem dX7_looseOnes_49 : decode cX7_looseOnes 49 = .ok (.iinc 2 1, 3) := by decide +kernel
theorem dX7_looseOnes_52 : decode cX7_looseOnes 52 = .ok (.goto (-48), 3) := by decide +kernel
theorem dX7_looseOnes_55 : decode cX7_looseOnes 55 = .ok (.iload_n 1, 1) := by decide +kernel
theorem dX7_looseOnes_56 : decode cX7_looseOnes 56 = .ok (.ireturn, 1) := by decide +kernel
set_option maxRecDepth 20000 in
theorem ggX7_street_X7_allStanding : GoodIn wsX7_street wsX7_allStanding := goodIn_r _ [7, 1, 8, 9, 10, 6, 11, 12, 13, 14, 15, 63, 64, 65, 66, 67, 68, 69, 70, 71, 72, 73, 74, 75, 76, 77, 78, 79, 80, 81, 82, 83, 84, 85, 86, 87, 88, 89, 90, 91, 92, 93, 94, 95] (by decide +kernel) (by decide +kernel)
set_option maxRecDepth 20000 in
theorem gX7_street_X7_allStanding : GoodIn wsX7_street (wsV RX7 123 RX7 yX7_allStanding wsX7_allStanding) := goodIn_app (goodIn_of _ (by decide +kernel)) ggX7_street_X7_allStanding
set_option maxRecDepth 20000 in
theorem ggX7_street_X7_allOf : GoodIn wsX7_street wsX7_allOf := goodIn_r _ [19, 1, 12, 13, 14, 6, 15, 63, 64, 65, 66, 67, 68, 69, 70, 71, 72, 73, 74, 75, 76, 77, 78, 79, 80, 81, 82, 83, 84, 85, 86, 87, 88, 89, 90, 91, 92, 93, 94, 95] (by decide +kernel) (by decide +kernel)
set_option maxRecDepth 20000 in
theorem gX7_street_X7_allOf : GoodIn wsX7_street (wsV RX7 175 RX7 yX7_allOf wsX7_allOf) := goodIn_app (goodIn_of _ (by decide +kernel)) ggX7_street_X7_allOf
set_option maxRecDepth 20000 in
theorem ggX7_street_X7_looseOnes : GoodIn wsX7_street wsX7_looseOnes := goodIn_r _ [23, 1, 8, 9, 10, 6, 11, 12, 13, 14, 15, 24, 25, 26, 27, 3, 4, 5, 7, 28, 29, 30, 31, 32, 33, 34, 35, 36, 37, 38, 39, 40, 41, 42, 43, 44, 45, 46, 47, 48, 49, 50, 51, 52, 53, 54, 55, 56, 57, 58, 59, 60, 61, 62, 63, 64, 65, 66, 67, 68, 69, 70, 71, 72, 73, 74, 75, 76, 77, 78, 79, 80, 81, 82, 83, 84, 85, 86, 87, 88, 89, 90, 91, 92, 93, 94, 95] (by decide +kernel) (by decide +kernel)
set_option maxRecDepth 20000 in
theorem gX7_street_X7_looseOnes : GoodIn wsX7_street (wsV RX7 178 RX7 yX7_looseOnes wsX7_looseOnes) := goodIn_app (goodIn_of _ (by decide +kernel)) ggX7_street_X7_looseOnes
theorem dX7_street_0 : decode cX7_street 0 = .ok (.iload_n 1, 1) := by decide +kernel
theorem dX7_street_1 : decode cX7_street 1 = .ok (.tableswitch 64 0 4 #[35, 42, 47, 53, 59], 35) := by decide +kernel
theorem dX7_street_36 : decode cX7_street 36 = .ok (.aload_n 0, 1) := by decide +kernel
theorem dX7_street_37 : decode cX7_street 37 = .ok (.getfield 7, 3) := by decide +kernel
theorem dX7_street_40 : decode cX7_street 40 = .ok (.iconst 3, 1) := by decide +kernel
theorem dX7_street_41 : decode cX7_street 41 = .ok (.iaload, 1) := by decide +kernel
theorem dX7_street_42 : decode cX7_street 42 = .ok (.ireturn, 1) := by decide +kernel
theorem dX7_street_43 : decode cX7_street 43 = .ok (.aload_n 0, 1) := by decide +kernel
theorem dX7_street_44 : decode cX7_street 44 = .ok (.invokevirtual 123, 3) := by decide +kernel
theorem dX7_street_47 : decode cX7_street 47 = .ok (.ireturn, 1) := by decide +kernel
theorem dX7_street_48 : decode cX7_street 48 = .ok (.aload_n 0, 1) := by decide +kernel
theorem dX7_street_49 : decode cX7_street 49 = .ok (.iconst 4, 1) := by decide +kernel
theorem dX7_street_50 : decode cX7_street 50 = .ok (.invokevirtual 175, 3) := by decide +kernel
theorem dX7_street_53 : decode cX7_street 53 = .ok (.ireturn, 1) := by decide +kernel
theorem dX7_street_54 : decode cX7_street 54 = .ok (.aload_n 0, 1) := by decide +kernel
theorem dX7_street_55 : decode cX7_street 55 = .ok (.iconst 5, 1) := by decide +kernel
theorem dX7_street_56 : decode cX7_street 56 = .ok (.invokevirtual 175, 3) := by decide +kernel
theorem dX7_street_59 : decode cX7_street 59 = .ok (.ireturn, 1) := by decide +kernel
theorem dX7_street_60 : decode cX7_street 60 = .ok (.aload_n 0, 1) := by decide +kernel
theorem dX7_street_61 : decode cX7_street 61 = .ok (.invokevirtual 178, 3) := by decide +kernel
theorem dX7_street_64 : decode cX7_street 64 = .ok (.ireturn, 1) := by decide +kernel
theorem dX7_street_65 : decode cX7_street 65 = .ok (.ldc 100, 2) := by decide +kernel
theorem dX7_street_67 : decode cX7_street 67 = .ok (.ireturn, 1) := by decide +kernel
theorem dX7_laysBy_0 : decode cX7_laysBy 0 = .ok (.iconst 0, 1) := by decide +kernel
theorem dX7_laysBy_1 : decode cX7_laysBy 1 = .ok (.istore_n 1, 1) := by decide +kernel
theorem dX7_laysBy_2 : decode cX7_laysBy 2 = .ok (.iload_n 1, 1) := by decide +kernel
theorem dX7_laysBy_3 : decode cX7_laysBy 3 = .ok (.bipush 69, 2) := by decide +kernel
theorem dX7_laysBy_5 : decode cX7_laysBy 5 = .ok (.if_icmp .ge 21, 3) := by decide +kernel
theorem dX7_laysBy_8 : decode cX7_laysBy 8 = .ok (.aload_n 0, 1) := by decide +kernel
theorem dX7_laysBy_9 : decode cX7_laysBy 9 = .ok (.getfield 49, 3) := by decide +kernel
theorem dX7_laysBy_12 : decode cX7_laysBy 12 = .ok (.iload_n 1, 1) := by decide +kernel
theorem dX7_laysBy_13 : decode cX7_laysBy 13 = .ok (.aload_n 0, 1) := by decide +kernel
theorem dX7_laysBy_14 : decode cX7_laysBy 14 = .ok (.getfield 7, 3) := by decide +kernel
theorem dX7_laysBy_17 : decode cX7_laysBy 17 = .ok (.iload_n 1, 1) := by decide +kernel
theorem dX7_laysBy_18 : decode cX7_laysBy 18 = .ok (.iaload, 1) := by decide +kernel
theorem dX7_laysBy_19 : decode cX7_laysBy 19 = .ok (.iastore, 1) := by decide +kernel
theorem dX7_laysBy_20 : decode cX7_laysBy 20 = .ok (.iinc 1 1, 3) := by decide +kernel
theorem dX7_laysBy_23 : decode cX7_laysBy 23 = .ok (.goto (-21), 3) := by decide +kernel
theorem dX7_laysBy_26 : decode cX7_laysBy 26 = .ok (.return_, 1) := by decide +kernel
theorem dX7_laysBack_0 : decode cX7_laysBack 0 = .ok (.iconst 0, 1) := by decide +kernel
theorem dX7_laysBack_1 : decode cX7_laysBack 1 = .ok (.istore_n 1, 1) := by decide +kernel
theorem dX7_laysBack_2 : decode cX7_laysBack 2 = .ok (.iload_n 1, 1) := by decide +kernel
theorem dX7_laysBack_3 : decode cX7_laysBack 3 = .ok (.bipush 69, 2) := by decide +kernel
theorem dX7_laysBack_5 : decode cX7_laysBack 5 = .ok (.if_icmp .ge 21, 3) := by decide +kernel
end
section
theorem zz_t : True := trivial
end
