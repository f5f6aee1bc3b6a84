-- ===== PART A: goes FIRST, ahead of the names: the tables' words, and 'selects' of the private methods out of them =====
/-- a private method of a class that the tables say can be made, by its rows of tables_1 -/
def lw_okq (q : MethodName × Nat) : Prop := (q.1.cls ≠ "java/lang/invoke/MethodHandle" ∧ q.1.cls ≠ "java/lang/invoke/VarHandle") ∧ Cond.instantiable q.1.cls q.2 ∈ tables_1 ∧ Cond.privateMethod q.1 ∈ tables_1 ∧ Cond.instanceMethod q.1 ∈ tables_1
theorem lw_p0 : lw_okq (⟨"DoorKeepsQuarrel", "refuse", "(I)I"⟩, 9) := ⟨⟨by decide +kernel, by decide +kernel⟩, List.mem_of_getElem? (i := 10) (by decide +kernel), List.mem_of_getElem? (i := 137) (by decide +kernel), List.mem_of_getElem? (i := 138) (by decide +kernel)⟩
theorem lw_p1 : lw_okq (⟨"DoorKeepsQuarrel$Telling", "at", "(I)I"⟩, 2) := ⟨⟨by decide +kernel, by decide +kernel⟩, List.mem_of_getElem? (i := 78) (by decide +kernel), List.mem_of_getElem? (i := 153) (by decide +kernel), List.mem_of_getElem? (i := 154) (by decide +kernel)⟩
theorem lw_p2 : lw_okq (⟨"DoorKeepsQuarrel$Telling", "fits", "(III)Z"⟩, 2) := ⟨⟨by decide +kernel, by decide +kernel⟩, List.mem_of_getElem? (i := 78) (by decide +kernel), List.mem_of_getElem? (i := 160) (by decide +kernel), List.mem_of_getElem? (i := 161) (by decide +kernel)⟩
theorem lw_p3 : lw_okq (⟨"DoorKeepsQuarrel$Telling", "isDigit", "(I)Z"⟩, 2) := ⟨⟨by decide +kernel, by decide +kernel⟩, List.mem_of_getElem? (i := 78) (by decide +kernel), List.mem_of_getElem? (i := 167) (by decide +kernel), List.mem_of_getElem? (i := 168) (by decide +kernel)⟩
theorem lw_p4 : lw_okq (⟨"DoorKeepsQuarrel$Telling", "happens", "(LDoorKeepsQuarrel$House;I)Z"⟩, 2) := ⟨⟨by decide +kernel, by decide +kernel⟩, List.mem_of_getElem? (i := 78) (by decide +kernel), List.mem_of_getElem? (i := 179) (by decide +kernel), List.mem_of_getElem? (i := 180) (by decide +kernel)⟩
theorem lw_p5 : lw_okq (⟨"DoorKeepsQuarrel$Telling", "digit", "(I)I"⟩, 2) := ⟨⟨by decide +kernel, by decide +kernel⟩, List.mem_of_getElem? (i := 78) (by decide +kernel), List.mem_of_getElem? (i := 183) (by decide +kernel), List.mem_of_getElem? (i := 184) (by decide +kernel)⟩
theorem lw_p6 : lw_okq (⟨"DoorKeepsQuarrel$Telling", "twoDigits", "(I)I"⟩, 2) := ⟨⟨by decide +kernel, by decide +kernel⟩, List.mem_of_getElem? (i := 78) (by decide +kernel), List.mem_of_getElem? (i := 249) (by decide +kernel), List.mem_of_getElem? (i := 250) (by decide +kernel)⟩
theorem lw_p7 : lw_okq (⟨"DoorKeepsQuarrel", "cold", "()I"⟩, 9) := ⟨⟨by decide +kernel, by decide +kernel⟩, List.mem_of_getElem? (i := 10) (by decide +kernel), List.mem_of_getElem? (i := 350) (by decide +kernel), List.mem_of_getElem? (i := 351) (by decide +kernel)⟩
theorem lw_p8 : lw_okq (⟨"DoorKeepsQuarrel", "isColdAfter", "(I)Z"⟩, 9) := ⟨⟨by decide +kernel, by decide +kernel⟩, List.mem_of_getElem? (i := 10) (by decide +kernel), List.mem_of_getElem? (i := 354) (by decide +kernel), List.mem_of_getElem? (i := 355) (by decide +kernel)⟩
theorem lw_p9 : lw_okq (⟨"DoorKeepsQuarrel", "hottest", "()I"⟩, 9) := ⟨⟨by decide +kernel, by decide +kernel⟩, List.mem_of_getElem? (i := 10) (by decide +kernel), List.mem_of_getElem? (i := 358) (by decide +kernel), List.mem_of_getElem? (i := 359) (by decide +kernel)⟩
theorem lw_p10 : lw_okq (⟨"DoorKeepsQuarrel", "loudest", "()I"⟩, 9) := ⟨⟨by decide +kernel, by decide +kernel⟩, List.mem_of_getElem? (i := 10) (by decide +kernel), List.mem_of_getElem? (i := 362) (by decide +kernel), List.mem_of_getElem? (i := 363) (by decide +kernel)⟩
theorem lw_p11 : lw_okq (⟨"DoorKeepsQuarrel", "findWaysTo", "(II)V"⟩, 9) := ⟨⟨by decide +kernel, by decide +kernel⟩, List.mem_of_getElem? (i := 10) (by decide +kernel), List.mem_of_getElem? (i := 370) (by decide +kernel), List.mem_of_getElem? (i := 371) (by decide +kernel)⟩
theorem lw_p12 : lw_okq (⟨"DoorKeepsQuarrel$Ways", "isCheaper", "(III)Z"⟩, 2) := ⟨⟨by decide +kernel, by decide +kernel⟩, List.mem_of_getElem? (i := 92) (by decide +kernel), List.mem_of_getElem? (i := 387) (by decide +kernel), List.mem_of_getElem? (i := 388) (by decide +kernel)⟩
theorem lw_p13 : lw_okq (⟨"DoorKeepsQuarrel$Ways", "priceThrough", "(II)I"⟩, 2) := ⟨⟨by decide +kernel, by decide +kernel⟩, List.mem_of_getElem? (i := 92) (by decide +kernel), List.mem_of_getElem? (i := 391) (by decide +kernel), List.mem_of_getElem? (i := 392) (by decide +kernel)⟩
theorem lw_p14 : lw_okq (⟨"DoorKeepsQuarrel$Ways", "priceFrom", "(I)I"⟩, 2) := ⟨⟨by decide +kernel, by decide +kernel⟩, List.mem_of_getElem? (i := 92) (by decide +kernel), List.mem_of_getElem? (i := 395) (by decide +kernel), List.mem_of_getElem? (i := 396) (by decide +kernel)⟩
theorem lw_p15 : lw_okq (⟨"DoorKeepsQuarrel", "notTogether", "(III)I"⟩, 9) := ⟨⟨by decide +kernel, by decide +kernel⟩, List.mem_of_getElem? (i := 10) (by decide +kernel), List.mem_of_getElem? (i := 458) (by decide +kernel), List.mem_of_getElem? (i := 459) (by decide +kernel)⟩
def lw_privs_1 : List (MethodName × Nat) := [(⟨"DoorKeepsQuarrel", "refuse", "(I)I"⟩, 9), (⟨"DoorKeepsQuarrel$Telling", "at", "(I)I"⟩, 2), (⟨"DoorKeepsQuarrel$Telling", "fits", "(III)Z"⟩, 2), (⟨"DoorKeepsQuarrel$Telling", "isDigit", "(I)Z"⟩, 2), (⟨"DoorKeepsQuarrel$Telling", "happens", "(LDoorKeepsQuarrel$House;I)Z"⟩, 2), (⟨"DoorKeepsQuarrel$Telling", "digit", "(I)I"⟩, 2), (⟨"DoorKeepsQuarrel$Telling", "twoDigits", "(I)I"⟩, 2), (⟨"DoorKeepsQuarrel", "cold", "()I"⟩, 9), (⟨"DoorKeepsQuarrel", "isColdAfter", "(I)Z"⟩, 9), (⟨"DoorKeepsQuarrel", "hottest", "()I"⟩, 9), (⟨"DoorKeepsQuarrel", "loudest", "()I"⟩, 9), (⟨"DoorKeepsQuarrel", "findWaysTo", "(II)V"⟩, 9), (⟨"DoorKeepsQuarrel$Ways", "isCheaper", "(III)Z"⟩, 2), (⟨"DoorKeepsQuarrel$Ways", "priceThrough", "(II)I"⟩, 2), (⟨"DoorKeepsQuarrel$Ways", "priceFrom", "(I)I"⟩, 2), (⟨"DoorKeepsQuarrel", "notTogether", "(III)I"⟩, 9)]
theorem lw_r1 : ∀ q ∈ lw_privs_1, lw_okq q := List.forall_mem_cons.mpr ⟨lw_p0, List.forall_mem_cons.mpr ⟨lw_p1, List.forall_mem_cons.mpr ⟨lw_p2, List.forall_mem_cons.mpr ⟨lw_p3, List.forall_mem_cons.mpr ⟨lw_p4, List.forall_mem_cons.mpr ⟨lw_p5, List.forall_mem_cons.mpr ⟨lw_p6, List.forall_mem_cons.mpr ⟨lw_p7, List.forall_mem_cons.mpr ⟨lw_p8, List.forall_mem_cons.mpr ⟨lw_p9, List.forall_mem_cons.mpr ⟨lw_p10, List.forall_mem_cons.mpr ⟨lw_p11, List.forall_mem_cons.mpr ⟨lw_p12, List.forall_mem_cons.mpr ⟨lw_p13, List.forall_mem_cons.mpr ⟨lw_p14, List.forall_mem_cons.mpr ⟨lw_p15, fun _ h => absurd h List.not_mem_nil⟩⟩⟩⟩⟩⟩⟩⟩⟩⟩⟩⟩⟩⟩⟩⟩
theorem lw_p16 : lw_okq (⟨"DoorKeepsQuarrel", "openBoth", "(III)V"⟩, 9) := ⟨⟨by decide +kernel, by decide +kernel⟩, List.mem_of_getElem? (i := 10) (by decide +kernel), List.mem_of_getElem? (i := 462) (by decide +kernel), List.mem_of_getElem? (i := 463) (by decide +kernel)⟩
theorem lw_p17 : lw_okq (⟨"DoorKeepsQuarrel", "firstIsContent", "(III)Z"⟩, 9) := ⟨⟨by decide +kernel, by decide +kernel⟩, List.mem_of_getElem? (i := 10) (by decide +kernel), List.mem_of_getElem? (i := 476) (by decide +kernel), List.mem_of_getElem? (i := 477) (by decide +kernel)⟩
theorem lw_p18 : lw_okq (⟨"DoorKeepsQuarrel", "wishOfFirst", "(III)I"⟩, 9) := ⟨⟨by decide +kernel, by decide +kernel⟩, List.mem_of_getElem? (i := 10) (by decide +kernel), List.mem_of_getElem? (i := 480) (by decide +kernel), List.mem_of_getElem? (i := 481) (by decide +kernel)⟩
theorem lw_p19 : lw_okq (⟨"DoorKeepsQuarrel", "secondIsContent", "(IIIII)Z"⟩, 9) := ⟨⟨by decide +kernel, by decide +kernel⟩, List.mem_of_getElem? (i := 10) (by decide +kernel), List.mem_of_getElem? (i := 484) (by decide +kernel), List.mem_of_getElem? (i := 485) (by decide +kernel)⟩
theorem lw_p20 : lw_okq (⟨"DoorKeepsQuarrel", "wishOfSecond", "(IIIII)I"⟩, 9) := ⟨⟨by decide +kernel, by decide +kernel⟩, List.mem_of_getElem? (i := 10) (by decide +kernel), List.mem_of_getElem? (i := 488) (by decide +kernel), List.mem_of_getElem? (i := 489) (by decide +kernel)⟩
theorem lw_p21 : lw_okq (⟨"DoorKeepsQuarrel", "mostHeard", "()I"⟩, 9) := ⟨⟨by decide +kernel, by decide +kernel⟩, List.mem_of_getElem? (i := 10) (by decide +kernel), List.mem_of_getElem? (i := 504) (by decide +kernel), List.mem_of_getElem? (i := 505) (by decide +kernel)⟩
theorem lw_p22 : lw_okq (⟨"DoorKeepsQuarrel", "worst", "()I"⟩, 9) := ⟨⟨by decide +kernel, by decide +kernel⟩, List.mem_of_getElem? (i := 10) (by decide +kernel), List.mem_of_getElem? (i := 514) (by decide +kernel), List.mem_of_getElem? (i := 515) (by decide +kernel)⟩
theorem lw_p23 : lw_okq (⟨"DoorKeepsQuarrel", "givenToAll", "(I)I"⟩, 9) := ⟨⟨by decide +kernel, by decide +kernel⟩, List.mem_of_getElem? (i := 10) (by decide +kernel), List.mem_of_getElem? (i := 522) (by decide +kernel), List.mem_of_getElem? (i := 523) (by decide +kernel)⟩
theorem lw_p24 : lw_okq (⟨"DoorKeepsQuarrel", "refuseLong", "(I)J"⟩, 9) := ⟨⟨by decide +kernel, by decide +kernel⟩, List.mem_of_getElem? (i := 10) (by decide +kernel), List.mem_of_getElem? (i := 530) (by decide +kernel), List.mem_of_getElem? (i := 531) (by decide +kernel)⟩
theorem lw_p25 : lw_okq (⟨"DoorKeepsQuarrel", "givenBehind", "(III)I"⟩, 9) := ⟨⟨by decide +kernel, by decide +kernel⟩, List.mem_of_getElem? (i := 10) (by decide +kernel), List.mem_of_getElem? (i := 538) (by decide +kernel), List.mem_of_getElem? (i := 539) (by decide +kernel)⟩
theorem lw_p26 : lw_okq (⟨"DoorKeepsQuarrel", "rowTells", "(III)Z"⟩, 9) := ⟨⟨by decide +kernel, by decide +kernel⟩, List.mem_of_getElem? (i := 10) (by decide +kernel), List.mem_of_getElem? (i := 569) (by decide +kernel), List.mem_of_getElem? (i := 570) (by decide +kernel)⟩
theorem lw_p27 : lw_okq (⟨"DoorKeepsQuarrel", "kindsTold", "(II)I"⟩, 9) := ⟨⟨by decide +kernel, by decide +kernel⟩, List.mem_of_getElem? (i := 10) (by decide +kernel), List.mem_of_getElem? (i := 577) (by decide +kernel), List.mem_of_getElem? (i := 578) (by decide +kernel)⟩
theorem lw_p28 : lw_okq (⟨"DoorKeepsQuarrel", "figuresTold", "(II)I"⟩, 9) := ⟨⟨by decide +kernel, by decide +kernel⟩, List.mem_of_getElem? (i := 10) (by decide +kernel), List.mem_of_getElem? (i := 581) (by decide +kernel), List.mem_of_getElem? (i := 582) (by decide +kernel)⟩
theorem lw_p29 : lw_okq (⟨"DoorKeepsQuarrel", "dayByLot", "(I)I"⟩, 9) := ⟨⟨by decide +kernel, by decide +kernel⟩, List.mem_of_getElem? (i := 10) (by decide +kernel), List.mem_of_getElem? (i := 589) (by decide +kernel), List.mem_of_getElem? (i := 590) (by decide +kernel)⟩
theorem lw_p30 : lw_okq (⟨"DoorKeepsQuarrel", "refusalsCounted", "(I)I"⟩, 9) := ⟨⟨by decide +kernel, by decide +kernel⟩, List.mem_of_getElem? (i := 10) (by decide +kernel), List.mem_of_getElem? (i := 618) (by decide +kernel), List.mem_of_getElem? (i := 619) (by decide +kernel)⟩
theorem lw_p31 : lw_okq (⟨"DoorKeepsQuarrelModel", "no", "(I)I"⟩, 14) := ⟨⟨by decide +kernel, by decide +kernel⟩, List.mem_of_getElem? (i := 622) (by decide +kernel), List.mem_of_getElem? (i := 675) (by decide +kernel), List.mem_of_getElem? (i := 676) (by decide +kernel)⟩
def lw_privs_2 : List (MethodName × Nat) := [(⟨"DoorKeepsQuarrel", "openBoth", "(III)V"⟩, 9), (⟨"DoorKeepsQuarrel", "firstIsContent", "(III)Z"⟩, 9), (⟨"DoorKeepsQuarrel", "wishOfFirst", "(III)I"⟩, 9), (⟨"DoorKeepsQuarrel", "secondIsContent", "(IIIII)Z"⟩, 9), (⟨"DoorKeepsQuarrel", "wishOfSecond", "(IIIII)I"⟩, 9), (⟨"DoorKeepsQuarrel", "mostHeard", "()I"⟩, 9), (⟨"DoorKeepsQuarrel", "worst", "()I"⟩, 9), (⟨"DoorKeepsQuarrel", "givenToAll", "(I)I"⟩, 9), (⟨"DoorKeepsQuarrel", "refuseLong", "(I)J"⟩, 9), (⟨"DoorKeepsQuarrel", "givenBehind", "(III)I"⟩, 9), (⟨"DoorKeepsQuarrel", "rowTells", "(III)Z"⟩, 9), (⟨"DoorKeepsQuarrel", "kindsTold", "(II)I"⟩, 9), (⟨"DoorKeepsQuarrel", "figuresTold", "(II)I"⟩, 9), (⟨"DoorKeepsQuarrel", "dayByLot", "(I)I"⟩, 9), (⟨"DoorKeepsQuarrel", "refusalsCounted", "(I)I"⟩, 9), (⟨"DoorKeepsQuarrelModel", "no", "(I)I"⟩, 14)]
theorem lw_r2 : ∀ q ∈ lw_privs_2, lw_okq q := List.forall_mem_cons.mpr ⟨lw_p16, List.forall_mem_cons.mpr ⟨lw_p17, List.forall_mem_cons.mpr ⟨lw_p18, List.forall_mem_cons.mpr ⟨lw_p19, List.forall_mem_cons.mpr ⟨lw_p20, List.forall_mem_cons.mpr ⟨lw_p21, List.forall_mem_cons.mpr ⟨lw_p22, List.forall_mem_cons.mpr ⟨lw_p23, List.forall_mem_cons.mpr ⟨lw_p24, List.forall_mem_cons.mpr ⟨lw_p25, List.forall_mem_cons.mpr ⟨lw_p26, List.forall_mem_cons.mpr ⟨lw_p27, List.forall_mem_cons.mpr ⟨lw_p28, List.forall_mem_cons.mpr ⟨lw_p29, List.forall_mem_cons.mpr ⟨lw_p30, List.forall_mem_cons.mpr ⟨lw_p31, fun _ h => absurd h List.not_mem_nil⟩⟩⟩⟩⟩⟩⟩⟩⟩⟩⟩⟩⟩⟩⟩⟩
theorem lw_p32 : lw_okq (⟨"DoorKeepsQuarrelModel", "readsStatement", "()Z"⟩, 14) := ⟨⟨by decide +kernel, by decide +kernel⟩, List.mem_of_getElem? (i := 622) (by decide +kernel), List.mem_of_getElem? (i := 683) (by decide +kernel), List.mem_of_getElem? (i := 684) (by decide +kernel)⟩
theorem lw_p33 : lw_okq (⟨"DoorKeepsQuarrelModel", "here", "()I"⟩, 14) := ⟨⟨by decide +kernel, by decide +kernel⟩, List.mem_of_getElem? (i := 622) (by decide +kernel), List.mem_of_getElem? (i := 687) (by decide +kernel), List.mem_of_getElem? (i := 688) (by decide +kernel)⟩
theorem lw_p34 : lw_okq (⟨"DoorKeepsQuarrelModel", "readsKind", "()Z"⟩, 14) := ⟨⟨by decide +kernel, by decide +kernel⟩, List.mem_of_getElem? (i := 622) (by decide +kernel), List.mem_of_getElem? (i := 691) (by decide +kernel), List.mem_of_getElem? (i := 692) (by decide +kernel)⟩
theorem lw_p35 : lw_okq (⟨"DoorKeepsQuarrelModel", "readsNumber", "(II)Z"⟩, 14) := ⟨⟨by decide +kernel, by decide +kernel⟩, List.mem_of_getElem? (i := 622) (by decide +kernel), List.mem_of_getElem? (i := 698) (by decide +kernel), List.mem_of_getElem? (i := 699) (by decide +kernel)⟩
theorem lw_p36 : lw_okq (⟨"DoorKeepsQuarrelModel", "isDone", "(I)Z"⟩, 14) := ⟨⟨by decide +kernel, by decide +kernel⟩, List.mem_of_getElem? (i := 622) (by decide +kernel), List.mem_of_getElem? (i := 708) (by decide +kernel), List.mem_of_getElem? (i := 709) (by decide +kernel)⟩
theorem lw_p37 : lw_okq (⟨"DoorKeepsQuarrelModel", "addsDoor", "(IIII)Z"⟩, 14) := ⟨⟨by decide +kernel, by decide +kernel⟩, List.mem_of_getElem? (i := 622) (by decide +kernel), List.mem_of_getElem? (i := 712) (by decide +kernel), List.mem_of_getElem? (i := 713) (by decide +kernel)⟩
theorem lw_p38 : lw_okq (⟨"DoorKeepsQuarrelModel", "isPerson", "(I)Z"⟩, 14) := ⟨⟨by decide +kernel, by decide +kernel⟩, List.mem_of_getElem? (i := 622) (by decide +kernel), List.mem_of_getElem? (i := 725) (by decide +kernel), List.mem_of_getElem? (i := 726) (by decide +kernel)⟩
theorem lw_p39 : lw_okq (⟨"DoorKeepsQuarrelModel", "isDoor", "(I)Z"⟩, 14) := ⟨⟨by decide +kernel, by decide +kernel⟩, List.mem_of_getElem? (i := 622) (by decide +kernel), List.mem_of_getElem? (i := 729) (by decide +kernel), List.mem_of_getElem? (i := 730) (by decide +kernel)⟩
theorem lw_p40 : lw_okq (⟨"DoorKeepsQuarrelModel", "takes", "(I)V"⟩, 14) := ⟨⟨by decide +kernel, by decide +kernel⟩, List.mem_of_getElem? (i := 622) (by decide +kernel), List.mem_of_getElem? (i := 815) (by decide +kernel), List.mem_of_getElem? (i := 816) (by decide +kernel)⟩
theorem lw_p41 : lw_okq (⟨"DoorKeepsQuarrelModel", "cold", "()I"⟩, 14) := ⟨⟨by decide +kernel, by decide +kernel⟩, List.mem_of_getElem? (i := 622) (by decide +kernel), List.mem_of_getElem? (i := 827) (by decide +kernel), List.mem_of_getElem? (i := 828) (by decide +kernel)⟩
theorem lw_p42 : lw_okq (⟨"DoorKeepsQuarrelModel", "hottest", "()I"⟩, 14) := ⟨⟨by decide +kernel, by decide +kernel⟩, List.mem_of_getElem? (i := 622) (by decide +kernel), List.mem_of_getElem? (i := 831) (by decide +kernel), List.mem_of_getElem? (i := 832) (by decide +kernel)⟩
theorem lw_p43 : lw_okq (⟨"DoorKeepsQuarrelModel", "loudest", "()I"⟩, 14) := ⟨⟨by decide +kernel, by decide +kernel⟩, List.mem_of_getElem? (i := 622) (by decide +kernel), List.mem_of_getElem? (i := 835) (by decide +kernel), List.mem_of_getElem? (i := 836) (by decide +kernel)⟩
theorem lw_p44 : lw_okq (⟨"DoorKeepsQuarrelModel", "areWrong", "(II)Z"⟩, 14) := ⟨⟨by decide +kernel, by decide +kernel⟩, List.mem_of_getElem? (i := 622) (by decide +kernel), List.mem_of_getElem? (i := 843) (by decide +kernel), List.mem_of_getElem? (i := 844) (by decide +kernel)⟩
theorem lw_p45 : lw_okq (⟨"DoorKeepsQuarrelModel", "tolls", "([III)V"⟩, 14) := ⟨⟨by decide +kernel, by decide +kernel⟩, List.mem_of_getElem? (i := 622) (by decide +kernel), List.mem_of_getElem? (i := 847) (by decide +kernel), List.mem_of_getElem? (i := 848) (by decide +kernel)⟩
theorem lw_p46 : lw_okq (⟨"DoorKeepsQuarrelModel", "fewestFrom", "(II)I"⟩, 14) := ⟨⟨by decide +kernel, by decide +kernel⟩, List.mem_of_getElem? (i := 622) (by decide +kernel), List.mem_of_getElem? (i := 862) (by decide +kernel), List.mem_of_getElem? (i := 863) (by decide +kernel)⟩
theorem lw_p47 : lw_okq (⟨"DoorKeepsQuarrelModel", "givenBy", "([IIII)I"⟩, 14) := ⟨⟨by decide +kernel, by decide +kernel⟩, List.mem_of_getElem? (i := 622) (by decide +kernel), List.mem_of_getElem? (i := 885) (by decide +kernel), List.mem_of_getElem? (i := 886) (by decide +kernel)⟩
def lw_privs_3 : List (MethodName × Nat) := [(⟨"DoorKeepsQuarrelModel", "readsStatement", "()Z"⟩, 14), (⟨"DoorKeepsQuarrelModel", "here", "()I"⟩, 14), (⟨"DoorKeepsQuarrelModel", "readsKind", "()Z"⟩, 14), (⟨"DoorKeepsQuarrelModel", "readsNumber", "(II)Z"⟩, 14), (⟨"DoorKeepsQuarrelModel", "isDone", "(I)Z"⟩, 14), (⟨"DoorKeepsQuarrelModel", "addsDoor", "(IIII)Z"⟩, 14), (⟨"DoorKeepsQuarrelModel", "isPerson", "(I)Z"⟩, 14), (⟨"DoorKeepsQuarrelModel", "isDoor", "(I)Z"⟩, 14), (⟨"DoorKeepsQuarrelModel", "takes", "(I)V"⟩, 14), (⟨"DoorKeepsQuarrelModel", "cold", "()I"⟩, 14), (⟨"DoorKeepsQuarrelModel", "hottest", "()I"⟩, 14), (⟨"DoorKeepsQuarrelModel", "loudest", "()I"⟩, 14), (⟨"DoorKeepsQuarrelModel", "areWrong", "(II)Z"⟩, 14), (⟨"DoorKeepsQuarrelModel", "tolls", "([III)V"⟩, 14), (⟨"DoorKeepsQuarrelModel", "fewestFrom", "(II)I"⟩, 14), (⟨"DoorKeepsQuarrelModel", "givenBy", "([IIII)I"⟩, 14)]
theorem lw_r3 : ∀ q ∈ lw_privs_3, lw_okq q := List.forall_mem_cons.mpr ⟨lw_p32, List.forall_mem_cons.mpr ⟨lw_p33, List.forall_mem_cons.mpr ⟨lw_p34, List.forall_mem_cons.mpr ⟨lw_p35, List.forall_mem_cons.mpr ⟨lw_p36, List.forall_mem_cons.mpr ⟨lw_p37, List.forall_mem_cons.mpr ⟨lw_p38, List.forall_mem_cons.mpr ⟨lw_p39, List.forall_mem_cons.mpr ⟨lw_p40, List.forall_mem_cons.mpr ⟨lw_p41, List.forall_mem_cons.mpr ⟨lw_p42, List.forall_mem_cons.mpr ⟨lw_p43, List.forall_mem_cons.mpr ⟨lw_p44, List.forall_mem_cons.mpr ⟨lw_p45, List.forall_mem_cons.mpr ⟨lw_p46, List.forall_mem_cons.mpr ⟨lw_p47, fun _ h => absurd h List.not_mem_nil⟩⟩⟩⟩⟩⟩⟩⟩⟩⟩⟩⟩⟩⟩⟩⟩
theorem lw_p48 : lw_okq (⟨"DoorKeepsQuarrelModel", "wrongTwo", "(III)I"⟩, 14) := ⟨⟨by decide +kernel, by decide +kernel⟩, List.mem_of_getElem? (i := 622) (by decide +kernel), List.mem_of_getElem? (i := 905) (by decide +kernel), List.mem_of_getElem? (i := 906) (by decide +kernel)⟩
theorem lw_p49 : lw_okq (⟨"DoorKeepsQuarrelModel", "bothBy", "(III)I"⟩, 14) := ⟨⟨by decide +kernel, by decide +kernel⟩, List.mem_of_getElem? (i := 622) (by decide +kernel), List.mem_of_getElem? (i := 909) (by decide +kernel), List.mem_of_getElem? (i := 910) (by decide +kernel)⟩
theorem lw_p50 : lw_okq (⟨"DoorKeepsQuarrelModel", "opensBoth", "(IIIII)V"⟩, 14) := ⟨⟨by decide +kernel, by decide +kernel⟩, List.mem_of_getElem? (i := 622) (by decide +kernel), List.mem_of_getElem? (i := 913) (by decide +kernel), List.mem_of_getElem? (i := 914) (by decide +kernel)⟩
theorem lw_p51 : lw_okq (⟨"DoorKeepsQuarrelModel", "noFar", "(I)I"⟩, 14) := ⟨⟨by decide +kernel, by decide +kernel⟩, List.mem_of_getElem? (i := 622) (by decide +kernel), List.mem_of_getElem? (i := 921) (by decide +kernel), List.mem_of_getElem? (i := 922) (by decide +kernel)⟩
theorem lw_p52 : lw_okq (⟨"DoorKeepsQuarrelModel", "withVoice", "(I)I"⟩, 14) := ⟨⟨by decide +kernel, by decide +kernel⟩, List.mem_of_getElem? (i := 622) (by decide +kernel), List.mem_of_getElem? (i := 929) (by decide +kernel), List.mem_of_getElem? (i := 930) (by decide +kernel)⟩
theorem lw_p53 : lw_okq (⟨"DoorKeepsQuarrelModel", "mostHeard", "()I"⟩, 14) := ⟨⟨by decide +kernel, by decide +kernel⟩, List.mem_of_getElem? (i := 622) (by decide +kernel), List.mem_of_getElem? (i := 937) (by decide +kernel), List.mem_of_getElem? (i := 938) (by decide +kernel)⟩
theorem lw_p54 : lw_okq (⟨"DoorKeepsQuarrelModel", "worst", "()I"⟩, 14) := ⟨⟨by decide +kernel, by decide +kernel⟩, List.mem_of_getElem? (i := 622) (by decide +kernel), List.mem_of_getElem? (i := 944) (by decide +kernel), List.mem_of_getElem? (i := 945) (by decide +kernel)⟩
theorem lw_p55 : lw_okq (⟨"DoorKeepsQuarrelModel", "moodBy", "(IIIIII)I"⟩, 14) := ⟨⟨by decide +kernel, by decide +kernel⟩, List.mem_of_getElem? (i := 622) (by decide +kernel), List.mem_of_getElem? (i := 956) (by decide +kernel), List.mem_of_getElem? (i := 957) (by decide +kernel)⟩
theorem lw_p56 : lw_okq (⟨"DoorKeepsQuarrelModel", "noWide", "(I)J"⟩, 14) := ⟨⟨by decide +kernel, by decide +kernel⟩, List.mem_of_getElem? (i := 622) (by decide +kernel), List.mem_of_getElem? (i := 964) (by decide +kernel), List.mem_of_getElem? (i := 965) (by decide +kernel)⟩
theorem lw_p57 : lw_okq (⟨"DoorKeepsQuarrelModel", "isHeatSo", "(I)Z"⟩, 14) := ⟨⟨by decide +kernel, by decide +kernel⟩, List.mem_of_getElem? (i := 622) (by decide +kernel), List.mem_of_getElem? (i := 983) (by decide +kernel), List.mem_of_getElem? (i := 984) (by decide +kernel)⟩
theorem lw_p58 : lw_okq (⟨"DoorKeepsQuarrelModel", "drawn", "(I)I"⟩, 14) := ⟨⟨by decide +kernel, by decide +kernel⟩, List.mem_of_getElem? (i := 622) (by decide +kernel), List.mem_of_getElem? (i := 1007) (by decide +kernel), List.mem_of_getElem? (i := 1008) (by decide +kernel)⟩
def lw_privs_4 : List (MethodName × Nat) := [(⟨"DoorKeepsQuarrelModel", "wrongTwo", "(III)I"⟩, 14), (⟨"DoorKeepsQuarrelModel", "bothBy", "(III)I"⟩, 14), (⟨"DoorKeepsQuarrelModel", "opensBoth", "(IIIII)V"⟩, 14), (⟨"DoorKeepsQuarrelModel", "noFar", "(I)I"⟩, 14), (⟨"DoorKeepsQuarrelModel", "withVoice", "(I)I"⟩, 14), (⟨"DoorKeepsQuarrelModel", "mostHeard", "()I"⟩, 14), (⟨"DoorKeepsQuarrelModel", "worst", "()I"⟩, 14), (⟨"DoorKeepsQuarrelModel", "moodBy", "(IIIIII)I"⟩, 14), (⟨"DoorKeepsQuarrelModel", "noWide", "(I)J"⟩, 14), (⟨"DoorKeepsQuarrelModel", "isHeatSo", "(I)Z"⟩, 14), (⟨"DoorKeepsQuarrelModel", "drawn", "(I)I"⟩, 14)]
theorem lw_r4 : ∀ q ∈ lw_privs_4, lw_okq q := List.forall_mem_cons.mpr ⟨lw_p48, List.forall_mem_cons.mpr ⟨lw_p49, List.forall_mem_cons.mpr ⟨lw_p50, List.forall_mem_cons.mpr ⟨lw_p51, List.forall_mem_cons.mpr ⟨lw_p52, List.forall_mem_cons.mpr ⟨lw_p53, List.forall_mem_cons.mpr ⟨lw_p54, List.forall_mem_cons.mpr ⟨lw_p55, List.forall_mem_cons.mpr ⟨lw_p56, List.forall_mem_cons.mpr ⟨lw_p57, List.forall_mem_cons.mpr ⟨lw_p58, fun _ h => absurd h List.not_mem_nil⟩⟩⟩⟩⟩⟩⟩⟩⟩⟩⟩
def lw_privs : List (MethodName × Nat) := lw_privs_1 ++ (lw_privs_2 ++ (lw_privs_3 ++ (lw_privs_4)))
def lw_tbl : List Cond := k2_sels lw_privs ++ tables_1
theorem lw_privs_ok : ∀ q ∈ lw_privs, lw_okq q := by
  show ∀ q ∈ lw_privs_1 ++ (lw_privs_2 ++ (lw_privs_3 ++ (lw_privs_4))), lw_okq q
  exact List.forall_mem_append.mpr ⟨lw_r1, List.forall_mem_append.mpr ⟨lw_r2, List.forall_mem_append.mpr ⟨lw_r3, lw_r4⟩⟩⟩

def RX0 : String := "DoorKeepsQuarrel$House"
def RX1 : String := "DoorKeepsQuarrel$Kinds"
def RX2 : String := "DoorKeepsQuarrel$Telling"
def RX3 : String := "DoorKeepsQuarrel$Ways"
def RX4 : String := "DoorKeepsQuarrel"
def RX5 : String := "DoorKeepsQuarrelModel"
def RJ6 : String := "java/lang/Integer"
def RJ9 : String := "java/lang/Math"
def RL : String := "DoorKeepsQuarrelLaw"
def TX0 : u_T := fun k => match k with
  | 0 => ("DoorKeepsQuarrel$House", "doors", "I", false)
  | 1 => ("DoorKeepsQuarrel$House", "kind", "[I", true)
  | 2 => ("DoorKeepsQuarrel$House", "figure", "[I", true)
  | 3 => ("DoorKeepsQuarrel$House", "oneRoom", "[I", true)
  | 4 => ("DoorKeepsQuarrel$House", "otherRoom", "[I", true)
  | 5 => ("DoorKeepsQuarrel$House", "heat", "[I", true)
  | 6 => ("DoorKeepsQuarrel$House", "voice", "[I", true)
  | 7 => ("DoorKeepsQuarrel$House", "people", "I", false)
  | 8 => ("DoorKeepsQuarrel$House", "temper", "[I", true)
  | 9 => ("DoorKeepsQuarrel$House", "place", "[I", true)
  | 10 => ("DoorKeepsQuarrel$House", "mood", "[I", true)
  | _ => ("DoorKeepsQuarrel$House", "hour", "I", false)
def tyX0 : Nat → FieldType := fun k => match k with
  | 0 => .int
  | 1 => .array .int
  | 2 => .array .int
  | 3 => .array .int
  | 4 => .array .int
  | 5 => .array .int
  | 6 => .array .int
  | 7 => .int
  | 8 => .array .int
  | 9 => .array .int
  | 10 => .array .int
  | _ => .int
theorem nmX0 : ∀ a, a < 12 → ∀ b, b < 12 → a ≠ b → (TX0 a).2.1 ≠ (TX0 b).2.1 := by decide +kernel
theorem tyX0_ok : ∀ k, k < 12 → parseFieldDescriptor (TX0 k).2.2.1 = some (tyX0 k) := by decide +kernel
def TX2 : u_T := fun k => match k with
  | 0 => ("DoorKeepsQuarrel$Telling", "letters", "[I", true)
  | _ => ("DoorKeepsQuarrel$Telling", "size", "I", false)
def tyX2 : Nat → FieldType := fun k => match k with
  | 0 => .array .int
  | _ => .int
theorem nmX2 : ∀ a, a < 2 → ∀ b, b < 2 → a ≠ b → (TX2 a).2.1 ≠ (TX2 b).2.1 := by decide +kernel
theorem tyX2_ok : ∀ k, k < 2 → parseFieldDescriptor (TX2 k).2.2.1 = some (tyX2 k) := by decide +kernel
def TX3 : u_T := fun k => match k with
  | 0 => ("DoorKeepsQuarrel$Ways", "toll", "[I", true)
  | _ => ("DoorKeepsQuarrel$Ways", "price", "[I", true)
def tyX3 : Nat → FieldType := fun k => match k with
  | 0 => .array .int
  | _ => .array .int
theorem nmX3 : ∀ a, a < 2 → ∀ b, b < 2 → a ≠ b → (TX3 a).2.1 ≠ (TX3 b).2.1 := by decide +kernel
theorem tyX3_ok : ∀ k, k < 2 → parseFieldDescriptor (TX3 k).2.2.1 = some (tyX3 k) := by decide +kernel
def TX4 : u_T := fun k => match k with
  | 0 => ("DoorKeepsQuarrel", "now", "LDoorKeepsQuarrel$House;", true)
  | 1 => ("DoorKeepsQuarrel", "thought", "LDoorKeepsQuarrel$House;", true)
  | 2 => ("DoorKeepsQuarrel", "kept", "LDoorKeepsQuarrel$House;", true)
  | 3 => ("DoorKeepsQuarrel", "hasImage", "Z", false)
  | 4 => ("DoorKeepsQuarrel", "telling", "LDoorKeepsQuarrel$Telling;", true)
  | 5 => ("DoorKeepsQuarrel", "ways", "LDoorKeepsQuarrel$Ways;", true)
  | 6 => ("DoorKeepsQuarrel", "numbers", "[I", true)
  | 7 => ("DoorKeepsQuarrel", "rowSize", "I", false)
  | _ => ("DoorKeepsQuarrel", "refusals", "[I", true)
def tyX4 : Nat → FieldType := fun k => match k with
  | 0 => .object "DoorKeepsQuarrel$House"
  | 1 => .object "DoorKeepsQuarrel$House"
  | 2 => .object "DoorKeepsQuarrel$House"
  | 3 => .boolean
  | 4 => .object "DoorKeepsQuarrel$Telling"
  | 5 => .object "DoorKeepsQuarrel$Ways"
  | 6 => .array .int
  | 7 => .int
  | _ => .array .int
theorem nmX4 : ∀ a, a < 9 → ∀ b, b < 9 → a ≠ b → (TX4 a).2.1 ≠ (TX4 b).2.1 := by decide +kernel
theorem tyX4_ok : ∀ k, k < 9 → parseFieldDescriptor (TX4 k).2.2.1 = some (tyX4 k) := by decide +kernel
def TX5 : u_T := fun k => match k with
  | 0 => ("DoorKeepsQuarrelModel", "s", "[I", true)
  | 1 => ("DoorKeepsQuarrelModel", "m", "[I", true)
  | 2 => ("DoorKeepsQuarrelModel", "image", "[I", true)
  | 3 => ("DoorKeepsQuarrelModel", "was", "[I", true)
  | 4 => ("DoorKeepsQuarrelModel", "hasImage", "Z", false)
  | 5 => ("DoorKeepsQuarrelModel", "letters", "[I", true)
  | 6 => ("DoorKeepsQuarrelModel", "row", "[I", true)
  | 7 => ("DoorKeepsQuarrelModel", "refused", "[I", true)
  | 8 => ("DoorKeepsQuarrelModel", "letterMany", "I", false)
  | 9 => ("DoorKeepsQuarrelModel", "rowMany", "I", false)
  | 10 => ("DoorKeepsQuarrelModel", "place", "I", false)
  | 11 => ("DoorKeepsQuarrelModel", "numbers", "[I", true)
  | 12 => ("DoorKeepsQuarrelModel", "toll", "[I", true)
  | _ => ("DoorKeepsQuarrelModel", "seed", "I", false)
def tyX5 : Nat → FieldType := fun k => match k with
  | 0 => .array .int
  | 1 => .array .int
  | 2 => .array .int
  | 3 => .array .int
  | 4 => .boolean
  | 5 => .array .int
  | 6 => .array .int
  | 7 => .array .int
  | 8 => .int
  | 9 => .int
  | 10 => .int
  | 11 => .array .int
  | 12 => .array .int
  | _ => .int
theorem nmX5 : ∀ a, a < 14 → ∀ b, b < 14 → a ≠ b → (TX5 a).2.1 ≠ (TX5 b).2.1 := by decide +kernel
theorem tyX5_ok : ∀ k, k < 14 → parseFieldDescriptor (TX5 k).2.2.1 = some (tyX5 k) := by decide +kernel
abbrev vwCl : List vw_C := [(RX0, TX0, 12), (RX2, TX2, 2), (RX3, TX3, 2), (RX4, TX4, 9), (RX5, TX5, 14)]
abbrev cX0_init : ByteArray := prog_2_method_1_code
abbrev cX0_copyFrom : ByteArray := prog_2_method_2_code
abbrev cX0_hasDoor : ByteArray := prog_2_method_3_code
abbrev cX0_hasPerson : ByteArray := prog_2_method_4_code
abbrev cX0_addDoor : ByteArray := prog_2_method_5_code
abbrev cX0_addPerson : ByteArray := prog_2_method_6_code
abbrev cX0_leadsFrom : ByteArray := prog_2_method_7_code
abbrev cX0_beyond : ByteArray := prog_2_method_8_code
abbrev cX0_canOpen : ByteArray := prog_2_method_9_code
abbrev cX0_given : ByteArray := prog_2_method_10_code
abbrev cX0_givenAfter : ByteArray := prog_2_method_11_code
abbrev cX0_said : ByteArray := prog_2_method_12_code
abbrev cX0_open : ByteArray := prog_2_method_13_code
abbrev cX0_fill : ByteArray := prog_2_method_14_code
abbrev cX0_heatAfter : ByteArray := prog_2_method_15_code
abbrev cX0_moodAfter : ByteArray := prog_2_method_16_code
abbrev cX0_pass : ByteArray := prog_2_method_17_code
abbrev cX0_allHeat : ByteArray := prog_2_method_18_code
abbrev cX0_allMood : ByteArray := prog_2_method_19_code
abbrev cX0_doorsOfVoice : ByteArray := prog_2_method_20_code
abbrev cX1_gives : ByteArray := prog_3_method_2_code
abbrev cX1_slammedGives : ByteArray := prog_3_method_3_code
abbrev cX1_keeps : ByteArray := prog_3_method_4_code
abbrev cX1_cooled : ByteArray := prog_3_method_5_code
abbrev cX1_coolsBy : ByteArray := prog_3_method_6_code
abbrev cX1_ofLetter : ByteArray := prog_3_method_7_code
abbrev cX2_init : ByteArray := prog_4_method_1_code
abbrev cX2_add : ByteArray := prog_4_method_2_code
abbrev cX2_at : ByteArray := prog_4_method_3_code
abbrev cX2_isDigit : ByteArray := prog_4_method_4_code
abbrev cX2_digit : ByteArray := prog_4_method_5_code
abbrev cX2_twoDigits : ByteArray := prog_4_method_6_code
abbrev cX2_lengthOf : ByteArray := prog_4_method_7_code
abbrev cX2_misspelling : ByteArray := prog_4_method_8_code
abbrev cX2_fits : ByteArray := prog_4_method_9_code
abbrev cX2_carryOut : ByteArray := prog_4_method_10_code
abbrev cX2_happens : ByteArray := prog_4_method_11_code
abbrev cX2_isOpened : ByteArray := prog_4_method_12_code
abbrev cX2_isFilled : ByteArray := prog_4_method_13_code
abbrev cX2_isAired : ByteArray := prog_4_method_14_code
abbrev cX2_goBy : ByteArray := prog_4_method_15_code
abbrev cX3_init : ByteArray := prog_5_method_1_code
abbrev cX3_tollNothing : ByteArray := prog_5_method_2_code
abbrev cX3_tollAfter : ByteArray := prog_5_method_3_code
abbrev cX3_setToll : ByteArray := prog_5_method_4_code
abbrev cX3_leadTo : ByteArray := prog_5_method_5_code
abbrev cX3_isCheaper : ByteArray := prog_5_method_6_code
abbrev cX3_priceThrough : ByteArray := prog_5_method_7_code
abbrev cX3_priceFrom : ByteArray := prog_5_method_8_code
abbrev cX3_givenFrom : ByteArray := prog_5_method_9_code
abbrev cX3_doorsFrom : ByteArray := prog_5_method_10_code
abbrev cX3_doorFrom : ByteArray := prog_5_method_11_code
abbrev cX4_init : ByteArray := prog_1_method_1_code
abbrev cX4_letter : ByteArray := prog_1_method_2_code
abbrev cX4_house : ByteArray := prog_1_method_3_code
abbrev cX4_door : ByteArray := prog_1_method_4_code
abbrev cX4_person : ByteArray := prog_1_method_5_code
abbrev cX4_opens : ByteArray := prog_1_method_6_code
abbrev cX4_quarrels : ByteArray := prog_1_method_7_code
abbrev cX4_airs : ByteArray := prog_1_method_8_code
abbrev cX4_moods : ByteArray := prog_1_method_9_code
abbrev cX4_stands : ByteArray := prog_1_method_10_code
abbrev cX4_turn : ByteArray := prog_1_method_11_code
abbrev cX4_hours : ByteArray := prog_1_method_12_code
abbrev cX4_doorThen : ByteArray := prog_1_method_13_code
abbrev cX4_moodThen : ByteArray := prog_1_method_14_code
abbrev cX4_first : ByteArray := prog_1_method_15_code
abbrev cX4_cold : ByteArray := prog_1_method_16_code
abbrev cX4_isColdAfter : ByteArray := prog_1_method_17_code
abbrev cX4_hottest : ByteArray := prog_1_method_18_code
abbrev cX4_loudest : ByteArray := prog_1_method_19_code
abbrev cX4_way : ByteArray := prog_1_method_20_code
abbrev cX4_fewest : ByteArray := prog_1_method_21_code
abbrev cX4_near : ByteArray := prog_1_method_22_code
abbrev cX4_cutOff : ByteArray := prog_1_method_23_code
abbrev cX4_goes : ByteArray := prog_1_method_24_code
abbrev cX4_air : ByteArray := prog_1_method_25_code
abbrev cX4_shut : ByteArray := prog_1_method_26_code
abbrev cX4_pause : ByteArray := prog_1_method_27_code
abbrev cX4_findWaysTo : ByteArray := prog_1_method_28_code
abbrev cX4_walk : ByteArray := prog_1_method_29_code
abbrev cX4_order : ByteArray := prog_1_method_30_code
abbrev cX4_echo : ByteArray := prog_1_method_31_code
abbrev cX4_notTogether : ByteArray := prog_1_method_32_code
abbrev cX4_openBoth : ByteArray := prog_1_method_33_code
abbrev cX4_two : ByteArray := prog_1_method_34_code
abbrev cX4_firstIsContent : ByteArray := prog_1_method_35_code
abbrev cX4_wishOfFirst : ByteArray := prog_1_method_36_code
abbrev cX4_secondIsContent : ByteArray := prog_1_method_37_code
abbrev cX4_wishOfSecond : ByteArray := prog_1_method_38_code
abbrev cX4_voices : ByteArray := prog_1_method_39_code
abbrev cX4_heard : ByteArray := prog_1_method_40_code
abbrev cX4_mostHeard : ByteArray := prog_1_method_41_code
abbrev cX4_worst : ByteArray := prog_1_method_42_code
abbrev cX4_meet : ByteArray := prog_1_method_43_code
abbrev cX4_givenToAll : ByteArray := prog_1_method_44_code
abbrev cX4_draught : ByteArray := prog_1_method_45_code
abbrev cX4_weightOf : ByteArray := prog_1_method_46_code
abbrev cX4_givenBehind : ByteArray := prog_1_method_47_code
abbrev cX4_mean : ByteArray := prog_1_method_48_code
abbrev cX4_partOf : ByteArray := prog_1_method_49_code
abbrev cX4_row : ByteArray := prog_1_method_50_code
abbrev cX4_clear : ByteArray := prog_1_method_51_code
abbrev cX4_judge : ByteArray := prog_1_method_52_code
abbrev cX4_who : ByteArray := prog_1_method_53_code
abbrev cX4_whatIs : ByteArray := prog_1_method_54_code
abbrev cX4_kindsTold : ByteArray := prog_1_method_55_code
abbrev cX4_figuresTold : ByteArray := prog_1_method_56_code
abbrev cX4_rowTells : ByteArray := prog_1_method_57_code
abbrev cX4_lots : ByteArray := prog_1_method_58_code
abbrev cX4_dayByLot : ByteArray := prog_1_method_59_code
abbrev cX4_nextSeed : ByteArray := prog_1_method_60_code
abbrev cX4_drawn : ByteArray := prog_1_method_61_code
abbrev cX4_image : ByteArray := prog_1_method_62_code
abbrev cX4_on : ByteArray := prog_1_method_63_code
abbrev cX4_count : ByteArray := prog_1_method_64_code
abbrev cX4_refusalsCounted : ByteArray := prog_1_method_65_code
abbrev cX4_refuse : ByteArray := prog_1_method_66_code
abbrev cX4_refuseLong : ByteArray := prog_1_method_67_code
abbrev cX4_outside : ByteArray := prog_1_method_68_code
abbrev cX4_isRoom : ByteArray := prog_1_method_69_code
abbrev cX5_init : ByteArray := prog_7_method_1_code
abbrev cX5_isIn : ByteArray := prog_7_method_2_code
abbrev cX5_held : ByteArray := prog_7_method_3_code
abbrev cX5_copies : ByteArray := prog_7_method_4_code
abbrev cX5_no : ByteArray := prog_7_method_5_code
abbrev cX5_noFar : ByteArray := prog_7_method_6_code
abbrev cX5_noWide : ByteArray := prog_7_method_7_code
abbrev cX5_ofD : ByteArray := prog_7_method_8_code
abbrev cX5_ofP : ByteArray := prog_7_method_9_code
abbrev cX5_isDoor : ByteArray := prog_7_method_10_code
abbrev cX5_isPerson : ByteArray := prog_7_method_11_code
abbrev cX5_isRoom : ByteArray := prog_7_method_12_code
abbrev cX5_has : ByteArray := prog_7_method_13_code
abbrev cX5_gives : ByteArray := prog_7_method_14_code
abbrev cX5_keeps : ByteArray := prog_7_method_15_code
abbrev cX5_cools : ByteArray := prog_7_method_16_code
abbrev cX5_heats : ByteArray := prog_7_method_17_code
abbrev cX5_coolsTo : ByteArray := prog_7_method_18_code
abbrev cX5_says : ByteArray := prog_7_method_19_code
abbrev cX5_isOf : ByteArray := prog_7_method_20_code
abbrev cX5_beyond : ByteArray := prog_7_method_21_code
abbrev cX5_opensIn : ByteArray := prog_7_method_22_code
abbrev cX5_hour : ByteArray := prog_7_method_23_code
abbrev cX5_hoursOn : ByteArray := prog_7_method_24_code
abbrev cX5_allHeat : ByteArray := prog_7_method_25_code
abbrev cX5_allMoods : ByteArray := prog_7_method_26_code
abbrev cX5_letter : ByteArray := prog_7_method_27_code
abbrev cX5_here : ByteArray := prog_7_method_28_code
abbrev cX5_readsNumber : ByteArray := prog_7_method_29_code
abbrev cX5_kindBy : ByteArray := prog_7_method_30_code
abbrev cX5_readsKind : ByteArray := prog_7_method_31_code
abbrev cX5_readsStatement : ByteArray := prog_7_method_32_code
abbrev cX5_addsDoor : ByteArray := prog_7_method_33_code
abbrev cX5_isDone : ByteArray := prog_7_method_34_code
abbrev cX5_house : ByteArray := prog_7_method_35_code
abbrev cX5_door : ByteArray := prog_7_method_36_code
abbrev cX5_person : ByteArray := prog_7_method_37_code
abbrev cX5_opens : ByteArray := prog_7_method_38_code
abbrev cX5_wrongBy : ByteArray := prog_7_method_39_code
abbrev cX5_quarrels : ByteArray := prog_7_method_40_code
abbrev cX5_airs : ByteArray := prog_7_method_41_code
abbrev cX5_moods : ByteArray := prog_7_method_42_code
abbrev cX5_stands : ByteArray := prog_7_method_43_code
abbrev cX5_turn : ByteArray := prog_7_method_44_code
abbrev cX5_hours : ByteArray := prog_7_method_45_code
abbrev cX5_takes : ByteArray := prog_7_method_46_code
abbrev cX5_doorThen : ByteArray := prog_7_method_47_code
abbrev cX5_moodThen : ByteArray := prog_7_method_48_code
abbrev cX5_cold : ByteArray := prog_7_method_49_code
abbrev cX5_hottest : ByteArray := prog_7_method_50_code
abbrev cX5_loudest : ByteArray := prog_7_method_51_code
abbrev cX5_first : ByteArray := prog_7_method_52_code
abbrev cX5_tollOf : ByteArray := prog_7_method_53_code
abbrev cX5_tolls : ByteArray := prog_7_method_54_code
abbrev cX5_firstDoor : ByteArray := prog_7_method_55_code
abbrev cX5_areWrong : ByteArray := prog_7_method_56_code
abbrev cX5_way : ByteArray := prog_7_method_57_code
abbrev cX5_fewestFrom : ByteArray := prog_7_method_58_code
abbrev cX5_fewest : ByteArray := prog_7_method_59_code
abbrev cX5_near : ByteArray := prog_7_method_60_code
abbrev cX5_cutOff : ByteArray := prog_7_method_61_code
abbrev cX5_goes : ByteArray := prog_7_method_62_code
abbrev cX5_givenBy : ByteArray := prog_7_method_63_code
abbrev cX5_air : ByteArray := prog_7_method_64_code
abbrev cX5_shut : ByteArray := prog_7_method_65_code
abbrev cX5_pause : ByteArray := prog_7_method_66_code
abbrev cX5_walk : ByteArray := prog_7_method_67_code
abbrev cX5_wrongTwo : ByteArray := prog_7_method_68_code
abbrev cX5_opensBoth : ByteArray := prog_7_method_69_code
abbrev cX5_bothBy : ByteArray := prog_7_method_70_code
abbrev cX5_order : ByteArray := prog_7_method_71_code
abbrev cX5_echo : ByteArray := prog_7_method_72_code
abbrev cX5_withVoice : ByteArray := prog_7_method_73_code
abbrev cX5_voices : ByteArray := prog_7_method_74_code
abbrev cX5_bits : ByteArray := prog_7_method_75_code
abbrev cX5_mostHeard : ByteArray := prog_7_method_76_code
abbrev cX5_worst : ByteArray := prog_7_method_77_code
abbrev cX5_heard : ByteArray := prog_7_method_78_code
abbrev cX5_meet : ByteArray := prog_7_method_79_code
abbrev cX5_moodBy : ByteArray := prog_7_method_80_code
abbrev cX5_two : ByteArray := prog_7_method_81_code
abbrev cX5_gcd : ByteArray := prog_7_method_82_code
abbrev cX5_partOf : ByteArray := prog_7_method_83_code
abbrev cX5_draught : ByteArray := prog_7_method_84_code
abbrev cX5_mean : ByteArray := prog_7_method_85_code
abbrev cX5_isHeatSo : ByteArray := prog_7_method_86_code
abbrev cX5_who : ByteArray := prog_7_method_87_code
abbrev cX5_whatIs : ByteArray := prog_7_method_88_code
abbrev cX5_row : ByteArray := prog_7_method_89_code
abbrev cX5_judge : ByteArray := prog_7_method_90_code
abbrev cX5_clear : ByteArray := prog_7_method_91_code
abbrev cX5_drawn : ByteArray := prog_7_method_92_code
abbrev cX5_lots : ByteArray := prog_7_method_93_code
abbrev cX5_image : ByteArray := prog_7_method_94_code
abbrev cX5_on : ByteArray := prog_7_method_95_code
abbrev cX5_count : ByteArray := prog_7_method_96_code
abbrev cJ6_bitCount_0f7a4 : ByteArray := prog_8_method_49_code
abbrev cJ9_max_7cf53 : ByteArray := prog_9_method_65_code
abbrev cJ9_min_7cf53 : ByteArray := prog_9_method_69_code
def yX0_init : MethodName := ⟨RX0, "<init>", "()V"⟩
def yX0_copyFrom : MethodName := ⟨RX0, "copyFrom", "(LDoorKeepsQuarrel$House;)V"⟩
def yX0_hasDoor : MethodName := ⟨RX0, "hasDoor", "(I)Z"⟩
def yX0_hasPerson : MethodName := ⟨RX0, "hasPerson", "(I)Z"⟩
def yX0_addDoor : MethodName := ⟨RX0, "addDoor", "(IIII)Z"⟩
def yX0_addPerson : MethodName := ⟨RX0, "addPerson", "(II)Z"⟩
def yX0_leadsFrom : MethodName := ⟨RX0, "leadsFrom", "(II)Z"⟩
def yX0_beyond : MethodName := ⟨RX0, "beyond", "(II)I"⟩
def yX0_canOpen : MethodName := ⟨RX0, "canOpen", "(II)Z"⟩
def yX0_given : MethodName := ⟨RX0, "given", "(I)I"⟩
def yX0_givenAfter : MethodName := ⟨RX0, "givenAfter", "(II)I"⟩
def yX0_said : MethodName := ⟨RX0, "said", "(I)I"⟩
def yX0_open : MethodName := ⟨RX0, "open", "(II)V"⟩
def yX0_fill : MethodName := ⟨RX0, "fill", "(III)V"⟩
def yX0_heatAfter : MethodName := ⟨RX0, "heatAfter", "(II)I"⟩
def yX0_moodAfter : MethodName := ⟨RX0, "moodAfter", "(II)I"⟩
def yX0_pass : MethodName := ⟨RX0, "pass", "(I)V"⟩
def yX0_allHeat : MethodName := ⟨RX0, "allHeat", "()I"⟩
def yX0_allMood : MethodName := ⟨RX0, "allMood", "()I"⟩
def yX0_doorsOfVoice : MethodName := ⟨RX0, "doorsOfVoice", "(I)I"⟩
def yX1_gives : MethodName := ⟨RX1, "gives", "(III)I"⟩
def yX1_slammedGives : MethodName := ⟨RX1, "slammedGives", "(II)I"⟩
def yX1_keeps : MethodName := ⟨RX1, "keeps", "(III)I"⟩
def yX1_cooled : MethodName := ⟨RX1, "cooled", "(IIII)I"⟩
def yX1_coolsBy : MethodName := ⟨RX1, "coolsBy", "(II)I"⟩
def yX1_ofLetter : MethodName := ⟨RX1, "ofLetter", "(I)I"⟩
def yX2_init : MethodName := ⟨RX2, "<init>", "()V"⟩
def yX2_add : MethodName := ⟨RX2, "add", "(I)V"⟩
def yX2_at : MethodName := ⟨RX2, "at", "(I)I"⟩
def yX2_isDigit : MethodName := ⟨RX2, "isDigit", "(I)Z"⟩
def yX2_digit : MethodName := ⟨RX2, "digit", "(I)I"⟩
def yX2_twoDigits : MethodName := ⟨RX2, "twoDigits", "(I)I"⟩
def yX2_lengthOf : MethodName := ⟨RX2, "lengthOf", "(I)I"⟩
def yX2_misspelling : MethodName := ⟨RX2, "misspelling", "()I"⟩
def yX2_fits : MethodName := ⟨RX2, "fits", "(III)Z"⟩
def yX2_carryOut : MethodName := ⟨RX2, "carryOut", "(LDoorKeepsQuarrel$House;)I"⟩
def yX2_happens : MethodName := ⟨RX2, "happens", "(LDoorKeepsQuarrel$House;I)Z"⟩
def yX2_isOpened : MethodName := ⟨RX2, "isOpened", "(LDoorKeepsQuarrel$House;II)Z"⟩
def yX2_isFilled : MethodName := ⟨RX2, "isFilled", "(LDoorKeepsQuarrel$House;III)Z"⟩
def yX2_isAired : MethodName := ⟨RX2, "isAired", "(LDoorKeepsQuarrel$House;I)Z"⟩
def yX2_goBy : MethodName := ⟨RX2, "goBy", "(LDoorKeepsQuarrel$House;I)Z"⟩
def yX3_init : MethodName := ⟨RX3, "<init>", "()V"⟩
def yX3_tollNothing : MethodName := ⟨RX3, "tollNothing", "()V"⟩
def yX3_tollAfter : MethodName := ⟨RX3, "tollAfter", "(LDoorKeepsQuarrel$House;I)V"⟩
def yX3_setToll : MethodName := ⟨RX3, "setToll", "(II)V"⟩
def yX3_leadTo : MethodName := ⟨RX3, "leadTo", "(LDoorKeepsQuarrel$House;I)V"⟩
def yX3_isCheaper : MethodName := ⟨RX3, "isCheaper", "(III)Z"⟩
def yX3_priceThrough : MethodName := ⟨RX3, "priceThrough", "(II)I"⟩
def yX3_priceFrom : MethodName := ⟨RX3, "priceFrom", "(I)I"⟩
def yX3_givenFrom : MethodName := ⟨RX3, "givenFrom", "(I)I"⟩
def yX3_doorsFrom : MethodName := ⟨RX3, "doorsFrom", "(I)I"⟩
def yX3_doorFrom : MethodName := ⟨RX3, "doorFrom", "(LDoorKeepsQuarrel$House;I)I"⟩
def yX4_init : MethodName := ⟨RX4, "<init>", "()V"⟩
def yX4_letter : MethodName := ⟨RX4, "letter", "(I)I"⟩
def yX4_house : MethodName := ⟨RX4, "house", "()I"⟩
def yX4_door : MethodName := ⟨RX4, "door", "(II)I"⟩
def yX4_person : MethodName := ⟨RX4, "person", "(II)I"⟩
def yX4_opens : MethodName := ⟨RX4, "opens", "(II)I"⟩
def yX4_quarrels : MethodName := ⟨RX4, "quarrels", "(III)I"⟩
def yX4_airs : MethodName := ⟨RX4, "airs", "(I)I"⟩
def yX4_moods : MethodName := ⟨RX4, "moods", "(II)I"⟩
def yX4_stands : MethodName := ⟨RX4, "stands", "(II)I"⟩
def yX4_turn : MethodName := ⟨RX4, "turn", "(III)I"⟩
def yX4_hours : MethodName := ⟨RX4, "hours", "(I)I"⟩
def yX4_doorThen : MethodName := ⟨RX4, "doorThen", "(III)I"⟩
def yX4_moodThen : MethodName := ⟨RX4, "moodThen", "(II)I"⟩
def yX4_first : MethodName := ⟨RX4, "first", "(I)I"⟩
def yX4_cold : MethodName := ⟨RX4, "cold", "()I"⟩
def yX4_isColdAfter : MethodName := ⟨RX4, "isColdAfter", "(I)Z"⟩
def yX4_hottest : MethodName := ⟨RX4, "hottest", "()I"⟩
def yX4_loudest : MethodName := ⟨RX4, "loudest", "()I"⟩
def yX4_way : MethodName := ⟨RX4, "way", "(III)I"⟩
def yX4_fewest : MethodName := ⟨RX4, "fewest", "(II)I"⟩
def yX4_near : MethodName := ⟨RX4, "near", "(I)I"⟩
def yX4_cutOff : MethodName := ⟨RX4, "cutOff", "()I"⟩
def yX4_goes : MethodName := ⟨RX4, "goes", "(II)I"⟩
def yX4_air : MethodName := ⟨RX4, "air", "(II)I"⟩
def yX4_shut : MethodName := ⟨RX4, "shut", "(II)I"⟩
def yX4_pause : MethodName := ⟨RX4, "pause", "(III)I"⟩
def yX4_findWaysTo : MethodName := ⟨RX4, "findWaysTo", "(II)V"⟩
def yX4_walk : MethodName := ⟨RX4, "walk", "(II)I"⟩
def yX4_order : MethodName := ⟨RX4, "order", "(III)I"⟩
def yX4_echo : MethodName := ⟨RX4, "echo", "(III)I"⟩
def yX4_notTogether : MethodName := ⟨RX4, "notTogether", "(III)I"⟩
def yX4_openBoth : MethodName := ⟨RX4, "openBoth", "(III)V"⟩
def yX4_two : MethodName := ⟨RX4, "two", "(III)I"⟩
def yX4_firstIsContent : MethodName := ⟨RX4, "firstIsContent", "(III)Z"⟩
def yX4_wishOfFirst : MethodName := ⟨RX4, "wishOfFirst", "(III)I"⟩
def yX4_secondIsContent : MethodName := ⟨RX4, "secondIsContent", "(IIIII)Z"⟩
def yX4_wishOfSecond : MethodName := ⟨RX4, "wishOfSecond", "(IIIII)I"⟩
def yX4_voices : MethodName := ⟨RX4, "voices", "(I)I"⟩
def yX4_heard : MethodName := ⟨RX4, "heard", "(I)I"⟩
def yX4_mostHeard : MethodName := ⟨RX4, "mostHeard", "()I"⟩
def yX4_worst : MethodName := ⟨RX4, "worst", "()I"⟩
def yX4_meet : MethodName := ⟨RX4, "meet", "(I)I"⟩
def yX4_givenToAll : MethodName := ⟨RX4, "givenToAll", "(I)I"⟩
def yX4_draught : MethodName := ⟨RX4, "draught", "(IIIII)J"⟩
def yX4_weightOf : MethodName := ⟨RX4, "weightOf", "(III)J"⟩
def yX4_givenBehind : MethodName := ⟨RX4, "givenBehind", "(III)I"⟩
def yX4_mean : MethodName := ⟨RX4, "mean", "(I)J"⟩
def yX4_partOf : MethodName := ⟨RX4, "partOf", "(JJI)J"⟩
def yX4_row : MethodName := ⟨RX4, "row", "(I)I"⟩
def yX4_clear : MethodName := ⟨RX4, "clear", "()I"⟩
def yX4_judge : MethodName := ⟨RX4, "judge", "()I"⟩
def yX4_who : MethodName := ⟨RX4, "who", "(I)I"⟩
def yX4_whatIs : MethodName := ⟨RX4, "whatIs", "(II)I"⟩
def yX4_kindsTold : MethodName := ⟨RX4, "kindsTold", "(II)I"⟩
def yX4_figuresTold : MethodName := ⟨RX4, "figuresTold", "(II)I"⟩
def yX4_rowTells : MethodName := ⟨RX4, "rowTells", "(III)Z"⟩
def yX4_lots : MethodName := ⟨RX4, "lots", "(III)I"⟩
def yX4_dayByLot : MethodName := ⟨RX4, "dayByLot", "(I)I"⟩
def yX4_nextSeed : MethodName := ⟨RX4, "nextSeed", "(I)I"⟩
def yX4_drawn : MethodName := ⟨RX4, "drawn", "(II)I"⟩
def yX4_image : MethodName := ⟨RX4, "image", "()I"⟩
def yX4_on : MethodName := ⟨RX4, "on", "()I"⟩
def yX4_count : MethodName := ⟨RX4, "count", "(I)I"⟩
def yX4_refusalsCounted : MethodName := ⟨RX4, "refusalsCounted", "(I)I"⟩
def yX4_refuse : MethodName := ⟨RX4, "refuse", "(I)I"⟩
def yX4_refuseLong : MethodName := ⟨RX4, "refuseLong", "(I)J"⟩
def yX4_outside : MethodName := ⟨RX4, "outside", "(III)I"⟩
def yX4_isRoom : MethodName := ⟨RX4, "isRoom", "(I)Z"⟩
def yX5_init : MethodName := ⟨RX5, "<init>", "()V"⟩
def yX5_isIn : MethodName := ⟨RX5, "isIn", "(III)Z"⟩
def yX5_held : MethodName := ⟨RX5, "held", "(I)I"⟩
def yX5_copies : MethodName := ⟨RX5, "copies", "([I[I)V"⟩
def yX5_no : MethodName := ⟨RX5, "no", "(I)I"⟩
def yX5_noFar : MethodName := ⟨RX5, "noFar", "(I)I"⟩
def yX5_noWide : MethodName := ⟨RX5, "noWide", "(I)J"⟩
def yX5_ofD : MethodName := ⟨RX5, "ofD", "(II)I"⟩
def yX5_ofP : MethodName := ⟨RX5, "ofP", "(II)I"⟩
def yX5_isDoor : MethodName := ⟨RX5, "isDoor", "(I)Z"⟩
def yX5_isPerson : MethodName := ⟨RX5, "isPerson", "(I)Z"⟩
def yX5_isRoom : MethodName := ⟨RX5, "isRoom", "(I)Z"⟩
def yX5_has : MethodName := ⟨RX5, "has", "(II)Z"⟩
def yX5_gives : MethodName := ⟨RX5, "gives", "([II)I"⟩
def yX5_keeps : MethodName := ⟨RX5, "keeps", "([III)I"⟩
def yX5_cools : MethodName := ⟨RX5, "cools", "([II)I"⟩
def yX5_heats : MethodName := ⟨RX5, "heats", "([IIII)V"⟩
def yX5_coolsTo : MethodName := ⟨RX5, "coolsTo", "([III)V"⟩
def yX5_says : MethodName := ⟨RX5, "says", "([II)I"⟩
def yX5_isOf : MethodName := ⟨RX5, "isOf", "([III)Z"⟩
def yX5_beyond : MethodName := ⟨RX5, "beyond", "([III)I"⟩
def yX5_opensIn : MethodName := ⟨RX5, "opensIn", "([III)V"⟩
def yX5_hour : MethodName := ⟨RX5, "hour", "([I)V"⟩
def yX5_hoursOn : MethodName := ⟨RX5, "hoursOn", "([II)V"⟩
def yX5_allHeat : MethodName := ⟨RX5, "allHeat", "([I)I"⟩
def yX5_allMoods : MethodName := ⟨RX5, "allMoods", "([I)I"⟩
def yX5_letter : MethodName := ⟨RX5, "letter", "(I)I"⟩
def yX5_here : MethodName := ⟨RX5, "here", "()I"⟩
def yX5_readsNumber : MethodName := ⟨RX5, "readsNumber", "(II)Z"⟩
def yX5_kindBy : MethodName := ⟨RX5, "kindBy", "(I)I"⟩
def yX5_readsKind : MethodName := ⟨RX5, "readsKind", "()Z"⟩
def yX5_readsStatement : MethodName := ⟨RX5, "readsStatement", "()Z"⟩
def yX5_addsDoor : MethodName := ⟨RX5, "addsDoor", "(IIII)Z"⟩
def yX5_isDone : MethodName := ⟨RX5, "isDone", "(I)Z"⟩
def yX5_house : MethodName := ⟨RX5, "house", "()I"⟩
def yX5_door : MethodName := ⟨RX5, "door", "(II)I"⟩
def yX5_person : MethodName := ⟨RX5, "person", "(II)I"⟩
def yX5_opens : MethodName := ⟨RX5, "opens", "(II)I"⟩
def yX5_wrongBy : MethodName := ⟨RX5, "wrongBy", "(III)I"⟩
def yX5_quarrels : MethodName := ⟨RX5, "quarrels", "(III)I"⟩
def yX5_airs : MethodName := ⟨RX5, "airs", "(I)I"⟩
def yX5_moods : MethodName := ⟨RX5, "moods", "(II)I"⟩
def yX5_stands : MethodName := ⟨RX5, "stands", "(II)I"⟩
def yX5_turn : MethodName := ⟨RX5, "turn", "(III)I"⟩
def yX5_hours : MethodName := ⟨RX5, "hours", "(I)I"⟩
def yX5_takes : MethodName := ⟨RX5, "takes", "(I)V"⟩
def yX5_doorThen : MethodName := ⟨RX5, "doorThen", "(III)I"⟩
def yX5_moodThen : MethodName := ⟨RX5, "moodThen", "(II)I"⟩
def yX5_cold : MethodName := ⟨RX5, "cold", "()I"⟩
def yX5_hottest : MethodName := ⟨RX5, "hottest", "()I"⟩
def yX5_loudest : MethodName := ⟨RX5, "loudest", "()I"⟩
def yX5_first : MethodName := ⟨RX5, "first", "(I)I"⟩
def yX5_tollOf : MethodName := ⟨RX5, "tollOf", "([II)I"⟩
def yX5_tolls : MethodName := ⟨RX5, "tolls", "([III)V"⟩
def yX5_firstDoor : MethodName := ⟨RX5, "firstDoor", "([I[II)I"⟩
def yX5_areWrong : MethodName := ⟨RX5, "areWrong", "(II)Z"⟩
def yX5_way : MethodName := ⟨RX5, "way", "(III)I"⟩
def yX5_fewestFrom : MethodName := ⟨RX5, "fewestFrom", "(II)I"⟩
def yX5_fewest : MethodName := ⟨RX5, "fewest", "(II)I"⟩
def yX5_near : MethodName := ⟨RX5, "near", "(I)I"⟩
def yX5_cutOff : MethodName := ⟨RX5, "cutOff", "()I"⟩
def yX5_goes : MethodName := ⟨RX5, "goes", "(II)I"⟩
def yX5_givenBy : MethodName := ⟨RX5, "givenBy", "([IIII)I"⟩
def yX5_air : MethodName := ⟨RX5, "air", "(II)I"⟩
def yX5_shut : MethodName := ⟨RX5, "shut", "(II)I"⟩
def yX5_pause : MethodName := ⟨RX5, "pause", "(III)I"⟩
def yX5_walk : MethodName := ⟨RX5, "walk", "(II)I"⟩
def yX5_wrongTwo : MethodName := ⟨RX5, "wrongTwo", "(III)I"⟩
def yX5_opensBoth : MethodName := ⟨RX5, "opensBoth", "(IIIII)V"⟩
def yX5_bothBy : MethodName := ⟨RX5, "bothBy", "(III)I"⟩
def yX5_order : MethodName := ⟨RX5, "order", "(III)I"⟩
def yX5_echo : MethodName := ⟨RX5, "echo", "(III)I"⟩
def yX5_withVoice : MethodName := ⟨RX5, "withVoice", "(I)I"⟩
def yX5_voices : MethodName := ⟨RX5, "voices", "(I)I"⟩
def yX5_bits : MethodName := ⟨RX5, "bits", "(I)I"⟩
def yX5_mostHeard : MethodName := ⟨RX5, "mostHeard", "()I"⟩
def yX5_worst : MethodName := ⟨RX5, "worst", "()I"⟩
def yX5_heard : MethodName := ⟨RX5, "heard", "(I)I"⟩
def yX5_meet : MethodName := ⟨RX5, "meet", "(I)I"⟩
def yX5_moodBy : MethodName := ⟨RX5, "moodBy", "(IIIIII)I"⟩
def yX5_two : MethodName := ⟨RX5, "two", "(III)I"⟩
def yX5_gcd : MethodName := ⟨RX5, "gcd", "(JJ)J"⟩
def yX5_partOf : MethodName := ⟨RX5, "partOf", "(JJI)J"⟩
def yX5_draught : MethodName := ⟨RX5, "draught", "(IIIII)J"⟩
def yX5_mean : MethodName := ⟨RX5, "mean", "(I)J"⟩
def yX5_isHeatSo : MethodName := ⟨RX5, "isHeatSo", "(I)Z"⟩
def yX5_who : MethodName := ⟨RX5, "who", "(I)I"⟩
def yX5_whatIs : MethodName := ⟨RX5, "whatIs", "(II)I"⟩
def yX5_row : MethodName := ⟨RX5, "row", "(I)I"⟩
def yX5_judge : MethodName := ⟨RX5, "judge", "()I"⟩
def yX5_clear : MethodName := ⟨RX5, "clear", "()I"⟩
def yX5_drawn : MethodName := ⟨RX5, "drawn", "(I)I"⟩
def yX5_lots : MethodName := ⟨RX5, "lots", "(III)I"⟩
def yX5_image : MethodName := ⟨RX5, "image", "()I"⟩
def yX5_on : MethodName := ⟨RX5, "on", "()I"⟩
def yX5_count : MethodName := ⟨RX5, "count", "(I)I"⟩
def yJ6_bitCount_0f7a4 : MethodName := ⟨RJ6, "bitCount", "(I)I"⟩
def yJ9_max_7cf53 : MethodName := ⟨RJ9, "max", "(II)I"⟩
def yJ9_min_7cf53 : MethodName := ⟨RJ9, "min", "(II)I"⟩
/-- words by their places -/
theorem kq_pl {big ws : List Cond} (ps : List Nat) (h : ws = ps.filterMap (fun i => big[i]?)) : ∀ w ∈ ws, w ∈ big := by
  intro w hw
  rw [h] at hw
  obtain ⟨i, -, hi⟩ := List.mem_filterMap.mp hw
  exact List.mem_of_getElem? hi
/-- the tables' words that hold at every state of the walk -/
def kq_tb : List Cond := lw_tbl.filter goodWord
theorem kq_m {w : Cond} {i : Nat} (h : lw_tbl[i]? = some w) (hg : goodWord w = true) : w ∈ kq_tb := List.mem_filter.mpr ⟨List.mem_of_getElem? h, hg⟩
theorem kq_good : ∀ w ∈ kq_tb, goodWord w = true := fun _ h => (List.mem_filter.mp h).2
theorem kq_plg {ws : List Cond} (ps : List Nat) (h : ws = ps.filterMap (fun i => lw_tbl[i]?)) (hg : ws.all goodWord = true) : ∀ w ∈ ws, w ∈ kq_tb := fun w hw => List.mem_filter.mpr ⟨kq_pl ps h w hw, List.all_eq_true.mp hg w hw⟩
def kq_CF (ci : Nat) (C : String) (T : u_T) (N : Nat) : Prop := vwCl[ci]? = some (C, T, N) ∧ (∀ w ∈ u_ws C T N, w ∈ kq_tb) ∧ (∃ ty0 : Nat → FieldType, ∀ k, k < N → parseFieldDescriptor (T k).2.2.1 = some (ty0 k)) ∧ ∀ a, a < N → ∀ b, b < N → a ≠ b → (T a).2.1 ≠ (T b).2.1
/-- a field by its link: the class of the world, the place of the field -/
def kq_FL (own : String) (idx ci k : Nat) : Prop := ∃ (C : String) (T : u_T) (N : Nat), kq_CF ci C T N ∧ k < N ∧ Cond.fieldLink own idx (T k).1 (T k).2.1 (T k).2.2.1 ∈ kq_tb
/-- such a field that may be written: not final, of type ty -/
def kq_FW (own : String) (idx ci k : Nat) (ty : FieldType) : Prop := ∃ (C : String) (T : u_T) (N : Nat), kq_CF ci C T N ∧ k < N ∧ Cond.fieldLink own idx (T k).1 (T k).2.1 (T k).2.2.1 ∈ kq_tb ∧ (T k).2.2.2 = false ∧ parseFieldDescriptor (T k).2.2.1 = some ty
/-- a method: its code, its class, how many it takes -/
def kq_Y (y : MethodName) (bytes : ByteArray) (maxL : Nat) (ret : Option FieldType) (n : Nat) : Prop := Cond.code y bytes maxL ret ∈ kq_tb ∧ Cond.initialized y.cls ∈ kq_tb ∧ y.cls ≠ "java/lang/invoke/MethodHandle" ∧ y.cls ≠ "java/lang/invoke/VarHandle" ∧ (parseMethodDescriptor y.desc).map (fun d => d.parameters.length) = some n ∧ plainName y.cls = true
def kq_YV (y : MethodName) (bytes : ByteArray) (maxL : Nat) (ret : Option FieldType) (n ci : Nat) : Prop := kq_Y y bytes maxL ret n ∧ Cond.instanceMethod y ∈ kq_tb ∧ Cond.selects y.cls y y ∈ kq_tb ∧ ∃ (T : u_T) (N : Nat), vwCl[ci]? = some (y.cls, T, N)
def kq_YS (y : MethodName) (bytes : ByteArray) (maxL : Nat) (ret : Option FieldType) (n : Nat) : Prop := kq_Y y bytes maxL ret n ∧ Cond.static y ∈ kq_tb
theorem cf_X0 : kq_CF 0 RX0 TX0 12 := ⟨rfl, kq_plg [110, 112, 114, 116, 118, 120, 122, 124, 126, 128, 130, 132] (by decide +kernel) (by decide +kernel), ⟨tyX0, tyX0_ok⟩, nmX0⟩
theorem cf_X2 : kq_CF 1 RX2 TX2 2 := ⟨rfl, kq_plg [145, 147] (by decide +kernel) (by decide +kernel), ⟨tyX2, tyX2_ok⟩, nmX2⟩
theorem cf_X3 : kq_CF 2 RX3 TX3 2 := ⟨rfl, kq_plg [158, 160] (by decide +kernel) (by decide +kernel), ⟨tyX3, tyX3_ok⟩, nmX3⟩
theorem cf_X4 : kq_CF 3 RX4 TX4 9 := ⟨rfl, kq_plg [172, 174, 176, 178, 180, 182, 184, 186, 188] (by decide +kernel) (by decide +kernel), ⟨tyX4, tyX4_ok⟩, nmX4⟩
theorem cf_X5 : kq_CF 4 RX5 TX5 14 := ⟨rfl, kq_plg [700, 702, 704, 706, 708, 710, 712, 714, 716, 718, 720, 722, 724, 726] (by decide +kernel) (by decide +kernel), ⟨tyX5, tyX5_ok⟩, nmX5⟩
theorem fl_X4_10 : kq_FL RX4 10 3 0 := ⟨RX4, TX4, 9, cf_X4, by decide, kq_m (i := 163) (by decide +kernel) rfl⟩
theorem fl_X4_16 : kq_FL RX4 16 3 1 := ⟨RX4, TX4, 9, cf_X4, by decide, kq_m (i := 164) (by decide +kernel) rfl⟩
theorem fl_X4_19 : kq_FL RX4 19 3 2 := ⟨RX4, TX4, 9, cf_X4, by decide, kq_m (i := 165) (by decide +kernel) rfl⟩
theorem fl_X4_22 : kq_FL RX4 22 3 3 := ⟨RX4, TX4, 9, cf_X4, by decide, kq_m (i := 166) (by decide +kernel) rfl⟩
theorem fw_X4_22 : kq_FW RX4 22 3 3 .boolean := ⟨RX4, TX4, 9, cf_X4, by decide, kq_m (i := 166) (by decide +kernel) rfl, rfl, by decide +kernel⟩
theorem fl_X4_29 : kq_FL RX4 29 3 4 := ⟨RX4, TX4, 9, cf_X4, by decide, kq_m (i := 167) (by decide +kernel) rfl⟩
theorem fl_X4_36 : kq_FL RX4 36 3 5 := ⟨RX4, TX4, 9, cf_X4, by decide, kq_m (i := 168) (by decide +kernel) rfl⟩
theorem fl_X4_40 : kq_FL RX4 40 3 6 := ⟨RX4, TX4, 9, cf_X4, by decide, kq_m (i := 169) (by decide +kernel) rfl⟩
theorem fl_X4_44 : kq_FL RX4 44 3 7 := ⟨RX4, TX4, 9, cf_X4, by decide, kq_m (i := 170) (by decide +kernel) rfl⟩
theorem fw_X4_44 : kq_FW RX4 44 3 7 .int := ⟨RX4, TX4, 9, cf_X4, by decide, kq_m (i := 170) (by decide +kernel) rfl, rfl, by decide +kernel⟩
theorem fl_X4_48 : kq_FL RX4 48 3 8 := ⟨RX4, TX4, 9, cf_X4, by decide, kq_m (i := 171) (by decide +kernel) rfl⟩
theorem fl_X4_55 : kq_FL RX4 55 1 1 := ⟨RX2, TX2, 2, cf_X2, by decide, kq_m (i := 144) (by decide +kernel) rfl⟩
theorem fw_X4_55 : kq_FW RX4 55 1 1 .int := ⟨RX2, TX2, 2, cf_X2, by decide, kq_m (i := 144) (by decide +kernel) rfl, rfl, by decide +kernel⟩
theorem fl_X4_78 : kq_FL RX4 78 0 1 := ⟨RX0, TX0, 12, cf_X0, by decide, kq_m (i := 86) (by decide +kernel) rfl⟩
theorem fl_X4_81 : kq_FL RX4 81 0 2 := ⟨RX0, TX0, 12, cf_X0, by decide, kq_m (i := 88) (by decide +kernel) rfl⟩
theorem fl_X4_84 : kq_FL RX4 84 0 3 := ⟨RX0, TX0, 12, cf_X0, by decide, kq_m (i := 90) (by decide +kernel) rfl⟩
theorem fl_X4_87 : kq_FL RX4 87 0 4 := ⟨RX0, TX0, 12, cf_X0, by decide, kq_m (i := 93) (by decide +kernel) rfl⟩
theorem fl_X4_90 : kq_FL RX4 90 0 5 := ⟨RX0, TX0, 12, cf_X0, by decide, kq_m (i := 96) (by decide +kernel) rfl⟩
theorem fl_X4_93 : kq_FL RX4 93 0 6 := ⟨RX0, TX0, 12, cf_X0, by decide, kq_m (i := 98) (by decide +kernel) rfl⟩
theorem fl_X4_102 : kq_FL RX4 102 0 8 := ⟨RX0, TX0, 12, cf_X0, by decide, kq_m (i := 102) (by decide +kernel) rfl⟩
theorem fl_X4_105 : kq_FL RX4 105 0 9 := ⟨RX0, TX0, 12, cf_X0, by decide, kq_m (i := 104) (by decide +kernel) rfl⟩
theorem fl_X4_108 : kq_FL RX4 108 0 10 := ⟨RX0, TX0, 12, cf_X0, by decide, kq_m (i := 106) (by decide +kernel) rfl⟩
theorem fl_X4_133 : kq_FL RX4 133 0 11 := ⟨RX0, TX0, 12, cf_X0, by decide, kq_m (i := 108) (by decide +kernel) rfl⟩
theorem fw_X4_133 : kq_FW RX4 133 0 11 .int := ⟨RX0, TX0, 12, cf_X0, by decide, kq_m (i := 108) (by decide +kernel) rfl, rfl, by decide +kernel⟩
theorem fl_X4_161 : kq_FL RX4 161 0 0 := ⟨RX0, TX0, 12, cf_X0, by decide, kq_m (i := 84) (by decide +kernel) rfl⟩
theorem fw_X4_161 : kq_FW RX4 161 0 0 .int := ⟨RX0, TX0, 12, cf_X0, by decide, kq_m (i := 84) (by decide +kernel) rfl, rfl, by decide +kernel⟩
theorem fl_X4_226 : kq_FL RX4 226 0 7 := ⟨RX0, TX0, 12, cf_X0, by decide, kq_m (i := 100) (by decide +kernel) rfl⟩
theorem fw_X4_226 : kq_FW RX4 226 0 7 .int := ⟨RX0, TX0, 12, cf_X0, by decide, kq_m (i := 100) (by decide +kernel) rfl, rfl, by decide +kernel⟩
theorem fl_X0_9 : kq_FL RX0 9 0 0 := ⟨RX0, TX0, 12, cf_X0, by decide, kq_m (i := 82) (by decide +kernel) rfl⟩
theorem fw_X0_9 : kq_FW RX0 9 0 0 .int := ⟨RX0, TX0, 12, cf_X0, by decide, kq_m (i := 82) (by decide +kernel) rfl, rfl, by decide +kernel⟩
theorem fl_X0_15 : kq_FL RX0 15 0 1 := ⟨RX0, TX0, 12, cf_X0, by decide, kq_m (i := 85) (by decide +kernel) rfl⟩
theorem fl_X0_19 : kq_FL RX0 19 0 2 := ⟨RX0, TX0, 12, cf_X0, by decide, kq_m (i := 87) (by decide +kernel) rfl⟩
theorem fl_X0_22 : kq_FL RX0 22 0 3 := ⟨RX0, TX0, 12, cf_X0, by decide, kq_m (i := 89) (by decide +kernel) rfl⟩
theorem fl_X0_25 : kq_FL RX0 25 0 4 := ⟨RX0, TX0, 12, cf_X0, by decide, kq_m (i := 92) (by decide +kernel) rfl⟩
theorem fl_X0_28 : kq_FL RX0 28 0 5 := ⟨RX0, TX0, 12, cf_X0, by decide, kq_m (i := 95) (by decide +kernel) rfl⟩
theorem fl_X0_31 : kq_FL RX0 31 0 6 := ⟨RX0, TX0, 12, cf_X0, by decide, kq_m (i := 97) (by decide +kernel) rfl⟩
theorem fl_X0_34 : kq_FL RX0 34 0 7 := ⟨RX0, TX0, 12, cf_X0, by decide, kq_m (i := 99) (by decide +kernel) rfl⟩
theorem fw_X0_34 : kq_FW RX0 34 0 7 .int := ⟨RX0, TX0, 12, cf_X0, by decide, kq_m (i := 99) (by decide +kernel) rfl, rfl, by decide +kernel⟩
theorem fl_X0_37 : kq_FL RX0 37 0 8 := ⟨RX0, TX0, 12, cf_X0, by decide, kq_m (i := 101) (by decide +kernel) rfl⟩
theorem fl_X0_40 : kq_FL RX0 40 0 9 := ⟨RX0, TX0, 12, cf_X0, by decide, kq_m (i := 103) (by decide +kernel) rfl⟩
theorem fl_X0_43 : kq_FL RX0 43 0 10 := ⟨RX0, TX0, 12, cf_X0, by decide, kq_m (i := 105) (by decide +kernel) rfl⟩
theorem fl_X0_46 : kq_FL RX0 46 0 11 := ⟨RX0, TX0, 12, cf_X0, by decide, kq_m (i := 107) (by decide +kernel) rfl⟩
theorem fw_X0_46 : kq_FW RX0 46 0 11 .int := ⟨RX0, TX0, 12, cf_X0, by decide, kq_m (i := 107) (by decide +kernel) rfl, rfl, by decide +kernel⟩
theorem fl_X2_9 : kq_FL RX2 9 1 0 := ⟨RX2, TX2, 2, cf_X2, by decide, kq_m (i := 142) (by decide +kernel) rfl⟩
theorem fl_X2_15 : kq_FL RX2 15 1 1 := ⟨RX2, TX2, 2, cf_X2, by decide, kq_m (i := 143) (by decide +kernel) rfl⟩
theorem fw_X2_15 : kq_FW RX2 15 1 1 .int := ⟨RX2, TX2, 2, cf_X2, by decide, kq_m (i := 143) (by decide +kernel) rfl, rfl, by decide +kernel⟩
theorem fl_X2_90 : kq_FL RX2 90 0 11 := ⟨RX0, TX0, 12, cf_X0, by decide, kq_m (i := 109) (by decide +kernel) rfl⟩
theorem fw_X2_90 : kq_FW RX2 90 0 11 .int := ⟨RX0, TX0, 12, cf_X0, by decide, kq_m (i := 109) (by decide +kernel) rfl, rfl, by decide +kernel⟩
theorem fl_X3_9 : kq_FL RX3 9 2 0 := ⟨RX3, TX3, 2, cf_X3, by decide, kq_m (i := 156) (by decide +kernel) rfl⟩
theorem fl_X3_15 : kq_FL RX3 15 2 1 := ⟨RX3, TX3, 2, cf_X3, by decide, kq_m (i := 157) (by decide +kernel) rfl⟩
theorem fl_X3_18 : kq_FL RX3 18 0 0 := ⟨RX0, TX0, 12, cf_X0, by decide, kq_m (i := 83) (by decide +kernel) rfl⟩
theorem fw_X3_18 : kq_FW RX3 18 0 0 .int := ⟨RX0, TX0, 12, cf_X0, by decide, kq_m (i := 83) (by decide +kernel) rfl, rfl, by decide +kernel⟩
theorem fl_X3_29 : kq_FL RX3 29 0 3 := ⟨RX0, TX0, 12, cf_X0, by decide, kq_m (i := 91) (by decide +kernel) rfl⟩
theorem fl_X3_32 : kq_FL RX3 32 0 4 := ⟨RX0, TX0, 12, cf_X0, by decide, kq_m (i := 94) (by decide +kernel) rfl⟩
theorem fl_X5_9 : kq_FL RX5 9 4 0 := ⟨RX5, TX5, 14, cf_X5, by decide, kq_m (i := 686) (by decide +kernel) rfl⟩
theorem fl_X5_13 : kq_FL RX5 13 4 1 := ⟨RX5, TX5, 14, cf_X5, by decide, kq_m (i := 687) (by decide +kernel) rfl⟩
theorem fl_X5_16 : kq_FL RX5 16 4 2 := ⟨RX5, TX5, 14, cf_X5, by decide, kq_m (i := 688) (by decide +kernel) rfl⟩
theorem fl_X5_19 : kq_FL RX5 19 4 3 := ⟨RX5, TX5, 14, cf_X5, by decide, kq_m (i := 689) (by decide +kernel) rfl⟩
theorem fl_X5_22 : kq_FL RX5 22 4 5 := ⟨RX5, TX5, 14, cf_X5, by decide, kq_m (i := 691) (by decide +kernel) rfl⟩
theorem fl_X5_25 : kq_FL RX5 25 4 6 := ⟨RX5, TX5, 14, cf_X5, by decide, kq_m (i := 692) (by decide +kernel) rfl⟩
theorem fl_X5_28 : kq_FL RX5 28 4 7 := ⟨RX5, TX5, 14, cf_X5, by decide, kq_m (i := 693) (by decide +kernel) rfl⟩
theorem fl_X5_31 : kq_FL RX5 31 4 11 := ⟨RX5, TX5, 14, cf_X5, by decide, kq_m (i := 697) (by decide +kernel) rfl⟩
theorem fl_X5_34 : kq_FL RX5 34 4 12 := ⟨RX5, TX5, 14, cf_X5, by decide, kq_m (i := 698) (by decide +kernel) rfl⟩
theorem fl_X5_87 : kq_FL RX5 87 4 8 := ⟨RX5, TX5, 14, cf_X5, by decide, kq_m (i := 694) (by decide +kernel) rfl⟩
theorem fw_X5_87 : kq_FW RX5 87 4 8 .int := ⟨RX5, TX5, 14, cf_X5, by decide, kq_m (i := 694) (by decide +kernel) rfl, rfl, by decide +kernel⟩
theorem fl_X5_91 : kq_FL RX5 91 4 10 := ⟨RX5, TX5, 14, cf_X5, by decide, kq_m (i := 696) (by decide +kernel) rfl⟩
theorem fw_X5_91 : kq_FW RX5 91 4 10 .int := ⟨RX5, TX5, 14, cf_X5, by decide, kq_m (i := 696) (by decide +kernel) rfl, rfl, by decide +kernel⟩
theorem fl_X5_188 : kq_FL RX5 188 4 9 := ⟨RX5, TX5, 14, cf_X5, by decide, kq_m (i := 695) (by decide +kernel) rfl⟩
theorem fw_X5_188 : kq_FW RX5 188 4 9 .int := ⟨RX5, TX5, 14, cf_X5, by decide, kq_m (i := 695) (by decide +kernel) rfl, rfl, by decide +kernel⟩
theorem fl_X5_235 : kq_FL RX5 235 4 13 := ⟨RX5, TX5, 14, cf_X5, by decide, kq_m (i := 699) (by decide +kernel) rfl⟩
theorem fw_X5_235 : kq_FW RX5 235 4 13 .int := ⟨RX5, TX5, 14, cf_X5, by decide, kq_m (i := 699) (by decide +kernel) rfl, rfl, by decide +kernel⟩
theorem fl_X5_247 : kq_FL RX5 247 4 4 := ⟨RX5, TX5, 14, cf_X5, by decide, kq_m (i := 690) (by decide +kernel) rfl⟩
theorem fw_X5_247 : kq_FW RX5 247 4 4 .boolean := ⟨RX5, TX5, 14, cf_X5, by decide, kq_m (i := 690) (by decide +kernel) rfl, rfl, by decide +kernel⟩
theorem ym_X0_copyFrom : kq_YV yX0_copyFrom cX0_copyFrom 3 none 1 0 := ⟨⟨kq_m (i := 232) (by decide +kernel) rfl, kq_m (i := 61) (by decide +kernel) rfl, by decide +kernel, by decide +kernel, by decide +kernel, by decide +kernel⟩, kq_m (i := 230) (by decide +kernel) rfl, kq_m (i := 231) (by decide +kernel) rfl, TX0, 12, rfl⟩
theorem ym_X0_hasDoor : kq_YV yX0_hasDoor cX0_hasDoor 2 (some .boolean) 1 0 := ⟨⟨kq_m (i := 266) (by decide +kernel) rfl, kq_m (i := 61) (by decide +kernel) rfl, by decide +kernel, by decide +kernel, by decide +kernel, by decide +kernel⟩, kq_m (i := 264) (by decide +kernel) rfl, kq_m (i := 265) (by decide +kernel) rfl, TX0, 12, rfl⟩
theorem ym_X0_hasPerson : kq_YV yX0_hasPerson cX0_hasPerson 2 (some .boolean) 1 0 := ⟨⟨kq_m (i := 262) (by decide +kernel) rfl, kq_m (i := 61) (by decide +kernel) rfl, by decide +kernel, by decide +kernel, by decide +kernel, by decide +kernel⟩, kq_m (i := 260) (by decide +kernel) rfl, kq_m (i := 261) (by decide +kernel) rfl, TX0, 12, rfl⟩
theorem ym_X0_addDoor : kq_YV yX0_addDoor cX0_addDoor 5 (some .boolean) 4 0 := ⟨⟨kq_m (i := 248) (by decide +kernel) rfl, kq_m (i := 61) (by decide +kernel) rfl, by decide +kernel, by decide +kernel, by decide +kernel, by decide +kernel⟩, kq_m (i := 246) (by decide +kernel) rfl, kq_m (i := 247) (by decide +kernel) rfl, TX0, 12, rfl⟩
theorem ym_X0_addPerson : kq_YV yX0_addPerson cX0_addPerson 3 (some .boolean) 2 0 := ⟨⟨kq_m (i := 255) (by decide +kernel) rfl, kq_m (i := 61) (by decide +kernel) rfl, by decide +kernel, by decide +kernel, by decide +kernel, by decide +kernel⟩, kq_m (i := 253) (by decide +kernel) rfl, kq_m (i := 254) (by decide +kernel) rfl, TX0, 12, rfl⟩
theorem ym_X0_leadsFrom : kq_YV yX0_leadsFrom cX0_leadsFrom 3 (some .boolean) 2 0 := ⟨⟨kq_m (i := 274) (by decide +kernel) rfl, kq_m (i := 61) (by decide +kernel) rfl, by decide +kernel, by decide +kernel, by decide +kernel, by decide +kernel⟩, kq_m (i := 272) (by decide +kernel) rfl, kq_m (i := 273) (by decide +kernel) rfl, TX0, 12, rfl⟩
theorem ym_X0_beyond : kq_YV yX0_beyond cX0_beyond 3 (some .int) 2 0 := ⟨⟨kq_m (i := 303) (by decide +kernel) rfl, kq_m (i := 61) (by decide +kernel) rfl, by decide +kernel, by decide +kernel, by decide +kernel, by decide +kernel⟩, kq_m (i := 301) (by decide +kernel) rfl, kq_m (i := 302) (by decide +kernel) rfl, TX0, 12, rfl⟩
theorem ym_X0_canOpen : kq_YV yX0_canOpen cX0_canOpen 3 (some .boolean) 2 0 := ⟨⟨kq_m (i := 270) (by decide +kernel) rfl, kq_m (i := 61) (by decide +kernel) rfl, by decide +kernel, by decide +kernel, by decide +kernel, by decide +kernel⟩, kq_m (i := 268) (by decide +kernel) rfl, kq_m (i := 269) (by decide +kernel) rfl, TX0, 12, rfl⟩
theorem ym_X0_given : kq_YV yX0_given cX0_given 2 (some .int) 1 0 := ⟨⟨kq_m (i := 344) (by decide +kernel) rfl, kq_m (i := 61) (by decide +kernel) rfl, by decide +kernel, by decide +kernel, by decide +kernel, by decide +kernel⟩, kq_m (i := 342) (by decide +kernel) rfl, kq_m (i := 343) (by decide +kernel) rfl, TX0, 12, rfl⟩
theorem ym_X0_givenAfter : kq_YV yX0_givenAfter cX0_givenAfter 4 (some .int) 2 0 := ⟨⟨kq_m (i := 439) (by decide +kernel) rfl, kq_m (i := 61) (by decide +kernel) rfl, by decide +kernel, by decide +kernel, by decide +kernel, by decide +kernel⟩, kq_m (i := 437) (by decide +kernel) rfl, kq_m (i := 438) (by decide +kernel) rfl, TX0, 12, rfl⟩
theorem ym_X0_said : kq_YV yX0_said cX0_said 2 (some .int) 1 0 := ⟨⟨kq_m (i := 291) (by decide +kernel) rfl, kq_m (i := 61) (by decide +kernel) rfl, by decide +kernel, by decide +kernel, by decide +kernel, by decide +kernel⟩, kq_m (i := 289) (by decide +kernel) rfl, kq_m (i := 290) (by decide +kernel) rfl, TX0, 12, rfl⟩
theorem ym_X0_open : kq_YV yX0_open cX0_open 4 none 2 0 := ⟨⟨kq_m (i := 278) (by decide +kernel) rfl, kq_m (i := 61) (by decide +kernel) rfl, by decide +kernel, by decide +kernel, by decide +kernel, by decide +kernel⟩, kq_m (i := 276) (by decide +kernel) rfl, kq_m (i := 277) (by decide +kernel) rfl, TX0, 12, rfl⟩
theorem ym_X0_fill : kq_YV yX0_fill cX0_fill 4 none 3 0 := ⟨⟨kq_m (i := 299) (by decide +kernel) rfl, kq_m (i := 61) (by decide +kernel) rfl, by decide +kernel, by decide +kernel, by decide +kernel, by decide +kernel⟩, kq_m (i := 297) (by decide +kernel) rfl, kq_m (i := 298) (by decide +kernel) rfl, TX0, 12, rfl⟩
theorem ym_X0_heatAfter : kq_YV yX0_heatAfter cX0_heatAfter 3 (some .int) 2 0 := ⟨⟨kq_m (i := 398) (by decide +kernel) rfl, kq_m (i := 61) (by decide +kernel) rfl, by decide +kernel, by decide +kernel, by decide +kernel, by decide +kernel⟩, kq_m (i := 396) (by decide +kernel) rfl, kq_m (i := 397) (by decide +kernel) rfl, TX0, 12, rfl⟩
theorem ym_X0_moodAfter : kq_YV yX0_moodAfter cX0_moodAfter 3 (some .int) 2 0 := ⟨⟨kq_m (i := 335) (by decide +kernel) rfl, kq_m (i := 61) (by decide +kernel) rfl, by decide +kernel, by decide +kernel, by decide +kernel, by decide +kernel⟩, kq_m (i := 333) (by decide +kernel) rfl, kq_m (i := 334) (by decide +kernel) rfl, TX0, 12, rfl⟩
theorem ym_X0_pass : kq_YV yX0_pass cX0_pass 3 none 1 0 := ⟨⟨kq_m (i := 324) (by decide +kernel) rfl, kq_m (i := 61) (by decide +kernel) rfl, by decide +kernel, by decide +kernel, by decide +kernel, by decide +kernel⟩, kq_m (i := 322) (by decide +kernel) rfl, kq_m (i := 323) (by decide +kernel) rfl, TX0, 12, rfl⟩
theorem ym_X0_allHeat : kq_YV yX0_allHeat cX0_allHeat 3 (some .int) 0 0 := ⟨⟨kq_m (i := 390) (by decide +kernel) rfl, kq_m (i := 61) (by decide +kernel) rfl, by decide +kernel, by decide +kernel, by decide +kernel, by decide +kernel⟩, kq_m (i := 388) (by decide +kernel) rfl, kq_m (i := 389) (by decide +kernel) rfl, TX0, 12, rfl⟩
theorem ym_X0_allMood : kq_YV yX0_allMood cX0_allMood 3 (some .int) 0 0 := ⟨⟨kq_m (i := 663) (by decide +kernel) rfl, kq_m (i := 61) (by decide +kernel) rfl, by decide +kernel, by decide +kernel, by decide +kernel, by decide +kernel⟩, kq_m (i := 661) (by decide +kernel) rfl, kq_m (i := 662) (by decide +kernel) rfl, TX0, 12, rfl⟩
theorem ym_X0_doorsOfVoice : kq_YV yX0_doorsOfVoice cX0_doorsOfVoice 4 (some .int) 1 0 := ⟨⟨kq_m (i := 557) (by decide +kernel) rfl, kq_m (i := 61) (by decide +kernel) rfl, by decide +kernel, by decide +kernel, by decide +kernel, by decide +kernel⟩, kq_m (i := 555) (by decide +kernel) rfl, kq_m (i := 556) (by decide +kernel) rfl, TX0, 12, rfl⟩
theorem ym_X1_gives : kq_YS yX1_gives cX1_gives 3 (some .int) 3 := ⟨⟨kq_m (i := 281) (by decide +kernel) rfl, kq_m (i := 65) (by decide +kernel) rfl, by decide +kernel, by decide +kernel, by decide +kernel, by decide +kernel⟩, kq_m (i := 280) (by decide +kernel) rfl⟩
theorem ym_X1_slammedGives : kq_YS yX1_slammedGives cX1_slammedGives 2 (some .int) 2 := ⟨⟨kq_m (i := 284) (by decide +kernel) rfl, kq_m (i := 65) (by decide +kernel) rfl, by decide +kernel, by decide +kernel, by decide +kernel, by decide +kernel⟩, kq_m (i := 283) (by decide +kernel) rfl⟩
theorem ym_X1_keeps : kq_YS yX1_keeps cX1_keeps 3 (some .int) 3 := ⟨⟨kq_m (i := 294) (by decide +kernel) rfl, kq_m (i := 65) (by decide +kernel) rfl, by decide +kernel, by decide +kernel, by decide +kernel, by decide +kernel⟩, kq_m (i := 293) (by decide +kernel) rfl⟩
theorem ym_X1_cooled : kq_YS yX1_cooled cX1_cooled 4 (some .int) 4 := ⟨⟨kq_m (i := 327) (by decide +kernel) rfl, kq_m (i := 65) (by decide +kernel) rfl, by decide +kernel, by decide +kernel, by decide +kernel, by decide +kernel⟩, kq_m (i := 326) (by decide +kernel) rfl⟩
theorem ym_X1_coolsBy : kq_YS yX1_coolsBy cX1_coolsBy 2 (some .int) 2 := ⟨⟨kq_m (i := 330) (by decide +kernel) rfl, kq_m (i := 65) (by decide +kernel) rfl, by decide +kernel, by decide +kernel, by decide +kernel, by decide +kernel⟩, kq_m (i := 329) (by decide +kernel) rfl⟩
theorem ym_X1_ofLetter : kq_YS yX1_ofLetter cX1_ofLetter 1 (some .int) 1 := ⟨⟨kq_m (i := 224) (by decide +kernel) rfl, kq_m (i := 65) (by decide +kernel) rfl, by decide +kernel, by decide +kernel, by decide +kernel, by decide +kernel⟩, kq_m (i := 223) (by decide +kernel) rfl⟩
theorem ym_X2_add : kq_YV yX2_add cX2_add 2 none 1 1 := ⟨⟨kq_m (i := 202) (by decide +kernel) rfl, kq_m (i := 62) (by decide +kernel) rfl, by decide +kernel, by decide +kernel, by decide +kernel, by decide +kernel⟩, kq_m (i := 200) (by decide +kernel) rfl, kq_m (i := 201) (by decide +kernel) rfl, TX2, 2, rfl⟩
theorem ym_X2_at : kq_YV yX2_at cX2_at 2 (some .int) 1 1 := ⟨⟨kq_m (i := 214) (by decide +kernel) rfl, kq_m (i := 62) (by decide +kernel) rfl, by decide +kernel, by decide +kernel, by decide +kernel, by decide +kernel⟩, kq_m (i := 213) (by decide +kernel) rfl, kq_m (i := 1) (by decide +kernel) rfl, TX2, 2, rfl⟩
theorem ym_X2_isDigit : kq_YV yX2_isDigit cX2_isDigit 2 (some .boolean) 1 1 := ⟨⟨kq_m (i := 228) (by decide +kernel) rfl, kq_m (i := 62) (by decide +kernel) rfl, by decide +kernel, by decide +kernel, by decide +kernel, by decide +kernel⟩, kq_m (i := 227) (by decide +kernel) rfl, kq_m (i := 3) (by decide +kernel) rfl, TX2, 2, rfl⟩
theorem ym_X2_digit : kq_YV yX2_digit cX2_digit 2 (some .int) 1 1 := ⟨⟨kq_m (i := 244) (by decide +kernel) rfl, kq_m (i := 62) (by decide +kernel) rfl, by decide +kernel, by decide +kernel, by decide +kernel, by decide +kernel⟩, kq_m (i := 243) (by decide +kernel) rfl, kq_m (i := 5) (by decide +kernel) rfl, TX2, 2, rfl⟩
theorem ym_X2_twoDigits : kq_YV yX2_twoDigits cX2_twoDigits 2 (some .int) 1 1 := ⟨⟨kq_m (i := 310) (by decide +kernel) rfl, kq_m (i := 62) (by decide +kernel) rfl, by decide +kernel, by decide +kernel, by decide +kernel, by decide +kernel⟩, kq_m (i := 309) (by decide +kernel) rfl, kq_m (i := 6) (by decide +kernel) rfl, TX2, 2, rfl⟩
theorem ym_X2_lengthOf : kq_YS yX2_lengthOf cX2_lengthOf 1 (some .int) 1 := ⟨⟨kq_m (i := 217) (by decide +kernel) rfl, kq_m (i := 62) (by decide +kernel) rfl, by decide +kernel, by decide +kernel, by decide +kernel, by decide +kernel⟩, kq_m (i := 216) (by decide +kernel) rfl⟩
theorem ym_X2_misspelling : kq_YV yX2_misspelling cX2_misspelling 5 (some .int) 0 1 := ⟨⟨kq_m (i := 210) (by decide +kernel) rfl, kq_m (i := 62) (by decide +kernel) rfl, by decide +kernel, by decide +kernel, by decide +kernel, by decide +kernel⟩, kq_m (i := 208) (by decide +kernel) rfl, kq_m (i := 209) (by decide +kernel) rfl, TX2, 2, rfl⟩
theorem ym_X2_fits : kq_YV yX2_fits cX2_fits 4 (some .boolean) 3 1 := ⟨⟨kq_m (i := 221) (by decide +kernel) rfl, kq_m (i := 62) (by decide +kernel) rfl, by decide +kernel, by decide +kernel, by decide +kernel, by decide +kernel⟩, kq_m (i := 220) (by decide +kernel) rfl, kq_m (i := 2) (by decide +kernel) rfl, TX2, 2, rfl⟩
theorem ym_X2_carryOut : kq_YV yX2_carryOut cX2_carryOut 5 (some .int) 1 1 := ⟨⟨kq_m (i := 236) (by decide +kernel) rfl, kq_m (i := 62) (by decide +kernel) rfl, by decide +kernel, by decide +kernel, by decide +kernel, by decide +kernel⟩, kq_m (i := 234) (by decide +kernel) rfl, kq_m (i := 235) (by decide +kernel) rfl, TX2, 2, rfl⟩
theorem ym_X2_happens : kq_YV yX2_happens cX2_happens 3 (some .boolean) 2 1 := ⟨⟨kq_m (i := 240) (by decide +kernel) rfl, kq_m (i := 62) (by decide +kernel) rfl, by decide +kernel, by decide +kernel, by decide +kernel, by decide +kernel⟩, kq_m (i := 239) (by decide +kernel) rfl, kq_m (i := 4) (by decide +kernel) rfl, TX2, 2, rfl⟩
theorem ym_X2_isOpened : kq_YS yX2_isOpened cX2_isOpened 3 (some .boolean) 3 := ⟨⟨kq_m (i := 258) (by decide +kernel) rfl, kq_m (i := 62) (by decide +kernel) rfl, by decide +kernel, by decide +kernel, by decide +kernel, by decide +kernel⟩, kq_m (i := 257) (by decide +kernel) rfl⟩
theorem ym_X2_isFilled : kq_YS yX2_isFilled cX2_isFilled 4 (some .boolean) 4 := ⟨⟨kq_m (i := 313) (by decide +kernel) rfl, kq_m (i := 62) (by decide +kernel) rfl, by decide +kernel, by decide +kernel, by decide +kernel, by decide +kernel⟩, kq_m (i := 312) (by decide +kernel) rfl⟩
theorem ym_X2_isAired : kq_YS yX2_isAired cX2_isAired 2 (some .boolean) 2 := ⟨⟨kq_m (i := 317) (by decide +kernel) rfl, kq_m (i := 62) (by decide +kernel) rfl, by decide +kernel, by decide +kernel, by decide +kernel, by decide +kernel⟩, kq_m (i := 316) (by decide +kernel) rfl⟩
theorem ym_X2_goBy : kq_YS yX2_goBy cX2_goBy 2 (some .boolean) 2 := ⟨⟨kq_m (i := 320) (by decide +kernel) rfl, kq_m (i := 62) (by decide +kernel) rfl, by decide +kernel, by decide +kernel, by decide +kernel, by decide +kernel⟩, kq_m (i := 319) (by decide +kernel) rfl⟩
theorem ym_X3_tollNothing : kq_YV yX3_tollNothing cX3_tollNothing 2 none 0 2 := ⟨⟨kq_m (i := 479) (by decide +kernel) rfl, kq_m (i := 63) (by decide +kernel) rfl, by decide +kernel, by decide +kernel, by decide +kernel, by decide +kernel⟩, kq_m (i := 477) (by decide +kernel) rfl, kq_m (i := 478) (by decide +kernel) rfl, TX3, 2, rfl⟩
theorem ym_X3_tollAfter : kq_YV yX3_tollAfter cX3_tollAfter 4 none 2 2 := ⟨⟨kq_m (i := 435) (by decide +kernel) rfl, kq_m (i := 63) (by decide +kernel) rfl, by decide +kernel, by decide +kernel, by decide +kernel, by decide +kernel⟩, kq_m (i := 433) (by decide +kernel) rfl, kq_m (i := 434) (by decide +kernel) rfl, TX3, 2, rfl⟩
theorem ym_X3_setToll : kq_YV yX3_setToll cX3_setToll 3 none 2 2 := ⟨⟨kq_m (i := 499) (by decide +kernel) rfl, kq_m (i := 63) (by decide +kernel) rfl, by decide +kernel, by decide +kernel, by decide +kernel, by decide +kernel⟩, kq_m (i := 497) (by decide +kernel) rfl, kq_m (i := 498) (by decide +kernel) rfl, TX3, 2, rfl⟩
theorem ym_X3_leadTo : kq_YV yX3_leadTo cX3_leadTo 8 none 2 2 := ⟨⟨kq_m (i := 443) (by decide +kernel) rfl, kq_m (i := 63) (by decide +kernel) rfl, by decide +kernel, by decide +kernel, by decide +kernel, by decide +kernel⟩, kq_m (i := 441) (by decide +kernel) rfl, kq_m (i := 442) (by decide +kernel) rfl, TX3, 2, rfl⟩
theorem ym_X3_isCheaper : kq_YV yX3_isCheaper cX3_isCheaper 5 (some .boolean) 3 2 := ⟨⟨kq_m (i := 448) (by decide +kernel) rfl, kq_m (i := 63) (by decide +kernel) rfl, by decide +kernel, by decide +kernel, by decide +kernel, by decide +kernel⟩, kq_m (i := 447) (by decide +kernel) rfl, kq_m (i := 12) (by decide +kernel) rfl, TX3, 2, rfl⟩
theorem ym_X3_priceThrough : kq_YV yX3_priceThrough cX3_priceThrough 3 (some .int) 2 2 := ⟨⟨kq_m (i := 452) (by decide +kernel) rfl, kq_m (i := 63) (by decide +kernel) rfl, by decide +kernel, by decide +kernel, by decide +kernel, by decide +kernel⟩, kq_m (i := 451) (by decide +kernel) rfl, kq_m (i := 13) (by decide +kernel) rfl, TX3, 2, rfl⟩
theorem ym_X3_priceFrom : kq_YV yX3_priceFrom cX3_priceFrom 2 (some .int) 1 2 := ⟨⟨kq_m (i := 456) (by decide +kernel) rfl, kq_m (i := 63) (by decide +kernel) rfl, by decide +kernel, by decide +kernel, by decide +kernel, by decide +kernel⟩, kq_m (i := 455) (by decide +kernel) rfl, kq_m (i := 14) (by decide +kernel) rfl, TX3, 2, rfl⟩
theorem ym_X3_givenFrom : kq_YV yX3_givenFrom cX3_givenFrom 2 (some .int) 1 2 := ⟨⟨kq_m (i := 461) (by decide +kernel) rfl, kq_m (i := 63) (by decide +kernel) rfl, by decide +kernel, by decide +kernel, by decide +kernel, by decide +kernel⟩, kq_m (i := 459) (by decide +kernel) rfl, kq_m (i := 460) (by decide +kernel) rfl, TX3, 2, rfl⟩
theorem ym_X3_doorsFrom : kq_YV yX3_doorsFrom cX3_doorsFrom 2 (some .int) 1 2 := ⟨⟨kq_m (i := 465) (by decide +kernel) rfl, kq_m (i := 63) (by decide +kernel) rfl, by decide +kernel, by decide +kernel, by decide +kernel, by decide +kernel⟩, kq_m (i := 463) (by decide +kernel) rfl, kq_m (i := 464) (by decide +kernel) rfl, TX3, 2, rfl⟩
theorem ym_X3_doorFrom : kq_YV yX3_doorFrom cX3_doorFrom 4 (some .int) 2 2 := ⟨⟨kq_m (i := 469) (by decide +kernel) rfl, kq_m (i := 63) (by decide +kernel) rfl, by decide +kernel, by decide +kernel, by decide +kernel, by decide +kernel⟩, kq_m (i := 467) (by decide +kernel) rfl, kq_m (i := 468) (by decide +kernel) rfl, TX3, 2, rfl⟩
theorem ym_X4_letter : kq_YV yX4_letter cX4_letter 2 (some .int) 1 3 := ⟨⟨kq_m (i := 194) (by decide +kernel) rfl, kq_m (i := 60) (by decide +kernel) rfl, by decide +kernel, by decide +kernel, by decide +kernel, by decide +kernel⟩, kq_m (i := 192) (by decide +kernel) rfl, kq_m (i := 193) (by decide +kernel) rfl, TX4, 9, rfl⟩
theorem ym_X4_house : kq_YV yX4_house cX4_house 2 (some .int) 0 3 := ⟨⟨kq_m (i := 206) (by decide +kernel) rfl, kq_m (i := 60) (by decide +kernel) rfl, by decide +kernel, by decide +kernel, by decide +kernel, by decide +kernel⟩, kq_m (i := 204) (by decide +kernel) rfl, kq_m (i := 205) (by decide +kernel) rfl, TX4, 9, rfl⟩
theorem ym_X4_door : kq_YV yX4_door cX4_door 3 (some .int) 2 3 := ⟨⟨kq_m (i := 339) (by decide +kernel) rfl, kq_m (i := 60) (by decide +kernel) rfl, by decide +kernel, by decide +kernel, by decide +kernel, by decide +kernel⟩, kq_m (i := 337) (by decide +kernel) rfl, kq_m (i := 338) (by decide +kernel) rfl, TX4, 9, rfl⟩
theorem ym_X4_person : kq_YV yX4_person cX4_person 3 (some .int) 2 3 := ⟨⟨kq_m (i := 348) (by decide +kernel) rfl, kq_m (i := 60) (by decide +kernel) rfl, by decide +kernel, by decide +kernel, by decide +kernel, by decide +kernel⟩, kq_m (i := 346) (by decide +kernel) rfl, kq_m (i := 347) (by decide +kernel) rfl, TX4, 9, rfl⟩
theorem ym_X4_opens : kq_YV yX4_opens cX4_opens 3 (some .int) 2 3 := ⟨⟨kq_m (i := 354) (by decide +kernel) rfl, kq_m (i := 60) (by decide +kernel) rfl, by decide +kernel, by decide +kernel, by decide +kernel, by decide +kernel⟩, kq_m (i := 352) (by decide +kernel) rfl, kq_m (i := 353) (by decide +kernel) rfl, TX4, 9, rfl⟩
theorem ym_X4_quarrels : kq_YV yX4_quarrels cX4_quarrels 6 (some .int) 3 3 := ⟨⟨kq_m (i := 360) (by decide +kernel) rfl, kq_m (i := 60) (by decide +kernel) rfl, by decide +kernel, by decide +kernel, by decide +kernel, by decide +kernel⟩, kq_m (i := 358) (by decide +kernel) rfl, kq_m (i := 359) (by decide +kernel) rfl, TX4, 9, rfl⟩
theorem ym_X4_airs : kq_YV yX4_airs cX4_airs 3 (some .int) 1 3 := ⟨⟨kq_m (i := 368) (by decide +kernel) rfl, kq_m (i := 60) (by decide +kernel) rfl, by decide +kernel, by decide +kernel, by decide +kernel, by decide +kernel⟩, kq_m (i := 366) (by decide +kernel) rfl, kq_m (i := 367) (by decide +kernel) rfl, TX4, 9, rfl⟩
theorem ym_X4_moods : kq_YV yX4_moods cX4_moods 5 (some .int) 2 3 := ⟨⟨kq_m (i := 372) (by decide +kernel) rfl, kq_m (i := 60) (by decide +kernel) rfl, by decide +kernel, by decide +kernel, by decide +kernel, by decide +kernel⟩, kq_m (i := 370) (by decide +kernel) rfl, kq_m (i := 371) (by decide +kernel) rfl, TX4, 9, rfl⟩
theorem ym_X4_stands : kq_YV yX4_stands cX4_stands 4 (some .int) 2 3 := ⟨⟨kq_m (i := 376) (by decide +kernel) rfl, kq_m (i := 60) (by decide +kernel) rfl, by decide +kernel, by decide +kernel, by decide +kernel, by decide +kernel⟩, kq_m (i := 374) (by decide +kernel) rfl, kq_m (i := 375) (by decide +kernel) rfl, TX4, 9, rfl⟩
theorem ym_X4_turn : kq_YV yX4_turn cX4_turn 6 (some .int) 3 3 := ⟨⟨kq_m (i := 381) (by decide +kernel) rfl, kq_m (i := 60) (by decide +kernel) rfl, by decide +kernel, by decide +kernel, by decide +kernel, by decide +kernel⟩, kq_m (i := 379) (by decide +kernel) rfl, kq_m (i := 380) (by decide +kernel) rfl, TX4, 9, rfl⟩
theorem ym_X4_hours : kq_YV yX4_hours cX4_hours 3 (some .int) 1 3 := ⟨⟨kq_m (i := 385) (by decide +kernel) rfl, kq_m (i := 60) (by decide +kernel) rfl, by decide +kernel, by decide +kernel, by decide +kernel, by decide +kernel⟩, kq_m (i := 383) (by decide +kernel) rfl, kq_m (i := 384) (by decide +kernel) rfl, TX4, 9, rfl⟩
theorem ym_X4_doorThen : kq_YV yX4_doorThen cX4_doorThen 6 (some .int) 3 3 := ⟨⟨kq_m (i := 394) (by decide +kernel) rfl, kq_m (i := 60) (by decide +kernel) rfl, by decide +kernel, by decide +kernel, by decide +kernel, by decide +kernel⟩, kq_m (i := 392) (by decide +kernel) rfl, kq_m (i := 393) (by decide +kernel) rfl, TX4, 9, rfl⟩
theorem ym_X4_moodThen : kq_YV yX4_moodThen cX4_moodThen 4 (some .int) 2 3 := ⟨⟨kq_m (i := 402) (by decide +kernel) rfl, kq_m (i := 60) (by decide +kernel) rfl, by decide +kernel, by decide +kernel, by decide +kernel, by decide +kernel⟩, kq_m (i := 400) (by decide +kernel) rfl, kq_m (i := 401) (by decide +kernel) rfl, TX4, 9, rfl⟩
theorem ym_X4_first : kq_YV yX4_first cX4_first 2 (some .int) 1 3 := ⟨⟨kq_m (i := 407) (by decide +kernel) rfl, kq_m (i := 60) (by decide +kernel) rfl, by decide +kernel, by decide +kernel, by decide +kernel, by decide +kernel⟩, kq_m (i := 405) (by decide +kernel) rfl, kq_m (i := 406) (by decide +kernel) rfl, TX4, 9, rfl⟩
theorem ym_X4_cold : kq_YV yX4_cold cX4_cold 2 (some .int) 0 3 := ⟨⟨kq_m (i := 411) (by decide +kernel) rfl, kq_m (i := 60) (by decide +kernel) rfl, by decide +kernel, by decide +kernel, by decide +kernel, by decide +kernel⟩, kq_m (i := 410) (by decide +kernel) rfl, kq_m (i := 7) (by decide +kernel) rfl, TX4, 9, rfl⟩
theorem ym_X4_isColdAfter : kq_YV yX4_isColdAfter cX4_isColdAfter 3 (some .boolean) 1 3 := ⟨⟨kq_m (i := 415) (by decide +kernel) rfl, kq_m (i := 60) (by decide +kernel) rfl, by decide +kernel, by decide +kernel, by decide +kernel, by decide +kernel⟩, kq_m (i := 414) (by decide +kernel) rfl, kq_m (i := 8) (by decide +kernel) rfl, TX4, 9, rfl⟩
theorem ym_X4_hottest : kq_YV yX4_hottest cX4_hottest 4 (some .int) 0 3 := ⟨⟨kq_m (i := 419) (by decide +kernel) rfl, kq_m (i := 60) (by decide +kernel) rfl, by decide +kernel, by decide +kernel, by decide +kernel, by decide +kernel⟩, kq_m (i := 418) (by decide +kernel) rfl, kq_m (i := 9) (by decide +kernel) rfl, TX4, 9, rfl⟩
theorem ym_X4_loudest : kq_YV yX4_loudest cX4_loudest 4 (some .int) 0 3 := ⟨⟨kq_m (i := 423) (by decide +kernel) rfl, kq_m (i := 60) (by decide +kernel) rfl, by decide +kernel, by decide +kernel, by decide +kernel, by decide +kernel⟩, kq_m (i := 422) (by decide +kernel) rfl, kq_m (i := 10) (by decide +kernel) rfl, TX4, 9, rfl⟩
theorem ym_X4_way : kq_YV yX4_way cX4_way 5 (some .int) 3 3 := ⟨⟨kq_m (i := 427) (by decide +kernel) rfl, kq_m (i := 60) (by decide +kernel) rfl, by decide +kernel, by decide +kernel, by decide +kernel, by decide +kernel⟩, kq_m (i := 425) (by decide +kernel) rfl, kq_m (i := 426) (by decide +kernel) rfl, TX4, 9, rfl⟩
theorem ym_X4_fewest : kq_YV yX4_fewest cX4_fewest 3 (some .int) 2 3 := ⟨⟨kq_m (i := 475) (by decide +kernel) rfl, kq_m (i := 60) (by decide +kernel) rfl, by decide +kernel, by decide +kernel, by decide +kernel, by decide +kernel⟩, kq_m (i := 473) (by decide +kernel) rfl, kq_m (i := 474) (by decide +kernel) rfl, TX4, 9, rfl⟩
theorem ym_X4_near : kq_YV yX4_near cX4_near 4 (some .int) 1 3 := ⟨⟨kq_m (i := 483) (by decide +kernel) rfl, kq_m (i := 60) (by decide +kernel) rfl, by decide +kernel, by decide +kernel, by decide +kernel, by decide +kernel⟩, kq_m (i := 481) (by decide +kernel) rfl, kq_m (i := 482) (by decide +kernel) rfl, TX4, 9, rfl⟩
theorem ym_X4_cutOff : kq_YV yX4_cutOff cX4_cutOff 3 (some .int) 0 3 := ⟨⟨kq_m (i := 487) (by decide +kernel) rfl, kq_m (i := 60) (by decide +kernel) rfl, by decide +kernel, by decide +kernel, by decide +kernel, by decide +kernel⟩, kq_m (i := 485) (by decide +kernel) rfl, kq_m (i := 486) (by decide +kernel) rfl, TX4, 9, rfl⟩
theorem ym_X4_goes : kq_YV yX4_goes cX4_goes 6 (some .int) 2 3 := ⟨⟨kq_m (i := 491) (by decide +kernel) rfl, kq_m (i := 60) (by decide +kernel) rfl, by decide +kernel, by decide +kernel, by decide +kernel, by decide +kernel⟩, kq_m (i := 489) (by decide +kernel) rfl, kq_m (i := 490) (by decide +kernel) rfl, TX4, 9, rfl⟩
theorem ym_X4_air : kq_YV yX4_air cX4_air 7 (some .int) 2 3 := ⟨⟨kq_m (i := 495) (by decide +kernel) rfl, kq_m (i := 60) (by decide +kernel) rfl, by decide +kernel, by decide +kernel, by decide +kernel, by decide +kernel⟩, kq_m (i := 493) (by decide +kernel) rfl, kq_m (i := 494) (by decide +kernel) rfl, TX4, 9, rfl⟩
theorem ym_X4_shut : kq_YV yX4_shut cX4_shut 5 (some .int) 2 3 := ⟨⟨kq_m (i := 503) (by decide +kernel) rfl, kq_m (i := 60) (by decide +kernel) rfl, by decide +kernel, by decide +kernel, by decide +kernel, by decide +kernel⟩, kq_m (i := 501) (by decide +kernel) rfl, kq_m (i := 502) (by decide +kernel) rfl, TX4, 9, rfl⟩
theorem ym_X4_pause : kq_YV yX4_pause cX4_pause 7 (some .int) 3 3 := ⟨⟨kq_m (i := 507) (by decide +kernel) rfl, kq_m (i := 60) (by decide +kernel) rfl, by decide +kernel, by decide +kernel, by decide +kernel, by decide +kernel⟩, kq_m (i := 505) (by decide +kernel) rfl, kq_m (i := 506) (by decide +kernel) rfl, TX4, 9, rfl⟩
theorem ym_X4_findWaysTo : kq_YV yX4_findWaysTo cX4_findWaysTo 3 none 2 3 := ⟨⟨kq_m (i := 431) (by decide +kernel) rfl, kq_m (i := 60) (by decide +kernel) rfl, by decide +kernel, by decide +kernel, by decide +kernel, by decide +kernel⟩, kq_m (i := 430) (by decide +kernel) rfl, kq_m (i := 11) (by decide +kernel) rfl, TX4, 9, rfl⟩
theorem ym_X4_walk : kq_YV yX4_walk cX4_walk 5 (some .int) 2 3 := ⟨⟨kq_m (i := 511) (by decide +kernel) rfl, kq_m (i := 60) (by decide +kernel) rfl, by decide +kernel, by decide +kernel, by decide +kernel, by decide +kernel⟩, kq_m (i := 509) (by decide +kernel) rfl, kq_m (i := 510) (by decide +kernel) rfl, TX4, 9, rfl⟩
theorem ym_X4_order : kq_YV yX4_order cX4_order 7 (some .int) 3 3 := ⟨⟨kq_m (i := 515) (by decide +kernel) rfl, kq_m (i := 60) (by decide +kernel) rfl, by decide +kernel, by decide +kernel, by decide +kernel, by decide +kernel⟩, kq_m (i := 513) (by decide +kernel) rfl, kq_m (i := 514) (by decide +kernel) rfl, TX4, 9, rfl⟩
theorem ym_X4_echo : kq_YV yX4_echo cX4_echo 6 (some .int) 3 3 := ⟨⟨kq_m (i := 528) (by decide +kernel) rfl, kq_m (i := 60) (by decide +kernel) rfl, by decide +kernel, by decide +kernel, by decide +kernel, by decide +kernel⟩, kq_m (i := 526) (by decide +kernel) rfl, kq_m (i := 527) (by decide +kernel) rfl, TX4, 9, rfl⟩
theorem ym_X4_notTogether : kq_YV yX4_notTogether cX4_notTogether 4 (some .int) 3 3 := ⟨⟨kq_m (i := 519) (by decide +kernel) rfl, kq_m (i := 60) (by decide +kernel) rfl, by decide +kernel, by decide +kernel, by decide +kernel, by decide +kernel⟩, kq_m (i := 518) (by decide +kernel) rfl, kq_m (i := 15) (by decide +kernel) rfl, TX4, 9, rfl⟩
theorem ym_X4_openBoth : kq_YV yX4_openBoth cX4_openBoth 4 none 3 3 := ⟨⟨kq_m (i := 523) (by decide +kernel) rfl, kq_m (i := 60) (by decide +kernel) rfl, by decide +kernel, by decide +kernel, by decide +kernel, by decide +kernel⟩, kq_m (i := 522) (by decide +kernel) rfl, kq_m (i := 16) (by decide +kernel) rfl, TX4, 9, rfl⟩
theorem ym_X4_two : kq_YV yX4_two cX4_two 7 (some .int) 3 3 := ⟨⟨kq_m (i := 533) (by decide +kernel) rfl, kq_m (i := 60) (by decide +kernel) rfl, by decide +kernel, by decide +kernel, by decide +kernel, by decide +kernel⟩, kq_m (i := 531) (by decide +kernel) rfl, kq_m (i := 532) (by decide +kernel) rfl, TX4, 9, rfl⟩
theorem ym_X4_firstIsContent : kq_YV yX4_firstIsContent cX4_firstIsContent 4 (some .boolean) 3 3 := ⟨⟨kq_m (i := 537) (by decide +kernel) rfl, kq_m (i := 60) (by decide +kernel) rfl, by decide +kernel, by decide +kernel, by decide +kernel, by decide +kernel⟩, kq_m (i := 536) (by decide +kernel) rfl, kq_m (i := 17) (by decide +kernel) rfl, TX4, 9, rfl⟩
theorem ym_X4_wishOfFirst : kq_YV yX4_wishOfFirst cX4_wishOfFirst 4 (some .int) 3 3 := ⟨⟨kq_m (i := 541) (by decide +kernel) rfl, kq_m (i := 60) (by decide +kernel) rfl, by decide +kernel, by decide +kernel, by decide +kernel, by decide +kernel⟩, kq_m (i := 540) (by decide +kernel) rfl, kq_m (i := 18) (by decide +kernel) rfl, TX4, 9, rfl⟩
theorem ym_X4_secondIsContent : kq_YV yX4_secondIsContent cX4_secondIsContent 6 (some .boolean) 5 3 := ⟨⟨kq_m (i := 545) (by decide +kernel) rfl, kq_m (i := 60) (by decide +kernel) rfl, by decide +kernel, by decide +kernel, by decide +kernel, by decide +kernel⟩, kq_m (i := 544) (by decide +kernel) rfl, kq_m (i := 19) (by decide +kernel) rfl, TX4, 9, rfl⟩
theorem ym_X4_wishOfSecond : kq_YV yX4_wishOfSecond cX4_wishOfSecond 6 (some .int) 5 3 := ⟨⟨kq_m (i := 549) (by decide +kernel) rfl, kq_m (i := 60) (by decide +kernel) rfl, by decide +kernel, by decide +kernel, by decide +kernel, by decide +kernel⟩, kq_m (i := 548) (by decide +kernel) rfl, kq_m (i := 20) (by decide +kernel) rfl, TX4, 9, rfl⟩
theorem ym_X4_voices : kq_YV yX4_voices cX4_voices 2 (some .int) 1 3 := ⟨⟨kq_m (i := 553) (by decide +kernel) rfl, kq_m (i := 60) (by decide +kernel) rfl, by decide +kernel, by decide +kernel, by decide +kernel, by decide +kernel⟩, kq_m (i := 551) (by decide +kernel) rfl, kq_m (i := 552) (by decide +kernel) rfl, TX4, 9, rfl⟩
theorem ym_X4_heard : kq_YV yX4_heard cX4_heard 2 (some .int) 1 3 := ⟨⟨kq_m (i := 561) (by decide +kernel) rfl, kq_m (i := 60) (by decide +kernel) rfl, by decide +kernel, by decide +kernel, by decide +kernel, by decide +kernel⟩, kq_m (i := 559) (by decide +kernel) rfl, kq_m (i := 560) (by decide +kernel) rfl, TX4, 9, rfl⟩
theorem ym_X4_mostHeard : kq_YV yX4_mostHeard cX4_mostHeard 5 (some .int) 0 3 := ⟨⟨kq_m (i := 565) (by decide +kernel) rfl, kq_m (i := 60) (by decide +kernel) rfl, by decide +kernel, by decide +kernel, by decide +kernel, by decide +kernel⟩, kq_m (i := 564) (by decide +kernel) rfl, kq_m (i := 21) (by decide +kernel) rfl, TX4, 9, rfl⟩
theorem ym_X4_worst : kq_YV yX4_worst cX4_worst 4 (some .int) 0 3 := ⟨⟨kq_m (i := 575) (by decide +kernel) rfl, kq_m (i := 60) (by decide +kernel) rfl, by decide +kernel, by decide +kernel, by decide +kernel, by decide +kernel⟩, kq_m (i := 574) (by decide +kernel) rfl, kq_m (i := 22) (by decide +kernel) rfl, TX4, 9, rfl⟩
theorem ym_X4_meet : kq_YV yX4_meet cX4_meet 6 (some .int) 1 3 := ⟨⟨kq_m (i := 579) (by decide +kernel) rfl, kq_m (i := 60) (by decide +kernel) rfl, by decide +kernel, by decide +kernel, by decide +kernel, by decide +kernel⟩, kq_m (i := 577) (by decide +kernel) rfl, kq_m (i := 578) (by decide +kernel) rfl, TX4, 9, rfl⟩
theorem ym_X4_givenToAll : kq_YV yX4_givenToAll cX4_givenToAll 5 (some .int) 1 3 := ⟨⟨kq_m (i := 583) (by decide +kernel) rfl, kq_m (i := 60) (by decide +kernel) rfl, by decide +kernel, by decide +kernel, by decide +kernel, by decide +kernel⟩, kq_m (i := 582) (by decide +kernel) rfl, kq_m (i := 23) (by decide +kernel) rfl, TX4, 9, rfl⟩
theorem ym_X4_draught : kq_YV yX4_draught cX4_draught 13 (some .long) 5 3 := ⟨⟨kq_m (i := 587) (by decide +kernel) rfl, kq_m (i := 60) (by decide +kernel) rfl, by decide +kernel, by decide +kernel, by decide +kernel, by decide +kernel⟩, kq_m (i := 585) (by decide +kernel) rfl, kq_m (i := 586) (by decide +kernel) rfl, TX4, 9, rfl⟩
theorem ym_X4_weightOf : kq_YS yX4_weightOf cX4_weightOf 6 (some .long) 3 := ⟨⟨kq_m (i := 595) (by decide +kernel) rfl, kq_m (i := 60) (by decide +kernel) rfl, by decide +kernel, by decide +kernel, by decide +kernel, by decide +kernel⟩, kq_m (i := 594) (by decide +kernel) rfl⟩
theorem ym_X4_givenBehind : kq_YV yX4_givenBehind cX4_givenBehind 8 (some .int) 3 3 := ⟨⟨kq_m (i := 599) (by decide +kernel) rfl, kq_m (i := 60) (by decide +kernel) rfl, by decide +kernel, by decide +kernel, by decide +kernel, by decide +kernel⟩, kq_m (i := 598) (by decide +kernel) rfl, kq_m (i := 25) (by decide +kernel) rfl, TX4, 9, rfl⟩
theorem ym_X4_mean : kq_YV yX4_mean cX4_mean 2 (some .long) 1 3 := ⟨⟨kq_m (i := 608) (by decide +kernel) rfl, kq_m (i := 60) (by decide +kernel) rfl, by decide +kernel, by decide +kernel, by decide +kernel, by decide +kernel⟩, kq_m (i := 606) (by decide +kernel) rfl, kq_m (i := 607) (by decide +kernel) rfl, TX4, 9, rfl⟩
theorem ym_X4_partOf : kq_YS yX4_partOf cX4_partOf 12 (some .long) 3 := ⟨⟨kq_m (i := 604) (by decide +kernel) rfl, kq_m (i := 60) (by decide +kernel) rfl, by decide +kernel, by decide +kernel, by decide +kernel, by decide +kernel⟩, kq_m (i := 603) (by decide +kernel) rfl⟩
theorem ym_X4_row : kq_YV yX4_row cX4_row 2 (some .int) 1 3 := ⟨⟨kq_m (i := 613) (by decide +kernel) rfl, kq_m (i := 60) (by decide +kernel) rfl, by decide +kernel, by decide +kernel, by decide +kernel, by decide +kernel⟩, kq_m (i := 611) (by decide +kernel) rfl, kq_m (i := 612) (by decide +kernel) rfl, TX4, 9, rfl⟩
theorem ym_X4_clear : kq_YV yX4_clear cX4_clear 2 (some .int) 0 3 := ⟨⟨kq_m (i := 617) (by decide +kernel) rfl, kq_m (i := 60) (by decide +kernel) rfl, by decide +kernel, by decide +kernel, by decide +kernel, by decide +kernel⟩, kq_m (i := 615) (by decide +kernel) rfl, kq_m (i := 616) (by decide +kernel) rfl, TX4, 9, rfl⟩
theorem ym_X4_judge : kq_YV yX4_judge cX4_judge 3 (some .int) 0 3 := ⟨⟨kq_m (i := 621) (by decide +kernel) rfl, kq_m (i := 60) (by decide +kernel) rfl, by decide +kernel, by decide +kernel, by decide +kernel, by decide +kernel⟩, kq_m (i := 619) (by decide +kernel) rfl, kq_m (i := 620) (by decide +kernel) rfl, TX4, 9, rfl⟩
theorem ym_X4_who : kq_YV yX4_who cX4_who 6 (some .int) 1 3 := ⟨⟨kq_m (i := 625) (by decide +kernel) rfl, kq_m (i := 60) (by decide +kernel) rfl, by decide +kernel, by decide +kernel, by decide +kernel, by decide +kernel⟩, kq_m (i := 623) (by decide +kernel) rfl, kq_m (i := 624) (by decide +kernel) rfl, TX4, 9, rfl⟩
theorem ym_X4_whatIs : kq_YV yX4_whatIs cX4_whatIs 3 (some .int) 2 3 := ⟨⟨kq_m (i := 634) (by decide +kernel) rfl, kq_m (i := 60) (by decide +kernel) rfl, by decide +kernel, by decide +kernel, by decide +kernel, by decide +kernel⟩, kq_m (i := 632) (by decide +kernel) rfl, kq_m (i := 633) (by decide +kernel) rfl, TX4, 9, rfl⟩
theorem ym_X4_kindsTold : kq_YV yX4_kindsTold cX4_kindsTold 5 (some .int) 2 3 := ⟨⟨kq_m (i := 638) (by decide +kernel) rfl, kq_m (i := 60) (by decide +kernel) rfl, by decide +kernel, by decide +kernel, by decide +kernel, by decide +kernel⟩, kq_m (i := 637) (by decide +kernel) rfl, kq_m (i := 27) (by decide +kernel) rfl, TX4, 9, rfl⟩
theorem ym_X4_figuresTold : kq_YV yX4_figuresTold cX4_figuresTold 5 (some .int) 2 3 := ⟨⟨kq_m (i := 642) (by decide +kernel) rfl, kq_m (i := 60) (by decide +kernel) rfl, by decide +kernel, by decide +kernel, by decide +kernel, by decide +kernel⟩, kq_m (i := 641) (by decide +kernel) rfl, kq_m (i := 28) (by decide +kernel) rfl, TX4, 9, rfl⟩
theorem ym_X4_rowTells : kq_YV yX4_rowTells cX4_rowTells 5 (some .boolean) 3 3 := ⟨⟨kq_m (i := 630) (by decide +kernel) rfl, kq_m (i := 60) (by decide +kernel) rfl, by decide +kernel, by decide +kernel, by decide +kernel, by decide +kernel⟩, kq_m (i := 629) (by decide +kernel) rfl, kq_m (i := 26) (by decide +kernel) rfl, TX4, 9, rfl⟩
theorem ym_X4_lots : kq_YV yX4_lots cX4_lots 8 (some .int) 3 3 := ⟨⟨kq_m (i := 646) (by decide +kernel) rfl, kq_m (i := 60) (by decide +kernel) rfl, by decide +kernel, by decide +kernel, by decide +kernel, by decide +kernel⟩, kq_m (i := 644) (by decide +kernel) rfl, kq_m (i := 645) (by decide +kernel) rfl, TX4, 9, rfl⟩
theorem ym_X4_dayByLot : kq_YV yX4_dayByLot cX4_dayByLot 6 (some .int) 1 3 := ⟨⟨kq_m (i := 650) (by decide +kernel) rfl, kq_m (i := 60) (by decide +kernel) rfl, by decide +kernel, by decide +kernel, by decide +kernel, by decide +kernel⟩, kq_m (i := 649) (by decide +kernel) rfl, kq_m (i := 29) (by decide +kernel) rfl, TX4, 9, rfl⟩
theorem ym_X4_nextSeed : kq_YS yX4_nextSeed cX4_nextSeed 1 (some .int) 1 := ⟨⟨kq_m (i := 653) (by decide +kernel) rfl, kq_m (i := 60) (by decide +kernel) rfl, by decide +kernel, by decide +kernel, by decide +kernel, by decide +kernel⟩, kq_m (i := 652) (by decide +kernel) rfl⟩
theorem ym_X4_drawn : kq_YS yX4_drawn cX4_drawn 2 (some .int) 2 := ⟨⟨kq_m (i := 658) (by decide +kernel) rfl, kq_m (i := 60) (by decide +kernel) rfl, by decide +kernel, by decide +kernel, by decide +kernel, by decide +kernel⟩, kq_m (i := 657) (by decide +kernel) rfl⟩
theorem ym_X4_image : kq_YV yX4_image cX4_image 1 (some .int) 0 3 := ⟨⟨kq_m (i := 667) (by decide +kernel) rfl, kq_m (i := 60) (by decide +kernel) rfl, by decide +kernel, by decide +kernel, by decide +kernel, by decide +kernel⟩, kq_m (i := 665) (by decide +kernel) rfl, kq_m (i := 666) (by decide +kernel) rfl, TX4, 9, rfl⟩
theorem ym_X4_on : kq_YV yX4_on cX4_on 1 (some .int) 0 3 := ⟨⟨kq_m (i := 671) (by decide +kernel) rfl, kq_m (i := 60) (by decide +kernel) rfl, by decide +kernel, by decide +kernel, by decide +kernel, by decide +kernel⟩, kq_m (i := 669) (by decide +kernel) rfl, kq_m (i := 670) (by decide +kernel) rfl, TX4, 9, rfl⟩
theorem ym_X4_count : kq_YV yX4_count cX4_count 2 (some .int) 1 3 := ⟨⟨kq_m (i := 675) (by decide +kernel) rfl, kq_m (i := 60) (by decide +kernel) rfl, by decide +kernel, by decide +kernel, by decide +kernel, by decide +kernel⟩, kq_m (i := 673) (by decide +kernel) rfl, kq_m (i := 674) (by decide +kernel) rfl, TX4, 9, rfl⟩
theorem ym_X4_refusalsCounted : kq_YV yX4_refusalsCounted cX4_refusalsCounted 2 (some .int) 1 3 := ⟨⟨kq_m (i := 679) (by decide +kernel) rfl, kq_m (i := 60) (by decide +kernel) rfl, by decide +kernel, by decide +kernel, by decide +kernel, by decide +kernel⟩, kq_m (i := 678) (by decide +kernel) rfl, kq_m (i := 30) (by decide +kernel) rfl, TX4, 9, rfl⟩
theorem ym_X4_refuse : kq_YV yX4_refuse cX4_refuse 2 (some .int) 1 3 := ⟨⟨kq_m (i := 198) (by decide +kernel) rfl, kq_m (i := 60) (by decide +kernel) rfl, by decide +kernel, by decide +kernel, by decide +kernel, by decide +kernel⟩, kq_m (i := 197) (by decide +kernel) rfl, kq_m (i := 0) (by decide +kernel) rfl, TX4, 9, rfl⟩
theorem ym_X4_refuseLong : kq_YV yX4_refuseLong cX4_refuseLong 2 (some .long) 1 3 := ⟨⟨kq_m (i := 591) (by decide +kernel) rfl, kq_m (i := 60) (by decide +kernel) rfl, by decide +kernel, by decide +kernel, by decide +kernel, by decide +kernel⟩, kq_m (i := 590) (by decide +kernel) rfl, kq_m (i := 24) (by decide +kernel) rfl, TX4, 9, rfl⟩
theorem ym_X4_outside : kq_YS yX4_outside cX4_outside 3 (some .int) 3 := ⟨⟨kq_m (i := 363) (by decide +kernel) rfl, kq_m (i := 60) (by decide +kernel) rfl, by decide +kernel, by decide +kernel, by decide +kernel, by decide +kernel⟩, kq_m (i := 362) (by decide +kernel) rfl⟩
theorem ym_X4_isRoom : kq_YS yX4_isRoom cX4_isRoom 1 (some .boolean) 1 := ⟨⟨kq_m (i := 251) (by decide +kernel) rfl, kq_m (i := 60) (by decide +kernel) rfl, by decide +kernel, by decide +kernel, by decide +kernel, by decide +kernel⟩, kq_m (i := 250) (by decide +kernel) rfl⟩
theorem ym_X5_isIn : kq_YS yX5_isIn cX5_isIn 3 (some .boolean) 3 := ⟨⟨kq_m (i := 762) (by decide +kernel) rfl, kq_m (i := 64) (by decide +kernel) rfl, by decide +kernel, by decide +kernel, by decide +kernel, by decide +kernel⟩, kq_m (i := 761) (by decide +kernel) rfl⟩
theorem ym_X5_held : kq_YS yX5_held cX5_held 1 (some .int) 1 := ⟨⟨kq_m (i := 802) (by decide +kernel) rfl, kq_m (i := 64) (by decide +kernel) rfl, by decide +kernel, by decide +kernel, by decide +kernel, by decide +kernel⟩, kq_m (i := 801) (by decide +kernel) rfl⟩
theorem ym_X5_copies : kq_YS yX5_copies cX5_copies 3 none 2 := ⟨⟨kq_m (i := 765) (by decide +kernel) rfl, kq_m (i := 64) (by decide +kernel) rfl, by decide +kernel, by decide +kernel, by decide +kernel, by decide +kernel⟩, kq_m (i := 764) (by decide +kernel) rfl⟩
theorem ym_X5_no : kq_YV yX5_no cX5_no 2 (some .int) 1 4 := ⟨⟨kq_m (i := 736) (by decide +kernel) rfl, kq_m (i := 64) (by decide +kernel) rfl, by decide +kernel, by decide +kernel, by decide +kernel, by decide +kernel⟩, kq_m (i := 735) (by decide +kernel) rfl, kq_m (i := 31) (by decide +kernel) rfl, TX5, 14, rfl⟩
theorem ym_X5_noFar : kq_YV yX5_noFar cX5_noFar 2 (some .int) 1 4 := ⟨⟨kq_m (i := 982) (by decide +kernel) rfl, kq_m (i := 64) (by decide +kernel) rfl, by decide +kernel, by decide +kernel, by decide +kernel, by decide +kernel⟩, kq_m (i := 981) (by decide +kernel) rfl, kq_m (i := 51) (by decide +kernel) rfl, TX5, 14, rfl⟩
theorem ym_X5_noWide : kq_YV yX5_noWide cX5_noWide 2 (some .long) 1 4 := ⟨⟨kq_m (i := 1025) (by decide +kernel) rfl, kq_m (i := 64) (by decide +kernel) rfl, by decide +kernel, by decide +kernel, by decide +kernel, by decide +kernel⟩, kq_m (i := 1024) (by decide +kernel) rfl, kq_m (i := 56) (by decide +kernel) rfl, TX5, 14, rfl⟩
theorem ym_X5_ofD : kq_YS yX5_ofD cX5_ofD 2 (some .int) 2 := ⟨⟨kq_m (i := 779) (by decide +kernel) rfl, kq_m (i := 64) (by decide +kernel) rfl, by decide +kernel, by decide +kernel, by decide +kernel, by decide +kernel⟩, kq_m (i := 778) (by decide +kernel) rfl⟩
theorem ym_X5_ofP : kq_YS yX5_ofP cX5_ofP 2 (some .int) 2 := ⟨⟨kq_m (i := 782) (by decide +kernel) rfl, kq_m (i := 64) (by decide +kernel) rfl, by decide +kernel, by decide +kernel, by decide +kernel, by decide +kernel⟩, kq_m (i := 781) (by decide +kernel) rfl⟩
theorem ym_X5_isDoor : kq_YV yX5_isDoor cX5_isDoor 2 (some .boolean) 1 4 := ⟨⟨kq_m (i := 790) (by decide +kernel) rfl, kq_m (i := 64) (by decide +kernel) rfl, by decide +kernel, by decide +kernel, by decide +kernel, by decide +kernel⟩, kq_m (i := 789) (by decide +kernel) rfl, kq_m (i := 39) (by decide +kernel) rfl, TX5, 14, rfl⟩
theorem ym_X5_isPerson : kq_YV yX5_isPerson cX5_isPerson 2 (some .boolean) 1 4 := ⟨⟨kq_m (i := 786) (by decide +kernel) rfl, kq_m (i := 64) (by decide +kernel) rfl, by decide +kernel, by decide +kernel, by decide +kernel, by decide +kernel⟩, kq_m (i := 785) (by decide +kernel) rfl, kq_m (i := 38) (by decide +kernel) rfl, TX5, 14, rfl⟩
theorem ym_X5_isRoom : kq_YS yX5_isRoom cX5_isRoom 1 (some .boolean) 1 := ⟨⟨kq_m (i := 776) (by decide +kernel) rfl, kq_m (i := 64) (by decide +kernel) rfl, by decide +kernel, by decide +kernel, by decide +kernel, by decide +kernel⟩, kq_m (i := 775) (by decide +kernel) rfl⟩
theorem ym_X5_has : kq_YS yX5_has cX5_has 2 (some .boolean) 2 := ⟨⟨kq_m (i := 926) (by decide +kernel) rfl, kq_m (i := 64) (by decide +kernel) rfl, by decide +kernel, by decide +kernel, by decide +kernel, by decide +kernel⟩, kq_m (i := 925) (by decide +kernel) rfl⟩
theorem ym_X5_gives : kq_YS yX5_gives cX5_gives 4 (some .int) 2 := ⟨⟨kq_m (i := 799) (by decide +kernel) rfl, kq_m (i := 64) (by decide +kernel) rfl, by decide +kernel, by decide +kernel, by decide +kernel, by decide +kernel⟩, kq_m (i := 798) (by decide +kernel) rfl⟩
theorem ym_X5_keeps : kq_YS yX5_keeps cX5_keeps 3 (some .int) 3 := ⟨⟨kq_m (i := 808) (by decide +kernel) rfl, kq_m (i := 64) (by decide +kernel) rfl, by decide +kernel, by decide +kernel, by decide +kernel, by decide +kernel⟩, kq_m (i := 807) (by decide +kernel) rfl⟩
theorem ym_X5_cools : kq_YS yX5_cools cX5_cools 2 (some .int) 2 := ⟨⟨kq_m (i := 823) (by decide +kernel) rfl, kq_m (i := 64) (by decide +kernel) rfl, by decide +kernel, by decide +kernel, by decide +kernel, by decide +kernel⟩, kq_m (i := 822) (by decide +kernel) rfl⟩
theorem ym_X5_heats : kq_YS yX5_heats cX5_heats 4 none 4 := ⟨⟨kq_m (i := 811) (by decide +kernel) rfl, kq_m (i := 64) (by decide +kernel) rfl, by decide +kernel, by decide +kernel, by decide +kernel, by decide +kernel⟩, kq_m (i := 810) (by decide +kernel) rfl⟩
theorem ym_X5_coolsTo : kq_YS yX5_coolsTo cX5_coolsTo 3 none 3 := ⟨⟨kq_m (i := 826) (by decide +kernel) rfl, kq_m (i := 64) (by decide +kernel) rfl, by decide +kernel, by decide +kernel, by decide +kernel, by decide +kernel⟩, kq_m (i := 825) (by decide +kernel) rfl⟩
theorem ym_X5_says : kq_YS yX5_says cX5_says 2 (some .int) 2 := ⟨⟨kq_m (i := 805) (by decide +kernel) rfl, kq_m (i := 64) (by decide +kernel) rfl, by decide +kernel, by decide +kernel, by decide +kernel, by decide +kernel⟩, kq_m (i := 804) (by decide +kernel) rfl⟩
theorem ym_X5_isOf : kq_YS yX5_isOf cX5_isOf 3 (some .boolean) 3 := ⟨⟨kq_m (i := 793) (by decide +kernel) rfl, kq_m (i := 64) (by decide +kernel) rfl, by decide +kernel, by decide +kernel, by decide +kernel, by decide +kernel⟩, kq_m (i := 792) (by decide +kernel) rfl⟩
theorem ym_X5_beyond : kq_YS yX5_beyond cX5_beyond 3 (some .int) 3 := ⟨⟨kq_m (i := 814) (by decide +kernel) rfl, kq_m (i := 64) (by decide +kernel) rfl, by decide +kernel, by decide +kernel, by decide +kernel, by decide +kernel⟩, kq_m (i := 813) (by decide +kernel) rfl⟩
theorem ym_X5_opensIn : kq_YS yX5_opensIn cX5_opensIn 3 none 3 := ⟨⟨kq_m (i := 796) (by decide +kernel) rfl, kq_m (i := 64) (by decide +kernel) rfl, by decide +kernel, by decide +kernel, by decide +kernel, by decide +kernel⟩, kq_m (i := 795) (by decide +kernel) rfl⟩
theorem ym_X5_hour : kq_YS yX5_hour cX5_hour 2 none 1 := ⟨⟨kq_m (i := 820) (by decide +kernel) rfl, kq_m (i := 64) (by decide +kernel) rfl, by decide +kernel, by decide +kernel, by decide +kernel, by decide +kernel⟩, kq_m (i := 819) (by decide +kernel) rfl⟩
theorem ym_X5_hoursOn : kq_YS yX5_hoursOn cX5_hoursOn 3 none 2 := ⟨⟨kq_m (i := 817) (by decide +kernel) rfl, kq_m (i := 64) (by decide +kernel) rfl, by decide +kernel, by decide +kernel, by decide +kernel, by decide +kernel⟩, kq_m (i := 816) (by decide +kernel) rfl⟩
theorem ym_X5_allHeat : kq_YS yX5_allHeat cX5_allHeat 3 (some .int) 1 := ⟨⟨kq_m (i := 868) (by decide +kernel) rfl, kq_m (i := 64) (by decide +kernel) rfl, by decide +kernel, by decide +kernel, by decide +kernel, by decide +kernel⟩, kq_m (i := 867) (by decide +kernel) rfl⟩
theorem ym_X5_allMoods : kq_YS yX5_allMoods cX5_allMoods 3 (some .int) 1 := ⟨⟨kq_m (i := 1074) (by decide +kernel) rfl, kq_m (i := 64) (by decide +kernel) rfl, by decide +kernel, by decide +kernel, by decide +kernel, by decide +kernel⟩, kq_m (i := 1073) (by decide +kernel) rfl⟩
theorem ym_X5_letter : kq_YV yX5_letter cX5_letter 2 (some .int) 1 4 := ⟨⟨kq_m (i := 732) (by decide +kernel) rfl, kq_m (i := 64) (by decide +kernel) rfl, by decide +kernel, by decide +kernel, by decide +kernel, by decide +kernel⟩, kq_m (i := 730) (by decide +kernel) rfl, kq_m (i := 731) (by decide +kernel) rfl, TX5, 14, rfl⟩
theorem ym_X5_here : kq_YV yX5_here cX5_here 1 (some .int) 0 4 := ⟨⟨kq_m (i := 748) (by decide +kernel) rfl, kq_m (i := 64) (by decide +kernel) rfl, by decide +kernel, by decide +kernel, by decide +kernel, by decide +kernel⟩, kq_m (i := 747) (by decide +kernel) rfl, kq_m (i := 33) (by decide +kernel) rfl, TX5, 14, rfl⟩
theorem ym_X5_readsNumber : kq_YV yX5_readsNumber cX5_readsNumber 4 (some .boolean) 2 4 := ⟨⟨kq_m (i := 759) (by decide +kernel) rfl, kq_m (i := 64) (by decide +kernel) rfl, by decide +kernel, by decide +kernel, by decide +kernel, by decide +kernel⟩, kq_m (i := 758) (by decide +kernel) rfl, kq_m (i := 35) (by decide +kernel) rfl, TX5, 14, rfl⟩
theorem ym_X5_kindBy : kq_YS yX5_kindBy cX5_kindBy 1 (some .int) 1 := ⟨⟨kq_m (i := 755) (by decide +kernel) rfl, kq_m (i := 64) (by decide +kernel) rfl, by decide +kernel, by decide +kernel, by decide +kernel, by decide +kernel⟩, kq_m (i := 754) (by decide +kernel) rfl⟩
theorem ym_X5_readsKind : kq_YV yX5_readsKind cX5_readsKind 1 (some .boolean) 0 4 := ⟨⟨kq_m (i := 752) (by decide +kernel) rfl, kq_m (i := 64) (by decide +kernel) rfl, by decide +kernel, by decide +kernel, by decide +kernel, by decide +kernel⟩, kq_m (i := 751) (by decide +kernel) rfl, kq_m (i := 34) (by decide +kernel) rfl, TX5, 14, rfl⟩
theorem ym_X5_readsStatement : kq_YV yX5_readsStatement cX5_readsStatement 3 (some .boolean) 0 4 := ⟨⟨kq_m (i := 744) (by decide +kernel) rfl, kq_m (i := 64) (by decide +kernel) rfl, by decide +kernel, by decide +kernel, by decide +kernel, by decide +kernel⟩, kq_m (i := 743) (by decide +kernel) rfl, kq_m (i := 32) (by decide +kernel) rfl, TX5, 14, rfl⟩
theorem ym_X5_addsDoor : kq_YV yX5_addsDoor cX5_addsDoor 6 (some .boolean) 4 4 := ⟨⟨kq_m (i := 773) (by decide +kernel) rfl, kq_m (i := 64) (by decide +kernel) rfl, by decide +kernel, by decide +kernel, by decide +kernel, by decide +kernel⟩, kq_m (i := 772) (by decide +kernel) rfl, kq_m (i := 37) (by decide +kernel) rfl, TX5, 14, rfl⟩
theorem ym_X5_isDone : kq_YV yX5_isDone cX5_isDone 4 (some .boolean) 1 4 := ⟨⟨kq_m (i := 769) (by decide +kernel) rfl, kq_m (i := 64) (by decide +kernel) rfl, by decide +kernel, by decide +kernel, by decide +kernel, by decide +kernel⟩, kq_m (i := 768) (by decide +kernel) rfl, kq_m (i := 36) (by decide +kernel) rfl, TX5, 14, rfl⟩
theorem ym_X5_house : kq_YV yX5_house cX5_house 6 (some .int) 0 4 := ⟨⟨kq_m (i := 740) (by decide +kernel) rfl, kq_m (i := 64) (by decide +kernel) rfl, by decide +kernel, by decide +kernel, by decide +kernel, by decide +kernel⟩, kq_m (i := 738) (by decide +kernel) rfl, kq_m (i := 739) (by decide +kernel) rfl, TX5, 14, rfl⟩
theorem ym_X5_door : kq_YV yX5_door cX5_door 3 (some .int) 2 4 := ⟨⟨kq_m (i := 830) (by decide +kernel) rfl, kq_m (i := 64) (by decide +kernel) rfl, by decide +kernel, by decide +kernel, by decide +kernel, by decide +kernel⟩, kq_m (i := 828) (by decide +kernel) rfl, kq_m (i := 829) (by decide +kernel) rfl, TX5, 14, rfl⟩
theorem ym_X5_person : kq_YV yX5_person cX5_person 3 (some .int) 2 4 := ⟨⟨kq_m (i := 834) (by decide +kernel) rfl, kq_m (i := 64) (by decide +kernel) rfl, by decide +kernel, by decide +kernel, by decide +kernel, by decide +kernel⟩, kq_m (i := 832) (by decide +kernel) rfl, kq_m (i := 833) (by decide +kernel) rfl, TX5, 14, rfl⟩
theorem ym_X5_opens : kq_YV yX5_opens cX5_opens 3 (some .int) 2 4 := ⟨⟨kq_m (i := 838) (by decide +kernel) rfl, kq_m (i := 64) (by decide +kernel) rfl, by decide +kernel, by decide +kernel, by decide +kernel, by decide +kernel⟩, kq_m (i := 836) (by decide +kernel) rfl, kq_m (i := 837) (by decide +kernel) rfl, TX5, 14, rfl⟩
theorem ym_X5_wrongBy : kq_YS yX5_wrongBy cX5_wrongBy 3 (some .int) 3 := ⟨⟨kq_m (i := 845) (by decide +kernel) rfl, kq_m (i := 64) (by decide +kernel) rfl, by decide +kernel, by decide +kernel, by decide +kernel, by decide +kernel⟩, kq_m (i := 844) (by decide +kernel) rfl⟩
theorem ym_X5_quarrels : kq_YV yX5_quarrels cX5_quarrels 6 (some .int) 3 4 := ⟨⟨kq_m (i := 842) (by decide +kernel) rfl, kq_m (i := 64) (by decide +kernel) rfl, by decide +kernel, by decide +kernel, by decide +kernel, by decide +kernel⟩, kq_m (i := 840) (by decide +kernel) rfl, kq_m (i := 841) (by decide +kernel) rfl, TX5, 14, rfl⟩
theorem ym_X5_airs : kq_YV yX5_airs cX5_airs 3 (some .int) 1 4 := ⟨⟨kq_m (i := 849) (by decide +kernel) rfl, kq_m (i := 64) (by decide +kernel) rfl, by decide +kernel, by decide +kernel, by decide +kernel, by decide +kernel⟩, kq_m (i := 847) (by decide +kernel) rfl, kq_m (i := 848) (by decide +kernel) rfl, TX5, 14, rfl⟩
theorem ym_X5_moods : kq_YV yX5_moods cX5_moods 5 (some .int) 2 4 := ⟨⟨kq_m (i := 853) (by decide +kernel) rfl, kq_m (i := 64) (by decide +kernel) rfl, by decide +kernel, by decide +kernel, by decide +kernel, by decide +kernel⟩, kq_m (i := 851) (by decide +kernel) rfl, kq_m (i := 852) (by decide +kernel) rfl, TX5, 14, rfl⟩
theorem ym_X5_stands : kq_YV yX5_stands cX5_stands 4 (some .int) 2 4 := ⟨⟨kq_m (i := 857) (by decide +kernel) rfl, kq_m (i := 64) (by decide +kernel) rfl, by decide +kernel, by decide +kernel, by decide +kernel, by decide +kernel⟩, kq_m (i := 855) (by decide +kernel) rfl, kq_m (i := 856) (by decide +kernel) rfl, TX5, 14, rfl⟩
theorem ym_X5_turn : kq_YV yX5_turn cX5_turn 6 (some .int) 3 4 := ⟨⟨kq_m (i := 861) (by decide +kernel) rfl, kq_m (i := 64) (by decide +kernel) rfl, by decide +kernel, by decide +kernel, by decide +kernel, by decide +kernel⟩, kq_m (i := 859) (by decide +kernel) rfl, kq_m (i := 860) (by decide +kernel) rfl, TX5, 14, rfl⟩
theorem ym_X5_hours : kq_YV yX5_hours cX5_hours 2 (some .int) 1 4 := ⟨⟨kq_m (i := 865) (by decide +kernel) rfl, kq_m (i := 64) (by decide +kernel) rfl, by decide +kernel, by decide +kernel, by decide +kernel, by decide +kernel⟩, kq_m (i := 863) (by decide +kernel) rfl, kq_m (i := 864) (by decide +kernel) rfl, TX5, 14, rfl⟩
theorem ym_X5_takes : kq_YV yX5_takes cX5_takes 2 none 1 4 := ⟨⟨kq_m (i := 876) (by decide +kernel) rfl, kq_m (i := 64) (by decide +kernel) rfl, by decide +kernel, by decide +kernel, by decide +kernel, by decide +kernel⟩, kq_m (i := 875) (by decide +kernel) rfl, kq_m (i := 40) (by decide +kernel) rfl, TX5, 14, rfl⟩
theorem ym_X5_doorThen : kq_YV yX5_doorThen cX5_doorThen 5 (some .int) 3 4 := ⟨⟨kq_m (i := 872) (by decide +kernel) rfl, kq_m (i := 64) (by decide +kernel) rfl, by decide +kernel, by decide +kernel, by decide +kernel, by decide +kernel⟩, kq_m (i := 870) (by decide +kernel) rfl, kq_m (i := 871) (by decide +kernel) rfl, TX5, 14, rfl⟩
theorem ym_X5_moodThen : kq_YV yX5_moodThen cX5_moodThen 4 (some .int) 2 4 := ⟨⟨kq_m (i := 880) (by decide +kernel) rfl, kq_m (i := 64) (by decide +kernel) rfl, by decide +kernel, by decide +kernel, by decide +kernel, by decide +kernel⟩, kq_m (i := 878) (by decide +kernel) rfl, kq_m (i := 879) (by decide +kernel) rfl, TX5, 14, rfl⟩
theorem ym_X5_cold : kq_YV yX5_cold cX5_cold 2 (some .int) 0 4 := ⟨⟨kq_m (i := 888) (by decide +kernel) rfl, kq_m (i := 64) (by decide +kernel) rfl, by decide +kernel, by decide +kernel, by decide +kernel, by decide +kernel⟩, kq_m (i := 887) (by decide +kernel) rfl, kq_m (i := 41) (by decide +kernel) rfl, TX5, 14, rfl⟩
theorem ym_X5_hottest : kq_YV yX5_hottest cX5_hottest 3 (some .int) 0 4 := ⟨⟨kq_m (i := 892) (by decide +kernel) rfl, kq_m (i := 64) (by decide +kernel) rfl, by decide +kernel, by decide +kernel, by decide +kernel, by decide +kernel⟩, kq_m (i := 891) (by decide +kernel) rfl, kq_m (i := 42) (by decide +kernel) rfl, TX5, 14, rfl⟩
theorem ym_X5_loudest : kq_YV yX5_loudest cX5_loudest 3 (some .int) 0 4 := ⟨⟨kq_m (i := 896) (by decide +kernel) rfl, kq_m (i := 64) (by decide +kernel) rfl, by decide +kernel, by decide +kernel, by decide +kernel, by decide +kernel⟩, kq_m (i := 895) (by decide +kernel) rfl, kq_m (i := 43) (by decide +kernel) rfl, TX5, 14, rfl⟩
theorem ym_X5_first : kq_YV yX5_first cX5_first 2 (some .int) 1 4 := ⟨⟨kq_m (i := 884) (by decide +kernel) rfl, kq_m (i := 64) (by decide +kernel) rfl, by decide +kernel, by decide +kernel, by decide +kernel, by decide +kernel⟩, kq_m (i := 882) (by decide +kernel) rfl, kq_m (i := 883) (by decide +kernel) rfl, TX5, 14, rfl⟩
theorem ym_X5_tollOf : kq_YS yX5_tollOf cX5_tollOf 2 (some .int) 2 := ⟨⟨kq_m (i := 912) (by decide +kernel) rfl, kq_m (i := 64) (by decide +kernel) rfl, by decide +kernel, by decide +kernel, by decide +kernel, by decide +kernel⟩, kq_m (i := 911) (by decide +kernel) rfl⟩
theorem ym_X5_tolls : kq_YV yX5_tolls cX5_tolls 8 none 3 4 := ⟨⟨kq_m (i := 908) (by decide +kernel) rfl, kq_m (i := 64) (by decide +kernel) rfl, by decide +kernel, by decide +kernel, by decide +kernel, by decide +kernel⟩, kq_m (i := 907) (by decide +kernel) rfl, kq_m (i := 45) (by decide +kernel) rfl, TX5, 14, rfl⟩
theorem ym_X5_firstDoor : kq_YS yX5_firstDoor cX5_firstDoor 4 (some .int) 3 := ⟨⟨kq_m (i := 915) (by decide +kernel) rfl, kq_m (i := 64) (by decide +kernel) rfl, by decide +kernel, by decide +kernel, by decide +kernel, by decide +kernel⟩, kq_m (i := 914) (by decide +kernel) rfl⟩
theorem ym_X5_areWrong : kq_YV yX5_areWrong cX5_areWrong 3 (some .boolean) 2 4 := ⟨⟨kq_m (i := 904) (by decide +kernel) rfl, kq_m (i := 64) (by decide +kernel) rfl, by decide +kernel, by decide +kernel, by decide +kernel, by decide +kernel⟩, kq_m (i := 903) (by decide +kernel) rfl, kq_m (i := 44) (by decide +kernel) rfl, TX5, 14, rfl⟩
theorem ym_X5_way : kq_YV yX5_way cX5_way 5 (some .int) 3 4 := ⟨⟨kq_m (i := 900) (by decide +kernel) rfl, kq_m (i := 64) (by decide +kernel) rfl, by decide +kernel, by decide +kernel, by decide +kernel, by decide +kernel⟩, kq_m (i := 898) (by decide +kernel) rfl, kq_m (i := 899) (by decide +kernel) rfl, TX5, 14, rfl⟩
theorem ym_X5_fewestFrom : kq_YV yX5_fewestFrom cX5_fewestFrom 7 (some .int) 2 4 := ⟨⟨kq_m (i := 923) (by decide +kernel) rfl, kq_m (i := 64) (by decide +kernel) rfl, by decide +kernel, by decide +kernel, by decide +kernel, by decide +kernel⟩, kq_m (i := 922) (by decide +kernel) rfl, kq_m (i := 46) (by decide +kernel) rfl, TX5, 14, rfl⟩
theorem ym_X5_fewest : kq_YV yX5_fewest cX5_fewest 3 (some .int) 2 4 := ⟨⟨kq_m (i := 919) (by decide +kernel) rfl, kq_m (i := 64) (by decide +kernel) rfl, by decide +kernel, by decide +kernel, by decide +kernel, by decide +kernel⟩, kq_m (i := 917) (by decide +kernel) rfl, kq_m (i := 918) (by decide +kernel) rfl, TX5, 14, rfl⟩
theorem ym_X5_near : kq_YV yX5_near cX5_near 4 (some .int) 1 4 := ⟨⟨kq_m (i := 930) (by decide +kernel) rfl, kq_m (i := 64) (by decide +kernel) rfl, by decide +kernel, by decide +kernel, by decide +kernel, by decide +kernel⟩, kq_m (i := 928) (by decide +kernel) rfl, kq_m (i := 929) (by decide +kernel) rfl, TX5, 14, rfl⟩
theorem ym_X5_cutOff : kq_YV yX5_cutOff cX5_cutOff 3 (some .int) 0 4 := ⟨⟨kq_m (i := 934) (by decide +kernel) rfl, kq_m (i := 64) (by decide +kernel) rfl, by decide +kernel, by decide +kernel, by decide +kernel, by decide +kernel⟩, kq_m (i := 932) (by decide +kernel) rfl, kq_m (i := 933) (by decide +kernel) rfl, TX5, 14, rfl⟩
theorem ym_X5_goes : kq_YV yX5_goes cX5_goes 5 (some .int) 2 4 := ⟨⟨kq_m (i := 938) (by decide +kernel) rfl, kq_m (i := 64) (by decide +kernel) rfl, by decide +kernel, by decide +kernel, by decide +kernel, by decide +kernel⟩, kq_m (i := 936) (by decide +kernel) rfl, kq_m (i := 937) (by decide +kernel) rfl, TX5, 14, rfl⟩
theorem ym_X5_givenBy : kq_YV yX5_givenBy cX5_givenBy 5 (some .int) 4 4 := ⟨⟨kq_m (i := 946) (by decide +kernel) rfl, kq_m (i := 64) (by decide +kernel) rfl, by decide +kernel, by decide +kernel, by decide +kernel, by decide +kernel⟩, kq_m (i := 945) (by decide +kernel) rfl, kq_m (i := 47) (by decide +kernel) rfl, TX5, 14, rfl⟩
theorem ym_X5_air : kq_YV yX5_air cX5_air 8 (some .int) 2 4 := ⟨⟨kq_m (i := 942) (by decide +kernel) rfl, kq_m (i := 64) (by decide +kernel) rfl, by decide +kernel, by decide +kernel, by decide +kernel, by decide +kernel⟩, kq_m (i := 940) (by decide +kernel) rfl, kq_m (i := 941) (by decide +kernel) rfl, TX5, 14, rfl⟩
theorem ym_X5_shut : kq_YV yX5_shut cX5_shut 5 (some .int) 2 4 := ⟨⟨kq_m (i := 950) (by decide +kernel) rfl, kq_m (i := 64) (by decide +kernel) rfl, by decide +kernel, by decide +kernel, by decide +kernel, by decide +kernel⟩, kq_m (i := 948) (by decide +kernel) rfl, kq_m (i := 949) (by decide +kernel) rfl, TX5, 14, rfl⟩
theorem ym_X5_pause : kq_YV yX5_pause cX5_pause 7 (some .int) 3 4 := ⟨⟨kq_m (i := 954) (by decide +kernel) rfl, kq_m (i := 64) (by decide +kernel) rfl, by decide +kernel, by decide +kernel, by decide +kernel, by decide +kernel⟩, kq_m (i := 952) (by decide +kernel) rfl, kq_m (i := 953) (by decide +kernel) rfl, TX5, 14, rfl⟩
theorem ym_X5_walk : kq_YV yX5_walk cX5_walk 5 (some .int) 2 4 := ⟨⟨kq_m (i := 958) (by decide +kernel) rfl, kq_m (i := 64) (by decide +kernel) rfl, by decide +kernel, by decide +kernel, by decide +kernel, by decide +kernel⟩, kq_m (i := 956) (by decide +kernel) rfl, kq_m (i := 957) (by decide +kernel) rfl, TX5, 14, rfl⟩
theorem ym_X5_wrongTwo : kq_YV yX5_wrongTwo cX5_wrongTwo 4 (some .int) 3 4 := ⟨⟨kq_m (i := 966) (by decide +kernel) rfl, kq_m (i := 64) (by decide +kernel) rfl, by decide +kernel, by decide +kernel, by decide +kernel, by decide +kernel⟩, kq_m (i := 965) (by decide +kernel) rfl, kq_m (i := 48) (by decide +kernel) rfl, TX5, 14, rfl⟩
theorem ym_X5_opensBoth : kq_YV yX5_opensBoth cX5_opensBoth 6 none 5 4 := ⟨⟨kq_m (i := 974) (by decide +kernel) rfl, kq_m (i := 64) (by decide +kernel) rfl, by decide +kernel, by decide +kernel, by decide +kernel, by decide +kernel⟩, kq_m (i := 973) (by decide +kernel) rfl, kq_m (i := 50) (by decide +kernel) rfl, TX5, 14, rfl⟩
theorem ym_X5_bothBy : kq_YV yX5_bothBy cX5_bothBy 4 (some .int) 3 4 := ⟨⟨kq_m (i := 970) (by decide +kernel) rfl, kq_m (i := 64) (by decide +kernel) rfl, by decide +kernel, by decide +kernel, by decide +kernel, by decide +kernel⟩, kq_m (i := 969) (by decide +kernel) rfl, kq_m (i := 49) (by decide +kernel) rfl, TX5, 14, rfl⟩
theorem ym_X5_order : kq_YV yX5_order cX5_order 7 (some .int) 3 4 := ⟨⟨kq_m (i := 962) (by decide +kernel) rfl, kq_m (i := 64) (by decide +kernel) rfl, by decide +kernel, by decide +kernel, by decide +kernel, by decide +kernel⟩, kq_m (i := 960) (by decide +kernel) rfl, kq_m (i := 961) (by decide +kernel) rfl, TX5, 14, rfl⟩
theorem ym_X5_echo : kq_YV yX5_echo cX5_echo 6 (some .int) 3 4 := ⟨⟨kq_m (i := 978) (by decide +kernel) rfl, kq_m (i := 64) (by decide +kernel) rfl, by decide +kernel, by decide +kernel, by decide +kernel, by decide +kernel⟩, kq_m (i := 976) (by decide +kernel) rfl, kq_m (i := 977) (by decide +kernel) rfl, TX5, 14, rfl⟩
theorem ym_X5_withVoice : kq_YV yX5_withVoice cX5_withVoice 4 (some .int) 1 4 := ⟨⟨kq_m (i := 990) (by decide +kernel) rfl, kq_m (i := 64) (by decide +kernel) rfl, by decide +kernel, by decide +kernel, by decide +kernel, by decide +kernel⟩, kq_m (i := 989) (by decide +kernel) rfl, kq_m (i := 52) (by decide +kernel) rfl, TX5, 14, rfl⟩
theorem ym_X5_voices : kq_YV yX5_voices cX5_voices 2 (some .int) 1 4 := ⟨⟨kq_m (i := 986) (by decide +kernel) rfl, kq_m (i := 64) (by decide +kernel) rfl, by decide +kernel, by decide +kernel, by decide +kernel, by decide +kernel⟩, kq_m (i := 984) (by decide +kernel) rfl, kq_m (i := 985) (by decide +kernel) rfl, TX5, 14, rfl⟩
theorem ym_X5_bits : kq_YS yX5_bits cX5_bits 3 (some .int) 1 := ⟨⟨kq_m (i := 1001) (by decide +kernel) rfl, kq_m (i := 64) (by decide +kernel) rfl, by decide +kernel, by decide +kernel, by decide +kernel, by decide +kernel⟩, kq_m (i := 1000) (by decide +kernel) rfl⟩
theorem ym_X5_mostHeard : kq_YV yX5_mostHeard cX5_mostHeard 4 (some .int) 0 4 := ⟨⟨kq_m (i := 998) (by decide +kernel) rfl, kq_m (i := 64) (by decide +kernel) rfl, by decide +kernel, by decide +kernel, by decide +kernel, by decide +kernel⟩, kq_m (i := 997) (by decide +kernel) rfl, kq_m (i := 53) (by decide +kernel) rfl, TX5, 14, rfl⟩
theorem ym_X5_worst : kq_YV yX5_worst cX5_worst 3 (some .int) 0 4 := ⟨⟨kq_m (i := 1005) (by decide +kernel) rfl, kq_m (i := 64) (by decide +kernel) rfl, by decide +kernel, by decide +kernel, by decide +kernel, by decide +kernel⟩, kq_m (i := 1004) (by decide +kernel) rfl, kq_m (i := 54) (by decide +kernel) rfl, TX5, 14, rfl⟩
theorem ym_X5_heard : kq_YV yX5_heard cX5_heard 2 (some .int) 1 4 := ⟨⟨kq_m (i := 994) (by decide +kernel) rfl, kq_m (i := 64) (by decide +kernel) rfl, by decide +kernel, by decide +kernel, by decide +kernel, by decide +kernel⟩, kq_m (i := 992) (by decide +kernel) rfl, kq_m (i := 993) (by decide +kernel) rfl, TX5, 14, rfl⟩
theorem ym_X5_meet : kq_YV yX5_meet cX5_meet 8 (some .int) 1 4 := ⟨⟨kq_m (i := 1009) (by decide +kernel) rfl, kq_m (i := 64) (by decide +kernel) rfl, by decide +kernel, by decide +kernel, by decide +kernel, by decide +kernel⟩, kq_m (i := 1007) (by decide +kernel) rfl, kq_m (i := 1008) (by decide +kernel) rfl, TX5, 14, rfl⟩
theorem ym_X5_moodBy : kq_YV yX5_moodBy cX5_moodBy 7 (some .int) 6 4 := ⟨⟨kq_m (i := 1017) (by decide +kernel) rfl, kq_m (i := 64) (by decide +kernel) rfl, by decide +kernel, by decide +kernel, by decide +kernel, by decide +kernel⟩, kq_m (i := 1016) (by decide +kernel) rfl, kq_m (i := 55) (by decide +kernel) rfl, TX5, 14, rfl⟩
theorem ym_X5_two : kq_YV yX5_two cX5_two 8 (some .int) 3 4 := ⟨⟨kq_m (i := 1013) (by decide +kernel) rfl, kq_m (i := 64) (by decide +kernel) rfl, by decide +kernel, by decide +kernel, by decide +kernel, by decide +kernel⟩, kq_m (i := 1011) (by decide +kernel) rfl, kq_m (i := 1012) (by decide +kernel) rfl, TX5, 14, rfl⟩
theorem ym_X5_gcd : kq_YS yX5_gcd cX5_gcd 10 (some .long) 2 := ⟨⟨kq_m (i := 1032) (by decide +kernel) rfl, kq_m (i := 64) (by decide +kernel) rfl, by decide +kernel, by decide +kernel, by decide +kernel, by decide +kernel⟩, kq_m (i := 1031) (by decide +kernel) rfl⟩
theorem ym_X5_partOf : kq_YS yX5_partOf cX5_partOf 5 (some .long) 3 := ⟨⟨kq_m (i := 1029) (by decide +kernel) rfl, kq_m (i := 64) (by decide +kernel) rfl, by decide +kernel, by decide +kernel, by decide +kernel, by decide +kernel⟩, kq_m (i := 1028) (by decide +kernel) rfl⟩
theorem ym_X5_draught : kq_YV yX5_draught cX5_draught 15 (some .long) 5 4 := ⟨⟨kq_m (i := 1021) (by decide +kernel) rfl, kq_m (i := 64) (by decide +kernel) rfl, by decide +kernel, by decide +kernel, by decide +kernel, by decide +kernel⟩, kq_m (i := 1019) (by decide +kernel) rfl, kq_m (i := 1020) (by decide +kernel) rfl, TX5, 14, rfl⟩
theorem ym_X5_mean : kq_YV yX5_mean cX5_mean 2 (some .long) 1 4 := ⟨⟨kq_m (i := 1036) (by decide +kernel) rfl, kq_m (i := 64) (by decide +kernel) rfl, by decide +kernel, by decide +kernel, by decide +kernel, by decide +kernel⟩, kq_m (i := 1034) (by decide +kernel) rfl, kq_m (i := 1035) (by decide +kernel) rfl, TX5, 14, rfl⟩
theorem ym_X5_isHeatSo : kq_YV yX5_isHeatSo cX5_isHeatSo 4 (some .boolean) 1 4 := ⟨⟨kq_m (i := 1044) (by decide +kernel) rfl, kq_m (i := 64) (by decide +kernel) rfl, by decide +kernel, by decide +kernel, by decide +kernel, by decide +kernel⟩, kq_m (i := 1043) (by decide +kernel) rfl, kq_m (i := 57) (by decide +kernel) rfl, TX5, 14, rfl⟩
theorem ym_X5_who : kq_YV yX5_who cX5_who 4 (some .int) 1 4 := ⟨⟨kq_m (i := 1040) (by decide +kernel) rfl, kq_m (i := 64) (by decide +kernel) rfl, by decide +kernel, by decide +kernel, by decide +kernel, by decide +kernel⟩, kq_m (i := 1038) (by decide +kernel) rfl, kq_m (i := 1039) (by decide +kernel) rfl, TX5, 14, rfl⟩
theorem ym_X5_whatIs : kq_YV yX5_whatIs cX5_whatIs 5 (some .int) 2 4 := ⟨⟨kq_m (i := 1048) (by decide +kernel) rfl, kq_m (i := 64) (by decide +kernel) rfl, by decide +kernel, by decide +kernel, by decide +kernel, by decide +kernel⟩, kq_m (i := 1046) (by decide +kernel) rfl, kq_m (i := 1047) (by decide +kernel) rfl, TX5, 14, rfl⟩
theorem ym_X5_row : kq_YV yX5_row cX5_row 3 (some .int) 1 4 := ⟨⟨kq_m (i := 1052) (by decide +kernel) rfl, kq_m (i := 64) (by decide +kernel) rfl, by decide +kernel, by decide +kernel, by decide +kernel, by decide +kernel⟩, kq_m (i := 1050) (by decide +kernel) rfl, kq_m (i := 1051) (by decide +kernel) rfl, TX5, 14, rfl⟩
theorem ym_X5_judge : kq_YV yX5_judge cX5_judge 3 (some .int) 0 4 := ⟨⟨kq_m (i := 1056) (by decide +kernel) rfl, kq_m (i := 64) (by decide +kernel) rfl, by decide +kernel, by decide +kernel, by decide +kernel, by decide +kernel⟩, kq_m (i := 1054) (by decide +kernel) rfl, kq_m (i := 1055) (by decide +kernel) rfl, TX5, 14, rfl⟩
theorem ym_X5_clear : kq_YV yX5_clear cX5_clear 2 (some .int) 0 4 := ⟨⟨kq_m (i := 1060) (by decide +kernel) rfl, kq_m (i := 64) (by decide +kernel) rfl, by decide +kernel, by decide +kernel, by decide +kernel, by decide +kernel⟩, kq_m (i := 1058) (by decide +kernel) rfl, kq_m (i := 1059) (by decide +kernel) rfl, TX5, 14, rfl⟩
theorem ym_X5_drawn : kq_YV yX5_drawn cX5_drawn 2 (some .int) 1 4 := ⟨⟨kq_m (i := 1068) (by decide +kernel) rfl, kq_m (i := 64) (by decide +kernel) rfl, by decide +kernel, by decide +kernel, by decide +kernel, by decide +kernel⟩, kq_m (i := 1067) (by decide +kernel) rfl, kq_m (i := 58) (by decide +kernel) rfl, TX5, 14, rfl⟩
theorem ym_X5_lots : kq_YV yX5_lots cX5_lots 9 (some .int) 3 4 := ⟨⟨kq_m (i := 1064) (by decide +kernel) rfl, kq_m (i := 64) (by decide +kernel) rfl, by decide +kernel, by decide +kernel, by decide +kernel, by decide +kernel⟩, kq_m (i := 1062) (by decide +kernel) rfl, kq_m (i := 1063) (by decide +kernel) rfl, TX5, 14, rfl⟩
theorem ym_X5_image : kq_YV yX5_image cX5_image 1 (some .int) 0 4 := ⟨⟨kq_m (i := 1078) (by decide +kernel) rfl, kq_m (i := 64) (by decide +kernel) rfl, by decide +kernel, by decide +kernel, by decide +kernel, by decide +kernel⟩, kq_m (i := 1076) (by decide +kernel) rfl, kq_m (i := 1077) (by decide +kernel) rfl, TX5, 14, rfl⟩
theorem ym_X5_on : kq_YV yX5_on cX5_on 1 (some .int) 0 4 := ⟨⟨kq_m (i := 1082) (by decide +kernel) rfl, kq_m (i := 64) (by decide +kernel) rfl, by decide +kernel, by decide +kernel, by decide +kernel, by decide +kernel⟩, kq_m (i := 1080) (by decide +kernel) rfl, kq_m (i := 1081) (by decide +kernel) rfl, TX5, 14, rfl⟩
theorem ym_X5_count : kq_YV yX5_count cX5_count 2 (some .int) 1 4 := ⟨⟨kq_m (i := 1086) (by decide +kernel) rfl, kq_m (i := 64) (by decide +kernel) rfl, by decide +kernel, by decide +kernel, by decide +kernel, by decide +kernel⟩, kq_m (i := 1084) (by decide +kernel) rfl, kq_m (i := 1085) (by decide +kernel) rfl, TX5, 14, rfl⟩
theorem ym_J6_bitCount_0f7a4 : kq_YS yJ6_bitCount_0f7a4 cJ6_bitCount_0f7a4 1 (some .int) 1 := ⟨⟨kq_m (i := 568) (by decide +kernel) rfl, kq_m (i := 67) (by decide +kernel) rfl, by decide +kernel, by decide +kernel, by decide +kernel, by decide +kernel⟩, kq_m (i := 567) (by decide +kernel) rfl⟩
theorem ml_X4_51 : Cond.methodLink RX4 51 yX4_refuse ∈ kq_tb := kq_m (i := 195) (by decide +kernel) rfl
theorem ml_X4_58 : Cond.methodLink RX4 58 yX2_add ∈ kq_tb := kq_m (i := 199) (by decide +kernel) rfl
theorem ml_X4_62 : Cond.methodLink RX4 62 yX2_misspelling ∈ kq_tb := kq_m (i := 207) (by decide +kernel) rfl
theorem ml_X4_66 : Cond.methodLink RX4 66 yX0_copyFrom ∈ kq_tb := kq_m (i := 229) (by decide +kernel) rfl
theorem ml_X4_70 : Cond.methodLink RX4 70 yX2_carryOut ∈ kq_tb := kq_m (i := 233) (by decide +kernel) rfl
theorem ml_X4_74 : Cond.methodLink RX4 74 yX0_hasDoor ∈ kq_tb := kq_m (i := 340) (by decide +kernel) rfl
theorem ml_X4_96 : Cond.methodLink RX4 96 yX0_given ∈ kq_tb := kq_m (i := 341) (by decide +kernel) rfl
theorem ml_X4_99 : Cond.methodLink RX4 99 yX0_hasPerson ∈ kq_tb := kq_m (i := 349) (by decide +kernel) rfl
theorem ml_X4_111 : Cond.methodLink RX4 111 yX0_said ∈ kq_tb := kq_m (i := 350) (by decide +kernel) rfl
theorem ml_X4_114 : Cond.methodLink RX4 114 yX0_canOpen ∈ kq_tb := kq_m (i := 355) (by decide +kernel) rfl
theorem ml_X4_118 : Cond.methodLink RX4 118 yX0_open ∈ kq_tb := kq_m (i := 356) (by decide +kernel) rfl
theorem ml_X4_122 : Cond.methodLink RX4 122 yX4_outside ∈ kq_tb := kq_m (i := 361) (by decide +kernel) rfl
theorem ml_X4_126 : Cond.methodLink RX4 126 yX0_fill ∈ kq_tb := kq_m (i := 364) (by decide +kernel) rfl
theorem ml_X4_130 : Cond.methodLink RX4 130 yX4_isRoom ∈ kq_tb := kq_m (i := 377) (by decide +kernel) rfl
theorem ml_X4_136 : Cond.methodLink RX4 136 yX0_pass ∈ kq_tb := kq_m (i := 386) (by decide +kernel) rfl
theorem ml_X4_139 : Cond.methodLink RX4 139 yX0_allHeat ∈ kq_tb := kq_m (i := 387) (by decide +kernel) rfl
theorem ml_X4_142 : Cond.methodLink RX4 142 yX0_heatAfter ∈ kq_tb := kq_m (i := 395) (by decide +kernel) rfl
theorem ml_X4_146 : Cond.methodLink RX4 146 yX0_moodAfter ∈ kq_tb := kq_m (i := 403) (by decide +kernel) rfl
theorem ml_X4_149 : Cond.methodLink RX4 149 yX4_cold ∈ kq_tb := kq_m (i := 408) (by decide +kernel) rfl
theorem ml_X4_152 : Cond.methodLink RX4 152 yX4_hottest ∈ kq_tb := kq_m (i := 416) (by decide +kernel) rfl
theorem ml_X4_155 : Cond.methodLink RX4 155 yX4_loudest ∈ kq_tb := kq_m (i := 420) (by decide +kernel) rfl
theorem ml_X4_158 : Cond.methodLink RX4 158 yX4_isColdAfter ∈ kq_tb := kq_m (i := 412) (by decide +kernel) rfl
theorem ml_X4_164 : Cond.methodLink RX4 164 yX4_findWaysTo ∈ kq_tb := kq_m (i := 428) (by decide +kernel) rfl
theorem ml_X4_167 : Cond.methodLink RX4 167 yX3_givenFrom ∈ kq_tb := kq_m (i := 458) (by decide +kernel) rfl
theorem ml_X4_170 : Cond.methodLink RX4 170 yX3_doorsFrom ∈ kq_tb := kq_m (i := 462) (by decide +kernel) rfl
theorem ml_X4_173 : Cond.methodLink RX4 173 yX3_doorFrom ∈ kq_tb := kq_m (i := 466) (by decide +kernel) rfl
theorem ml_X4_177 : Cond.methodLink RX4 177 yX3_tollNothing ∈ kq_tb := kq_m (i := 476) (by decide +kernel) rfl
theorem ml_X4_180 : Cond.methodLink RX4 180 yX3_leadTo ∈ kq_tb := kq_m (i := 440) (by decide +kernel) rfl
theorem ml_X4_184 : Cond.methodLink RX4 184 yX3_tollAfter ∈ kq_tb := kq_m (i := 432) (by decide +kernel) rfl
theorem ml_X4_187 : Cond.methodLink RX4 187 yX3_setToll ∈ kq_tb := kq_m (i := 496) (by decide +kernel) rfl
theorem ml_X4_190 : Cond.methodLink RX4 190 yX4_notTogether ∈ kq_tb := kq_m (i := 516) (by decide +kernel) rfl
theorem ml_X4_193 : Cond.methodLink RX4 193 yX4_openBoth ∈ kq_tb := kq_m (i := 520) (by decide +kernel) rfl
theorem ml_X4_196 : Cond.methodLink RX4 196 yJ9_min_7cf53 ∈ kq_tb := kq_m (i := 524) (by decide +kernel) rfl
theorem ml_X4_202 : Cond.methodLink RX4 202 yX4_firstIsContent ∈ kq_tb := kq_m (i := 534) (by decide +kernel) rfl
theorem ml_X4_206 : Cond.methodLink RX4 206 yX4_secondIsContent ∈ kq_tb := kq_m (i := 542) (by decide +kernel) rfl
theorem ml_X4_210 : Cond.methodLink RX4 210 yX4_wishOfFirst ∈ kq_tb := kq_m (i := 538) (by decide +kernel) rfl
theorem ml_X4_213 : Cond.methodLink RX4 213 yX4_wishOfSecond ∈ kq_tb := kq_m (i := 546) (by decide +kernel) rfl
theorem ml_X4_217 : Cond.methodLink RX4 217 yX0_doorsOfVoice ∈ kq_tb := kq_m (i := 554) (by decide +kernel) rfl
theorem ml_X4_220 : Cond.methodLink RX4 220 yX4_mostHeard ∈ kq_tb := kq_m (i := 562) (by decide +kernel) rfl
theorem ml_X4_223 : Cond.methodLink RX4 223 yX4_worst ∈ kq_tb := kq_m (i := 572) (by decide +kernel) rfl
theorem ml_X4_229 : Cond.methodLink RX4 229 yJ6_bitCount_0f7a4 ∈ kq_tb := kq_m (i := 566) (by decide +kernel) rfl
theorem ml_X4_234 : Cond.methodLink RX4 234 yX4_givenToAll ∈ kq_tb := kq_m (i := 580) (by decide +kernel) rfl
theorem ml_X4_237 : Cond.methodLink RX4 237 yX4_refuseLong ∈ kq_tb := kq_m (i := 588) (by decide +kernel) rfl
theorem ml_X4_241 : Cond.methodLink RX4 241 yX4_weightOf ∈ kq_tb := kq_m (i := 593) (by decide +kernel) rfl
theorem ml_X4_245 : Cond.methodLink RX4 245 yX4_givenBehind ∈ kq_tb := kq_m (i := 596) (by decide +kernel) rfl
theorem ml_X4_248 : Cond.methodLink RX4 248 yX4_partOf ∈ kq_tb := kq_m (i := 602) (by decide +kernel) rfl
theorem ml_X4_252 : Cond.methodLink RX4 252 yX1_cooled ∈ kq_tb := kq_m (i := 600) (by decide +kernel) rfl
theorem ml_X4_258 : Cond.methodLink RX4 258 yX1_gives ∈ kq_tb := kq_m (i := 601) (by decide +kernel) rfl
theorem ml_X4_261 : Cond.methodLink RX4 261 yJ9_max_7cf53 ∈ kq_tb := kq_m (i := 609) (by decide +kernel) rfl
theorem ml_X4_264 : Cond.methodLink RX4 264 yX1_keeps ∈ kq_tb := kq_m (i := 626) (by decide +kernel) rfl
theorem ml_X4_267 : Cond.methodLink RX4 267 yX4_rowTells ∈ kq_tb := kq_m (i := 627) (by decide +kernel) rfl
theorem ml_X4_270 : Cond.methodLink RX4 270 yX4_kindsTold ∈ kq_tb := kq_m (i := 635) (by decide +kernel) rfl
theorem ml_X4_273 : Cond.methodLink RX4 273 yX4_figuresTold ∈ kq_tb := kq_m (i := 639) (by decide +kernel) rfl
theorem ml_X4_276 : Cond.methodLink RX4 276 yX4_dayByLot ∈ kq_tb := kq_m (i := 647) (by decide +kernel) rfl
theorem ml_X4_279 : Cond.methodLink RX4 279 yX0_allMood ∈ kq_tb := kq_m (i := 660) (by decide +kernel) rfl
theorem ml_X4_282 : Cond.methodLink RX4 282 yX4_nextSeed ∈ kq_tb := kq_m (i := 651) (by decide +kernel) rfl
theorem ml_X4_285 : Cond.methodLink RX4 285 yX4_drawn ∈ kq_tb := kq_m (i := 656) (by decide +kernel) rfl
theorem ml_X4_291 : Cond.methodLink RX4 291 yX4_refusalsCounted ∈ kq_tb := kq_m (i := 676) (by decide +kernel) rfl
def kq_N (U : State) : Prop := va_Nw (.methodLinkNest RX0 49 yX4_isRoom "DoorKeepsQuarrel") U
theorem ml_X0_49 {A : Array Value} {U : State} (h : ∀ w ∈ lw_tbl, w.before A U = true) : kq_N U := va_Nw.of rfl (h _ (List.mem_of_getElem? (i := 249) (by decide +kernel)))
theorem ml_X0_53 : Cond.methodLink RX0 53 yX0_leadsFrom ∈ kq_tb := kq_m (i := 271) (by decide +kernel) rfl
theorem ml_X0_57 : Cond.methodLink RX0 57 yX1_gives ∈ kq_tb := kq_m (i := 279) (by decide +kernel) rfl
theorem ml_X0_63 : Cond.methodLink RX0 63 yX1_cooled ∈ kq_tb := kq_m (i := 325) (by decide +kernel) rfl
theorem ml_X0_67 : Cond.methodLink RX0 67 yJ9_min_7cf53 ∈ kq_tb := kq_m (i := 285) (by decide +kernel) rfl
theorem ml_X0_73 : Cond.methodLink RX0 73 yX0_said ∈ kq_tb := kq_m (i := 288) (by decide +kernel) rfl
theorem ml_X0_77 : Cond.methodLink RX0 77 yX1_keeps ∈ kq_tb := kq_m (i := 292) (by decide +kernel) rfl
theorem ml_X0_80 : Cond.methodLink RX0 80 yX0_fill ∈ kq_tb := kq_m (i := 296) (by decide +kernel) rfl
theorem ml_X0_84 : Cond.methodLink RX0 84 yX0_beyond ∈ kq_tb := kq_m (i := 300) (by decide +kernel) rfl
theorem ml_X0_87 : Cond.methodLink RX0 87 yJ9_max_7cf53 ∈ kq_tb := kq_m (i := 304) (by decide +kernel) rfl
theorem ml_X0_90 : Cond.methodLink RX0 90 yX0_moodAfter ∈ kq_tb := kq_m (i := 332) (by decide +kernel) rfl
theorem ml_X1_9 : Cond.methodLink RX1 9 yX1_slammedGives ∈ kq_tb := kq_m (i := 282) (by decide +kernel) rfl
theorem ml_X1_15 : Cond.methodLink RX1 15 yJ9_min_7cf53 ∈ kq_tb := kq_m (i := 295) (by decide +kernel) rfl
theorem ml_X1_20 : Cond.methodLink RX1 20 yX1_coolsBy ∈ kq_tb := kq_m (i := 328) (by decide +kernel) rfl
theorem ml_X1_23 : Cond.methodLink RX1 23 yJ9_max_7cf53 ∈ kq_tb := kq_m (i := 331) (by decide +kernel) rfl
theorem ml_X2_19 : Cond.methodLink RX2 19 yX2_at ∈ kq_tb := kq_m (i := 211) (by decide +kernel) rfl
theorem ml_X2_23 : Cond.methodLink RX2 23 yX2_isDigit ∈ kq_tb := kq_m (i := 225) (by decide +kernel) rfl
theorem ml_X2_27 : Cond.methodLink RX2 27 yX2_digit ∈ kq_tb := kq_m (i := 241) (by decide +kernel) rfl
theorem ml_X2_30 : Cond.methodLink RX2 30 yX2_lengthOf ∈ kq_tb := kq_m (i := 215) (by decide +kernel) rfl
theorem ml_X2_33 : Cond.methodLink RX2 33 yX2_fits ∈ kq_tb := kq_m (i := 218) (by decide +kernel) rfl
theorem ml_X2_37 : Cond.methodLink RX2 37 yX1_ofLetter ∈ kq_tb := kq_m (i := 222) (by decide +kernel) rfl
theorem ml_X2_42 : Cond.methodLink RX2 42 yX2_happens ∈ kq_tb := kq_m (i := 237) (by decide +kernel) rfl
theorem ml_X2_46 : Cond.methodLink RX2 46 yX0_addDoor ∈ kq_tb := kq_m (i := 245) (by decide +kernel) rfl
theorem ml_X2_52 : Cond.methodLink RX2 52 yX0_addPerson ∈ kq_tb := kq_m (i := 252) (by decide +kernel) rfl
theorem ml_X2_56 : Cond.methodLink RX2 56 yX2_isOpened ∈ kq_tb := kq_m (i := 256) (by decide +kernel) rfl
theorem ml_X2_60 : Cond.methodLink RX2 60 yX2_twoDigits ∈ kq_tb := kq_m (i := 307) (by decide +kernel) rfl
theorem ml_X2_63 : Cond.methodLink RX2 63 yX2_isFilled ∈ kq_tb := kq_m (i := 311) (by decide +kernel) rfl
theorem ml_X2_67 : Cond.methodLink RX2 67 yX2_isAired ∈ kq_tb := kq_m (i := 315) (by decide +kernel) rfl
theorem ml_X2_70 : Cond.methodLink RX2 70 yX2_goBy ∈ kq_tb := kq_m (i := 318) (by decide +kernel) rfl
theorem ml_X2_73 : Cond.methodLink RX2 73 yX0_hasPerson ∈ kq_tb := kq_m (i := 259) (by decide +kernel) rfl
theorem ml_X2_76 : Cond.methodLink RX2 76 yX0_hasDoor ∈ kq_tb := kq_m (i := 263) (by decide +kernel) rfl
theorem ml_X2_79 : Cond.methodLink RX2 79 yX0_canOpen ∈ kq_tb := kq_m (i := 267) (by decide +kernel) rfl
theorem ml_X2_82 : Cond.methodLink RX2 82 yX0_open ∈ kq_tb := kq_m (i := 275) (by decide +kernel) rfl
theorem ml_X2_86 : Cond.methodLink RX2 86 yX0_fill ∈ kq_tb := kq_m (i := 314) (by decide +kernel) rfl
theorem ml_X2_93 : Cond.methodLink RX2 93 yX0_pass ∈ kq_tb := kq_m (i := 321) (by decide +kernel) rfl
theorem ml_X3_24 : Cond.methodLink RX3 24 yX0_givenAfter ∈ kq_tb := kq_m (i := 436) (by decide +kernel) rfl
theorem ml_X3_35 : Cond.methodLink RX3 35 yX3_isCheaper ∈ kq_tb := kq_m (i := 445) (by decide +kernel) rfl
theorem ml_X3_39 : Cond.methodLink RX3 39 yX3_priceThrough ∈ kq_tb := kq_m (i := 449) (by decide +kernel) rfl
theorem ml_X3_42 : Cond.methodLink RX3 42 yX3_priceFrom ∈ kq_tb := kq_m (i := 453) (by decide +kernel) rfl
theorem ml_X3_46 : Cond.methodLink RX3 46 yJ9_min_7cf53 ∈ kq_tb := kq_m (i := 457) (by decide +kernel) rfl
theorem ml_X3_51 : Cond.methodLink RX3 51 yX0_leadsFrom ∈ kq_tb := kq_m (i := 470) (by decide +kernel) rfl
theorem ml_X3_55 : Cond.methodLink RX3 55 yX0_beyond ∈ kq_tb := kq_m (i := 471) (by decide +kernel) rfl
theorem ml_L_13 : Cond.methodLink RL 13 yX4_letter ∈ kq_tb := kq_m (i := 191) (by decide +kernel) rfl
theorem ml_L_17 : Cond.methodLink RL 17 yX5_letter ∈ kq_tb := kq_m (i := 729) (by decide +kernel) rfl
theorem ml_L_18 : Cond.methodLink RL 18 yX4_house ∈ kq_tb := kq_m (i := 203) (by decide +kernel) rfl
theorem ml_L_22 : Cond.methodLink RL 22 yX5_house ∈ kq_tb := kq_m (i := 737) (by decide +kernel) rfl
theorem ml_L_23 : Cond.methodLink RL 23 yX4_door ∈ kq_tb := kq_m (i := 336) (by decide +kernel) rfl
theorem ml_L_27 : Cond.methodLink RL 27 yX5_door ∈ kq_tb := kq_m (i := 827) (by decide +kernel) rfl
theorem ml_L_28 : Cond.methodLink RL 28 yX4_person ∈ kq_tb := kq_m (i := 345) (by decide +kernel) rfl
theorem ml_L_31 : Cond.methodLink RL 31 yX5_person ∈ kq_tb := kq_m (i := 831) (by decide +kernel) rfl
theorem ml_L_32 : Cond.methodLink RL 32 yX4_opens ∈ kq_tb := kq_m (i := 351) (by decide +kernel) rfl
theorem ml_L_35 : Cond.methodLink RL 35 yX5_opens ∈ kq_tb := kq_m (i := 835) (by decide +kernel) rfl
theorem ml_L_36 : Cond.methodLink RL 36 yX4_quarrels ∈ kq_tb := kq_m (i := 357) (by decide +kernel) rfl
theorem ml_L_40 : Cond.methodLink RL 40 yX5_quarrels ∈ kq_tb := kq_m (i := 839) (by decide +kernel) rfl
theorem ml_L_41 : Cond.methodLink RL 41 yX4_airs ∈ kq_tb := kq_m (i := 365) (by decide +kernel) rfl
theorem ml_L_44 : Cond.methodLink RL 44 yX5_airs ∈ kq_tb := kq_m (i := 846) (by decide +kernel) rfl
theorem ml_L_45 : Cond.methodLink RL 45 yX4_moods ∈ kq_tb := kq_m (i := 369) (by decide +kernel) rfl
theorem ml_L_48 : Cond.methodLink RL 48 yX5_moods ∈ kq_tb := kq_m (i := 850) (by decide +kernel) rfl
theorem ml_L_49 : Cond.methodLink RL 49 yX4_stands ∈ kq_tb := kq_m (i := 373) (by decide +kernel) rfl
theorem ml_L_52 : Cond.methodLink RL 52 yX5_stands ∈ kq_tb := kq_m (i := 854) (by decide +kernel) rfl
theorem ml_L_53 : Cond.methodLink RL 53 yX4_turn ∈ kq_tb := kq_m (i := 378) (by decide +kernel) rfl
theorem ml_L_56 : Cond.methodLink RL 56 yX5_turn ∈ kq_tb := kq_m (i := 858) (by decide +kernel) rfl
theorem ml_L_57 : Cond.methodLink RL 57 yX4_hours ∈ kq_tb := kq_m (i := 382) (by decide +kernel) rfl
theorem ml_L_60 : Cond.methodLink RL 60 yX5_hours ∈ kq_tb := kq_m (i := 862) (by decide +kernel) rfl
theorem ml_L_61 : Cond.methodLink RL 61 yX4_doorThen ∈ kq_tb := kq_m (i := 391) (by decide +kernel) rfl
theorem ml_L_64 : Cond.methodLink RL 64 yX5_doorThen ∈ kq_tb := kq_m (i := 869) (by decide +kernel) rfl
theorem ml_L_65 : Cond.methodLink RL 65 yX4_moodThen ∈ kq_tb := kq_m (i := 399) (by decide +kernel) rfl
theorem ml_L_68 : Cond.methodLink RL 68 yX5_moodThen ∈ kq_tb := kq_m (i := 877) (by decide +kernel) rfl
theorem ml_L_69 : Cond.methodLink RL 69 yX4_first ∈ kq_tb := kq_m (i := 404) (by decide +kernel) rfl
theorem ml_L_72 : Cond.methodLink RL 72 yX5_first ∈ kq_tb := kq_m (i := 881) (by decide +kernel) rfl
theorem ml_L_73 : Cond.methodLink RL 73 yX4_way ∈ kq_tb := kq_m (i := 424) (by decide +kernel) rfl
theorem ml_L_76 : Cond.methodLink RL 76 yX5_way ∈ kq_tb := kq_m (i := 897) (by decide +kernel) rfl
theorem ml_L_77 : Cond.methodLink RL 77 yX4_fewest ∈ kq_tb := kq_m (i := 472) (by decide +kernel) rfl
theorem ml_L_80 : Cond.methodLink RL 80 yX5_fewest ∈ kq_tb := kq_m (i := 916) (by decide +kernel) rfl
theorem ml_L_81 : Cond.methodLink RL 81 yX4_near ∈ kq_tb := kq_m (i := 480) (by decide +kernel) rfl
theorem ml_L_84 : Cond.methodLink RL 84 yX5_near ∈ kq_tb := kq_m (i := 927) (by decide +kernel) rfl
theorem ml_L_85 : Cond.methodLink RL 85 yX4_cutOff ∈ kq_tb := kq_m (i := 484) (by decide +kernel) rfl
theorem ml_L_88 : Cond.methodLink RL 88 yX5_cutOff ∈ kq_tb := kq_m (i := 931) (by decide +kernel) rfl
theorem ml_L_89 : Cond.methodLink RL 89 yX4_goes ∈ kq_tb := kq_m (i := 488) (by decide +kernel) rfl
theorem ml_L_92 : Cond.methodLink RL 92 yX5_goes ∈ kq_tb := kq_m (i := 935) (by decide +kernel) rfl
theorem ml_L_93 : Cond.methodLink RL 93 yX4_air ∈ kq_tb := kq_m (i := 492) (by decide +kernel) rfl
theorem ml_L_96 : Cond.methodLink RL 96 yX5_air ∈ kq_tb := kq_m (i := 939) (by decide +kernel) rfl
theorem ml_L_97 : Cond.methodLink RL 97 yX4_shut ∈ kq_tb := kq_m (i := 500) (by decide +kernel) rfl
theorem ml_L_100 : Cond.methodLink RL 100 yX5_shut ∈ kq_tb := kq_m (i := 947) (by decide +kernel) rfl
theorem ml_L_101 : Cond.methodLink RL 101 yX4_pause ∈ kq_tb := kq_m (i := 504) (by decide +kernel) rfl
theorem ml_L_104 : Cond.methodLink RL 104 yX5_pause ∈ kq_tb := kq_m (i := 951) (by decide +kernel) rfl
theorem ml_L_105 : Cond.methodLink RL 105 yX4_walk ∈ kq_tb := kq_m (i := 508) (by decide +kernel) rfl
theorem ml_L_108 : Cond.methodLink RL 108 yX5_walk ∈ kq_tb := kq_m (i := 955) (by decide +kernel) rfl
theorem ml_L_109 : Cond.methodLink RL 109 yX4_order ∈ kq_tb := kq_m (i := 512) (by decide +kernel) rfl
theorem ml_L_112 : Cond.methodLink RL 112 yX5_order ∈ kq_tb := kq_m (i := 959) (by decide +kernel) rfl
theorem ml_L_113 : Cond.methodLink RL 113 yX4_echo ∈ kq_tb := kq_m (i := 525) (by decide +kernel) rfl
theorem ml_L_116 : Cond.methodLink RL 116 yX5_echo ∈ kq_tb := kq_m (i := 975) (by decide +kernel) rfl
theorem ml_L_117 : Cond.methodLink RL 117 yX4_voices ∈ kq_tb := kq_m (i := 550) (by decide +kernel) rfl
theorem ml_L_120 : Cond.methodLink RL 120 yX5_voices ∈ kq_tb := kq_m (i := 983) (by decide +kernel) rfl
theorem ml_L_121 : Cond.methodLink RL 121 yX4_heard ∈ kq_tb := kq_m (i := 558) (by decide +kernel) rfl
theorem ml_L_124 : Cond.methodLink RL 124 yX5_heard ∈ kq_tb := kq_m (i := 991) (by decide +kernel) rfl
theorem ml_L_125 : Cond.methodLink RL 125 yX4_meet ∈ kq_tb := kq_m (i := 576) (by decide +kernel) rfl
theorem ml_L_128 : Cond.methodLink RL 128 yX5_meet ∈ kq_tb := kq_m (i := 1006) (by decide +kernel) rfl
theorem ml_L_129 : Cond.methodLink RL 129 yX4_two ∈ kq_tb := kq_m (i := 530) (by decide +kernel) rfl
theorem ml_L_132 : Cond.methodLink RL 132 yX5_two ∈ kq_tb := kq_m (i := 1010) (by decide +kernel) rfl
theorem ml_L_133 : Cond.methodLink RL 133 yX4_draught ∈ kq_tb := kq_m (i := 584) (by decide +kernel) rfl
theorem ml_L_137 : Cond.methodLink RL 137 yX5_draught ∈ kq_tb := kq_m (i := 1018) (by decide +kernel) rfl
theorem ml_L_138 : Cond.methodLink RL 138 yX4_mean ∈ kq_tb := kq_m (i := 605) (by decide +kernel) rfl
theorem ml_L_142 : Cond.methodLink RL 142 yX5_mean ∈ kq_tb := kq_m (i := 1033) (by decide +kernel) rfl
theorem ml_L_143 : Cond.methodLink RL 143 yX4_who ∈ kq_tb := kq_m (i := 622) (by decide +kernel) rfl
theorem ml_L_146 : Cond.methodLink RL 146 yX5_who ∈ kq_tb := kq_m (i := 1037) (by decide +kernel) rfl
theorem ml_L_147 : Cond.methodLink RL 147 yX4_whatIs ∈ kq_tb := kq_m (i := 631) (by decide +kernel) rfl
theorem ml_L_150 : Cond.methodLink RL 150 yX5_whatIs ∈ kq_tb := kq_m (i := 1045) (by decide +kernel) rfl
theorem ml_L_151 : Cond.methodLink RL 151 yX4_row ∈ kq_tb := kq_m (i := 610) (by decide +kernel) rfl
theorem ml_L_154 : Cond.methodLink RL 154 yX5_row ∈ kq_tb := kq_m (i := 1049) (by decide +kernel) rfl
theorem ml_L_155 : Cond.methodLink RL 155 yX4_judge ∈ kq_tb := kq_m (i := 618) (by decide +kernel) rfl
theorem ml_L_158 : Cond.methodLink RL 158 yX5_judge ∈ kq_tb := kq_m (i := 1053) (by decide +kernel) rfl
theorem ml_L_159 : Cond.methodLink RL 159 yX4_clear ∈ kq_tb := kq_m (i := 614) (by decide +kernel) rfl
theorem ml_L_162 : Cond.methodLink RL 162 yX5_clear ∈ kq_tb := kq_m (i := 1057) (by decide +kernel) rfl
theorem ml_L_163 : Cond.methodLink RL 163 yX4_lots ∈ kq_tb := kq_m (i := 643) (by decide +kernel) rfl
theorem ml_L_166 : Cond.methodLink RL 166 yX5_lots ∈ kq_tb := kq_m (i := 1061) (by decide +kernel) rfl
theorem ml_L_167 : Cond.methodLink RL 167 yX4_image ∈ kq_tb := kq_m (i := 664) (by decide +kernel) rfl
theorem ml_L_170 : Cond.methodLink RL 170 yX5_image ∈ kq_tb := kq_m (i := 1075) (by decide +kernel) rfl
theorem ml_L_171 : Cond.methodLink RL 171 yX4_on ∈ kq_tb := kq_m (i := 668) (by decide +kernel) rfl
theorem ml_L_174 : Cond.methodLink RL 174 yX5_on ∈ kq_tb := kq_m (i := 1079) (by decide +kernel) rfl
theorem ml_L_175 : Cond.methodLink RL 175 yX4_count ∈ kq_tb := kq_m (i := 672) (by decide +kernel) rfl
theorem ml_L_178 : Cond.methodLink RL 178 yX5_count ∈ kq_tb := kq_m (i := 1083) (by decide +kernel) rfl
theorem ml_X5_38 : Cond.methodLink RX5 38 yX5_no ∈ kq_tb := kq_m (i := 733) (by decide +kernel) rfl
theorem ml_X5_44 : Cond.methodLink RX5 44 yX5_isIn ∈ kq_tb := kq_m (i := 760) (by decide +kernel) rfl
theorem ml_X5_48 : Cond.methodLink RX5 48 yX5_ofD ∈ kq_tb := kq_m (i := 777) (by decide +kernel) rfl
theorem ml_X5_52 : Cond.methodLink RX5 52 yX5_held ∈ kq_tb := kq_m (i := 800) (by decide +kernel) rfl
theorem ml_X5_55 : Cond.methodLink RX5 55 yX5_ofP ∈ kq_tb := kq_m (i := 780) (by decide +kernel) rfl
theorem ml_X5_58 : Cond.methodLink RX5 58 yX5_gives ∈ kq_tb := kq_m (i := 797) (by decide +kernel) rfl
theorem ml_X5_62 : Cond.methodLink RX5 62 yX5_says ∈ kq_tb := kq_m (i := 803) (by decide +kernel) rfl
theorem ml_X5_65 : Cond.methodLink RX5 65 yX5_keeps ∈ kq_tb := kq_m (i := 806) (by decide +kernel) rfl
theorem ml_X5_69 : Cond.methodLink RX5 69 yX5_heats ∈ kq_tb := kq_m (i := 809) (by decide +kernel) rfl
theorem ml_X5_73 : Cond.methodLink RX5 73 yX5_beyond ∈ kq_tb := kq_m (i := 812) (by decide +kernel) rfl
theorem ml_X5_76 : Cond.methodLink RX5 76 yX5_cools ∈ kq_tb := kq_m (i := 821) (by decide +kernel) rfl
theorem ml_X5_79 : Cond.methodLink RX5 79 yX5_coolsTo ∈ kq_tb := kq_m (i := 824) (by decide +kernel) rfl
theorem ml_X5_83 : Cond.methodLink RX5 83 yX5_hour ∈ kq_tb := kq_m (i := 818) (by decide +kernel) rfl
theorem ml_X5_94 : Cond.methodLink RX5 94 yX5_here ∈ kq_tb := kq_m (i := 745) (by decide +kernel) rfl
theorem ml_X5_98 : Cond.methodLink RX5 98 yX5_kindBy ∈ kq_tb := kq_m (i := 753) (by decide +kernel) rfl
theorem ml_X5_101 : Cond.methodLink RX5 101 yX5_readsKind ∈ kq_tb := kq_m (i := 749) (by decide +kernel) rfl
theorem ml_X5_105 : Cond.methodLink RX5 105 yX5_readsNumber ∈ kq_tb := kq_m (i := 756) (by decide +kernel) rfl
theorem ml_X5_109 : Cond.methodLink RX5 109 yX5_isRoom ∈ kq_tb := kq_m (i := 774) (by decide +kernel) rfl
theorem ml_X5_113 : Cond.methodLink RX5 113 yX5_addsDoor ∈ kq_tb := kq_m (i := 770) (by decide +kernel) rfl
theorem ml_X5_117 : Cond.methodLink RX5 117 yX5_isPerson ∈ kq_tb := kq_m (i := 783) (by decide +kernel) rfl
theorem ml_X5_120 : Cond.methodLink RX5 120 yX5_isDoor ∈ kq_tb := kq_m (i := 787) (by decide +kernel) rfl
theorem ml_X5_123 : Cond.methodLink RX5 123 yX5_isOf ∈ kq_tb := kq_m (i := 791) (by decide +kernel) rfl
theorem ml_X5_127 : Cond.methodLink RX5 127 yX5_opensIn ∈ kq_tb := kq_m (i := 794) (by decide +kernel) rfl
theorem ml_X5_130 : Cond.methodLink RX5 130 yX5_hoursOn ∈ kq_tb := kq_m (i := 815) (by decide +kernel) rfl
theorem ml_X5_134 : Cond.methodLink RX5 134 yX5_readsStatement ∈ kq_tb := kq_m (i := 741) (by decide +kernel) rfl
theorem ml_X5_137 : Cond.methodLink RX5 137 yX5_copies ∈ kq_tb := kq_m (i := 763) (by decide +kernel) rfl
theorem ml_X5_141 : Cond.methodLink RX5 141 yX5_isDone ∈ kq_tb := kq_m (i := 766) (by decide +kernel) rfl
theorem ml_X5_144 : Cond.methodLink RX5 144 yX5_wrongBy ∈ kq_tb := kq_m (i := 843) (by decide +kernel) rfl
theorem ml_X5_148 : Cond.methodLink RX5 148 yX5_allHeat ∈ kq_tb := kq_m (i := 866) (by decide +kernel) rfl
theorem ml_X5_152 : Cond.methodLink RX5 152 yX5_takes ∈ kq_tb := kq_m (i := 873) (by decide +kernel) rfl
theorem ml_X5_156 : Cond.methodLink RX5 156 yX5_cold ∈ kq_tb := kq_m (i := 885) (by decide +kernel) rfl
theorem ml_X5_159 : Cond.methodLink RX5 159 yX5_hottest ∈ kq_tb := kq_m (i := 889) (by decide +kernel) rfl
theorem ml_X5_162 : Cond.methodLink RX5 162 yX5_loudest ∈ kq_tb := kq_m (i := 893) (by decide +kernel) rfl
theorem ml_X5_165 : Cond.methodLink RX5 165 yX5_tollOf ∈ kq_tb := kq_m (i := 910) (by decide +kernel) rfl
theorem ml_X5_168 : Cond.methodLink RX5 168 yX5_areWrong ∈ kq_tb := kq_m (i := 901) (by decide +kernel) rfl
theorem ml_X5_171 : Cond.methodLink RX5 171 yX5_tolls ∈ kq_tb := kq_m (i := 905) (by decide +kernel) rfl
theorem ml_X5_174 : Cond.methodLink RX5 174 yX5_firstDoor ∈ kq_tb := kq_m (i := 913) (by decide +kernel) rfl
theorem ml_X5_178 : Cond.methodLink RX5 178 yX5_has ∈ kq_tb := kq_m (i := 924) (by decide +kernel) rfl
theorem ml_X5_181 : Cond.methodLink RX5 181 yX5_fewestFrom ∈ kq_tb := kq_m (i := 920) (by decide +kernel) rfl
theorem ml_X5_184 : Cond.methodLink RX5 184 yX5_givenBy ∈ kq_tb := kq_m (i := 943) (by decide +kernel) rfl
theorem ml_X5_191 : Cond.methodLink RX5 191 yX5_opensBoth ∈ kq_tb := kq_m (i := 971) (by decide +kernel) rfl
theorem ml_X5_195 : Cond.methodLink RX5 195 yX5_wrongTwo ∈ kq_tb := kq_m (i := 963) (by decide +kernel) rfl
theorem ml_X5_198 : Cond.methodLink RX5 198 yX5_bothBy ∈ kq_tb := kq_m (i := 967) (by decide +kernel) rfl
theorem ml_X5_201 : Cond.methodLink RX5 201 yX5_noFar ∈ kq_tb := kq_m (i := 979) (by decide +kernel) rfl
theorem ml_X5_204 : Cond.methodLink RX5 204 yX5_withVoice ∈ kq_tb := kq_m (i := 987) (by decide +kernel) rfl
theorem ml_X5_207 : Cond.methodLink RX5 207 yX5_bits ∈ kq_tb := kq_m (i := 999) (by decide +kernel) rfl
theorem ml_X5_210 : Cond.methodLink RX5 210 yX5_mostHeard ∈ kq_tb := kq_m (i := 995) (by decide +kernel) rfl
theorem ml_X5_213 : Cond.methodLink RX5 213 yX5_worst ∈ kq_tb := kq_m (i := 1002) (by decide +kernel) rfl
theorem ml_X5_216 : Cond.methodLink RX5 216 yX5_moodBy ∈ kq_tb := kq_m (i := 1014) (by decide +kernel) rfl
theorem ml_X5_220 : Cond.methodLink RX5 220 yX5_gcd ∈ kq_tb := kq_m (i := 1030) (by decide +kernel) rfl
theorem ml_X5_224 : Cond.methodLink RX5 224 yX5_noWide ∈ kq_tb := kq_m (i := 1022) (by decide +kernel) rfl
theorem ml_X5_228 : Cond.methodLink RX5 228 yX5_partOf ∈ kq_tb := kq_m (i := 1027) (by decide +kernel) rfl
theorem ml_X5_232 : Cond.methodLink RX5 232 yX5_isHeatSo ∈ kq_tb := kq_m (i := 1041) (by decide +kernel) rfl
theorem ml_X5_241 : Cond.methodLink RX5 241 yX5_drawn ∈ kq_tb := kq_m (i := 1065) (by decide +kernel) rfl
theorem ml_X5_244 : Cond.methodLink RX5 244 yX5_allMoods ∈ kq_tb := kq_m (i := 1072) (by decide +kernel) rfl
theorem ct_X4_201 : Cond.constant RX4 201 (1000000000) ∈ kq_tb := kq_m (i := 529) (by decide +kernel) rfl
theorem ct_X4_288 : Cond.constant RX4 288 (1664525) ∈ kq_tb := kq_m (i := 654) (by decide +kernel) rfl
theorem ct_X4_289 : Cond.constant RX4 289 (1013904223) ∈ kq_tb := kq_m (i := 655) (by decide +kernel) rfl
theorem ct_X4_290 : Cond.constant RX4 290 (2147483647) ∈ kq_tb := kq_m (i := 659) (by decide +kernel) rfl
theorem ct_X4_294 : Cond.constantLong RX4 294 (4000000000000000000) ∈ kq_tb := kq_m (i := 592) (by decide +kernel) rfl
theorem ct_X3_28 : Cond.constant RX3 28 (1000000) ∈ kq_tb := kq_m (i := 444) (by decide +kernel) rfl
theorem ct_X5_37 : Cond.constant RX5 37 (1000000000) ∈ kq_tb := kq_m (i := 909) (by decide +kernel) rfl
theorem ct_X5_42 : Cond.constantLong RX5 42 (4000000000000000000) ∈ kq_tb := kq_m (i := 1026) (by decide +kernel) rfl
theorem ct_X5_238 : Cond.constant RX5 238 (1664525) ∈ kq_tb := kq_m (i := 1069) (by decide +kernel) rfl
theorem ct_X5_239 : Cond.constant RX5 239 (1013904223) ∈ kq_tb := kq_m (i := 1070) (by decide +kernel) rfl
theorem ct_X5_240 : Cond.constant RX5 240 (2147483647) ∈ kq_tb := kq_m (i := 1071) (by decide +kernel) rfl
theorem ct_J6_265 : Cond.constant RJ6 265 (1431655765) ∈ kq_tb := kq_m (i := 569) (by decide +kernel) rfl
theorem ct_J6_266 : Cond.constant RJ6 266 (858993459) ∈ kq_tb := kq_m (i := 570) (by decide +kernel) rfl
theorem ct_J6_267 : Cond.constant RJ6 267 (252645135) ∈ kq_tb := kq_m (i := 571) (by decide +kernel) rfl
theorem mj_max_s : Cond.static Lib.Math.max.name ∈ kq_tb := kq_m (i := 305) (by decide +kernel) rfl
theorem mj_max_c : Cond.code Lib.Math.max.name Lib.Math.max.code 2 (some .int) ∈ kq_tb := kq_m (i := 306) (by decide +kernel) rfl
theorem mj_min_s : Cond.static Lib.Math.min.name ∈ kq_tb := kq_m (i := 286) (by decide +kernel) rfl
theorem mj_min_c : Cond.code Lib.Math.min.name Lib.Math.min.code 2 (some .int) ∈ kq_tb := kq_m (i := 287) (by decide +kernel) rfl
theorem mj_i : Cond.initialized "java/lang/Math" ∈ kq_tb := kq_m (i := 66) (by decide +kernel) rfl
