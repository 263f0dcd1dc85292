section
-- ===== PART A: goes FIRST, ahead of the names: the tables' words, and 'selects' of the private methods out of them =====
/-- a private method of a class that the tables say can be made, by its rows of tables_1 -/
def lw_okq (q : MethodName × Nat) : Prop := (q.1.cls ≠ "java/lang/invoke/MethodHandle" ∧ q.1.cls ≠ "java/lang/invoke/VarHandle") ∧ Cond.instantiable q.1.cls q.2 ∈ tables_1 ∧ Cond.privateMethod q.1 ∈ tables_1 ∧ Cond.instanceMethod q.1 ∈ tables_1
theorem lw_p0 : lw_okq (⟨"HouseManner", "tapeNumber", "(I)V"⟩, 17) := ⟨⟨by decide +kernel, by decide +kernel⟩, List.mem_of_getElem? (i := 23) (by decide +kernel), List.mem_of_getElem? (i := 282) (by decide +kernel), List.mem_of_getElem? (i := 283) (by decide +kernel)⟩
theorem lw_p1 : lw_okq (⟨"HouseManner", "tallyAllTexts", "()V"⟩, 17) := ⟨⟨by decide +kernel, by decide +kernel⟩, List.mem_of_getElem? (i := 23) (by decide +kernel), List.mem_of_getElem? (i := 290) (by decide +kernel), List.mem_of_getElem? (i := 291) (by decide +kernel)⟩
theorem lw_p2 : lw_okq (⟨"HouseManner", "tallyText", "(LHouseManner$Text;)V"⟩, 17) := ⟨⟨by decide +kernel, by decide +kernel⟩, List.mem_of_getElem? (i := 23) (by decide +kernel), List.mem_of_getElem? (i := 301) (by decide +kernel), List.mem_of_getElem? (i := 302) (by decide +kernel)⟩
theorem lw_p3 : lw_okq (⟨"HouseManner$Tally", "countWrong", "(II)V"⟩, 4) := ⟨⟨by decide +kernel, by decide +kernel⟩, List.mem_of_getElem? (i := 175) (by decide +kernel), List.mem_of_getElem? (i := 320) (by decide +kernel), List.mem_of_getElem? (i := 321) (by decide +kernel)⟩
theorem lw_p4 : lw_okq (⟨"HouseManner$Tally", "weigh", "(LHouseManner$Habit;III)V"⟩, 4) := ⟨⟨by decide +kernel, by decide +kernel⟩, List.mem_of_getElem? (i := 175) (by decide +kernel), List.mem_of_getElem? (i := 328) (by decide +kernel), List.mem_of_getElem? (i := 329) (by decide +kernel)⟩
theorem lw_p5 : lw_okq (⟨"HouseManner$Tally", "wrongWhere", "(II)I"⟩, 4) := ⟨⟨by decide +kernel, by decide +kernel⟩, List.mem_of_getElem? (i := 175) (by decide +kernel), List.mem_of_getElem? (i := 332) (by decide +kernel), List.mem_of_getElem? (i := 333) (by decide +kernel)⟩
theorem lw_p6 : lw_okq (⟨"HouseManner$Tally", "wrong", "(III)I"⟩, 4) := ⟨⟨by decide +kernel, by decide +kernel⟩, List.mem_of_getElem? (i := 175) (by decide +kernel), List.mem_of_getElem? (i := 336) (by decide +kernel), List.mem_of_getElem? (i := 337) (by decide +kernel)⟩
theorem lw_p7 : lw_okq (⟨"HouseManner$Tally", "isCheaper", "(II)Z"⟩, 4) := ⟨⟨by decide +kernel, by decide +kernel⟩, List.mem_of_getElem? (i := 175) (by decide +kernel), List.mem_of_getElem? (i := 340) (by decide +kernel), List.mem_of_getElem? (i := 341) (by decide +kernel)⟩
theorem lw_p8 : lw_okq (⟨"HouseManner$Tally", "wrongBySecond", "(III)I"⟩, 4) := ⟨⟨by decide +kernel, by decide +kernel⟩, List.mem_of_getElem? (i := 175) (by decide +kernel), List.mem_of_getElem? (i := 344) (by decide +kernel), List.mem_of_getElem? (i := 345) (by decide +kernel)⟩
theorem lw_p9 : lw_okq (⟨"HouseManner$Tally", "wrongWhereBoth", "(III)I"⟩, 4) := ⟨⟨by decide +kernel, by decide +kernel⟩, List.mem_of_getElem? (i := 175) (by decide +kernel), List.mem_of_getElem? (i := 348) (by decide +kernel), List.mem_of_getElem? (i := 349) (by decide +kernel)⟩
theorem lw_p10 : lw_okq (⟨"HouseManner$Tally", "wrongByLast", "(III)I"⟩, 4) := ⟨⟨by decide +kernel, by decide +kernel⟩, List.mem_of_getElem? (i := 175) (by decide +kernel), List.mem_of_getElem? (i := 352) (by decide +kernel), List.mem_of_getElem? (i := 353) (by decide +kernel)⟩
theorem lw_p11 : lw_okq (⟨"HouseManner$Tally", "weighTwo", "(LHouseManner$Habit;I)V"⟩, 4) := ⟨⟨by decide +kernel, by decide +kernel⟩, List.mem_of_getElem? (i := 175) (by decide +kernel), List.mem_of_getElem? (i := 368) (by decide +kernel), List.mem_of_getElem? (i := 369) (by decide +kernel)⟩
theorem lw_p12 : lw_okq (⟨"HouseManner", "countMade", "(LHouseManner$Text;I)I"⟩, 17) := ⟨⟨by decide +kernel, by decide +kernel⟩, List.mem_of_getElem? (i := 23) (by decide +kernel), List.mem_of_getElem? (i := 376) (by decide +kernel), List.mem_of_getElem? (i := 377) (by decide +kernel)⟩
theorem lw_p13 : lw_okq (⟨"HouseManner$Maker", "startPart", "(II)V"⟩, 3) := ⟨⟨by decide +kernel, by decide +kernel⟩, List.mem_of_getElem? (i := 157) (by decide +kernel), List.mem_of_getElem? (i := 390) (by decide +kernel), List.mem_of_getElem? (i := 391) (by decide +kernel)⟩
theorem lw_p14 : lw_okq (⟨"HouseManner$Maker", "put", "(I)V"⟩, 3) := ⟨⟨by decide +kernel, by decide +kernel⟩, List.mem_of_getElem? (i := 157) (by decide +kernel), List.mem_of_getElem? (i := 394) (by decide +kernel), List.mem_of_getElem? (i := 395) (by decide +kernel)⟩
theorem lw_p15 : lw_okq (⟨"java/lang/Throwable", "fillInStackTrace", "(I)Ljava/lang/Throwable;"⟩, 6) := ⟨⟨by decide +kernel, by decide +kernel⟩, List.mem_of_getElem? (i := 452) (by decide +kernel), List.mem_of_getElem? (i := 450) (by decide +kernel), List.mem_of_getElem? (i := 451) (by decide +kernel)⟩
def lw_privs_1 : List (MethodName × Nat) := [(⟨"HouseManner", "tapeNumber", "(I)V"⟩, 17), (⟨"HouseManner", "tallyAllTexts", "()V"⟩, 17), (⟨"HouseManner", "tallyText", "(LHouseManner$Text;)V"⟩, 17), (⟨"HouseManner$Tally", "countWrong", "(II)V"⟩, 4), (⟨"HouseManner$Tally", "weigh", "(LHouseManner$Habit;III)V"⟩, 4), (⟨"HouseManner$Tally", "wrongWhere", "(II)I"⟩, 4), (⟨"HouseManner$Tally", "wrong", "(III)I"⟩, 4), (⟨"HouseManner$Tally", "isCheaper", "(II)Z"⟩, 4), (⟨"HouseManner$Tally", "wrongBySecond", "(III)I"⟩, 4), (⟨"HouseManner$Tally", "wrongWhereBoth", "(III)I"⟩, 4), (⟨"HouseManner$Tally", "wrongByLast", "(III)I"⟩, 4), (⟨"HouseManner$Tally", "weighTwo", "(LHouseManner$Habit;I)V"⟩, 4), (⟨"HouseManner", "countMade", "(LHouseManner$Text;I)I"⟩, 17), (⟨"HouseManner$Maker", "startPart", "(II)V"⟩, 3), (⟨"HouseManner$Maker", "put", "(I)V"⟩, 3), (⟨"java/lang/Throwable", "fillInStackTrace", "(I)Ljava/lang/Throwable;"⟩, 6)]
theorem lw_r1 : ∀ q ∈ lw_privs_1, lw_okq q := List.forall_mem_cons.mpr ⟨lw_p0, List.forall_mem_cons.mpr ⟨lw_p1, List.forall_mem_cons.mpr ⟨lw_p2, List.forall_mem_cons.mpr ⟨lw_p3, List.forall_mem_cons.mpr ⟨lw_p4, List.forall_mem_cons.mpr ⟨lw_p5, List.forall_mem_cons.mpr ⟨lw_p6, List.forall_mem_cons.mpr ⟨lw_p7, List.forall_mem_cons.mpr ⟨lw_p8, List.forall_mem_cons.mpr ⟨lw_p9, List.forall_mem_cons.mpr ⟨lw_p10, List.forall_mem_cons.mpr ⟨lw_p11, List.forall_mem_cons.mpr ⟨lw_p12, List.forall_mem_cons.mpr ⟨lw_p13, List.forall_mem_cons.mpr ⟨lw_p14, List.forall_mem_cons.mpr ⟨lw_p15, fun _ h => absurd h List.not_mem_nil⟩⟩⟩⟩⟩⟩⟩⟩⟩⟩⟩⟩⟩⟩⟩⟩
theorem lw_p16 : lw_okq (⟨"HouseManner", "replaceText", "(II[BI)I"⟩, 17) := ⟨⟨by decide +kernel, by decide +kernel⟩, List.mem_of_getElem? (i := 23) (by decide +kernel), List.mem_of_getElem? (i := 477) (by decide +kernel), List.mem_of_getElem? (i := 478) (by decide +kernel)⟩
theorem lw_p17 : lw_okq (⟨"HouseManner$Reader", "scan", "(LHouseManner$Text;)V"⟩, 11) := ⟨⟨by decide +kernel, by decide +kernel⟩, List.mem_of_getElem? (i := 93) (by decide +kernel), List.mem_of_getElem? (i := 496) (by decide +kernel), List.mem_of_getElem? (i := 497) (by decide +kernel)⟩
theorem lw_p18 : lw_okq (⟨"HouseManner$Reader", "wordEnd", "(LHouseManner$Text;)I"⟩, 11) := ⟨⟨by decide +kernel, by decide +kernel⟩, List.mem_of_getElem? (i := 93) (by decide +kernel), List.mem_of_getElem? (i := 509) (by decide +kernel), List.mem_of_getElem? (i := 510) (by decide +kernel)⟩
theorem lw_p19 : lw_okq (⟨"HouseManner$Reader", "digitsEnd", "(LHouseManner$Text;)I"⟩, 11) := ⟨⟨by decide +kernel, by decide +kernel⟩, List.mem_of_getElem? (i := 93) (by decide +kernel), List.mem_of_getElem? (i := 577) (by decide +kernel), List.mem_of_getElem? (i := 578) (by decide +kernel)⟩
theorem lw_p20 : lw_okq (⟨"HouseManner$Reader", "mayEnd", "()Z"⟩, 11) := ⟨⟨by decide +kernel, by decide +kernel⟩, List.mem_of_getElem? (i := 93) (by decide +kernel), List.mem_of_getElem? (i := 587) (by decide +kernel), List.mem_of_getElem? (i := 588) (by decide +kernel)⟩
theorem lw_p21 : lw_okq (⟨"HouseManner$Reader", "faultAt", "(II)I"⟩, 11) := ⟨⟨by decide +kernel, by decide +kernel⟩, List.mem_of_getElem? (i := 93) (by decide +kernel), List.mem_of_getElem? (i := 591) (by decide +kernel), List.mem_of_getElem? (i := 592) (by decide +kernel)⟩
theorem lw_p22 : lw_okq (⟨"HouseManner$Reader", "stands", "()Z"⟩, 11) := ⟨⟨by decide +kernel, by decide +kernel⟩, List.mem_of_getElem? (i := 93) (by decide +kernel), List.mem_of_getElem? (i := 595) (by decide +kernel), List.mem_of_getElem? (i := 596) (by decide +kernel)⟩
theorem lw_p23 : lw_okq (⟨"HouseManner$Reader", "expect", "(ZI)Z"⟩, 11) := ⟨⟨by decide +kernel, by decide +kernel⟩, List.mem_of_getElem? (i := 93) (by decide +kernel), List.mem_of_getElem? (i := 599) (by decide +kernel), List.mem_of_getElem? (i := 600) (by decide +kernel)⟩
theorem lw_p24 : lw_okq (⟨"HouseManner$Reader", "push", "(I)Z"⟩, 11) := ⟨⟨by decide +kernel, by decide +kernel⟩, List.mem_of_getElem? (i := 93) (by decide +kernel), List.mem_of_getElem? (i := 603) (by decide +kernel), List.mem_of_getElem? (i := 604) (by decide +kernel)⟩
theorem lw_p25 : lw_okq (⟨"HouseManner$Reader", "endBracket", "()Z"⟩, 11) := ⟨⟨by decide +kernel, by decide +kernel⟩, List.mem_of_getElem? (i := 93) (by decide +kernel), List.mem_of_getElem? (i := 607) (by decide +kernel), List.mem_of_getElem? (i := 608) (by decide +kernel)⟩
theorem lw_p26 : lw_okq (⟨"HouseManner$Reader", "innermost", "()I"⟩, 11) := ⟨⟨by decide +kernel, by decide +kernel⟩, List.mem_of_getElem? (i := 93) (by decide +kernel), List.mem_of_getElem? (i := 611) (by decide +kernel), List.mem_of_getElem? (i := 612) (by decide +kernel)⟩
theorem lw_p27 : lw_okq (⟨"HouseManner$Reader", "startPart", "()Z"⟩, 11) := ⟨⟨by decide +kernel, by decide +kernel⟩, List.mem_of_getElem? (i := 93) (by decide +kernel), List.mem_of_getElem? (i := 615) (by decide +kernel), List.mem_of_getElem? (i := 616) (by decide +kernel)⟩
theorem lw_p28 : lw_okq (⟨"HouseManner$Reader", "goOnBehindPart", "()Z"⟩, 11) := ⟨⟨by decide +kernel, by decide +kernel⟩, List.mem_of_getElem? (i := 93) (by decide +kernel), List.mem_of_getElem? (i := 619) (by decide +kernel), List.mem_of_getElem? (i := 620) (by decide +kernel)⟩
theorem lw_p29 : lw_okq (⟨"HouseManner$Reader", "startBlock", "(I)Z"⟩, 11) := ⟨⟨by decide +kernel, by decide +kernel⟩, List.mem_of_getElem? (i := 93) (by decide +kernel), List.mem_of_getElem? (i := 623) (by decide +kernel), List.mem_of_getElem? (i := 624) (by decide +kernel)⟩
theorem lw_p30 : lw_okq (⟨"HouseManner$Reader", "startStatement", "()Z"⟩, 11) := ⟨⟨by decide +kernel, by decide +kernel⟩, List.mem_of_getElem? (i := 93) (by decide +kernel), List.mem_of_getElem? (i := 627) (by decide +kernel), List.mem_of_getElem? (i := 628) (by decide +kernel)⟩
theorem lw_p31 : lw_okq (⟨"HouseManner$Reader", "ownStatement", "(II)Z"⟩, 11) := ⟨⟨by decide +kernel, by decide +kernel⟩, List.mem_of_getElem? (i := 93) (by decide +kernel), List.mem_of_getElem? (i := 631) (by decide +kernel), List.mem_of_getElem? (i := 632) (by decide +kernel)⟩
def lw_privs_2 : List (MethodName × Nat) := [(⟨"HouseManner", "replaceText", "(II[BI)I"⟩, 17), (⟨"HouseManner$Reader", "scan", "(LHouseManner$Text;)V"⟩, 11), (⟨"HouseManner$Reader", "wordEnd", "(LHouseManner$Text;)I"⟩, 11), (⟨"HouseManner$Reader", "digitsEnd", "(LHouseManner$Text;)I"⟩, 11), (⟨"HouseManner$Reader", "mayEnd", "()Z"⟩, 11), (⟨"HouseManner$Reader", "faultAt", "(II)I"⟩, 11), (⟨"HouseManner$Reader", "stands", "()Z"⟩, 11), (⟨"HouseManner$Reader", "expect", "(ZI)Z"⟩, 11), (⟨"HouseManner$Reader", "push", "(I)Z"⟩, 11), (⟨"HouseManner$Reader", "endBracket", "()Z"⟩, 11), (⟨"HouseManner$Reader", "innermost", "()I"⟩, 11), (⟨"HouseManner$Reader", "startPart", "()Z"⟩, 11), (⟨"HouseManner$Reader", "goOnBehindPart", "()Z"⟩, 11), (⟨"HouseManner$Reader", "startBlock", "(I)Z"⟩, 11), (⟨"HouseManner$Reader", "startStatement", "()Z"⟩, 11), (⟨"HouseManner$Reader", "ownStatement", "(II)Z"⟩, 11)]
theorem lw_r2 : ∀ q ∈ lw_privs_2, lw_okq q := List.forall_mem_cons.mpr ⟨lw_p16, List.forall_mem_cons.mpr ⟨lw_p17, List.forall_mem_cons.mpr ⟨lw_p18, List.forall_mem_cons.mpr ⟨lw_p19, List.forall_mem_cons.mpr ⟨lw_p20, List.forall_mem_cons.mpr ⟨lw_p21, List.forall_mem_cons.mpr ⟨lw_p22, List.forall_mem_cons.mpr ⟨lw_p23, List.forall_mem_cons.mpr ⟨lw_p24, List.forall_mem_cons.mpr ⟨lw_p25, List.forall_mem_cons.mpr ⟨lw_p26, List.forall_mem_cons.mpr ⟨lw_p27, List.forall_mem_cons.mpr ⟨lw_p28, List.forall_mem_cons.mpr ⟨lw_p29, List.forall_mem_cons.mpr ⟨lw_p30, List.forall_mem_cons.mpr ⟨lw_p31, fun _ h => absurd h List.not_mem_nil⟩⟩⟩⟩⟩⟩⟩⟩⟩⟩⟩⟩⟩⟩⟩⟩
theorem lw_p32 : lw_okq (⟨"HouseManner$Reader", "endBlock", "()Z"⟩, 11) := ⟨⟨by decide +kernel, by decide +kernel⟩, List.mem_of_getElem? (i := 93) (by decide +kernel), List.mem_of_getElem? (i := 635) (by decide +kernel), List.mem_of_getElem? (i := 636) (by decide +kernel)⟩
theorem lw_p33 : lw_okq (⟨"HouseManner$Reader", "isTooMuch", "(LHouseManner$Text;)Z"⟩, 11) := ⟨⟨by decide +kernel, by decide +kernel⟩, List.mem_of_getElem? (i := 93) (by decide +kernel), List.mem_of_getElem? (i := 639) (by decide +kernel), List.mem_of_getElem? (i := 640) (by decide +kernel)⟩
theorem lw_p34 : lw_okq (⟨"HouseManner$Text", "choiceBetween", "(III)I"⟩, 13) := ⟨⟨by decide +kernel, by decide +kernel⟩, List.mem_of_getElem? (i := 32) (by decide +kernel), List.mem_of_getElem? (i := 662) (by decide +kernel), List.mem_of_getElem? (i := 663) (by decide +kernel)⟩
theorem lw_p35 : lw_okq (⟨"HouseManner", "forgetOutOf", "(I)V"⟩, 17) := ⟨⟨by decide +kernel, by decide +kernel⟩, List.mem_of_getElem? (i := 23) (by decide +kernel), List.mem_of_getElem? (i := 667) (by decide +kernel), List.mem_of_getElem? (i := 668) (by decide +kernel)⟩
theorem lw_p36 : lw_okq (⟨"HouseManner", "existing", "(I)LHouseManner$Text;"⟩, 17) := ⟨⟨by decide +kernel, by decide +kernel⟩, List.mem_of_getElem? (i := 23) (by decide +kernel), List.mem_of_getElem? (i := 708) (by decide +kernel), List.mem_of_getElem? (i := 709) (by decide +kernel)⟩
theorem lw_p37 : lw_okq (⟨"HouseManner", "toldAt", "(LHouseManner$Text;I)I"⟩, 17) := ⟨⟨by decide +kernel, by decide +kernel⟩, List.mem_of_getElem? (i := 23) (by decide +kernel), List.mem_of_getElem? (i := 756) (by decide +kernel), List.mem_of_getElem? (i := 757) (by decide +kernel)⟩
theorem lw_p38 : lw_okq (⟨"HouseManner", "clearOut", "()V"⟩, 17) := ⟨⟨by decide +kernel, by decide +kernel⟩, List.mem_of_getElem? (i := 23) (by decide +kernel), List.mem_of_getElem? (i := 772) (by decide +kernel), List.mem_of_getElem? (i := 773) (by decide +kernel)⟩
theorem lw_p39 : lw_okq (⟨"HouseManner", "endOut", "(II)I"⟩, 17) := ⟨⟨by decide +kernel, by decide +kernel⟩, List.mem_of_getElem? (i := 23) (by decide +kernel), List.mem_of_getElem? (i := 793) (by decide +kernel), List.mem_of_getElem? (i := 794) (by decide +kernel)⟩
theorem lw_p40 : lw_okq (⟨"HouseManner", "turnName", "(LHouseManner$Text;II)Z"⟩, 17) := ⟨⟨by decide +kernel, by decide +kernel⟩, List.mem_of_getElem? (i := 23) (by decide +kernel), List.mem_of_getElem? (i := 804) (by decide +kernel), List.mem_of_getElem? (i := 805) (by decide +kernel)⟩
theorem lw_p41 : lw_okq (⟨"HouseManner", "meetsUnlikeName", "(LHouseManner$Text;I)Z"⟩, 17) := ⟨⟨by decide +kernel, by decide +kernel⟩, List.mem_of_getElem? (i := 23) (by decide +kernel), List.mem_of_getElem? (i := 809) (by decide +kernel), List.mem_of_getElem? (i := 810) (by decide +kernel)⟩
theorem lw_p42 : lw_okq (⟨"HouseMannerModel", "lays", "(I)V"⟩, 36) := ⟨⟨by decide +kernel, by decide +kernel⟩, List.mem_of_getElem? (i := 839) (by decide +kernel), List.mem_of_getElem? (i := 963) (by decide +kernel), List.mem_of_getElem? (i := 964) (by decide +kernel)⟩
theorem lw_p43 : lw_okq (⟨"HouseMannerModel", "right", "(ZI)Z"⟩, 36) := ⟨⟨by decide +kernel, by decide +kernel⟩, List.mem_of_getElem? (i := 839) (by decide +kernel), List.mem_of_getElem? (i := 974) (by decide +kernel), List.mem_of_getElem? (i := 975) (by decide +kernel)⟩
theorem lw_p44 : lw_okq (⟨"HouseMannerModel", "reads", "(II)Z"⟩, 36) := ⟨⟨by decide +kernel, by decide +kernel⟩, List.mem_of_getElem? (i := 839) (by decide +kernel), List.mem_of_getElem? (i := 978) (by decide +kernel), List.mem_of_getElem? (i := 979) (by decide +kernel)⟩
theorem lw_p45 : lw_okq (⟨"HouseMannerModel", "look", "()V"⟩, 36) := ⟨⟨by decide +kernel, by decide +kernel⟩, List.mem_of_getElem? (i := 839) (by decide +kernel), List.mem_of_getElem? (i := 982) (by decide +kernel), List.mem_of_getElem? (i := 983) (by decide +kernel)⟩
theorem lw_p46 : lw_okq (⟨"HouseMannerModel", "byteAt", "(II)I"⟩, 36) := ⟨⟨by decide +kernel, by decide +kernel⟩, List.mem_of_getElem? (i := 839) (by decide +kernel), List.mem_of_getElem? (i := 986) (by decide +kernel), List.mem_of_getElem? (i := 987) (by decide +kernel)⟩
theorem lw_p47 : lw_okq (⟨"HouseMannerModel", "statement", "()Z"⟩, 36) := ⟨⟨by decide +kernel, by decide +kernel⟩, List.mem_of_getElem? (i := 839) (by decide +kernel), List.mem_of_getElem? (i := 1052) (by decide +kernel), List.mem_of_getElem? (i := 1053) (by decide +kernel)⟩
def lw_privs_3 : List (MethodName × Nat) := [(⟨"HouseManner$Reader", "endBlock", "()Z"⟩, 11), (⟨"HouseManner$Reader", "isTooMuch", "(LHouseManner$Text;)Z"⟩, 11), (⟨"HouseManner$Text", "choiceBetween", "(III)I"⟩, 13), (⟨"HouseManner", "forgetOutOf", "(I)V"⟩, 17), (⟨"HouseManner", "existing", "(I)LHouseManner$Text;"⟩, 17), (⟨"HouseManner", "toldAt", "(LHouseManner$Text;I)I"⟩, 17), (⟨"HouseManner", "clearOut", "()V"⟩, 17), (⟨"HouseManner", "endOut", "(II)I"⟩, 17), (⟨"HouseManner", "turnName", "(LHouseManner$Text;II)Z"⟩, 17), (⟨"HouseManner", "meetsUnlikeName", "(LHouseManner$Text;I)Z"⟩, 17), (⟨"HouseMannerModel", "lays", "(I)V"⟩, 36), (⟨"HouseMannerModel", "right", "(ZI)Z"⟩, 36), (⟨"HouseMannerModel", "reads", "(II)Z"⟩, 36), (⟨"HouseMannerModel", "look", "()V"⟩, 36), (⟨"HouseMannerModel", "byteAt", "(II)I"⟩, 36), (⟨"HouseMannerModel", "statement", "()Z"⟩, 36)]
theorem lw_r3 : ∀ q ∈ lw_privs_3, lw_okq q := List.forall_mem_cons.mpr ⟨lw_p32, List.forall_mem_cons.mpr ⟨lw_p33, List.forall_mem_cons.mpr ⟨lw_p34, List.forall_mem_cons.mpr ⟨lw_p35, List.forall_mem_cons.mpr ⟨lw_p36, List.forall_mem_cons.mpr ⟨lw_p37, List.forall_mem_cons.mpr ⟨lw_p38, List.forall_mem_cons.mpr ⟨lw_p39, List.forall_mem_cons.mpr ⟨lw_p40, List.forall_mem_cons.mpr ⟨lw_p41, List.forall_mem_cons.mpr ⟨lw_p42, List.forall_mem_cons.mpr ⟨lw_p43, List.forall_mem_cons.mpr ⟨lw_p44, List.forall_mem_cons.mpr ⟨lw_p45, List.forall_mem_cons.mpr ⟨lw_p46, List.forall_mem_cons.mpr ⟨lw_p47, fun _ h => absurd h List.not_mem_nil⟩⟩⟩⟩⟩⟩⟩⟩⟩⟩⟩⟩⟩⟩⟩⟩
theorem lw_p48 : lw_okq (⟨"HouseMannerModel", "is", "(Ljava/lang/String;)Z"⟩, 36) := ⟨⟨by decide +kernel, by decide +kernel⟩, List.mem_of_getElem? (i := 839) (by decide +kernel), List.mem_of_getElem? (i := 1057) (by decide +kernel), List.mem_of_getElem? (i := 1058) (by decide +kernel)⟩
theorem lw_p49 : lw_okq (⟨"HouseMannerModel", "call", "()Z"⟩, 36) := ⟨⟨by decide +kernel, by decide +kernel⟩, List.mem_of_getElem? (i := 839) (by decide +kernel), List.mem_of_getElem? (i := 1063) (by decide +kernel), List.mem_of_getElem? (i := 1064) (by decide +kernel)⟩
theorem lw_p50 : lw_okq (⟨"HouseMannerModel", "comes", "(I)Z"⟩, 36) := ⟨⟨by decide +kernel, by decide +kernel⟩, List.mem_of_getElem? (i := 839) (by decide +kernel), List.mem_of_getElem? (i := 1067) (by decide +kernel), List.mem_of_getElem? (i := 1068) (by decide +kernel)⟩
theorem lw_p51 : lw_okq (⟨"HouseMannerModel", "wrong", "(I)Z"⟩, 36) := ⟨⟨by decide +kernel, by decide +kernel⟩, List.mem_of_getElem? (i := 839) (by decide +kernel), List.mem_of_getElem? (i := 1071) (by decide +kernel), List.mem_of_getElem? (i := 1072) (by decide +kernel)⟩
theorem lw_p52 : lw_okq (⟨"HouseMannerModel", "name", "(I)Z"⟩, 36) := ⟨⟨by decide +kernel, by decide +kernel⟩, List.mem_of_getElem? (i := 839) (by decide +kernel), List.mem_of_getElem? (i := 1079) (by decide +kernel), List.mem_of_getElem? (i := 1080) (by decide +kernel)⟩
theorem lw_p53 : lw_okq (⟨"HouseMannerModel", "isName", "()Z"⟩, 36) := ⟨⟨by decide +kernel, by decide +kernel⟩, List.mem_of_getElem? (i := 839) (by decide +kernel), List.mem_of_getElem? (i := 1083) (by decide +kernel), List.mem_of_getElem? (i := 1084) (by decide +kernel)⟩
theorem lw_p54 : lw_okq (⟨"HouseMannerModel", "isKeyword", "()Z"⟩, 36) := ⟨⟨by decide +kernel, by decide +kernel⟩, List.mem_of_getElem? (i := 839) (by decide +kernel), List.mem_of_getElem? (i := 1087) (by decide +kernel), List.mem_of_getElem? (i := 1088) (by decide +kernel)⟩
theorem lw_p55 : lw_okq (⟨"HouseMannerModel", "need", "(Ljava/lang/String;I)Z"⟩, 36) := ⟨⟨by decide +kernel, by decide +kernel⟩, List.mem_of_getElem? (i := 839) (by decide +kernel), List.mem_of_getElem? (i := 1094) (by decide +kernel), List.mem_of_getElem? (i := 1095) (by decide +kernel)⟩
theorem lw_p56 : lw_okq (⟨"HouseMannerModel", "expr", "(I)Z"⟩, 36) := ⟨⟨by decide +kernel, by decide +kernel⟩, List.mem_of_getElem? (i := 839) (by decide +kernel), List.mem_of_getElem? (i := 1098) (by decide +kernel), List.mem_of_getElem? (i := 1099) (by decide +kernel)⟩
theorem lw_p57 : lw_okq (⟨"HouseMannerModel", "part", "(I)Z"⟩, 36) := ⟨⟨by decide +kernel, by decide +kernel⟩, List.mem_of_getElem? (i := 839) (by decide +kernel), List.mem_of_getElem? (i := 1102) (by decide +kernel), List.mem_of_getElem? (i := 1103) (by decide +kernel)⟩
theorem lw_p58 : lw_okq (⟨"HouseMannerModel", "block", "(I)Z"⟩, 36) := ⟨⟨by decide +kernel, by decide +kernel⟩, List.mem_of_getElem? (i := 839) (by decide +kernel), List.mem_of_getElem? (i := 1111) (by decide +kernel), List.mem_of_getElem? (i := 1112) (by decide +kernel)⟩
theorem lw_p59 : lw_okq (⟨"HouseMannerModel", "isThere", "(I)Z"⟩, 36) := ⟨⟨by decide +kernel, by decide +kernel⟩, List.mem_of_getElem? (i := 839) (by decide +kernel), List.mem_of_getElem? (i := 1128) (by decide +kernel), List.mem_of_getElem? (i := 1129) (by decide +kernel)⟩
theorem lw_p60 : lw_okq (⟨"HouseMannerModel", "kindOf", "(II)I"⟩, 36) := ⟨⟨by decide +kernel, by decide +kernel⟩, List.mem_of_getElem? (i := 839) (by decide +kernel), List.mem_of_getElem? (i := 1136) (by decide +kernel), List.mem_of_getElem? (i := 1137) (by decide +kernel)⟩
theorem lw_p61 : lw_okq (⟨"HouseMannerModel", "isSign", "(III)Z"⟩, 36) := ⟨⟨by decide +kernel, by decide +kernel⟩, List.mem_of_getElem? (i := 839) (by decide +kernel), List.mem_of_getElem? (i := 1140) (by decide +kernel), List.mem_of_getElem? (i := 1141) (by decide +kernel)⟩
theorem lw_p62 : lw_okq (⟨"HouseMannerModel", "isWork", "(II)Z"⟩, 36) := ⟨⟨by decide +kernel, by decide +kernel⟩, List.mem_of_getElem? (i := 839) (by decide +kernel), List.mem_of_getElem? (i := 1144) (by decide +kernel), List.mem_of_getElem? (i := 1145) (by decide +kernel)⟩
theorem lw_p63 : lw_okq (⟨"HouseMannerModel", "choiceOf", "(II)I"⟩, 36) := ⟨⟨by decide +kernel, by decide +kernel⟩, List.mem_of_getElem? (i := 839) (by decide +kernel), List.mem_of_getElem? (i := 1148) (by decide +kernel), List.mem_of_getElem? (i := 1149) (by decide +kernel)⟩
def lw_privs_4 : List (MethodName × Nat) := [(⟨"HouseMannerModel", "is", "(Ljava/lang/String;)Z"⟩, 36), (⟨"HouseMannerModel", "call", "()Z"⟩, 36), (⟨"HouseMannerModel", "comes", "(I)Z"⟩, 36), (⟨"HouseMannerModel", "wrong", "(I)Z"⟩, 36), (⟨"HouseMannerModel", "name", "(I)Z"⟩, 36), (⟨"HouseMannerModel", "isName", "()Z"⟩, 36), (⟨"HouseMannerModel", "isKeyword", "()Z"⟩, 36), (⟨"HouseMannerModel", "need", "(Ljava/lang/String;I)Z"⟩, 36), (⟨"HouseMannerModel", "expr", "(I)Z"⟩, 36), (⟨"HouseMannerModel", "part", "(I)Z"⟩, 36), (⟨"HouseMannerModel", "block", "(I)Z"⟩, 36), (⟨"HouseMannerModel", "isThere", "(I)Z"⟩, 36), (⟨"HouseMannerModel", "kindOf", "(II)I"⟩, 36), (⟨"HouseMannerModel", "isSign", "(III)Z"⟩, 36), (⟨"HouseMannerModel", "isWork", "(II)Z"⟩, 36), (⟨"HouseMannerModel", "choiceOf", "(II)I"⟩, 36)]
theorem lw_r4 : ∀ q ∈ lw_privs_4, lw_okq q := List.forall_mem_cons.mpr ⟨lw_p48, List.forall_mem_cons.mpr ⟨lw_p49, List.forall_mem_cons.mpr ⟨lw_p50, List.forall_mem_cons.mpr ⟨lw_p51, List.forall_mem_cons.mpr ⟨lw_p52, List.forall_mem_cons.mpr ⟨lw_p53, List.forall_mem_cons.mpr ⟨lw_p54, List.forall_mem_cons.mpr ⟨lw_p55, List.forall_mem_cons.mpr ⟨lw_p56, List.forall_mem_cons.mpr ⟨lw_p57, List.forall_mem_cons.mpr ⟨lw_p58, List.forall_mem_cons.mpr ⟨lw_p59, List.forall_mem_cons.mpr ⟨lw_p60, List.forall_mem_cons.mpr ⟨lw_p61, List.forall_mem_cons.mpr ⟨lw_p62, List.forall_mem_cons.mpr ⟨lw_p63, fun _ h => absurd h List.not_mem_nil⟩⟩⟩⟩⟩⟩⟩⟩⟩⟩⟩⟩⟩⟩⟩⟩
theorem lw_p64 : lw_okq (⟨"HouseMannerModel", "testsOf", "(II)I"⟩, 36) := ⟨⟨by decide +kernel, by decide +kernel⟩, List.mem_of_getElem? (i := 839) (by decide +kernel), List.mem_of_getElem? (i := 1152) (by decide +kernel), List.mem_of_getElem? (i := 1153) (by decide +kernel)⟩
theorem lw_p65 : lw_okq (⟨"HouseMannerModel", "gathers", "(I)V"⟩, 36) := ⟨⟨by decide +kernel, by decide +kernel⟩, List.mem_of_getElem? (i := 839) (by decide +kernel), List.mem_of_getElem? (i := 1168) (by decide +kernel), List.mem_of_getElem? (i := 1169) (by decide +kernel)⟩
theorem lw_p66 : lw_okq (⟨"HouseMannerModel", "isPair", "(II)Z"⟩, 36) := ⟨⟨by decide +kernel, by decide +kernel⟩, List.mem_of_getElem? (i := 839) (by decide +kernel), List.mem_of_getElem? (i := 1172) (by decide +kernel), List.mem_of_getElem? (i := 1173) (by decide +kernel)⟩
theorem lw_p67 : lw_okq (⟨"HouseMannerModel", "tries", "(IIIIIII)V"⟩, 36) := ⟨⟨by decide +kernel, by decide +kernel⟩, List.mem_of_getElem? (i := 839) (by decide +kernel), List.mem_of_getElem? (i := 1177) (by decide +kernel), List.mem_of_getElem? (i := 1178) (by decide +kernel)⟩
theorem lw_p68 : lw_okq (⟨"HouseMannerModel", "exceptions", "(IIIIII)I"⟩, 36) := ⟨⟨by decide +kernel, by decide +kernel⟩, List.mem_of_getElem? (i := 839) (by decide +kernel), List.mem_of_getElem? (i := 1181) (by decide +kernel), List.mem_of_getElem? (i := 1182) (by decide +kernel)⟩
theorem lw_p69 : lw_okq (⟨"HouseMannerModel", "toldAt", "(II)I"⟩, 36) := ⟨⟨by decide +kernel, by decide +kernel⟩, List.mem_of_getElem? (i := 839) (by decide +kernel), List.mem_of_getElem? (i := 1196) (by decide +kernel), List.mem_of_getElem? (i := 1197) (by decide +kernel)⟩
theorem lw_p70 : lw_okq (⟨"HouseMannerModel", "none", "()I"⟩, 36) := ⟨⟨by decide +kernel, by decide +kernel⟩, List.mem_of_getElem? (i := 839) (by decide +kernel), List.mem_of_getElem? (i := 1204) (by decide +kernel), List.mem_of_getElem? (i := 1205) (by decide +kernel)⟩
theorem lw_p71 : lw_okq (⟨"HouseMannerModel", "says", "(I)Z"⟩, 36) := ⟨⟨by decide +kernel, by decide +kernel⟩, List.mem_of_getElem? (i := 839) (by decide +kernel), List.mem_of_getElem? (i := 1208) (by decide +kernel), List.mem_of_getElem? (i := 1209) (by decide +kernel)⟩
theorem lw_p72 : lw_okq (⟨"HouseMannerModel", "isNameAt", "(II)Z"⟩, 36) := ⟨⟨by decide +kernel, by decide +kernel⟩, List.mem_of_getElem? (i := 839) (by decide +kernel), List.mem_of_getElem? (i := 1216) (by decide +kernel), List.mem_of_getElem? (i := 1217) (by decide +kernel)⟩
theorem lw_p73 : lw_okq (⟨"HouseMannerModel", "isWordAt", "(IILjava/lang/String;)Z"⟩, 36) := ⟨⟨by decide +kernel, by decide +kernel⟩, List.mem_of_getElem? (i := 839) (by decide +kernel), List.mem_of_getElem? (i := 1220) (by decide +kernel), List.mem_of_getElem? (i := 1221) (by decide +kernel)⟩
theorem lw_p74 : lw_okq (⟨"HouseMannerModel", "isTaken", "(III)Z"⟩, 36) := ⟨⟨by decide +kernel, by decide +kernel⟩, List.mem_of_getElem? (i := 839) (by decide +kernel), List.mem_of_getElem? (i := 1224) (by decide +kernel), List.mem_of_getElem? (i := 1225) (by decide +kernel)⟩
theorem lw_p75 : lw_okq (⟨"HouseMannerModel", "makes", "(III)V"⟩, 36) := ⟨⟨by decide +kernel, by decide +kernel⟩, List.mem_of_getElem? (i := 839) (by decide +kernel), List.mem_of_getElem? (i := 1228) (by decide +kernel), List.mem_of_getElem? (i := 1229) (by decide +kernel)⟩
theorem lw_p76 : lw_okq (⟨"HouseMannerModel", "isSame", "(IIII)Z"⟩, 36) := ⟨⟨by decide +kernel, by decide +kernel⟩, List.mem_of_getElem? (i := 839) (by decide +kernel), List.mem_of_getElem? (i := 1238) (by decide +kernel), List.mem_of_getElem? (i := 1239) (by decide +kernel)⟩
theorem lw_p77 : lw_okq (⟨"HouseMannerModel", "isMade", "(Ljava/lang/String;)Z"⟩, 36) := ⟨⟨by decide +kernel, by decide +kernel⟩, List.mem_of_getElem? (i := 839) (by decide +kernel), List.mem_of_getElem? (i := 1242) (by decide +kernel), List.mem_of_getElem? (i := 1243) (by decide +kernel)⟩
theorem lw_p78 : lw_okq (⟨"HouseMannerModel", "isAs", "(III)Z"⟩, 36) := ⟨⟨by decide +kernel, by decide +kernel⟩, List.mem_of_getElem? (i := 839) (by decide +kernel), List.mem_of_getElem? (i := 1250) (by decide +kernel), List.mem_of_getElem? (i := 1251) (by decide +kernel)⟩
def lw_privs_5 : List (MethodName × Nat) := [(⟨"HouseMannerModel", "testsOf", "(II)I"⟩, 36), (⟨"HouseMannerModel", "gathers", "(I)V"⟩, 36), (⟨"HouseMannerModel", "isPair", "(II)Z"⟩, 36), (⟨"HouseMannerModel", "tries", "(IIIIIII)V"⟩, 36), (⟨"HouseMannerModel", "exceptions", "(IIIIII)I"⟩, 36), (⟨"HouseMannerModel", "toldAt", "(II)I"⟩, 36), (⟨"HouseMannerModel", "none", "()I"⟩, 36), (⟨"HouseMannerModel", "says", "(I)Z"⟩, 36), (⟨"HouseMannerModel", "isNameAt", "(II)Z"⟩, 36), (⟨"HouseMannerModel", "isWordAt", "(IILjava/lang/String;)Z"⟩, 36), (⟨"HouseMannerModel", "isTaken", "(III)Z"⟩, 36), (⟨"HouseMannerModel", "makes", "(III)V"⟩, 36), (⟨"HouseMannerModel", "isSame", "(IIII)Z"⟩, 36), (⟨"HouseMannerModel", "isMade", "(Ljava/lang/String;)Z"⟩, 36), (⟨"HouseMannerModel", "isAs", "(III)Z"⟩, 36)]
theorem lw_r5 : ∀ q ∈ lw_privs_5, lw_okq q := List.forall_mem_cons.mpr ⟨lw_p64, List.forall_mem_cons.mpr ⟨lw_p65, List.forall_mem_cons.mpr ⟨lw_p66, List.forall_mem_cons.mpr ⟨lw_p67, List.forall_mem_cons.mpr ⟨lw_p68, List.forall_mem_cons.mpr ⟨lw_p69, List.forall_mem_cons.mpr ⟨lw_p70, List.forall_mem_cons.mpr ⟨lw_p71, List.forall_mem_cons.mpr ⟨lw_p72, List.forall_mem_cons.mpr ⟨lw_p73, List.forall_mem_cons.mpr ⟨lw_p74, List.forall_mem_cons.mpr ⟨lw_p75, List.forall_mem_cons.mpr ⟨lw_p76, List.forall_mem_cons.mpr ⟨lw_p77, List.forall_mem_cons.mpr ⟨lw_p78, fun _ h => absurd h List.not_mem_nil⟩⟩⟩⟩⟩⟩⟩⟩⟩⟩⟩⟩⟩⟩⟩
def lw_privs : List (MethodName × Nat) := lw_privs_1 ++ (lw_privs_2 ++ (lw_privs_3 ++ (lw_privs_4 ++ (lw_privs_5))))
def lw_tbl : List Cond := k2_sels lw_privs ++ tables_1
theorem lw_privs_ok : ∀ q ∈ lw_privs, lw_okq q := by
  show ∀ q ∈ lw_privs_1 ++ (lw_privs_2 ++ (lw_privs_3 ++ (lw_privs_4 ++ (lw_privs_5)))), lw_okq q
  exact List.forall_mem_append.mpr ⟨lw_r1, List.forall_mem_append.mpr ⟨lw_r2, List.forall_mem_append.mpr ⟨lw_r3, List.forall_mem_append.mpr ⟨lw_r4, lw_r5⟩⟩⟩⟩
-- ===== end of PART A; then your names; then what follows =====
end
section
/-! ===== BEGIN words of one list among another's, by their places ===== -/
theorem goodIn_r {big : List Cond} (ws : List Cond) (ps : List Nat) (hp : ws = ps.filterMap (fun i => big[i]?)) (h : ws.all goodWord = true) : GoodIn big ws := by
  intro w hw
  have h1 := List.all_eq_true.mp h w hw
  rw [hp] at hw
  obtain ⟨i, -, hi⟩ := List.mem_filterMap.mp hw
  have hm : w ∈ big := by first | exact List.mem_of_getElem? hi | exact List.getElem?_mem hi
  exact ⟨hm, good_of_word h1⟩
theorem goodIn_app {big a b : List Cond} (ha : GoodIn big a) (hb : GoodIn big b) : GoodIn big (a ++ b) := fun w h => (List.mem_append.mp h).elim (ha w) (hb w)
theorem goodIn_ca {big a b : List Cond} {c : Cond} (ha : GoodIn big (c :: a)) (hb : GoodIn big b) : GoodIn big (c :: (a ++ b)) := fun w h => (List.mem_cons.mp h).elim (fun e => ha w (List.mem_cons.mpr (Or.inl e))) (fun h => (List.mem_append.mp h).elim (fun h => ha w (List.mem_cons.mpr (Or.inr h))) (hb w))
theorem goodIn_sub {big ws : List Cond} (hm : ∀ w ∈ ws, w ∈ big) (h : ws.all goodWord = true) : GoodIn big ws := fun w hw => ⟨hm w hw, good_of_word (List.all_eq_true.mp h w hw)⟩
/-! ===== END ===== -/

/-! ===== BEGIN exceptions that leave a method, and their catching by the caller (launches without stack traces) ===== -/
section VXA
/-! The laws vx_back, vx_callV, vx_callS, vx_callSW, vx_throw0, vx_throwS follow proofs of the library, with one case more: JvmDerived/Free/Laws.lean (Back.of_free), Shelf42/LK1.lean (callV, callS), Shelf/KitTraced.lean (throwNew0V, throwNewS). -/

/-- where a method has thrown q: the class by its name, the cell, what was written, the world -/
def vx_T (XC : String → State → State → Prop) (st : State) (q : Addr) (t : State) (mc ms : Nat) (free : Addr → Prop) : Prop :=
  ∃ (E : String) (ce : Cell) (L : List Loc), XC E st t ∧ t.heap[q]? = some ce ∧ ce.vm = .none ∧ st.vm.findClass E = some ce.cls ∧ st.WarmedH t.vm ∧ st.sameButNew ({ t with vm := st.vm } : State) L mc ms ∧ ∀ z ∈ L, free z.base
def vx_Q (Qc : Array Value → State → Outcome → State → Prop) (XC : String → State → State → Prop) (mc ms : Nat) (free : Addr → Prop) : Array Value → State → Outcome → State → Prop := fun a st o t =>
  (Qc a st o t ∧ ∃ L, FrameEnd st o t L mc ms ∧ ∀ q ∈ L, free q.base) ∨ ∃ q, o = .threw q ∧ vx_T XC st q t mc ms free
/-- a callee that returns or throws -/
def vx_Met (l : Launch) (y : MethodName) (ws : List Cond) (rm : Room) (Pc : Array Value → State → Prop) (Qc : Array Value → State → Outcome → State → Prop) (XC : String → State → State → Prop) (mc ms : Nat) (free : Addr → Prop) : Prop :=
  MetFree l y (headSpec ws rm) Pc (fun _ _ _ _ _ => True) (vx_Q Qc XC mc ms free)
def vx_Post (XC : String → State → State → Prop) (mc ms : Nat) (free : Addr → Prop) : Pt → Array Value → Addr → Pt → Prop := fun A a q B =>
  ∃ (g : JFrame) (mk : MethodId) (t : State) (L : List Loc) (E : String) (ce : Cell), B.U.heap = t.heap ∧ B.U.vm = t.vm ∧ XC E (A.U.calling g mk a) t ∧ t.heap[q]? = some ce ∧ ce.vm = .none ∧ A.U.vm.findClass E = some ce.cls ∧ B.locs = A.locs ++ L ∧ (∀ z ∈ L, free z.base) ∧ B.cells = A.cells + mc ∧ B.slots = A.slots + ms
def vx_Back (l : Launch) (R : Room) (p : Program) (e : Env) (below : List Frame) (s : State) (sargs : Array Value) (y : MethodName) (len W9 : Nat)
    (Pre : Pt → Array Value → Prop) (Post : Pt → Array Value → Option Value → Pt → Prop) (PostX : Pt → Array Value → Addr → Pt → Prop) : Prop :=
  ∀ (m : MethodId) (meth : Method) (c : Code) (A : Pt) (g : JFrame) (ig : Instr) (mk : MethodId) (a : Array Value),
    Stand p l e R s m sargs below meth c A.U A.locs A.cells A.slots → g.method = m → g.locals.size = c.maxLocals → decode c.code g.pc = .ok (ig, len) →
    2 * g.monitorRoom + (g.stack.map fun v => v.category).sum ≤ W9 → A.U.methodNamed? y = some mk → Pre A a →
    (∃ (v : Option Value) (B : Pt), Stand p l e R s m sargs below meth c B.U B.locs B.cells B.slots ∧ Post A a v B ∧
      Steps p.tables e below (doInvoke e (A.U.setTop g) [] mk a).1 (B.U.setTop { g with pc := g.pc + len, stack := v.toList ++ g.stack })) ∨
    (∃ (q : Addr) (B : Pt), Stand p l e R s m sargs below meth c B.U B.locs B.cells B.slots ∧ PostX A a q B ∧
      Steps p.tables e below (doInvoke e (A.U.setTop g) [] mk a).1 ((B.U.setTop g).pushFrame (.throwing q)))
section Payer
variable {l : Launch} {R : Room} {p : Program} {e : Env} {below : List Frame} {s : State} {sargs : Array Value} {y : MethodName} {len W9 : Nat}
theorem vx_back {ws : List Cond} {rm : Room} {Pc : Array Value → State → Prop} {Qc : Array Value → State → Outcome → State → Prop} {XC : String → State → State → Prop} {mc ms : Nat} {free : Addr → Prop} {bytes : ByteArray} {maxL : Nat} {ret : Option FieldType}
    (hM : vx_Met l y ws rm Pc Qc XC mc ms free) (hblind : FrameBlind Pc) (hrc : rm.cells = mc) (hrs : rm.slots = ms)
    (hframes : rm.frames + 1 ≤ R.frames) (hlocals : W9 + (maxL + 11) + rm.locals ≤ R.locals)
    (hws : ∀ w ∈ ws, ∀ a' U, s.WarmedH U.vm → w.before a' U = true) (hcode : Cond.code y bytes maxL ret ∈ ws) (hinit : ∀ a' U, s.WarmedH U.vm → (Cond.initialized y.cls).before a' U = true) :
    vx_Back l R p e below s sargs y len W9 (PreOf R mc ms Pc) (PostOf Qc mc ms free) (vx_Post XC mc ms free) := by
  intro m meth c A g ig mk a X hg hsize hdg hW hn hp
  have h1 : (headSpec ws rm).pre.before a A.U = true := atoms_intro fun w hw => hws w hw _ _ X.warmed
  have h2 : (Cond.code y bytes maxL ret).before a A.U = true := hws _ hcode _ _ X.warmed
  have h3 : (Cond.initialized y.cls).before a A.U = true := hinit _ _ X.warmed
  have h4 : A.cells + (headSpec ws rm).room.cells ≤ R.cells := by rw [show (headSpec ws rm).room.cells = mc from hrc]; exact hp.1
  have h5 : A.slots + (headSpec ws rm).room.slots ≤ R.slots := by rw [show (headSpec ws rm).room.slots = ms from hrs]; exact hp.2.1
  have hPc : Pc a (A.U.calling g mk a) := hblind _ _ _ _ hp.2.2
  obtain ⟨U, Ls, c0, s0⟩ := A
  dsimp only [Pt.U, Pt.locs, Pt.cells, Pt.slots] at h1 h2 h3 h4 h5 X hn hPc ⊢
  obtain ⟨methY, cY, hmY, hcY, -, hlY, -, -, -, -⟩ := Cond.code_spec hn h2
  obtain ⟨kY, hkY, -⟩ := className_of_methodNamed hn
  have hinitY : kY.init = .initialized := Cond.initialized_spec (findClass_of_methodNamed hn) hkY h3
  have h : At U g.method c below := by rw [hg]; exact X.here
  have hlocals9 : W9 + (maxL + 11) + (headSpec ws rm).room.locals ≤ R.locals := hlocals
  have happ : (headSpec ws rm).appliesLoose y e.platform (U.calling g mk a) = true :=
    Spec.appliesLoose_calling (g := g) h hdg hn hkY hinitY
      (X.room_calling (g := g) (R' := (headSpec ws rm).room) hsize hmY hcY hframes (by rw [hlY]; omega) h4 h5) h1
  obtain ⟨mid, hmid⟩ := h.above
  have hfr : (U.setTop g).frames = (.java g :: mid) ++ below := by rw [State.frames_setTop' g h.top, hmid]; rfl
  obtain ⟨o, s₂, hsteps, -, hend, hq⟩ := Steps.callFree hM p X.admits X.cas X.clock (acts := []) hfr happ hPc trivial
  have hq' : vx_Q Qc XC mc ms free a (U.calling g mk a) o s₂ := hq
  rw [State.frames_setTop' g h.top] at hend
  obtain ⟨g₀, hg0⟩ := Option.isSome_iff_exists.mp h.top
  obtain ⟨r, hr⟩ := State.topJava?_eq_some.mp hg0
  have hr' : (({ U with heap := s₂.heap, slotsUsed := s₂.slotsUsed } : State).setVm s₂.vm).frames = .java g₀ :: r := hr
  rcases hq' with ⟨hqc, L, hfe, hL⟩ | ⟨q, rfl, E, ce, L, hx, hce, hcv, hcl, hW₂, hsm, hL⟩
  · obtain ⟨⟨v, rfl⟩, hW₂, e2, q2, q3, q4, q5, q6⟩ := id hfe
    have e3 : s₂ = ({ (U.calling g mk a).setFrames s₂.frames with heap := s₂.heap, slotsUsed := s₂.slotsUsed } : State).setVm s₂.vm := by
      have : s₂ = ({ s₂ with vm := (U.calling g mk a).vm } : State).setVm s₂.vm := rfl
      rw [e2] at this
      exact this
    obtain ⟨c₂, i₂, len₂, hc₂, hd₂, hf₂⟩ := hend
    have hW' : U.WarmedH s₂.vm := hW₂
    have hcc : c₂ = c := by
      have h1 : s₂.code? g.method = U.code? g.method := by
        rw [State.code?_eq, State.code?_eq, hW'.alike.method?]
      exact Option.some.inj (hc₂.symm.trans (h1.trans h.code))
    subst hcc
    have hlen : len₂ = len := by rw [hdg] at hd₂; cases hd₂; rfl
    subst hlen
    have hs₂ : s₂ = (({ U with heap := s₂.heap, slotsUsed := s₂.slotsUsed } : State).setVm s₂.vm).setTop { g with pc := g.pc + len₂, stack := v.toList ++ g.stack } := by
      refine e3.trans ?_
      rw [hf₂, State.calling_eq h.top, State.setFrames_setFrames, State.setTop_of_frames _ hr', hr]
      rfl
    have hsame : U.sameButNew ({ U with heap := s₂.heap, slotsUsed := s₂.slotsUsed } : State) L mc ms := by
      refine ⟨?_, q2, q3, q4, q5, q6⟩
      obtain ⟨t, ht, -⟩ := State.frames_cons hr
      show ({ U with heap := s₂.heap, slotsUsed := s₂.slotsUsed } : State) = { U.setFrames U.frames with heap := s₂.heap, slotsUsed := s₂.slotsUsed }
      rw [State.setFrames_self ht]
    subst hg
    refine Or.inl ⟨v, ⟨(({ U with heap := s₂.heap, slotsUsed := s₂.slotsUsed } : State).setVm s₂.vm), Ls ++ L, c0 + mc, s0 + ms⟩,
      ⟨X.admits, X.cas, X.clock, X.frames, X.room, X.hears, X.method, X.code, (X.here.setHeapUsed s₂.heap s₂.slotsUsed).setVm hW'.alike, X.tail, State.WarmedH.trans X.warmed hW', X.limits, X.bytes, X.same.trans (hsame.setVm s.vm)⟩,
      ⟨g, mk, s₂, L, rfl, rfl, hqc, rfl, hL, rfl, rfl⟩, ?_⟩
    show Steps p.tables e below _ ((({ U with heap := s₂.heap, slotsUsed := s₂.slotsUsed } : State).setVm s₂.vm).setTop { g with pc := g.pc + len₂, stack := v.toList ++ g.stack })
    rw [← hs₂]
    exact hsteps
  · obtain ⟨e2, q2, q3, q4, q5, q6⟩ := id hsm
    have e3 : s₂ = ({ (U.calling g mk a).setFrames s₂.frames with heap := s₂.heap, slotsUsed := s₂.slotsUsed } : State).setVm s₂.vm := by
      have : s₂ = ({ s₂ with vm := (U.calling g mk a).vm } : State).setVm s₂.vm := rfl
      rw [e2] at this
      exact this
    have hf₂ : s₂.frames = .throwing q :: .java g :: U.frames.tail := hend
    have hW' : U.WarmedH s₂.vm := hW₂
    have hs₂ : s₂ = ((({ U with heap := s₂.heap, slotsUsed := s₂.slotsUsed } : State).setVm s₂.vm).setTop g).pushFrame (.throwing q) := by
      refine e3.trans ?_
      rw [hf₂, State.calling_eq h.top, State.setFrames_setFrames, State.pushFrame, State.frames_setTop _ hr', State.setTop_of_frames _ hr', State.setFrames_setFrames, hr]
      rfl
    have hsame : U.sameButNew ({ U with heap := s₂.heap, slotsUsed := s₂.slotsUsed } : State) L mc ms := by
      refine ⟨?_, q2, q3, q4, q5, q6⟩
      obtain ⟨t, ht, -⟩ := State.frames_cons hr
      show ({ U with heap := s₂.heap, slotsUsed := s₂.slotsUsed } : State) = { U.setFrames U.frames with heap := s₂.heap, slotsUsed := s₂.slotsUsed }
      rw [State.setFrames_self ht]
    subst hg
    refine Or.inr ⟨q, ⟨(({ U with heap := s₂.heap, slotsUsed := s₂.slotsUsed } : State).setVm s₂.vm), Ls ++ L, c0 + mc, s0 + ms⟩,
      ⟨X.admits, X.cas, X.clock, X.frames, X.room, X.hears, X.method, X.code, (X.here.setHeapUsed s₂.heap s₂.slotsUsed).setVm hW'.alike, X.tail, State.WarmedH.trans X.warmed hW', X.limits, X.bytes, X.same.trans (hsame.setVm s.vm)⟩,
      ⟨g, mk, s₂, L, E, ce, rfl, rfl, hx, hce, hcv, hcl, rfl, hL, rfl, rfl⟩, ?_⟩
    show Steps p.tables e below _ (((({ U with heap := s₂.heap, slotsUsed := s₂.slotsUsed } : State).setVm s₂.vm).setTop g).pushFrame (.throwing q))
    rw [← hs₂]
    exact hsteps
end Payer
section Calls
variable {p : Program} {l : Launch} {e : Env} {R : Room} {s : State} {m : MethodId} {args : Array Value} {below : List Frame} {meth : Method} {c : Code} {T : State} {locs : List Loc} {cells slots : Nat}
theorem vx_callV (X : Stand p l e R s m args below meth c T locs cells slots) (hexec : p.tables.exec = Jvm.exec) {own C : String} {index : Nat} {y : MethodName} {bytes : ByteArray} {maxL : Nat} {ret : Option FieldType}
    (hown : s.vm.findClass own = some m.cls) (hlink : (Cond.methodLink own index y).before args s = true) (hinst : (Cond.instanceMethod y).before args s = true) (hsel : (Cond.selects C y y).before args s = true)
    (hcode : (Cond.code y bytes maxL ret).before args s = true) (hy : y.cls ≠ "java/lang/invoke/MethodHandle" ∧ y.cls ≠ "java/lang/invoke/VarHandle")
    {W9 : Nat} {Pre : Pt → Array Value → Prop} {Post : Pt → Array Value → Option Value → Pt → Prop} {PostX : Pt → Array Value → Addr → Pt → Prop} (hK : vx_Back l R p e below s args y 3 W9 Pre Post PostX)
    {b : Addr} {cellB : Cell} (hcell : T.heap[b]? = some cellB) (hobj : cellB.vm.isStatics = false) (hcls : s.vm.findClass C = some cellB.cls)
    {g : JFrame} (hg : g.method = m) (hsize : g.locals.size = c.maxLocals) {argsL rest : List Value} (hlen : ∀ sig, parseMethodDescriptor y.desc = some sig → argsL.length = sig.parameters.length)
    (hstack : g.stack = argsL.reverse ++ .ref b :: rest) (hW : 2 * g.monitorRoom + (rest.map fun v => v.category).sum ≤ W9) (hdg : decode c.code g.pc = .ok (.invokevirtual index, 3))
    (hpre : ∀ vm₁, s.WarmedH vm₁ → Pre ⟨T.setVm vm₁, locs, cells, slots⟩ (Value.ref b :: argsL).toArray) :
    (∃ (v : Option Value) (vm₁ : Vm) (B : Pt), s.WarmedH vm₁ ∧ Stand p l e R s m args below meth c B.U B.locs B.cells B.slots ∧ Post ⟨T.setVm vm₁, locs, cells, slots⟩ (Value.ref b :: argsL).toArray v B ∧
      ∀ target, Steps p.tables e below (B.U.setTop { g with pc := g.pc + 3, stack := v.toList ++ rest }) target → Steps p.tables e below (T.setTop g) target) ∨
    (∃ (q : Addr) (vm₁ : Vm) (B : Pt), s.WarmedH vm₁ ∧ Stand p l e R s m args below meth c B.U B.locs B.cells B.slots ∧ PostX ⟨T.setVm vm₁, locs, cells, slots⟩ (Value.ref b :: argsL).toArray q B ∧
      Steps p.tables e below (T.setTop g) ((B.U.setTop { g with stack := rest }).pushFrame (.throwing q))) := by
  obtain ⟨mk, methM, hnamed, hmethM, hstM, habM⟩ := Cond.instanceMethod_spec hinst
  obtain ⟨methM', cM, hmethM', -, -, -, -, -, -, hsigM⟩ := Cond.code_spec hnamed hcode
  cases hmethM.symm.trans hmethM'
  obtain ⟨c2, r2, m2, q1, q2, q3, q4, kP, hkP, hkPi⟩ := Cond.selects_spec hsel
  cases hcls.symm.trans q1
  cases (State.methodFound?_of_named hnamed hy).symm.trans q2
  cases hnamed.symm.trans q3
  have hselP : selectMethod e.platform s.vm cellB.cls mk = .method mk := by rw [Launch.admits_selectMethod X.admits]; exact q4
  obtain ⟨vm₁, X₁, hstep₁⟩ := X.invokevirtual hexec hown hlink hnamed hmethM hstM hkP hkPi hy (a := b) (cell := cellB) hcell
    (fun z h => by rw [h] at hobj; cases hobj) hselP hmethM habM hkP hkPi (g := g) hg (argsL := argsL) (rest := rest) (hlen _ hsigM) hstack hdg
  rcases hK m meth c ⟨T.setVm vm₁, locs, cells, slots⟩ { g with stack := rest } (.invokevirtual index) mk (Value.ref b :: argsL).toArray X₁ hg hsize hdg hW (X₁.named hnamed) (hpre vm₁ X₁.warmed) with ⟨v, B, X', hpost, hsteps⟩ | ⟨q, B, X', hpost, hsteps⟩
  · exact Or.inl ⟨v, vm₁, B, X₁.warmed, X', hpost, fun target h => hstep₁ _ fun acts => by rw [doInvoke_state]; exact hsteps.trans h⟩
  · exact Or.inr ⟨q, vm₁, B, X₁.warmed, X', hpost, hstep₁ _ fun acts => by rw [doInvoke_state]; exact hsteps⟩
theorem vx_callS (X : Stand p l e R s m args below meth c T locs cells slots) (hexec : p.tables.exec = Jvm.exec) {own : String} {index : Nat} {y : MethodName} {bytes : ByteArray} {maxL : Nat} {ret : Option FieldType}
    (hown : s.vm.findClass own = some m.cls) (hlink : (Cond.methodLink own index y).before args s = true) (hstat : (Cond.static y).before args s = true) (hinit : (Cond.initialized y.cls).before args s = true)
    (hcode : (Cond.code y bytes maxL ret).before args s = true) (hy : y.cls ≠ "java/lang/invoke/MethodHandle" ∧ y.cls ≠ "java/lang/invoke/VarHandle")
    {W9 : Nat} {Pre : Pt → Array Value → Prop} {Post : Pt → Array Value → Option Value → Pt → Prop} {PostX : Pt → Array Value → Addr → Pt → Prop} (hK : vx_Back l R p e below s args y 3 W9 Pre Post PostX)
    {g : JFrame} (hg : g.method = m) (hsize : g.locals.size = c.maxLocals) {argsL rest : List Value} (hlen : ∀ sig, parseMethodDescriptor y.desc = some sig → argsL.length = sig.parameters.length)
    (hstack : g.stack = argsL.reverse ++ rest) (hW : 2 * g.monitorRoom + (rest.map fun v => v.category).sum ≤ W9) (hdg : decode c.code g.pc = .ok (.invokestatic index, 3))
    (hpre : ∀ vm₁, s.WarmedH vm₁ → Pre ⟨T.setVm vm₁, locs, cells, slots⟩ argsL.toArray) :
    (∃ (v : Option Value) (vm₁ : Vm) (B : Pt), s.WarmedH vm₁ ∧ Stand p l e R s m args below meth c B.U B.locs B.cells B.slots ∧ Post ⟨T.setVm vm₁, locs, cells, slots⟩ argsL.toArray v B ∧
      ∀ target, Steps p.tables e below (B.U.setTop { g with pc := g.pc + 3, stack := v.toList ++ rest }) target → Steps p.tables e below (T.setTop g) target) ∨
    (∃ (q : Addr) (vm₁ : Vm) (B : Pt), s.WarmedH vm₁ ∧ Stand p l e R s m args below meth c B.U B.locs B.cells B.slots ∧ PostX ⟨T.setVm vm₁, locs, cells, slots⟩ argsL.toArray q B ∧
      Steps p.tables e below (T.setTop g) ((B.U.setTop { g with stack := rest }).pushFrame (.throwing q))) := by
  obtain ⟨mk, hnamed⟩ := Cond.code_named hcode
  obtain ⟨methM, cM, hmethM, -, -, -, -, -, -, hsigM⟩ := Cond.code_spec hnamed hcode
  have hstatic : methM.isStatic = true := Cond.static_spec hnamed hmethM hstat
  obtain ⟨kP, hkP, -⟩ := className_of_methodNamed hnamed
  have hinitP : kP.init = .initialized := Cond.initialized_spec (findClass_of_methodNamed hnamed) hkP hinit
  obtain ⟨vm₁, X₁, hstep₁⟩ := X.invokestatic hexec hown hlink hnamed hmethM hstatic hkP hinitP hy (g := g) hg (argsL := argsL) (rest := rest) (hlen _ hsigM) hstack hdg
  rcases hK m meth c ⟨T.setVm vm₁, locs, cells, slots⟩ { g with stack := rest } (.invokestatic index) mk argsL.toArray X₁ hg hsize hdg hW (X₁.named hnamed) (hpre vm₁ X₁.warmed) with ⟨v, B, X', hpost, hsteps⟩ | ⟨q, B, X', hpost, hsteps⟩
  · exact Or.inl ⟨v, vm₁, B, X₁.warmed, X', hpost, fun target h => hstep₁ _ fun acts => by rw [doInvoke_state]; exact hsteps.trans h⟩
  · exact Or.inr ⟨q, vm₁, B, X₁.warmed, X', hpost, hstep₁ _ fun acts => by rw [doInvoke_state]; exact hsteps⟩
end Calls
theorem vx_cls {s : State} {T : State} {vm₁ : Vm} {E : String} {k : ClassId} (hW : s.WarmedH vm₁) (h : (T.setVm vm₁).vm.findClass E = some k) : s.vm.findClass E = some k := by
  have h1 : vm₁.findClass E = some k := h
  rw [hW.alike.findClass] at h1
  exact h1
/-- the method's frame g, with q thrown over it -/
def vx_W (p : Program) (l : Launch) (e : Env) (R : Room) (s : State) (m : MethodId) (args : Array Value) (below : List Frame) (meth : Method) (c : Code) (H : Heap) (locs : List Loc) (cells slots : Nat) (Q : State → Prop) (g : JFrame) (q : Addr) : Prop :=
  ∀ T : State, T.heap = H → Stand p l e R s m args below meth c T locs cells slots → ∃ t, Steps p.tables e below ((T.setTop g).pushFrame (.throwing q)) t ∧ Q t
def vx_Run (p : Program) (l : Launch) (e : Env) (R : Room) (s : State) (m : MethodId) (args : Array Value) (below : List Frame) (meth : Method) (c : Code) (H : Heap) (locs : List Loc) (cells slots mc ms : Nat) (g : JFrame) (rest : List Value) (Qa : State → Outcome → State → Prop) (XC : String → State → State → Prop) (free : Addr → Prop) : Prop :=
  ∀ T : State, T.heap = H → Stand p l e R s m args below meth c T locs cells slots →
    (∃ (v : Option Value) (st₀ t T' : State) (L : List Loc), st₀.heap = H ∧ Stand p l e R s m args below meth c T' (locs ++ L) (cells + mc) (slots + ms) ∧ (∀ q ∈ L, free q.base) ∧ T'.heap = t.heap ∧ T'.vm = t.vm ∧ Qa st₀ (.returned v) t ∧
      Goes p e below T g T' { g with pc := g.pc + 3, stack := v.toList ++ rest }) ∨
    (∃ (q : Addr) (st₀ t T' : State) (L : List Loc) (E : String) (ce : Cell), st₀.heap = H ∧ Stand p l e R s m args below meth c T' (locs ++ L) (cells + mc) (slots + ms) ∧ (∀ z ∈ L, free z.base) ∧ T'.heap = t.heap ∧ T'.vm = t.vm ∧ XC E st₀ t ∧ t.heap[q]? = some ce ∧ ce.vm = .none ∧ s.vm.findClass E = some ce.cls ∧
      Steps p.tables e below (T.setTop g) ((T'.setTop { g with stack := rest }).pushFrame (.throwing q)))
def vx_X {S : Type} (px : S → Prop) (B : String → S → State → Prop) (A : Nat → Prop) : String → State → State → Prop := fun E st t => ∃ u : S, px u ∧ B E u t ∧ va_F A st t
section Runs
variable {p : Program} {l : Launch} {e : Env} {R : Room} {s : State} {m : MethodId} {args : Array Value} {below : List Frame} {meth : Method} {c : Code} {H : Heap} {locs : List Loc} {cells slots : Nat}
variable {y : MethodName} {bytes cc : ByteArray} {maxL nL mc ms n index : Nat} {ret : Option FieldType} {ws : List Cond} {rm : Room} {Pc : Array Value → State → Prop} {Qc : Array Value → State → Outcome → State → Prop} {XC : String → State → State → Prop} {free : Addr → Prop} {Ts : List Cond} {own C : String} {b : Addr} {As rest : List Value} {g : JFrame}
theorem vx_callBack (cb : CallB R s args own index y bytes maxL ret ws rm mc ms n) (hM : vx_Met l y ws rm Pc Qc XC mc ms free) (hbl : FrameBlind Pc) : vx_Back l R p e below s args y 3 8 (PreOf R mc ms Pc) (PostOf Qc mc ms free) (vx_Post XC mc ms free) := by
  obtain ⟨hrc, hrs, hfr, hlo, hws, hcw, -, hini, -⟩ := cb
  exact vx_back (bytes := bytes) (maxL := maxL) (ret := ret) hM hbl hrc hrs hfr hlo hws hcw (fun a' U hW => word_at hW (Or.inl (by first | rfl | simp [Cond.onTables, Cond.keeps, Cond.steady])) hini)
theorem vx_runV (S : CallFix p m c cc nL s args Ts own) (hM : vx_Met l y ws rm Pc Qc XC mc ms free) (cw : CallW R s args own C index y bytes maxL ret ws rm mc ms n) (hp : PreV s H C b Pc As)
    (hg : g.method = m) (hn : As.length = n) (hsize : g.locals.size = nL) (hstack : g.stack = As.reverse ++ .ref b :: rest) (hW : 2 * g.monitorRoom + (rest.map fun v => v.category).sum ≤ 8) (hdg : decode cc g.pc = .ok (.invokevirtual index, 3)) (hf : cells + mc ≤ R.cells ∧ slots + ms ≤ R.slots) :
    vx_Run p l e R s m args below meth c H locs cells slots mc ms g rest (Qc (Value.ref b :: As).toArray) XC free := by
  have hK : vx_Back l R p e below s args y 3 8 (PreOf R mc ms Pc) (PostOf Qc mc ms free) (vx_Post XC mc ms free) := vx_callBack cw.1 hM hp.1
  obtain ⟨⟨-, -, -, -, -, -, hcode, -, hy, hlen, hl⟩, hin, hse⟩ := cw
  obtain ⟨hx, hb, hml, ho, -⟩ := S
  obtain ⟨-, ⟨cellB, hcB, hoB, hclB⟩, hPc⟩ := hp
  intro T hT X
  rcases vx_callV X hx (C := C) (bytes := bytes) (maxL := maxL) (ret := ret) ho hl hin hse hcode hy hK (by rw [hT]; exact hcB) hoB hclB hg (hsize.trans hml.symm) (argsL := As) (rest := rest) (fun sig h => hn.trans (hlen sig h)) hstack hW (by rw [hb]; exact hdg)
    (fun vm₁ hW₁ => ⟨hf.1, hf.2, hPc (T.setVm vm₁) hT hW₁⟩) with ⟨v, vm₁, ⟨U', l2, c2, s2⟩, hW₁, X', ⟨g', mk, t, L, e1, e2, hq, h1, hL, h2, h3⟩, st⟩ | ⟨q, vm₁, ⟨U', l2, c2, s2⟩, hW₁, X', ⟨g', mk, t, L, E, ce, e1, e2, hq, hce, hcv, hcl, h1, hL, h2, h3⟩, st⟩
  · dsimp only [Pt.U, Pt.locs, Pt.cells, Pt.slots] at X' e1 e2 h1 h2 h3 st
    subst h1; subst h2; subst h3
    exact Or.inl ⟨v, (T.setVm vm₁).calling g' mk (Value.ref b :: As).toArray, t, U', L, hT, X', hL, e1, e2, hq, st⟩
  · dsimp only [Pt.U, Pt.locs, Pt.cells, Pt.slots] at X' e1 e2 h1 h2 h3 st hcl
    subst h1; subst h2; subst h3
    exact Or.inr ⟨q, (T.setVm vm₁).calling g' mk (Value.ref b :: As).toArray, t, U', L, E, ce, hT, X', hL, e1, e2, hq, hce, hcv, vx_cls hW₁ hcl, st⟩
theorem vx_runS (S : CallFix p m c cc nL s args Ts own) (hM : vx_Met l y ws rm Pc Qc XC mc ms free) (cw : CallB R s args own index y bytes maxL ret ws rm mc ms n ∧ (Cond.static y).before args s = true) (hp : PreS s H Pc As)
    (hg : g.method = m) (hn : As.length = n) (hsize : g.locals.size = nL) (hstack : g.stack = As.reverse ++ rest) (hW : 2 * g.monitorRoom + (rest.map fun v => v.category).sum ≤ 8) (hdg : decode cc g.pc = .ok (.invokestatic index, 3)) (hf : cells + mc ≤ R.cells ∧ slots + ms ≤ R.slots) :
    vx_Run p l e R s m args below meth c H locs cells slots mc ms g rest (Qc As.toArray) XC free := by
  have hK : vx_Back l R p e below s args y 3 8 (PreOf R mc ms Pc) (PostOf Qc mc ms free) (vx_Post XC mc ms free) := vx_callBack cw.1 hM hp.1
  obtain ⟨⟨-, -, -, -, -, -, hcode, hini, hy, hlen, hl⟩, hstt⟩ := cw
  obtain ⟨hx, hb, hml, ho, -⟩ := S
  intro T hT X
  rcases vx_callS X hx (bytes := bytes) (maxL := maxL) (ret := ret) ho hl hstt hini hcode hy hK hg (hsize.trans hml.symm) (argsL := As) (rest := rest) (fun sig h => hn.trans (hlen sig h)) hstack hW (by rw [hb]; exact hdg)
    (fun vm₁ hW₁ => ⟨hf.1, hf.2, hp.2 (T.setVm vm₁) hT hW₁⟩) with ⟨v, vm₁, ⟨U', l2, c2, s2⟩, hW₁, X', ⟨g', mk, t, L, e1, e2, hq, h1, hL, h2, h3⟩, st⟩ | ⟨q, vm₁, ⟨U', l2, c2, s2⟩, hW₁, X', ⟨g', mk, t, L, E, ce, e1, e2, hq, hce, hcv, hcl, h1, hL, h2, h3⟩, st⟩
  · dsimp only [Pt.U, Pt.locs, Pt.cells, Pt.slots] at X' e1 e2 h1 h2 h3 st
    subst h1; subst h2; subst h3
    exact Or.inl ⟨v, (T.setVm vm₁).calling g' mk As.toArray, t, U', L, hT, X', hL, e1, e2, hq, st⟩
  · dsimp only [Pt.U, Pt.locs, Pt.cells, Pt.slots] at X' e1 e2 h1 h2 h3 st hcl
    subst h1; subst h2; subst h3
    exact Or.inr ⟨q, (T.setVm vm₁).calling g' mk As.toArray, t, U', L, E, ce, hT, X', hL, e1, e2, hq, hce, hcv, vx_cls hW₁ hcl, st⟩
end Runs
section Rows
variable {p : Program} {l : Launch} {e : Env} {R : Room} {s : State} {m : MethodId} {args : Array Value} {below : List Frame} {meth : Method} {c : Code} {H : Heap} {locs : List Loc} {cells slots : Nat} {Q : State → Prop}
variable {mc ms : Nat} {free : Addr → Prop} {A0 A1 : Nat → Prop} {H0 : Heap} {a : Array Value} {pc : Nat} {ls : Array Slot} {st0 rest : List Value}
theorem vx_keep {st₀ t T' : State} {L : List Loc} (h0 : st₀.heap = H) (e1 : T'.heap = t.heap) (hS : va_S A0 H0 H locs) (hA : ∀ q, q < H.size → A1 q → A0 q) (hf : ∀ q, free q → A0 q) (hL : ∀ q ∈ L, free q.base) (hF : va_F A1 st₀ t) :
    H.size ≤ T'.heap.size ∧ (∀ q : Nat, q < H.size → ¬ A1 q → T'.heap[q]? = H[q]?) ∧ va_S A0 H0 T'.heap (locs ++ L) := by
  obtain ⟨hz, hk⟩ := hF
  rw [h0] at hz hk
  exact ⟨by rw [e1]; exact hz, fun q h1 h2 => by rw [e1]; exact hk q h1 h2,
    ⟨Nat.le_trans hS.1 (by rw [e1]; exact hz), fun q h1 h2 => by rw [e1, hk q (Nat.lt_of_lt_of_le h1 hS.1) (fun z => h2 (hA q (Nat.lt_of_lt_of_le h1 hS.1) z))]; exact hS.2.1 q h1 h2, fun q hq => by
      rcases List.mem_append.mp hq with h | h
      · exact hS.2.2 q h
      · exact hf _ (hL q h)⟩⟩
theorem vx_calli {S SX : Type} {post : Int32 → S → Prop} {px : SX → Prop} {B : S → State → Prop} {BX : String → SX → State → Prop} {AX : Nat → Prop} (hr : vx_Run p l e R s m args below meth c H locs cells slots mc ms (F0 m pc ls st0) rest (va_Qi post B A1 a) (vx_X px BX AX) free) (hS : va_S A0 H0 H locs) (hA : ∀ q, q < H.size → A1 q → A0 q) (hf : ∀ q, free q → A0 q) (hAX : ∀ q, q < H.size → AX q → A0 q)
    (kx : ∀ (E : String) (ce : Cell) (q9 : Addr) (u : SX) (t : State) (H1 : Heap) (locs1 : List Loc), t.heap = H1 → s.vm.Alike t.vm → px u → BX E u t → H.size ≤ H1.size → (∀ q : Nat, q < H.size → ¬ AX q → H1[q]? = H[q]?) → va_S A0 H0 H1 locs1 → H1[q9]? = some ce → ce.vm = .none → s.vm.findClass E = some ce.cls → vx_W p l e R s m args below meth c H1 locs1 (cells + mc) (slots + ms) Q (F0 m pc ls rest) q9)
    (kk : ∀ (r : Int32) (u : S) (t : State) (H1 : Heap) (locs1 : List Loc), t.heap = H1 → s.vm.Alike t.vm → post r u → B u t → H.size ≤ H1.size → (∀ q : Nat, q < H.size → ¬ A1 q → H1[q]? = H[q]?) → va_S A0 H0 H1 locs1 → W p l e R s m args below meth c H1 locs1 (cells + mc) (slots + ms) Q (F0 m (pc + 3) ls (.int r :: rest))) : W p l e R s m args below meth c H locs cells slots Q (F0 m pc ls st0) := by
  intro T hT X
  rcases hr T hT X with ⟨v, st₀, t, T', L, h0, X', hL, e1, e2, ⟨⟨r, u, hv, hp, hb⟩, hF⟩, st⟩ | ⟨q, st₀, t, T', L, E, ce, h0, X', hL, e1, e2, ⟨u, hp, hb, hF⟩, hce, hcv, hcl, st⟩
  · cases hv
    obtain ⟨k1, k2, k3⟩ := vx_keep h0 e1 hS hA hf hL hF
    obtain ⟨t2, a1, b1⟩ := kk r u t T'.heap (locs ++ L) e1.symm (by rw [← e2]; exact X'.warmed.alike) hp hb k1 k2 k3 T' rfl X'
    exact ⟨t2, st t2 a1, b1⟩
  · obtain ⟨k1, k2, k3⟩ := vx_keep h0 e1 hS hAX hf hL hF
    obtain ⟨t2, a1, b1⟩ := kx E ce q u t T'.heap (locs ++ L) e1.symm (by rw [← e2]; exact X'.warmed.alike) hp hb k1 k2 k3 (by rw [e1]; exact hce) hcv hcl T' rfl X'
    exact ⟨t2, st.trans a1, b1⟩
theorem vx_calll {S SX : Type} {post : Int64 → S → Prop} {px : SX → Prop} {B : S → State → Prop} {BX : String → SX → State → Prop} {AX : Nat → Prop} (hr : vx_Run p l e R s m args below meth c H locs cells slots mc ms (F0 m pc ls st0) rest (va_Ql post B A1 a) (vx_X px BX AX) free) (hS : va_S A0 H0 H locs) (hA : ∀ q, q < H.size → A1 q → A0 q) (hf : ∀ q, free q → A0 q) (hAX : ∀ q, q < H.size → AX q → A0 q)
    (kx : ∀ (E : String) (ce : Cell) (q9 : Addr) (u : SX) (t : State) (H1 : Heap) (locs1 : List Loc), t.heap = H1 → s.vm.Alike t.vm → px u → BX E u t → H.size ≤ H1.size → (∀ q : Nat, q < H.size → ¬ AX q → H1[q]? = H[q]?) → va_S A0 H0 H1 locs1 → H1[q9]? = some ce → ce.vm = .none → s.vm.findClass E = some ce.cls → vx_W p l e R s m args below meth c H1 locs1 (cells + mc) (slots + ms) Q (F0 m pc ls rest) q9)
    (kk : ∀ (r : Int64) (u : S) (t : State) (H1 : Heap) (locs1 : List Loc), t.heap = H1 → s.vm.Alike t.vm → post r u → B u t → H.size ≤ H1.size → (∀ q : Nat, q < H.size → ¬ A1 q → H1[q]? = H[q]?) → va_S A0 H0 H1 locs1 → W p l e R s m args below meth c H1 locs1 (cells + mc) (slots + ms) Q (F0 m (pc + 3) ls (.long r :: rest))) : W p l e R s m args below meth c H locs cells slots Q (F0 m pc ls st0) := by
  intro T hT X
  rcases hr T hT X with ⟨v, st₀, t, T', L, h0, X', hL, e1, e2, ⟨⟨r, u, hv, hp, hb⟩, hF⟩, st⟩ | ⟨q, st₀, t, T', L, E, ce, h0, X', hL, e1, e2, ⟨u, hp, hb, hF⟩, hce, hcv, hcl, st⟩
  · cases hv
    obtain ⟨k1, k2, k3⟩ := vx_keep h0 e1 hS hA hf hL hF
    obtain ⟨t2, a1, b1⟩ := kk r u t T'.heap (locs ++ L) e1.symm (by rw [← e2]; exact X'.warmed.alike) hp hb k1 k2 k3 T' rfl X'
    exact ⟨t2, st t2 a1, b1⟩
  · obtain ⟨k1, k2, k3⟩ := vx_keep h0 e1 hS hAX hf hL hF
    obtain ⟨t2, a1, b1⟩ := kx E ce q u t T'.heap (locs ++ L) e1.symm (by rw [← e2]; exact X'.warmed.alike) hp hb k1 k2 k3 (by rw [e1]; exact hce) hcv hcl T' rfl X'
    exact ⟨t2, st.trans a1, b1⟩
theorem vx_callf {S SX : Type} {post : UInt32 → S → Prop} {px : SX → Prop} {B : S → State → Prop} {BX : String → SX → State → Prop} {AX : Nat → Prop} (hr : vx_Run p l e R s m args below meth c H locs cells slots mc ms (F0 m pc ls st0) rest (va_Qf post B A1 a) (vx_X px BX AX) free) (hS : va_S A0 H0 H locs) (hA : ∀ q, q < H.size → A1 q → A0 q) (hf : ∀ q, free q → A0 q) (hAX : ∀ q, q < H.size → AX q → A0 q)
    (kx : ∀ (E : String) (ce : Cell) (q9 : Addr) (u : SX) (t : State) (H1 : Heap) (locs1 : List Loc), t.heap = H1 → s.vm.Alike t.vm → px u → BX E u t → H.size ≤ H1.size → (∀ q : Nat, q < H.size → ¬ AX q → H1[q]? = H[q]?) → va_S A0 H0 H1 locs1 → H1[q9]? = some ce → ce.vm = .none → s.vm.findClass E = some ce.cls → vx_W p l e R s m args below meth c H1 locs1 (cells + mc) (slots + ms) Q (F0 m pc ls rest) q9)
    (kk : ∀ (r : UInt32) (u : S) (t : State) (H1 : Heap) (locs1 : List Loc), t.heap = H1 → s.vm.Alike t.vm → post r u → B u t → H.size ≤ H1.size → (∀ q : Nat, q < H.size → ¬ A1 q → H1[q]? = H[q]?) → va_S A0 H0 H1 locs1 → W p l e R s m args below meth c H1 locs1 (cells + mc) (slots + ms) Q (F0 m (pc + 3) ls (.float r :: rest))) : W p l e R s m args below meth c H locs cells slots Q (F0 m pc ls st0) := by
  intro T hT X
  rcases hr T hT X with ⟨v, st₀, t, T', L, h0, X', hL, e1, e2, ⟨⟨r, u, hv, hp, hb⟩, hF⟩, st⟩ | ⟨q, st₀, t, T', L, E, ce, h0, X', hL, e1, e2, ⟨u, hp, hb, hF⟩, hce, hcv, hcl, st⟩
  · cases hv
    obtain ⟨k1, k2, k3⟩ := vx_keep h0 e1 hS hA hf hL hF
    obtain ⟨t2, a1, b1⟩ := kk r u t T'.heap (locs ++ L) e1.symm (by rw [← e2]; exact X'.warmed.alike) hp hb k1 k2 k3 T' rfl X'
    exact ⟨t2, st t2 a1, b1⟩
  · obtain ⟨k1, k2, k3⟩ := vx_keep h0 e1 hS hAX hf hL hF
    obtain ⟨t2, a1, b1⟩ := kx E ce q u t T'.heap (locs ++ L) e1.symm (by rw [← e2]; exact X'.warmed.alike) hp hb k1 k2 k3 (by rw [e1]; exact hce) hcv hcl T' rfl X'
    exact ⟨t2, st.trans a1, b1⟩
theorem vx_calld {S SX : Type} {post : UInt64 → S → Prop} {px : SX → Prop} {B : S → State → Prop} {BX : String → SX → State → Prop} {AX : Nat → Prop} (hr : vx_Run p l e R s m args below meth c H locs cells slots mc ms (F0 m pc ls st0) rest (va_Qd post B A1 a) (vx_X px BX AX) free) (hS : va_S A0 H0 H locs) (hA : ∀ q, q < H.size → A1 q → A0 q) (hf : ∀ q, free q → A0 q) (hAX : ∀ q, q < H.size → AX q → A0 q)
    (kx : ∀ (E : String) (ce : Cell) (q9 : Addr) (u : SX) (t : State) (H1 : Heap) (locs1 : List Loc), t.heap = H1 → s.vm.Alike t.vm → px u → BX E u t → H.size ≤ H1.size → (∀ q : Nat, q < H.size → ¬ AX q → H1[q]? = H[q]?) → va_S A0 H0 H1 locs1 → H1[q9]? = some ce → ce.vm = .none → s.vm.findClass E = some ce.cls → vx_W p l e R s m args below meth c H1 locs1 (cells + mc) (slots + ms) Q (F0 m pc ls rest) q9)
    (kk : ∀ (r : UInt64) (u : S) (t : State) (H1 : Heap) (locs1 : List Loc), t.heap = H1 → s.vm.Alike t.vm → post r u → B u t → H.size ≤ H1.size → (∀ q : Nat, q < H.size → ¬ A1 q → H1[q]? = H[q]?) → va_S A0 H0 H1 locs1 → W p l e R s m args below meth c H1 locs1 (cells + mc) (slots + ms) Q (F0 m (pc + 3) ls (.double r :: rest))) : W p l e R s m args below meth c H locs cells slots Q (F0 m pc ls st0) := by
  intro T hT X
  rcases hr T hT X with ⟨v, st₀, t, T', L, h0, X', hL, e1, e2, ⟨⟨r, u, hv, hp, hb⟩, hF⟩, st⟩ | ⟨q, st₀, t, T', L, E, ce, h0, X', hL, e1, e2, ⟨u, hp, hb, hF⟩, hce, hcv, hcl, st⟩
  · cases hv
    obtain ⟨k1, k2, k3⟩ := vx_keep h0 e1 hS hA hf hL hF
    obtain ⟨t2, a1, b1⟩ := kk r u t T'.heap (locs ++ L) e1.symm (by rw [← e2]; exact X'.warmed.alike) hp hb k1 k2 k3 T' rfl X'
    exact ⟨t2, st t2 a1, b1⟩
  · obtain ⟨k1, k2, k3⟩ := vx_keep h0 e1 hS hAX hf hL hF
    obtain ⟨t2, a1, b1⟩ := kx E ce q u t T'.heap (locs ++ L) e1.symm (by rw [← e2]; exact X'.warmed.alike) hp hb k1 k2 k3 (by rw [e1]; exact hce) hcv hcl T' rfl X'
    exact ⟨t2, st.trans a1, b1⟩
theorem vx_callv {S SX : Type} {post : S → Prop} {px : SX → Prop} {B : S → State → Prop} {BX : String → SX → State → Prop} {AX : Nat → Prop} (hr : vx_Run p l e R s m args below meth c H locs cells slots mc ms (F0 m pc ls st0) rest (va_Qv post B A1 a) (vx_X px BX AX) free) (hS : va_S A0 H0 H locs) (hA : ∀ q, q < H.size → A1 q → A0 q) (hf : ∀ q, free q → A0 q) (hAX : ∀ q, q < H.size → AX q → A0 q)
    (kx : ∀ (E : String) (ce : Cell) (q9 : Addr) (u : SX) (t : State) (H1 : Heap) (locs1 : List Loc), t.heap = H1 → s.vm.Alike t.vm → px u → BX E u t → H.size ≤ H1.size → (∀ q : Nat, q < H.size → ¬ AX q → H1[q]? = H[q]?) → va_S A0 H0 H1 locs1 → H1[q9]? = some ce → ce.vm = .none → s.vm.findClass E = some ce.cls → vx_W p l e R s m args below meth c H1 locs1 (cells + mc) (slots + ms) Q (F0 m pc ls rest) q9)
    (kk : ∀ (u : S) (t : State) (H1 : Heap) (locs1 : List Loc), t.heap = H1 → s.vm.Alike t.vm → post u → B u t → H.size ≤ H1.size → (∀ q : Nat, q < H.size → ¬ A1 q → H1[q]? = H[q]?) → va_S A0 H0 H1 locs1 → W p l e R s m args below meth c H1 locs1 (cells + mc) (slots + ms) Q (F0 m (pc + 3) ls (rest))) : W p l e R s m args below meth c H locs cells slots Q (F0 m pc ls st0) := by
  intro T hT X
  rcases hr T hT X with ⟨v, st₀, t, T', L, h0, X', hL, e1, e2, ⟨⟨u, hv, hp, hb⟩, hF⟩, st⟩ | ⟨q, st₀, t, T', L, E, ce, h0, X', hL, e1, e2, ⟨u, hp, hb, hF⟩, hce, hcv, hcl, st⟩
  · cases hv
    obtain ⟨k1, k2, k3⟩ := vx_keep h0 e1 hS hA hf hL hF
    obtain ⟨t2, a1, b1⟩ := kk u t T'.heap (locs ++ L) e1.symm (by rw [← e2]; exact X'.warmed.alike) hp hb k1 k2 k3 T' rfl X'
    exact ⟨t2, st t2 a1, b1⟩
  · obtain ⟨k1, k2, k3⟩ := vx_keep h0 e1 hS hAX hf hL hF
    obtain ⟨t2, a1, b1⟩ := kx E ce q u t T'.heap (locs ++ L) e1.symm (by rw [← e2]; exact X'.warmed.alike) hp hb k1 k2 k3 (by rw [e1]; exact hce) hcv hcl T' rfl X'
    exact ⟨t2, st.trans a1, b1⟩
/-- caught by the row x of this method's table; the rows ahead don't take it -/
theorem vx_catch {own name : String} {E : String} {ce : Cell} {q : Addr} (hown : s.vm.findClass own = some m.cls) (pre : List ExceptionTableEntry) (x : ExceptionTableEntry) (suf : List ExceptionTableEntry) (hsplit : c.exceptionTable.toList = pre ++ x :: suf)
    (hpass : ∀ z ∈ pre, covers z pc = false ∨ (z.catchType ≠ 0 ∧ ∃ nm : String, (Cond.classLink own z.catchType nm).before args s = true ∧ va_Nc E nm s)) (hx : covers x pc = true) (h0 : x.catchType ≠ 0)
    (hlink : (Cond.classLink own x.catchType name).before args s = true) (hcast : (Cond.castable E name).before args s = true) (hcell : H[q]? = some ce) (hv : ce.vm = .none) (hcl : s.vm.findClass E = some ce.cls)
    (kk : W p l e R s m args below meth c H locs cells slots Q (F0 m x.handlerPc ls [.ref q])) : vx_W p l e R s m args below meth c H locs cells slots Q (F0 m pc ls rest) q := by
  intro T hT X
  have hpl : e.platform.magicAccessors = ({} : Platform).magicAccessors := by rw [X.admits.platform]
  obtain ⟨c3, c4, hc3, hc4, hasg⟩ := Cond.castable_spec hcast
  cases Option.some.inj (hc3.symm.trans hcl)
  obtain ⟨c5, hc5, hcl5⟩ := Cond.classLink_spec hown hlink e.platform hpl
  cases Option.some.inj (hc4.symm.trans hc5)
  obtain ⟨vm', X', st⟩ := Jvm.Stand.thenCaughtThrough X q (g := F0 m pc ls rest) rfl (Steps.refl _) (by rw [hT]; exact hcell) (by rw [hv]; rfl) (by obtain ⟨k9, h9, -⟩ := Vm.findClass_spec hcl; exact ⟨k9, h9⟩) pre x suf hsplit
    (fun z hz => by
      rcases hpass z hz with h | ⟨hz0, nm, hl1, hn1⟩
      · exact Or.inl h
      · obtain ⟨c6, hc6, hcl6⟩ := Cond.classLink_spec hown hl1 e.platform hpl
        obtain ⟨a8, b8, h1, h2, h3⟩ := hn1
        cases Option.some.inj (h1.symm.trans hcl)
        cases Option.some.inj (h2.symm.trans hc6)
        exact Or.inr ⟨hz0, _, hcl6, h3⟩) hx (Or.inr ⟨h0, c4, hcl5, hasg⟩)
  obtain ⟨t, a1, b1⟩ := kk (T.setVm vm') hT X'
  exact ⟨t, st.trans a1, b1⟩
end Rows
section Ends
variable {p : Program} {l : Launch} {e : Env} {R : Room} {s : State} {m : MethodId} {args : Array Value} {below : List Frame} {meth : Method} {c : Code} {H : Heap} {locs : List Loc} {cells slots : Nat} {Q : State → Prop}
variable {mc ms : Nat} {free : Addr → Prop} {A0 A1 : Nat → Prop} {H0 : Heap} {a : Array Value} {ls : Array Slot} {st0 rest : List Value}
variable {Qc : Array Value → State → Outcome → State → Prop} {XC : String → State → State → Prop}
/-- what a body that may throw owes at its end -/
def vx_MQ (below : List Frame) (Qc : Array Value → State → Outcome → State → Prop) (XC : String → State → State → Prop) (a : Array Value) (s : State) (mc ms : Nat) (free : Addr → Prop) : State → Prop := fun t =>
  ∃ o, t.status = .running ∧ Ended t below o ∧ vx_Q Qc XC mc ms free a s o t
theorem vx_ret {g : JFrame} {mc ms : Nat} (k : W p l e R s m args below meth c H locs cells slots (MQ below Qc args s mc ms free) g) : W p l e R s m args below meth c H locs cells slots (vx_MQ below Qc XC args s mc ms free) g := by
  intro T hT X
  obtain ⟨t, a1, o, b1, b2, b3, b4⟩ := k T hT X
  exact ⟨t, a1, o, b1, b2, Or.inl ⟨b3, b4⟩⟩
/-- not caught here: it goes on to the caller -/
theorem vx_widen {g : JFrame} {q : Addr} {k n : Nat} (h1 : cells ≤ k) (h2 : slots ≤ n) (kk : vx_W p l e R s m args below meth c H locs k n Q g q) : vx_W p l e R s m args below meth c H locs cells slots Q g q := fun T hT X => kk T hT (stand_widen X h1 h2)
theorem vx_out {pc : Nat} {E : String} {ce : Cell} {q : Addr} {mc ms : Nat} (hout : ∀ x ∈ c.exceptionTable.toList, covers x pc = false) (hlocks : meth.locks = false) (hcell : H[q]? = some ce) (hv : ce.vm = .none) (hcl : s.vm.findClass E = some ce.cls)
    (hx : ∀ t : State, t.heap = H → s.vm.Alike t.vm → XC E s t) (hf : ∀ z ∈ locs, free z.base) (hc : cells ≤ mc) (hs : slots ≤ ms) :
    vx_W p l e R s m args below meth c H locs cells slots (vx_MQ below Qc XC args s mc ms free) (F0 m pc ls rest) q := by
  intro T hT X
  obtain ⟨st1, hrun, hend, hW, hsm⟩ := X.leaveThrown q (g := F0 m pc ls rest) rfl rfl rfl hout hlocks
  have hcell9 : (T.setFrames (.throwing q :: below)).heap[q]? = some ce := by
    show T.heap[q]? = some ce
    rw [hT]; exact hcell
  exact ⟨_, st1, .threw q, hrun, hend, Or.inr ⟨q, rfl, E, ce, locs, hx _ hT hW.alike, hcell9, hv, hcl, hW, hsm.mono hc hs, hf⟩⟩
theorem vx_frame {U : State} {k n : Nat} (h : s.sameButNew ({ U with vm := s.vm } : State) locs k n) : s.heap.size ≤ U.heap.size ∧ ∀ q : Nat, q < s.heap.size → (∀ z ∈ locs, z.base ≠ q) → U.heap[q]? = s.heap[q]? := by
  obtain ⟨-, h2, -, -, -, h6⟩ := h
  refine ⟨h2, fun q hq hz => ?_⟩
  obtain ⟨c9, e1, e2, e3, e4⟩ := h6 q _ (Array.getElem?_eq_getElem hq)
  have hs : c9.slots = (s.heap[q]).slots := Array.ext_getElem? fun i => e4 i fun hm => hz _ hm rfl
  have h9 : c9 = s.heap[q] := by
    rw [hs] at e2
    exact e2
  have e5 : U.heap[q]? = some c9 := e1
  rw [e5, h9, Array.getElem?_eq_getElem hq]
/-- the words of a throw but the four that speak of the heap -/
def vx_no (w : Cond) : Bool := decide (w ≠ .isRef (.static Bundle.tN "UNASSIGNED_STACK" Bundle.steD)) && decide (w ≠ .isRef (.static Bundle.tN "SUPPRESSED_SENTINEL" Bundle.listD)) && decide (w ≠ .laysStatic Bundle.tN "UNASSIGNED_STACK" Bundle.steD) && decide (w ≠ .laysStatic Bundle.tN "SUPPRESSED_SENTINEL" Bundle.listD)
def vx_at0 (own : String) (ic : Nat) (X : String) (names : List String) : List Cond := (Bundle.ownAtoms0 own ic X names).filter vx_no
def vx_atS (own : String) (ic : Nat) (X : String) (names : List String) : List Cond := (Bundle.ownAtoms own ic X names).filter vx_no
/-- a word that the tables alone decide, or a good one -/
def vx_ot (w : Cond) : Bool := w.onTables || goodWord w
theorem vx_ot_at {args a' : Array Value} {s U : State} {w : Cond} (hW : s.WarmedH U.vm) (hvm : s.vm = U.vm) (hg : vx_ot w = true) (h : w.before args s = true) : w.before a' U = true := by
  simp only [vx_ot, Bool.or_eq_true] at hg
  rcases hg with hg | hg
  · exact va_tabs hg hvm h
  · exact word_at hW (good_of_word hg) h
/-- a list's words: the good ones out of the method's own list, the others by premises of their own -/
theorem vx_hat {args : Array Value} {s : State} {L B : List Cond} (h1 : ∀ w ∈ L.filter goodWord, w.before args s = true) (h2 : ∀ w ∈ L.filter (fun w => !goodWord w), w ∈ B) (h3 : ∀ w ∈ B, w.before args s = true) : ∀ w ∈ L, w.before args s = true := by
  intro w hw
  by_cases g : goodWord w = true
  · exact h1 w (List.mem_filter.mpr ⟨hw, g⟩)
  · refine h3 w (h2 w (List.mem_filter.mpr ⟨hw, ?_⟩))
    show (!goodWord w) = true
    cases hgw : goodWord w
    · rfl
    · exact absurd hgw g
theorem vx_c {args : Array Value} {s : State} {w : Cond} {B : List Cond} (h : w.before args s = true) (t : ∀ w ∈ B, w.before args s = true) : ∀ w' ∈ w :: B, w'.before args s = true := fun w' h' => (List.mem_cons.mp h').elim (fun e => by rw [e]; exact h) (t w')
theorem vx_n {args : Array Value} {s : State} : ∀ w ∈ ([] : List Cond), w.before args s = true := fun _ h => nomatch h
theorem vx_own {args : Array Value} {s : State} {L : List Cond} (h1 : ∀ w ∈ L.filter vx_no, w.before args s = true)
    (hU : (Cond.isRef (.static Bundle.tN "UNASSIGNED_STACK" Bundle.steD)).before args s = true) (hN : (Cond.isRef (.static Bundle.tN "SUPPRESSED_SENTINEL" Bundle.listD)).before args s = true)
    (lU : (Cond.laysStatic Bundle.tN "UNASSIGNED_STACK" Bundle.steD).before args s = true) (lN : (Cond.laysStatic Bundle.tN "SUPPRESSED_SENTINEL" Bundle.listD).before args s = true) : ∀ w ∈ L, w.before args s = true := by
  intro w hw
  by_cases e1 : w = .isRef (.static Bundle.tN "UNASSIGNED_STACK" Bundle.steD)
  · rw [e1]; exact hU
  · by_cases e2 : w = .isRef (.static Bundle.tN "SUPPRESSED_SENTINEL" Bundle.listD)
    · rw [e2]; exact hN
    · by_cases e3 : w = .laysStatic Bundle.tN "UNASSIGNED_STACK" Bundle.steD
      · rw [e3]; exact lU
      · by_cases e4 : w = .laysStatic Bundle.tN "SUPPRESSED_SENTINEL" Bundle.listD
        · rw [e4]; exact lN
        · exact h1 w (List.mem_filter.mpr ⟨hw, by unfold vx_no; rw [decide_eq_true e1, decide_eq_true e2, decide_eq_true e3, decide_eq_true e4]; rfl⟩)
/-- where a static field lies, its class's statics cell in H -/
def vx_L (C n d : String) (A : Nat → Prop) (U : State) (H : Heap) : Prop := ∃ (c : ClassId) (k : Class) (i : Nat) (f : Field) (a : Nat) (cell : Cell), U.vm.findClass C = some c ∧ U.fieldFound? C n d = some (c, k, i, f) ∧ f.isStatic = true ∧ k.statics = some a ∧ H[a]? = some cell ∧ cell.vm.isStatics = true ∧ cell.cls = c ∧ f.slot < cell.slots.size ∧ k.staticTypes[f.slot]? = some f.type ∧ ¬ A a
theorem vx_L.moved {C n d : String} {A : Nat → Prop} {u U : State} {H : Heap} (hvm : u.vm.Alike U.vm) (h : vx_L C n d A u H) : vx_L C n d A U H := by
  obtain ⟨c, k, i, f, a, cell, h1, h2, h3, h4, h5, h6, h7, h8, h9, h10⟩ := h
  obtain ⟨k', hi', he⟩ := State.fieldFound?_setVm hvm h2
  exact ⟨c, k', i, f, a, cell, by rw [hvm.findClass]; exact h1, hi', h3, by rw [he]; exact h4, h5, h6, h7, h8, by rw [he]; exact h9, h10⟩
theorem vx_L.kept {C n d : String} {A : Nat → Prop} {U : State} {H H1 : Heap} (h : vx_L C n d A U H) (hq : ∀ a : Nat, a < H.size → ¬ A a → H1[a]? = H[a]?) : vx_L C n d A U H1 := by
  obtain ⟨c, k, i, f, a, cell, h1, h2, h3, h4, h5, h6, h7, h8, h9, h10⟩ := h
  exact ⟨c, k, i, f, a, cell, h1, h2, h3, h4, by rw [hq a (Array.getElem?_eq_some_iff.mp h5).1 h10]; exact h5, h6, h7, h8, h9, h10⟩
theorem vx_L.narrow {C n d : String} {A B : Nat → Prop} {U : State} {H : Heap} (h : vx_L C n d A U H) (hAB : ∀ q, B q → A q) : vx_L C n d B U H := by
  obtain ⟨c, k, i, f, a, cell, h1, h2, h3, h4, h5, h6, h7, h8, h9, h10⟩ := h
  exact ⟨c, k, i, f, a, cell, h1, h2, h3, h4, h5, h6, h7, h8, h9, fun z => h10 (hAB _ z)⟩
theorem vx_L.word {C n d : String} {A : Nat → Prop} {s : State} {args : Array Value} (h : vx_L C n d A s s.heap) : (Cond.laysStatic C n d).before args s = true := by
  obtain ⟨c, k, i, f, a, cell, h1, h2, h3, h4, h5, h6, h7, h8, h9, -⟩ := h
  show (Cond.laysStatic C n d).holds args s none s [] = true
  exact Cond.laysStatic_of h1 h2 h3 h4 h5 h6 h7 h8 h9
/-- .. and what it holds: null or some reference -/
def vx_Zq (C n d : String) (A : Nat → Prop) (U : State) (H : Heap) : Prop := va_Zq C n d A U H ∧ vx_L C n d A U H
theorem vx_Zq.moved {C n d : String} {A : Nat → Prop} {u U : State} {H : Heap} (hvm : u.vm.Alike U.vm) (h : vx_Zq C n d A u H) : vx_Zq C n d A U H := ⟨va_Zq.moved hvm h.1, vx_L.moved hvm h.2⟩
theorem vx_Zq.kept {C n d : String} {A : Nat → Prop} {U : State} {H H1 : Heap} (h : vx_Zq C n d A U H) (hq : ∀ a : Nat, a < H.size → ¬ A a → H1[a]? = H[a]?) : vx_Zq C n d A U H1 := ⟨va_Zq.kept h.1 hq, vx_L.kept h.2 hq⟩
theorem vx_Zq.narrow {C n d : String} {A B : Nat → Prop} {U : State} {H : Heap} (h : vx_Zq C n d A U H) (hAB : ∀ q, B q → A q) : vx_Zq C n d B U H := ⟨va_Zq.narrow h.1 hAB, vx_L.narrow h.2 hAB⟩
theorem vx_Zqof {args : Array Value} {s : State} {C n d : String} {A : Nat → Prop} (hl : (Cond.laysStatic C n d).before args s = true) (hini : (Cond.initialized C).before args s = true) (h : (Cond.isRef (.static C n d)).before args s = true) (hA : ∀ a : Nat, a < s.heap.size → ¬ A a) : vx_Zq C n d A s s.heap := by
  refine ⟨va_Zqof hl hini h hA, ?_⟩
  obtain ⟨c, k, i, f, a, cell, h1, h2, h3, h4, h5, h6, h7, h8, h9⟩ := Cond.laysStatic_spec hl
  exact ⟨c, k, i, f, a, cell, h1, h2, h3, h4, h5, h6, h7, h8, h9, hA a (Array.getElem?_eq_some_iff.mp h5).1⟩
theorem vx_isRef {C n d : String} {v : Value} {A : Nat → Prop} {s : State} {args : Array Value} (h : va_Z C n d v A s s.heap) (hv : v.isRef = true) : (Cond.isRef (.static C n d)).before args s = true := by
  obtain ⟨cf, kf, fi, f, a, cell, h1, h2, h3, h4, h5, h6, h7, -⟩ := h
  have he : (Term.static C n d).eval args s none [] s = some v := by
    simp [Term.eval, State.fieldNamed?, h1, h2, h4, h5, h6, h7]
  simp only [Cond.before, Cond.holds, Cond.value, he]
  cases v <;> simp_all [Value.isRef]
theorem vx_isRefq {C n d : String} {A : Nat → Prop} {s : State} {args : Array Value} (h : va_Zq C n d A s s.heap) : (Cond.isRef (.static C n d)).before args s = true := by
  rcases h with h | ⟨t, h⟩
  · exact vx_isRef h rfl
  · exact vx_isRef h rfl
/-- the same frame, seen from here: as if the method were called anew in this heap -/
theorem vx_rebase {T : State} (X : Stand p l e R s m args below meth c T locs cells slots) {R' : Room} (hf : R'.frames ≤ R.frames) (hl : R'.locals ≤ R.locals) (hc : cells + R'.cells ≤ R.cells) (hs : slots + R'.slots ≤ R.slots) :
    Stand p l e R' ((T.setVm s.vm).setFrames (.invoking m args :: below)) m args below meth c T [] 0 0 := by
  have htop : (T.setVm s.vm).topJava?.isSome := X.here.top
  have hF : ((T.setVm s.vm).setFrames (.invoking m args :: below)).frames = .invoking m args :: below := State.frames_setFrames _ (State.cur_lt_of_top htop)
  obtain ⟨g₀, hg0⟩ := Option.isSome_iff_exists.mp htop
  obtain ⟨r, hr⟩ := State.topJava?_eq_some.mp hg0
  have hl9 : e.platform.stackLimits (T.setVm s.vm).me = e.platform.stackLimits s.me := X.limits
  have hb9 : (T.setVm s.vm).me.stackBytes = s.me.stackBytes := X.bytes
  refine ⟨X.admits, X.cas, X.clock, hF, ?_, X.hears, X.method, X.code, X.here, X.tail, X.warmed, ?_, ?_, ?_⟩
  · have h := X.room
    have hU : ((T.setVm s.vm).setFrames (.invoking m args :: below)).localsInUse = s.localsInUse := by
      rw [State.localsInUse_invoking hF (meth := meth) (c := c) X.method X.code, State.localsInUse_invoking X.frames X.method X.code]
    simp only [State.hasRoom, Bool.and_eq_true, decide_eq_true_eq] at h ⊢
    obtain ⟨⟨⟨⟨h1, h2, h3, h4, h5, h6⟩, h7⟩, h8⟩, h9⟩ := h
    rw [X.frames, List.length_cons] at h2 h3
    have q1 := X.heapSize
    have q2 := X.used
    simp only [hF, hU, List.length_cons, State.stackLimits_setFrames, State.stackBytes_setFrames, hl9, hb9]
    refine ⟨⟨⟨⟨by omega, by omega, by omega, by omega, by omega, h6⟩, ?_⟩, ?_⟩, X.book⟩
    · show T.heap.size + R'.cells ≤ e.platform.maxCells
      omega
    · show T.slotsUsed + R'.slots ≤ e.platform.maxSlots
      omega
  · rw [State.stackLimits_setFrames]; rfl
  · rw [State.stackBytes_setFrames]; rfl
  · refine ⟨?_, Nat.le_refl _, Nat.le_refl _, ?_, ?_, fun a c9 h9 => ⟨c9, h9, rfl, rfl, fun _ _ => rfl⟩⟩
    · obtain ⟨t, ht, -⟩ := State.frames_cons hr
      show T.setVm s.vm = { ((T.setVm s.vm).setFrames (.invoking m args :: below)).setFrames (T.setVm s.vm).frames with heap := T.heap, slotsUsed := T.slotsUsed }
      rw [State.setFrames_setFrames, State.setFrames_self ht]
      rfl
    · show T.slotsUsed = T.slotsUsed + ((T.heap.toList.drop T.heap.size).map (·.slots.size)).sum
      rw [List.drop_eq_nil_of_le (Nat.le_of_eq Array.length_toList)]
      rfl
    · show ((T.heap.toList.drop T.heap.size).map (·.slots.size)).sum ≤ 0
      rw [List.drop_eq_nil_of_le (Nat.le_of_eq Array.length_toList)]
      exact Nat.le_refl _
/-- 'throw new E()': new; dup; invokespecial; athrow -/
theorem vx_throw0 {cc : ByteArray} {pc : Nat} (hexec : p.tables.exec = Jvm.exec) (hb : c.code = cc) (hl : l.stackTraces = false) {own cls : String} {names : List String} {ik ic mc ms : Nat} {A : Nat → Prop}
    (hown : s.vm.findClass own = some m.cls) (hcls : Bundle.fit cls = true) (hnames : ∀ n ∈ names, Bundle.fit n = true)
    (hk : (Cond.classLink own ik cls).before args s = true) (hini : (Cond.initialized cls).before args s = true) (hat : ∀ w ∈ vx_at0 own ic cls names, w.before args s = true)
    (hgood : ∀ w ∈ Cond.classLink own ik cls :: Cond.initialized cls :: vx_at0 own ic cls names, vx_ot w = true)
    (hU : vx_Zq Bundle.tN "UNASSIGNED_STACK" Bundle.steD A s s.heap) (hN : vx_Zq Bundle.tN "SUPPRESSED_SENTINEL" Bundle.listD A s s.heap) (hS : va_S A s.heap H locs) (hsize : ls.size = c.maxLocals)
    (d0 : decode cc pc = .ok (.new ik, 3)) (d3 : decode cc (pc + 3) = .ok (.dup, 1)) (d4 : decode cc (pc + 4) = .ok (.invokespecial ic, 3)) (d7 : decode cc (pc + 7) = .ok (.athrow, 1))
    (hout : ∀ x ∈ c.exceptionTable.toList, covers x (pc + 7) = false)
    (hRframes : names.length + 3 < R.frames) (hRlocals : (rest.map fun v => v.category).sum + (13 * (names.length + 1) + 42) ≤ R.locals) (hRcells : cells + 1 ≤ R.cells) (hRslots : slots + 6 ≤ R.slots) (hlocks : meth.locks = false)
    (hx : ∀ t : State, s.vm.Alike t.vm → H.size ≤ t.heap.size → (∀ q : Nat, q < H.size → t.heap[q]? = H[q]?) → XC cls s t)
    (hf : ∀ z ∈ locs, free z.base) (hc : cells + 1 ≤ mc) (hs : slots + 6 ≤ ms) :
    W p l e R s m args below meth c H locs cells slots (vx_MQ below Qc XC args s mc ms free) (F0 m pc ls rest) := by
  intro T hT X
  have htr : e.platform.stackTraces = false := (show e.platform.stackTraces = l.stackTraces by rw [X.admits.platform]).trans hl
  have Y := vx_rebase X (R' := { frames := R.frames, locals := R.locals, cells := 1, slots := 6 }) (Nat.le_refl _) (Nat.le_refl _) hRcells hRslots
  obtain ⟨s', hA⟩ : ∃ z, z = (T.setVm s.vm).setFrames (.invoking m args :: below) := ⟨_, rfl⟩
  rw [← hA] at Y
  have hvm : s'.vm = s.vm := by rw [hA]; rfl
  have hhp : s'.heap = H := by rw [hA]; exact hT
  have hW0 : s.WarmedH s'.vm := by rw [hvm]; exact State.WarmedH.refl s
  have hat' : ∀ w ∈ vx_at0 own ic cls names, w.before args s' = true := fun w hw => vx_ot_at hW0 hvm.symm (hgood w (List.mem_cons_of_mem _ (List.mem_cons_of_mem _ hw))) (hat w hw)
  have hk' : (Cond.classLink own ik cls).before args s' = true := vx_ot_at hW0 hvm.symm (hgood _ List.mem_cons_self) hk
  have hini' : (Cond.initialized cls).before args s' = true := vx_ot_at hW0 hvm.symm (hgood _ (List.mem_cons_of_mem _ List.mem_cons_self)) hini
  have hU' : vx_Zq Bundle.tN "UNASSIGNED_STACK" Bundle.steD A s' s'.heap := by rw [hhp]; exact vx_Zq.moved hW0.alike (hU.kept hS.2.1)
  have hN' : vx_Zq Bundle.tN "SUPPRESSED_SENTINEL" Bundle.listD A s' s'.heap := by rw [hhp]; exact vx_Zq.moved hW0.alike (hN.kept hS.2.1)
  have h : ∀ w ∈ Bundle.ownAtoms0 own ic cls names, w.before args s' = true := vx_own hat' (vx_isRefq hU'.1) (vx_isRefq hN'.1) hU'.2.word hN'.2.word
  have hown' : s'.vm.findClass own = some m.cls := by rw [hvm]; exact hown
  have hins : (Cond.instantiable cls 6).before args s' = true := h _ (by simp [Bundle.ownAtoms0])
  obtain ⟨vm₁, cX, kX, hfX, hkX, -, -, X₁, st1⟩ := Y.newCold hexec (own := own) (C := cls) (index := ik) (n := 6) hown' hk' hins hini'
    (g := F0 m pc ls rest) rfl (by rw [hb]; exact d0) (Nat.le_refl _) (Nat.le_refl _)
  generalize hT1 : (T.setVm vm₁).pushCell { cls := cX, slots := kX.instanceTypes.map defaultValue, vm := .none } = T1 at X₁ st1
  have hcat : (Value.ref T.heap.size).category = 1 := rfl
  have hcellA : T1.heap[T.heap.size]? = some (freshCell cX kX) := by rw [← hT1]; exact State.heap_pushCell_size _ _
  have d3' : decode c.code (pc + 3) = .ok (.dup, 1) := by rw [hb]; exact d3
  obtain ⟨U, hsteps, hrun, hend, hW, hsame, ce, hce, hO⟩ := X₁.ctorThrow0 hexec htr (own := own) (cls := cls) (names := names) (ic := ic) hown' hcls hnames h (fun x hx => nomatch hx) hfX hkX hcellA (by rw [hhp, hT]; exact Nat.le_refl _)
    (g := { method := m, pc := pc + 4, locals := ls, stack := .ref T.heap.size :: .ref T.heap.size :: rest, locked := none }) rfl hsize rfl rfl (rest := rest) rfl
    (by rw [hb]; exact d4) (by rw [hb]; exact d7) hout hRframes (by simp only [List.map_cons, List.sum_cons, hcat]; omega) hlocks
  obtain ⟨f1, f2⟩ := vx_frame hsame
  rw [hhp] at f1 f2
  have hWs : s.WarmedH U.vm := State.WarmedH.trans hW0 hW
  have hcl : s.vm.findClass cls = some ce.cls := by
    have h9 := hO.cls
    rw [hvm] at h9
    exact h9
  have hall : s.sameButNew ({ U with vm := s.vm } : State) locs mc ms := by
    subst hA
    obtain ⟨e1, e2⟩ := hsame
    rw [State.setFrames_setFrames] at e1
    have h2 : (T.setVm s.vm).sameButNew ({ U with vm := s.vm } : State) [] (0 + 1) (0 + 6) := ⟨e1, e2⟩
    have h3 := X.same.trans h2
    rw [List.append_nil] at h3
    exact h3.mono hc hs
  refine ⟨U, ?_, .threw T.heap.size, hrun, hend, Or.inr ⟨T.heap.size, rfl, cls, ce, locs, hx U hWs.alike f1 (fun q hq => f2 q hq (fun z hz => nomatch hz)), hce, hO.vm, hcl, hWs, hall, hf⟩⟩
  refine st1 _ ?_
  show Steps p.tables e below (T1.setTop { method := m, pc := pc + 3, locals := ls, stack := .ref T.heap.size :: rest, locked := none }) _
  jvm_step X₁.here [X₁.here.top, hexec, d3', Value.category]
  exact hsteps
/-- 'throw new E("text")': new; dup; ldc; invokespecial; athrow -/
theorem vx_throwS {cc : ByteArray} {pc : Nat} (hexec : p.tables.exec = Jvm.exec) (hb : c.code = cc) (hl : l.stackTraces = false) {own cls text : String} {names : List String} {ik is ic mc ms sa : Nat} {A : Nat → Prop}
    (hown : s.vm.findClass own = some m.cls) (hcls : Bundle.fit cls = true) (hnames : ∀ n ∈ names, Bundle.fit n = true)
    (hk : (Cond.classLink own ik cls).before args s = true) (hini : (Cond.initialized cls).before args s = true) (hstr : vk_R own is text sa s) (hat : ∀ w ∈ vx_atS own ic cls names, w.before args s = true)
    (hgood : ∀ w ∈ Cond.classLink own ik cls :: Cond.initialized cls :: vx_atS own ic cls names, vx_ot w = true)
    (hU : vx_Zq Bundle.tN "UNASSIGNED_STACK" Bundle.steD A s s.heap) (hN : vx_Zq Bundle.tN "SUPPRESSED_SENTINEL" Bundle.listD A s s.heap) (hS : va_S A s.heap H locs) (hsize : ls.size = c.maxLocals)
    (d0 : decode cc pc = .ok (.new ik, 3)) (d3 : decode cc (pc + 3) = .ok (.dup, 1)) (d4 : decode cc (pc + 4) = .ok (.ldc is, 2)) (d6 : decode cc (pc + 6) = .ok (.invokespecial ic, 3)) (d9 : decode cc (pc + 9) = .ok (.athrow, 1))
    (hout : ∀ x ∈ c.exceptionTable.toList, covers x (pc + 9) = false)
    (hRframes : names.length + 3 < R.frames) (hRlocals : (rest.map fun v => v.category).sum + (13 * (names.length + 1) + 43) ≤ R.locals) (hRcells : cells + 1 ≤ R.cells) (hRslots : slots + 6 ≤ R.slots) (hlocks : meth.locks = false)
    (hx : ∀ t : State, s.vm.Alike t.vm → H.size ≤ t.heap.size → (∀ q : Nat, q < H.size → t.heap[q]? = H[q]?) → XC cls s t)
    (hf : ∀ z ∈ locs, free z.base) (hc : cells + 1 ≤ mc) (hs : slots + 6 ≤ ms) :
    W p l e R s m args below meth c H locs cells slots (vx_MQ below Qc XC args s mc ms free) (F0 m pc ls rest) := by
  intro T hT X
  have htr : e.platform.stackTraces = false := (show e.platform.stackTraces = l.stackTraces by rw [X.admits.platform]).trans hl
  have Y := vx_rebase X (R' := { frames := R.frames, locals := R.locals, cells := 1, slots := 6 }) (Nat.le_refl _) (Nat.le_refl _) hRcells hRslots
  obtain ⟨s', hA⟩ : ∃ z, z = (T.setVm s.vm).setFrames (.invoking m args :: below) := ⟨_, rfl⟩
  rw [← hA] at Y
  have hvm : s'.vm = s.vm := by rw [hA]; rfl
  have hhp : s'.heap = H := by rw [hA]; exact hT
  have hW0 : s.WarmedH s'.vm := by rw [hvm]; exact State.WarmedH.refl s
  have hat' : ∀ w ∈ vx_atS own ic cls names, w.before args s' = true := fun w hw => vx_ot_at hW0 hvm.symm (hgood w (List.mem_cons_of_mem _ (List.mem_cons_of_mem _ hw))) (hat w hw)
  have hk' : (Cond.classLink own ik cls).before args s' = true := vx_ot_at hW0 hvm.symm (hgood _ List.mem_cons_self) hk
  have hini' : (Cond.initialized cls).before args s' = true := vx_ot_at hW0 hvm.symm (hgood _ (List.mem_cons_of_mem _ List.mem_cons_self)) hini
  have hU' : vx_Zq Bundle.tN "UNASSIGNED_STACK" Bundle.steD A s' s'.heap := by rw [hhp]; exact vx_Zq.moved hW0.alike (hU.kept hS.2.1)
  have hN' : vx_Zq Bundle.tN "SUPPRESSED_SENTINEL" Bundle.listD A s' s'.heap := by rw [hhp]; exact vx_Zq.moved hW0.alike (hN.kept hS.2.1)
  have h : ∀ w ∈ Bundle.ownAtoms own ic cls names, w.before args s' = true := vx_own hat' (vx_isRefq hU'.1) (vx_isRefq hN'.1) hU'.2.word hN'.2.word
  have hown' : s'.vm.findClass own = some m.cls := by rw [hvm]; exact hown
  have hins : (Cond.instantiable cls 6).before args s' = true := h _ (by simp [Bundle.ownAtoms])
  obtain ⟨vm₁, cX, kX, hfX, hkX, -, -, X₁, st1⟩ := Y.newCold hexec (own := own) (C := cls) (index := ik) (n := 6) hown' hk' hins hini'
    (g := F0 m pc ls rest) rfl (by rw [hb]; exact d0) (Nat.le_refl _) (Nat.le_refl _)
  generalize hT1 : (T.setVm vm₁).pushCell { cls := cX, slots := kX.instanceTypes.map defaultValue, vm := .none } = T1 at X₁ st1
  have hcat : (Value.ref T.heap.size).category = 1 := rfl
  have hcellA : T1.heap[T.heap.size]? = some (freshCell cX kX) := by rw [← hT1]; exact State.heap_pushCell_size _ _
  have d3' : decode c.code (pc + 3) = .ok (.dup, 1) := by rw [hb]; exact d3
  have d4' : decode c.code (pc + 4) = .ok (.ldc is, 2) := by rw [hb]; exact d4
  have hstr' : vk_R own is text sa s' := vk_R.warm hW0 hstr
  obtain ⟨U, hsteps, hrun, hend, hW, hsame, ce, hce, hO⟩ := X₁.ctorThrowS hexec htr (own := own) (cls := cls) (names := names) (ic := ic) hown' hcls hnames h (fun x hx => nomatch hx) hfX hkX hcellA (by rw [hhp, hT]; exact Nat.le_refl _) (msg := .ref sa) rfl
    (g := { method := m, pc := pc + 6, locals := ls, stack := .ref sa :: .ref T.heap.size :: .ref T.heap.size :: rest, locked := none }) rfl hsize rfl rfl (rest := rest) rfl
    (by rw [hb]; exact d6) (by rw [hb]; exact d9) hout hRframes (by simp only [List.map_cons, List.sum_cons, hcat]; omega) hlocks
  obtain ⟨f1, f2⟩ := vx_frame hsame
  rw [hhp] at f1 f2
  have hWs : s.WarmedH U.vm := State.WarmedH.trans hW0 hW
  have hcl : s.vm.findClass cls = some ce.cls := by
    have h9 := hO.cls
    rw [hvm] at h9
    exact h9
  have hall : s.sameButNew ({ U with vm := s.vm } : State) locs mc ms := by
    subst hA
    obtain ⟨e1, e2⟩ := hsame
    rw [State.setFrames_setFrames] at e1
    have h2 : (T.setVm s.vm).sameButNew ({ U with vm := s.vm } : State) [] (0 + 1) (0 + 6) := ⟨e1, e2⟩
    have h3 := X.same.trans h2
    rw [List.append_nil] at h3
    exact h3.mono hc hs
  refine ⟨U, ?_, .threw T.heap.size, hrun, hend, Or.inr ⟨T.heap.size, rfl, cls, ce, locs, hx U hWs.alike f1 (fun q hq => f2 q hq (fun z hz => nomatch hz)), hce, hO.vm, hcl, hWs, hall, hf⟩⟩
  refine st1 _ ?_
  show Steps p.tables e below (T1.setTop { method := m, pc := pc + 3, locals := ls, stack := .ref T.heap.size :: rest, locked := none }) _
  jvm_step X₁.here [X₁.here.top, hexec, d3', Value.category]
  exact X₁.ldcString hexec (own := own) (text := text) (index := is) (a := sa) hown' hstr'.1 hstr'.2
    (g := { method := m, pc := pc + 4, locals := ls, stack := .ref T.heap.size :: .ref T.heap.size :: rest, locked := none }) rfl d4' _ hsteps
/-- 'throw new E("text")', the text by a wide index -/
theorem vx_throwSW {cc : ByteArray} {pc : Nat} (hexec : p.tables.exec = Jvm.exec) (hb : c.code = cc) (hl : l.stackTraces = false) {own cls text : String} {names : List String} {ik is ic mc ms sa : Nat} {A : Nat → Prop}
    (hown : s.vm.findClass own = some m.cls) (hcls : Bundle.fit cls = true) (hnames : ∀ n ∈ names, Bundle.fit n = true)
    (hk : (Cond.classLink own ik cls).before args s = true) (hini : (Cond.initialized cls).before args s = true) (hstr : vk_R own is text sa s) (hat : ∀ w ∈ vx_atS own ic cls names, w.before args s = true)
    (hgood : ∀ w ∈ Cond.classLink own ik cls :: Cond.initialized cls :: vx_atS own ic cls names, vx_ot w = true)
    (hU : vx_Zq Bundle.tN "UNASSIGNED_STACK" Bundle.steD A s s.heap) (hN : vx_Zq Bundle.tN "SUPPRESSED_SENTINEL" Bundle.listD A s s.heap) (hS : va_S A s.heap H locs) (hsize : ls.size = c.maxLocals)
    (d0 : decode cc pc = .ok (.new ik, 3)) (d3 : decode cc (pc + 3) = .ok (.dup, 1)) (d4 : decode cc (pc + 4) = .ok (.ldc_w is, 3)) (d7 : decode cc (pc + 7) = .ok (.invokespecial ic, 3)) (d10 : decode cc (pc + 10) = .ok (.athrow, 1))
    (hout : ∀ x ∈ c.exceptionTable.toList, covers x (pc + 10) = false)
    (hRframes : names.length + 3 < R.frames) (hRlocals : (rest.map fun v => v.category).sum + (13 * (names.length + 1) + 43) ≤ R.locals) (hRcells : cells + 1 ≤ R.cells) (hRslots : slots + 6 ≤ R.slots) (hlocks : meth.locks = false)
    (hx : ∀ t : State, s.vm.Alike t.vm → H.size ≤ t.heap.size → (∀ q : Nat, q < H.size → t.heap[q]? = H[q]?) → XC cls s t)
    (hf : ∀ z ∈ locs, free z.base) (hc : cells + 1 ≤ mc) (hs : slots + 6 ≤ ms) :
    W p l e R s m args below meth c H locs cells slots (vx_MQ below Qc XC args s mc ms free) (F0 m pc ls rest) := by
  intro T hT X
  have htr : e.platform.stackTraces = false := (show e.platform.stackTraces = l.stackTraces by rw [X.admits.platform]).trans hl
  have Y := vx_rebase X (R' := { frames := R.frames, locals := R.locals, cells := 1, slots := 6 }) (Nat.le_refl _) (Nat.le_refl _) hRcells hRslots
  obtain ⟨s', hA⟩ : ∃ z, z = (T.setVm s.vm).setFrames (.invoking m args :: below) := ⟨_, rfl⟩
  rw [← hA] at Y
  have hvm : s'.vm = s.vm := by rw [hA]; rfl
  have hhp : s'.heap = H := by rw [hA]; exact hT
  have hW0 : s.WarmedH s'.vm := by rw [hvm]; exact State.WarmedH.refl s
  have hat' : ∀ w ∈ vx_atS own ic cls names, w.before args s' = true := fun w hw => vx_ot_at hW0 hvm.symm (hgood w (List.mem_cons_of_mem _ (List.mem_cons_of_mem _ hw))) (hat w hw)
  have hk' : (Cond.classLink own ik cls).before args s' = true := vx_ot_at hW0 hvm.symm (hgood _ List.mem_cons_self) hk
  have hini' : (Cond.initialized cls).before args s' = true := vx_ot_at hW0 hvm.symm (hgood _ (List.mem_cons_of_mem _ List.mem_cons_self)) hini
  have hU' : vx_Zq Bundle.tN "UNASSIGNED_STACK" Bundle.steD A s' s'.heap := by rw [hhp]; exact vx_Zq.moved hW0.alike (hU.kept hS.2.1)
  have hN' : vx_Zq Bundle.tN "SUPPRESSED_SENTINEL" Bundle.listD A s' s'.heap := by rw [hhp]; exact vx_Zq.moved hW0.alike (hN.kept hS.2.1)
  have h : ∀ w ∈ Bundle.ownAtoms own ic cls names, w.before args s' = true := vx_own hat' (vx_isRefq hU'.1) (vx_isRefq hN'.1) hU'.2.word hN'.2.word
  have hown' : s'.vm.findClass own = some m.cls := by rw [hvm]; exact hown
  have hins : (Cond.instantiable cls 6).before args s' = true := h _ (by simp [Bundle.ownAtoms])
  obtain ⟨vm₁, cX, kX, hfX, hkX, -, -, X₁, st1⟩ := Y.newCold hexec (own := own) (C := cls) (index := ik) (n := 6) hown' hk' hins hini'
    (g := F0 m pc ls rest) rfl (by rw [hb]; exact d0) (Nat.le_refl _) (Nat.le_refl _)
  generalize hT1 : (T.setVm vm₁).pushCell { cls := cX, slots := kX.instanceTypes.map defaultValue, vm := .none } = T1 at X₁ st1
  have hcat : (Value.ref T.heap.size).category = 1 := rfl
  have hcellA : T1.heap[T.heap.size]? = some (freshCell cX kX) := by rw [← hT1]; exact State.heap_pushCell_size _ _
  have d3' : decode c.code (pc + 3) = .ok (.dup, 1) := by rw [hb]; exact d3
  have d4' : decode c.code (pc + 4) = .ok (.ldc_w is, 3) := by rw [hb]; exact d4
  have hstr' : vk_R own is text sa s' := vk_R.warm hW0 hstr
  obtain ⟨U, hsteps, hrun, hend, hW, hsame, ce, hce, hO⟩ := X₁.ctorThrowS hexec htr (own := own) (cls := cls) (names := names) (ic := ic) hown' hcls hnames h (fun x hx => nomatch hx) hfX hkX hcellA (by rw [hhp, hT]; exact Nat.le_refl _) (msg := .ref sa) rfl
    (g := { method := m, pc := pc + 7, locals := ls, stack := .ref sa :: .ref T.heap.size :: .ref T.heap.size :: rest, locked := none }) rfl hsize rfl rfl (rest := rest) rfl
    (by rw [hb]; exact d7) (by rw [hb]; exact d10) hout hRframes (by simp only [List.map_cons, List.sum_cons, hcat]; omega) hlocks
  obtain ⟨f1, f2⟩ := vx_frame hsame
  rw [hhp] at f1 f2
  have hWs : s.WarmedH U.vm := State.WarmedH.trans hW0 hW
  have hcl : s.vm.findClass cls = some ce.cls := by
    have h9 := hO.cls
    rw [hvm] at h9
    exact h9
  have hall : s.sameButNew ({ U with vm := s.vm } : State) locs mc ms := by
    subst hA
    obtain ⟨e1, e2⟩ := hsame
    rw [State.setFrames_setFrames] at e1
    have h2 : (T.setVm s.vm).sameButNew ({ U with vm := s.vm } : State) [] (0 + 1) (0 + 6) := ⟨e1, e2⟩
    have h3 := X.same.trans h2
    rw [List.append_nil] at h3
    exact h3.mono hc hs
  refine ⟨U, ?_, .threw T.heap.size, hrun, hend, Or.inr ⟨T.heap.size, rfl, cls, ce, locs, hx U hWs.alike f1 (fun q hq => f2 q hq (fun z hz => nomatch hz)), hce, hO.vm, hcl, hWs, hall, hf⟩⟩
  refine st1 _ ?_
  show Steps p.tables e below (T1.setTop { method := m, pc := pc + 3, locals := ls, stack := .ref T.heap.size :: rest, locked := none }) _
  jvm_step X₁.here [X₁.here.top, hexec, d3', Value.category]
  exact X₁.ldcStringW hexec (own := own) (text := text) (index := is) (a := sa) hown' hstr'.1 hstr'.2
    (g := { method := m, pc := pc + 4, locals := ls, stack := .ref T.heap.size :: .ref T.heap.size :: rest, locked := none }) rfl d4' _ hsteps
end Ends
section Bodies
variable {l : Launch}
theorem vx_ofW {y : MethodName} {ws ws' : List Cond} {rm : Room} {Pc : Array Value → State → Prop} {Qc : Array Value → State → Outcome → State → Prop} {XC : String → State → State → Prop} {mc ms : Nat} {free : Addr → Prop} {cc : ByteArray} {maxL : Nat} {ret : Option FieldType}
    (hy : plainName y.cls = true) (hw : ws = Cond.code y cc maxL ret :: ws')
    (body : ∀ p e s m args below meth c s₁, BodyLoose p l y (headSpec ws rm) cc maxL ret e s m args below meth c s₁ → c.maxLocals = maxL → (∀ x ∈ c.exceptionTable.toList, False) → Pc args s →
      W p l e (headSpec ws rm).room s m args below meth c s.heap [] 0 0 (vx_MQ below Qc XC args s mc ms free) (entryFrame m args maxL)) : vx_Met l y ws rm Pc Qc XC mc ms free := by
  refine MetFree.of_bodyS (code := cc) (maxLocals := maxL) (ret := ret) hy ?_ ?_
  · intro args s m h hn
    obtain ⟨meth, c, h1, h2, h3, h4, h5, h6, -, -⟩ := Cond.code_spec hn (atoms_spec (ws := ws) h _ (by rw [hw]; exact List.mem_cons_self))
    exact ⟨meth, c, h1, h2, h3, h4, h5, h6⟩
  · intro p e s m args below meth c s₁ B hml hP _
    have hh0 : s₁.heap = s.heap := by rw [B.state]; rfl
    have ht : ∀ x ∈ c.exceptionTable.toList, False := by
      obtain ⟨meth9, c9, h1, h2, -, -, -, -, h7, -⟩ := Cond.code_spec B.named (atoms_spec (ws := ws) B.pre _ (by rw [hw]; exact List.mem_cons_self))
      cases Option.some.inj (h1.symm.trans B.method)
      cases Option.some.inj (h2.symm.trans (Stand.of_body B).code)
      intro x hx
      rw [Array.isEmpty_iff.mp h7] at hx
      cases hx
    obtain ⟨t, a1, o, b1, b2, b3⟩ := body p e s m args below meth c s₁ B hml ht hP s₁ hh0 (Stand.of_body B)
    exact ⟨t, o, a1, b1, b2, b3⟩
/-- the table of a body with handlers -/
theorem vx_table {p : Program} {x y : MethodName} {S : Spec} {cc bytes : ByteArray} {maxL maxL' : Nat} {ret ret' : Option FieldType} {e : Env} {s s₁ : State} {m : MethodId} {args : Array Value} {below : List Frame} {meth : Method} {c : Code} {hh : List (Nat × Nat × Nat × Nat)}
    (B : BodyLoose p l y S cc maxL ret e s m args below meth c s₁) (h : (Cond.codeWith y bytes maxL' ret' hh).before args s = true) : c.exceptionTable.toList = tableOf hh := by
  obtain ⟨m9, meth9, c9, hn9, h1, h2, -, -, h6, -⟩ := Cond.codeWith_spec h
  cases Option.some.inj (hn9.symm.trans B.named)
  cases Option.some.inj (h1.symm.trans B.method)
  cases Option.some.inj (h2.symm.trans (Stand.of_body B).code)
  rw [← h6, table_eq]
end Bodies
end VXA
/-! ===== END ===== -/
/-! ===== BEGIN a static call of a method with an exception table ===== -/
section VXS
variable {p : Program} {l : Launch} {e : Env} {R : Room} {s : State} {m : MethodId} {args : Array Value} {below : List Frame} {meth : Method} {c : Code} {T : State} {H : Heap} {locs : List Loc} {cells slots : Nat}
abbrev vx_CSW (R : Room) (s : State) (args : Array Value) (own : String) (index : Nat) (y : MethodName) (bytes : ByteArray) (maxL : Nat) (ret : Option FieldType) (hh : List (Nat × Nat × Nat × Nat)) (ws : List Cond) (rm : Room) (mc ms n : Nat) : Prop :=
  (rm.cells = mc ∧ rm.slots = ms ∧ rm.frames + 1 ≤ R.frames ∧ 8 + (maxL + 11) + rm.locals ≤ R.locals ∧ (∀ w ∈ ws, ∀ (a' : Array Value) (U : State), s.WarmedH U.vm → w.before a' U = true) ∧ Cond.codeWith y bytes maxL ret hh ∈ ws) ∧
  (Cond.codeWith y bytes maxL ret hh).before args s = true ∧ (Cond.initialized y.cls).before args s = true ∧ (y.cls ≠ "java/lang/invoke/MethodHandle" ∧ y.cls ≠ "java/lang/invoke/VarHandle") ∧
  (∀ sig, parseMethodDescriptor y.desc = some sig → n = sig.parameters.length) ∧ (Cond.methodLink own index y).before args s = true ∧ (Cond.static y).before args s = true
theorem vx_cwSW {own : String} {index maxL mc ms : Nat} {y : MethodName} {bytes : ByteArray} {ret : Option FieldType} {hh : List (Nat × Nat × Nat × Nat)} {Ts ws ws' : List Cond} {rm : Room} (n : Nat) (ht : ∀ w ∈ Ts, w.before args s = true) (hT : GoodIn Ts (va_wsS own index y ws)) (hw : ws = Cond.codeWith y bytes maxL ret hh :: ws') (hrc : rm.cells = mc) (hrs : rm.slots = ms)
    (hd : y.cls ≠ "java/lang/invoke/MethodHandle" ∧ y.cls ≠ "java/lang/invoke/VarHandle" ∧ (parseMethodDescriptor y.desc).map (fun d => d.parameters.length) = some n) (hR : rm.frames + 1 ≤ R.frames ∧ 8 + (maxL + 11) + rm.locals ≤ R.locals) :
    vx_CSW R s args own index y bytes maxL ret hh ws rm mc ms n := by
  have ok : ∀ w ∈ va_wsS own index y ws, w.before args s = true := fun w h => ht w (hT w h).1
  have hG : GoodIn Ts ws := fun w h => hT w (by unfold va_wsS; exact List.mem_append_right _ h)
  have hc : Cond.codeWith y bytes maxL ret hh ∈ ws := by rw [hw]; exact List.mem_cons_self
  refine ⟨⟨hrc, hrs, hR.1, hR.2, pay_in ht hG, hc⟩, ht _ (hG _ hc).1, ok _ (by simp [va_wsS]), ⟨hd.1, hd.2.1⟩, fun sig h => ?_, ok _ (by simp [va_wsS]), ok _ (by simp [va_wsS])⟩
  have h2 := hd.2.2
  rw [h] at h2
  exact (Option.some.inj h2).symm
theorem vx_callSW (X : Stand p l e R s m args below meth c T locs cells slots) (hexec : p.tables.exec = Jvm.exec) {own : String} {index : Nat} {y : MethodName} {bytes : ByteArray} {maxL : Nat} {ret : Option FieldType} {hh : List (Nat × Nat × Nat × Nat)}
    (hown : s.vm.findClass own = some m.cls) (hlink : (Cond.methodLink own index y).before args s = true) (hstat : (Cond.static y).before args s = true) (hinit : (Cond.initialized y.cls).before args s = true)
    (hcode : (Cond.codeWith y bytes maxL ret hh).before args s = true) (hy : y.cls ≠ "java/lang/invoke/MethodHandle" ∧ y.cls ≠ "java/lang/invoke/VarHandle")
    {W9 : Nat} {Pre : Pt → Array Value → Prop} {Post : Pt → Array Value → Option Value → Pt → Prop} (hK : Back l R p e below s args y 3 W9 Pre Post)
    {g : JFrame} (hg : g.method = m) (hsize : g.locals.size = c.maxLocals) {argsL rest : List Value} (hlen : ∀ sig, parseMethodDescriptor y.desc = some sig → argsL.length = sig.parameters.length)
    (hstack : g.stack = argsL.reverse ++ rest) (hW : 2 * g.monitorRoom + (rest.map fun v => v.category).sum ≤ W9) (hdg : decode c.code g.pc = .ok (.invokestatic index, 3))
    (hpre : ∀ vm₁, s.WarmedH vm₁ → Pre ⟨T.setVm vm₁, locs, cells, slots⟩ argsL.toArray) :
    ∃ (v : Option Value) (vm₁ : Vm) (B : Pt), s.WarmedH vm₁ ∧ Stand p l e R s m args below meth c B.U B.locs B.cells B.slots ∧ Post ⟨T.setVm vm₁, locs, cells, slots⟩ argsL.toArray v B ∧
      ∀ target, Steps p.tables e below (B.U.setTop { g with pc := g.pc + 3, stack := v.toList ++ rest }) target → Steps p.tables e below (T.setTop g) target := by
  obtain ⟨mk, methM, cM, hnamed, hmethM, -, -, -, -, -, -, hsigM⟩ := Cond.codeWith_spec hcode
  have hstatic : methM.isStatic = true := Cond.static_spec hnamed hmethM hstat
  obtain ⟨kP, hkP, -⟩ := className_of_methodNamed hnamed
  have hinitP : kP.init = .initialized := Cond.initialized_spec (findClass_of_methodNamed hnamed) hkP hinit
  obtain ⟨vm₁, X₁, hstep₁⟩ := X.invokestatic hexec hown hlink hnamed hmethM hstatic hkP hinitP hy (g := g) hg (argsL := argsL) (rest := rest) (hlen _ hsigM) hstack hdg
  obtain ⟨v, B, X', hpost, hsteps⟩ := hK m meth c ⟨T.setVm vm₁, locs, cells, slots⟩ { g with stack := rest } (.invokestatic index) mk argsL.toArray X₁ hg hsize hdg hW (X₁.named hnamed) (hpre vm₁ X₁.warmed)
  exact ⟨v, vm₁, B, X₁.warmed, X', hpost, fun target h => hstep₁ _ fun acts => by rw [doInvoke_state]; exact hsteps.trans h⟩
theorem vx_runSW {y : MethodName} {bytes cc : ByteArray} {maxL nL mc ms n index : Nat} {ret : Option FieldType} {hh : List (Nat × Nat × Nat × Nat)} {ws : List Cond} {rm : Room} {Pc : Array Value → State → Prop} {Qc : Array Value → State → Outcome → State → Prop} {free : Addr → Prop} {Ts : List Cond} {own : String} {As rest : List Value} {g : JFrame}
    (S : CallFix p m c cc nL s args Ts own) (hM : Met l y ws rm Pc Qc mc ms free) (cw : vx_CSW R s args own index y bytes maxL ret hh ws rm mc ms n) (hp : PreS s H Pc As)
    (hg : g.method = m) (hn : As.length = n) (hsize : g.locals.size = nL) (hstack : g.stack = As.reverse ++ rest) (hW : 2 * g.monitorRoom + (rest.map fun v => v.category).sum ≤ 8) (hdg : decode cc g.pc = .ok (.invokestatic index, 3)) (hf : cells + mc ≤ R.cells ∧ slots + ms ≤ R.slots) :
    va_Run p l e R s m args below meth c H locs cells slots mc ms g rest (Qc As.toArray) (free) := by
  obtain ⟨⟨hrc, hrs, hfr, hlo, hws, hcw⟩, hcode, hini, hy, hlen, hl, hstt⟩ := cw
  have hK : Back l R p e below s args y 3 8 (PreOf R mc ms Pc) (PostOf Qc mc ms free) := va_backW (hh := hh) (bytes := bytes) (maxL := maxL) (ret := ret) hM hp.1 hrc hrs hfr hlo hws hcw (fun a' U hW => word_at hW (Or.inl (by first | rfl | simp [Cond.onTables, Cond.keeps, Cond.steady])) hini)
  obtain ⟨hx, hb, hml, ho, -⟩ := S
  intro T hT X
  obtain ⟨v, vm₁, ⟨U', l2, c2, s2⟩, hW₁, X', ⟨g', mk, t, L, e1, e2, hq, h1, hL, h2, h3⟩, st⟩ := vx_callSW X hx (hh := hh) (bytes := bytes) (maxL := maxL) (ret := ret) ho hl hstt hini hcode hy hK hg (hsize.trans hml.symm) (argsL := As) (rest := rest) (fun sig h => hn.trans (hlen sig h)) hstack hW (by rw [hb]; exact hdg)
    (fun vm₁ hW₁ => ⟨hf.1, hf.2, hp.2 (T.setVm vm₁) hT hW₁⟩)
  dsimp only [Pt.U, Pt.locs, Pt.cells, Pt.slots] at X' e1 e2 h1 h2 h3 st
  subst h1; subst h2; subst h3
  exact ⟨v, (T.setVm vm₁).calling g' mk As.toArray, t, U', L, hT, X', hL, e1, e2, hq, st⟩
/-- not caught here, past rows that name other classes: it goes on to the caller -/
theorem vx_outP {p : Program} {l : Launch} {e : Env} {R : Room} {s : State} {m : MethodId} {args : Array Value} {below : List Frame} {meth : Method} {c : Code} {H : Heap} {locs : List Loc} {cells slots : Nat} {free : Addr → Prop} {ls : Array Slot} {rest : List Value} {Qc : Array Value → State → Outcome → State → Prop} {XC : String → State → State → Prop}
    {pc : Nat} {own E : String} {ce : Cell} {q : Addr} {mc ms : Nat} (hown : s.vm.findClass own = some m.cls) (hlocks : meth.locks = false)
    (hpass : ∀ z ∈ c.exceptionTable.toList, covers z pc = false ∨ (z.catchType ≠ 0 ∧ ∃ nm : String, (Cond.classLink own z.catchType nm).before args s = true ∧ va_Nc E nm s)) (hcell : H[q]? = some ce) (hv : ce.vm = .none) (hcl : s.vm.findClass E = some ce.cls)
    (hx : ∀ t : State, t.heap = H → s.vm.Alike t.vm → XC E s t) (hf : ∀ z ∈ locs, free z.base) (hc : cells ≤ mc) (hs : slots ≤ ms) :
    vx_W p l e R s m args below meth c H locs cells slots (vx_MQ below Qc XC args s mc ms free) (F0 m pc ls rest) q := by
  intro T hT X
  have hpl : e.platform.magicAccessors = ({} : Platform).magicAccessors := by rw [X.admits.platform]
  obtain ⟨vm', hW', X', st⟩ := Jvm.Stand.outThrough X hlocks q (g := F0 m pc ls rest) rfl rfl rfl (cell := ce) (by rw [hT]; exact hcell) (by rw [hv]; rfl)
    (by obtain ⟨k9, h9, -⟩ := Vm.findClass_spec hcl; exact ⟨k9, h9⟩) (fun z hz => by
      rcases hpass z hz with h | ⟨hz0, nm, hl1, hn1⟩
      · exact Or.inl h
      · obtain ⟨c6, hc6, hcl6⟩ := Cond.classLink_spec hown hl1 e.platform hpl
        obtain ⟨a8, b8, h1, h2, h3⟩ := hn1
        cases Option.some.inj (h1.symm.trans hcl)
        cases Option.some.inj (h2.symm.trans hc6)
        exact Or.inr ⟨hz0, _, hcl6, h3⟩)
  obtain ⟨g₀, hfr⟩ := X'.frames_eq
  have hcell9 : ((T.setVm vm').setFrames (.throwing q :: below)).heap[q]? = some ce := by
    show T.heap[q]? = some ce
    rw [hT]; exact hcell
  have hend : Ended ((T.setVm vm').setFrames (.throwing q :: below)) below (.threw q) := State.frames_setFrames _ (State.cur_lt_of_frames hfr)
  refine ⟨(T.setVm vm').setFrames (.throwing q :: below), ?_, .threw q, X'.here.running, hend, Or.inr ⟨q, rfl, E, ce, locs, hx _ hT (X'.ends _).1.alike, hcell9, hv, hcl, (X'.ends _).1, (X'.ends _).2.mono hc hs, hf⟩⟩
  rw [X.pushThrowing_eq]
  exact st
/-- a thing of a world lies in the heap -/
theorem vx_lt {D : va_G} {cl : List vw_C} {ws : va_W} {H1 : Heap} (h : va_P D cl ws H1) {k : Nat} {q : Nat × va_E} (hk : ws[k]? = some q) : q.1 < H1.size := (h k q hk).lt
end VXS
/-! ===== END ===== -/
/-! ===== BEGIN methods with a table of their own: called by a name, returning or throwing ===== -/
section VXH
/-! vx_backW, vx_callVX, vx_callSX, vx_callVW, vx_runVW, vx_runVX, vx_runSX, vx_ofWH follow the same proofs as their sisters above (Free/Laws.lean, Shelf42/LK1.lean); vx_outP calls Shelf42/NT130.lean (outThrough). -/
section
variable {l : Launch} {R : Room} {p : Program} {e : Env} {below : List Frame} {s : State} {sargs : Array Value} {y : MethodName} {len W9 : Nat}
theorem vx_backW {ws : List Cond} {rm : Room} {Pc : Array Value → State → Prop} {Qc : Array Value → State → Outcome → State → Prop} {XC : String → State → State → Prop} {mc ms : Nat} {free : Addr → Prop} {bytes : ByteArray} {maxL : Nat} {ret : Option FieldType} {hh : List (Nat × Nat × Nat × Nat)}
    (hM : vx_Met l y ws rm Pc Qc XC mc ms free) (hblind : FrameBlind Pc) (hrc : rm.cells = mc) (hrs : rm.slots = ms)
    (hframes : rm.frames + 1 ≤ R.frames) (hlocals : W9 + (maxL + 11) + rm.locals ≤ R.locals)
    (hws : ∀ w ∈ ws, ∀ a' U, s.WarmedH U.vm → w.before a' U = true) (hcode : Cond.codeWith y bytes maxL ret hh ∈ ws) (hinit : ∀ a' U, s.WarmedH U.vm → (Cond.initialized y.cls).before a' U = true) :
    vx_Back l R p e below s sargs y len W9 (PreOf R mc ms Pc) (PostOf Qc mc ms free) (vx_Post XC mc ms free) := by
  intro m meth c A g ig mk a X hg hsize hdg hW hn hp
  have h1 : (headSpec ws rm).pre.before a A.U = true := atoms_intro fun w hw => hws w hw _ _ X.warmed
  have h2 : (Cond.codeWith y bytes maxL ret hh).before a A.U = true := hws _ hcode _ _ X.warmed
  have h3 : (Cond.initialized y.cls).before a A.U = true := hinit _ _ X.warmed
  have h4 : A.cells + (headSpec ws rm).room.cells ≤ R.cells := by rw [show (headSpec ws rm).room.cells = mc from hrc]; exact hp.1
  have h5 : A.slots + (headSpec ws rm).room.slots ≤ R.slots := by rw [show (headSpec ws rm).room.slots = ms from hrs]; exact hp.2.1
  have hPc : Pc a (A.U.calling g mk a) := hblind _ _ _ _ hp.2.2
  obtain ⟨U, Ls, c0, s0⟩ := A
  dsimp only [Pt.U, Pt.locs, Pt.cells, Pt.slots] at h1 h2 h3 h4 h5 X hn hPc ⊢
  obtain ⟨m9, methY, cY, hn9, hmY, hcY, -, hlY, -⟩ := Cond.codeWith_spec h2
  cases Option.some.inj (hn9.symm.trans hn)
  obtain ⟨kY, hkY, -⟩ := className_of_methodNamed hn
  have hinitY : kY.init = .initialized := Cond.initialized_spec (findClass_of_methodNamed hn) hkY h3
  have h : At U g.method c below := by rw [hg]; exact X.here
  have hlocals9 : W9 + (maxL + 11) + (headSpec ws rm).room.locals ≤ R.locals := hlocals
  have happ : (headSpec ws rm).appliesLoose y e.platform (U.calling g mk a) = true :=
    Spec.appliesLoose_calling (g := g) h hdg hn hkY hinitY
      (X.room_calling (g := g) (R' := (headSpec ws rm).room) hsize hmY hcY hframes (by rw [hlY]; omega) h4 h5) h1
  obtain ⟨mid, hmid⟩ := h.above
  have hfr : (U.setTop g).frames = (.java g :: mid) ++ below := by rw [State.frames_setTop' g h.top, hmid]; rfl
  obtain ⟨o, s₂, hsteps, -, hend, hq⟩ := Steps.callFree hM p X.admits X.cas X.clock (acts := []) hfr happ hPc trivial
  have hq' : vx_Q Qc XC mc ms free a (U.calling g mk a) o s₂ := hq
  rw [State.frames_setTop' g h.top] at hend
  obtain ⟨g₀, hg0⟩ := Option.isSome_iff_exists.mp h.top
  obtain ⟨r, hr⟩ := State.topJava?_eq_some.mp hg0
  have hr' : (({ U with heap := s₂.heap, slotsUsed := s₂.slotsUsed } : State).setVm s₂.vm).frames = .java g₀ :: r := hr
  rcases hq' with ⟨hqc, L, hfe, hL⟩ | ⟨q, rfl, E, ce, L, hx, hce, hcv, hcl, hW₂, hsm, hL⟩
  · obtain ⟨⟨v, rfl⟩, hW₂, e2, q2, q3, q4, q5, q6⟩ := id hfe
    have e3 : s₂ = ({ (U.calling g mk a).setFrames s₂.frames with heap := s₂.heap, slotsUsed := s₂.slotsUsed } : State).setVm s₂.vm := by
      have : s₂ = ({ s₂ with vm := (U.calling g mk a).vm } : State).setVm s₂.vm := rfl
      rw [e2] at this
      exact this
    obtain ⟨c₂, i₂, len₂, hc₂, hd₂, hf₂⟩ := hend
    have hW' : U.WarmedH s₂.vm := hW₂
    have hcc : c₂ = c := by
      have h1 : s₂.code? g.method = U.code? g.method := by
        rw [State.code?_eq, State.code?_eq, hW'.alike.method?]
      exact Option.some.inj (hc₂.symm.trans (h1.trans h.code))
    subst hcc
    have hlen : len₂ = len := by rw [hdg] at hd₂; cases hd₂; rfl
    subst hlen
    have hs₂ : s₂ = (({ U with heap := s₂.heap, slotsUsed := s₂.slotsUsed } : State).setVm s₂.vm).setTop { g with pc := g.pc + len₂, stack := v.toList ++ g.stack } := by
      refine e3.trans ?_
      rw [hf₂, State.calling_eq h.top, State.setFrames_setFrames, State.setTop_of_frames _ hr', hr]
      rfl
    have hsame : U.sameButNew ({ U with heap := s₂.heap, slotsUsed := s₂.slotsUsed } : State) L mc ms := by
      refine ⟨?_, q2, q3, q4, q5, q6⟩
      obtain ⟨t, ht, -⟩ := State.frames_cons hr
      show ({ U with heap := s₂.heap, slotsUsed := s₂.slotsUsed } : State) = { U.setFrames U.frames with heap := s₂.heap, slotsUsed := s₂.slotsUsed }
      rw [State.setFrames_self ht]
    subst hg
    refine Or.inl ⟨v, ⟨(({ U with heap := s₂.heap, slotsUsed := s₂.slotsUsed } : State).setVm s₂.vm), Ls ++ L, c0 + mc, s0 + ms⟩,
      ⟨X.admits, X.cas, X.clock, X.frames, X.room, X.hears, X.method, X.code, (X.here.setHeapUsed s₂.heap s₂.slotsUsed).setVm hW'.alike, X.tail, State.WarmedH.trans X.warmed hW', X.limits, X.bytes, X.same.trans (hsame.setVm s.vm)⟩,
      ⟨g, mk, s₂, L, rfl, rfl, hqc, rfl, hL, rfl, rfl⟩, ?_⟩
    show Steps p.tables e below _ ((({ U with heap := s₂.heap, slotsUsed := s₂.slotsUsed } : State).setVm s₂.vm).setTop { g with pc := g.pc + len₂, stack := v.toList ++ g.stack })
    rw [← hs₂]
    exact hsteps
  · obtain ⟨e2, q2, q3, q4, q5, q6⟩ := id hsm
    have e3 : s₂ = ({ (U.calling g mk a).setFrames s₂.frames with heap := s₂.heap, slotsUsed := s₂.slotsUsed } : State).setVm s₂.vm := by
      have : s₂ = ({ s₂ with vm := (U.calling g mk a).vm } : State).setVm s₂.vm := rfl
      rw [e2] at this
      exact this
    have hf₂ : s₂.frames = .throwing q :: .java g :: U.frames.tail := hend
    have hW' : U.WarmedH s₂.vm := hW₂
    have hs₂ : s₂ = ((({ U with heap := s₂.heap, slotsUsed := s₂.slotsUsed } : State).setVm s₂.vm).setTop g).pushFrame (.throwing q) := by
      refine e3.trans ?_
      rw [hf₂, State.calling_eq h.top, State.setFrames_setFrames, State.pushFrame, State.frames_setTop _ hr', State.setTop_of_frames _ hr', State.setFrames_setFrames, hr]
      rfl
    have hsame : U.sameButNew ({ U with heap := s₂.heap, slotsUsed := s₂.slotsUsed } : State) L mc ms := by
      refine ⟨?_, q2, q3, q4, q5, q6⟩
      obtain ⟨t, ht, -⟩ := State.frames_cons hr
      show ({ U with heap := s₂.heap, slotsUsed := s₂.slotsUsed } : State) = { U.setFrames U.frames with heap := s₂.heap, slotsUsed := s₂.slotsUsed }
      rw [State.setFrames_self ht]
    subst hg
    refine Or.inr ⟨q, ⟨(({ U with heap := s₂.heap, slotsUsed := s₂.slotsUsed } : State).setVm s₂.vm), Ls ++ L, c0 + mc, s0 + ms⟩,
      ⟨X.admits, X.cas, X.clock, X.frames, X.room, X.hears, X.method, X.code, (X.here.setHeapUsed s₂.heap s₂.slotsUsed).setVm hW'.alike, X.tail, State.WarmedH.trans X.warmed hW', X.limits, X.bytes, X.same.trans (hsame.setVm s.vm)⟩,
      ⟨g, mk, s₂, L, E, ce, rfl, rfl, hx, hce, hcv, hcl, rfl, hL, rfl, rfl⟩, ?_⟩
    show Steps p.tables e below _ (((({ U with heap := s₂.heap, slotsUsed := s₂.slotsUsed } : State).setVm s₂.vm).setTop g).pushFrame (.throwing q))
    rw [← hs₂]
    exact hsteps
end
variable {p : Program} {l : Launch} {e : Env} {R : Room} {s : State} {m : MethodId} {args : Array Value} {below : List Frame} {meth : Method} {c : Code} {T : State} {H : Heap} {locs : List Loc} {cells slots : Nat}
theorem vx_callVX (X : Stand p l e R s m args below meth c T locs cells slots) (hexec : p.tables.exec = Jvm.exec) {own C : String} {index : Nat} {y : MethodName} {bytes : ByteArray} {maxL : Nat} {ret : Option FieldType} {hh : List (Nat × Nat × Nat × Nat)}
    (hown : s.vm.findClass own = some m.cls) (hlink : (Cond.methodLink own index y).before args s = true) (hinst : (Cond.instanceMethod y).before args s = true) (hsel : (Cond.selects C y y).before args s = true)
    (hcode : (Cond.codeWith y bytes maxL ret hh).before args s = true) (hy : y.cls ≠ "java/lang/invoke/MethodHandle" ∧ y.cls ≠ "java/lang/invoke/VarHandle")
    {W9 : Nat} {Pre : Pt → Array Value → Prop} {Post : Pt → Array Value → Option Value → Pt → Prop} {PostX : Pt → Array Value → Addr → Pt → Prop} (hK : vx_Back l R p e below s args y 3 W9 Pre Post PostX)
    {b : Addr} {cellB : Cell} (hcell : T.heap[b]? = some cellB) (hobj : cellB.vm.isStatics = false) (hcls : s.vm.findClass C = some cellB.cls)
    {g : JFrame} (hg : g.method = m) (hsize : g.locals.size = c.maxLocals) {argsL rest : List Value} (hlen : ∀ sig, parseMethodDescriptor y.desc = some sig → argsL.length = sig.parameters.length)
    (hstack : g.stack = argsL.reverse ++ .ref b :: rest) (hW : 2 * g.monitorRoom + (rest.map fun v => v.category).sum ≤ W9) (hdg : decode c.code g.pc = .ok (.invokevirtual index, 3))
    (hpre : ∀ vm₁, s.WarmedH vm₁ → Pre ⟨T.setVm vm₁, locs, cells, slots⟩ (Value.ref b :: argsL).toArray) :
    (∃ (v : Option Value) (vm₁ : Vm) (B : Pt), s.WarmedH vm₁ ∧ Stand p l e R s m args below meth c B.U B.locs B.cells B.slots ∧ Post ⟨T.setVm vm₁, locs, cells, slots⟩ (Value.ref b :: argsL).toArray v B ∧
      ∀ target, Steps p.tables e below (B.U.setTop { g with pc := g.pc + 3, stack := v.toList ++ rest }) target → Steps p.tables e below (T.setTop g) target) ∨
    (∃ (q : Addr) (vm₁ : Vm) (B : Pt), s.WarmedH vm₁ ∧ Stand p l e R s m args below meth c B.U B.locs B.cells B.slots ∧ PostX ⟨T.setVm vm₁, locs, cells, slots⟩ (Value.ref b :: argsL).toArray q B ∧
      Steps p.tables e below (T.setTop g) ((B.U.setTop { g with stack := rest }).pushFrame (.throwing q))) := by
  obtain ⟨mk, methM, hnamed, hmethM, hstM, habM⟩ := Cond.instanceMethod_spec hinst
  obtain ⟨m8, methM', cM, hn8, hmethM', -, -, -, -, -, -, hsigM⟩ := Cond.codeWith_spec hcode
  cases Option.some.inj (hn8.symm.trans hnamed)
  cases hmethM.symm.trans hmethM'
  obtain ⟨c2, r2, m2, q1, q2, q3, q4, kP, hkP, hkPi⟩ := Cond.selects_spec hsel
  cases hcls.symm.trans q1
  cases (State.methodFound?_of_named hnamed hy).symm.trans q2
  cases hnamed.symm.trans q3
  have hselP : selectMethod e.platform s.vm cellB.cls mk = .method mk := by rw [Launch.admits_selectMethod X.admits]; exact q4
  obtain ⟨vm₁, X₁, hstep₁⟩ := X.invokevirtual hexec hown hlink hnamed hmethM hstM hkP hkPi hy (a := b) (cell := cellB) hcell
    (fun z h => by rw [h] at hobj; cases hobj) hselP hmethM habM hkP hkPi (g := g) hg (argsL := argsL) (rest := rest) (hlen _ hsigM) hstack hdg
  rcases hK m meth c ⟨T.setVm vm₁, locs, cells, slots⟩ { g with stack := rest } (.invokevirtual index) mk (Value.ref b :: argsL).toArray X₁ hg hsize hdg hW (X₁.named hnamed) (hpre vm₁ X₁.warmed) with ⟨v, B, X', hpost, hsteps⟩ | ⟨q, B, X', hpost, hsteps⟩
  · exact Or.inl ⟨v, vm₁, B, X₁.warmed, X', hpost, fun target h => hstep₁ _ fun acts => by rw [doInvoke_state]; exact hsteps.trans h⟩
  · exact Or.inr ⟨q, vm₁, B, X₁.warmed, X', hpost, hstep₁ _ fun acts => by rw [doInvoke_state]; exact hsteps⟩
theorem vx_callSX (X : Stand p l e R s m args below meth c T locs cells slots) (hexec : p.tables.exec = Jvm.exec) {own : String} {index : Nat} {y : MethodName} {bytes : ByteArray} {maxL : Nat} {ret : Option FieldType} {hh : List (Nat × Nat × Nat × Nat)}
    (hown : s.vm.findClass own = some m.cls) (hlink : (Cond.methodLink own index y).before args s = true) (hstat : (Cond.static y).before args s = true) (hinit : (Cond.initialized y.cls).before args s = true)
    (hcode : (Cond.codeWith y bytes maxL ret hh).before args s = true) (hy : y.cls ≠ "java/lang/invoke/MethodHandle" ∧ y.cls ≠ "java/lang/invoke/VarHandle")
    {W9 : Nat} {Pre : Pt → Array Value → Prop} {Post : Pt → Array Value → Option Value → Pt → Prop} {PostX : Pt → Array Value → Addr → Pt → Prop} (hK : vx_Back l R p e below s args y 3 W9 Pre Post PostX)
    {g : JFrame} (hg : g.method = m) (hsize : g.locals.size = c.maxLocals) {argsL rest : List Value} (hlen : ∀ sig, parseMethodDescriptor y.desc = some sig → argsL.length = sig.parameters.length)
    (hstack : g.stack = argsL.reverse ++ rest) (hW : 2 * g.monitorRoom + (rest.map fun v => v.category).sum ≤ W9) (hdg : decode c.code g.pc = .ok (.invokestatic index, 3))
    (hpre : ∀ vm₁, s.WarmedH vm₁ → Pre ⟨T.setVm vm₁, locs, cells, slots⟩ argsL.toArray) :
    (∃ (v : Option Value) (vm₁ : Vm) (B : Pt), s.WarmedH vm₁ ∧ Stand p l e R s m args below meth c B.U B.locs B.cells B.slots ∧ Post ⟨T.setVm vm₁, locs, cells, slots⟩ argsL.toArray v B ∧
      ∀ target, Steps p.tables e below (B.U.setTop { g with pc := g.pc + 3, stack := v.toList ++ rest }) target → Steps p.tables e below (T.setTop g) target) ∨
    (∃ (q : Addr) (vm₁ : Vm) (B : Pt), s.WarmedH vm₁ ∧ Stand p l e R s m args below meth c B.U B.locs B.cells B.slots ∧ PostX ⟨T.setVm vm₁, locs, cells, slots⟩ argsL.toArray q B ∧
      Steps p.tables e below (T.setTop g) ((B.U.setTop { g with stack := rest }).pushFrame (.throwing q))) := by
  obtain ⟨mk, methM, cM, hnamed, hmethM, -, -, -, -, -, -, hsigM⟩ := Cond.codeWith_spec hcode
  have hstatic : methM.isStatic = true := Cond.static_spec hnamed hmethM hstat
  obtain ⟨kP, hkP, -⟩ := className_of_methodNamed hnamed
  have hinitP : kP.init = .initialized := Cond.initialized_spec (findClass_of_methodNamed hnamed) hkP hinit
  obtain ⟨vm₁, X₁, hstep₁⟩ := X.invokestatic hexec hown hlink hnamed hmethM hstatic hkP hinitP hy (g := g) hg (argsL := argsL) (rest := rest) (hlen _ hsigM) hstack hdg
  rcases hK m meth c ⟨T.setVm vm₁, locs, cells, slots⟩ { g with stack := rest } (.invokestatic index) mk argsL.toArray X₁ hg hsize hdg hW (X₁.named hnamed) (hpre vm₁ X₁.warmed) with ⟨v, B, X', hpost, hsteps⟩ | ⟨q, B, X', hpost, hsteps⟩
  · exact Or.inl ⟨v, vm₁, B, X₁.warmed, X', hpost, fun target h => hstep₁ _ fun acts => by rw [doInvoke_state]; exact hsteps.trans h⟩
  · exact Or.inr ⟨q, vm₁, B, X₁.warmed, X', hpost, hstep₁ _ fun acts => by rw [doInvoke_state]; exact hsteps⟩
theorem vx_callVW (X : Stand p l e R s m args below meth c T locs cells slots) (hexec : p.tables.exec = Jvm.exec) {own C : String} {index : Nat} {y : MethodName} {bytes : ByteArray} {maxL : Nat} {ret : Option FieldType} {hh : List (Nat × Nat × Nat × Nat)}
    (hown : s.vm.findClass own = some m.cls) (hlink : (Cond.methodLink own index y).before args s = true) (hinst : (Cond.instanceMethod y).before args s = true) (hsel : (Cond.selects C y y).before args s = true)
    (hcode : (Cond.codeWith y bytes maxL ret hh).before args s = true) (hy : y.cls ≠ "java/lang/invoke/MethodHandle" ∧ y.cls ≠ "java/lang/invoke/VarHandle")
    {W9 : Nat} {Pre : Pt → Array Value → Prop} {Post : Pt → Array Value → Option Value → Pt → Prop} (hK : Back l R p e below s args y 3 W9 Pre Post)
    {b : Addr} {cellB : Cell} (hcell : T.heap[b]? = some cellB) (hobj : cellB.vm.isStatics = false) (hcls : s.vm.findClass C = some cellB.cls)
    {g : JFrame} (hg : g.method = m) (hsize : g.locals.size = c.maxLocals) {argsL rest : List Value} (hlen : ∀ sig, parseMethodDescriptor y.desc = some sig → argsL.length = sig.parameters.length)
    (hstack : g.stack = argsL.reverse ++ .ref b :: rest) (hW : 2 * g.monitorRoom + (rest.map fun v => v.category).sum ≤ W9) (hdg : decode c.code g.pc = .ok (.invokevirtual index, 3))
    (hpre : ∀ vm₁, s.WarmedH vm₁ → Pre ⟨T.setVm vm₁, locs, cells, slots⟩ (Value.ref b :: argsL).toArray) :
    ∃ (v : Option Value) (vm₁ : Vm) (B : Pt), s.WarmedH vm₁ ∧ Stand p l e R s m args below meth c B.U B.locs B.cells B.slots ∧ Post ⟨T.setVm vm₁, locs, cells, slots⟩ (Value.ref b :: argsL).toArray v B ∧
      ∀ target, Steps p.tables e below (B.U.setTop { g with pc := g.pc + 3, stack := v.toList ++ rest }) target → Steps p.tables e below (T.setTop g) target := by
  obtain ⟨mk, methM, hnamed, hmethM, hstM, habM⟩ := Cond.instanceMethod_spec hinst
  obtain ⟨m8, methM', cM, hn8, hmethM', -, -, -, -, -, -, hsigM⟩ := Cond.codeWith_spec hcode
  cases Option.some.inj (hn8.symm.trans hnamed)
  cases hmethM.symm.trans hmethM'
  obtain ⟨c2, r2, m2, q1, q2, q3, q4, kP, hkP, hkPi⟩ := Cond.selects_spec hsel
  cases hcls.symm.trans q1
  cases (State.methodFound?_of_named hnamed hy).symm.trans q2
  cases hnamed.symm.trans q3
  have hselP : selectMethod e.platform s.vm cellB.cls mk = .method mk := by rw [Launch.admits_selectMethod X.admits]; exact q4
  obtain ⟨vm₁, X₁, hstep₁⟩ := X.invokevirtual hexec hown hlink hnamed hmethM hstM hkP hkPi hy (a := b) (cell := cellB) hcell
    (fun z h => by rw [h] at hobj; cases hobj) hselP hmethM habM hkP hkPi (g := g) hg (argsL := argsL) (rest := rest) (hlen _ hsigM) hstack hdg
  obtain ⟨v, B, X', hpost, hsteps⟩ := hK m meth c ⟨T.setVm vm₁, locs, cells, slots⟩ { g with stack := rest } (.invokevirtual index) mk (Value.ref b :: argsL).toArray X₁ hg hsize hdg hW (X₁.named hnamed) (hpre vm₁ X₁.warmed)
  exact ⟨v, vm₁, B, X₁.warmed, X', hpost, fun target h => hstep₁ _ fun acts => by rw [doInvoke_state]; exact hsteps.trans h⟩
abbrev vx_CVW (R : Room) (s : State) (args : Array Value) (own C : String) (index : Nat) (y : MethodName) (bytes : ByteArray) (maxL : Nat) (ret : Option FieldType) (hh : List (Nat × Nat × Nat × Nat)) (ws : List Cond) (rm : Room) (mc ms n : Nat) : Prop :=
  (rm.cells = mc ∧ rm.slots = ms ∧ rm.frames + 1 ≤ R.frames ∧ 8 + (maxL + 11) + rm.locals ≤ R.locals ∧ (∀ w ∈ ws, ∀ (a' : Array Value) (U : State), s.WarmedH U.vm → w.before a' U = true) ∧ Cond.codeWith y bytes maxL ret hh ∈ ws) ∧
  (Cond.codeWith y bytes maxL ret hh).before args s = true ∧ (Cond.initialized y.cls).before args s = true ∧ (y.cls ≠ "java/lang/invoke/MethodHandle" ∧ y.cls ≠ "java/lang/invoke/VarHandle") ∧
  (∀ sig, parseMethodDescriptor y.desc = some sig → n = sig.parameters.length) ∧ (Cond.methodLink own index y).before args s = true ∧ (Cond.instanceMethod y).before args s = true ∧ (Cond.selects C y y).before args s = true
theorem vx_cwVW {own C : String} {index maxL mc ms : Nat} {y : MethodName} {bytes : ByteArray} {ret : Option FieldType} {hh : List (Nat × Nat × Nat × Nat)} {Ts ws ws' : List Cond} {rm : Room} (n : Nat) (ht : ∀ w ∈ Ts, w.before args s = true) (hT : GoodIn Ts (wsV own index C y ws)) (hw : ws = Cond.codeWith y bytes maxL ret hh :: ws') (hrc : rm.cells = mc) (hrs : rm.slots = ms)
    (hd : y.cls = C ∧ y.cls ≠ "java/lang/invoke/MethodHandle" ∧ y.cls ≠ "java/lang/invoke/VarHandle" ∧ (parseMethodDescriptor y.desc).map (fun d => d.parameters.length) = some n) (hR : rm.frames + 1 ≤ R.frames ∧ 8 + (maxL + 11) + rm.locals ≤ R.locals) :
    vx_CVW R s args own C index y bytes maxL ret hh ws rm mc ms n := by
  obtain ⟨hC, hd⟩ := hd
  subst hC
  have ok : ∀ w ∈ wsV own index y.cls y ws, w.before args s = true := fun w h => ht w (hT w h).1
  have hG : GoodIn Ts ws := fun w h => hT w (by unfold wsV; exact List.mem_append_right _ h)
  have hc : Cond.codeWith y bytes maxL ret hh ∈ ws := by rw [hw]; exact List.mem_cons_self
  refine ⟨⟨hrc, hrs, hR.1, hR.2, pay_in ht hG, hc⟩, ht _ (hG _ hc).1, ok _ (by simp [wsV]), ⟨hd.1, hd.2.1⟩, fun sig h => ?_, ok _ (by simp [wsV]), ok _ (by simp [wsV]), ok _ (by simp [wsV])⟩
  have h2 := hd.2.2
  rw [h] at h2
  exact (Option.some.inj h2).symm
theorem vx_runVW {y : MethodName} {bytes cc : ByteArray} {maxL nL mc ms n index : Nat} {ret : Option FieldType} {hh : List (Nat × Nat × Nat × Nat)} {ws : List Cond} {rm : Room} {Pc : Array Value → State → Prop} {Qc : Array Value → State → Outcome → State → Prop} {free : Addr → Prop} {Ts : List Cond} {own C : String} {b : Addr} {As rest : List Value} {g : JFrame}
    (S : CallFix p m c cc nL s args Ts own) (hM : Met l y ws rm Pc Qc mc ms free) (cw : vx_CVW R s args own C index y bytes maxL ret hh ws rm mc ms n) (hp : PreV s H C b Pc As)
    (hg : g.method = m) (hn : As.length = n) (hsize : g.locals.size = nL) (hstack : g.stack = As.reverse ++ .ref b :: rest) (hW : 2 * g.monitorRoom + (rest.map fun v => v.category).sum ≤ 8) (hdg : decode cc g.pc = .ok (.invokevirtual index, 3)) (hf : cells + mc ≤ R.cells ∧ slots + ms ≤ R.slots) :
    va_Run p l e R s m args below meth c H locs cells slots mc ms g rest (Qc (Value.ref b :: As).toArray) free := by
  obtain ⟨⟨hrc, hrs, hfr, hlo, hws, hcw⟩, hcode, hini, hy, hlen, hl, hin, hse⟩ := cw
  have hK : Back l R p e below s args y 3 8 (PreOf R mc ms Pc) (PostOf Qc mc ms free) := va_backW (hh := hh) (bytes := bytes) (maxL := maxL) (ret := ret) hM hp.1 hrc hrs hfr hlo hws hcw (fun a' U hW => word_at hW (Or.inl (by first | rfl | simp [Cond.onTables, Cond.keeps, Cond.steady])) hini)
  obtain ⟨hx, hb, hml, ho, -⟩ := S
  obtain ⟨-, ⟨cellB, hcB, hoB, hclB⟩, hPc⟩ := hp
  intro T hT X
  obtain ⟨v, vm₁, ⟨U', l2, c2, s2⟩, hW₁, X', ⟨g', mk, t, L, e1, e2, hq, h1, hL, h2, h3⟩, st⟩ := vx_callVW X hx (C := C) (hh := hh) (bytes := bytes) (maxL := maxL) (ret := ret) ho hl hin hse hcode hy hK (by rw [hT]; exact hcB) hoB hclB hg (hsize.trans hml.symm) (argsL := As) (rest := rest) (fun sig h => hn.trans (hlen sig h)) hstack hW (by rw [hb]; exact hdg)
    (fun vm₁ hW₁ => ⟨hf.1, hf.2, hPc (T.setVm vm₁) hT hW₁⟩)
  dsimp only [Pt.U, Pt.locs, Pt.cells, Pt.slots] at X' e1 e2 h1 h2 h3 st
  subst h1; subst h2; subst h3
  exact ⟨v, (T.setVm vm₁).calling g' mk (Value.ref b :: As).toArray, t, U', L, hT, X', hL, e1, e2, hq, st⟩
section
variable {y : MethodName} {bytes cc : ByteArray} {maxL nL mc ms n index : Nat} {ret : Option FieldType} {ws : List Cond} {rm : Room} {Pc : Array Value → State → Prop} {Qc : Array Value → State → Outcome → State → Prop} {XC : String → State → State → Prop} {free : Addr → Prop} {Ts : List Cond} {own C : String} {b : Addr} {As rest : List Value} {g : JFrame}
theorem vx_runVX {hh : List (Nat × Nat × Nat × Nat)} (S : CallFix p m c cc nL s args Ts own) (hM : vx_Met l y ws rm Pc Qc XC mc ms free) (cw : vx_CVW R s args own C index y bytes maxL ret hh ws rm mc ms n) (hp : PreV s H C b Pc As)
    (hg : g.method = m) (hn : As.length = n) (hsize : g.locals.size = nL) (hstack : g.stack = As.reverse ++ .ref b :: rest) (hW : 2 * g.monitorRoom + (rest.map fun v => v.category).sum ≤ 8) (hdg : decode cc g.pc = .ok (.invokevirtual index, 3)) (hf : cells + mc ≤ R.cells ∧ slots + ms ≤ R.slots) :
    vx_Run p l e R s m args below meth c H locs cells slots mc ms g rest (Qc (Value.ref b :: As).toArray) XC free := by
  obtain ⟨⟨hrc, hrs, hfr, hlo, hws, hcw⟩, hcode, hini, hy, hlen, hl, hin, hse⟩ := cw
  have hK : vx_Back l R p e below s args y 3 8 (PreOf R mc ms Pc) (PostOf Qc mc ms free) (vx_Post XC mc ms free) := vx_backW (hh := hh) (bytes := bytes) (maxL := maxL) (ret := ret) hM hp.1 hrc hrs hfr hlo hws hcw (fun a' U hW => word_at hW (Or.inl (by first | rfl | simp [Cond.onTables, Cond.keeps, Cond.steady])) hini)
  obtain ⟨hx, hb, hml, ho, -⟩ := S
  obtain ⟨-, ⟨cellB, hcB, hoB, hclB⟩, hPc⟩ := hp
  intro T hT X
  rcases vx_callVX X hx (C := C) (hh := hh) (bytes := bytes) (maxL := maxL) (ret := ret) ho hl hin hse hcode hy hK (by rw [hT]; exact hcB) hoB hclB hg (hsize.trans hml.symm) (argsL := As) (rest := rest) (fun sig h => hn.trans (hlen sig h)) hstack hW (by rw [hb]; exact hdg)
    (fun vm₁ hW₁ => ⟨hf.1, hf.2, hPc (T.setVm vm₁) hT hW₁⟩) with ⟨v, vm₁, ⟨U', l2, c2, s2⟩, hW₁, X', ⟨g', mk, t, L, e1, e2, hq, h1, hL, h2, h3⟩, st⟩ | ⟨q, vm₁, ⟨U', l2, c2, s2⟩, hW₁, X', ⟨g', mk, t, L, E, ce, e1, e2, hq, hce, hcv, hcl, h1, hL, h2, h3⟩, st⟩
  · dsimp only [Pt.U, Pt.locs, Pt.cells, Pt.slots] at X' e1 e2 h1 h2 h3 st
    subst h1; subst h2; subst h3
    exact Or.inl ⟨v, (T.setVm vm₁).calling g' mk (Value.ref b :: As).toArray, t, U', L, hT, X', hL, e1, e2, hq, st⟩
  · dsimp only [Pt.U, Pt.locs, Pt.cells, Pt.slots] at X' e1 e2 h1 h2 h3 st hcl
    subst h1; subst h2; subst h3
    exact Or.inr ⟨q, (T.setVm vm₁).calling g' mk (Value.ref b :: As).toArray, t, U', L, E, ce, hT, X', hL, e1, e2, hq, hce, hcv, vx_cls hW₁ hcl, st⟩
theorem vx_runSX {hh : List (Nat × Nat × Nat × Nat)} (S : CallFix p m c cc nL s args Ts own) (hM : vx_Met l y ws rm Pc Qc XC mc ms free) (cw : vx_CSW R s args own index y bytes maxL ret hh ws rm mc ms n) (hp : PreS s H Pc As)
    (hg : g.method = m) (hn : As.length = n) (hsize : g.locals.size = nL) (hstack : g.stack = As.reverse ++ rest) (hW : 2 * g.monitorRoom + (rest.map fun v => v.category).sum ≤ 8) (hdg : decode cc g.pc = .ok (.invokestatic index, 3)) (hf : cells + mc ≤ R.cells ∧ slots + ms ≤ R.slots) :
    vx_Run p l e R s m args below meth c H locs cells slots mc ms g rest (Qc As.toArray) XC free := by
  obtain ⟨⟨hrc, hrs, hfr, hlo, hws, hcw⟩, hcode, hini, hy, hlen, hl, hstt⟩ := cw
  have hK : vx_Back l R p e below s args y 3 8 (PreOf R mc ms Pc) (PostOf Qc mc ms free) (vx_Post XC mc ms free) := vx_backW (hh := hh) (bytes := bytes) (maxL := maxL) (ret := ret) hM hp.1 hrc hrs hfr hlo hws hcw (fun a' U hW => word_at hW (Or.inl (by first | rfl | simp [Cond.onTables, Cond.keeps, Cond.steady])) hini)
  obtain ⟨hx, hb, hml, ho, -⟩ := S
  intro T hT X
  rcases vx_callSX X hx (hh := hh) (bytes := bytes) (maxL := maxL) (ret := ret) ho hl hstt hini hcode hy hK hg (hsize.trans hml.symm) (argsL := As) (rest := rest) (fun sig h => hn.trans (hlen sig h)) hstack hW (by rw [hb]; exact hdg)
    (fun vm₁ hW₁ => ⟨hf.1, hf.2, hp.2 (T.setVm vm₁) hT hW₁⟩) with ⟨v, vm₁, ⟨U', l2, c2, s2⟩, hW₁, X', ⟨g', mk, t, L, e1, e2, hq, h1, hL, h2, h3⟩, st⟩ | ⟨q, vm₁, ⟨U', l2, c2, s2⟩, hW₁, X', ⟨g', mk, t, L, E, ce, e1, e2, hq, hce, hcv, hcl, h1, hL, h2, h3⟩, st⟩
  · dsimp only [Pt.U, Pt.locs, Pt.cells, Pt.slots] at X' e1 e2 h1 h2 h3 st
    subst h1; subst h2; subst h3
    exact Or.inl ⟨v, (T.setVm vm₁).calling g' mk As.toArray, t, U', L, hT, X', hL, e1, e2, hq, st⟩
  · dsimp only [Pt.U, Pt.locs, Pt.cells, Pt.slots] at X' e1 e2 h1 h2 h3 st hcl
    subst h1; subst h2; subst h3
    exact Or.inr ⟨q, (T.setVm vm₁).calling g' mk As.toArray, t, U', L, E, ce, hT, X', hL, e1, e2, hq, hce, hcv, vx_cls hW₁ hcl, st⟩
end
end VXH
theorem vx_ofWH {l : Launch} {y : MethodName} {ws ws' : List Cond} {rm : Room} {Pc : Array Value → State → Prop} {Qc : Array Value → State → Outcome → State → Prop} {XC : String → State → State → Prop} {mc ms : Nat} {free : Addr → Prop} {cc : ByteArray} {maxL : Nat} {ret : Option FieldType} {hh : List (Nat × Nat × Nat × Nat)}
    (hy : plainName y.cls = true) (hw : ws = Cond.codeWith y cc maxL ret hh :: ws')
    (body : ∀ p e s m args below meth c s₁, BodyLoose p l y (headSpec ws rm) cc maxL ret e s m args below meth c s₁ → c.maxLocals = maxL → Pc args s →
      W p l e (headSpec ws rm).room s m args below meth c s.heap [] 0 0 (vx_MQ below Qc XC args s mc ms free) (entryFrame m args maxL)) : vx_Met l y ws rm Pc Qc XC mc ms free := by
  refine MetFree.of_bodyS (code := cc) (maxLocals := maxL) (ret := ret) hy ?_ ?_
  · intro args s m h hn
    obtain ⟨m9, meth, c, hn9, h1, h2, h3, h4, -, h5, h6, -⟩ := Cond.codeWith_spec (atoms_spec (ws := ws) h _ (by rw [hw]; exact List.mem_cons_self))
    cases hn.symm.trans hn9
    exact ⟨meth, c, h1, h2, h3, h4, h5, h6⟩
  · intro p e s m args below meth c s₁ B hml hP _
    have hh0 : s₁.heap = s.heap := by rw [B.state]; rfl
    obtain ⟨t, a1, o, b1, b2, b3⟩ := body p e s m args below meth c s₁ B hml hP s₁ hh0 (Stand.of_body B)
    exact ⟨t, o, a1, b1, b2, b3⟩
/-! ===== END ===== -/
end
section
/-! ===== BEGIN printed: names, fields, word lists, decode rows ===== -/
def RX0 : String := "HouseManner$Habit"
def TX0 : u_T := fun k => match k with
  | 0 => ("HouseManner$Habit", "tests", "I", false)
  | 1 => ("HouseManner$Habit", "first", "I", false)
  | 2 => ("HouseManner$Habit", "firstChoice", "I", false)
  | 3 => ("HouseManner$Habit", "second", "I", false)
  | 4 => ("HouseManner$Habit", "secondChoice", "I", false)
  | 5 => ("HouseManner$Habit", "last", "I", false)
  | 6 => ("HouseManner$Habit", "cost", "I", false)
  | _ => ("HouseManner$Habit", "exceptions", "I", false)
def tyX0 : Nat → FieldType := fun k => match k with
  | 0 => .int
  | 1 => .int
  | 2 => .int
  | 3 => .int
  | 4 => .int
  | 5 => .int
  | 6 => .int
  | _ => .int
abbrev wsX00 : List Cond := u_ws RX0 TX0 8
theorem nmX0 : ∀ a, a < 8 → ∀ b, b < 8 → a ≠ b → (TX0 a).2.1 ≠ (TX0 b).2.1 := by decide +kernel
theorem tyX0_ok : ∀ k, k < 8 → parseFieldDescriptor (TX0 k).2.2.1 = some (tyX0 k) := by decide +kernel
abbrev cX0_init : ByteArray := prog_2_method_1_code
def yX0_init : MethodName := ⟨RX0, "<init>", "()V"⟩
abbrev cX0_setFirst : ByteArray := prog_2_method_2_code
def yX0_setFirst : MethodName := ⟨RX0, "setFirst", "(II)V"⟩
abbrev cX0_setSecond : ByteArray := prog_2_method_3_code
def yX0_setSecond : MethodName := ⟨RX0, "setSecond", "(II)V"⟩
abbrev cX0_setRest : ByteArray := prog_2_method_4_code
def yX0_setRest : MethodName := ⟨RX0, "setRest", "(IIII)V"⟩
abbrev cX0_tells : ByteArray := prog_2_method_5_code
def yX0_tells : MethodName := ⟨RX0, "tells", "(II)I"⟩
abbrev cX0_tell : ByteArray := prog_2_method_6_code
def yX0_tell : MethodName := ⟨RX0, "tell", "(I)I"⟩
def RX1 : String := "HouseManner$Maker"
def TX1 : u_T := fun k => match k with
  | 0 => ("HouseManner$Maker", "made", "[B", true)
  | 1 => ("HouseManner$Maker", "length", "I", false)
  | _ => ("HouseManner$Maker", "parts", "I", false)
def tyX1 : Nat → FieldType := fun k => match k with
  | 0 => .array .byte
  | 1 => .int
  | _ => .int
abbrev wsX10 : List Cond := u_ws RX1 TX1 3
theorem nmX1 : ∀ a, a < 3 → ∀ b, b < 3 → a ≠ b → (TX1 a).2.1 ≠ (TX1 b).2.1 := by decide +kernel
theorem tyX1_ok : ∀ k, k < 3 → parseFieldDescriptor (TX1 k).2.2.1 = some (tyX1 k) := by decide +kernel
abbrev cX1_init : ByteArray := prog_3_method_1_code
def yX1_init : MethodName := ⟨RX1, "<init>", "()V"⟩
abbrev cX1_make : ByteArray := prog_3_method_2_code
def yX1_make : MethodName := ⟨RX1, "make", "([BIII)V"⟩
abbrev cX1_startPart : ByteArray := prog_3_method_3_code
def yX1_startPart : MethodName := ⟨RX1, "startPart", "(II)V"⟩
abbrev cX1_put : ByteArray := prog_3_method_4_code
def yX1_put : MethodName := ⟨RX1, "put", "(I)V"⟩
def RX2 : String := "HouseManner$Out"
def TX2 : u_T := fun k => match k with
  | 0 => ("HouseManner$Out", "row", "[B", true)
  | 1 => ("HouseManner$Out", "length", "I", false)
  | _ => ("HouseManner$Out", "spilled", "Z", false)
def tyX2 : Nat → FieldType := fun k => match k with
  | 0 => .array .byte
  | 1 => .int
  | _ => .boolean
abbrev wsX20 : List Cond := u_ws RX2 TX2 3
theorem nmX2 : ∀ a, a < 3 → ∀ b, b < 3 → a ≠ b → (TX2 a).2.1 ≠ (TX2 b).2.1 := by decide +kernel
theorem tyX2_ok : ∀ k, k < 3 → parseFieldDescriptor (TX2 k).2.2.1 = some (tyX2 k) := by decide +kernel
abbrev cX2_init : ByteArray := prog_4_method_1_code
def yX2_init : MethodName := ⟨RX2, "<init>", "()V"⟩
abbrev cX2_clear : ByteArray := prog_4_method_2_code
def yX2_clear : MethodName := ⟨RX2, "clear", "()V"⟩
abbrev cX2_put : ByteArray := prog_4_method_3_code
def yX2_put : MethodName := ⟨RX2, "put", "(I)V"⟩
abbrev cX2_putAll : ByteArray := prog_4_method_4_code
def yX2_putAll : MethodName := ⟨RX2, "putAll", "([BII)V"⟩
abbrev cX2_putGap : ByteArray := prog_4_method_5_code
def yX2_putGap : MethodName := ⟨RX2, "putGap", "(II)V"⟩
def RX3 : String := "HouseManner$Reader"
def TX3 : u_T := fun k => match k with
  | 0 => ("HouseManner$Reader", "open", "[I", true)
  | 1 => ("HouseManner$Reader", "opened", "I", false)
  | 2 => ("HouseManner$Reader", "blocks", "I", false)
  | 3 => ("HouseManner$Reader", "tooDeep", "Z", false)
  | 4 => ("HouseManner$Reader", "next", "I", false)
  | 5 => ("HouseManner$Reader", "owner", "I", false)
  | 6 => ("HouseManner$Reader", "statements", "I", false)
  | 7 => ("HouseManner$Reader", "place", "I", false)
  | 8 => ("HouseManner$Reader", "start", "I", false)
  | 9 => ("HouseManner$Reader", "end", "I", false)
  | _ => ("HouseManner$Reader", "sign", "I", false)
def tyX3 : Nat → FieldType := fun k => match k with
  | 0 => .array .int
  | 1 => .int
  | 2 => .int
  | 3 => .boolean
  | 4 => .int
  | 5 => .int
  | 6 => .int
  | 7 => .int
  | 8 => .int
  | 9 => .int
  | _ => .int
abbrev wsX30 : List Cond := u_ws RX3 TX3 11
theorem nmX3 : ∀ a, a < 11 → ∀ b, b < 11 → a ≠ b → (TX3 a).2.1 ≠ (TX3 b).2.1 := by decide +kernel
theorem tyX3_ok : ∀ k, k < 11 → parseFieldDescriptor (TX3 k).2.2.1 = some (tyX3 k) := by decide +kernel
abbrev cX3_init : ByteArray := prog_5_method_1_code
def yX3_init : MethodName := ⟨RX3, "<init>", "()V"⟩
abbrev cX3_read : ByteArray := prog_5_method_2_code
def yX3_read : MethodName := ⟨RX3, "read", "(LHouseManner$Text;)I"⟩
abbrev cX3_faultAt : ByteArray := prog_5_method_3_code
def yX3_faultAt : MethodName := ⟨RX3, "faultAt", "(II)I"⟩
abbrev cX3_mayEnd : ByteArray := prog_5_method_4_code
def yX3_mayEnd : MethodName := ⟨RX3, "mayEnd", "()Z"⟩
abbrev cX3_isTooMuch : ByteArray := prog_5_method_5_code
def yX3_isTooMuch : MethodName := ⟨RX3, "isTooMuch", "(LHouseManner$Text;)Z"⟩
abbrev cX3_scan : ByteArray := prog_5_method_6_code
def yX3_scan : MethodName := ⟨RX3, "scan", "(LHouseManner$Text;)V"⟩
abbrev cX3_wordEnd : ByteArray := prog_5_method_7_code
def yX3_wordEnd : MethodName := ⟨RX3, "wordEnd", "(LHouseManner$Text;)I"⟩
abbrev cX3_digitsEnd : ByteArray := prog_5_method_8_code
def yX3_digitsEnd : MethodName := ⟨RX3, "digitsEnd", "(LHouseManner$Text;)I"⟩
abbrev cX3_isBlank : ByteArray := prog_5_method_9_code
def yX3_isBlank : MethodName := ⟨RX3, "isBlank", "(I)Z"⟩
abbrev cX3_isOfWord : ByteArray := prog_5_method_10_code
def yX3_isOfWord : MethodName := ⟨RX3, "isOfWord", "(I)Z"⟩
abbrev cX3_isSign : ByteArray := prog_5_method_11_code
def yX3_isSign : MethodName := ⟨RX3, "isSign", "(I)Z"⟩
abbrev cX3_stands : ByteArray := prog_5_method_12_code
def yX3_stands : MethodName := ⟨RX3, "stands", "()Z"⟩
abbrev cX3_expect : ByteArray := prog_5_method_13_code
def yX3_expect : MethodName := ⟨RX3, "expect", "(ZI)Z"⟩
abbrev cX3_startStatement : ByteArray := prog_5_method_14_code
def yX3_startStatement : MethodName := ⟨RX3, "startStatement", "()Z"⟩
abbrev cX3_ownStatement : ByteArray := prog_5_method_15_code
def yX3_ownStatement : MethodName := ⟨RX3, "ownStatement", "(II)Z"⟩
abbrev cX3_startPart : ByteArray := prog_5_method_16_code
def yX3_startPart : MethodName := ⟨RX3, "startPart", "()Z"⟩
abbrev cX3_goOnBehindPart : ByteArray := prog_5_method_17_code
def yX3_goOnBehindPart : MethodName := ⟨RX3, "goOnBehindPart", "()Z"⟩
abbrev cX3_startBlock : ByteArray := prog_5_method_18_code
def yX3_startBlock : MethodName := ⟨RX3, "startBlock", "(I)Z"⟩
abbrev cX3_innermost : ByteArray := prog_5_method_19_code
def yX3_innermost : MethodName := ⟨RX3, "innermost", "()I"⟩
abbrev cX3_push : ByteArray := prog_5_method_20_code
def yX3_push : MethodName := ⟨RX3, "push", "(I)Z"⟩
abbrev cX3_endBracket : ByteArray := prog_5_method_21_code
def yX3_endBracket : MethodName := ⟨RX3, "endBracket", "()Z"⟩
abbrev cX3_endBlock : ByteArray := prog_5_method_22_code
def yX3_endBlock : MethodName := ⟨RX3, "endBlock", "()Z"⟩
def RX4 : String := "HouseManner$Tally"
def TX4 : u_T := fun k => match k with
  | 0 => ("HouseManner$Tally", "wrongOfAll", "[I", true)
  | 1 => ("HouseManner$Tally", "wrongOfTwo", "[I", true)
  | 2 => ("HouseManner$Tally", "testPrice", "I", false)
  | _ => ("HouseManner$Tally", "exceptionPrice", "I", false)
def tyX4 : Nat → FieldType := fun k => match k with
  | 0 => .array .int
  | 1 => .array .int
  | 2 => .int
  | _ => .int
abbrev wsX40 : List Cond := u_ws RX4 TX4 4
theorem nmX4 : ∀ a, a < 4 → ∀ b, b < 4 → a ≠ b → (TX4 a).2.1 ≠ (TX4 b).2.1 := by decide +kernel
theorem tyX4_ok : ∀ k, k < 4 → parseFieldDescriptor (TX4 k).2.2.1 = some (tyX4 k) := by decide +kernel
abbrev cX4_init : ByteArray := prog_6_method_1_code
def yX4_init : MethodName := ⟨RX4, "<init>", "()V"⟩
abbrev cX4_clear : ByteArray := prog_6_method_2_code
def yX4_clear : MethodName := ⟨RX4, "clear", "()V"⟩
abbrev cX4_count : ByteArray := prog_6_method_3_code
def yX4_count : MethodName := ⟨RX4, "count", "(III)V"⟩
abbrev cX4_countWrong : ByteArray := prog_6_method_4_code
def yX4_countWrong : MethodName := ⟨RX4, "countWrong", "(II)V"⟩
abbrev cX4_wrong : ByteArray := prog_6_method_5_code
def yX4_wrong : MethodName := ⟨RX4, "wrong", "(III)I"⟩
abbrev cX4_wrongWhere : ByteArray := prog_6_method_6_code
def yX4_wrongWhere : MethodName := ⟨RX4, "wrongWhere", "(II)I"⟩
abbrev cX4_wrongWhereBoth : ByteArray := prog_6_method_7_code
def yX4_wrongWhereBoth : MethodName := ⟨RX4, "wrongWhereBoth", "(III)I"⟩
abbrev cX4_wrongBySecond : ByteArray := prog_6_method_8_code
def yX4_wrongBySecond : MethodName := ⟨RX4, "wrongBySecond", "(III)I"⟩
abbrev cX4_wrongByLast : ByteArray := prog_6_method_9_code
def yX4_wrongByLast : MethodName := ⟨RX4, "wrongByLast", "(III)I"⟩
abbrev cX4_search : ByteArray := prog_6_method_10_code
def yX4_search : MethodName := ⟨RX4, "search", "(LHouseManner$Habit;II)V"⟩
abbrev cX4_weighTwo : ByteArray := prog_6_method_11_code
def yX4_weighTwo : MethodName := ⟨RX4, "weighTwo", "(LHouseManner$Habit;I)V"⟩
abbrev cX4_weigh : ByteArray := prog_6_method_12_code
def yX4_weigh : MethodName := ⟨RX4, "weigh", "(LHouseManner$Habit;III)V"⟩
abbrev cX4_isCheaper : ByteArray := prog_6_method_13_code
def yX4_isCheaper : MethodName := ⟨RX4, "isCheaper", "(II)Z"⟩
def RX5 : String := "HouseManner$Text"
def TX5 : u_T := fun k => match k with
  | 0 => ("HouseManner$Text", "bytes", "[B", true)
  | 1 => ("HouseManner$Text", "starts", "[I", true)
  | 2 => ("HouseManner$Text", "ends", "[I", true)
  | 3 => ("HouseManner$Text", "signs", "[I", true)
  | 4 => ("HouseManner$Text", "depths", "[I", true)
  | 5 => ("HouseManner$Text", "owners", "[I", true)
  | 6 => ("HouseManner$Text", "kinds", "[I", true)
  | 7 => ("HouseManner$Text", "choices", "[I", true)
  | 8 => ("HouseManner$Text", "there", "Z", false)
  | 9 => ("HouseManner$Text", "length", "I", false)
  | 10 => ("HouseManner$Text", "hand", "I", false)
  | 11 => ("HouseManner$Text", "count", "I", false)
  | _ => ("HouseManner$Text", "statements", "I", false)
def tyX5 : Nat → FieldType := fun k => match k with
  | 0 => .array .byte
  | 1 => .array .int
  | 2 => .array .int
  | 3 => .array .int
  | 4 => .array .int
  | 5 => .array .int
  | 6 => .array .int
  | 7 => .array .int
  | 8 => .boolean
  | 9 => .int
  | 10 => .int
  | 11 => .int
  | _ => .int
abbrev wsX50 : List Cond := u_ws RX5 TX5 13
theorem nmX5 : ∀ a, a < 13 → ∀ b, b < 13 → a ≠ b → (TX5 a).2.1 ≠ (TX5 b).2.1 := by decide +kernel
theorem tyX5_ok : ∀ k, k < 13 → parseFieldDescriptor (TX5 k).2.2.1 = some (tyX5 k) := by decide +kernel
abbrev cX5_init : ByteArray := prog_7_method_1_code
def yX5_init : MethodName := ⟨RX5, "<init>", "()V"⟩
abbrev cX5_start : ByteArray := prog_7_method_2_code
def yX5_start : MethodName := ⟨RX5, "start", "([BII)V"⟩
abbrev cX5_byteAt : ByteArray := prog_7_method_3_code
def yX5_byteAt : MethodName := ⟨RX5, "byteAt", "(I)I"⟩
abbrev cX5_isFull : ByteArray := prog_7_method_4_code
def yX5_isFull : MethodName := ⟨RX5, "isFull", "()Z"⟩
abbrev cX5_addToken : ByteArray := prog_7_method_5_code
def yX5_addToken : MethodName := ⟨RX5, "addToken", "(IIIII)V"⟩
abbrev cX5_gapCount : ByteArray := prog_7_method_6_code
def yX5_gapCount : MethodName := ⟨RX5, "gapCount", "()I"⟩
abbrev cX5_seeGaps : ByteArray := prog_7_method_7_code
def yX5_seeGaps : MethodName := ⟨RX5, "seeGaps", "()V"⟩
abbrev cX5_kindBetween : ByteArray := prog_7_method_8_code
def yX5_kindBetween : MethodName := ⟨RX5, "kindBetween", "(II)I"⟩
abbrev cX5_kindInStatement : ByteArray := prog_7_method_9_code
def yX5_kindInStatement : MethodName := ⟨RX5, "kindInStatement", "(II)I"⟩
abbrev cX5_choiceBetween : ByteArray := prog_7_method_10_code
def yX5_choiceBetween : MethodName := ⟨RX5, "choiceBetween", "(III)I"⟩
abbrev cX5_testsAt : ByteArray := prog_7_method_11_code
def yX5_testsAt : MethodName := ⟨RX5, "testsAt", "(I)I"⟩
abbrev cX5_countGaps : ByteArray := prog_7_method_12_code
def yX5_countGaps : MethodName := ⟨RX5, "countGaps", "(II)I"⟩
abbrev cX5_sameToken : ByteArray := prog_7_method_13_code
def yX5_sameToken : MethodName := ⟨RX5, "sameToken", "(ILHouseManner$Text;I)Z"⟩
def RX6 : String := "HouseManner"
def TX6 : u_T := fun k => match k with
  | 0 => ("HouseManner", "tape", "[B", true)
  | 1 => ("HouseManner", "taped", "I", false)
  | 2 => ("HouseManner", "texts", "[LHouseManner$Text;", true)
  | 3 => ("HouseManner", "spare", "LHouseManner$Text;", false)
  | 4 => ("HouseManner", "reader", "LHouseManner$Reader;", true)
  | 5 => ("HouseManner", "latestFault", "I", false)
  | 6 => ("HouseManner", "latestPlace", "I", false)
  | 7 => ("HouseManner", "testPrice", "I", false)
  | 8 => ("HouseManner", "exceptionPrice", "I", false)
  | 9 => ("HouseManner", "tallies", "[LHouseManner$Tally;", true)
  | 10 => ("HouseManner", "style", "[LHouseManner$Habit;", true)
  | 11 => ("HouseManner", "styled", "Z", false)
  | 12 => ("HouseManner", "out", "LHouseManner$Out;", true)
  | 13 => ("HouseManner", "outOf", "I", false)
  | 14 => ("HouseManner", "maker", "LHouseManner$Maker;", true)
  | 15 => ("HouseManner", "madeStarts", "[I", true)
  | _ => ("HouseManner", "madeEnds", "[I", true)
def tyX6 : Nat → FieldType := fun k => match k with
  | 0 => .array .byte
  | 1 => .int
  | 2 => .array (.object "HouseManner$Text")
  | 3 => .object "HouseManner$Text"
  | 4 => .object "HouseManner$Reader"
  | 5 => .int
  | 6 => .int
  | 7 => .int
  | 8 => .int
  | 9 => .array (.object "HouseManner$Tally")
  | 10 => .array (.object "HouseManner$Habit")
  | 11 => .boolean
  | 12 => .object "HouseManner$Out"
  | 13 => .int
  | 14 => .object "HouseManner$Maker"
  | 15 => .array .int
  | _ => .array .int
abbrev wsX60 : List Cond := u_ws RX6 TX6 17
theorem nmX6 : ∀ a, a < 17 → ∀ b, b < 17 → a ≠ b → (TX6 a).2.1 ≠ (TX6 b).2.1 := by decide +kernel
theorem tyX6_ok : ∀ k, k < 17 → parseFieldDescriptor (TX6 k).2.2.1 = some (tyX6 k) := by decide +kernel
abbrev cX6_init : ByteArray := prog_1_method_1_code
def yX6_init : MethodName := ⟨RX6, "<init>", "()V"⟩
abbrev cX6_feed : ByteArray := prog_1_method_2_code
def yX6_feed : MethodName := ⟨RX6, "feed", "(IIIII)I"⟩
abbrev cX6_tapeNumber : ByteArray := prog_1_method_3_code
def yX6_tapeNumber : MethodName := ⟨RX6, "tapeNumber", "(I)V"⟩
abbrev cX6_text : ByteArray := prog_1_method_4_code
def yX6_text : MethodName := ⟨RX6, "text", "(III)I"⟩
abbrev cX6_replaceText : ByteArray := prog_1_method_5_code
def yX6_replaceText : MethodName := ⟨RX6, "replaceText", "(II[BI)I"⟩
abbrev cX6_forgetOutOf : ByteArray := prog_1_method_6_code
def yX6_forgetOutOf : MethodName := ⟨RX6, "forgetOutOf", "(I)V"⟩
abbrev cX6_fault : ByteArray := prog_1_method_7_code
def yX6_fault : MethodName := ⟨RX6, "fault", "(I)I"⟩
abbrev cX6_drop : ByteArray := prog_1_method_8_code
def yX6_drop : MethodName := ⟨RX6, "drop", "(I)Z"⟩
abbrev cX6_isTextNumber : ByteArray := prog_1_method_9_code
def yX6_isTextNumber : MethodName := ⟨RX6, "isTextNumber", "(I)Z"⟩
abbrev cX6_existing : ByteArray := prog_1_method_10_code
def yX6_existing : MethodName := ⟨RX6, "existing", "(I)LHouseManner$Text;"⟩
abbrev cX6_about : ByteArray := prog_1_method_11_code
def yX6_about : MethodName := ⟨RX6, "about", "(II)I"⟩
abbrev cX6_gap : ByteArray := prog_1_method_12_code
def yX6_gap : MethodName := ⟨RX6, "gap", "(III)I"⟩
abbrev cX6_seen : ByteArray := prog_1_method_13_code
def yX6_seen : MethodName := ⟨RX6, "seen", "(II)I"⟩
abbrev cX6_price : ByteArray := prog_1_method_14_code
def yX6_price : MethodName := ⟨RX6, "price", "(II)I"⟩
abbrev cX6_find : ByteArray := prog_1_method_15_code
def yX6_find : MethodName := ⟨RX6, "find", "()I"⟩
abbrev cX6_tallyAllTexts : ByteArray := prog_1_method_16_code
def yX6_tallyAllTexts : MethodName := ⟨RX6, "tallyAllTexts", "()V"⟩
abbrev cX6_tallyText : ByteArray := prog_1_method_17_code
def yX6_tallyText : MethodName := ⟨RX6, "tallyText", "(LHouseManner$Text;)V"⟩
abbrev cX6_habit : ByteArray := prog_1_method_18_code
def yX6_habit : MethodName := ⟨RX6, "habit", "(II)I"⟩
abbrev cX6_exception : ByteArray := prog_1_method_19_code
def yX6_exception : MethodName := ⟨RX6, "exception", "(II)I"⟩
abbrev cX6_toldAt : ByteArray := prog_1_method_20_code
def yX6_toldAt : MethodName := ⟨RX6, "toldAt", "(LHouseManner$Text;I)I"⟩
abbrev cX6_keptApart : ByteArray := prog_1_method_21_code
def yX6_keptApart : MethodName := ⟨RX6, "keptApart", "(II)I"⟩
abbrev cX6_lay : ByteArray := prog_1_method_22_code
def yX6_lay : MethodName := ⟨RX6, "lay", "(I)I"⟩
abbrev cX6_clearOut : ByteArray := prog_1_method_23_code
def yX6_clearOut : MethodName := ⟨RX6, "clearOut", "()V"⟩
abbrev cX6_endOut : ByteArray := prog_1_method_24_code
def yX6_endOut : MethodName := ⟨RX6, "endOut", "(II)I"⟩
abbrev cX6_turn : ByteArray := prog_1_method_25_code
def yX6_turn : MethodName := ⟨RX6, "turn", "(II)I"⟩
abbrev cX6_turnName : ByteArray := prog_1_method_26_code
def yX6_turnName : MethodName := ⟨RX6, "turnName", "(LHouseManner$Text;II)Z"⟩
abbrev cX6_meetsUnlikeName : ByteArray := prog_1_method_27_code
def yX6_meetsUnlikeName : MethodName := ⟨RX6, "meetsUnlikeName", "(LHouseManner$Text;I)Z"⟩
abbrev cX6_house : ByteArray := prog_1_method_28_code
def yX6_house : MethodName := ⟨RX6, "house", "()I"⟩
abbrev cX6_countMade : ByteArray := prog_1_method_29_code
def yX6_countMade : MethodName := ⟨RX6, "countMade", "(LHouseManner$Text;I)I"⟩
abbrev cX6_told : ByteArray := prog_1_method_30_code
def yX6_told : MethodName := ⟨RX6, "told", "(I)I"⟩
abbrev cX6_take : ByteArray := prog_1_method_31_code
def yX6_take : MethodName := ⟨RX6, "take", "(I)Z"⟩
abbrev cX6_alike : ByteArray := prog_1_method_32_code
def yX6_alike : MethodName := ⟨RX6, "alike", "(II)Z"⟩
abbrev cX6_same : ByteArray := prog_1_method_33_code
def yX6_same : MethodName := ⟨RX6, "same", "([BII[BII)Z"⟩
abbrev cX6_wordSort : ByteArray := prog_1_method_34_code
def yX6_wordSort : MethodName := ⟨RX6, "wordSort", "([BII)I"⟩
abbrev cX6_spells : ByteArray := prog_1_method_35_code
def yX6_spells : MethodName := ⟨RX6, "spells", "([BIILjava/lang/String;)Z"⟩
abbrev cX6_isGreat : ByteArray := prog_1_method_36_code
def yX6_isGreat : MethodName := ⟨RX6, "isGreat", "(I)Z"⟩
abbrev cX6_isSmall : ByteArray := prog_1_method_37_code
def yX6_isSmall : MethodName := ⟨RX6, "isSmall", "(I)Z"⟩
abbrev cX6_isDigit : ByteArray := prog_1_method_38_code
def yX6_isDigit : MethodName := ⟨RX6, "isDigit", "(I)Z"⟩
abbrev cX6_isOperator : ByteArray := prog_1_method_39_code
def yX6_isOperator : MethodName := ⟨RX6, "isOperator", "(I)Z"⟩
def RX7 : String := "HouseMannerModel"
def TX7 : u_T := fun k => match k with
  | 0 => ("HouseMannerModel", "thrown", "I", false)
  | 1 => ("HouseMannerModel", "tape", "[I", true)
  | 2 => ("HouseMannerModel", "taped", "I", false)
  | 3 => ("HouseMannerModel", "faultKind", "I", false)
  | 4 => ("HouseMannerModel", "faultPlace", "I", false)
  | 5 => ("HouseMannerModel", "isText", "[Z", true)
  | 6 => ("HouseMannerModel", "bytes", "[I", true)
  | 7 => ("HouseMannerModel", "sizes", "[I", true)
  | 8 => ("HouseMannerModel", "hands", "[I", true)
  | 9 => ("HouseMannerModel", "tokens", "[I", true)
  | 10 => ("HouseMannerModel", "statements", "[I", true)
  | 11 => ("HouseMannerModel", "begins", "[I", true)
  | 12 => ("HouseMannerModel", "longs", "[I", true)
  | 13 => ("HouseMannerModel", "sorts", "[I", true)
  | 14 => ("HouseMannerModel", "depths", "[I", true)
  | 15 => ("HouseMannerModel", "of", "[I", true)
  | 16 => ("HouseMannerModel", "hasStyle", "Z", false)
  | 17 => ("HouseMannerModel", "prices", "[I", true)
  | 18 => ("HouseMannerModel", "habits", "[I", true)
  | 19 => ("HouseMannerModel", "out", "[I", true)
  | 20 => ("HouseMannerModel", "outs", "I", false)
  | 21 => ("HouseMannerModel", "outOf", "I", false)
  | 22 => ("HouseMannerModel", "at", "I", false)
  | 23 => ("HouseMannerModel", "place", "I", false)
  | 24 => ("HouseMannerModel", "size", "I", false)
  | 25 => ("HouseMannerModel", "sort", "I", false)
  | 26 => ("HouseMannerModel", "deep", "I", false)
  | 27 => ("HouseMannerModel", "blocks", "I", false)
  | 28 => ("HouseMannerModel", "alikeTests", "[I", true)
  | 29 => ("HouseMannerModel", "alikePair", "[I", true)
  | 30 => ("HouseMannerModel", "alikeMany", "[I", true)
  | 31 => ("HouseMannerModel", "alikes", "I", false)
  | 32 => ("HouseMannerModel", "made", "[I", true)
  | 33 => ("HouseMannerModel", "other", "[I", true)
  | 34 => ("HouseMannerModel", "madeSize", "I", false)
  | _ => ("HouseMannerModel", "madeParts", "I", false)
def tyX7 : Nat → FieldType := fun k => match k with
  | 0 => .int
  | 1 => .array .int
  | 2 => .int
  | 3 => .int
  | 4 => .int
  | 5 => .array .boolean
  | 6 => .array .int
  | 7 => .array .int
  | 8 => .array .int
  | 9 => .array .int
  | 10 => .array .int
  | 11 => .array .int
  | 12 => .array .int
  | 13 => .array .int
  | 14 => .array .int
  | 15 => .array .int
  | 16 => .boolean
  | 17 => .array .int
  | 18 => .array .int
  | 19 => .array .int
  | 20 => .int
  | 21 => .int
  | 22 => .int
  | 23 => .int
  | 24 => .int
  | 25 => .int
  | 26 => .int
  | 27 => .int
  | 28 => .array .int
  | 29 => .array .int
  | 30 => .array .int
  | 31 => .int
  | 32 => .array .int
  | 33 => .array .int
  | 34 => .int
  | _ => .int
abbrev wsX70 : List Cond := u_ws RX7 TX7 36
theorem nmX7 : ∀ a, a < 36 → ∀ b, b < 36 → a ≠ b → (TX7 a).2.1 ≠ (TX7 b).2.1 := by decide +kernel
theorem tyX7_ok : ∀ k, k < 36 → parseFieldDescriptor (TX7 k).2.2.1 = some (tyX7 k) := by decide +kernel
abbrev cX7_init : ByteArray := prog_9_method_1_code
def yX7_init : MethodName := ⟨RX7, "<init>", "()V"⟩
abbrev cX7_thrown : ByteArray := prog_9_method_2_code
def yX7_thrown : MethodName := ⟨RX7, "thrown", "()I"⟩
abbrev cX7_right : ByteArray := prog_9_method_3_code
def yX7_right : MethodName := ⟨RX7, "right", "(ZI)Z"⟩
abbrev cX7_feed : ByteArray := prog_9_method_4_code
def yX7_feed : MethodName := ⟨RX7, "feed", "(IIIII)I"⟩
abbrev cX7_lays : ByteArray := prog_9_method_5_code
def yX7_lays : MethodName := ⟨RX7, "lays", "(I)V"⟩
abbrev cX7_isLetter : ByteArray := prog_9_method_6_code
def yX7_isLetter : MethodName := ⟨RX7, "isLetter", "(I)Z"⟩
abbrev cX7_isDigit : ByteArray := prog_9_method_7_code
def yX7_isDigit : MethodName := ⟨RX7, "isDigit", "(I)Z"⟩
abbrev cX7_byteAt : ByteArray := prog_9_method_8_code
def yX7_byteAt : MethodName := ⟨RX7, "byteAt", "(II)I"⟩
abbrev cX7_look : ByteArray := prog_9_method_9_code
def yX7_look : MethodName := ⟨RX7, "look", "()V"⟩
abbrev cX7_wrong : ByteArray := prog_9_method_10_code
def yX7_wrong : MethodName := ⟨RX7, "wrong", "(I)Z"⟩
abbrev cX7_is : ByteArray := prog_9_method_11_code
def yX7_is : MethodName := ⟨RX7, "is", "(Ljava/lang/String;)Z"⟩
abbrev cX7_isKeyword : ByteArray := prog_9_method_12_code
def yX7_isKeyword : MethodName := ⟨RX7, "isKeyword", "()Z"⟩
abbrev cX7_isName : ByteArray := prog_9_method_13_code
def yX7_isName : MethodName := ⟨RX7, "isName", "()Z"⟩
abbrev cX7_comes : ByteArray := prog_9_method_14_code
def yX7_comes : MethodName := ⟨RX7, "comes", "(I)Z"⟩
abbrev cX7_need : ByteArray := prog_9_method_15_code
def yX7_need : MethodName := ⟨RX7, "need", "(Ljava/lang/String;I)Z"⟩
abbrev cX7_name : ByteArray := prog_9_method_16_code
def yX7_name : MethodName := ⟨RX7, "name", "(I)Z"⟩
abbrev cX7_part : ByteArray := prog_9_method_17_code
def yX7_part : MethodName := ⟨RX7, "part", "(I)Z"⟩
abbrev cX7_expr : ByteArray := prog_9_method_18_code
def yX7_expr : MethodName := ⟨RX7, "expr", "(I)Z"⟩
abbrev cX7_block : ByteArray := prog_9_method_19_code
def yX7_block : MethodName := ⟨RX7, "block", "(I)Z"⟩
abbrev cX7_call : ByteArray := prog_9_method_20_code
def yX7_call : MethodName := ⟨RX7, "call", "()Z"⟩
abbrev cX7_statement : ByteArray := prog_9_method_21_code
def yX7_statement : MethodName := ⟨RX7, "statement", "()Z"⟩
abbrev cX7_reads : ByteArray := prog_9_method_22_code
def yX7_reads : MethodName := ⟨RX7, "reads", "(II)Z"⟩
abbrev cX7_isNumber : ByteArray := prog_9_method_23_code
def yX7_isNumber : MethodName := ⟨RX7, "isNumber", "(I)Z"⟩
abbrev cX7_text : ByteArray := prog_9_method_24_code
def yX7_text : MethodName := ⟨RX7, "text", "(III)I"⟩
abbrev cX7_fault : ByteArray := prog_9_method_25_code
def yX7_fault : MethodName := ⟨RX7, "fault", "(I)I"⟩
abbrev cX7_drop : ByteArray := prog_9_method_26_code
def yX7_drop : MethodName := ⟨RX7, "drop", "(I)Z"⟩
abbrev cX7_isThere : ByteArray := prog_9_method_27_code
def yX7_isThere : MethodName := ⟨RX7, "isThere", "(I)Z"⟩
abbrev cX7_about : ByteArray := prog_9_method_28_code
def yX7_about : MethodName := ⟨RX7, "about", "(II)I"⟩
abbrev cX7_isSign : ByteArray := prog_9_method_29_code
def yX7_isSign : MethodName := ⟨RX7, "isSign", "(III)Z"⟩
abbrev cX7_isWork : ByteArray := prog_9_method_30_code
def yX7_isWork : MethodName := ⟨RX7, "isWork", "(II)Z"⟩
abbrev cX7_kindOf : ByteArray := prog_9_method_31_code
def yX7_kindOf : MethodName := ⟨RX7, "kindOf", "(II)I"⟩
abbrev cX7_choiceOf : ByteArray := prog_9_method_32_code
def yX7_choiceOf : MethodName := ⟨RX7, "choiceOf", "(II)I"⟩
abbrev cX7_testsOf : ByteArray := prog_9_method_33_code
def yX7_testsOf : MethodName := ⟨RX7, "testsOf", "(II)I"⟩
abbrev cX7_isPair : ByteArray := prog_9_method_34_code
def yX7_isPair : MethodName := ⟨RX7, "isPair", "(II)Z"⟩
abbrev cX7_gap : ByteArray := prog_9_method_35_code
def yX7_gap : MethodName := ⟨RX7, "gap", "(III)I"⟩
abbrev cX7_seen : ByteArray := prog_9_method_36_code
def yX7_seen : MethodName := ⟨RX7, "seen", "(II)I"⟩
abbrev cX7_price : ByteArray := prog_9_method_37_code
def yX7_price : MethodName := ⟨RX7, "price", "(II)I"⟩
abbrev cX7_gathers : ByteArray := prog_9_method_38_code
def yX7_gathers : MethodName := ⟨RX7, "gathers", "(I)V"⟩
abbrev cX7_tells : ByteArray := prog_9_method_39_code
def yX7_tells : MethodName := ⟨RX7, "tells", "(IZIIIIII)I"⟩
abbrev cX7_exceptions : ByteArray := prog_9_method_40_code
def yX7_exceptions : MethodName := ⟨RX7, "exceptions", "(IIIIII)I"⟩
abbrev cX7_tries : ByteArray := prog_9_method_41_code
def yX7_tries : MethodName := ⟨RX7, "tries", "(IIIIIII)V"⟩
abbrev cX7_find : ByteArray := prog_9_method_42_code
def yX7_find : MethodName := ⟨RX7, "find", "()I"⟩
abbrev cX7_habit : ByteArray := prog_9_method_43_code
def yX7_habit : MethodName := ⟨RX7, "habit", "(II)I"⟩
abbrev cX7_toldAt : ByteArray := prog_9_method_44_code
def yX7_toldAt : MethodName := ⟨RX7, "toldAt", "(II)I"⟩
abbrev cX7_exception : ByteArray := prog_9_method_45_code
def yX7_exception : MethodName := ⟨RX7, "exception", "(II)I"⟩
abbrev cX7_says : ByteArray := prog_9_method_46_code
def yX7_says : MethodName := ⟨RX7, "says", "(I)Z"⟩
abbrev cX7_none : ByteArray := prog_9_method_47_code
def yX7_none : MethodName := ⟨RX7, "none", "()I"⟩
abbrev cX7_lay : ByteArray := prog_9_method_48_code
def yX7_lay : MethodName := ⟨RX7, "lay", "(I)I"⟩
abbrev cX7_small : ByteArray := prog_9_method_49_code
def yX7_small : MethodName := ⟨RX7, "small", "(I)I"⟩
abbrev cX7_great : ByteArray := prog_9_method_50_code
def yX7_great : MethodName := ⟨RX7, "great", "(I)I"⟩
abbrev cX7_makes : ByteArray := prog_9_method_51_code
def yX7_makes : MethodName := ⟨RX7, "makes", "(III)V"⟩
abbrev cX7_isNameAt : ByteArray := prog_9_method_52_code
def yX7_isNameAt : MethodName := ⟨RX7, "isNameAt", "(II)Z"⟩
abbrev cX7_isWordAt : ByteArray := prog_9_method_53_code
def yX7_isWordAt : MethodName := ⟨RX7, "isWordAt", "(IILjava/lang/String;)Z"⟩
abbrev cX7_isMade : ByteArray := prog_9_method_54_code
def yX7_isMade : MethodName := ⟨RX7, "isMade", "(Ljava/lang/String;)Z"⟩
abbrev cX7_isSame : ByteArray := prog_9_method_55_code
def yX7_isSame : MethodName := ⟨RX7, "isSame", "(IIII)Z"⟩
abbrev cX7_isTaken : ByteArray := prog_9_method_56_code
def yX7_isTaken : MethodName := ⟨RX7, "isTaken", "(III)Z"⟩
abbrev cX7_turn : ByteArray := prog_9_method_57_code
def yX7_turn : MethodName := ⟨RX7, "turn", "(II)I"⟩
abbrev cX7_isAs : ByteArray := prog_9_method_58_code
def yX7_isAs : MethodName := ⟨RX7, "isAs", "(III)Z"⟩
abbrev cX7_house : ByteArray := prog_9_method_59_code
def yX7_house : MethodName := ⟨RX7, "house", "()I"⟩
abbrev cX7_told : ByteArray := prog_9_method_60_code
def yX7_told : MethodName := ⟨RX7, "told", "(I)I"⟩
abbrev cX7_take : ByteArray := prog_9_method_61_code
def yX7_take : MethodName := ⟨RX7, "take", "(I)Z"⟩
abbrev cX7_alike : ByteArray := prog_9_method_62_code
def yX7_alike : MethodName := ⟨RX7, "alike", "(II)Z"⟩
def RJ11 : String := "java/lang/Character"
def TJ11 : u_T := fun k => match k with
  | _ => ("", "", "", false)
def tyJ11 : Nat → FieldType := fun k => match k with
  | _ => .int
abbrev wsJ110 : List Cond := u_ws RJ11 TJ11 0
theorem nmJ11 : ∀ a, a < 0 → ∀ b, b < 0 → a ≠ b → (TJ11 a).2.1 ≠ (TJ11 b).2.1 := by decide +kernel
theorem tyJ11_ok : ∀ k, k < 0 → parseFieldDescriptor (TJ11 k).2.2.1 = some (tyJ11 k) := by decide +kernel
abbrev cJ11_isValidCodePoint_9a6ad : ByteArray := prog_10_method_11_code
def yJ11_isValidCodePoint_9a6ad : MethodName := ⟨RJ11, "isValidCodePoint", "(I)Z"⟩
abbrev cJ11_highSurrogate_5068e : ByteArray := prog_10_method_28_code
def yJ11_highSurrogate_5068e : MethodName := ⟨RJ11, "highSurrogate", "(I)C"⟩
abbrev cJ11_lowSurrogate_5068e : ByteArray := prog_10_method_29_code
def yJ11_lowSurrogate_5068e : MethodName := ⟨RJ11, "lowSurrogate", "(I)C"⟩
def RJ9 : String := "java/lang/Math"
def TJ9 : u_T := fun k => match k with
  | _ => ("", "", "", false)
def tyJ9 : Nat → FieldType := fun k => match k with
  | _ => .int
abbrev wsJ90 : List Cond := u_ws RJ9 TJ9 0
theorem nmJ9 : ∀ a, a < 0 → ∀ b, b < 0 → a ≠ b → (TJ9 a).2.1 ≠ (TJ9 b).2.1 := by decide +kernel
theorem tyJ9_ok : ∀ k, k < 0 → parseFieldDescriptor (TJ9 k).2.2.1 = some (tyJ9 k) := by decide +kernel
abbrev cJ9_max_7cf53 : ByteArray := prog_13_method_65_code
def yJ9_max_7cf53 : MethodName := ⟨RJ9, "max", "(II)I"⟩
abbrev cJ9_min_7cf53 : ByteArray := prog_13_method_69_code
def yJ9_min_7cf53 : MethodName := ⟨RJ9, "min", "(II)I"⟩
def RJ0 : String := "java/lang/String"
def TJ0 : u_T := fun k => match k with
  | _ => ("", "", "", false)
def tyJ0 : Nat → FieldType := fun k => match k with
  | _ => .int
abbrev wsJ00 : List Cond := u_ws RJ0 TJ0 0
theorem nmJ0 : ∀ a, a < 0 → ∀ b, b < 0 → a ≠ b → (TJ0 a).2.1 ≠ (TJ0 b).2.1 := by decide +kernel
theorem tyJ0_ok : ∀ k, k < 0 → parseFieldDescriptor (TJ0 k).2.2.1 = some (tyJ0 k) := by decide +kernel
abbrev cJ0_length_8abf5 : ByteArray := prog_15_method_54_code
def yJ0_length_8abf5 : MethodName := ⟨RJ0, "length", "()I"⟩
abbrev cJ0_charAt_5068e : ByteArray := prog_15_method_56_code
def yJ0_charAt_5068e : MethodName := ⟨RJ0, "charAt", "(I)C"⟩
abbrev cJ0_indexOf_0f7a4 : ByteArray := prog_15_method_79_code
def yJ0_indexOf_0f7a4 : MethodName := ⟨RJ0, "indexOf", "(I)I"⟩
abbrev cJ0_indexOf_7cf53 : ByteArray := prog_15_method_80_code
def yJ0_indexOf_7cf53 : MethodName := ⟨RJ0, "indexOf", "(II)I"⟩
abbrev cJ0_coder_7d493 : ByteArray := prog_15_method_152_code
def yJ0_coder_7d493 : MethodName := ⟨RJ0, "coder", "()B"⟩
abbrev cJ0_isLatin1_aae02 : ByteArray := prog_15_method_154_code
def yJ0_isLatin1_aae02 : MethodName := ⟨RJ0, "isLatin1", "()Z"⟩
abbrev cJ0_checkIndex_df160 : ByteArray := prog_15_method_155_code
def yJ0_checkIndex_df160 : MethodName := ⟨RJ0, "checkIndex", "(II)V"⟩
abbrev cJ0_checkBoundsBeginEnd_23922 : ByteArray := prog_15_method_158_code
def yJ0_checkBoundsBeginEnd_23922 : MethodName := ⟨RJ0, "checkBoundsBeginEnd", "(III)V"⟩
def RJ1 : String := "java/lang/StringLatin1"
def TJ1 : u_T := fun k => match k with
  | _ => ("", "", "", false)
def tyJ1 : Nat → FieldType := fun k => match k with
  | _ => .int
abbrev wsJ10 : List Cond := u_ws RJ1 TJ1 0
theorem nmJ1 : ∀ a, a < 0 → ∀ b, b < 0 → a ≠ b → (TJ1 a).2.1 ≠ (TJ1 b).2.1 := by decide +kernel
theorem tyJ1_ok : ∀ k, k < 0 → parseFieldDescriptor (TJ1 k).2.2.1 = some (tyJ1 k) := by decide +kernel
abbrev cJ1_charAt_3b067 : ByteArray := prog_16_method_2_code
def yJ1_charAt_3b067 : MethodName := ⟨RJ1, "charAt", "([BI)C"⟩
abbrev cJ1_canEncode_9a6ad : ByteArray := prog_16_method_4_code
def yJ1_canEncode_9a6ad : MethodName := ⟨RJ1, "canEncode", "(I)Z"⟩
abbrev cJ1_indexOf_4cfef : ByteArray := prog_16_method_22_code
def yJ1_indexOf_4cfef : MethodName := ⟨RJ1, "indexOf", "([BIII)I"⟩
abbrev cJ1_indexOfChar_4cfef : ByteArray := prog_16_method_23_code
def yJ1_indexOfChar_4cfef : MethodName := ⟨RJ1, "indexOfChar", "([BIII)I"⟩
def RJ2 : String := "java/lang/StringUTF16"
def TJ2 : u_T := fun k => match k with
  | _ => ("", "", "", false)
def tyJ2 : Nat → FieldType := fun k => match k with
  | _ => .int
abbrev wsJ20 : List Cond := u_ws RJ2 TJ2 0
theorem nmJ2 : ∀ a, a < 0 → ∀ b, b < 0 → a ≠ b → (TJ2 a).2.1 ≠ (TJ2 b).2.1 := by decide +kernel
theorem tyJ2_ok : ∀ k, k < 0 → parseFieldDescriptor (TJ2 k).2.2.1 = some (tyJ2 k) := by decide +kernel
abbrev cJ2_getChar_3b067 : ByteArray := prog_17_method_5_code
def yJ2_getChar_3b067 : MethodName := ⟨RJ2, "getChar", "([BI)C"⟩
abbrev cJ2_length_9d52b : ByteArray := prog_17_method_6_code
def yJ2_length_9d52b : MethodName := ⟨RJ2, "length", "([B)I"⟩
abbrev cJ2_indexOf_4cfef : ByteArray := prog_17_method_40_code
def yJ2_indexOf_4cfef : MethodName := ⟨RJ2, "indexOf", "([BIII)I"⟩
abbrev cJ2_indexOfChar_4cfef : ByteArray := prog_17_method_47_code
def yJ2_indexOfChar_4cfef : MethodName := ⟨RJ2, "indexOfChar", "([BIII)I"⟩
abbrev cJ2_indexOfCharUnsafe_4cfef : ByteArray := prog_17_method_48_code
def yJ2_indexOfCharUnsafe_4cfef : MethodName := ⟨RJ2, "indexOfCharUnsafe", "([BIII)I"⟩
abbrev cJ2_indexOfSupplementary_4cfef : ByteArray := prog_17_method_49_code
def yJ2_indexOfSupplementary_4cfef : MethodName := ⟨RJ2, "indexOfSupplementary", "([BIII)I"⟩
abbrev cJ2_charAt_3b067 : ByteArray := prog_17_method_83_code
def yJ2_charAt_3b067 : MethodName := ⟨RJ2, "charAt", "([BI)C"⟩
abbrev cJ2_checkIndex_2214a : ByteArray := prog_17_method_91_code
def yJ2_checkIndex_2214a : MethodName := ⟨RJ2, "checkIndex", "(I[B)V"⟩
abbrev cJ2_checkBoundsBeginEnd_d044e : ByteArray := prog_17_method_93_code
def yJ2_checkBoundsBeginEnd_d044e : MethodName := ⟨RJ2, "checkBoundsBeginEnd", "(II[B)V"⟩
def RJ10 : String := "java/lang/System"
def TJ10 : u_T := fun k => match k with
  | _ => ("", "", "", false)
def tyJ10 : Nat → FieldType := fun k => match k with
  | _ => .int
abbrev wsJ100 : List Cond := u_ws RJ10 TJ10 0
theorem nmJ10 : ∀ a, a < 0 → ∀ b, b < 0 → a ≠ b → (TJ10 a).2.1 ≠ (TJ10 b).2.1 := by decide +kernel
theorem tyJ10_ok : ∀ k, k < 0 → parseFieldDescriptor (TJ10 k).2.2.1 = some (tyJ10 k) := by decide +kernel
def RJ7 : String := "java/util/Arrays"
def TJ7 : u_T := fun k => match k with
  | _ => ("", "", "", false)
def tyJ7 : Nat → FieldType := fun k => match k with
  | _ => .int
abbrev wsJ70 : List Cond := u_ws RJ7 TJ7 0
theorem nmJ7 : ∀ a, a < 0 → ∀ b, b < 0 → a ≠ b → (TJ7 a).2.1 ≠ (TJ7 b).2.1 := by decide +kernel
theorem tyJ7_ok : ∀ k, k < 0 → parseFieldDescriptor (TJ7 k).2.2.1 = some (tyJ7 k) := by decide +kernel
abbrev cJ7_fill_53178 : ByteArray := prog_20_method_103_code
def yJ7_fill_53178 : MethodName := ⟨RJ7, "fill", "([II)V"⟩
def RJ3 : String := "jdk/internal/util/Preconditions"
def TJ3 : u_T := fun k => match k with
  | _ => ("", "", "", false)
def tyJ3 : Nat → FieldType := fun k => match k with
  | _ => .int
abbrev wsJ30 : List Cond := u_ws RJ3 TJ3 0
theorem nmJ3 : ∀ a, a < 0 → ∀ b, b < 0 → a ≠ b → (TJ3 a).2.1 ≠ (TJ3 b).2.1 := by decide +kernel
theorem tyJ3_ok : ∀ k, k < 0 → parseFieldDescriptor (TJ3 k).2.2.1 = some (tyJ3 k) := by decide +kernel
abbrev cJ3_checkIndex_8e157 : ByteArray := prog_22_method_11_code
def yJ3_checkIndex_8e157 : MethodName := ⟨RJ3, "checkIndex", "(IILjava/util/function/BiFunction;)I"⟩
abbrev cJ3_checkFromToIndex_8c36e : ByteArray := prog_22_method_12_code
def yJ3_checkFromToIndex_8c36e : MethodName := ⟨RJ3, "checkFromToIndex", "(IIILjava/util/function/BiFunction;)I"⟩
def RL : String := "HouseMannerLaw"
abbrev cL_text : ByteArray := method_3_code
def yL_text : MethodName := ⟨RL, "text", "(LHouseManner;III[J)I"⟩
abbrev cL_fault : ByteArray := method_4_code
def yL_fault : MethodName := ⟨RL, "fault", "(LHouseManner;I[J)I"⟩
abbrev cL_drop : ByteArray := method_5_code
def yL_drop : MethodName := ⟨RL, "drop", "(LHouseManner;I[J)I"⟩
abbrev cL_about : ByteArray := method_6_code
def yL_about : MethodName := ⟨RL, "about", "(LHouseManner;II[J)I"⟩
abbrev cL_gap : ByteArray := method_7_code
def yL_gap : MethodName := ⟨RL, "gap", "(LHouseManner;III[J)I"⟩
abbrev cL_seen : ByteArray := method_8_code
def yL_seen : MethodName := ⟨RL, "seen", "(LHouseManner;II[J)I"⟩
abbrev cL_price : ByteArray := method_9_code
def yL_price : MethodName := ⟨RL, "price", "(LHouseManner;II[J)I"⟩
abbrev cL_habit : ByteArray := method_10_code
def yL_habit : MethodName := ⟨RL, "habit", "(LHouseManner;II[J)I"⟩
abbrev cL_exception : ByteArray := method_11_code
def yL_exception : MethodName := ⟨RL, "exception", "(LHouseManner;II[J)I"⟩
abbrev cL_lay : ByteArray := method_12_code
def yL_lay : MethodName := ⟨RL, "lay", "(LHouseManner;I[J)I"⟩
abbrev cL_turn : ByteArray := method_13_code
def yL_turn : MethodName := ⟨RL, "turn", "(LHouseManner;II[J)I"⟩
abbrev cL_told : ByteArray := method_14_code
def yL_told : MethodName := ⟨RL, "told", "(LHouseManner;I[J)I"⟩
abbrev cL_take : ByteArray := method_15_code
def yL_take : MethodName := ⟨RL, "take", "(LHouseManner;I[J)I"⟩
abbrev cL_alike : ByteArray := method_16_code
def yL_alike : MethodName := ⟨RL, "alike", "(LHouseManner;II[J)I"⟩
abbrev cL_law : ByteArray := code
def yL_law : MethodName := ⟨RL, "law", "([I)Z"⟩
abbrev vwCl : List vw_C := [(RX0, TX0, 8), (RX1, TX1, 3), (RX2, TX2, 3), (RX3, TX3, 11), (RX4, TX4, 4), (RX5, TX5, 13), (RX6, TX6, 17), (RX7, TX7, 36)]
end
section
theorem dX0_init_0 : decode cX0_init 0 = .ok (.aload_n 0, 1) := by decide +kernel
theorem dX0_init_1 : decode cX0_init 1 = .ok (.invokespecial 3, 3) := by decide +kernel
theorem dX0_init_4 : decode cX0_init 4 = .ok (.aload_n 0, 1) := by decide +kernel
theorem dX0_init_5 : decode cX0_init 5 = .ok (.iconst (-1), 1) := by decide +kernel
theorem dX0_init_6 : decode cX0_init 6 = .ok (.putfield 9, 3) := by decide +kernel
theorem dX0_init_9 : decode cX0_init 9 = .ok (.aload_n 0, 1) := by decide +kernel
theorem dX0_init_10 : decode cX0_init 10 = .ok (.iconst (-1), 1) := by decide +kernel
theorem dX0_init_11 : decode cX0_init 11 = .ok (.putfield 15, 3) := by decide +kernel
theorem dX0_init_14 : decode cX0_init 14 = .ok (.aload_n 0, 1) := by decide +kernel
theorem dX0_init_15 : decode cX0_init 15 = .ok (.iconst (-1), 1) := by decide +kernel
theorem dX0_init_16 : decode cX0_init 16 = .ok (.putfield 18, 3) := by decide +kernel
theorem dX0_init_19 : decode cX0_init 19 = .ok (.aload_n 0, 1) := by decide +kernel
theorem dX0_init_20 : decode cX0_init 20 = .ok (.iconst (-1), 1) := by decide +kernel
theorem dX0_init_21 : decode cX0_init 21 = .ok (.putfield 21, 3) := by decide +kernel
theorem dX0_init_24 : decode cX0_init 24 = .ok (.return_, 1) := by decide +kernel
theorem dX0_setFirst_0 : decode cX0_setFirst 0 = .ok (.aload_n 0, 1) := by decide +kernel
theorem dX0_setFirst_1 : decode cX0_setFirst 1 = .ok (.iload_n 1, 1) := by decide +kernel
theorem dX0_setFirst_2 : decode cX0_setFirst 2 = .ok (.putfield 9, 3) := by decide +kernel
theorem dX0_setFirst_5 : decode cX0_setFirst 5 = .ok (.aload_n 0, 1) := by decide +kernel
theorem dX0_setFirst_6 : decode cX0_setFirst 6 = .ok (.iload_n 2, 1) := by decide +kernel
theorem dX0_setFirst_7 : decode cX0_setFirst 7 = .ok (.putfield 15, 3) := by decide +kernel
theorem dX0_setFirst_10 : decode cX0_setFirst 10 = .ok (.return_, 1) := by decide +kernel
theorem dX0_setSecond_0 : decode cX0_setSecond 0 = .ok (.aload_n 0, 1) := by decide +kernel
theorem dX0_setSecond_1 : decode cX0_setSecond 1 = .ok (.iload_n 1, 1) := by decide +kernel
theorem dX0_setSecond_2 : decode cX0_setSecond 2 = .ok (.putfield 18, 3) := by decide +kernel
theorem dX0_setSecond_5 : decode cX0_setSecond 5 = .ok (.aload_n 0, 1) := by decide +kernel
theorem dX0_setSecond_6 : decode cX0_setSecond 6 = .ok (.iload_n 2, 1) := by decide +kernel
theorem dX0_setSecond_7 : decode cX0_setSecond 7 = .ok (.putfield 21, 3) := by decide +kernel
theorem dX0_setSecond_10 : decode cX0_setSecond 10 = .ok (.return_, 1) := by decide +kernel
theorem dX0_setRest_0 : decode cX0_setRest 0 = .ok (.aload_n 0, 1) := by decide +kernel
theorem dX0_setRest_1 : decode cX0_setRest 1 = .ok (.iload_n 1, 1) := by decide +kernel
theorem dX0_setRest_2 : decode cX0_setRest 2 = .ok (.putfield 24, 3) := by decide +kernel
theorem dX0_setRest_5 : decode cX0_setRest 5 = .ok (.aload_n 0, 1) := by decide +kernel
theorem dX0_setRest_6 : decode cX0_setRest 6 = .ok (.iload_n 2, 1) := by decide +kernel
theorem dX0_setRest_7 : decode cX0_setRest 7 = .ok (.putfield 27, 3) := by decide +kernel
theorem dX0_setRest_10 : decode cX0_setRest 10 = .ok (.aload_n 0, 1) := by decide +kernel
theorem dX0_setRest_11 : decode cX0_setRest 11 = .ok (.iload_n 3, 1) := by decide +kernel
theorem dX0_setRest_12 : decode cX0_setRest 12 = .ok (.putfield 30, 3) := by decide +kernel
theorem dX0_setRest_15 : decode cX0_setRest 15 = .ok (.aload_n 0, 1) := by decide +kernel
theorem dX0_setRest_16 : decode cX0_setRest 16 = .ok (.iload 4, 2) := by decide +kernel
theorem dX0_setRest_18 : decode cX0_setRest 18 = .ok (.putfield 33, 3) := by decide +kernel
theorem dX0_setRest_21 : decode cX0_setRest 21 = .ok (.return_, 1) := by decide +kernel
theorem dX0_tells_0 : decode cX0_tells 0 = .ok (.aload_n 0, 1) := by decide +kernel
theorem dX0_tells_1 : decode cX0_tells 1 = .ok (.getfield 27, 3) := by decide +kernel
theorem dX0_tells_4 : decode cX0_tells 4 = .ok (.istore_n 3, 1) := by decide +kernel
theorem dX0_tells_5 : decode cX0_tells 5 = .ok (.aload_n 0, 1) := by decide +kernel
theorem dX0_tells_6 : decode cX0_tells 6 = .ok (.getfield 24, 3) := by decide +kernel
theorem dX0_tells_9 : decode cX0_tells 9 = .ok (.ifCond .le 23, 3) := by decide +kernel
theorem dX0_tells_12 : decode cX0_tells 12 = .ok (.iload_n 2, 1) := by decide +kernel
theorem dX0_tells_13 : decode cX0_tells 13 = .ok (.aload_n 0, 1) := by decide +kernel
theorem dX0_tells_14 : decode cX0_tells 14 = .ok (.getfield 9, 3) := by decide +kernel
theorem dX0_tells_17 : decode cX0_tells 17 = .ok (.ishr, 1) := by decide +kernel
theorem dX0_tells_18 : decode cX0_tells 18 = .ok (.iconst 1, 1) := by decide +kernel
theorem dX0_tells_19 : decode cX0_tells 19 = .ok (.iand, 1) := by decide +kernel
theorem dX0_tells_20 : decode cX0_tells 20 = .ok (.iconst 1, 1) := by decide +kernel
theorem dX0_tells_21 : decode cX0_tells 21 = .ok (.if_icmp .ne 11, 3) := by decide +kernel
theorem dX0_tells_24 : decode cX0_tells 24 = .ok (.aload_n 0, 1) := by decide +kernel
theorem dX0_tells_25 : decode cX0_tells 25 = .ok (.getfield 15, 3) := by decide +kernel
theorem dX0_tells_28 : decode cX0_tells 28 = .ok (.istore_n 3, 1) := by decide +kernel
theorem dX0_tells_29 : decode cX0_tells 29 = .ok (.goto 28, 3) := by decide +kernel
theorem dX0_tells_32 : decode cX0_tells 32 = .ok (.aload_n 0, 1) := by decide +kernel
theorem dX0_tells_33 : decode cX0_tells 33 = .ok (.getfield 24, 3) := by decide +kernel
theorem dX0_tells_36 : decode cX0_tells 36 = .ok (.iconst 1, 1) := by decide +kernel
theorem dX0_tells_37 : decode cX0_tells 37 = .ok (.if_icmp .le 20, 3) := by decide +kernel
theorem dX0_tells_40 : decode cX0_tells 40 = .ok (.iload_n 2, 1) := by decide +kernel
theorem dX0_tells_41 : decode cX0_tells 41 = .ok (.aload_n 0, 1) := by decide +kernel
theorem dX0_tells_42 : decode cX0_tells 42 = .ok (.getfield 18, 3) := by decide +kernel
theorem dX0_tells_45 : decode cX0_tells 45 = .ok (.ishr, 1) := by decide +kernel
theorem dX0_tells_46 : decode cX0_tells 46 = .ok (.iconst 1, 1) := by decide +kernel
theorem dX0_tells_47 : decode cX0_tells 47 = .ok (.iand, 1) := by decide +kernel
theorem dX0_tells_48 : decode cX0_tells 48 = .ok (.iconst 1, 1) := by decide +kernel
theorem dX0_tells_49 : decode cX0_tells 49 = .ok (.if_icmp .ne 8, 3) := by decide +kernel
theorem dX0_tells_52 : decode cX0_tells 52 = .ok (.aload_n 0, 1) := by decide +kernel
theorem dX0_tells_53 : decode cX0_tells 53 = .ok (.getfield 21, 3) := by decide +kernel
theorem dX0_tells_56 : decode cX0_tells 56 = .ok (.istore_n 3, 1) := by decide +kernel
theorem dX0_tells_57 : decode cX0_tells 57 = .ok (.iload_n 1, 1) := by decide +kernel
theorem dX0_tells_58 : decode cX0_tells 58 = .ok (.iload_n 3, 1) := by decide +kernel
theorem dX0_tells_59 : decode cX0_tells 59 = .ok (.invokestatic 36, 3) := by decide +kernel
theorem dX0_tells_62 : decode cX0_tells 62 = .ok (.ireturn, 1) := by decide +kernel
theorem dX0_tell_0 : decode cX0_tell 0 = .ok (.iload_n 1, 1) := by decide +kernel
theorem dX0_tell_1 : decode cX0_tell 1 = .ok (.tableswitch 78 0 6 #[43, 48, 53, 58, 63, 68, 73], 43) := by decide +kernel
theorem dX0_tell_44 : decode cX0_tell 44 = .ok (.aload_n 0, 1) := by decide +kernel
theorem dX0_tell_45 : decode cX0_tell 45 = .ok (.getfield 24, 3) := by decide +kernel
theorem dX0_tell_48 : decode cX0_tell 48 = .ok (.ireturn, 1) := by decide +kernel
theorem dX0_tell_49 : decode cX0_tell 49 = .ok (.aload_n 0, 1) := by decide +kernel
theorem dX0_tell_50 : decode cX0_tell 50 = .ok (.getfield 9, 3) := by decide +kernel
theorem dX0_tell_53 : decode cX0_tell 53 = .ok (.ireturn, 1) := by decide +kernel
theorem dX0_tell_54 : decode cX0_tell 54 = .ok (.aload_n 0, 1) := by decide +kernel
theorem dX0_tell_55 : decode cX0_tell 55 = .ok (.getfield 15, 3) := by decide +kernel
theorem dX0_tell_58 : decode cX0_tell 58 = .ok (.ireturn, 1) := by decide +kernel
theorem dX0_tell_59 : decode cX0_tell 59 = .ok (.aload_n 0, 1) := by decide +kernel
theorem dX0_tell_60 : decode cX0_tell 60 = .ok (.getfield 18, 3) := by decide +kernel
theorem dX0_tell_63 : decode cX0_tell 63 = .ok (.ireturn, 1) := by decide +kernel
theorem dX0_tell_64 : decode cX0_tell 64 = .ok (.aload_n 0, 1) := by decide +kernel
theorem dX0_tell_65 : decode cX0_tell 65 = .ok (.getfield 21, 3) := by decide +kernel
theorem dX0_tell_68 : decode cX0_tell 68 = .ok (.ireturn, 1) := by decide +kernel
theorem dX0_tell_69 : decode cX0_tell 69 = .ok (.aload_n 0, 1) := by decide +kernel
theorem dX0_tell_70 : decode cX0_tell 70 = .ok (.getfield 27, 3) := by decide +kernel
theorem dX0_tell_73 : decode cX0_tell 73 = .ok (.ireturn, 1) := by decide +kernel
theorem dX0_tell_74 : decode cX0_tell 74 = .ok (.aload_n 0, 1) := by decide +kernel
theorem dX0_tell_75 : decode cX0_tell 75 = .ok (.getfield 30, 3) := by decide +kernel
theorem dX0_tell_78 : decode cX0_tell 78 = .ok (.ireturn, 1) := by decide +kernel
theorem dX0_tell_79 : decode cX0_tell 79 = .ok (.aload_n 0, 1) := by decide +kernel
theorem dX0_tell_80 : decode cX0_tell 80 = .ok (.getfield 33, 3) := by decide +kernel
theorem dX0_tell_83 : decode cX0_tell 83 = .ok (.ireturn, 1) := by decide +kernel
theorem dX1_init_0 : decode cX1_init 0 = .ok (.aload_n 0, 1) := by decide +kernel
theorem dX1_init_1 : decode cX1_init 1 = .ok (.invokespecial 3, 3) := by decide +kernel
theorem dX1_init_4 : decode cX1_init 4 = .ok (.aload_n 0, 1) := by decide +kernel
theorem dX1_init_5 : decode cX1_init 5 = .ok (.bipush 32, 2) := by decide +kernel
theorem dX1_init_7 : decode cX1_init 7 = .ok (.newarray .byte, 2) := by decide +kernel
theorem dX1_init_9 : decode cX1_init 9 = .ok (.putfield 9, 3) := by decide +kernel
theorem dX1_init_12 : decode cX1_init 12 = .ok (.return_, 1) := by decide +kernel
theorem dX1_make_0 : decode cX1_make 0 = .ok (.aload_n 0, 1) := by decide +kernel
theorem dX1_make_1 : decode cX1_make 1 = .ok (.iconst 0, 1) := by decide +kernel
theorem dX1_make_2 : decode cX1_make 2 = .ok (.putfield 15, 3) := by decide +kernel
theorem dX1_make_5 : decode cX1_make 5 = .ok (.aload_n 0, 1) := by decide +kernel
theorem dX1_make_6 : decode cX1_make 6 = .ok (.iconst 0, 1) := by decide +kernel
theorem dX1_make_7 : decode cX1_make 7 = .ok (.putfield 19, 3) := by decide +kernel
theorem dX1_make_10 : decode cX1_make 10 = .ok (.iconst 1, 1) := by decide +kernel
theorem dX1_make_11 : decode cX1_make 11 = .ok (.istore 5, 2) := by decide +kernel
theorem dX1_make_13 : decode cX1_make 13 = .ok (.iconst 0, 1) := by decide +kernel
theorem dX1_make_14 : decode cX1_make 14 = .ok (.iload_n 2, 1) := by decide +kernel
theorem dX1_make_15 : decode cX1_make 15 = .ok (.invokestatic 22, 3) := by decide +kernel
theorem dX1_make_18 : decode cX1_make 18 = .ok (.istore 6, 2) := by decide +kernel
theorem dX1_make_20 : decode cX1_make 20 = .ok (.iload 6, 2) := by decide +kernel
theorem dX1_make_22 : decode cX1_make 22 = .ok (.iload_n 3, 1) := by decide +kernel
theorem dX1_make_23 : decode cX1_make 23 = .ok (.if_icmp .ge 68, 3) := by decide +kernel
theorem dX1_make_26 : decode cX1_make 26 = .ok (.iload 6, 2) := by decide +kernel
theorem dX1_make_28 : decode cX1_make 28 = .ok (.aload_n 1, 1) := by decide +kernel
theorem dX1_make_29 : decode cX1_make 29 = .ok (.arraylength, 1) := by decide +kernel
theorem dX1_make_30 : decode cX1_make 30 = .ok (.if_icmp .ge 61, 3) := by decide +kernel
theorem dX1_make_33 : decode cX1_make 33 = .ok (.aload_n 1, 1) := by decide +kernel
theorem dX1_make_34 : decode cX1_make 34 = .ok (.iload 6, 2) := by decide +kernel
theorem dX1_make_36 : decode cX1_make 36 = .ok (.baload, 1) := by decide +kernel
theorem dX1_make_37 : decode cX1_make 37 = .ok (.istore 7, 2) := by decide +kernel
theorem dX1_make_39 : decode cX1_make 39 = .ok (.iload 7, 2) := by decide +kernel
theorem dX1_make_41 : decode cX1_make 41 = .ok (.bipush 95, 2) := by decide +kernel
theorem dX1_make_43 : decode cX1_make 43 = .ok (.if_icmp .ne 9, 3) := by decide +kernel
theorem dX1_make_46 : decode cX1_make 46 = .ok (.iconst 1, 1) := by decide +kernel
theorem dX1_make_47 : decode cX1_make 47 = .ok (.istore 5, 2) := by decide +kernel
theorem dX1_make_49 : decode cX1_make 49 = .ok (.goto 36, 3) := by decide +kernel
theorem dX1_make_52 : decode cX1_make 52 = .ok (.iload 5, 2) := by decide +kernel
theorem dX1_make_54 : decode cX1_make 54 = .ok (.ifCond .ne 11, 3) := by decide +kernel
theorem dX1_make_57 : decode cX1_make 57 = .ok (.iload 7, 2) := by decide +kernel
theorem dX1_make_59 : decode cX1_make 59 = .ok (.invokestatic 28, 3) := by decide +kernel
theorem dX1_make_62 : decode cX1_make 62 = .ok (.ifCond .eq 17, 3) := by decide +kernel
theorem dX1_make_65 : decode cX1_make 65 = .ok (.aload_n 0, 1) := by decide +kernel
theorem dX1_make_66 : decode cX1_make 66 = .ok (.iload 7, 2) := by decide +kernel
theorem dX1_make_68 : decode cX1_make 68 = .ok (.iload 4, 2) := by decide +kernel
theorem dX1_make_70 : decode cX1_make 70 = .ok (.invokevirtual 32, 3) := by decide +kernel
theorem dX1_make_73 : decode cX1_make 73 = .ok (.iconst 0, 1) := by decide +kernel
theorem dX1_make_74 : decode cX1_make 74 = .ok (.istore 5, 2) := by decide +kernel
theorem dX1_make_76 : decode cX1_make 76 = .ok (.goto 9, 3) := by decide +kernel
theorem dX1_make_79 : decode cX1_make 79 = .ok (.aload_n 0, 1) := by decide +kernel
theorem dX1_make_80 : decode cX1_make 80 = .ok (.iload 7, 2) := by decide +kernel
theorem dX1_make_82 : decode cX1_make 82 = .ok (.invokevirtual 36, 3) := by decide +kernel
theorem dX1_make_85 : decode cX1_make 85 = .ok (.iinc 6 1, 3) := by decide +kernel
theorem dX1_make_88 : decode cX1_make 88 = .ok (.goto (-68), 3) := by decide +kernel
theorem dX1_make_91 : decode cX1_make 91 = .ok (.return_, 1) := by decide +kernel
theorem dX1_startPart_0 : decode cX1_startPart 0 = .ok (.aload_n 0, 1) := by decide +kernel
theorem dX1_startPart_1 : decode cX1_startPart 1 = .ok (.dup, 1) := by decide +kernel
theorem dX1_startPart_2 : decode cX1_startPart 2 = .ok (.getfield 19, 3) := by decide +kernel
theorem dX1_startPart_5 : decode cX1_startPart 5 = .ok (.iconst 1, 1) := by decide +kernel
theorem dX1_startPart_6 : decode cX1_startPart 6 = .ok (.iadd, 1) := by decide +kernel
theorem dX1_startPart_7 : decode cX1_startPart 7 = .ok (.putfield 19, 3) := by decide +kernel
theorem dX1_startPart_10 : decode cX1_startPart 10 = .ok (.iload_n 1, 1) := by decide +kernel
theorem dX1_startPart_11 : decode cX1_startPart 11 = .ok (.invokestatic 28, 3) := by decide +kernel
theorem dX1_startPart_14 : decode cX1_startPart 14 = .ok (.ifCond .eq 13, 3) := by decide +kernel
theorem dX1_startPart_17 : decode cX1_startPart 17 = .ok (.iload_n 1, 1) := by decide +kernel
theorem dX1_startPart_18 : decode cX1_startPart 18 = .ok (.bipush 65, 2) := by decide +kernel
theorem dX1_startPart_20 : decode cX1_startPart 20 = .ok (.isub, 1) := by decide +kernel
theorem dX1_startPart_21 : decode cX1_startPart 21 = .ok (.bipush 97, 2) := by decide +kernel
theorem dX1_startPart_23 : decode cX1_startPart 23 = .ok (.iadd, 1) := by decide +kernel
theorem dX1_startPart_24 : decode cX1_startPart 24 = .ok (.goto 4, 3) := by decide +kernel
theorem dX1_startPart_27 : decode cX1_startPart 27 = .ok (.iload_n 1, 1) := by decide +kernel
theorem dX1_startPart_28 : decode cX1_startPart 28 = .ok (.istore_n 3, 1) := by decide +kernel
theorem dX1_startPart_29 : decode cX1_startPart 29 = .ok (.aload_n 0, 1) := by decide +kernel
theorem dX1_startPart_30 : decode cX1_startPart 30 = .ok (.getfield 19, 3) := by decide +kernel
theorem dX1_startPart_33 : decode cX1_startPart 33 = .ok (.iconst 1, 1) := by decide +kernel
theorem dX1_startPart_34 : decode cX1_startPart 34 = .ok (.if_icmp .ne 11, 3) := by decide +kernel
theorem dX1_startPart_37 : decode cX1_startPart 37 = .ok (.aload_n 0, 1) := by decide +kernel
theorem dX1_startPart_38 : decode cX1_startPart 38 = .ok (.iload_n 3, 1) := by decide +kernel
theorem dX1_startPart_39 : decode cX1_startPart 39 = .ok (.invokevirtual 36, 3) := by decide +kernel
theorem dX1_startPart_42 : decode cX1_startPart 42 = .ok (.goto 43, 3) := by decide +kernel
theorem dX1_startPart_45 : decode cX1_startPart 45 = .ok (.iload_n 2, 1) := by decide +kernel
theorem dX1_startPart_46 : decode cX1_startPart 46 = .ok (.ifCond .ne 17, 3) := by decide +kernel
theorem dX1_startPart_49 : decode cX1_startPart 49 = .ok (.aload_n 0, 1) := by decide +kernel
theorem dX1_startPart_50 : decode cX1_startPart 50 = .ok (.bipush 95, 2) := by decide +kernel
theorem dX1_startPart_52 : decode cX1_startPart 52 = .ok (.invokevirtual 36, 3) := by decide +kernel
theorem dX1_startPart_55 : decode cX1_startPart 55 = .ok (.aload_n 0, 1) := by decide +kernel
theorem dX1_startPart_56 : decode cX1_startPart 56 = .ok (.iload_n 3, 1) := by decide +kernel
theorem dX1_startPart_57 : decode cX1_startPart 57 = .ok (.invokevirtual 36, 3) := by decide +kernel
theorem dX1_startPart_60 : decode cX1_startPart 60 = .ok (.goto 25, 3) := by decide +kernel
theorem dX1_startPart_63 : decode cX1_startPart 63 = .ok (.aload_n 0, 1) := by decide +kernel
theorem dX1_startPart_64 : decode cX1_startPart 64 = .ok (.iload_n 3, 1) := by decide +kernel
theorem dX1_startPart_65 : decode cX1_startPart 65 = .ok (.invokestatic 40, 3) := by decide +kernel
theorem dX1_startPart_68 : decode cX1_startPart 68 = .ok (.ifCond .eq 13, 3) := by decide +kernel
theorem dX1_startPart_71 : decode cX1_startPart 71 = .ok (.iload_n 3, 1) := by decide +kernel
theorem dX1_startPart_72 : decode cX1_startPart 72 = .ok (.bipush 97, 2) := by decide +kernel
theorem dX1_startPart_74 : decode cX1_startPart 74 = .ok (.isub, 1) := by decide +kernel
theorem dX1_startPart_75 : decode cX1_startPart 75 = .ok (.bipush 65, 2) := by decide +kernel
theorem dX1_startPart_77 : decode cX1_startPart 77 = .ok (.iadd, 1) := by decide +kernel
theorem dX1_startPart_78 : decode cX1_startPart 78 = .ok (.goto 4, 3) := by decide +kernel
theorem dX1_startPart_81 : decode cX1_startPart 81 = .ok (.iload_n 3, 1) := by decide +kernel
theorem dX1_startPart_82 : decode cX1_startPart 82 = .ok (.invokevirtual 36, 3) := by decide +kernel
theorem dX1_startPart_85 : decode cX1_startPart 85 = .ok (.return_, 1) := by decide +kernel
theorem dX1_put_0 : decode cX1_put 0 = .ok (.aload_n 0, 1) := by decide +kernel
theorem dX1_put_1 : decode cX1_put 1 = .ok (.getfield 15, 3) := by decide +kernel
theorem dX1_put_4 : decode cX1_put 4 = .ok (.aload_n 0, 1) := by decide +kernel
theorem dX1_put_5 : decode cX1_put 5 = .ok (.getfield 9, 3) := by decide +kernel
theorem dX1_put_8 : decode cX1_put 8 = .ok (.arraylength, 1) := by decide +kernel
theorem dX1_put_9 : decode cX1_put 9 = .ok (.if_icmp .ge 24, 3) := by decide +kernel
theorem dX1_put_12 : decode cX1_put 12 = .ok (.aload_n 0, 1) := by decide +kernel
theorem dX1_put_13 : decode cX1_put 13 = .ok (.getfield 9, 3) := by decide +kernel
theorem dX1_put_16 : decode cX1_put 16 = .ok (.aload_n 0, 1) := by decide +kernel
theorem dX1_put_17 : decode cX1_put 17 = .ok (.getfield 15, 3) := by decide +kernel
theorem dX1_put_20 : decode cX1_put 20 = .ok (.iload_n 1, 1) := by decide +kernel
theorem dX1_put_21 : decode cX1_put 21 = .ok (.i2b, 1) := by decide +kernel
theorem dX1_put_22 : decode cX1_put 22 = .ok (.bastore, 1) := by decide +kernel
theorem dX1_put_23 : decode cX1_put 23 = .ok (.aload_n 0, 1) := by decide +kernel
theorem dX1_put_24 : decode cX1_put 24 = .ok (.dup, 1) := by decide +kernel
theorem dX1_put_25 : decode cX1_put 25 = .ok (.getfield 15, 3) := by decide +kernel
theorem dX1_put_28 : decode cX1_put 28 = .ok (.iconst 1, 1) := by decide +kernel
theorem dX1_put_29 : decode cX1_put 29 = .ok (.iadd, 1) := by decide +kernel
theorem dX1_put_30 : decode cX1_put 30 = .ok (.putfield 15, 3) := by decide +kernel
theorem dX1_put_33 : decode cX1_put 33 = .ok (.return_, 1) := by decide +kernel
theorem dX2_init_0 : decode cX2_init 0 = .ok (.aload_n 0, 1) := by decide +kernel
theorem dX2_init_1 : decode cX2_init 1 = .ok (.invokespecial 3, 3) := by decide +kernel
theorem dX2_init_4 : decode cX2_init 4 = .ok (.aload_n 0, 1) := by decide +kernel
theorem dX2_init_5 : decode cX2_init 5 = .ok (.sipush 2000, 3) := by decide +kernel
theorem dX2_init_8 : decode cX2_init 8 = .ok (.newarray .byte, 2) := by decide +kernel
theorem dX2_init_10 : decode cX2_init 10 = .ok (.putfield 9, 3) := by decide +kernel
theorem dX2_init_13 : decode cX2_init 13 = .ok (.return_, 1) := by decide +kernel
theorem dX2_clear_0 : decode cX2_clear 0 = .ok (.aload_n 0, 1) := by decide +kernel
theorem dX2_clear_1 : decode cX2_clear 1 = .ok (.iconst 0, 1) := by decide +kernel
theorem dX2_clear_2 : decode cX2_clear 2 = .ok (.putfield 15, 3) := by decide +kernel
theorem dX2_clear_5 : decode cX2_clear 5 = .ok (.aload_n 0, 1) := by decide +kernel
theorem dX2_clear_6 : decode cX2_clear 6 = .ok (.iconst 0, 1) := by decide +kernel
theorem dX2_clear_7 : decode cX2_clear 7 = .ok (.putfield 19, 3) := by decide +kernel
theorem dX2_clear_10 : decode cX2_clear 10 = .ok (.return_, 1) := by decide +kernel
theorem dX2_put_0 : decode cX2_put 0 = .ok (.aload_n 0, 1) := by decide +kernel
theorem dX2_put_1 : decode cX2_put 1 = .ok (.getfield 15, 3) := by decide +kernel
theorem dX2_put_4 : decode cX2_put 4 = .ok (.aload_n 0, 1) := by decide +kernel
theorem dX2_put_5 : decode cX2_put 5 = .ok (.getfield 9, 3) := by decide +kernel
theorem dX2_put_8 : decode cX2_put 8 = .ok (.arraylength, 1) := by decide +kernel
theorem dX2_put_9 : decode cX2_put 9 = .ok (.if_icmp .ge 27, 3) := by decide +kernel
theorem dX2_put_12 : decode cX2_put 12 = .ok (.aload_n 0, 1) := by decide +kernel
theorem dX2_put_13 : decode cX2_put 13 = .ok (.getfield 9, 3) := by decide +kernel
theorem dX2_put_16 : decode cX2_put 16 = .ok (.aload_n 0, 1) := by decide +kernel
theorem dX2_put_17 : decode cX2_put 17 = .ok (.getfield 15, 3) := by decide +kernel
theorem dX2_put_20 : decode cX2_put 20 = .ok (.iload_n 1, 1) := by decide +kernel
theorem dX2_put_21 : decode cX2_put 21 = .ok (.i2b, 1) := by decide +kernel
theorem dX2_put_22 : decode cX2_put 22 = .ok (.bastore, 1) := by decide +kernel
theorem dX2_put_23 : decode cX2_put 23 = .ok (.aload_n 0, 1) := by decide +kernel
theorem dX2_put_24 : decode cX2_put 24 = .ok (.dup, 1) := by decide +kernel
theorem dX2_put_25 : decode cX2_put 25 = .ok (.getfield 15, 3) := by decide +kernel
theorem dX2_put_28 : decode cX2_put 28 = .ok (.iconst 1, 1) := by decide +kernel
theorem dX2_put_29 : decode cX2_put 29 = .ok (.iadd, 1) := by decide +kernel
theorem dX2_put_30 : decode cX2_put 30 = .ok (.putfield 15, 3) := by decide +kernel
theorem dX2_put_33 : decode cX2_put 33 = .ok (.goto 8, 3) := by decide +kernel
theorem dX2_put_36 : decode cX2_put 36 = .ok (.aload_n 0, 1) := by decide +kernel
theorem dX2_put_37 : decode cX2_put 37 = .ok (.iconst 1, 1) := by decide +kernel
theorem dX2_put_38 : decode cX2_put 38 = .ok (.putfield 19, 3) := by decide +kernel
theorem dX2_put_41 : decode cX2_put 41 = .ok (.return_, 1) := by decide +kernel
theorem dX2_putAll_0 : decode cX2_putAll 0 = .ok (.iconst 0, 1) := by decide +kernel
theorem dX2_putAll_1 : decode cX2_putAll 1 = .ok (.iload_n 2, 1) := by decide +kernel
theorem dX2_putAll_2 : decode cX2_putAll 2 = .ok (.invokestatic 23, 3) := by decide +kernel
theorem dX2_putAll_5 : decode cX2_putAll 5 = .ok (.istore 4, 2) := by decide +kernel
theorem dX2_putAll_7 : decode cX2_putAll 7 = .ok (.iload 4, 2) := by decide +kernel
theorem dX2_putAll_9 : decode cX2_putAll 9 = .ok (.iload_n 3, 1) := by decide +kernel
theorem dX2_putAll_10 : decode cX2_putAll 10 = .ok (.if_icmp .ge 24, 3) := by decide +kernel
theorem dX2_putAll_13 : decode cX2_putAll 13 = .ok (.iload 4, 2) := by decide +kernel
theorem dX2_putAll_15 : decode cX2_putAll 15 = .ok (.aload_n 1, 1) := by decide +kernel
theorem dX2_putAll_16 : decode cX2_putAll 16 = .ok (.arraylength, 1) := by decide +kernel
theorem dX2_putAll_17 : decode cX2_putAll 17 = .ok (.if_icmp .ge 17, 3) := by decide +kernel
theorem dX2_putAll_20 : decode cX2_putAll 20 = .ok (.aload_n 0, 1) := by decide +kernel
theorem dX2_putAll_21 : decode cX2_putAll 21 = .ok (.aload_n 1, 1) := by decide +kernel
theorem dX2_putAll_22 : decode cX2_putAll 22 = .ok (.iload 4, 2) := by decide +kernel
theorem dX2_putAll_24 : decode cX2_putAll 24 = .ok (.baload, 1) := by decide +kernel
theorem dX2_putAll_25 : decode cX2_putAll 25 = .ok (.invokevirtual 29, 3) := by decide +kernel
theorem dX2_putAll_28 : decode cX2_putAll 28 = .ok (.iinc 4 1, 3) := by decide +kernel
theorem dX2_putAll_31 : decode cX2_putAll 31 = .ok (.goto (-24), 3) := by decide +kernel
theorem dX2_putAll_34 : decode cX2_putAll 34 = .ok (.return_, 1) := by decide +kernel
theorem dX2_putGap_0 : decode cX2_putGap 0 = .ok (.iload_n 1, 1) := by decide +kernel
theorem dX2_putGap_1 : decode cX2_putGap 1 = .ok (.iconst 1, 1) := by decide +kernel
theorem dX2_putGap_2 : decode cX2_putGap 2 = .ok (.if_icmp .ne 12, 3) := by decide +kernel
theorem dX2_putGap_5 : decode cX2_putGap 5 = .ok (.aload_n 0, 1) := by decide +kernel
theorem dX2_putGap_6 : decode cX2_putGap 6 = .ok (.bipush 32, 2) := by decide +kernel
theorem dX2_putGap_8 : decode cX2_putGap 8 = .ok (.invokevirtual 29, 3) := by decide +kernel
theorem dX2_putGap_11 : decode cX2_putGap 11 = .ok (.goto 35, 3) := by decide +kernel
theorem dX2_putGap_14 : decode cX2_putGap 14 = .ok (.iload_n 1, 1) := by decide +kernel
theorem dX2_putGap_15 : decode cX2_putGap 15 = .ok (.iconst 2, 1) := by decide +kernel
theorem dX2_putGap_16 : decode cX2_putGap 16 = .ok (.if_icmp .ne 30, 3) := by decide +kernel
theorem dX2_putGap_19 : decode cX2_putGap 19 = .ok (.aload_n 0, 1) := by decide +kernel
theorem dX2_putGap_20 : decode cX2_putGap 20 = .ok (.bipush 10, 2) := by decide +kernel
theorem dX2_putGap_22 : decode cX2_putGap 22 = .ok (.invokevirtual 29, 3) := by decide +kernel
theorem dX2_putGap_25 : decode cX2_putGap 25 = .ok (.iconst 0, 1) := by decide +kernel
theorem dX2_putGap_26 : decode cX2_putGap 26 = .ok (.istore_n 3, 1) := by decide +kernel
theorem dX2_putGap_27 : decode cX2_putGap 27 = .ok (.iload_n 3, 1) := by decide +kernel
theorem dX2_putGap_28 : decode cX2_putGap 28 = .ok (.iconst 2, 1) := by decide +kernel
theorem dX2_putGap_29 : decode cX2_putGap 29 = .ok (.iload_n 2, 1) := by decide +kernel
theorem dX2_putGap_30 : decode cX2_putGap 30 = .ok (.imul, 1) := by decide +kernel
theorem dX2_putGap_31 : decode cX2_putGap 31 = .ok (.if_icmp .ge 15, 3) := by decide +kernel
theorem dX2_putGap_34 : decode cX2_putGap 34 = .ok (.aload_n 0, 1) := by decide +kernel
theorem dX2_putGap_35 : decode cX2_putGap 35 = .ok (.bipush 32, 2) := by decide +kernel
theorem dX2_putGap_37 : decode cX2_putGap 37 = .ok (.invokevirtual 29, 3) := by decide +kernel
theorem dX2_putGap_40 : decode cX2_putGap 40 = .ok (.iinc 3 1, 3) := by decide +kernel
theorem dX2_putGap_43 : decode cX2_putGap 43 = .ok (.goto (-16), 3) := by decide +kernel
theorem dX2_putGap_46 : decode cX2_putGap 46 = .ok (.return_, 1) := by decide +kernel
theorem dX3_init_0 : decode cX3_init 0 = .ok (.aload_n 0, 1) := by decide +kernel
theorem dX3_init_1 : decode cX3_init 1 = .ok (.invokespecial 3, 3) := by decide +kernel
theorem dX3_init_4 : decode cX3_init 4 = .ok (.aload_n 0, 1) := by decide +kernel
theorem dX3_init_5 : decode cX3_init 5 = .ok (.bipush 6, 2) := by decide +kernel
theorem dX3_init_7 : decode cX3_init 7 = .ok (.newarray .int, 2) := by decide +kernel
theorem dX3_init_9 : decode cX3_init 9 = .ok (.putfield 9, 3) := by decide +kernel
theorem dX3_init_12 : decode cX3_init 12 = .ok (.aload_n 0, 1) := by decide +kernel
theorem dX3_init_13 : decode cX3_init 13 = .ok (.iconst (-1), 1) := by decide +kernel
theorem dX3_init_14 : decode cX3_init 14 = .ok (.putfield 15, 3) := by decide +kernel
theorem dX3_init_17 : decode cX3_init 17 = .ok (.return_, 1) := by decide +kernel
theorem dX3_read_0 : decode cX3_read 0 = .ok (.aload_n 0, 1) := by decide +kernel
theorem dX3_read_1 : decode cX3_read 1 = .ok (.iconst 0, 1) := by decide +kernel
theorem dX3_read_2 : decode cX3_read 2 = .ok (.putfield 19, 3) := by decide +kernel
theorem dX3_read_5 : decode cX3_read 5 = .ok (.aload_n 0, 1) := by decide +kernel
theorem dX3_read_6 : decode cX3_read 6 = .ok (.iconst 0, 1) := by decide +kernel
theorem dX3_read_7 : decode cX3_read 7 = .ok (.putfield 22, 3) := by decide +kernel
theorem dX3_read_10 : decode cX3_read 10 = .ok (.aload_n 0, 1) := by decide +kernel
theorem dX3_read_11 : decode cX3_read 11 = .ok (.iconst 0, 1) := by decide +kernel
theorem dX3_read_12 : decode cX3_read 12 = .ok (.putfield 25, 3) := by decide +kernel
theorem dX3_read_15 : decode cX3_read 15 = .ok (.aload_n 0, 1) := by decide +kernel
theorem dX3_read_16 : decode cX3_read 16 = .ok (.iconst 0, 1) := by decide +kernel
theorem dX3_read_17 : decode cX3_read 17 = .ok (.putfield 29, 3) := by decide +kernel
theorem dX3_read_20 : decode cX3_read 20 = .ok (.aload_n 0, 1) := by decide +kernel
theorem dX3_read_21 : decode cX3_read 21 = .ok (.iconst 0, 1) := by decide +kernel
theorem dX3_read_22 : decode cX3_read 22 = .ok (.putfield 32, 3) := by decide +kernel
theorem dX3_read_25 : decode cX3_read 25 = .ok (.aload_n 0, 1) := by decide +kernel
theorem dX3_read_26 : decode cX3_read 26 = .ok (.iconst 0, 1) := by decide +kernel
theorem dX3_read_27 : decode cX3_read 27 = .ok (.putfield 35, 3) := by decide +kernel
theorem dX3_read_30 : decode cX3_read 30 = .ok (.aload_n 0, 1) := by decide +kernel
theorem dX3_read_31 : decode cX3_read 31 = .ok (.iconst (-1), 1) := by decide +kernel
theorem dX3_read_32 : decode cX3_read 32 = .ok (.putfield 15, 3) := by decide +kernel
theorem dX3_read_35 : decode cX3_read 35 = .ok (.aload_n 0, 1) := by decide +kernel
theorem dX3_read_36 : decode cX3_read 36 = .ok (.iconst 0, 1) := by decide +kernel
theorem dX3_read_37 : decode cX3_read 37 = .ok (.putfield 38, 3) := by decide +kernel
theorem dX3_read_40 : decode cX3_read 40 = .ok (.iconst 0, 1) := by decide +kernel
theorem dX3_read_41 : decode cX3_read 41 = .ok (.istore_n 2, 1) := by decide +kernel
theorem dX3_read_42 : decode cX3_read 42 = .ok (.iload_n 2, 1) := by decide +kernel
theorem dX3_read_43 : decode cX3_read 43 = .ok (.sipush 200, 3) := by decide +kernel
theorem dX3_read_46 : decode cX3_read 46 = .ok (.if_icmp .gt 129, 3) := by decide +kernel
theorem dX3_read_49 : decode cX3_read 49 = .ok (.aload_n 0, 1) := by decide +kernel
theorem dX3_read_50 : decode cX3_read 50 = .ok (.aload_n 1, 1) := by decide +kernel
theorem dX3_read_51 : decode cX3_read 51 = .ok (.invokevirtual 41, 3) := by decide +kernel
theorem dX3_read_54 : decode cX3_read 54 = .ok (.aload_n 0, 1) := by decide +kernel
theorem dX3_read_55 : decode cX3_read 55 = .ok (.getfield 45, 3) := by decide +kernel
theorem dX3_read_58 : decode cX3_read 58 = .ok (.bipush 8, 2) := by decide +kernel
theorem dX3_read_60 : decode cX3_read 60 = .ok (.if_icmp .ne 32, 3) := by decide +kernel
theorem dX3_read_63 : decode cX3_read 63 = .ok (.aload_n 1, 1) := by decide +kernel
theorem dX3_read_64 : decode cX3_read 64 = .ok (.aload_n 0, 1) := by decide +kernel
theorem dX3_read_65 : decode cX3_read 65 = .ok (.getfield 35, 3) := by decide +kernel
theorem dX3_read_68 : decode cX3_read 68 = .ok (.putfield 48, 3) := by decide +kernel
theorem dX3_read_71 : decode cX3_read 71 = .ok (.aload_n 0, 1) := by decide +kernel
theorem dX3_read_72 : decode cX3_read 72 = .ok (.invokevirtual 51, 3) := by decide +kernel
theorem dX3_read_75 : decode cX3_read 75 = .ok (.ifCond .eq 7, 3) := by decide +kernel
theorem dX3_read_78 : decode cX3_read 78 = .ok (.iconst 0, 1) := by decide +kernel
theorem dX3_read_79 : decode cX3_read 79 = .ok (.goto 12, 3) := by decide +kernel
theorem dX3_read_82 : decode cX3_read 82 = .ok (.aload_n 0, 1) := by decide +kernel
theorem dX3_read_83 : decode cX3_read 83 = .ok (.iconst 1, 1) := by decide +kernel
theorem dX3_read_84 : decode cX3_read 84 = .ok (.aload_n 0, 1) := by decide +kernel
theorem dX3_read_85 : decode cX3_read 85 = .ok (.getfield 55, 3) := by decide +kernel
theorem dX3_read_88 : decode cX3_read 88 = .ok (.invokevirtual 58, 3) := by decide +kernel
theorem dX3_read_91 : decode cX3_read 91 = .ok (.ireturn, 1) := by decide +kernel
theorem dX3_read_92 : decode cX3_read 92 = .ok (.aload_n 0, 1) := by decide +kernel
theorem dX3_read_93 : decode cX3_read 93 = .ok (.invokevirtual 62, 3) := by decide +kernel
theorem dX3_read_96 : decode cX3_read 96 = .ok (.ifCond .ne 13, 3) := by decide +kernel
theorem dX3_read_99 : decode cX3_read 99 = .ok (.aload_n 0, 1) := by decide +kernel
theorem dX3_read_100 : decode cX3_read 100 = .ok (.iconst 1, 1) := by decide +kernel
theorem dX3_read_101 : decode cX3_read 101 = .ok (.aload_n 0, 1) := by decide +kernel
theorem dX3_read_102 : decode cX3_read 102 = .ok (.getfield 55, 3) := by decide +kernel
theorem dX3_read_105 : decode cX3_read 105 = .ok (.invokevirtual 58, 3) := by decide +kernel
theorem dX3_read_108 : decode cX3_read 108 = .ok (.ireturn, 1) := by decide +kernel
theorem dX3_read_109 : decode cX3_read 109 = .ok (.aload_n 0, 1) := by decide +kernel
theorem dX3_read_110 : decode cX3_read 110 = .ok (.aload_n 1, 1) := by decide +kernel
theorem dX3_read_111 : decode cX3_read 111 = .ok (.invokevirtual 65, 3) := by decide +kernel
theorem dX3_read_114 : decode cX3_read 114 = .ok (.ifCond .eq 13, 3) := by decide +kernel
theorem dX3_read_117 : decode cX3_read 117 = .ok (.aload_n 0, 1) := by decide +kernel
theorem dX3_read_118 : decode cX3_read 118 = .ok (.iconst 2, 1) := by decide +kernel
theorem dX3_read_119 : decode cX3_read 119 = .ok (.aload_n 0, 1) := by decide +kernel
theorem dX3_read_120 : decode cX3_read 120 = .ok (.getfield 55, 3) := by decide +kernel
theorem dX3_read_123 : decode cX3_read 123 = .ok (.invokevirtual 58, 3) := by decide +kernel
theorem dX3_read_126 : decode cX3_read 126 = .ok (.ireturn, 1) := by decide +kernel
theorem dX3_read_127 : decode cX3_read 127 = .ok (.aload_n 1, 1) := by decide +kernel
theorem dX3_read_128 : decode cX3_read 128 = .ok (.aload_n 0, 1) := by decide +kernel
theorem dX3_read_129 : decode cX3_read 129 = .ok (.getfield 55, 3) := by decide +kernel
theorem dX3_read_132 : decode cX3_read 132 = .ok (.aload_n 0, 1) := by decide +kernel
theorem dX3_read_133 : decode cX3_read 133 = .ok (.getfield 38, 3) := by decide +kernel
theorem dX3_read_136 : decode cX3_read 136 = .ok (.aload_n 0, 1) := by decide +kernel
theorem dX3_read_137 : decode cX3_read 137 = .ok (.getfield 45, 3) := by decide +kernel
theorem dX3_read_140 : decode cX3_read 140 = .ok (.aload_n 0, 1) := by decide +kernel
theorem dX3_read_141 : decode cX3_read 141 = .ok (.getfield 45, 3) := by decide +kernel
theorem dX3_read_144 : decode cX3_read 144 = .ok (.bipush 123, 2) := by decide +kernel
theorem dX3_read_146 : decode cX3_read 146 = .ok (.if_icmp .ne 12, 3) := by decide +kernel
theorem dX3_read_149 : decode cX3_read 149 = .ok (.aload_n 0, 1) := by decide +kernel
theorem dX3_read_150 : decode cX3_read 150 = .ok (.getfield 22, 3) := by decide +kernel
theorem dX3_read_153 : decode cX3_read 153 = .ok (.iconst 1, 1) := by decide +kernel
theorem dX3_read_154 : decode cX3_read 154 = .ok (.isub, 1) := by decide +kernel
theorem dX3_read_155 : decode cX3_read 155 = .ok (.goto 7, 3) := by decide +kernel
theorem dX3_read_158 : decode cX3_read 158 = .ok (.aload_n 0, 1) := by decide +kernel
theorem dX3_read_159 : decode cX3_read 159 = .ok (.getfield 22, 3) := by decide +kernel
theorem dX3_read_162 : decode cX3_read 162 = .ok (.aload_n 0, 1) := by decide +kernel
theorem dX3_read_163 : decode cX3_read 163 = .ok (.getfield 32, 3) := by decide +kernel
theorem dX3_read_166 : decode cX3_read 166 = .ok (.invokevirtual 69, 3) := by decide +kernel
theorem dX3_read_169 : decode cX3_read 169 = .ok (.iinc 2 1, 3) := by decide +kernel
theorem dX3_read_172 : decode cX3_read 172 = .ok (.goto (-130), 3) := by decide +kernel
theorem dX3_read_175 : decode cX3_read 175 = .ok (.aload_n 0, 1) := by decide +kernel
theorem dX3_read_176 : decode cX3_read 176 = .ok (.iconst 2, 1) := by decide +kernel
theorem dX3_read_177 : decode cX3_read 177 = .ok (.aload_n 0, 1) := by decide +kernel
theorem dX3_read_178 : decode cX3_read 178 = .ok (.getfield 55, 3) := by decide +kernel
theorem dX3_read_181 : decode cX3_read 181 = .ok (.invokevirtual 58, 3) := by decide +kernel
theorem dX3_read_184 : decode cX3_read 184 = .ok (.ireturn, 1) := by decide +kernel
theorem dX3_faultAt_0 : decode cX3_faultAt 0 = .ok (.aload_n 0, 1) := by decide +kernel
theorem dX3_faultAt_1 : decode cX3_faultAt 1 = .ok (.iload_n 2, 1) := by decide +kernel
theorem dX3_faultAt_2 : decode cX3_faultAt 2 = .ok (.putfield 15, 3) := by decide +kernel
theorem dX3_faultAt_5 : decode cX3_faultAt 5 = .ok (.iload_n 1, 1) := by decide +kernel
theorem dX3_faultAt_6 : decode cX3_faultAt 6 = .ok (.ireturn, 1) := by decide +kernel
theorem dX3_mayEnd_0 : decode cX3_mayEnd 0 = .ok (.aload_n 0, 1) := by decide +kernel
theorem dX3_mayEnd_1 : decode cX3_mayEnd 1 = .ok (.getfield 19, 3) := by decide +kernel
theorem dX3_mayEnd_4 : decode cX3_mayEnd 4 = .ok (.ifCond .ne 22, 3) := by decide +kernel
theorem dX3_mayEnd_7 : decode cX3_mayEnd 7 = .ok (.aload_n 0, 1) := by decide +kernel
theorem dX3_mayEnd_8 : decode cX3_mayEnd 8 = .ok (.getfield 29, 3) := by decide +kernel
theorem dX3_mayEnd_11 : decode cX3_mayEnd 11 = .ok (.ifCond .eq 11, 3) := by decide +kernel
theorem dX3_mayEnd_14 : decode cX3_mayEnd 14 = .ok (.aload_n 0, 1) := by decide +kernel
theorem dX3_mayEnd_15 : decode cX3_mayEnd 15 = .ok (.getfield 29, 3) := by decide +kernel
theorem dX3_mayEnd_18 : decode cX3_mayEnd 18 = .ok (.iconst 1, 1) := by decide +kernel
theorem dX3_mayEnd_19 : decode cX3_mayEnd 19 = .ok (.if_icmp .ne 7, 3) := by decide +kernel
theorem dX3_mayEnd_22 : decode cX3_mayEnd 22 = .ok (.iconst 1, 1) := by decide +kernel
theorem dX3_mayEnd_23 : decode cX3_mayEnd 23 = .ok (.goto 4, 3) := by decide +kernel
theorem dX3_mayEnd_26 : decode cX3_mayEnd 26 = .ok (.iconst 0, 1) := by decide +kernel
theorem dX3_mayEnd_27 : decode cX3_mayEnd 27 = .ok (.ireturn, 1) := by decide +kernel
theorem dX3_isTooMuch_0 : decode cX3_isTooMuch 0 = .ok (.aload_n 0, 1) := by decide +kernel
theorem dX3_isTooMuch_1 : decode cX3_isTooMuch 1 = .ok (.getfield 38, 3) := by decide +kernel
theorem dX3_isTooMuch_4 : decode cX3_isTooMuch 4 = .ok (.aload_n 0, 1) := by decide +kernel
theorem dX3_isTooMuch_5 : decode cX3_isTooMuch 5 = .ok (.getfield 55, 3) := by decide +kernel
theorem dX3_isTooMuch_8 : decode cX3_isTooMuch 8 = .ok (.isub, 1) := by decide +kernel
theorem dX3_isTooMuch_9 : decode cX3_isTooMuch 9 = .ok (.istore_n 2, 1) := by decide +kernel
theorem dX3_isTooMuch_10 : decode cX3_isTooMuch 10 = .ok (.aload_n 1, 1) := by decide +kernel
theorem dX3_isTooMuch_11 : decode cX3_isTooMuch 11 = .ok (.invokevirtual 73, 3) := by decide +kernel
theorem dX3_isTooMuch_14 : decode cX3_isTooMuch 14 = .ok (.ifCond .ne 38, 3) := by decide +kernel
theorem dX3_isTooMuch_17 : decode cX3_isTooMuch 17 = .ok (.aload_n 0, 1) := by decide +kernel
theorem dX3_isTooMuch_18 : decode cX3_isTooMuch 18 = .ok (.getfield 25, 3) := by decide +kernel
theorem dX3_isTooMuch_21 : decode cX3_isTooMuch 21 = .ok (.ifCond .ne 31, 3) := by decide +kernel
theorem dX3_isTooMuch_24 : decode cX3_isTooMuch 24 = .ok (.aload_n 0, 1) := by decide +kernel
theorem dX3_isTooMuch_25 : decode cX3_isTooMuch 25 = .ok (.getfield 45, 3) := by decide +kernel
theorem dX3_isTooMuch_28 : decode cX3_isTooMuch 28 = .ok (.iconst 1, 1) := by decide +kernel
theorem dX3_isTooMuch_29 : decode cX3_isTooMuch 29 = .ok (.if_icmp .ne 9, 3) := by decide +kernel
theorem dX3_isTooMuch_32 : decode cX3_isTooMuch 32 = .ok (.iload_n 2, 1) := by decide +kernel
theorem dX3_isTooMuch_33 : decode cX3_isTooMuch 33 = .ok (.bipush 16, 2) := by decide +kernel
theorem dX3_isTooMuch_35 : decode cX3_isTooMuch 35 = .ok (.if_icmp .gt 17, 3) := by decide +kernel
theorem dX3_isTooMuch_38 : decode cX3_isTooMuch 38 = .ok (.aload_n 0, 1) := by decide +kernel
theorem dX3_isTooMuch_39 : decode cX3_isTooMuch 39 = .ok (.getfield 45, 3) := by decide +kernel
theorem dX3_isTooMuch_42 : decode cX3_isTooMuch 42 = .ok (.iconst 2, 1) := by decide +kernel
theorem dX3_isTooMuch_43 : decode cX3_isTooMuch 43 = .ok (.if_icmp .ne 13, 3) := by decide +kernel
theorem dX3_isTooMuch_46 : decode cX3_isTooMuch 46 = .ok (.iload_n 2, 1) := by decide +kernel
theorem dX3_isTooMuch_47 : decode cX3_isTooMuch 47 = .ok (.bipush 6, 2) := by decide +kernel
theorem dX3_isTooMuch_49 : decode cX3_isTooMuch 49 = .ok (.if_icmp .le 7, 3) := by decide +kernel
theorem dX3_isTooMuch_52 : decode cX3_isTooMuch 52 = .ok (.iconst 1, 1) := by decide +kernel
theorem dX3_isTooMuch_53 : decode cX3_isTooMuch 53 = .ok (.goto 4, 3) := by decide +kernel
theorem dX3_isTooMuch_56 : decode cX3_isTooMuch 56 = .ok (.iconst 0, 1) := by decide +kernel
theorem dX3_isTooMuch_57 : decode cX3_isTooMuch 57 = .ok (.ireturn, 1) := by decide +kernel
theorem dX3_scan_0 : decode cX3_scan 0 = .ok (.aload_n 0, 1) := by decide +kernel
theorem dX3_scan_1 : decode cX3_scan 1 = .ok (.aload_n 0, 1) := by decide +kernel
theorem dX3_scan_2 : decode cX3_scan 2 = .ok (.getfield 38, 3) := by decide +kernel
theorem dX3_scan_5 : decode cX3_scan 5 = .ok (.putfield 55, 3) := by decide +kernel
theorem dX3_scan_8 : decode cX3_scan 8 = .ok (.aload_n 0, 1) := by decide +kernel
theorem dX3_scan_9 : decode cX3_scan 9 = .ok (.getfield 55, 3) := by decide +kernel
theorem dX3_scan_12 : decode cX3_scan 12 = .ok (.aload_n 1, 1) := by decide +kernel
theorem dX3_scan_13 : decode cX3_scan 13 = .ok (.getfield 76, 3) := by decide +kernel
theorem dX3_scan_16 : decode cX3_scan 16 = .ok (.if_icmp .ge 30, 3) := by decide +kernel
theorem dX3_scan_19 : decode cX3_scan 19 = .ok (.aload_n 1, 1) := by decide +kernel
theorem dX3_scan_20 : decode cX3_scan 20 = .ok (.aload_n 0, 1) := by decide +kernel
theorem dX3_scan_21 : decode cX3_scan 21 = .ok (.getfield 55, 3) := by decide +kernel
theorem dX3_scan_24 : decode cX3_scan 24 = .ok (.invokevirtual 79, 3) := by decide +kernel
theorem dX3_scan_27 : decode cX3_scan 27 = .ok (.invokestatic 83, 3) := by decide +kernel
theorem dX3_scan_30 : decode cX3_scan 30 = .ok (.ifCond .eq 16, 3) := by decide +kernel
theorem dX3_scan_33 : decode cX3_scan 33 = .ok (.aload_n 0, 1) := by decide +kernel
theorem dX3_scan_34 : decode cX3_scan 34 = .ok (.dup, 1) := by decide +kernel
theorem dX3_scan_35 : decode cX3_scan 35 = .ok (.getfield 55, 3) := by decide +kernel
theorem dX3_scan_38 : decode cX3_scan 38 = .ok (.iconst 1, 1) := by decide +kernel
theorem dX3_scan_39 : decode cX3_scan 39 = .ok (.iadd, 1) := by decide +kernel
theorem dX3_scan_40 : decode cX3_scan 40 = .ok (.putfield 55, 3) := by decide +kernel
theorem dX3_scan_43 : decode cX3_scan 43 = .ok (.goto (-35), 3) := by decide +kernel
theorem dX3_scan_46 : decode cX3_scan 46 = .ok (.aload_n 0, 1) := by decide +kernel
theorem dX3_scan_47 : decode cX3_scan 47 = .ok (.aload_n 0, 1) := by decide +kernel
theorem dX3_scan_48 : decode cX3_scan 48 = .ok (.getfield 55, 3) := by decide +kernel
theorem dX3_scan_51 : decode cX3_scan 51 = .ok (.putfield 38, 3) := by decide +kernel
theorem dX3_scan_54 : decode cX3_scan 54 = .ok (.aload_n 0, 1) := by decide +kernel
theorem dX3_scan_55 : decode cX3_scan 55 = .ok (.getfield 55, 3) := by decide +kernel
theorem dX3_scan_58 : decode cX3_scan 58 = .ok (.aload_n 1, 1) := by decide +kernel
theorem dX3_scan_59 : decode cX3_scan 59 = .ok (.getfield 76, 3) := by decide +kernel
theorem dX3_scan_62 : decode cX3_scan 62 = .ok (.if_icmp .lt 10, 3) := by decide +kernel
theorem dX3_scan_65 : decode cX3_scan 65 = .ok (.aload_n 0, 1) := by decide +kernel
theorem dX3_scan_66 : decode cX3_scan 66 = .ok (.bipush 8, 2) := by decide +kernel
theorem dX3_scan_68 : decode cX3_scan 68 = .ok (.putfield 45, 3) := by decide +kernel
theorem dX3_scan_71 : decode cX3_scan 71 = .ok (.return_, 1) := by decide +kernel
theorem dX3_scan_72 : decode cX3_scan 72 = .ok (.aload_n 1, 1) := by decide +kernel
theorem dX3_scan_73 : decode cX3_scan 73 = .ok (.aload_n 0, 1) := by decide +kernel
theorem dX3_scan_74 : decode cX3_scan 74 = .ok (.getfield 55, 3) := by decide +kernel
theorem dX3_scan_77 : decode cX3_scan 77 = .ok (.invokevirtual 79, 3) := by decide +kernel
theorem dX3_scan_80 : decode cX3_scan 80 = .ok (.istore_n 2, 1) := by decide +kernel
theorem dX3_scan_81 : decode cX3_scan 81 = .ok (.iload_n 2, 1) := by decide +kernel
theorem dX3_scan_82 : decode cX3_scan 82 = .ok (.invokestatic 87, 3) := by decide +kernel
theorem dX3_scan_85 : decode cX3_scan 85 = .ok (.ifCond .ne 10, 3) := by decide +kernel
theorem dX3_scan_88 : decode cX3_scan 88 = .ok (.iload_n 2, 1) := by decide +kernel
theorem dX3_scan_89 : decode cX3_scan 89 = .ok (.invokestatic 90, 3) := by decide +kernel
theorem dX3_scan_92 : decode cX3_scan 92 = .ok (.ifCond .eq 34, 3) := by decide +kernel
theorem dX3_scan_95 : decode cX3_scan 95 = .ok (.aload_n 0, 1) := by decide +kernel
theorem dX3_scan_96 : decode cX3_scan 96 = .ok (.aload_n 0, 1) := by decide +kernel
theorem dX3_scan_97 : decode cX3_scan 97 = .ok (.aload_n 1, 1) := by decide +kernel
theorem dX3_scan_98 : decode cX3_scan 98 = .ok (.invokevirtual 93, 3) := by decide +kernel
theorem dX3_scan_101 : decode cX3_scan 101 = .ok (.putfield 38, 3) := by decide +kernel
theorem dX3_scan_104 : decode cX3_scan 104 = .ok (.aload_n 0, 1) := by decide +kernel
theorem dX3_scan_105 : decode cX3_scan 105 = .ok (.aload_n 1, 1) := by decide +kernel
theorem dX3_scan_106 : decode cX3_scan 106 = .ok (.getfield 97, 3) := by decide +kernel
theorem dX3_scan_109 : decode cX3_scan 109 = .ok (.aload_n 0, 1) := by decide +kernel
theorem dX3_scan_110 : decode cX3_scan 110 = .ok (.getfield 55, 3) := by decide +kernel
theorem dX3_scan_113 : decode cX3_scan 113 = .ok (.aload_n 0, 1) := by decide +kernel
theorem dX3_scan_114 : decode cX3_scan 114 = .ok (.getfield 38, 3) := by decide +kernel
theorem dX3_scan_117 : decode cX3_scan 117 = .ok (.invokestatic 101, 3) := by decide +kernel
theorem dX3_scan_120 : decode cX3_scan 120 = .ok (.putfield 45, 3) := by decide +kernel
theorem dX3_scan_123 : decode cX3_scan 123 = .ok (.goto 54, 3) := by decide +kernel
theorem dX3_scan_126 : decode cX3_scan 126 = .ok (.iload_n 2, 1) := by decide +kernel
theorem dX3_scan_127 : decode cX3_scan 127 = .ok (.invokestatic 105, 3) := by decide +kernel
theorem dX3_scan_130 : decode cX3_scan 130 = .ok (.ifCond .eq 20, 3) := by decide +kernel
theorem dX3_scan_133 : decode cX3_scan 133 = .ok (.aload_n 0, 1) := by decide +kernel
theorem dX3_scan_134 : decode cX3_scan 134 = .ok (.aload_n 0, 1) := by decide +kernel
theorem dX3_scan_135 : decode cX3_scan 135 = .ok (.aload_n 1, 1) := by decide +kernel
theorem dX3_scan_136 : decode cX3_scan 136 = .ok (.invokevirtual 108, 3) := by decide +kernel
theorem dX3_scan_139 : decode cX3_scan 139 = .ok (.putfield 38, 3) := by decide +kernel
theorem dX3_scan_142 : decode cX3_scan 142 = .ok (.aload_n 0, 1) := by decide +kernel
theorem dX3_scan_143 : decode cX3_scan 143 = .ok (.iconst 2, 1) := by decide +kernel
theorem dX3_scan_144 : decode cX3_scan 144 = .ok (.putfield 45, 3) := by decide +kernel
theorem dX3_scan_147 : decode cX3_scan 147 = .ok (.goto 30, 3) := by decide +kernel
theorem dX3_scan_150 : decode cX3_scan 150 = .ok (.aload_n 0, 1) := by decide +kernel
theorem dX3_scan_151 : decode cX3_scan 151 = .ok (.aload_n 0, 1) := by decide +kernel
theorem dX3_scan_152 : decode cX3_scan 152 = .ok (.getfield 55, 3) := by decide +kernel
theorem dX3_scan_155 : decode cX3_scan 155 = .ok (.iconst 1, 1) := by decide +kernel
theorem dX3_scan_156 : decode cX3_scan 156 = .ok (.iadd, 1) := by decide +kernel
theorem dX3_scan_157 : decode cX3_scan 157 = .ok (.putfield 38, 3) := by decide +kernel
theorem dX3_scan_160 : decode cX3_scan 160 = .ok (.aload_n 0, 1) := by decide +kernel
theorem dX3_scan_161 : decode cX3_scan 161 = .ok (.iload_n 2, 1) := by decide +kernel
theorem dX3_scan_162 : decode cX3_scan 162 = .ok (.invokestatic 111, 3) := by decide +kernel
theorem dX3_scan_165 : decode cX3_scan 165 = .ok (.ifCond .eq 7, 3) := by decide +kernel
theorem dX3_scan_168 : decode cX3_scan 168 = .ok (.iload_n 2, 1) := by decide +kernel
theorem dX3_scan_169 : decode cX3_scan 169 = .ok (.goto 5, 3) := by decide +kernel
theorem dX3_scan_172 : decode cX3_scan 172 = .ok (.bipush 7, 2) := by decide +kernel
theorem dX3_scan_174 : decode cX3_scan 174 = .ok (.putfield 45, 3) := by decide +kernel
theorem dX3_scan_177 : decode cX3_scan 177 = .ok (.return_, 1) := by decide +kernel
theorem dX3_wordEnd_0 : decode cX3_wordEnd 0 = .ok (.aload_n 0, 1) := by decide +kernel
theorem dX3_wordEnd_1 : decode cX3_wordEnd 1 = .ok (.getfield 55, 3) := by decide +kernel
theorem dX3_wordEnd_4 : decode cX3_wordEnd 4 = .ok (.istore_n 2, 1) := by decide +kernel
theorem dX3_wordEnd_5 : decode cX3_wordEnd 5 = .ok (.iload_n 2, 1) := by decide +kernel
theorem dX3_wordEnd_6 : decode cX3_wordEnd 6 = .ok (.aload_n 1, 1) := by decide +kernel
theorem dX3_wordEnd_7 : decode cX3_wordEnd 7 = .ok (.getfield 76, 3) := by decide +kernel
theorem dX3_wordEnd_10 : decode cX3_wordEnd 10 = .ok (.if_icmp .ge 20, 3) := by decide +kernel
theorem dX3_wordEnd_13 : decode cX3_wordEnd 13 = .ok (.aload_n 1, 1) := by decide +kernel
theorem dX3_wordEnd_14 : decode cX3_wordEnd 14 = .ok (.iload_n 2, 1) := by decide +kernel
theorem dX3_wordEnd_15 : decode cX3_wordEnd 15 = .ok (.invokevirtual 79, 3) := by decide +kernel
theorem dX3_wordEnd_18 : decode cX3_wordEnd 18 = .ok (.invokestatic 114, 3) := by decide +kernel
theorem dX3_wordEnd_21 : decode cX3_wordEnd 21 = .ok (.ifCond .eq 9, 3) := by decide +kernel
theorem dX3_wordEnd_24 : decode cX3_wordEnd 24 = .ok (.iinc 2 1, 3) := by decide +kernel
theorem dX3_wordEnd_27 : decode cX3_wordEnd 27 = .ok (.goto (-22), 3) := by decide +kernel
theorem dX3_wordEnd_30 : decode cX3_wordEnd 30 = .ok (.iload_n 2, 1) := by decide +kernel
theorem dX3_wordEnd_31 : decode cX3_wordEnd 31 = .ok (.ireturn, 1) := by decide +kernel
theorem dX3_digitsEnd_0 : decode cX3_digitsEnd 0 = .ok (.aload_n 0, 1) := by decide +kernel
theorem dX3_digitsEnd_1 : decode cX3_digitsEnd 1 = .ok (.getfield 55, 3) := by decide +kernel
theorem dX3_digitsEnd_4 : decode cX3_digitsEnd 4 = .ok (.istore_n 2, 1) := by decide +kernel
theorem dX3_digitsEnd_5 : decode cX3_digitsEnd 5 = .ok (.iload_n 2, 1) := by decide +kernel
theorem dX3_digitsEnd_6 : decode cX3_digitsEnd 6 = .ok (.aload_n 1, 1) := by decide +kernel
theorem dX3_digitsEnd_7 : decode cX3_digitsEnd 7 = .ok (.getfield 76, 3) := by decide +kernel
theorem dX3_digitsEnd_10 : decode cX3_digitsEnd 10 = .ok (.if_icmp .ge 20, 3) := by decide +kernel
theorem dX3_digitsEnd_13 : decode cX3_digitsEnd 13 = .ok (.aload_n 1, 1) := by decide +kernel
theorem dX3_digitsEnd_14 : decode cX3_digitsEnd 14 = .ok (.iload_n 2, 1) := by decide +kernel
theorem dX3_digitsEnd_15 : decode cX3_digitsEnd 15 = .ok (.invokevirtual 79, 3) := by decide +kernel
theorem dX3_digitsEnd_18 : decode cX3_digitsEnd 18 = .ok (.invokestatic 105, 3) := by decide +kernel
theorem dX3_digitsEnd_21 : decode cX3_digitsEnd 21 = .ok (.ifCond .eq 9, 3) := by decide +kernel
theorem dX3_digitsEnd_24 : decode cX3_digitsEnd 24 = .ok (.iinc 2 1, 3) := by decide +kernel
theorem dX3_digitsEnd_27 : decode cX3_digitsEnd 27 = .ok (.goto (-22), 3) := by decide +kernel
theorem dX3_digitsEnd_30 : decode cX3_digitsEnd 30 = .ok (.iload_n 2, 1) := by decide +kernel
theorem dX3_digitsEnd_31 : decode cX3_digitsEnd 31 = .ok (.ireturn, 1) := by decide +kernel
theorem dX3_isBlank_0 : decode cX3_isBlank 0 = .ok (.iload_n 0, 1) := by decide +kernel
theorem dX3_isBlank_1 : decode cX3_isBlank 1 = .ok (.bipush 32, 2) := by decide +kernel
theorem dX3_isBlank_3 : decode cX3_isBlank 3 = .ok (.if_icmp .eq 9, 3) := by decide +kernel
theorem dX3_isBlank_6 : decode cX3_isBlank 6 = .ok (.iload_n 0, 1) := by decide +kernel
theorem dX3_isBlank_7 : decode cX3_isBlank 7 = .ok (.bipush 10, 2) := by decide +kernel
theorem dX3_isBlank_9 : decode cX3_isBlank 9 = .ok (.if_icmp .ne 7, 3) := by decide +kernel
theorem dX3_isBlank_12 : decode cX3_isBlank 12 = .ok (.iconst 1, 1) := by decide +kernel
theorem dX3_isBlank_13 : decode cX3_isBlank 13 = .ok (.goto 4, 3) := by decide +kernel
theorem dX3_isBlank_16 : decode cX3_isBlank 16 = .ok (.iconst 0, 1) := by decide +kernel
theorem dX3_isBlank_17 : decode cX3_isBlank 17 = .ok (.ireturn, 1) := by decide +kernel
theorem dX3_isOfWord_0 : decode cX3_isOfWord 0 = .ok (.iload_n 0, 1) := by decide +kernel
theorem dX3_isOfWord_1 : decode cX3_isOfWord 1 = .ok (.invokestatic 87, 3) := by decide +kernel
theorem dX3_isOfWord_4 : decode cX3_isOfWord 4 = .ok (.ifCond .ne 23, 3) := by decide +kernel
theorem dX3_isOfWord_7 : decode cX3_isOfWord 7 = .ok (.iload_n 0, 1) := by decide +kernel
theorem dX3_isOfWord_8 : decode cX3_isOfWord 8 = .ok (.invokestatic 90, 3) := by decide +kernel
theorem dX3_isOfWord_11 : decode cX3_isOfWord 11 = .ok (.ifCond .ne 16, 3) := by decide +kernel
theorem dX3_isOfWord_14 : decode cX3_isOfWord 14 = .ok (.iload_n 0, 1) := by decide +kernel
theorem dX3_isOfWord_15 : decode cX3_isOfWord 15 = .ok (.invokestatic 105, 3) := by decide +kernel
theorem dX3_isOfWord_18 : decode cX3_isOfWord 18 = .ok (.ifCond .ne 9, 3) := by decide +kernel
theorem dX3_isOfWord_21 : decode cX3_isOfWord 21 = .ok (.iload_n 0, 1) := by decide +kernel
theorem dX3_isOfWord_22 : decode cX3_isOfWord 22 = .ok (.bipush 95, 2) := by decide +kernel
theorem dX3_isOfWord_24 : decode cX3_isOfWord 24 = .ok (.if_icmp .ne 7, 3) := by decide +kernel
theorem dX3_isOfWord_27 : decode cX3_isOfWord 27 = .ok (.iconst 1, 1) := by decide +kernel
theorem dX3_isOfWord_28 : decode cX3_isOfWord 28 = .ok (.goto 4, 3) := by decide +kernel
theorem dX3_isOfWord_31 : decode cX3_isOfWord 31 = .ok (.iconst 0, 1) := by decide +kernel
theorem dX3_isOfWord_32 : decode cX3_isOfWord 32 = .ok (.ireturn, 1) := by decide +kernel
theorem dX3_isSign_0 : decode cX3_isSign 0 = .ok (.iload_n 0, 1) := by decide +kernel
theorem dX3_isSign_1 : decode cX3_isSign 1 = .ok (.invokestatic 117, 3) := by decide +kernel
theorem dX3_isSign_4 : decode cX3_isSign 4 = .ok (.ifCond .ne 45, 3) := by decide +kernel
theorem dX3_isSign_7 : decode cX3_isSign 7 = .ok (.iload_n 0, 1) := by decide +kernel
theorem dX3_isSign_8 : decode cX3_isSign 8 = .ok (.bipush 61, 2) := by decide +kernel
theorem dX3_isSign_10 : decode cX3_isSign 10 = .ok (.if_icmp .eq 39, 3) := by decide +kernel
theorem dX3_isSign_13 : decode cX3_isSign 13 = .ok (.iload_n 0, 1) := by decide +kernel
theorem dX3_isSign_14 : decode cX3_isSign 14 = .ok (.bipush 40, 2) := by decide +kernel
theorem dX3_isSign_16 : decode cX3_isSign 16 = .ok (.if_icmp .eq 33, 3) := by decide +kernel
theorem dX3_isSign_19 : decode cX3_isSign 19 = .ok (.iload_n 0, 1) := by decide +kernel
theorem dX3_isSign_20 : decode cX3_isSign 20 = .ok (.bipush 41, 2) := by decide +kernel
theorem dX3_isSign_22 : decode cX3_isSign 22 = .ok (.if_icmp .eq 27, 3) := by decide +kernel
theorem dX3_isSign_25 : decode cX3_isSign 25 = .ok (.iload_n 0, 1) := by decide +kernel
theorem dX3_isSign_26 : decode cX3_isSign 26 = .ok (.bipush 123, 2) := by decide +kernel
theorem dX3_isSign_28 : decode cX3_isSign 28 = .ok (.if_icmp .eq 21, 3) := by decide +kernel
theorem dX3_isSign_31 : decode cX3_isSign 31 = .ok (.iload_n 0, 1) := by decide +kernel
theorem dX3_isSign_32 : decode cX3_isSign 32 = .ok (.bipush 125, 2) := by decide +kernel
theorem dX3_isSign_34 : decode cX3_isSign 34 = .ok (.if_icmp .eq 15, 3) := by decide +kernel
theorem dX3_isSign_37 : decode cX3_isSign 37 = .ok (.iload_n 0, 1) := by decide +kernel
theorem dX3_isSign_38 : decode cX3_isSign 38 = .ok (.bipush 44, 2) := by decide +kernel
theorem dX3_isSign_40 : decode cX3_isSign 40 = .ok (.if_icmp .eq 9, 3) := by decide +kernel
theorem dX3_isSign_43 : decode cX3_isSign 43 = .ok (.iload_n 0, 1) := by decide +kernel
theorem dX3_isSign_44 : decode cX3_isSign 44 = .ok (.bipush 59, 2) := by decide +kernel
theorem dX3_isSign_46 : decode cX3_isSign 46 = .ok (.if_icmp .ne 7, 3) := by decide +kernel
theorem dX3_isSign_49 : decode cX3_isSign 49 = .ok (.iconst 1, 1) := by decide +kernel
theorem dX3_isSign_50 : decode cX3_isSign 50 = .ok (.goto 4, 3) := by decide +kernel
theorem dX3_isSign_53 : decode cX3_isSign 53 = .ok (.iconst 0, 1) := by decide +kernel
theorem dX3_isSign_54 : decode cX3_isSign 54 = .ok (.ireturn, 1) := by decide +kernel
theorem dX3_stands_0 : decode cX3_stands 0 = .ok (.aload_n 0, 1) := by decide +kernel
theorem dX3_stands_1 : decode cX3_stands 1 = .ok (.getfield 29, 3) := by decide +kernel
theorem dX3_stands_4 : decode cX3_stands 4 = .ok (.tableswitch 198 2 9 #[48, 69, 88, 124, 145, 150, 155, 175], 48) := by decide +kernel
theorem dX3_stands_52 : decode cX3_stands 52 = .ok (.aload_n 0, 1) := by decide +kernel
theorem dX3_stands_53 : decode cX3_stands 53 = .ok (.aload_n 0, 1) := by decide +kernel
theorem dX3_stands_54 : decode cX3_stands 54 = .ok (.getfield 45, 3) := by decide +kernel
theorem dX3_stands_57 : decode cX3_stands 57 = .ok (.bipush 61, 2) := by decide +kernel
theorem dX3_stands_59 : decode cX3_stands 59 = .ok (.if_icmp .ne 7, 3) := by decide +kernel
theorem dX3_stands_62 : decode cX3_stands 62 = .ok (.iconst 1, 1) := by decide +kernel
theorem dX3_stands_63 : decode cX3_stands 63 = .ok (.goto 4, 3) := by decide +kernel
theorem dX3_stands_66 : decode cX3_stands 66 = .ok (.iconst 0, 1) := by decide +kernel
theorem dX3_stands_67 : decode cX3_stands 67 = .ok (.bipush 6, 2) := by decide +kernel
theorem dX3_stands_69 : decode cX3_stands 69 = .ok (.invokevirtual 120, 3) := by decide +kernel
theorem dX3_stands_72 : decode cX3_stands 72 = .ok (.ireturn, 1) := by decide +kernel
theorem dX3_stands_73 : decode cX3_stands 73 = .ok (.aload_n 0, 1) := by decide +kernel
theorem dX3_stands_74 : decode cX3_stands 74 = .ok (.aload_n 0, 1) := by decide +kernel
theorem dX3_stands_75 : decode cX3_stands 75 = .ok (.getfield 45, 3) := by decide +kernel
theorem dX3_stands_78 : decode cX3_stands 78 = .ok (.iconst 1, 1) := by decide +kernel
theorem dX3_stands_79 : decode cX3_stands 79 = .ok (.if_icmp .ne 7, 3) := by decide +kernel
theorem dX3_stands_82 : decode cX3_stands 82 = .ok (.iconst 1, 1) := by decide +kernel
theorem dX3_stands_83 : decode cX3_stands 83 = .ok (.goto 4, 3) := by decide +kernel
theorem dX3_stands_86 : decode cX3_stands 86 = .ok (.iconst 0, 1) := by decide +kernel
theorem dX3_stands_87 : decode cX3_stands 87 = .ok (.iconst 4, 1) := by decide +kernel
theorem dX3_stands_88 : decode cX3_stands 88 = .ok (.invokevirtual 120, 3) := by decide +kernel
theorem dX3_stands_91 : decode cX3_stands 91 = .ok (.ireturn, 1) := by decide +kernel
theorem dX3_stands_92 : decode cX3_stands 92 = .ok (.aload_n 0, 1) := by decide +kernel
theorem dX3_stands_93 : decode cX3_stands 93 = .ok (.aload_n 0, 1) := by decide +kernel
theorem dX3_stands_94 : decode cX3_stands 94 = .ok (.getfield 45, 3) := by decide +kernel
theorem dX3_stands_97 : decode cX3_stands 97 = .ok (.bipush 40, 2) := by decide +kernel
theorem dX3_stands_99 : decode cX3_stands 99 = .ok (.if_icmp .ne 7, 3) := by decide +kernel
theorem dX3_stands_102 : decode cX3_stands 102 = .ok (.iconst 1, 1) := by decide +kernel
theorem dX3_stands_103 : decode cX3_stands 103 = .ok (.goto 4, 3) := by decide +kernel
theorem dX3_stands_106 : decode cX3_stands 106 = .ok (.iconst 0, 1) := by decide +kernel
theorem dX3_stands_107 : decode cX3_stands 107 = .ok (.iconst 5, 1) := by decide +kernel
theorem dX3_stands_108 : decode cX3_stands 108 = .ok (.invokevirtual 120, 3) := by decide +kernel
theorem dX3_stands_111 : decode cX3_stands 111 = .ok (.ifCond .eq 15, 3) := by decide +kernel
theorem dX3_stands_114 : decode cX3_stands 114 = .ok (.aload_n 0, 1) := by decide +kernel
theorem dX3_stands_115 : decode cX3_stands 115 = .ok (.iconst 1, 1) := by decide +kernel
theorem dX3_stands_116 : decode cX3_stands 116 = .ok (.invokevirtual 124, 3) := by decide +kernel
theorem dX3_stands_119 : decode cX3_stands 119 = .ok (.ifCond .eq 7, 3) := by decide +kernel
theorem dX3_stands_122 : decode cX3_stands 122 = .ok (.iconst 1, 1) := by decide +kernel
theorem dX3_stands_123 : decode cX3_stands 123 = .ok (.goto 4, 3) := by decide +kernel
theorem dX3_stands_126 : decode cX3_stands 126 = .ok (.iconst 0, 1) := by decide +kernel
theorem dX3_stands_127 : decode cX3_stands 127 = .ok (.ireturn, 1) := by decide +kernel
theorem dX3_stands_128 : decode cX3_stands 128 = .ok (.aload_n 0, 1) := by decide +kernel
theorem dX3_stands_129 : decode cX3_stands 129 = .ok (.getfield 45, 3) := by decide +kernel
theorem dX3_stands_132 : decode cX3_stands 132 = .ok (.bipush 41, 2) := by decide +kernel
theorem dX3_stands_134 : decode cX3_stands 134 = .ok (.if_icmp .ne 10, 3) := by decide +kernel
theorem dX3_stands_137 : decode cX3_stands 137 = .ok (.aload_n 0, 1) := by decide +kernel
theorem dX3_stands_138 : decode cX3_stands 138 = .ok (.invokevirtual 127, 3) := by decide +kernel
theorem dX3_stands_141 : decode cX3_stands 141 = .ok (.goto 7, 3) := by decide +kernel
theorem dX3_stands_144 : decode cX3_stands 144 = .ok (.aload_n 0, 1) := by decide +kernel
theorem dX3_stands_145 : decode cX3_stands 145 = .ok (.invokevirtual 130, 3) := by decide +kernel
theorem dX3_stands_148 : decode cX3_stands 148 = .ok (.ireturn, 1) := by decide +kernel
theorem dX3_stands_149 : decode cX3_stands 149 = .ok (.aload_n 0, 1) := by decide +kernel
theorem dX3_stands_150 : decode cX3_stands 150 = .ok (.invokevirtual 130, 3) := by decide +kernel
theorem dX3_stands_153 : decode cX3_stands 153 = .ok (.ireturn, 1) := by decide +kernel
theorem dX3_stands_154 : decode cX3_stands 154 = .ok (.aload_n 0, 1) := by decide +kernel
theorem dX3_stands_155 : decode cX3_stands 155 = .ok (.invokevirtual 133, 3) := by decide +kernel
theorem dX3_stands_158 : decode cX3_stands 158 = .ok (.ireturn, 1) := by decide +kernel
theorem dX3_stands_159 : decode cX3_stands 159 = .ok (.aload_n 0, 1) := by decide +kernel
theorem dX3_stands_160 : decode cX3_stands 160 = .ok (.aload_n 0, 1) := by decide +kernel
theorem dX3_stands_161 : decode cX3_stands 161 = .ok (.getfield 45, 3) := by decide +kernel
theorem dX3_stands_164 : decode cX3_stands 164 = .ok (.bipush 59, 2) := by decide +kernel
theorem dX3_stands_166 : decode cX3_stands 166 = .ok (.if_icmp .ne 7, 3) := by decide +kernel
theorem dX3_stands_169 : decode cX3_stands 169 = .ok (.iconst 1, 1) := by decide +kernel
theorem dX3_stands_170 : decode cX3_stands 170 = .ok (.goto 4, 3) := by decide +kernel
theorem dX3_stands_173 : decode cX3_stands 173 = .ok (.iconst 0, 1) := by decide +kernel
theorem dX3_stands_174 : decode cX3_stands 174 = .ok (.iconst 0, 1) := by decide +kernel
theorem dX3_stands_175 : decode cX3_stands 175 = .ok (.invokevirtual 120, 3) := by decide +kernel
theorem dX3_stands_178 : decode cX3_stands 178 = .ok (.ireturn, 1) := by decide +kernel
theorem dX3_stands_179 : decode cX3_stands 179 = .ok (.aload_n 0, 1) := by decide +kernel
theorem dX3_stands_180 : decode cX3_stands 180 = .ok (.getfield 45, 3) := by decide +kernel
theorem dX3_stands_183 : decode cX3_stands 183 = .ok (.bipush 123, 2) := by decide +kernel
theorem dX3_stands_185 : decode cX3_stands 185 = .ok (.if_icmp .ne 15, 3) := by decide +kernel
theorem dX3_stands_188 : decode cX3_stands 188 = .ok (.aload_n 0, 1) := by decide +kernel
theorem dX3_stands_189 : decode cX3_stands 189 = .ok (.iconst 3, 1) := by decide +kernel
theorem dX3_stands_190 : decode cX3_stands 190 = .ok (.invokevirtual 136, 3) := by decide +kernel
theorem dX3_stands_193 : decode cX3_stands 193 = .ok (.ifCond .eq 7, 3) := by decide +kernel
theorem dX3_stands_196 : decode cX3_stands 196 = .ok (.iconst 1, 1) := by decide +kernel
theorem dX3_stands_197 : decode cX3_stands 197 = .ok (.goto 4, 3) := by decide +kernel
theorem dX3_stands_200 : decode cX3_stands 200 = .ok (.iconst 0, 1) := by decide +kernel
theorem dX3_stands_201 : decode cX3_stands 201 = .ok (.ireturn, 1) := by decide +kernel
theorem dX3_stands_202 : decode cX3_stands 202 = .ok (.aload_n 0, 1) := by decide +kernel
theorem dX3_stands_203 : decode cX3_stands 203 = .ok (.invokevirtual 139, 3) := by decide +kernel
theorem dX3_stands_206 : decode cX3_stands 206 = .ok (.ireturn, 1) := by decide +kernel
theorem dX3_expect_0 : decode cX3_expect 0 = .ok (.iload_n 1, 1) := by decide +kernel
theorem dX3_expect_1 : decode cX3_expect 1 = .ok (.ifCond .eq 8, 3) := by decide +kernel
theorem dX3_expect_4 : decode cX3_expect 4 = .ok (.aload_n 0, 1) := by decide +kernel
theorem dX3_expect_5 : decode cX3_expect 5 = .ok (.iload_n 2, 1) := by decide +kernel
theorem dX3_expect_6 : decode cX3_expect 6 = .ok (.putfield 29, 3) := by decide +kernel
theorem dX3_expect_9 : decode cX3_expect 9 = .ok (.iload_n 1, 1) := by decide +kernel
theorem dX3_expect_10 : decode cX3_expect 10 = .ok (.ireturn, 1) := by decide +kernel
theorem dX3_startStatement_0 : decode cX3_startStatement 0 = .ok (.aload_n 0, 1) := by decide +kernel
theorem dX3_startStatement_1 : decode cX3_startStatement 1 = .ok (.getfield 45, 3) := by decide +kernel
theorem dX3_startStatement_4 : decode cX3_startStatement 4 = .ok (.lookupswitch 115 #[(1, 60), (3, 74), (4, 90), (5, 82), (6, 67), (125, 110)], 60) := by decide +kernel
theorem dX3_startStatement_64 : decode cX3_startStatement 64 = .ok (.aload_n 0, 1) := by decide +kernel
theorem dX3_startStatement_65 : decode cX3_startStatement 65 = .ok (.iconst 0, 1) := by decide +kernel
theorem dX3_startStatement_66 : decode cX3_startStatement 66 = .ok (.iconst 2, 1) := by decide +kernel
theorem dX3_startStatement_67 : decode cX3_startStatement 67 = .ok (.invokevirtual 142, 3) := by decide +kernel
theorem dX3_startStatement_70 : decode cX3_startStatement 70 = .ok (.ireturn, 1) := by decide +kernel
theorem dX3_startStatement_71 : decode cX3_startStatement 71 = .ok (.aload_n 0, 1) := by decide +kernel
theorem dX3_startStatement_72 : decode cX3_startStatement 72 = .ok (.iconst 1, 1) := by decide +kernel
theorem dX3_startStatement_73 : decode cX3_startStatement 73 = .ok (.iconst 3, 1) := by decide +kernel
theorem dX3_startStatement_74 : decode cX3_startStatement 74 = .ok (.invokevirtual 142, 3) := by decide +kernel
theorem dX3_startStatement_77 : decode cX3_startStatement 77 = .ok (.ireturn, 1) := by decide +kernel
theorem dX3_startStatement_78 : decode cX3_startStatement 78 = .ok (.aload_n 0, 1) := by decide +kernel
theorem dX3_startStatement_79 : decode cX3_startStatement 79 = .ok (.iconst 2, 1) := by decide +kernel
theorem dX3_startStatement_80 : decode cX3_startStatement 80 = .ok (.bipush 6, 2) := by decide +kernel
theorem dX3_startStatement_82 : decode cX3_startStatement 82 = .ok (.invokevirtual 142, 3) := by decide +kernel
theorem dX3_startStatement_85 : decode cX3_startStatement 85 = .ok (.ireturn, 1) := by decide +kernel
theorem dX3_startStatement_86 : decode cX3_startStatement 86 = .ok (.aload_n 0, 1) := by decide +kernel
theorem dX3_startStatement_87 : decode cX3_startStatement 87 = .ok (.iconst 3, 1) := by decide +kernel
theorem dX3_startStatement_88 : decode cX3_startStatement 88 = .ok (.bipush 6, 2) := by decide +kernel
theorem dX3_startStatement_90 : decode cX3_startStatement 90 = .ok (.invokevirtual 142, 3) := by decide +kernel
theorem dX3_startStatement_93 : decode cX3_startStatement 93 = .ok (.ireturn, 1) := by decide +kernel
theorem dX3_startStatement_94 : decode cX3_startStatement 94 = .ok (.aload_n 0, 1) := by decide +kernel
theorem dX3_startStatement_95 : decode cX3_startStatement 95 = .ok (.aload_n 0, 1) := by decide +kernel
theorem dX3_startStatement_96 : decode cX3_startStatement 96 = .ok (.getfield 29, 3) := by decide +kernel
theorem dX3_startStatement_99 : decode cX3_startStatement 99 = .ok (.iconst 1, 1) := by decide +kernel
theorem dX3_startStatement_100 : decode cX3_startStatement 100 = .ok (.if_icmp .ne 7, 3) := by decide +kernel
theorem dX3_startStatement_103 : decode cX3_startStatement 103 = .ok (.iconst 1, 1) := by decide +kernel
theorem dX3_startStatement_104 : decode cX3_startStatement 104 = .ok (.goto 4, 3) := by decide +kernel
theorem dX3_startStatement_107 : decode cX3_startStatement 107 = .ok (.iconst 0, 1) := by decide +kernel
theorem dX3_startStatement_108 : decode cX3_startStatement 108 = .ok (.bipush 9, 2) := by decide +kernel
theorem dX3_startStatement_110 : decode cX3_startStatement 110 = .ok (.invokevirtual 120, 3) := by decide +kernel
theorem dX3_startStatement_113 : decode cX3_startStatement 113 = .ok (.ireturn, 1) := by decide +kernel
theorem dX3_startStatement_114 : decode cX3_startStatement 114 = .ok (.aload_n 0, 1) := by decide +kernel
theorem dX3_startStatement_115 : decode cX3_startStatement 115 = .ok (.invokevirtual 146, 3) := by decide +kernel
theorem dX3_startStatement_118 : decode cX3_startStatement 118 = .ok (.ireturn, 1) := by decide +kernel
theorem dX3_startStatement_119 : decode cX3_startStatement 119 = .ok (.iconst 0, 1) := by decide +kernel
theorem dX3_startStatement_120 : decode cX3_startStatement 120 = .ok (.ireturn, 1) := by decide +kernel
theorem dX3_ownStatement_0 : decode cX3_ownStatement 0 = .ok (.aload_n 0, 1) := by decide +kernel
theorem dX3_ownStatement_1 : decode cX3_ownStatement 1 = .ok (.iload_n 1, 1) := by decide +kernel
theorem dX3_ownStatement_2 : decode cX3_ownStatement 2 = .ok (.putfield 32, 3) := by decide +kernel
theorem dX3_ownStatement_5 : decode cX3_ownStatement 5 = .ok (.aload_n 0, 1) := by decide +kernel
theorem dX3_ownStatement_6 : decode cX3_ownStatement 6 = .ok (.dup, 1) := by decide +kernel
theorem dX3_ownStatement_7 : decode cX3_ownStatement 7 = .ok (.getfield 35, 3) := by decide +kernel
theorem dX3_ownStatement_10 : decode cX3_ownStatement 10 = .ok (.iconst 1, 1) := by decide +kernel
theorem dX3_ownStatement_11 : decode cX3_ownStatement 11 = .ok (.iadd, 1) := by decide +kernel
theorem dX3_ownStatement_12 : decode cX3_ownStatement 12 = .ok (.putfield 35, 3) := by decide +kernel
theorem dX3_ownStatement_15 : decode cX3_ownStatement 15 = .ok (.aload_n 0, 1) := by decide +kernel
theorem dX3_ownStatement_16 : decode cX3_ownStatement 16 = .ok (.iload_n 2, 1) := by decide +kernel
theorem dX3_ownStatement_17 : decode cX3_ownStatement 17 = .ok (.putfield 29, 3) := by decide +kernel
theorem dX3_ownStatement_20 : decode cX3_ownStatement 20 = .ok (.iconst 1, 1) := by decide +kernel
theorem dX3_ownStatement_21 : decode cX3_ownStatement 21 = .ok (.ireturn, 1) := by decide +kernel
theorem dX3_startPart_0 : decode cX3_startPart 0 = .ok (.aload_n 0, 1) := by decide +kernel
theorem dX3_startPart_1 : decode cX3_startPart 1 = .ok (.getfield 45, 3) := by decide +kernel
theorem dX3_startPart_4 : decode cX3_startPart 4 = .ok (.bipush 40, 2) := by decide +kernel
theorem dX3_startPart_6 : decode cX3_startPart 6 = .ok (.if_icmp .ne 15, 3) := by decide +kernel
theorem dX3_startPart_9 : decode cX3_startPart 9 = .ok (.aload_n 0, 1) := by decide +kernel
theorem dX3_startPart_10 : decode cX3_startPart 10 = .ok (.bipush 6, 2) := by decide +kernel
theorem dX3_startPart_12 : decode cX3_startPart 12 = .ok (.putfield 29, 3) := by decide +kernel
theorem dX3_startPart_15 : decode cX3_startPart 15 = .ok (.aload_n 0, 1) := by decide +kernel
theorem dX3_startPart_16 : decode cX3_startPart 16 = .ok (.iconst 0, 1) := by decide +kernel
theorem dX3_startPart_17 : decode cX3_startPart 17 = .ok (.invokevirtual 124, 3) := by decide +kernel
theorem dX3_startPart_20 : decode cX3_startPart 20 = .ok (.ireturn, 1) := by decide +kernel
theorem dX3_startPart_21 : decode cX3_startPart 21 = .ok (.aload_n 0, 1) := by decide +kernel
theorem dX3_startPart_22 : decode cX3_startPart 22 = .ok (.aload_n 0, 1) := by decide +kernel
theorem dX3_startPart_23 : decode cX3_startPart 23 = .ok (.getfield 45, 3) := by decide +kernel
theorem dX3_startPart_26 : decode cX3_startPart 26 = .ok (.iconst 1, 1) := by decide +kernel
theorem dX3_startPart_27 : decode cX3_startPart 27 = .ok (.if_icmp .eq 11, 3) := by decide +kernel
theorem dX3_startPart_30 : decode cX3_startPart 30 = .ok (.aload_n 0, 1) := by decide +kernel
theorem dX3_startPart_31 : decode cX3_startPart 31 = .ok (.getfield 45, 3) := by decide +kernel
theorem dX3_startPart_34 : decode cX3_startPart 34 = .ok (.iconst 2, 1) := by decide +kernel
theorem dX3_startPart_35 : decode cX3_startPart 35 = .ok (.if_icmp .ne 7, 3) := by decide +kernel
theorem dX3_startPart_38 : decode cX3_startPart 38 = .ok (.iconst 1, 1) := by decide +kernel
theorem dX3_startPart_39 : decode cX3_startPart 39 = .ok (.goto 4, 3) := by decide +kernel
theorem dX3_startPart_42 : decode cX3_startPart 42 = .ok (.iconst 0, 1) := by decide +kernel
theorem dX3_startPart_43 : decode cX3_startPart 43 = .ok (.bipush 7, 2) := by decide +kernel
theorem dX3_startPart_45 : decode cX3_startPart 45 = .ok (.invokevirtual 120, 3) := by decide +kernel
theorem dX3_startPart_48 : decode cX3_startPart 48 = .ok (.ireturn, 1) := by decide +kernel
theorem dX3_goOnBehindPart_0 : decode cX3_goOnBehindPart 0 = .ok (.aload_n 0, 1) := by decide +kernel
theorem dX3_goOnBehindPart_1 : decode cX3_goOnBehindPart 1 = .ok (.getfield 45, 3) := by decide +kernel
theorem dX3_goOnBehindPart_4 : decode cX3_goOnBehindPart 4 = .ok (.invokestatic 117, 3) := by decide +kernel
theorem dX3_goOnBehindPart_7 : decode cX3_goOnBehindPart 7 = .ok (.ifCond .eq 11, 3) := by decide +kernel
theorem dX3_goOnBehindPart_10 : decode cX3_goOnBehindPart 10 = .ok (.aload_n 0, 1) := by decide +kernel
theorem dX3_goOnBehindPart_11 : decode cX3_goOnBehindPart 11 = .ok (.bipush 6, 2) := by decide +kernel
theorem dX3_goOnBehindPart_13 : decode cX3_goOnBehindPart 13 = .ok (.putfield 29, 3) := by decide +kernel
theorem dX3_goOnBehindPart_16 : decode cX3_goOnBehindPart 16 = .ok (.iconst 1, 1) := by decide +kernel
theorem dX3_goOnBehindPart_17 : decode cX3_goOnBehindPart 17 = .ok (.ireturn, 1) := by decide +kernel
theorem dX3_goOnBehindPart_18 : decode cX3_goOnBehindPart 18 = .ok (.aload_n 0, 1) := by decide +kernel
theorem dX3_goOnBehindPart_19 : decode cX3_goOnBehindPart 19 = .ok (.invokevirtual 149, 3) := by decide +kernel
theorem dX3_goOnBehindPart_22 : decode cX3_goOnBehindPart 22 = .ok (.ifCond .ne 25, 3) := by decide +kernel
theorem dX3_goOnBehindPart_25 : decode cX3_goOnBehindPart 25 = .ok (.aload_n 0, 1) := by decide +kernel
theorem dX3_goOnBehindPart_26 : decode cX3_goOnBehindPart 26 = .ok (.getfield 45, 3) := by decide +kernel
theorem dX3_goOnBehindPart_29 : decode cX3_goOnBehindPart 29 = .ok (.bipush 41, 2) := by decide +kernel
theorem dX3_goOnBehindPart_31 : decode cX3_goOnBehindPart 31 = .ok (.if_icmp .ne 14, 3) := by decide +kernel
theorem dX3_goOnBehindPart_34 : decode cX3_goOnBehindPart 34 = .ok (.aload_n 0, 1) := by decide +kernel
theorem dX3_goOnBehindPart_35 : decode cX3_goOnBehindPart 35 = .ok (.invokevirtual 127, 3) := by decide +kernel
theorem dX3_goOnBehindPart_38 : decode cX3_goOnBehindPart 38 = .ok (.ifCond .eq 7, 3) := by decide +kernel
theorem dX3_goOnBehindPart_41 : decode cX3_goOnBehindPart 41 = .ok (.iconst 1, 1) := by decide +kernel
theorem dX3_goOnBehindPart_42 : decode cX3_goOnBehindPart 42 = .ok (.goto 4, 3) := by decide +kernel
theorem dX3_goOnBehindPart_45 : decode cX3_goOnBehindPart 45 = .ok (.iconst 0, 1) := by decide +kernel
theorem dX3_goOnBehindPart_46 : decode cX3_goOnBehindPart 46 = .ok (.ireturn, 1) := by decide +kernel
theorem dX3_goOnBehindPart_47 : decode cX3_goOnBehindPart 47 = .ok (.aload_n 0, 1) := by decide +kernel
theorem dX3_goOnBehindPart_48 : decode cX3_goOnBehindPart 48 = .ok (.invokevirtual 149, 3) := by decide +kernel
theorem dX3_goOnBehindPart_51 : decode cX3_goOnBehindPart 51 = .ok (.iconst 1, 1) := by decide +kernel
theorem dX3_goOnBehindPart_52 : decode cX3_goOnBehindPart 52 = .ok (.if_icmp .ne 40, 3) := by decide +kernel
theorem dX3_goOnBehindPart_55 : decode cX3_goOnBehindPart 55 = .ok (.aload_n 0, 1) := by decide +kernel
theorem dX3_goOnBehindPart_56 : decode cX3_goOnBehindPart 56 = .ok (.getfield 45, 3) := by decide +kernel
theorem dX3_goOnBehindPart_59 : decode cX3_goOnBehindPart 59 = .ok (.bipush 41, 2) := by decide +kernel
theorem dX3_goOnBehindPart_61 : decode cX3_goOnBehindPart 61 = .ok (.if_icmp .ne 10, 3) := by decide +kernel
theorem dX3_goOnBehindPart_64 : decode cX3_goOnBehindPart 64 = .ok (.aload_n 0, 1) := by decide +kernel
theorem dX3_goOnBehindPart_65 : decode cX3_goOnBehindPart 65 = .ok (.invokevirtual 127, 3) := by decide +kernel
theorem dX3_goOnBehindPart_68 : decode cX3_goOnBehindPart 68 = .ok (.goto 23, 3) := by decide +kernel
theorem dX3_goOnBehindPart_71 : decode cX3_goOnBehindPart 71 = .ok (.aload_n 0, 1) := by decide +kernel
theorem dX3_goOnBehindPart_72 : decode cX3_goOnBehindPart 72 = .ok (.aload_n 0, 1) := by decide +kernel
theorem dX3_goOnBehindPart_73 : decode cX3_goOnBehindPart 73 = .ok (.getfield 45, 3) := by decide +kernel
theorem dX3_goOnBehindPart_76 : decode cX3_goOnBehindPart 76 = .ok (.bipush 44, 2) := by decide +kernel
theorem dX3_goOnBehindPart_78 : decode cX3_goOnBehindPart 78 = .ok (.if_icmp .ne 7, 3) := by decide +kernel
theorem dX3_goOnBehindPart_81 : decode cX3_goOnBehindPart 81 = .ok (.iconst 1, 1) := by decide +kernel
theorem dX3_goOnBehindPart_82 : decode cX3_goOnBehindPart 82 = .ok (.goto 4, 3) := by decide +kernel
theorem dX3_goOnBehindPart_85 : decode cX3_goOnBehindPart 85 = .ok (.iconst 0, 1) := by decide +kernel
theorem dX3_goOnBehindPart_86 : decode cX3_goOnBehindPart 86 = .ok (.bipush 6, 2) := by decide +kernel
theorem dX3_goOnBehindPart_88 : decode cX3_goOnBehindPart 88 = .ok (.invokevirtual 120, 3) := by decide +kernel
theorem dX3_goOnBehindPart_91 : decode cX3_goOnBehindPart 91 = .ok (.ireturn, 1) := by decide +kernel
theorem dX3_goOnBehindPart_92 : decode cX3_goOnBehindPart 92 = .ok (.aload_n 0, 1) := by decide +kernel
theorem dX3_goOnBehindPart_93 : decode cX3_goOnBehindPart 93 = .ok (.getfield 32, 3) := by decide +kernel
theorem dX3_goOnBehindPart_96 : decode cX3_goOnBehindPart 96 = .ok (.ifCond .ne 23, 3) := by decide +kernel
theorem dX3_goOnBehindPart_99 : decode cX3_goOnBehindPart 99 = .ok (.aload_n 0, 1) := by decide +kernel
theorem dX3_goOnBehindPart_100 : decode cX3_goOnBehindPart 100 = .ok (.aload_n 0, 1) := by decide +kernel
theorem dX3_goOnBehindPart_101 : decode cX3_goOnBehindPart 101 = .ok (.getfield 45, 3) := by decide +kernel
theorem dX3_goOnBehindPart_104 : decode cX3_goOnBehindPart 104 = .ok (.bipush 59, 2) := by decide +kernel
theorem dX3_goOnBehindPart_106 : decode cX3_goOnBehindPart 106 = .ok (.if_icmp .ne 7, 3) := by decide +kernel
theorem dX3_goOnBehindPart_109 : decode cX3_goOnBehindPart 109 = .ok (.iconst 1, 1) := by decide +kernel
theorem dX3_goOnBehindPart_110 : decode cX3_goOnBehindPart 110 = .ok (.goto 4, 3) := by decide +kernel
theorem dX3_goOnBehindPart_113 : decode cX3_goOnBehindPart 113 = .ok (.iconst 0, 1) := by decide +kernel
theorem dX3_goOnBehindPart_114 : decode cX3_goOnBehindPart 114 = .ok (.iconst 0, 1) := by decide +kernel
theorem dX3_goOnBehindPart_115 : decode cX3_goOnBehindPart 115 = .ok (.invokevirtual 120, 3) := by decide +kernel
theorem dX3_goOnBehindPart_118 : decode cX3_goOnBehindPart 118 = .ok (.ireturn, 1) := by decide +kernel
theorem dX3_goOnBehindPart_119 : decode cX3_goOnBehindPart 119 = .ok (.aload_n 0, 1) := by decide +kernel
theorem dX3_goOnBehindPart_120 : decode cX3_goOnBehindPart 120 = .ok (.getfield 45, 3) := by decide +kernel
theorem dX3_goOnBehindPart_123 : decode cX3_goOnBehindPart 123 = .ok (.bipush 123, 2) := by decide +kernel
theorem dX3_goOnBehindPart_125 : decode cX3_goOnBehindPart 125 = .ok (.if_icmp .ne 27, 3) := by decide +kernel
theorem dX3_goOnBehindPart_128 : decode cX3_goOnBehindPart 128 = .ok (.aload_n 0, 1) := by decide +kernel
theorem dX3_goOnBehindPart_129 : decode cX3_goOnBehindPart 129 = .ok (.aload_n 0, 1) := by decide +kernel
theorem dX3_goOnBehindPart_130 : decode cX3_goOnBehindPart 130 = .ok (.getfield 32, 3) := by decide +kernel
theorem dX3_goOnBehindPart_133 : decode cX3_goOnBehindPart 133 = .ok (.iconst 2, 1) := by decide +kernel
theorem dX3_goOnBehindPart_134 : decode cX3_goOnBehindPart 134 = .ok (.if_icmp .ne 7, 3) := by decide +kernel
theorem dX3_goOnBehindPart_137 : decode cX3_goOnBehindPart 137 = .ok (.iconst 2, 1) := by decide +kernel
theorem dX3_goOnBehindPart_138 : decode cX3_goOnBehindPart 138 = .ok (.goto 4, 3) := by decide +kernel
theorem dX3_goOnBehindPart_141 : decode cX3_goOnBehindPart 141 = .ok (.iconst 4, 1) := by decide +kernel
theorem dX3_goOnBehindPart_142 : decode cX3_goOnBehindPart 142 = .ok (.invokevirtual 136, 3) := by decide +kernel
theorem dX3_goOnBehindPart_145 : decode cX3_goOnBehindPart 145 = .ok (.ifCond .eq 7, 3) := by decide +kernel
theorem dX3_goOnBehindPart_148 : decode cX3_goOnBehindPart 148 = .ok (.iconst 1, 1) := by decide +kernel
theorem dX3_goOnBehindPart_149 : decode cX3_goOnBehindPart 149 = .ok (.goto 4, 3) := by decide +kernel
theorem dX3_goOnBehindPart_152 : decode cX3_goOnBehindPart 152 = .ok (.iconst 0, 1) := by decide +kernel
theorem dX3_goOnBehindPart_153 : decode cX3_goOnBehindPart 153 = .ok (.ireturn, 1) := by decide +kernel
theorem dX3_startBlock_0 : decode cX3_startBlock 0 = .ok (.aload_n 0, 1) := by decide +kernel
theorem dX3_startBlock_1 : decode cX3_startBlock 1 = .ok (.iconst 0, 1) := by decide +kernel
theorem dX3_startBlock_2 : decode cX3_startBlock 2 = .ok (.putfield 29, 3) := by decide +kernel
theorem dX3_startBlock_5 : decode cX3_startBlock 5 = .ok (.aload_n 0, 1) := by decide +kernel
theorem dX3_startBlock_6 : decode cX3_startBlock 6 = .ok (.dup, 1) := by decide +kernel
theorem dX3_startBlock_7 : decode cX3_startBlock 7 = .ok (.getfield 22, 3) := by decide +kernel
theorem dX3_startBlock_10 : decode cX3_startBlock 10 = .ok (.iconst 1, 1) := by decide +kernel
theorem dX3_startBlock_11 : decode cX3_startBlock 11 = .ok (.iadd, 1) := by decide +kernel
theorem dX3_startBlock_12 : decode cX3_startBlock 12 = .ok (.putfield 22, 3) := by decide +kernel
theorem dX3_startBlock_15 : decode cX3_startBlock 15 = .ok (.aload_n 0, 1) := by decide +kernel
theorem dX3_startBlock_16 : decode cX3_startBlock 16 = .ok (.iload_n 1, 1) := by decide +kernel
theorem dX3_startBlock_17 : decode cX3_startBlock 17 = .ok (.invokevirtual 124, 3) := by decide +kernel
theorem dX3_startBlock_20 : decode cX3_startBlock 20 = .ok (.ireturn, 1) := by decide +kernel
theorem dX3_innermost_0 : decode cX3_innermost 0 = .ok (.aload_n 0, 1) := by decide +kernel
theorem dX3_innermost_1 : decode cX3_innermost 1 = .ok (.getfield 19, 3) := by decide +kernel
theorem dX3_innermost_4 : decode cX3_innermost 4 = .ok (.ifCond .le 29, 3) := by decide +kernel
theorem dX3_innermost_7 : decode cX3_innermost 7 = .ok (.aload_n 0, 1) := by decide +kernel
theorem dX3_innermost_8 : decode cX3_innermost 8 = .ok (.getfield 19, 3) := by decide +kernel
theorem dX3_innermost_11 : decode cX3_innermost 11 = .ok (.aload_n 0, 1) := by decide +kernel
theorem dX3_innermost_12 : decode cX3_innermost 12 = .ok (.getfield 9, 3) := by decide +kernel
theorem dX3_innermost_15 : decode cX3_innermost 15 = .ok (.arraylength, 1) := by decide +kernel
theorem dX3_innermost_16 : decode cX3_innermost 16 = .ok (.if_icmp .gt 17, 3) := by decide +kernel
theorem dX3_innermost_19 : decode cX3_innermost 19 = .ok (.aload_n 0, 1) := by decide +kernel
theorem dX3_innermost_20 : decode cX3_innermost 20 = .ok (.getfield 9, 3) := by decide +kernel
theorem dX3_innermost_23 : decode cX3_innermost 23 = .ok (.aload_n 0, 1) := by decide +kernel
theorem dX3_innermost_24 : decode cX3_innermost 24 = .ok (.getfield 19, 3) := by decide +kernel
theorem dX3_innermost_27 : decode cX3_innermost 27 = .ok (.iconst 1, 1) := by decide +kernel
theorem dX3_innermost_28 : decode cX3_innermost 28 = .ok (.isub, 1) := by decide +kernel
theorem dX3_innermost_29 : decode cX3_innermost 29 = .ok (.iaload, 1) := by decide +kernel
theorem dX3_innermost_30 : decode cX3_innermost 30 = .ok (.goto 4, 3) := by decide +kernel
theorem dX3_innermost_33 : decode cX3_innermost 33 = .ok (.iconst (-1), 1) := by decide +kernel
theorem dX3_innermost_34 : decode cX3_innermost 34 = .ok (.ireturn, 1) := by decide +kernel
theorem dX3_push_0 : decode cX3_push 0 = .ok (.aload_n 0, 1) := by decide +kernel
theorem dX3_push_1 : decode cX3_push 1 = .ok (.getfield 19, 3) := by decide +kernel
theorem dX3_push_4 : decode cX3_push 4 = .ok (.aload_n 0, 1) := by decide +kernel
theorem dX3_push_5 : decode cX3_push 5 = .ok (.getfield 9, 3) := by decide +kernel
theorem dX3_push_8 : decode cX3_push 8 = .ok (.arraylength, 1) := by decide +kernel
theorem dX3_push_9 : decode cX3_push 9 = .ok (.if_icmp .ge 26, 3) := by decide +kernel
theorem dX3_push_12 : decode cX3_push 12 = .ok (.aload_n 0, 1) := by decide +kernel
theorem dX3_push_13 : decode cX3_push 13 = .ok (.getfield 9, 3) := by decide +kernel
theorem dX3_push_16 : decode cX3_push 16 = .ok (.aload_n 0, 1) := by decide +kernel
theorem dX3_push_17 : decode cX3_push 17 = .ok (.getfield 19, 3) := by decide +kernel
theorem dX3_push_20 : decode cX3_push 20 = .ok (.iload_n 1, 1) := by decide +kernel
theorem dX3_push_21 : decode cX3_push 21 = .ok (.iastore, 1) := by decide +kernel
theorem dX3_push_22 : decode cX3_push 22 = .ok (.aload_n 0, 1) := by decide +kernel
theorem dX3_push_23 : decode cX3_push 23 = .ok (.dup, 1) := by decide +kernel
theorem dX3_push_24 : decode cX3_push 24 = .ok (.getfield 19, 3) := by decide +kernel
theorem dX3_push_27 : decode cX3_push 27 = .ok (.iconst 1, 1) := by decide +kernel
theorem dX3_push_28 : decode cX3_push 28 = .ok (.iadd, 1) := by decide +kernel
theorem dX3_push_29 : decode cX3_push 29 = .ok (.putfield 19, 3) := by decide +kernel
theorem dX3_push_32 : decode cX3_push 32 = .ok (.goto 8, 3) := by decide +kernel
theorem dX3_push_35 : decode cX3_push 35 = .ok (.aload_n 0, 1) := by decide +kernel
theorem dX3_push_36 : decode cX3_push 36 = .ok (.iconst 1, 1) := by decide +kernel
theorem dX3_push_37 : decode cX3_push 37 = .ok (.putfield 25, 3) := by decide +kernel
theorem dX3_push_40 : decode cX3_push 40 = .ok (.iconst 1, 1) := by decide +kernel
theorem dX3_push_41 : decode cX3_push 41 = .ok (.ireturn, 1) := by decide +kernel
theorem dX3_endBracket_0 : decode cX3_endBracket 0 = .ok (.aload_n 0, 1) := by decide +kernel
theorem dX3_endBracket_1 : decode cX3_endBracket 1 = .ok (.aload_n 0, 1) := by decide +kernel
theorem dX3_endBracket_2 : decode cX3_endBracket 2 = .ok (.invokevirtual 149, 3) := by decide +kernel
theorem dX3_endBracket_5 : decode cX3_endBracket 5 = .ok (.iconst 1, 1) := by decide +kernel
theorem dX3_endBracket_6 : decode cX3_endBracket 6 = .ok (.if_icmp .ne 8, 3) := by decide +kernel
theorem dX3_endBracket_9 : decode cX3_endBracket 9 = .ok (.bipush 8, 2) := by decide +kernel
theorem dX3_endBracket_11 : decode cX3_endBracket 11 = .ok (.goto 5, 3) := by decide +kernel
theorem dX3_endBracket_14 : decode cX3_endBracket 14 = .ok (.bipush 7, 2) := by decide +kernel
theorem dX3_endBracket_16 : decode cX3_endBracket 16 = .ok (.putfield 29, 3) := by decide +kernel
theorem dX3_endBracket_19 : decode cX3_endBracket 19 = .ok (.aload_n 0, 1) := by decide +kernel
theorem dX3_endBracket_20 : decode cX3_endBracket 20 = .ok (.dup, 1) := by decide +kernel
theorem dX3_endBracket_21 : decode cX3_endBracket 21 = .ok (.getfield 19, 3) := by decide +kernel
theorem dX3_endBracket_24 : decode cX3_endBracket 24 = .ok (.iconst 1, 1) := by decide +kernel
theorem dX3_endBracket_25 : decode cX3_endBracket 25 = .ok (.isub, 1) := by decide +kernel
theorem dX3_endBracket_26 : decode cX3_endBracket 26 = .ok (.putfield 19, 3) := by decide +kernel
theorem dX3_endBracket_29 : decode cX3_endBracket 29 = .ok (.iconst 1, 1) := by decide +kernel
theorem dX3_endBracket_30 : decode cX3_endBracket 30 = .ok (.ireturn, 1) := by decide +kernel
theorem dX3_endBlock_0 : decode cX3_endBlock 0 = .ok (.aload_n 0, 1) := by decide +kernel
theorem dX3_endBlock_1 : decode cX3_endBlock 1 = .ok (.invokevirtual 149, 3) := by decide +kernel
theorem dX3_endBlock_4 : decode cX3_endBlock 4 = .ok (.istore_n 1, 1) := by decide +kernel
theorem dX3_endBlock_5 : decode cX3_endBlock 5 = .ok (.iload_n 1, 1) := by decide +kernel
theorem dX3_endBlock_6 : decode cX3_endBlock 6 = .ok (.iconst (-1), 1) := by decide +kernel
theorem dX3_endBlock_7 : decode cX3_endBlock 7 = .ok (.if_icmp .ne 5, 3) := by decide +kernel
theorem dX3_endBlock_10 : decode cX3_endBlock 10 = .ok (.iconst 0, 1) := by decide +kernel
theorem dX3_endBlock_11 : decode cX3_endBlock 11 = .ok (.ireturn, 1) := by decide +kernel
theorem dX3_endBlock_12 : decode cX3_endBlock 12 = .ok (.aload_n 0, 1) := by decide +kernel
theorem dX3_endBlock_13 : decode cX3_endBlock 13 = .ok (.dup, 1) := by decide +kernel
theorem dX3_endBlock_14 : decode cX3_endBlock 14 = .ok (.getfield 19, 3) := by decide +kernel
theorem dX3_endBlock_17 : decode cX3_endBlock 17 = .ok (.iconst 1, 1) := by decide +kernel
theorem dX3_endBlock_18 : decode cX3_endBlock 18 = .ok (.isub, 1) := by decide +kernel
theorem dX3_endBlock_19 : decode cX3_endBlock 19 = .ok (.putfield 19, 3) := by decide +kernel
theorem dX3_endBlock_22 : decode cX3_endBlock 22 = .ok (.aload_n 0, 1) := by decide +kernel
theorem dX3_endBlock_23 : decode cX3_endBlock 23 = .ok (.dup, 1) := by decide +kernel
theorem dX3_endBlock_24 : decode cX3_endBlock 24 = .ok (.getfield 22, 3) := by decide +kernel
theorem dX3_endBlock_27 : decode cX3_endBlock 27 = .ok (.iconst 1, 1) := by decide +kernel
theorem dX3_endBlock_28 : decode cX3_endBlock 28 = .ok (.isub, 1) := by decide +kernel
theorem dX3_endBlock_29 : decode cX3_endBlock 29 = .ok (.putfield 22, 3) := by decide +kernel
theorem dX3_endBlock_32 : decode cX3_endBlock 32 = .ok (.aload_n 0, 1) := by decide +kernel
theorem dX3_endBlock_33 : decode cX3_endBlock 33 = .ok (.iload_n 1, 1) := by decide +kernel
theorem dX3_endBlock_34 : decode cX3_endBlock 34 = .ok (.iconst 4, 1) := by decide +kernel
theorem dX3_endBlock_35 : decode cX3_endBlock 35 = .ok (.if_icmp .ne 7, 3) := by decide +kernel
theorem dX3_endBlock_38 : decode cX3_endBlock 38 = .ok (.iconst 3, 1) := by decide +kernel
theorem dX3_endBlock_39 : decode cX3_endBlock 39 = .ok (.goto 4, 3) := by decide +kernel
theorem dX3_endBlock_42 : decode cX3_endBlock 42 = .ok (.iconst 2, 1) := by decide +kernel
theorem dX3_endBlock_43 : decode cX3_endBlock 43 = .ok (.putfield 32, 3) := by decide +kernel
theorem dX3_endBlock_46 : decode cX3_endBlock 46 = .ok (.aload_n 0, 1) := by decide +kernel
theorem dX3_endBlock_47 : decode cX3_endBlock 47 = .ok (.iload_n 1, 1) := by decide +kernel
theorem dX3_endBlock_48 : decode cX3_endBlock 48 = .ok (.iconst 2, 1) := by decide +kernel
theorem dX3_endBlock_49 : decode cX3_endBlock 49 = .ok (.if_icmp .ne 7, 3) := by decide +kernel
theorem dX3_endBlock_52 : decode cX3_endBlock 52 = .ok (.iconst 1, 1) := by decide +kernel
theorem dX3_endBlock_53 : decode cX3_endBlock 53 = .ok (.goto 4, 3) := by decide +kernel
theorem dX3_endBlock_56 : decode cX3_endBlock 56 = .ok (.iconst 0, 1) := by decide +kernel
theorem dX3_endBlock_57 : decode cX3_endBlock 57 = .ok (.putfield 29, 3) := by decide +kernel
theorem dX3_endBlock_60 : decode cX3_endBlock 60 = .ok (.iconst 1, 1) := by decide +kernel
theorem dX3_endBlock_61 : decode cX3_endBlock 61 = .ok (.ireturn, 1) := by decide +kernel
theorem dX4_init_0 : decode cX4_init 0 = .ok (.aload_n 0, 1) := by decide +kernel
theorem dX4_init_1 : decode cX4_init 1 = .ok (.invokespecial 3, 3) := by decide +kernel
theorem dX4_init_4 : decode cX4_init 4 = .ok (.aload_n 0, 1) := by decide +kernel
theorem dX4_init_5 : decode cX4_init 5 = .ok (.iconst 3, 1) := by decide +kernel
theorem dX4_init_6 : decode cX4_init 6 = .ok (.newarray .int, 2) := by decide +kernel
theorem dX4_init_8 : decode cX4_init 8 = .ok (.putfield 9, 3) := by decide +kernel
theorem dX4_init_11 : decode cX4_init 11 = .ok (.aload_n 0, 1) := by decide +kernel
theorem dX4_init_12 : decode cX4_init 12 = .ok (.sipush 300, 3) := by decide +kernel
theorem dX4_init_15 : decode cX4_init 15 = .ok (.newarray .int, 2) := by decide +kernel
theorem dX4_init_17 : decode cX4_init 17 = .ok (.putfield 15, 3) := by decide +kernel
theorem dX4_init_20 : decode cX4_init 20 = .ok (.return_, 1) := by decide +kernel
theorem dX4_clear_0 : decode cX4_clear 0 = .ok (.aload_n 0, 1) := by decide +kernel
theorem dX4_clear_1 : decode cX4_clear 1 = .ok (.getfield 9, 3) := by decide +kernel
theorem dX4_clear_4 : decode cX4_clear 4 = .ok (.iconst 0, 1) := by decide +kernel
theorem dX4_clear_5 : decode cX4_clear 5 = .ok (.invokestatic 18, 3) := by decide +kernel
theorem dX4_clear_8 : decode cX4_clear 8 = .ok (.aload_n 0, 1) := by decide +kernel
theorem dX4_clear_9 : decode cX4_clear 9 = .ok (.getfield 15, 3) := by decide +kernel
theorem dX4_clear_12 : decode cX4_clear 12 = .ok (.iconst 0, 1) := by decide +kernel
theorem dX4_clear_13 : decode cX4_clear 13 = .ok (.invokestatic 18, 3) := by decide +kernel
theorem dX4_clear_16 : decode cX4_clear 16 = .ok (.return_, 1) := by decide +kernel
theorem dX4_count_0 : decode cX4_count 0 = .ok (.iconst 0, 1) := by decide +kernel
theorem dX4_count_1 : decode cX4_count 1 = .ok (.istore 4, 2) := by decide +kernel
theorem dX4_count_3 : decode cX4_count 3 = .ok (.iload 4, 2) := by decide +kernel
theorem dX4_count_5 : decode cX4_count 5 = .ok (.iconst 3, 1) := by decide +kernel
theorem dX4_count_6 : decode cX4_count 6 = .ok (.if_icmp .ge 37, 3) := by decide +kernel
theorem dX4_count_9 : decode cX4_count 9 = .ok (.iload_n 1, 1) := by decide +kernel
theorem dX4_count_10 : decode cX4_count 10 = .ok (.iload 4, 2) := by decide +kernel
theorem dX4_count_12 : decode cX4_count 12 = .ok (.invokestatic 24, 3) := by decide +kernel
theorem dX4_count_15 : decode cX4_count 15 = .ok (.iload_n 3, 1) := by decide +kernel
theorem dX4_count_16 : decode cX4_count 16 = .ok (.if_icmp .eq 21, 3) := by decide +kernel
theorem dX4_count_19 : decode cX4_count 19 = .ok (.aload_n 0, 1) := by decide +kernel
theorem dX4_count_20 : decode cX4_count 20 = .ok (.getfield 9, 3) := by decide +kernel
theorem dX4_count_23 : decode cX4_count 23 = .ok (.iload 4, 2) := by decide +kernel
theorem dX4_count_25 : decode cX4_count 25 = .ok (.dup2, 1) := by decide +kernel
theorem dX4_count_26 : decode cX4_count 26 = .ok (.iaload, 1) := by decide +kernel
theorem dX4_count_27 : decode cX4_count 27 = .ok (.iconst 1, 1) := by decide +kernel
theorem dX4_count_28 : decode cX4_count 28 = .ok (.iadd, 1) := by decide +kernel
theorem dX4_count_29 : decode cX4_count 29 = .ok (.iastore, 1) := by decide +kernel
theorem dX4_count_30 : decode cX4_count 30 = .ok (.aload_n 0, 1) := by decide +kernel
theorem dX4_count_31 : decode cX4_count 31 = .ok (.iload_n 2, 1) := by decide +kernel
theorem dX4_count_32 : decode cX4_count 32 = .ok (.iload 4, 2) := by decide +kernel
theorem dX4_count_34 : decode cX4_count 34 = .ok (.invokevirtual 28, 3) := by decide +kernel
theorem dX4_count_37 : decode cX4_count 37 = .ok (.iinc 4 1, 3) := by decide +kernel
theorem dX4_count_40 : decode cX4_count 40 = .ok (.goto (-37), 3) := by decide +kernel
theorem dX4_count_43 : decode cX4_count 43 = .ok (.return_, 1) := by decide +kernel
theorem dX4_countWrong_0 : decode cX4_countWrong 0 = .ok (.iconst 0, 1) := by decide +kernel
theorem dX4_countWrong_1 : decode cX4_countWrong 1 = .ok (.istore_n 3, 1) := by decide +kernel
theorem dX4_countWrong_2 : decode cX4_countWrong 2 = .ok (.iload_n 3, 1) := by decide +kernel
theorem dX4_countWrong_3 : decode cX4_countWrong 3 = .ok (.bipush 10, 2) := by decide +kernel
theorem dX4_countWrong_5 : decode cX4_countWrong 5 = .ok (.if_icmp .ge 64, 3) := by decide +kernel
theorem dX4_countWrong_8 : decode cX4_countWrong 8 = .ok (.iload_n 1, 1) := by decide +kernel
theorem dX4_countWrong_9 : decode cX4_countWrong 9 = .ok (.iload_n 3, 1) := by decide +kernel
theorem dX4_countWrong_10 : decode cX4_countWrong 10 = .ok (.ishr, 1) := by decide +kernel
theorem dX4_countWrong_11 : decode cX4_countWrong 11 = .ok (.iconst 1, 1) := by decide +kernel
theorem dX4_countWrong_12 : decode cX4_countWrong 12 = .ok (.iand, 1) := by decide +kernel
theorem dX4_countWrong_13 : decode cX4_countWrong 13 = .ok (.iconst 1, 1) := by decide +kernel
theorem dX4_countWrong_14 : decode cX4_countWrong 14 = .ok (.if_icmp .ne 49, 3) := by decide +kernel
theorem dX4_countWrong_17 : decode cX4_countWrong 17 = .ok (.iconst 0, 1) := by decide +kernel
theorem dX4_countWrong_18 : decode cX4_countWrong 18 = .ok (.istore 4, 2) := by decide +kernel
theorem dX4_countWrong_20 : decode cX4_countWrong 20 = .ok (.iload 4, 2) := by decide +kernel
theorem dX4_countWrong_22 : decode cX4_countWrong 22 = .ok (.bipush 10, 2) := by decide +kernel
theorem dX4_countWrong_24 : decode cX4_countWrong 24 = .ok (.if_icmp .ge 39, 3) := by decide +kernel
theorem dX4_countWrong_27 : decode cX4_countWrong 27 = .ok (.iload_n 1, 1) := by decide +kernel
theorem dX4_countWrong_28 : decode cX4_countWrong 28 = .ok (.iload 4, 2) := by decide +kernel
theorem dX4_countWrong_30 : decode cX4_countWrong 30 = .ok (.ishr, 1) := by decide +kernel
theorem dX4_countWrong_31 : decode cX4_countWrong 31 = .ok (.iconst 1, 1) := by decide +kernel
theorem dX4_countWrong_32 : decode cX4_countWrong 32 = .ok (.iand, 1) := by decide +kernel
theorem dX4_countWrong_33 : decode cX4_countWrong 33 = .ok (.iconst 1, 1) := by decide +kernel
theorem dX4_countWrong_34 : decode cX4_countWrong 34 = .ok (.if_icmp .ne 23, 3) := by decide +kernel
theorem dX4_countWrong_37 : decode cX4_countWrong 37 = .ok (.aload_n 0, 1) := by decide +kernel
theorem dX4_countWrong_38 : decode cX4_countWrong 38 = .ok (.getfield 15, 3) := by decide +kernel
theorem dX4_countWrong_41 : decode cX4_countWrong 41 = .ok (.iload_n 3, 1) := by decide +kernel
theorem dX4_countWrong_42 : decode cX4_countWrong 42 = .ok (.bipush 10, 2) := by decide +kernel
theorem dX4_countWrong_44 : decode cX4_countWrong 44 = .ok (.imul, 1) := by decide +kernel
theorem dX4_countWrong_45 : decode cX4_countWrong 45 = .ok (.iload 4, 2) := by decide +kernel
theorem dX4_countWrong_47 : decode cX4_countWrong 47 = .ok (.iadd, 1) := by decide +kernel
theorem dX4_countWrong_48 : decode cX4_countWrong 48 = .ok (.iconst 3, 1) := by decide +kernel
theorem dX4_countWrong_49 : decode cX4_countWrong 49 = .ok (.imul, 1) := by decide +kernel
theorem dX4_countWrong_50 : decode cX4_countWrong 50 = .ok (.iload_n 2, 1) := by decide +kernel
theorem dX4_countWrong_51 : decode cX4_countWrong 51 = .ok (.iadd, 1) := by decide +kernel
theorem dX4_countWrong_52 : decode cX4_countWrong 52 = .ok (.dup2, 1) := by decide +kernel
theorem dX4_countWrong_53 : decode cX4_countWrong 53 = .ok (.iaload, 1) := by decide +kernel
theorem dX4_countWrong_54 : decode cX4_countWrong 54 = .ok (.iconst 1, 1) := by decide +kernel
theorem dX4_countWrong_55 : decode cX4_countWrong 55 = .ok (.iadd, 1) := by decide +kernel
theorem dX4_countWrong_56 : decode cX4_countWrong 56 = .ok (.iastore, 1) := by decide +kernel
theorem dX4_countWrong_57 : decode cX4_countWrong 57 = .ok (.iinc 4 1, 3) := by decide +kernel
theorem dX4_countWrong_60 : decode cX4_countWrong 60 = .ok (.goto (-40), 3) := by decide +kernel
theorem dX4_countWrong_63 : decode cX4_countWrong 63 = .ok (.iinc 3 1, 3) := by decide +kernel
theorem dX4_countWrong_66 : decode cX4_countWrong 66 = .ok (.goto (-64), 3) := by decide +kernel
theorem dX4_countWrong_69 : decode cX4_countWrong 69 = .ok (.return_, 1) := by decide +kernel
theorem dX4_wrong_0 : decode cX4_wrong 0 = .ok (.aload_n 0, 1) := by decide +kernel
theorem dX4_wrong_1 : decode cX4_wrong 1 = .ok (.getfield 15, 3) := by decide +kernel
theorem dX4_wrong_4 : decode cX4_wrong 4 = .ok (.iload_n 1, 1) := by decide +kernel
theorem dX4_wrong_5 : decode cX4_wrong 5 = .ok (.bipush 10, 2) := by decide +kernel
theorem dX4_wrong_7 : decode cX4_wrong 7 = .ok (.imul, 1) := by decide +kernel
theorem dX4_wrong_8 : decode cX4_wrong 8 = .ok (.iload_n 2, 1) := by decide +kernel
theorem dX4_wrong_9 : decode cX4_wrong 9 = .ok (.iadd, 1) := by decide +kernel
theorem dX4_wrong_10 : decode cX4_wrong 10 = .ok (.iconst 3, 1) := by decide +kernel
theorem dX4_wrong_11 : decode cX4_wrong 11 = .ok (.imul, 1) := by decide +kernel
theorem dX4_wrong_12 : decode cX4_wrong 12 = .ok (.iload_n 3, 1) := by decide +kernel
theorem dX4_wrong_13 : decode cX4_wrong 13 = .ok (.iadd, 1) := by decide +kernel
theorem dX4_wrong_14 : decode cX4_wrong 14 = .ok (.iaload, 1) := by decide +kernel
theorem dX4_wrong_15 : decode cX4_wrong 15 = .ok (.ireturn, 1) := by decide +kernel
theorem dX4_wrongWhere_0 : decode cX4_wrongWhere 0 = .ok (.iload_n 1, 1) := by decide +kernel
theorem dX4_wrongWhere_1 : decode cX4_wrongWhere 1 = .ok (.iconst (-1), 1) := by decide +kernel
theorem dX4_wrongWhere_2 : decode cX4_wrongWhere 2 = .ok (.if_icmp .ne 7, 3) := by decide +kernel
theorem dX4_wrongWhere_5 : decode cX4_wrongWhere 5 = .ok (.iconst 0, 1) := by decide +kernel
theorem dX4_wrongWhere_6 : decode cX4_wrongWhere 6 = .ok (.goto 10, 3) := by decide +kernel
theorem dX4_wrongWhere_9 : decode cX4_wrongWhere 9 = .ok (.aload_n 0, 1) := by decide +kernel
theorem dX4_wrongWhere_10 : decode cX4_wrongWhere 10 = .ok (.iload_n 1, 1) := by decide +kernel
theorem dX4_wrongWhere_11 : decode cX4_wrongWhere 11 = .ok (.iload_n 1, 1) := by decide +kernel
theorem dX4_wrongWhere_12 : decode cX4_wrongWhere 12 = .ok (.iload_n 2, 1) := by decide +kernel
theorem dX4_wrongWhere_13 : decode cX4_wrongWhere 13 = .ok (.invokevirtual 32, 3) := by decide +kernel
theorem dX4_wrongWhere_16 : decode cX4_wrongWhere 16 = .ok (.ireturn, 1) := by decide +kernel
theorem dX4_wrongWhereBoth_0 : decode cX4_wrongWhereBoth 0 = .ok (.iload_n 1, 1) := by decide +kernel
theorem dX4_wrongWhereBoth_1 : decode cX4_wrongWhereBoth 1 = .ok (.iconst (-1), 1) := by decide +kernel
theorem dX4_wrongWhereBoth_2 : decode cX4_wrongWhereBoth 2 = .ok (.if_icmp .eq 8, 3) := by decide +kernel
theorem dX4_wrongWhereBoth_5 : decode cX4_wrongWhereBoth 5 = .ok (.iload_n 2, 1) := by decide +kernel
theorem dX4_wrongWhereBoth_6 : decode cX4_wrongWhereBoth 6 = .ok (.iconst (-1), 1) := by decide +kernel
theorem dX4_wrongWhereBoth_7 : decode cX4_wrongWhereBoth 7 = .ok (.if_icmp .ne 7, 3) := by decide +kernel
theorem dX4_wrongWhereBoth_10 : decode cX4_wrongWhereBoth 10 = .ok (.iconst 0, 1) := by decide +kernel
theorem dX4_wrongWhereBoth_11 : decode cX4_wrongWhereBoth 11 = .ok (.goto 10, 3) := by decide +kernel
theorem dX4_wrongWhereBoth_14 : decode cX4_wrongWhereBoth 14 = .ok (.aload_n 0, 1) := by decide +kernel
theorem dX4_wrongWhereBoth_15 : decode cX4_wrongWhereBoth 15 = .ok (.iload_n 1, 1) := by decide +kernel
theorem dX4_wrongWhereBoth_16 : decode cX4_wrongWhereBoth 16 = .ok (.iload_n 2, 1) := by decide +kernel
theorem dX4_wrongWhereBoth_17 : decode cX4_wrongWhereBoth 17 = .ok (.iload_n 3, 1) := by decide +kernel
theorem dX4_wrongWhereBoth_18 : decode cX4_wrongWhereBoth 18 = .ok (.invokevirtual 32, 3) := by decide +kernel
theorem dX4_wrongWhereBoth_21 : decode cX4_wrongWhereBoth 21 = .ok (.ireturn, 1) := by decide +kernel
theorem dX4_wrongBySecond_0 : decode cX4_wrongBySecond 0 = .ok (.aload_n 0, 1) := by decide +kernel
theorem dX4_wrongBySecond_1 : decode cX4_wrongBySecond 1 = .ok (.iload_n 2, 1) := by decide +kernel
theorem dX4_wrongBySecond_2 : decode cX4_wrongBySecond 2 = .ok (.iload_n 3, 1) := by decide +kernel
theorem dX4_wrongBySecond_3 : decode cX4_wrongBySecond 3 = .ok (.invokevirtual 36, 3) := by decide +kernel
theorem dX4_wrongBySecond_6 : decode cX4_wrongBySecond 6 = .ok (.aload_n 0, 1) := by decide +kernel
theorem dX4_wrongBySecond_7 : decode cX4_wrongBySecond 7 = .ok (.iload_n 1, 1) := by decide +kernel
theorem dX4_wrongBySecond_8 : decode cX4_wrongBySecond 8 = .ok (.iload_n 2, 1) := by decide +kernel
theorem dX4_wrongBySecond_9 : decode cX4_wrongBySecond 9 = .ok (.iload_n 3, 1) := by decide +kernel
theorem dX4_wrongBySecond_10 : decode cX4_wrongBySecond 10 = .ok (.invokevirtual 39, 3) := by decide +kernel
theorem dX4_wrongBySecond_13 : decode cX4_wrongBySecond 13 = .ok (.isub, 1) := by decide +kernel
theorem dX4_wrongBySecond_14 : decode cX4_wrongBySecond 14 = .ok (.ireturn, 1) := by decide +kernel
theorem dX4_wrongByLast_0 : decode cX4_wrongByLast 0 = .ok (.aload_n 0, 1) := by decide +kernel
theorem dX4_wrongByLast_1 : decode cX4_wrongByLast 1 = .ok (.getfield 9, 3) := by decide +kernel
theorem dX4_wrongByLast_4 : decode cX4_wrongByLast 4 = .ok (.iload_n 3, 1) := by decide +kernel
theorem dX4_wrongByLast_5 : decode cX4_wrongByLast 5 = .ok (.iaload, 1) := by decide +kernel
theorem dX4_wrongByLast_6 : decode cX4_wrongByLast 6 = .ok (.aload_n 0, 1) := by decide +kernel
theorem dX4_wrongByLast_7 : decode cX4_wrongByLast 7 = .ok (.iload_n 1, 1) := by decide +kernel
theorem dX4_wrongByLast_8 : decode cX4_wrongByLast 8 = .ok (.iload_n 3, 1) := by decide +kernel
theorem dX4_wrongByLast_9 : decode cX4_wrongByLast 9 = .ok (.invokevirtual 36, 3) := by decide +kernel
theorem dX4_wrongByLast_12 : decode cX4_wrongByLast 12 = .ok (.isub, 1) := by decide +kernel
theorem dX4_wrongByLast_13 : decode cX4_wrongByLast 13 = .ok (.aload_n 0, 1) := by decide +kernel
theorem dX4_wrongByLast_14 : decode cX4_wrongByLast 14 = .ok (.iload_n 1, 1) := by decide +kernel
theorem dX4_wrongByLast_15 : decode cX4_wrongByLast 15 = .ok (.iload_n 2, 1) := by decide +kernel
theorem dX4_wrongByLast_16 : decode cX4_wrongByLast 16 = .ok (.iload_n 3, 1) := by decide +kernel
theorem dX4_wrongByLast_17 : decode cX4_wrongByLast 17 = .ok (.invokevirtual 42, 3) := by decide +kernel
theorem dX4_wrongByLast_20 : decode cX4_wrongByLast 20 = .ok (.isub, 1) := by decide +kernel
theorem dX4_wrongByLast_21 : decode cX4_wrongByLast 21 = .ok (.ireturn, 1) := by decide +kernel
theorem dX4_search_0 : decode cX4_search 0 = .ok (.aload_n 0, 1) := by decide +kernel
theorem dX4_search_1 : decode cX4_search 1 = .ok (.iload_n 2, 1) := by decide +kernel
theorem dX4_search_2 : decode cX4_search 2 = .ok (.putfield 45, 3) := by decide +kernel
theorem dX4_search_5 : decode cX4_search 5 = .ok (.aload_n 0, 1) := by decide +kernel
theorem dX4_search_6 : decode cX4_search 6 = .ok (.iload_n 3, 1) := by decide +kernel
theorem dX4_search_7 : decode cX4_search 7 = .ok (.putfield 49, 3) := by decide +kernel
theorem dX4_search_10 : decode cX4_search 10 = .ok (.aload_n 0, 1) := by decide +kernel
theorem dX4_search_11 : decode cX4_search 11 = .ok (.aload_n 1, 1) := by decide +kernel
theorem dX4_search_12 : decode cX4_search 12 = .ok (.iconst 0, 1) := by decide +kernel
theorem dX4_search_13 : decode cX4_search 13 = .ok (.iconst (-1), 1) := by decide +kernel
theorem dX4_search_14 : decode cX4_search 14 = .ok (.iconst (-1), 1) := by decide +kernel
theorem dX4_search_15 : decode cX4_search 15 = .ok (.invokevirtual 52, 3) := by decide +kernel
theorem dX4_search_18 : decode cX4_search 18 = .ok (.iconst 0, 1) := by decide +kernel
theorem dX4_search_19 : decode cX4_search 19 = .ok (.istore 4, 2) := by decide +kernel
theorem dX4_search_21 : decode cX4_search 21 = .ok (.iload 4, 2) := by decide +kernel
theorem dX4_search_23 : decode cX4_search 23 = .ok (.bipush 10, 2) := by decide +kernel
theorem dX4_search_25 : decode cX4_search 25 = .ok (.if_icmp .ge 29, 3) := by decide +kernel
theorem dX4_search_28 : decode cX4_search 28 = .ok (.aload_n 0, 1) := by decide +kernel
theorem dX4_search_29 : decode cX4_search 29 = .ok (.getfield 45, 3) := by decide +kernel
theorem dX4_search_32 : decode cX4_search 32 = .ok (.aload_n 1, 1) := by decide +kernel
theorem dX4_search_33 : decode cX4_search 33 = .ok (.getfield 56, 3) := by decide +kernel
theorem dX4_search_36 : decode cX4_search 36 = .ok (.if_icmp .ge 18, 3) := by decide +kernel
theorem dX4_search_39 : decode cX4_search 39 = .ok (.aload_n 0, 1) := by decide +kernel
theorem dX4_search_40 : decode cX4_search 40 = .ok (.aload_n 1, 1) := by decide +kernel
theorem dX4_search_41 : decode cX4_search 41 = .ok (.iconst 1, 1) := by decide +kernel
theorem dX4_search_42 : decode cX4_search 42 = .ok (.iload 4, 2) := by decide +kernel
theorem dX4_search_44 : decode cX4_search 44 = .ok (.iconst (-1), 1) := by decide +kernel
theorem dX4_search_45 : decode cX4_search 45 = .ok (.invokevirtual 52, 3) := by decide +kernel
theorem dX4_search_48 : decode cX4_search 48 = .ok (.iinc 4 1, 3) := by decide +kernel
theorem dX4_search_51 : decode cX4_search 51 = .ok (.goto (-30), 3) := by decide +kernel
theorem dX4_search_54 : decode cX4_search 54 = .ok (.iconst 0, 1) := by decide +kernel
theorem dX4_search_55 : decode cX4_search 55 = .ok (.istore 4, 2) := by decide +kernel
theorem dX4_search_57 : decode cX4_search 57 = .ok (.iload 4, 2) := by decide +kernel
theorem dX4_search_59 : decode cX4_search 59 = .ok (.bipush 10, 2) := by decide +kernel
theorem dX4_search_61 : decode cX4_search 61 = .ok (.if_icmp .ge 29, 3) := by decide +kernel
theorem dX4_search_64 : decode cX4_search 64 = .ok (.iconst 2, 1) := by decide +kernel
theorem dX4_search_65 : decode cX4_search 65 = .ok (.aload_n 0, 1) := by decide +kernel
theorem dX4_search_66 : decode cX4_search 66 = .ok (.getfield 45, 3) := by decide +kernel
theorem dX4_search_69 : decode cX4_search 69 = .ok (.imul, 1) := by decide +kernel
theorem dX4_search_70 : decode cX4_search 70 = .ok (.aload_n 1, 1) := by decide +kernel
theorem dX4_search_71 : decode cX4_search 71 = .ok (.getfield 56, 3) := by decide +kernel
theorem dX4_search_74 : decode cX4_search 74 = .ok (.if_icmp .ge 16, 3) := by decide +kernel
theorem dX4_search_77 : decode cX4_search 77 = .ok (.aload_n 0, 1) := by decide +kernel
theorem dX4_search_78 : decode cX4_search 78 = .ok (.aload_n 1, 1) := by decide +kernel
theorem dX4_search_79 : decode cX4_search 79 = .ok (.iload 4, 2) := by decide +kernel
theorem dX4_search_81 : decode cX4_search 81 = .ok (.invokevirtual 61, 3) := by decide +kernel
theorem dX4_search_84 : decode cX4_search 84 = .ok (.iinc 4 1, 3) := by decide +kernel
theorem dX4_search_87 : decode cX4_search 87 = .ok (.goto (-30), 3) := by decide +kernel
theorem dX4_search_90 : decode cX4_search 90 = .ok (.return_, 1) := by decide +kernel
theorem dX4_weighTwo_0 : decode cX4_weighTwo 0 = .ok (.iconst 0, 1) := by decide +kernel
theorem dX4_weighTwo_1 : decode cX4_weighTwo 1 = .ok (.istore_n 3, 1) := by decide +kernel
theorem dX4_weighTwo_2 : decode cX4_weighTwo 2 = .ok (.iload_n 3, 1) := by decide +kernel
theorem dX4_weighTwo_3 : decode cX4_weighTwo 3 = .ok (.bipush 10, 2) := by decide +kernel
theorem dX4_weighTwo_5 : decode cX4_weighTwo 5 = .ok (.if_icmp .ge 22, 3) := by decide +kernel
theorem dX4_weighTwo_8 : decode cX4_weighTwo 8 = .ok (.iload_n 3, 1) := by decide +kernel
theorem dX4_weighTwo_9 : decode cX4_weighTwo 9 = .ok (.iload_n 2, 1) := by decide +kernel
theorem dX4_weighTwo_10 : decode cX4_weighTwo 10 = .ok (.if_icmp .eq 11, 3) := by decide +kernel
theorem dX4_weighTwo_13 : decode cX4_weighTwo 13 = .ok (.aload_n 0, 1) := by decide +kernel
theorem dX4_weighTwo_14 : decode cX4_weighTwo 14 = .ok (.aload_n 1, 1) := by decide +kernel
theorem dX4_weighTwo_15 : decode cX4_weighTwo 15 = .ok (.iconst 2, 1) := by decide +kernel
theorem dX4_weighTwo_16 : decode cX4_weighTwo 16 = .ok (.iload_n 2, 1) := by decide +kernel
theorem dX4_weighTwo_17 : decode cX4_weighTwo 17 = .ok (.iload_n 3, 1) := by decide +kernel
theorem dX4_weighTwo_18 : decode cX4_weighTwo 18 = .ok (.invokevirtual 52, 3) := by decide +kernel
theorem dX4_weighTwo_21 : decode cX4_weighTwo 21 = .ok (.iinc 3 1, 3) := by decide +kernel
theorem dX4_weighTwo_24 : decode cX4_weighTwo 24 = .ok (.goto (-22), 3) := by decide +kernel
theorem dX4_weighTwo_27 : decode cX4_weighTwo 27 = .ok (.return_, 1) := by decide +kernel
theorem dX4_weigh_0 : decode cX4_weigh 0 = .ok (.iconst 0, 1) := by decide +kernel
theorem dX4_weigh_1 : decode cX4_weigh 1 = .ok (.istore 5, 2) := by decide +kernel
theorem dX4_weigh_3 : decode cX4_weigh 3 = .ok (.iconst 0, 1) := by decide +kernel
theorem dX4_weigh_4 : decode cX4_weigh 4 = .ok (.istore 6, 2) := by decide +kernel
theorem dX4_weigh_6 : decode cX4_weigh 6 = .ok (.iconst 0, 1) := by decide +kernel
theorem dX4_weigh_7 : decode cX4_weigh 7 = .ok (.istore 7, 2) := by decide +kernel
theorem dX4_weigh_9 : decode cX4_weigh 9 = .ok (.iconst 1, 1) := by decide +kernel
theorem dX4_weigh_10 : decode cX4_weigh 10 = .ok (.istore 8, 2) := by decide +kernel
theorem dX4_weigh_12 : decode cX4_weigh 12 = .ok (.iload 8, 2) := by decide +kernel
theorem dX4_weigh_14 : decode cX4_weigh 14 = .ok (.iconst 3, 1) := by decide +kernel
theorem dX4_weigh_15 : decode cX4_weigh 15 = .ok (.if_icmp .ge 92, 3) := by decide +kernel
theorem dX4_weigh_18 : decode cX4_weigh 18 = .ok (.aload_n 0, 1) := by decide +kernel
theorem dX4_weigh_19 : decode cX4_weigh 19 = .ok (.aload_n 0, 1) := by decide +kernel
theorem dX4_weigh_20 : decode cX4_weigh 20 = .ok (.iload_n 3, 1) := by decide +kernel
theorem dX4_weigh_21 : decode cX4_weigh 21 = .ok (.iload 8, 2) := by decide +kernel
theorem dX4_weigh_23 : decode cX4_weigh 23 = .ok (.invokevirtual 36, 3) := by decide +kernel
theorem dX4_weigh_26 : decode cX4_weigh 26 = .ok (.aload_n 0, 1) := by decide +kernel
theorem dX4_weigh_27 : decode cX4_weigh 27 = .ok (.iload_n 3, 1) := by decide +kernel
theorem dX4_weigh_28 : decode cX4_weigh 28 = .ok (.iload 5, 2) := by decide +kernel
theorem dX4_weigh_30 : decode cX4_weigh 30 = .ok (.invokevirtual 36, 3) := by decide +kernel
theorem dX4_weigh_33 : decode cX4_weigh 33 = .ok (.invokevirtual 65, 3) := by decide +kernel
theorem dX4_weigh_36 : decode cX4_weigh 36 = .ok (.ifCond .eq 7, 3) := by decide +kernel
theorem dX4_weigh_39 : decode cX4_weigh 39 = .ok (.iload 8, 2) := by decide +kernel
theorem dX4_weigh_41 : decode cX4_weigh 41 = .ok (.istore 5, 2) := by decide +kernel
theorem dX4_weigh_43 : decode cX4_weigh 43 = .ok (.aload_n 0, 1) := by decide +kernel
theorem dX4_weigh_44 : decode cX4_weigh 44 = .ok (.aload_n 0, 1) := by decide +kernel
theorem dX4_weigh_45 : decode cX4_weigh 45 = .ok (.iload_n 3, 1) := by decide +kernel
theorem dX4_weigh_46 : decode cX4_weigh 46 = .ok (.iload 4, 2) := by decide +kernel
theorem dX4_weigh_48 : decode cX4_weigh 48 = .ok (.iload 8, 2) := by decide +kernel
theorem dX4_weigh_50 : decode cX4_weigh 50 = .ok (.invokevirtual 42, 3) := by decide +kernel
theorem dX4_weigh_53 : decode cX4_weigh 53 = .ok (.aload_n 0, 1) := by decide +kernel
theorem dX4_weigh_54 : decode cX4_weigh 54 = .ok (.iload_n 3, 1) := by decide +kernel
theorem dX4_weigh_55 : decode cX4_weigh 55 = .ok (.iload 4, 2) := by decide +kernel
theorem dX4_weigh_57 : decode cX4_weigh 57 = .ok (.iload 6, 2) := by decide +kernel
theorem dX4_weigh_59 : decode cX4_weigh 59 = .ok (.invokevirtual 42, 3) := by decide +kernel
theorem dX4_weigh_62 : decode cX4_weigh 62 = .ok (.invokevirtual 65, 3) := by decide +kernel
theorem dX4_weigh_65 : decode cX4_weigh 65 = .ok (.ifCond .eq 7, 3) := by decide +kernel
theorem dX4_weigh_68 : decode cX4_weigh 68 = .ok (.iload 8, 2) := by decide +kernel
theorem dX4_weigh_70 : decode cX4_weigh 70 = .ok (.istore 6, 2) := by decide +kernel
theorem dX4_weigh_72 : decode cX4_weigh 72 = .ok (.aload_n 0, 1) := by decide +kernel
theorem dX4_weigh_73 : decode cX4_weigh 73 = .ok (.aload_n 0, 1) := by decide +kernel
theorem dX4_weigh_74 : decode cX4_weigh 74 = .ok (.iload_n 3, 1) := by decide +kernel
theorem dX4_weigh_75 : decode cX4_weigh 75 = .ok (.iload 4, 2) := by decide +kernel
theorem dX4_weigh_77 : decode cX4_weigh 77 = .ok (.iload 8, 2) := by decide +kernel
theorem dX4_weigh_79 : decode cX4_weigh 79 = .ok (.invokevirtual 69, 3) := by decide +kernel
theorem dX4_weigh_82 : decode cX4_weigh 82 = .ok (.aload_n 0, 1) := by decide +kernel
theorem dX4_weigh_83 : decode cX4_weigh 83 = .ok (.iload_n 3, 1) := by decide +kernel
theorem dX4_weigh_84 : decode cX4_weigh 84 = .ok (.iload 4, 2) := by decide +kernel
theorem dX4_weigh_86 : decode cX4_weigh 86 = .ok (.iload 7, 2) := by decide +kernel
theorem dX4_weigh_88 : decode cX4_weigh 88 = .ok (.invokevirtual 69, 3) := by decide +kernel
theorem dX4_weigh_91 : decode cX4_weigh 91 = .ok (.invokevirtual 65, 3) := by decide +kernel
theorem dX4_weigh_94 : decode cX4_weigh 94 = .ok (.ifCond .eq 7, 3) := by decide +kernel
theorem dX4_weigh_97 : decode cX4_weigh 97 = .ok (.iload 8, 2) := by decide +kernel
theorem dX4_weigh_99 : decode cX4_weigh 99 = .ok (.istore 7, 2) := by decide +kernel
theorem dX4_weigh_101 : decode cX4_weigh 101 = .ok (.iinc 8 1, 3) := by decide +kernel
theorem dX4_weigh_104 : decode cX4_weigh 104 = .ok (.goto (-92), 3) := by decide +kernel
theorem dX4_weigh_107 : decode cX4_weigh 107 = .ok (.aload_n 0, 1) := by decide +kernel
theorem dX4_weigh_108 : decode cX4_weigh 108 = .ok (.iload_n 3, 1) := by decide +kernel
theorem dX4_weigh_109 : decode cX4_weigh 109 = .ok (.iload 5, 2) := by decide +kernel
theorem dX4_weigh_111 : decode cX4_weigh 111 = .ok (.invokevirtual 36, 3) := by decide +kernel
theorem dX4_weigh_114 : decode cX4_weigh 114 = .ok (.aload_n 0, 1) := by decide +kernel
theorem dX4_weigh_115 : decode cX4_weigh 115 = .ok (.iload_n 3, 1) := by decide +kernel
theorem dX4_weigh_116 : decode cX4_weigh 116 = .ok (.iload 4, 2) := by decide +kernel
theorem dX4_weigh_118 : decode cX4_weigh 118 = .ok (.iload 6, 2) := by decide +kernel
theorem dX4_weigh_120 : decode cX4_weigh 120 = .ok (.invokevirtual 42, 3) := by decide +kernel
theorem dX4_weigh_123 : decode cX4_weigh 123 = .ok (.iadd, 1) := by decide +kernel
theorem dX4_weigh_124 : decode cX4_weigh 124 = .ok (.aload_n 0, 1) := by decide +kernel
theorem dX4_weigh_125 : decode cX4_weigh 125 = .ok (.iload_n 3, 1) := by decide +kernel
theorem dX4_weigh_126 : decode cX4_weigh 126 = .ok (.iload 4, 2) := by decide +kernel
theorem dX4_weigh_128 : decode cX4_weigh 128 = .ok (.iload 7, 2) := by decide +kernel
theorem dX4_weigh_130 : decode cX4_weigh 130 = .ok (.invokevirtual 69, 3) := by decide +kernel
theorem dX4_weigh_133 : decode cX4_weigh 133 = .ok (.iadd, 1) := by decide +kernel
theorem dX4_weigh_134 : decode cX4_weigh 134 = .ok (.istore 8, 2) := by decide +kernel
theorem dX4_weigh_136 : decode cX4_weigh 136 = .ok (.iload_n 2, 1) := by decide +kernel
theorem dX4_weigh_137 : decode cX4_weigh 137 = .ok (.aload_n 0, 1) := by decide +kernel
theorem dX4_weigh_138 : decode cX4_weigh 138 = .ok (.getfield 45, 3) := by decide +kernel
theorem dX4_weigh_141 : decode cX4_weigh 141 = .ok (.imul, 1) := by decide +kernel
theorem dX4_weigh_142 : decode cX4_weigh 142 = .ok (.iload 8, 2) := by decide +kernel
theorem dX4_weigh_144 : decode cX4_weigh 144 = .ok (.aload_n 0, 1) := by decide +kernel
theorem dX4_weigh_145 : decode cX4_weigh 145 = .ok (.getfield 49, 3) := by decide +kernel
theorem dX4_weigh_148 : decode cX4_weigh 148 = .ok (.imul, 1) := by decide +kernel
theorem dX4_weigh_149 : decode cX4_weigh 149 = .ok (.iadd, 1) := by decide +kernel
theorem dX4_weigh_150 : decode cX4_weigh 150 = .ok (.istore 9, 2) := by decide +kernel
theorem dX4_weigh_152 : decode cX4_weigh 152 = .ok (.iload_n 2, 1) := by decide +kernel
theorem dX4_weigh_153 : decode cX4_weigh 153 = .ok (.ifCond .eq 12, 3) := by decide +kernel
theorem dX4_weigh_156 : decode cX4_weigh 156 = .ok (.iload 9, 2) := by decide +kernel
theorem dX4_weigh_158 : decode cX4_weigh 158 = .ok (.aload_n 1, 1) := by decide +kernel
theorem dX4_weigh_159 : decode cX4_weigh 159 = .ok (.getfield 56, 3) := by decide +kernel
theorem dX4_weigh_162 : decode cX4_weigh 162 = .ok (.if_icmp .ge 46, 3) := by decide +kernel
theorem dX4_weigh_165 : decode cX4_weigh 165 = .ok (.aload_n 1, 1) := by decide +kernel
theorem dX4_weigh_166 : decode cX4_weigh 166 = .ok (.iload_n 3, 1) := by decide +kernel
theorem dX4_weigh_167 : decode cX4_weigh 167 = .ok (.iload_n 2, 1) := by decide +kernel
theorem dX4_weigh_168 : decode cX4_weigh 168 = .ok (.ifCond .le 8, 3) := by decide +kernel
theorem dX4_weigh_171 : decode cX4_weigh 171 = .ok (.iload 5, 2) := by decide +kernel
theorem dX4_weigh_173 : decode cX4_weigh 173 = .ok (.goto 4, 3) := by decide +kernel
theorem dX4_weigh_176 : decode cX4_weigh 176 = .ok (.iconst (-1), 1) := by decide +kernel
theorem dX4_weigh_177 : decode cX4_weigh 177 = .ok (.invokevirtual 72, 3) := by decide +kernel
theorem dX4_weigh_180 : decode cX4_weigh 180 = .ok (.aload_n 1, 1) := by decide +kernel
theorem dX4_weigh_181 : decode cX4_weigh 181 = .ok (.iload 4, 2) := by decide +kernel
theorem dX4_weigh_183 : decode cX4_weigh 183 = .ok (.iload_n 2, 1) := by decide +kernel
theorem dX4_weigh_184 : decode cX4_weigh 184 = .ok (.iconst 1, 1) := by decide +kernel
theorem dX4_weigh_185 : decode cX4_weigh 185 = .ok (.if_icmp .le 8, 3) := by decide +kernel
theorem dX4_weigh_188 : decode cX4_weigh 188 = .ok (.iload 6, 2) := by decide +kernel
theorem dX4_weigh_190 : decode cX4_weigh 190 = .ok (.goto 4, 3) := by decide +kernel
theorem dX4_weigh_193 : decode cX4_weigh 193 = .ok (.iconst (-1), 1) := by decide +kernel
theorem dX4_weigh_194 : decode cX4_weigh 194 = .ok (.invokevirtual 75, 3) := by decide +kernel
theorem dX4_weigh_197 : decode cX4_weigh 197 = .ok (.aload_n 1, 1) := by decide +kernel
theorem dX4_weigh_198 : decode cX4_weigh 198 = .ok (.iload_n 2, 1) := by decide +kernel
theorem dX4_weigh_199 : decode cX4_weigh 199 = .ok (.iload 7, 2) := by decide +kernel
theorem dX4_weigh_201 : decode cX4_weigh 201 = .ok (.iload 9, 2) := by decide +kernel
theorem dX4_weigh_203 : decode cX4_weigh 203 = .ok (.iload 8, 2) := by decide +kernel
theorem dX4_weigh_205 : decode cX4_weigh 205 = .ok (.invokevirtual 78, 3) := by decide +kernel
theorem dX4_weigh_208 : decode cX4_weigh 208 = .ok (.return_, 1) := by decide +kernel
theorem dX4_isCheaper_0 : decode cX4_isCheaper 0 = .ok (.aload_n 0, 1) := by decide +kernel
theorem dX4_isCheaper_1 : decode cX4_isCheaper 1 = .ok (.getfield 49, 3) := by decide +kernel
theorem dX4_isCheaper_4 : decode cX4_isCheaper 4 = .ok (.ifCond .le 12, 3) := by decide +kernel
theorem dX4_isCheaper_7 : decode cX4_isCheaper 7 = .ok (.iload_n 1, 1) := by decide +kernel
theorem dX4_isCheaper_8 : decode cX4_isCheaper 8 = .ok (.iload_n 2, 1) := by decide +kernel
theorem dX4_isCheaper_9 : decode cX4_isCheaper 9 = .ok (.if_icmp .ge 7, 3) := by decide +kernel
theorem dX4_isCheaper_12 : decode cX4_isCheaper 12 = .ok (.iconst 1, 1) := by decide +kernel
theorem dX4_isCheaper_13 : decode cX4_isCheaper 13 = .ok (.goto 4, 3) := by decide +kernel
theorem dX4_isCheaper_16 : decode cX4_isCheaper 16 = .ok (.iconst 0, 1) := by decide +kernel
theorem dX4_isCheaper_17 : decode cX4_isCheaper 17 = .ok (.ireturn, 1) := by decide +kernel
theorem dX5_init_0 : decode cX5_init 0 = .ok (.aload_n 0, 1) := by decide +kernel
theorem dX5_init_1 : decode cX5_init 1 = .ok (.invokespecial 3, 3) := by decide +kernel
theorem dX5_init_4 : decode cX5_init 4 = .ok (.aload_n 0, 1) := by decide +kernel
theorem dX5_init_5 : decode cX5_init 5 = .ok (.sipush 800, 3) := by decide +kernel
theorem dX5_init_8 : decode cX5_init 8 = .ok (.newarray .byte, 2) := by decide +kernel
theorem dX5_init_10 : decode cX5_init 10 = .ok (.putfield 9, 3) := by decide +kernel
theorem dX5_init_13 : decode cX5_init 13 = .ok (.aload_n 0, 1) := by decide +kernel
theorem dX5_init_14 : decode cX5_init 14 = .ok (.sipush 200, 3) := by decide +kernel
theorem dX5_init_17 : decode cX5_init 17 = .ok (.newarray .int, 2) := by decide +kernel
theorem dX5_init_19 : decode cX5_init 19 = .ok (.putfield 15, 3) := by decide +kernel
theorem dX5_init_22 : decode cX5_init 22 = .ok (.aload_n 0, 1) := by decide +kernel
theorem dX5_init_23 : decode cX5_init 23 = .ok (.sipush 200, 3) := by decide +kernel
theorem dX5_init_26 : decode cX5_init 26 = .ok (.newarray .int, 2) := by decide +kernel
theorem dX5_init_28 : decode cX5_init 28 = .ok (.putfield 19, 3) := by decide +kernel
theorem dX5_init_31 : decode cX5_init 31 = .ok (.aload_n 0, 1) := by decide +kernel
theorem dX5_init_32 : decode cX5_init 32 = .ok (.sipush 200, 3) := by decide +kernel
theorem dX5_init_35 : decode cX5_init 35 = .ok (.newarray .int, 2) := by decide +kernel
theorem dX5_init_37 : decode cX5_init 37 = .ok (.putfield 22, 3) := by decide +kernel
theorem dX5_init_40 : decode cX5_init 40 = .ok (.aload_n 0, 1) := by decide +kernel
theorem dX5_init_41 : decode cX5_init 41 = .ok (.sipush 200, 3) := by decide +kernel
theorem dX5_init_44 : decode cX5_init 44 = .ok (.newarray .int, 2) := by decide +kernel
theorem dX5_init_46 : decode cX5_init 46 = .ok (.putfield 25, 3) := by decide +kernel
theorem dX5_init_49 : decode cX5_init 49 = .ok (.aload_n 0, 1) := by decide +kernel
theorem dX5_init_50 : decode cX5_init 50 = .ok (.sipush 200, 3) := by decide +kernel
theorem dX5_init_53 : decode cX5_init 53 = .ok (.newarray .int, 2) := by decide +kernel
theorem dX5_init_55 : decode cX5_init 55 = .ok (.putfield 28, 3) := by decide +kernel
theorem dX5_init_58 : decode cX5_init 58 = .ok (.aload_n 0, 1) := by decide +kernel
theorem dX5_init_59 : decode cX5_init 59 = .ok (.sipush 200, 3) := by decide +kernel
theorem dX5_init_62 : decode cX5_init 62 = .ok (.newarray .int, 2) := by decide +kernel
theorem dX5_init_64 : decode cX5_init 64 = .ok (.putfield 31, 3) := by decide +kernel
theorem dX5_init_67 : decode cX5_init 67 = .ok (.aload_n 0, 1) := by decide +kernel
theorem dX5_init_68 : decode cX5_init 68 = .ok (.sipush 200, 3) := by decide +kernel
theorem dX5_init_71 : decode cX5_init 71 = .ok (.newarray .int, 2) := by decide +kernel
theorem dX5_init_73 : decode cX5_init 73 = .ok (.putfield 34, 3) := by decide +kernel
theorem dX5_init_76 : decode cX5_init 76 = .ok (.return_, 1) := by decide +kernel
theorem dX5_start_0 : decode cX5_start 0 = .ok (.aload_n 0, 1) := by decide +kernel
theorem dX5_start_1 : decode cX5_start 1 = .ok (.iconst 0, 1) := by decide +kernel
theorem dX5_start_2 : decode cX5_start 2 = .ok (.iload_n 2, 1) := by decide +kernel
theorem dX5_start_3 : decode cX5_start 3 = .ok (.aload_n 1, 1) := by decide +kernel
theorem dX5_start_4 : decode cX5_start 4 = .ok (.arraylength, 1) := by decide +kernel
theorem dX5_start_5 : decode cX5_start 5 = .ok (.aload_n 0, 1) := by decide +kernel
theorem dX5_start_6 : decode cX5_start 6 = .ok (.getfield 9, 3) := by decide +kernel
theorem dX5_start_9 : decode cX5_start 9 = .ok (.arraylength, 1) := by decide +kernel
theorem dX5_start_10 : decode cX5_start 10 = .ok (.invokestatic 37, 3) := by decide +kernel
theorem dX5_start_13 : decode cX5_start 13 = .ok (.invokestatic 37, 3) := by decide +kernel
theorem dX5_start_16 : decode cX5_start 16 = .ok (.invokestatic 43, 3) := by decide +kernel
theorem dX5_start_19 : decode cX5_start 19 = .ok (.putfield 46, 3) := by decide +kernel
theorem dX5_start_22 : decode cX5_start 22 = .ok (.aload_n 1, 1) := by decide +kernel
theorem dX5_start_23 : decode cX5_start 23 = .ok (.iconst 0, 1) := by decide +kernel
theorem dX5_start_24 : decode cX5_start 24 = .ok (.aload_n 0, 1) := by decide +kernel
theorem dX5_start_25 : decode cX5_start 25 = .ok (.getfield 9, 3) := by decide +kernel
theorem dX5_start_28 : decode cX5_start 28 = .ok (.iconst 0, 1) := by decide +kernel
theorem dX5_start_29 : decode cX5_start 29 = .ok (.aload_n 0, 1) := by decide +kernel
theorem dX5_start_30 : decode cX5_start 30 = .ok (.getfield 46, 3) := by decide +kernel
theorem dX5_start_33 : decode cX5_start 33 = .ok (.invokestatic 50, 3) := by decide +kernel
theorem dX5_start_36 : decode cX5_start 36 = .ok (.aload_n 0, 1) := by decide +kernel
theorem dX5_start_37 : decode cX5_start 37 = .ok (.iload_n 3, 1) := by decide +kernel
theorem dX5_start_38 : decode cX5_start 38 = .ok (.putfield 56, 3) := by decide +kernel
theorem dX5_start_41 : decode cX5_start 41 = .ok (.aload_n 0, 1) := by decide +kernel
theorem dX5_start_42 : decode cX5_start 42 = .ok (.iconst 0, 1) := by decide +kernel
theorem dX5_start_43 : decode cX5_start 43 = .ok (.putfield 59, 3) := by decide +kernel
theorem dX5_start_46 : decode cX5_start 46 = .ok (.return_, 1) := by decide +kernel
theorem dX5_byteAt_0 : decode cX5_byteAt 0 = .ok (.iload_n 1, 1) := by decide +kernel
theorem dX5_byteAt_1 : decode cX5_byteAt 1 = .ok (.ifCond .lt 20, 3) := by decide +kernel
theorem dX5_byteAt_4 : decode cX5_byteAt 4 = .ok (.iload_n 1, 1) := by decide +kernel
theorem dX5_byteAt_5 : decode cX5_byteAt 5 = .ok (.aload_n 0, 1) := by decide +kernel
theorem dX5_byteAt_6 : decode cX5_byteAt 6 = .ok (.getfield 46, 3) := by decide +kernel
theorem dX5_byteAt_9 : decode cX5_byteAt 9 = .ok (.if_icmp .ge 12, 3) := by decide +kernel
theorem dX5_byteAt_12 : decode cX5_byteAt 12 = .ok (.aload_n 0, 1) := by decide +kernel
theorem dX5_byteAt_13 : decode cX5_byteAt 13 = .ok (.getfield 9, 3) := by decide +kernel
theorem dX5_byteAt_16 : decode cX5_byteAt 16 = .ok (.iload_n 1, 1) := by decide +kernel
theorem dX5_byteAt_17 : decode cX5_byteAt 17 = .ok (.baload, 1) := by decide +kernel
theorem dX5_byteAt_18 : decode cX5_byteAt 18 = .ok (.goto 4, 3) := by decide +kernel
theorem dX5_byteAt_21 : decode cX5_byteAt 21 = .ok (.iconst (-1), 1) := by decide +kernel
theorem dX5_byteAt_22 : decode cX5_byteAt 22 = .ok (.ireturn, 1) := by decide +kernel
theorem dX5_isFull_0 : decode cX5_isFull 0 = .ok (.aload_n 0, 1) := by decide +kernel
theorem dX5_isFull_1 : decode cX5_isFull 1 = .ok (.getfield 59, 3) := by decide +kernel
theorem dX5_isFull_4 : decode cX5_isFull 4 = .ok (.sipush 200, 3) := by decide +kernel
theorem dX5_isFull_7 : decode cX5_isFull 7 = .ok (.if_icmp .lt 7, 3) := by decide +kernel
theorem dX5_isFull_10 : decode cX5_isFull 10 = .ok (.iconst 1, 1) := by decide +kernel
theorem dX5_isFull_11 : decode cX5_isFull 11 = .ok (.goto 4, 3) := by decide +kernel
theorem dX5_isFull_14 : decode cX5_isFull 14 = .ok (.iconst 0, 1) := by decide +kernel
theorem dX5_isFull_15 : decode cX5_isFull 15 = .ok (.ireturn, 1) := by decide +kernel
theorem dX5_addToken_0 : decode cX5_addToken 0 = .ok (.aload_n 0, 1) := by decide +kernel
theorem dX5_addToken_1 : decode cX5_addToken 1 = .ok (.getfield 59, 3) := by decide +kernel
theorem dX5_addToken_4 : decode cX5_addToken 4 = .ok (.sipush 200, 3) := by decide +kernel
theorem dX5_addToken_7 : decode cX5_addToken 7 = .ok (.if_icmp .ge 65, 3) := by decide +kernel
theorem dX5_addToken_10 : decode cX5_addToken 10 = .ok (.aload_n 0, 1) := by decide +kernel
theorem dX5_addToken_11 : decode cX5_addToken 11 = .ok (.getfield 15, 3) := by decide +kernel
theorem dX5_addToken_14 : decode cX5_addToken 14 = .ok (.aload_n 0, 1) := by decide +kernel
theorem dX5_addToken_15 : decode cX5_addToken 15 = .ok (.getfield 59, 3) := by decide +kernel
theorem dX5_addToken_18 : decode cX5_addToken 18 = .ok (.iload_n 1, 1) := by decide +kernel
theorem dX5_addToken_19 : decode cX5_addToken 19 = .ok (.iastore, 1) := by decide +kernel
theorem dX5_addToken_20 : decode cX5_addToken 20 = .ok (.aload_n 0, 1) := by decide +kernel
theorem dX5_addToken_21 : decode cX5_addToken 21 = .ok (.getfield 19, 3) := by decide +kernel
theorem dX5_addToken_24 : decode cX5_addToken 24 = .ok (.aload_n 0, 1) := by decide +kernel
theorem dX5_addToken_25 : decode cX5_addToken 25 = .ok (.getfield 59, 3) := by decide +kernel
theorem dX5_addToken_28 : decode cX5_addToken 28 = .ok (.iload_n 2, 1) := by decide +kernel
theorem dX5_addToken_29 : decode cX5_addToken 29 = .ok (.iastore, 1) := by decide +kernel
theorem dX5_addToken_30 : decode cX5_addToken 30 = .ok (.aload_n 0, 1) := by decide +kernel
theorem dX5_addToken_31 : decode cX5_addToken 31 = .ok (.getfield 22, 3) := by decide +kernel
theorem dX5_addToken_34 : decode cX5_addToken 34 = .ok (.aload_n 0, 1) := by decide +kernel
theorem dX5_addToken_35 : decode cX5_addToken 35 = .ok (.getfield 59, 3) := by decide +kernel
theorem dX5_addToken_38 : decode cX5_addToken 38 = .ok (.iload_n 3, 1) := by decide +kernel
theorem dX5_addToken_39 : decode cX5_addToken 39 = .ok (.iastore, 1) := by decide +kernel
theorem dX5_addToken_40 : decode cX5_addToken 40 = .ok (.aload_n 0, 1) := by decide +kernel
theorem dX5_addToken_41 : decode cX5_addToken 41 = .ok (.getfield 25, 3) := by decide +kernel
theorem dX5_addToken_44 : decode cX5_addToken 44 = .ok (.aload_n 0, 1) := by decide +kernel
theorem dX5_addToken_45 : decode cX5_addToken 45 = .ok (.getfield 59, 3) := by decide +kernel
theorem dX5_addToken_48 : decode cX5_addToken 48 = .ok (.iload 4, 2) := by decide +kernel
theorem dX5_addToken_50 : decode cX5_addToken 50 = .ok (.iastore, 1) := by decide +kernel
theorem dX5_addToken_51 : decode cX5_addToken 51 = .ok (.aload_n 0, 1) := by decide +kernel
theorem dX5_addToken_52 : decode cX5_addToken 52 = .ok (.getfield 28, 3) := by decide +kernel
theorem dX5_addToken_55 : decode cX5_addToken 55 = .ok (.aload_n 0, 1) := by decide +kernel
theorem dX5_addToken_56 : decode cX5_addToken 56 = .ok (.getfield 59, 3) := by decide +kernel
theorem dX5_addToken_59 : decode cX5_addToken 59 = .ok (.iload 5, 2) := by decide +kernel
theorem dX5_addToken_61 : decode cX5_addToken 61 = .ok (.iastore, 1) := by decide +kernel
theorem dX5_addToken_62 : decode cX5_addToken 62 = .ok (.aload_n 0, 1) := by decide +kernel
theorem dX5_addToken_63 : decode cX5_addToken 63 = .ok (.dup, 1) := by decide +kernel
theorem dX5_addToken_64 : decode cX5_addToken 64 = .ok (.getfield 59, 3) := by decide +kernel
theorem dX5_addToken_67 : decode cX5_addToken 67 = .ok (.iconst 1, 1) := by decide +kernel
theorem dX5_addToken_68 : decode cX5_addToken 68 = .ok (.iadd, 1) := by decide +kernel
theorem dX5_addToken_69 : decode cX5_addToken 69 = .ok (.putfield 59, 3) := by decide +kernel
theorem dX5_addToken_72 : decode cX5_addToken 72 = .ok (.return_, 1) := by decide +kernel
theorem dX5_gapCount_0 : decode cX5_gapCount 0 = .ok (.aload_n 0, 1) := by decide +kernel
theorem dX5_gapCount_1 : decode cX5_gapCount 1 = .ok (.getfield 59, 3) := by decide +kernel
theorem dX5_gapCount_4 : decode cX5_gapCount 4 = .ok (.ifCond .le 12, 3) := by decide +kernel
theorem dX5_gapCount_7 : decode cX5_gapCount 7 = .ok (.aload_n 0, 1) := by decide +kernel
theorem dX5_gapCount_8 : decode cX5_gapCount 8 = .ok (.getfield 59, 3) := by decide +kernel
theorem dX5_gapCount_11 : decode cX5_gapCount 11 = .ok (.iconst 1, 1) := by decide +kernel
theorem dX5_gapCount_12 : decode cX5_gapCount 12 = .ok (.isub, 1) := by decide +kernel
theorem dX5_gapCount_13 : decode cX5_gapCount 13 = .ok (.goto 4, 3) := by decide +kernel
theorem dX5_gapCount_16 : decode cX5_gapCount 16 = .ok (.iconst 0, 1) := by decide +kernel
theorem dX5_gapCount_17 : decode cX5_gapCount 17 = .ok (.ireturn, 1) := by decide +kernel
theorem dX5_seeGaps_0 : decode cX5_seeGaps 0 = .ok (.iconst 0, 1) := by decide +kernel
theorem dX5_seeGaps_1 : decode cX5_seeGaps 1 = .ok (.istore_n 1, 1) := by decide +kernel
theorem dX5_seeGaps_2 : decode cX5_seeGaps 2 = .ok (.iload_n 1, 1) := by decide +kernel
theorem dX5_seeGaps_3 : decode cX5_seeGaps 3 = .ok (.iconst 1, 1) := by decide +kernel
theorem dX5_seeGaps_4 : decode cX5_seeGaps 4 = .ok (.iadd, 1) := by decide +kernel
theorem dX5_seeGaps_5 : decode cX5_seeGaps 5 = .ok (.aload_n 0, 1) := by decide +kernel
theorem dX5_seeGaps_6 : decode cX5_seeGaps 6 = .ok (.getfield 59, 3) := by decide +kernel
theorem dX5_seeGaps_9 : decode cX5_seeGaps 9 = .ok (.if_icmp .ge 64, 3) := by decide +kernel
theorem dX5_seeGaps_12 : decode cX5_seeGaps 12 = .ok (.aload_n 0, 1) := by decide +kernel
theorem dX5_seeGaps_13 : decode cX5_seeGaps 13 = .ok (.getfield 31, 3) := by decide +kernel
theorem dX5_seeGaps_16 : decode cX5_seeGaps 16 = .ok (.iload_n 1, 1) := by decide +kernel
theorem dX5_seeGaps_17 : decode cX5_seeGaps 17 = .ok (.aload_n 0, 1) := by decide +kernel
theorem dX5_seeGaps_18 : decode cX5_seeGaps 18 = .ok (.getfield 22, 3) := by decide +kernel
theorem dX5_seeGaps_21 : decode cX5_seeGaps 21 = .ok (.iload_n 1, 1) := by decide +kernel
theorem dX5_seeGaps_22 : decode cX5_seeGaps 22 = .ok (.iaload, 1) := by decide +kernel
theorem dX5_seeGaps_23 : decode cX5_seeGaps 23 = .ok (.aload_n 0, 1) := by decide +kernel
theorem dX5_seeGaps_24 : decode cX5_seeGaps 24 = .ok (.getfield 22, 3) := by decide +kernel
theorem dX5_seeGaps_27 : decode cX5_seeGaps 27 = .ok (.iload_n 1, 1) := by decide +kernel
theorem dX5_seeGaps_28 : decode cX5_seeGaps 28 = .ok (.iconst 1, 1) := by decide +kernel
theorem dX5_seeGaps_29 : decode cX5_seeGaps 29 = .ok (.iadd, 1) := by decide +kernel
theorem dX5_seeGaps_30 : decode cX5_seeGaps 30 = .ok (.iaload, 1) := by decide +kernel
theorem dX5_seeGaps_31 : decode cX5_seeGaps 31 = .ok (.invokestatic 62, 3) := by decide +kernel
theorem dX5_seeGaps_34 : decode cX5_seeGaps 34 = .ok (.iastore, 1) := by decide +kernel
theorem dX5_seeGaps_35 : decode cX5_seeGaps 35 = .ok (.aload_n 0, 1) := by decide +kernel
theorem dX5_seeGaps_36 : decode cX5_seeGaps 36 = .ok (.getfield 34, 3) := by decide +kernel
theorem dX5_seeGaps_39 : decode cX5_seeGaps 39 = .ok (.iload_n 1, 1) := by decide +kernel
theorem dX5_seeGaps_40 : decode cX5_seeGaps 40 = .ok (.aload_n 0, 1) := by decide +kernel
theorem dX5_seeGaps_41 : decode cX5_seeGaps 41 = .ok (.aload_n 0, 1) := by decide +kernel
theorem dX5_seeGaps_42 : decode cX5_seeGaps 42 = .ok (.getfield 19, 3) := by decide +kernel
theorem dX5_seeGaps_45 : decode cX5_seeGaps 45 = .ok (.iload_n 1, 1) := by decide +kernel
theorem dX5_seeGaps_46 : decode cX5_seeGaps 46 = .ok (.iaload, 1) := by decide +kernel
theorem dX5_seeGaps_47 : decode cX5_seeGaps 47 = .ok (.aload_n 0, 1) := by decide +kernel
theorem dX5_seeGaps_48 : decode cX5_seeGaps 48 = .ok (.getfield 15, 3) := by decide +kernel
theorem dX5_seeGaps_51 : decode cX5_seeGaps 51 = .ok (.iload_n 1, 1) := by decide +kernel
theorem dX5_seeGaps_52 : decode cX5_seeGaps 52 = .ok (.iconst 1, 1) := by decide +kernel
theorem dX5_seeGaps_53 : decode cX5_seeGaps 53 = .ok (.iadd, 1) := by decide +kernel
theorem dX5_seeGaps_54 : decode cX5_seeGaps 54 = .ok (.iaload, 1) := by decide +kernel
theorem dX5_seeGaps_55 : decode cX5_seeGaps 55 = .ok (.aload_n 0, 1) := by decide +kernel
theorem dX5_seeGaps_56 : decode cX5_seeGaps 56 = .ok (.getfield 25, 3) := by decide +kernel
theorem dX5_seeGaps_59 : decode cX5_seeGaps 59 = .ok (.iload_n 1, 1) := by decide +kernel
theorem dX5_seeGaps_60 : decode cX5_seeGaps 60 = .ok (.iconst 1, 1) := by decide +kernel
theorem dX5_seeGaps_61 : decode cX5_seeGaps 61 = .ok (.iadd, 1) := by decide +kernel
theorem dX5_seeGaps_62 : decode cX5_seeGaps 62 = .ok (.iaload, 1) := by decide +kernel
theorem dX5_seeGaps_63 : decode cX5_seeGaps 63 = .ok (.invokevirtual 65, 3) := by decide +kernel
theorem dX5_seeGaps_66 : decode cX5_seeGaps 66 = .ok (.iastore, 1) := by decide +kernel
theorem dX5_seeGaps_67 : decode cX5_seeGaps 67 = .ok (.iinc 1 1, 3) := by decide +kernel
theorem dX5_seeGaps_70 : decode cX5_seeGaps 70 = .ok (.goto (-68), 3) := by decide +kernel
theorem dX5_seeGaps_73 : decode cX5_seeGaps 73 = .ok (.return_, 1) := by decide +kernel
theorem dX5_kindBetween_0 : decode cX5_kindBetween 0 = .ok (.iload_n 1, 1) := by decide +kernel
theorem dX5_kindBetween_1 : decode cX5_kindBetween 1 = .ok (.bipush 59, 2) := by decide +kernel
theorem dX5_kindBetween_3 : decode cX5_kindBetween 3 = .ok (.if_icmp .ne 5, 3) := by decide +kernel
theorem dX5_kindBetween_6 : decode cX5_kindBetween 6 = .ok (.iconst 0, 1) := by decide +kernel
theorem dX5_kindBetween_7 : decode cX5_kindBetween 7 = .ok (.ireturn, 1) := by decide +kernel
theorem dX5_kindBetween_8 : decode cX5_kindBetween 8 = .ok (.iload_n 0, 1) := by decide +kernel
theorem dX5_kindBetween_9 : decode cX5_kindBetween 9 = .ok (.bipush 59, 2) := by decide +kernel
theorem dX5_kindBetween_11 : decode cX5_kindBetween 11 = .ok (.if_icmp .ne 5, 3) := by decide +kernel
theorem dX5_kindBetween_14 : decode cX5_kindBetween 14 = .ok (.iconst 1, 1) := by decide +kernel
theorem dX5_kindBetween_15 : decode cX5_kindBetween 15 = .ok (.ireturn, 1) := by decide +kernel
theorem dX5_kindBetween_16 : decode cX5_kindBetween 16 = .ok (.iload_n 0, 1) := by decide +kernel
theorem dX5_kindBetween_17 : decode cX5_kindBetween 17 = .ok (.bipush 123, 2) := by decide +kernel
theorem dX5_kindBetween_19 : decode cX5_kindBetween 19 = .ok (.if_icmp .ne 5, 3) := by decide +kernel
theorem dX5_kindBetween_22 : decode cX5_kindBetween 22 = .ok (.iconst 2, 1) := by decide +kernel
theorem dX5_kindBetween_23 : decode cX5_kindBetween 23 = .ok (.ireturn, 1) := by decide +kernel
theorem dX5_kindBetween_24 : decode cX5_kindBetween 24 = .ok (.iload_n 1, 1) := by decide +kernel
theorem dX5_kindBetween_25 : decode cX5_kindBetween 25 = .ok (.bipush 125, 2) := by decide +kernel
theorem dX5_kindBetween_27 : decode cX5_kindBetween 27 = .ok (.if_icmp .ne 5, 3) := by decide +kernel
theorem dX5_kindBetween_30 : decode cX5_kindBetween 30 = .ok (.iconst 3, 1) := by decide +kernel
theorem dX5_kindBetween_31 : decode cX5_kindBetween 31 = .ok (.ireturn, 1) := by decide +kernel
theorem dX5_kindBetween_32 : decode cX5_kindBetween 32 = .ok (.iload_n 0, 1) := by decide +kernel
theorem dX5_kindBetween_33 : decode cX5_kindBetween 33 = .ok (.bipush 125, 2) := by decide +kernel
theorem dX5_kindBetween_35 : decode cX5_kindBetween 35 = .ok (.if_icmp .ne 5, 3) := by decide +kernel
theorem dX5_kindBetween_38 : decode cX5_kindBetween 38 = .ok (.iconst 4, 1) := by decide +kernel
theorem dX5_kindBetween_39 : decode cX5_kindBetween 39 = .ok (.ireturn, 1) := by decide +kernel
theorem dX5_kindBetween_40 : decode cX5_kindBetween 40 = .ok (.iload_n 1, 1) := by decide +kernel
theorem dX5_kindBetween_41 : decode cX5_kindBetween 41 = .ok (.bipush 123, 2) := by decide +kernel
theorem dX5_kindBetween_43 : decode cX5_kindBetween 43 = .ok (.if_icmp .ne 5, 3) := by decide +kernel
theorem dX5_kindBetween_46 : decode cX5_kindBetween 46 = .ok (.iconst 5, 1) := by decide +kernel
theorem dX5_kindBetween_47 : decode cX5_kindBetween 47 = .ok (.ireturn, 1) := by decide +kernel
theorem dX5_kindBetween_48 : decode cX5_kindBetween 48 = .ok (.iload_n 0, 1) := by decide +kernel
theorem dX5_kindBetween_49 : decode cX5_kindBetween 49 = .ok (.iload_n 1, 1) := by decide +kernel
theorem dX5_kindBetween_50 : decode cX5_kindBetween 50 = .ok (.invokestatic 69, 3) := by decide +kernel
theorem dX5_kindBetween_53 : decode cX5_kindBetween 53 = .ok (.ireturn, 1) := by decide +kernel
theorem dX5_kindInStatement_0 : decode cX5_kindInStatement 0 = .ok (.iload_n 1, 1) := by decide +kernel
theorem dX5_kindInStatement_1 : decode cX5_kindInStatement 1 = .ok (.bipush 44, 2) := by decide +kernel
theorem dX5_kindInStatement_3 : decode cX5_kindInStatement 3 = .ok (.if_icmp .ne 6, 3) := by decide +kernel
theorem dX5_kindInStatement_6 : decode cX5_kindInStatement 6 = .ok (.bipush 6, 2) := by decide +kernel
theorem dX5_kindInStatement_8 : decode cX5_kindInStatement 8 = .ok (.ireturn, 1) := by decide +kernel
theorem dX5_kindInStatement_9 : decode cX5_kindInStatement 9 = .ok (.iload_n 0, 1) := by decide +kernel
theorem dX5_kindInStatement_10 : decode cX5_kindInStatement 10 = .ok (.bipush 44, 2) := by decide +kernel
theorem dX5_kindInStatement_12 : decode cX5_kindInStatement 12 = .ok (.if_icmp .ne 6, 3) := by decide +kernel
theorem dX5_kindInStatement_15 : decode cX5_kindInStatement 15 = .ok (.bipush 7, 2) := by decide +kernel
theorem dX5_kindInStatement_17 : decode cX5_kindInStatement 17 = .ok (.ireturn, 1) := by decide +kernel
theorem dX5_kindInStatement_18 : decode cX5_kindInStatement 18 = .ok (.iload_n 0, 1) := by decide +kernel
theorem dX5_kindInStatement_19 : decode cX5_kindInStatement 19 = .ok (.bipush 40, 2) := by decide +kernel
theorem dX5_kindInStatement_21 : decode cX5_kindInStatement 21 = .ok (.if_icmp .ne 6, 3) := by decide +kernel
theorem dX5_kindInStatement_24 : decode cX5_kindInStatement 24 = .ok (.bipush 8, 2) := by decide +kernel
theorem dX5_kindInStatement_26 : decode cX5_kindInStatement 26 = .ok (.ireturn, 1) := by decide +kernel
theorem dX5_kindInStatement_27 : decode cX5_kindInStatement 27 = .ok (.iload_n 1, 1) := by decide +kernel
theorem dX5_kindInStatement_28 : decode cX5_kindInStatement 28 = .ok (.bipush 41, 2) := by decide +kernel
theorem dX5_kindInStatement_30 : decode cX5_kindInStatement 30 = .ok (.if_icmp .ne 6, 3) := by decide +kernel
theorem dX5_kindInStatement_33 : decode cX5_kindInStatement 33 = .ok (.bipush 9, 2) := by decide +kernel
theorem dX5_kindInStatement_35 : decode cX5_kindInStatement 35 = .ok (.ireturn, 1) := by decide +kernel
theorem dX5_kindInStatement_36 : decode cX5_kindInStatement 36 = .ok (.iload_n 1, 1) := by decide +kernel
theorem dX5_kindInStatement_37 : decode cX5_kindInStatement 37 = .ok (.bipush 40, 2) := by decide +kernel
theorem dX5_kindInStatement_39 : decode cX5_kindInStatement 39 = .ok (.if_icmp .ne 6, 3) := by decide +kernel
theorem dX5_kindInStatement_42 : decode cX5_kindInStatement 42 = .ok (.bipush 10, 2) := by decide +kernel
theorem dX5_kindInStatement_44 : decode cX5_kindInStatement 44 = .ok (.ireturn, 1) := by decide +kernel
theorem dX5_kindInStatement_45 : decode cX5_kindInStatement 45 = .ok (.iload_n 1, 1) := by decide +kernel
theorem dX5_kindInStatement_46 : decode cX5_kindInStatement 46 = .ok (.bipush 61, 2) := by decide +kernel
theorem dX5_kindInStatement_48 : decode cX5_kindInStatement 48 = .ok (.if_icmp .ne 6, 3) := by decide +kernel
theorem dX5_kindInStatement_51 : decode cX5_kindInStatement 51 = .ok (.bipush 11, 2) := by decide +kernel
theorem dX5_kindInStatement_53 : decode cX5_kindInStatement 53 = .ok (.ireturn, 1) := by decide +kernel
theorem dX5_kindInStatement_54 : decode cX5_kindInStatement 54 = .ok (.iload_n 0, 1) := by decide +kernel
theorem dX5_kindInStatement_55 : decode cX5_kindInStatement 55 = .ok (.bipush 61, 2) := by decide +kernel
theorem dX5_kindInStatement_57 : decode cX5_kindInStatement 57 = .ok (.if_icmp .ne 6, 3) := by decide +kernel
theorem dX5_kindInStatement_60 : decode cX5_kindInStatement 60 = .ok (.bipush 12, 2) := by decide +kernel
theorem dX5_kindInStatement_62 : decode cX5_kindInStatement 62 = .ok (.ireturn, 1) := by decide +kernel
theorem dX5_kindInStatement_63 : decode cX5_kindInStatement 63 = .ok (.iload_n 1, 1) := by decide +kernel
theorem dX5_kindInStatement_64 : decode cX5_kindInStatement 64 = .ok (.invokestatic 72, 3) := by decide +kernel
theorem dX5_kindInStatement_67 : decode cX5_kindInStatement 67 = .ok (.ifCond .eq 6, 3) := by decide +kernel
theorem dX5_kindInStatement_70 : decode cX5_kindInStatement 70 = .ok (.bipush 13, 2) := by decide +kernel
theorem dX5_kindInStatement_72 : decode cX5_kindInStatement 72 = .ok (.ireturn, 1) := by decide +kernel
theorem dX5_kindInStatement_73 : decode cX5_kindInStatement 73 = .ok (.iload_n 0, 1) := by decide +kernel
theorem dX5_kindInStatement_74 : decode cX5_kindInStatement 74 = .ok (.invokestatic 72, 3) := by decide +kernel
theorem dX5_kindInStatement_77 : decode cX5_kindInStatement 77 = .ok (.ifCond .eq 8, 3) := by decide +kernel
theorem dX5_kindInStatement_80 : decode cX5_kindInStatement 80 = .ok (.bipush 14, 2) := by decide +kernel
theorem dX5_kindInStatement_82 : decode cX5_kindInStatement 82 = .ok (.goto 5, 3) := by decide +kernel
theorem dX5_kindInStatement_85 : decode cX5_kindInStatement 85 = .ok (.bipush 15, 2) := by decide +kernel
theorem dX5_kindInStatement_87 : decode cX5_kindInStatement 87 = .ok (.ireturn, 1) := by decide +kernel
theorem dX5_choiceBetween_0 : decode cX5_choiceBetween 0 = .ok (.iload_n 2, 1) := by decide +kernel
theorem dX5_choiceBetween_1 : decode cX5_choiceBetween 1 = .ok (.iload_n 1, 1) := by decide +kernel
theorem dX5_choiceBetween_2 : decode cX5_choiceBetween 2 = .ok (.isub, 1) := by decide +kernel
theorem dX5_choiceBetween_3 : decode cX5_choiceBetween 3 = .ok (.istore 4, 2) := by decide +kernel
theorem dX5_choiceBetween_5 : decode cX5_choiceBetween 5 = .ok (.iload 4, 2) := by decide +kernel
theorem dX5_choiceBetween_7 : decode cX5_choiceBetween 7 = .ok (.ifCond .ne 5, 3) := by decide +kernel
theorem dX5_choiceBetween_10 : decode cX5_choiceBetween 10 = .ok (.iconst 0, 1) := by decide +kernel
theorem dX5_choiceBetween_11 : decode cX5_choiceBetween 11 = .ok (.ireturn, 1) := by decide +kernel
theorem dX5_choiceBetween_12 : decode cX5_choiceBetween 12 = .ok (.iload 4, 2) := by decide +kernel
theorem dX5_choiceBetween_14 : decode cX5_choiceBetween 14 = .ok (.iconst 1, 1) := by decide +kernel
theorem dX5_choiceBetween_15 : decode cX5_choiceBetween 15 = .ok (.if_icmp .ne 15, 3) := by decide +kernel
theorem dX5_choiceBetween_18 : decode cX5_choiceBetween 18 = .ok (.aload_n 0, 1) := by decide +kernel
theorem dX5_choiceBetween_19 : decode cX5_choiceBetween 19 = .ok (.iload_n 1, 1) := by decide +kernel
theorem dX5_choiceBetween_20 : decode cX5_choiceBetween 20 = .ok (.invokevirtual 76, 3) := by decide +kernel
theorem dX5_choiceBetween_23 : decode cX5_choiceBetween 23 = .ok (.bipush 32, 2) := by decide +kernel
theorem dX5_choiceBetween_25 : decode cX5_choiceBetween 25 = .ok (.if_icmp .ne 5, 3) := by decide +kernel
theorem dX5_choiceBetween_28 : decode cX5_choiceBetween 28 = .ok (.iconst 1, 1) := by decide +kernel
theorem dX5_choiceBetween_29 : decode cX5_choiceBetween 29 = .ok (.ireturn, 1) := by decide +kernel
theorem dX5_choiceBetween_30 : decode cX5_choiceBetween 30 = .ok (.iload 4, 2) := by decide +kernel
theorem dX5_choiceBetween_32 : decode cX5_choiceBetween 32 = .ok (.iconst 1, 1) := by decide +kernel
theorem dX5_choiceBetween_33 : decode cX5_choiceBetween 33 = .ok (.iconst 2, 1) := by decide +kernel
theorem dX5_choiceBetween_34 : decode cX5_choiceBetween 34 = .ok (.iload_n 3, 1) := by decide +kernel
theorem dX5_choiceBetween_35 : decode cX5_choiceBetween 35 = .ok (.imul, 1) := by decide +kernel
theorem dX5_choiceBetween_36 : decode cX5_choiceBetween 36 = .ok (.iadd, 1) := by decide +kernel
theorem dX5_choiceBetween_37 : decode cX5_choiceBetween 37 = .ok (.if_icmp .ne 13, 3) := by decide +kernel
theorem dX5_choiceBetween_40 : decode cX5_choiceBetween 40 = .ok (.aload_n 0, 1) := by decide +kernel
theorem dX5_choiceBetween_41 : decode cX5_choiceBetween 41 = .ok (.iload_n 1, 1) := by decide +kernel
theorem dX5_choiceBetween_42 : decode cX5_choiceBetween 42 = .ok (.invokevirtual 76, 3) := by decide +kernel
theorem dX5_choiceBetween_45 : decode cX5_choiceBetween 45 = .ok (.bipush 10, 2) := by decide +kernel
theorem dX5_choiceBetween_47 : decode cX5_choiceBetween 47 = .ok (.if_icmp .eq 5, 3) := by decide +kernel
theorem dX5_choiceBetween_50 : decode cX5_choiceBetween 50 = .ok (.iconst 3, 1) := by decide +kernel
theorem dX5_choiceBetween_51 : decode cX5_choiceBetween 51 = .ok (.ireturn, 1) := by decide +kernel
theorem dX5_choiceBetween_52 : decode cX5_choiceBetween 52 = .ok (.iload_n 1, 1) := by decide +kernel
theorem dX5_choiceBetween_53 : decode cX5_choiceBetween 53 = .ok (.iconst 1, 1) := by decide +kernel
theorem dX5_choiceBetween_54 : decode cX5_choiceBetween 54 = .ok (.iadd, 1) := by decide +kernel
theorem dX5_choiceBetween_55 : decode cX5_choiceBetween 55 = .ok (.istore 5, 2) := by decide +kernel
theorem dX5_choiceBetween_57 : decode cX5_choiceBetween 57 = .ok (.iload 5, 2) := by decide +kernel
theorem dX5_choiceBetween_59 : decode cX5_choiceBetween 59 = .ok (.iload_n 2, 1) := by decide +kernel
theorem dX5_choiceBetween_60 : decode cX5_choiceBetween 60 = .ok (.if_icmp .ge 22, 3) := by decide +kernel
theorem dX5_choiceBetween_63 : decode cX5_choiceBetween 63 = .ok (.aload_n 0, 1) := by decide +kernel
theorem dX5_choiceBetween_64 : decode cX5_choiceBetween 64 = .ok (.iload 5, 2) := by decide +kernel
theorem dX5_choiceBetween_66 : decode cX5_choiceBetween 66 = .ok (.invokevirtual 76, 3) := by decide +kernel
theorem dX5_choiceBetween_69 : decode cX5_choiceBetween 69 = .ok (.bipush 32, 2) := by decide +kernel
theorem dX5_choiceBetween_71 : decode cX5_choiceBetween 71 = .ok (.if_icmp .eq 5, 3) := by decide +kernel
theorem dX5_choiceBetween_74 : decode cX5_choiceBetween 74 = .ok (.iconst 3, 1) := by decide +kernel
theorem dX5_choiceBetween_75 : decode cX5_choiceBetween 75 = .ok (.ireturn, 1) := by decide +kernel
theorem dX5_choiceBetween_76 : decode cX5_choiceBetween 76 = .ok (.iinc 5 1, 3) := by decide +kernel
theorem dX5_choiceBetween_79 : decode cX5_choiceBetween 79 = .ok (.goto (-22), 3) := by decide +kernel
theorem dX5_choiceBetween_82 : decode cX5_choiceBetween 82 = .ok (.iconst 2, 1) := by decide +kernel
theorem dX5_choiceBetween_83 : decode cX5_choiceBetween 83 = .ok (.ireturn, 1) := by decide +kernel
theorem dX5_testsAt_0 : decode cX5_testsAt 0 = .ok (.aload_n 0, 1) := by decide +kernel
theorem dX5_testsAt_1 : decode cX5_testsAt 1 = .ok (.getfield 25, 3) := by decide +kernel
theorem dX5_testsAt_4 : decode cX5_testsAt 4 = .ok (.iload_n 1, 1) := by decide +kernel
theorem dX5_testsAt_5 : decode cX5_testsAt 5 = .ok (.iconst 1, 1) := by decide +kernel
theorem dX5_testsAt_6 : decode cX5_testsAt 6 = .ok (.iadd, 1) := by decide +kernel
theorem dX5_testsAt_7 : decode cX5_testsAt 7 = .ok (.iaload, 1) := by decide +kernel
theorem dX5_testsAt_8 : decode cX5_testsAt 8 = .ok (.istore_n 2, 1) := by decide +kernel
theorem dX5_testsAt_9 : decode cX5_testsAt 9 = .ok (.iconst 1, 1) := by decide +kernel
theorem dX5_testsAt_10 : decode cX5_testsAt 10 = .ok (.iconst 2, 1) := by decide +kernel
theorem dX5_testsAt_11 : decode cX5_testsAt 11 = .ok (.aload_n 0, 1) := by decide +kernel
theorem dX5_testsAt_12 : decode cX5_testsAt 12 = .ok (.getfield 28, 3) := by decide +kernel
theorem dX5_testsAt_15 : decode cX5_testsAt 15 = .ok (.iload_n 1, 1) := by decide +kernel
theorem dX5_testsAt_16 : decode cX5_testsAt 16 = .ok (.iaload, 1) := by decide +kernel
theorem dX5_testsAt_17 : decode cX5_testsAt 17 = .ok (.iadd, 1) := by decide +kernel
theorem dX5_testsAt_18 : decode cX5_testsAt 18 = .ok (.ishl, 1) := by decide +kernel
theorem dX5_testsAt_19 : decode cX5_testsAt 19 = .ok (.iconst 1, 1) := by decide +kernel
theorem dX5_testsAt_20 : decode cX5_testsAt 20 = .ok (.bipush 6, 2) := by decide +kernel
theorem dX5_testsAt_22 : decode cX5_testsAt 22 = .ok (.aload_n 0, 1) := by decide +kernel
theorem dX5_testsAt_23 : decode cX5_testsAt 23 = .ok (.getfield 56, 3) := by decide +kernel
theorem dX5_testsAt_26 : decode cX5_testsAt 26 = .ok (.iadd, 1) := by decide +kernel
theorem dX5_testsAt_27 : decode cX5_testsAt 27 = .ok (.ishl, 1) := by decide +kernel
theorem dX5_testsAt_28 : decode cX5_testsAt 28 = .ok (.ior, 1) := by decide +kernel
theorem dX5_testsAt_29 : decode cX5_testsAt 29 = .ok (.istore_n 3, 1) := by decide +kernel
theorem dX5_testsAt_30 : decode cX5_testsAt 30 = .ok (.iload_n 2, 1) := by decide +kernel
theorem dX5_testsAt_31 : decode cX5_testsAt 31 = .ok (.ifCond .ne 10, 3) := by decide +kernel
theorem dX5_testsAt_34 : decode cX5_testsAt 34 = .ok (.iload_n 3, 1) := by decide +kernel
theorem dX5_testsAt_35 : decode cX5_testsAt 35 = .ok (.iconst 1, 1) := by decide +kernel
theorem dX5_testsAt_36 : decode cX5_testsAt 36 = .ok (.ior, 1) := by decide +kernel
theorem dX5_testsAt_37 : decode cX5_testsAt 37 = .ok (.istore_n 3, 1) := by decide +kernel
theorem dX5_testsAt_38 : decode cX5_testsAt 38 = .ok (.goto 12, 3) := by decide +kernel
theorem dX5_testsAt_41 : decode cX5_testsAt 41 = .ok (.iload_n 2, 1) := by decide +kernel
theorem dX5_testsAt_42 : decode cX5_testsAt 42 = .ok (.iconst 2, 1) := by decide +kernel
theorem dX5_testsAt_43 : decode cX5_testsAt 43 = .ok (.if_icmp .lt 7, 3) := by decide +kernel
theorem dX5_testsAt_46 : decode cX5_testsAt 46 = .ok (.iload_n 3, 1) := by decide +kernel
theorem dX5_testsAt_47 : decode cX5_testsAt 47 = .ok (.iconst 2, 1) := by decide +kernel
theorem dX5_testsAt_48 : decode cX5_testsAt 48 = .ok (.ior, 1) := by decide +kernel
theorem dX5_testsAt_49 : decode cX5_testsAt 49 = .ok (.istore_n 3, 1) := by decide +kernel
theorem dX5_testsAt_50 : decode cX5_testsAt 50 = .ok (.iload_n 3, 1) := by decide +kernel
theorem dX5_testsAt_51 : decode cX5_testsAt 51 = .ok (.ireturn, 1) := by decide +kernel
theorem dX5_countGaps_0 : decode cX5_countGaps 0 = .ok (.aload_n 0, 1) := by decide +kernel
theorem dX5_countGaps_1 : decode cX5_countGaps 1 = .ok (.invokevirtual 80, 3) := by decide +kernel
theorem dX5_countGaps_4 : decode cX5_countGaps 4 = .ok (.istore_n 3, 1) := by decide +kernel
theorem dX5_countGaps_5 : decode cX5_countGaps 5 = .ok (.iconst 0, 1) := by decide +kernel
theorem dX5_countGaps_6 : decode cX5_countGaps 6 = .ok (.istore 4, 2) := by decide +kernel
theorem dX5_countGaps_8 : decode cX5_countGaps 8 = .ok (.iconst 0, 1) := by decide +kernel
theorem dX5_countGaps_9 : decode cX5_countGaps 9 = .ok (.istore 5, 2) := by decide +kernel
theorem dX5_countGaps_11 : decode cX5_countGaps 11 = .ok (.iload 5, 2) := by decide +kernel
theorem dX5_countGaps_13 : decode cX5_countGaps 13 = .ok (.iload_n 3, 1) := by decide +kernel
theorem dX5_countGaps_14 : decode cX5_countGaps 14 = .ok (.if_icmp .ge 39, 3) := by decide +kernel
theorem dX5_countGaps_17 : decode cX5_countGaps 17 = .ok (.aload_n 0, 1) := by decide +kernel
theorem dX5_countGaps_18 : decode cX5_countGaps 18 = .ok (.getfield 31, 3) := by decide +kernel
theorem dX5_countGaps_21 : decode cX5_countGaps 21 = .ok (.iload 5, 2) := by decide +kernel
theorem dX5_countGaps_23 : decode cX5_countGaps 23 = .ok (.iaload, 1) := by decide +kernel
theorem dX5_countGaps_24 : decode cX5_countGaps 24 = .ok (.iload_n 1, 1) := by decide +kernel
theorem dX5_countGaps_25 : decode cX5_countGaps 25 = .ok (.if_icmp .ne 22, 3) := by decide +kernel
theorem dX5_countGaps_28 : decode cX5_countGaps 28 = .ok (.iload_n 2, 1) := by decide +kernel
theorem dX5_countGaps_29 : decode cX5_countGaps 29 = .ok (.iconst (-1), 1) := by decide +kernel
theorem dX5_countGaps_30 : decode cX5_countGaps 30 = .ok (.if_icmp .eq 14, 3) := by decide +kernel
theorem dX5_countGaps_33 : decode cX5_countGaps 33 = .ok (.aload_n 0, 1) := by decide +kernel
theorem dX5_countGaps_34 : decode cX5_countGaps 34 = .ok (.getfield 34, 3) := by decide +kernel
theorem dX5_countGaps_37 : decode cX5_countGaps 37 = .ok (.iload 5, 2) := by decide +kernel
theorem dX5_countGaps_39 : decode cX5_countGaps 39 = .ok (.iaload, 1) := by decide +kernel
theorem dX5_countGaps_40 : decode cX5_countGaps 40 = .ok (.iload_n 2, 1) := by decide +kernel
theorem dX5_countGaps_41 : decode cX5_countGaps 41 = .ok (.if_icmp .ne 6, 3) := by decide +kernel
theorem dX5_countGaps_44 : decode cX5_countGaps 44 = .ok (.iinc 4 1, 3) := by decide +kernel
theorem dX5_countGaps_47 : decode cX5_countGaps 47 = .ok (.iinc 5 1, 3) := by decide +kernel
theorem dX5_countGaps_50 : decode cX5_countGaps 50 = .ok (.goto (-39), 3) := by decide +kernel
theorem dX5_countGaps_53 : decode cX5_countGaps 53 = .ok (.iload 4, 2) := by decide +kernel
theorem dX5_countGaps_55 : decode cX5_countGaps 55 = .ok (.ireturn, 1) := by decide +kernel
theorem dX5_sameToken_0 : decode cX5_sameToken 0 = .ok (.aload_n 0, 1) := by decide +kernel
theorem dX5_sameToken_1 : decode cX5_sameToken 1 = .ok (.getfield 9, 3) := by decide +kernel
theorem dX5_sameToken_4 : decode cX5_sameToken 4 = .ok (.aload_n 0, 1) := by decide +kernel
theorem dX5_sameToken_5 : decode cX5_sameToken 5 = .ok (.getfield 15, 3) := by decide +kernel
theorem dX5_sameToken_8 : decode cX5_sameToken 8 = .ok (.iload_n 1, 1) := by decide +kernel
theorem dX5_sameToken_9 : decode cX5_sameToken 9 = .ok (.iaload, 1) := by decide +kernel
theorem dX5_sameToken_10 : decode cX5_sameToken 10 = .ok (.aload_n 0, 1) := by decide +kernel
theorem dX5_sameToken_11 : decode cX5_sameToken 11 = .ok (.getfield 19, 3) := by decide +kernel
theorem dX5_sameToken_14 : decode cX5_sameToken 14 = .ok (.iload_n 1, 1) := by decide +kernel
theorem dX5_sameToken_15 : decode cX5_sameToken 15 = .ok (.iaload, 1) := by decide +kernel
theorem dX5_sameToken_16 : decode cX5_sameToken 16 = .ok (.aload_n 2, 1) := by decide +kernel
theorem dX5_sameToken_17 : decode cX5_sameToken 17 = .ok (.getfield 9, 3) := by decide +kernel
theorem dX5_sameToken_20 : decode cX5_sameToken 20 = .ok (.aload_n 2, 1) := by decide +kernel
theorem dX5_sameToken_21 : decode cX5_sameToken 21 = .ok (.getfield 15, 3) := by decide +kernel
theorem dX5_sameToken_24 : decode cX5_sameToken 24 = .ok (.iload_n 3, 1) := by decide +kernel
theorem dX5_sameToken_25 : decode cX5_sameToken 25 = .ok (.iaload, 1) := by decide +kernel
theorem dX5_sameToken_26 : decode cX5_sameToken 26 = .ok (.aload_n 2, 1) := by decide +kernel
theorem dX5_sameToken_27 : decode cX5_sameToken 27 = .ok (.getfield 19, 3) := by decide +kernel
theorem dX5_sameToken_30 : decode cX5_sameToken 30 = .ok (.iload_n 3, 1) := by decide +kernel
theorem dX5_sameToken_31 : decode cX5_sameToken 31 = .ok (.iaload, 1) := by decide +kernel
theorem dX5_sameToken_32 : decode cX5_sameToken 32 = .ok (.invokestatic 84, 3) := by decide +kernel
theorem dX5_sameToken_35 : decode cX5_sameToken 35 = .ok (.ireturn, 1) := by decide +kernel
end
section
theorem dX6_init_0 : decode cX6_init 0 = .ok (.aload_n 0, 1) := by decide +kernel
theorem dX6_init_1 : decode cX6_init 1 = .ok (.invokespecial 1, 3) := by decide +kernel
theorem dX6_init_4 : decode cX6_init 4 = .ok (.aload_n 0, 1) := by decide +kernel
theorem dX6_init_5 : decode cX6_init 5 = .ok (.sipush 800, 3) := by decide +kernel
theorem dX6_init_8 : decode cX6_init 8 = .ok (.newarray .byte, 2) := by decide +kernel
theorem dX6_init_10 : decode cX6_init 10 = .ok (.putfield 9, 3) := by decide +kernel
theorem dX6_init_13 : decode cX6_init 13 = .ok (.aload_n 0, 1) := by decide +kernel
theorem dX6_init_14 : decode cX6_init 14 = .ok (.bipush 12, 2) := by decide +kernel
theorem dX6_init_16 : decode cX6_init 16 = .ok (.anewarray 13, 3) := by decide +kernel
theorem dX6_init_19 : decode cX6_init 19 = .ok (.putfield 15, 3) := by decide +kernel
theorem dX6_init_22 : decode cX6_init 22 = .ok (.aload_n 0, 1) := by decide +kernel
theorem dX6_init_23 : decode cX6_init 23 = .ok (.new 13, 3) := by decide +kernel
theorem dX6_init_26 : decode cX6_init 26 = .ok (.dup, 1) := by decide +kernel
theorem dX6_init_27 : decode cX6_init 27 = .ok (.invokespecial 19, 3) := by decide +kernel
theorem dX6_init_30 : decode cX6_init 30 = .ok (.putfield 20, 3) := by decide +kernel
theorem dX6_init_33 : decode cX6_init 33 = .ok (.aload_n 0, 1) := by decide +kernel
theorem dX6_init_34 : decode cX6_init 34 = .ok (.new 24, 3) := by decide +kernel
theorem dX6_init_37 : decode cX6_init 37 = .ok (.dup, 1) := by decide +kernel
theorem dX6_init_38 : decode cX6_init 38 = .ok (.invokespecial 26, 3) := by decide +kernel
theorem dX6_init_41 : decode cX6_init 41 = .ok (.putfield 27, 3) := by decide +kernel
theorem dX6_init_44 : decode cX6_init 44 = .ok (.aload_n 0, 1) := by decide +kernel
theorem dX6_init_45 : decode cX6_init 45 = .ok (.iconst (-1), 1) := by decide +kernel
theorem dX6_init_46 : decode cX6_init 46 = .ok (.putfield 31, 3) := by decide +kernel
theorem dX6_init_49 : decode cX6_init 49 = .ok (.aload_n 0, 1) := by decide +kernel
theorem dX6_init_50 : decode cX6_init 50 = .ok (.iconst 5, 1) := by decide +kernel
theorem dX6_init_51 : decode cX6_init 51 = .ok (.putfield 35, 3) := by decide +kernel
theorem dX6_init_54 : decode cX6_init 54 = .ok (.aload_n 0, 1) := by decide +kernel
theorem dX6_init_55 : decode cX6_init 55 = .ok (.iconst 2, 1) := by decide +kernel
theorem dX6_init_56 : decode cX6_init 56 = .ok (.putfield 38, 3) := by decide +kernel
theorem dX6_init_59 : decode cX6_init 59 = .ok (.aload_n 0, 1) := by decide +kernel
theorem dX6_init_60 : decode cX6_init 60 = .ok (.bipush 16, 2) := by decide +kernel
theorem dX6_init_62 : decode cX6_init 62 = .ok (.anewarray 41, 3) := by decide +kernel
theorem dX6_init_65 : decode cX6_init 65 = .ok (.putfield 43, 3) := by decide +kernel
theorem dX6_init_68 : decode cX6_init 68 = .ok (.aload_n 0, 1) := by decide +kernel
theorem dX6_init_69 : decode cX6_init 69 = .ok (.bipush 16, 2) := by decide +kernel
theorem dX6_init_71 : decode cX6_init 71 = .ok (.anewarray 47, 3) := by decide +kernel
theorem dX6_init_74 : decode cX6_init 74 = .ok (.putfield 49, 3) := by decide +kernel
theorem dX6_init_77 : decode cX6_init 77 = .ok (.aload_n 0, 1) := by decide +kernel
theorem dX6_init_78 : decode cX6_init 78 = .ok (.new 53, 3) := by decide +kernel
theorem dX6_init_81 : decode cX6_init 81 = .ok (.dup, 1) := by decide +kernel
theorem dX6_init_82 : decode cX6_init 82 = .ok (.invokespecial 55, 3) := by decide +kernel
theorem dX6_init_85 : decode cX6_init 85 = .ok (.putfield 56, 3) := by decide +kernel
theorem dX6_init_88 : decode cX6_init 88 = .ok (.aload_n 0, 1) := by decide +kernel
theorem dX6_init_89 : decode cX6_init 89 = .ok (.iconst (-1), 1) := by decide +kernel
theorem dX6_init_90 : decode cX6_init 90 = .ok (.putfield 60, 3) := by decide +kernel
theorem dX6_init_93 : decode cX6_init 93 = .ok (.aload_n 0, 1) := by decide +kernel
theorem dX6_init_94 : decode cX6_init 94 = .ok (.new 63, 3) := by decide +kernel
theorem dX6_init_97 : decode cX6_init 97 = .ok (.dup, 1) := by decide +kernel
theorem dX6_init_98 : decode cX6_init 98 = .ok (.invokespecial 65, 3) := by decide +kernel
theorem dX6_init_101 : decode cX6_init 101 = .ok (.putfield 66, 3) := by decide +kernel
theorem dX6_init_104 : decode cX6_init 104 = .ok (.aload_n 0, 1) := by decide +kernel
theorem dX6_init_105 : decode cX6_init 105 = .ok (.sipush 200, 3) := by decide +kernel
theorem dX6_init_108 : decode cX6_init 108 = .ok (.newarray .int, 2) := by decide +kernel
theorem dX6_init_110 : decode cX6_init 110 = .ok (.putfield 70, 3) := by decide +kernel
theorem dX6_init_113 : decode cX6_init 113 = .ok (.aload_n 0, 1) := by decide +kernel
theorem dX6_init_114 : decode cX6_init 114 = .ok (.sipush 200, 3) := by decide +kernel
theorem dX6_init_117 : decode cX6_init 117 = .ok (.newarray .int, 2) := by decide +kernel
theorem dX6_init_119 : decode cX6_init 119 = .ok (.putfield 74, 3) := by decide +kernel
theorem dX6_init_122 : decode cX6_init 122 = .ok (.iconst 0, 1) := by decide +kernel
theorem dX6_init_123 : decode cX6_init 123 = .ok (.istore_n 1, 1) := by decide +kernel
theorem dX6_init_124 : decode cX6_init 124 = .ok (.iload_n 1, 1) := by decide +kernel
theorem dX6_init_125 : decode cX6_init 125 = .ok (.bipush 12, 2) := by decide +kernel
theorem dX6_init_127 : decode cX6_init 127 = .ok (.if_icmp .ge 22, 3) := by decide +kernel
theorem dX6_init_130 : decode cX6_init 130 = .ok (.aload_n 0, 1) := by decide +kernel
theorem dX6_init_131 : decode cX6_init 131 = .ok (.getfield 15, 3) := by decide +kernel
theorem dX6_init_134 : decode cX6_init 134 = .ok (.iload_n 1, 1) := by decide +kernel
theorem dX6_init_135 : decode cX6_init 135 = .ok (.new 13, 3) := by decide +kernel
theorem dX6_init_138 : decode cX6_init 138 = .ok (.dup, 1) := by decide +kernel
theorem dX6_init_139 : decode cX6_init 139 = .ok (.invokespecial 19, 3) := by decide +kernel
theorem dX6_init_142 : decode cX6_init 142 = .ok (.aastore, 1) := by decide +kernel
theorem dX6_init_143 : decode cX6_init 143 = .ok (.iinc 1 1, 3) := by decide +kernel
theorem dX6_init_146 : decode cX6_init 146 = .ok (.goto (-22), 3) := by decide +kernel
theorem dX6_init_149 : decode cX6_init 149 = .ok (.iconst 0, 1) := by decide +kernel
theorem dX6_init_150 : decode cX6_init 150 = .ok (.istore_n 1, 1) := by decide +kernel
theorem dX6_init_151 : decode cX6_init 151 = .ok (.iload_n 1, 1) := by decide +kernel
theorem dX6_init_152 : decode cX6_init 152 = .ok (.bipush 16, 2) := by decide +kernel
theorem dX6_init_154 : decode cX6_init 154 = .ok (.if_icmp .ge 35, 3) := by decide +kernel
theorem dX6_init_157 : decode cX6_init 157 = .ok (.aload_n 0, 1) := by decide +kernel
theorem dX6_init_158 : decode cX6_init 158 = .ok (.getfield 43, 3) := by decide +kernel
theorem dX6_init_161 : decode cX6_init 161 = .ok (.iload_n 1, 1) := by decide +kernel
theorem dX6_init_162 : decode cX6_init 162 = .ok (.new 41, 3) := by decide +kernel
theorem dX6_init_165 : decode cX6_init 165 = .ok (.dup, 1) := by decide +kernel
theorem dX6_init_166 : decode cX6_init 166 = .ok (.invokespecial 77, 3) := by decide +kernel
theorem dX6_init_169 : decode cX6_init 169 = .ok (.aastore, 1) := by decide +kernel
theorem dX6_init_170 : decode cX6_init 170 = .ok (.aload_n 0, 1) := by decide +kernel
theorem dX6_init_171 : decode cX6_init 171 = .ok (.getfield 49, 3) := by decide +kernel
theorem dX6_init_174 : decode cX6_init 174 = .ok (.iload_n 1, 1) := by decide +kernel
theorem dX6_init_175 : decode cX6_init 175 = .ok (.new 47, 3) := by decide +kernel
theorem dX6_init_178 : decode cX6_init 178 = .ok (.dup, 1) := by decide +kernel
theorem dX6_init_179 : decode cX6_init 179 = .ok (.invokespecial 78, 3) := by decide +kernel
theorem dX6_init_182 : decode cX6_init 182 = .ok (.aastore, 1) := by decide +kernel
theorem dX6_init_183 : decode cX6_init 183 = .ok (.iinc 1 1, 3) := by decide +kernel
theorem dX6_init_186 : decode cX6_init 186 = .ok (.goto (-35), 3) := by decide +kernel
theorem dX6_init_189 : decode cX6_init 189 = .ok (.return_, 1) := by decide +kernel
theorem dX6_feed_0 : decode cX6_feed 0 = .ok (.aload_n 0, 1) := by decide +kernel
theorem dX6_feed_1 : decode cX6_feed 1 = .ok (.getfield 79, 3) := by decide +kernel
theorem dX6_feed_4 : decode cX6_feed 4 = .ok (.bipush 20, 2) := by decide +kernel
theorem dX6_feed_6 : decode cX6_feed 6 = .ok (.iadd, 1) := by decide +kernel
theorem dX6_feed_7 : decode cX6_feed 7 = .ok (.sipush 800, 3) := by decide +kernel
theorem dX6_feed_10 : decode cX6_feed 10 = .ok (.if_icmp .le 5, 3) := by decide +kernel
theorem dX6_feed_13 : decode cX6_feed 13 = .ok (.iconst (-1), 1) := by decide +kernel
theorem dX6_feed_14 : decode cX6_feed 14 = .ok (.ireturn, 1) := by decide +kernel
theorem dX6_feed_15 : decode cX6_feed 15 = .ok (.aload_n 0, 1) := by decide +kernel
theorem dX6_feed_16 : decode cX6_feed 16 = .ok (.iload_n 1, 1) := by decide +kernel
theorem dX6_feed_17 : decode cX6_feed 17 = .ok (.invokevirtual 82, 3) := by decide +kernel
theorem dX6_feed_20 : decode cX6_feed 20 = .ok (.aload_n 0, 1) := by decide +kernel
theorem dX6_feed_21 : decode cX6_feed 21 = .ok (.iload_n 2, 1) := by decide +kernel
theorem dX6_feed_22 : decode cX6_feed 22 = .ok (.invokevirtual 82, 3) := by decide +kernel
theorem dX6_feed_25 : decode cX6_feed 25 = .ok (.aload_n 0, 1) := by decide +kernel
theorem dX6_feed_26 : decode cX6_feed 26 = .ok (.iload_n 3, 1) := by decide +kernel
theorem dX6_feed_27 : decode cX6_feed 27 = .ok (.invokevirtual 82, 3) := by decide +kernel
theorem dX6_feed_30 : decode cX6_feed 30 = .ok (.aload_n 0, 1) := by decide +kernel
theorem dX6_feed_31 : decode cX6_feed 31 = .ok (.iload 4, 2) := by decide +kernel
theorem dX6_feed_33 : decode cX6_feed 33 = .ok (.invokevirtual 82, 3) := by decide +kernel
theorem dX6_feed_36 : decode cX6_feed 36 = .ok (.aload_n 0, 1) := by decide +kernel
theorem dX6_feed_37 : decode cX6_feed 37 = .ok (.iload 5, 2) := by decide +kernel
theorem dX6_feed_39 : decode cX6_feed 39 = .ok (.invokevirtual 82, 3) := by decide +kernel
theorem dX6_feed_42 : decode cX6_feed 42 = .ok (.aload_n 0, 1) := by decide +kernel
theorem dX6_feed_43 : decode cX6_feed 43 = .ok (.getfield 79, 3) := by decide +kernel
theorem dX6_feed_46 : decode cX6_feed 46 = .ok (.ireturn, 1) := by decide +kernel
theorem dX6_tapeNumber_0 : decode cX6_tapeNumber 0 = .ok (.bipush 24, 2) := by decide +kernel
theorem dX6_tapeNumber_2 : decode cX6_tapeNumber 2 = .ok (.istore_n 2, 1) := by decide +kernel
theorem dX6_tapeNumber_3 : decode cX6_tapeNumber 3 = .ok (.iload_n 2, 1) := by decide +kernel
theorem dX6_tapeNumber_4 : decode cX6_tapeNumber 4 = .ok (.ifCond .lt 44, 3) := by decide +kernel
theorem dX6_tapeNumber_7 : decode cX6_tapeNumber 7 = .ok (.aload_n 0, 1) := by decide +kernel
theorem dX6_tapeNumber_8 : decode cX6_tapeNumber 8 = .ok (.getfield 79, 3) := by decide +kernel
theorem dX6_tapeNumber_11 : decode cX6_tapeNumber 11 = .ok (.aload_n 0, 1) := by decide +kernel
theorem dX6_tapeNumber_12 : decode cX6_tapeNumber 12 = .ok (.getfield 9, 3) := by decide +kernel
theorem dX6_tapeNumber_15 : decode cX6_tapeNumber 15 = .ok (.arraylength, 1) := by decide +kernel
theorem dX6_tapeNumber_16 : decode cX6_tapeNumber 16 = .ok (.if_icmp .ge 26, 3) := by decide +kernel
theorem dX6_tapeNumber_19 : decode cX6_tapeNumber 19 = .ok (.aload_n 0, 1) := by decide +kernel
theorem dX6_tapeNumber_20 : decode cX6_tapeNumber 20 = .ok (.getfield 9, 3) := by decide +kernel
theorem dX6_tapeNumber_23 : decode cX6_tapeNumber 23 = .ok (.aload_n 0, 1) := by decide +kernel
theorem dX6_tapeNumber_24 : decode cX6_tapeNumber 24 = .ok (.getfield 79, 3) := by decide +kernel
theorem dX6_tapeNumber_27 : decode cX6_tapeNumber 27 = .ok (.iload_n 1, 1) := by decide +kernel
theorem dX6_tapeNumber_28 : decode cX6_tapeNumber 28 = .ok (.iload_n 2, 1) := by decide +kernel
theorem dX6_tapeNumber_29 : decode cX6_tapeNumber 29 = .ok (.ishr, 1) := by decide +kernel
theorem dX6_tapeNumber_30 : decode cX6_tapeNumber 30 = .ok (.i2b, 1) := by decide +kernel
theorem dX6_tapeNumber_31 : decode cX6_tapeNumber 31 = .ok (.bastore, 1) := by decide +kernel
theorem dX6_tapeNumber_32 : decode cX6_tapeNumber 32 = .ok (.aload_n 0, 1) := by decide +kernel
theorem dX6_tapeNumber_33 : decode cX6_tapeNumber 33 = .ok (.dup, 1) := by decide +kernel
theorem dX6_tapeNumber_34 : decode cX6_tapeNumber 34 = .ok (.getfield 79, 3) := by decide +kernel
theorem dX6_tapeNumber_37 : decode cX6_tapeNumber 37 = .ok (.iconst 1, 1) := by decide +kernel
theorem dX6_tapeNumber_38 : decode cX6_tapeNumber 38 = .ok (.iadd, 1) := by decide +kernel
theorem dX6_tapeNumber_39 : decode cX6_tapeNumber 39 = .ok (.putfield 79, 3) := by decide +kernel
theorem dX6_tapeNumber_42 : decode cX6_tapeNumber 42 = .ok (.iinc 2 (-8), 3) := by decide +kernel
theorem dX6_tapeNumber_45 : decode cX6_tapeNumber 45 = .ok (.goto (-42), 3) := by decide +kernel
theorem dX6_tapeNumber_48 : decode cX6_tapeNumber 48 = .ok (.return_, 1) := by decide +kernel
theorem dX6_text_0 : decode cX6_text 0 = .ok (.iload_n 1, 1) := by decide +kernel
theorem dX6_text_1 : decode cX6_text 1 = .ok (.invokestatic 86, 3) := by decide +kernel
theorem dX6_text_4 : decode cX6_text 4 = .ok (.ifCond .eq 24, 3) := by decide +kernel
theorem dX6_text_7 : decode cX6_text 7 = .ok (.iload_n 2, 1) := by decide +kernel
theorem dX6_text_8 : decode cX6_text 8 = .ok (.ifCond .lt 20, 3) := by decide +kernel
theorem dX6_text_11 : decode cX6_text 11 = .ok (.iload_n 2, 1) := by decide +kernel
theorem dX6_text_12 : decode cX6_text 12 = .ok (.iconst 4, 1) := by decide +kernel
theorem dX6_text_13 : decode cX6_text 13 = .ok (.if_icmp .ge 15, 3) := by decide +kernel
theorem dX6_text_16 : decode cX6_text 16 = .ok (.iload_n 3, 1) := by decide +kernel
theorem dX6_text_17 : decode cX6_text 17 = .ok (.ifCond .lt 11, 3) := by decide +kernel
theorem dX6_text_20 : decode cX6_text 20 = .ok (.iload_n 3, 1) := by decide +kernel
theorem dX6_text_21 : decode cX6_text 21 = .ok (.aload_n 0, 1) := by decide +kernel
theorem dX6_text_22 : decode cX6_text 22 = .ok (.getfield 79, 3) := by decide +kernel
theorem dX6_text_25 : decode cX6_text 25 = .ok (.if_icmp .le 11, 3) := by decide +kernel
theorem dX6_text_28 : decode cX6_text 28 = .ok (.new 90, 3) := by decide +kernel
theorem dX6_text_31 : decode cX6_text 31 = .ok (.dup, 1) := by decide +kernel
theorem dX6_text_32 : decode cX6_text 32 = .ok (.invokespecial 92, 3) := by decide +kernel
theorem dX6_text_35 : decode cX6_text 35 = .ok (.athrow, 1) := by decide +kernel
theorem dX6_text_36 : decode cX6_text 36 = .ok (.aload_n 0, 1) := by decide +kernel
theorem dX6_text_37 : decode cX6_text 37 = .ok (.iconst 0, 1) := by decide +kernel
theorem dX6_text_38 : decode cX6_text 38 = .ok (.putfield 79, 3) := by decide +kernel
theorem dX6_text_41 : decode cX6_text 41 = .ok (.aload_n 0, 1) := by decide +kernel
theorem dX6_text_42 : decode cX6_text 42 = .ok (.aload_n 0, 1) := by decide +kernel
theorem dX6_text_43 : decode cX6_text 43 = .ok (.iload_n 1, 1) := by decide +kernel
theorem dX6_text_44 : decode cX6_text 44 = .ok (.iload_n 2, 1) := by decide +kernel
theorem dX6_text_45 : decode cX6_text 45 = .ok (.aload_n 0, 1) := by decide +kernel
theorem dX6_text_46 : decode cX6_text 46 = .ok (.getfield 9, 3) := by decide +kernel
theorem dX6_text_49 : decode cX6_text 49 = .ok (.iload_n 3, 1) := by decide +kernel
theorem dX6_text_50 : decode cX6_text 50 = .ok (.invokevirtual 93, 3) := by decide +kernel
theorem dX6_text_53 : decode cX6_text 53 = .ok (.putfield 97, 3) := by decide +kernel
theorem dX6_text_56 : decode cX6_text 56 = .ok (.aload_n 0, 1) := by decide +kernel
theorem dX6_text_57 : decode cX6_text 57 = .ok (.aload_n 0, 1) := by decide +kernel
theorem dX6_text_58 : decode cX6_text 58 = .ok (.getfield 27, 3) := by decide +kernel
theorem dX6_text_61 : decode cX6_text 61 = .ok (.getfield 100, 3) := by decide +kernel
theorem dX6_text_64 : decode cX6_text 64 = .ok (.putfield 31, 3) := by decide +kernel
theorem dX6_text_67 : decode cX6_text 67 = .ok (.aload_n 0, 1) := by decide +kernel
theorem dX6_text_68 : decode cX6_text 68 = .ok (.getfield 97, 3) := by decide +kernel
theorem dX6_text_71 : decode cX6_text 71 = .ok (.ireturn, 1) := by decide +kernel
theorem dX6_replaceText_0 : decode cX6_replaceText 0 = .ok (.aload_n 0, 1) := by decide +kernel
theorem dX6_replaceText_1 : decode cX6_replaceText 1 = .ok (.getfield 20, 3) := by decide +kernel
theorem dX6_replaceText_4 : decode cX6_replaceText 4 = .ok (.aload_n 3, 1) := by decide +kernel
theorem dX6_replaceText_5 : decode cX6_replaceText 5 = .ok (.iload 4, 2) := by decide +kernel
theorem dX6_replaceText_7 : decode cX6_replaceText 7 = .ok (.iload_n 2, 1) := by decide +kernel
theorem dX6_replaceText_8 : decode cX6_replaceText 8 = .ok (.invokevirtual 103, 3) := by decide +kernel
theorem dX6_replaceText_11 : decode cX6_replaceText 11 = .ok (.aload_n 0, 1) := by decide +kernel
theorem dX6_replaceText_12 : decode cX6_replaceText 12 = .ok (.getfield 27, 3) := by decide +kernel
theorem dX6_replaceText_15 : decode cX6_replaceText 15 = .ok (.aload_n 0, 1) := by decide +kernel
theorem dX6_replaceText_16 : decode cX6_replaceText 16 = .ok (.getfield 20, 3) := by decide +kernel
theorem dX6_replaceText_19 : decode cX6_replaceText 19 = .ok (.invokevirtual 107, 3) := by decide +kernel
theorem dX6_replaceText_22 : decode cX6_replaceText 22 = .ok (.istore 5, 2) := by decide +kernel
theorem dX6_replaceText_24 : decode cX6_replaceText 24 = .ok (.iload 5, 2) := by decide +kernel
theorem dX6_replaceText_26 : decode cX6_replaceText 26 = .ok (.ifCond .ne 49, 3) := by decide +kernel
theorem dX6_replaceText_29 : decode cX6_replaceText 29 = .ok (.aload_n 0, 1) := by decide +kernel
theorem dX6_replaceText_30 : decode cX6_replaceText 30 = .ok (.getfield 20, 3) := by decide +kernel
theorem dX6_replaceText_33 : decode cX6_replaceText 33 = .ok (.invokevirtual 111, 3) := by decide +kernel
theorem dX6_replaceText_36 : decode cX6_replaceText 36 = .ok (.aload_n 0, 1) := by decide +kernel
theorem dX6_replaceText_37 : decode cX6_replaceText 37 = .ok (.getfield 15, 3) := by decide +kernel
theorem dX6_replaceText_40 : decode cX6_replaceText 40 = .ok (.iload_n 1, 1) := by decide +kernel
theorem dX6_replaceText_41 : decode cX6_replaceText 41 = .ok (.aaload, 1) := by decide +kernel
theorem dX6_replaceText_42 : decode cX6_replaceText 42 = .ok (.astore 6, 2) := by decide +kernel
theorem dX6_replaceText_44 : decode cX6_replaceText 44 = .ok (.aload_n 0, 1) := by decide +kernel
theorem dX6_replaceText_45 : decode cX6_replaceText 45 = .ok (.getfield 15, 3) := by decide +kernel
theorem dX6_replaceText_48 : decode cX6_replaceText 48 = .ok (.iload_n 1, 1) := by decide +kernel
theorem dX6_replaceText_49 : decode cX6_replaceText 49 = .ok (.aload_n 0, 1) := by decide +kernel
theorem dX6_replaceText_50 : decode cX6_replaceText 50 = .ok (.getfield 20, 3) := by decide +kernel
theorem dX6_replaceText_53 : decode cX6_replaceText 53 = .ok (.aastore, 1) := by decide +kernel
theorem dX6_replaceText_54 : decode cX6_replaceText 54 = .ok (.aload_n 0, 1) := by decide +kernel
theorem dX6_replaceText_55 : decode cX6_replaceText 55 = .ok (.getfield 15, 3) := by decide +kernel
theorem dX6_replaceText_58 : decode cX6_replaceText 58 = .ok (.iload_n 1, 1) := by decide +kernel
theorem dX6_replaceText_59 : decode cX6_replaceText 59 = .ok (.aaload, 1) := by decide +kernel
theorem dX6_replaceText_60 : decode cX6_replaceText 60 = .ok (.iconst 1, 1) := by decide +kernel
theorem dX6_replaceText_61 : decode cX6_replaceText 61 = .ok (.putfield 114, 3) := by decide +kernel
theorem dX6_replaceText_64 : decode cX6_replaceText 64 = .ok (.aload_n 0, 1) := by decide +kernel
theorem dX6_replaceText_65 : decode cX6_replaceText 65 = .ok (.aload 6, 2) := by decide +kernel
theorem dX6_replaceText_67 : decode cX6_replaceText 67 = .ok (.putfield 20, 3) := by decide +kernel
theorem dX6_replaceText_70 : decode cX6_replaceText 70 = .ok (.aload_n 0, 1) := by decide +kernel
theorem dX6_replaceText_71 : decode cX6_replaceText 71 = .ok (.iload_n 1, 1) := by decide +kernel
theorem dX6_replaceText_72 : decode cX6_replaceText 72 = .ok (.invokevirtual 118, 3) := by decide +kernel
theorem dX6_replaceText_75 : decode cX6_replaceText 75 = .ok (.iload 5, 2) := by decide +kernel
theorem dX6_replaceText_77 : decode cX6_replaceText 77 = .ok (.ireturn, 1) := by decide +kernel
theorem dX6_forgetOutOf_0 : decode cX6_forgetOutOf 0 = .ok (.aload_n 0, 1) := by decide +kernel
theorem dX6_forgetOutOf_1 : decode cX6_forgetOutOf 1 = .ok (.getfield 60, 3) := by decide +kernel
theorem dX6_forgetOutOf_4 : decode cX6_forgetOutOf 4 = .ok (.iload_n 1, 1) := by decide +kernel
theorem dX6_forgetOutOf_5 : decode cX6_forgetOutOf 5 = .ok (.if_icmp .ne 8, 3) := by decide +kernel
theorem dX6_forgetOutOf_8 : decode cX6_forgetOutOf 8 = .ok (.aload_n 0, 1) := by decide +kernel
theorem dX6_forgetOutOf_9 : decode cX6_forgetOutOf 9 = .ok (.iconst (-1), 1) := by decide +kernel
theorem dX6_forgetOutOf_10 : decode cX6_forgetOutOf 10 = .ok (.putfield 60, 3) := by decide +kernel
theorem dX6_forgetOutOf_13 : decode cX6_forgetOutOf 13 = .ok (.return_, 1) := by decide +kernel
theorem dX6_fault_0 : decode cX6_fault 0 = .ok (.iload_n 1, 1) := by decide +kernel
theorem dX6_fault_1 : decode cX6_fault 1 = .ok (.lookupswitch 37 #[(0, 27), (1, 32)], 27) := by decide +kernel
theorem dX6_fault_28 : decode cX6_fault 28 = .ok (.aload_n 0, 1) := by decide +kernel
theorem dX6_fault_29 : decode cX6_fault 29 = .ok (.getfield 97, 3) := by decide +kernel
theorem dX6_fault_32 : decode cX6_fault 32 = .ok (.ireturn, 1) := by decide +kernel
theorem dX6_fault_33 : decode cX6_fault 33 = .ok (.aload_n 0, 1) := by decide +kernel
theorem dX6_fault_34 : decode cX6_fault 34 = .ok (.getfield 31, 3) := by decide +kernel
theorem dX6_fault_37 : decode cX6_fault 37 = .ok (.ireturn, 1) := by decide +kernel
theorem dX6_fault_38 : decode cX6_fault 38 = .ok (.new 121, 3) := by decide +kernel
theorem dX6_fault_41 : decode cX6_fault 41 = .ok (.dup, 1) := by decide +kernel
theorem dX6_fault_42 : decode cX6_fault 42 = .ok (.invokespecial 123, 3) := by decide +kernel
theorem dX6_fault_45 : decode cX6_fault 45 = .ok (.athrow, 1) := by decide +kernel
theorem dX6_drop_0 : decode cX6_drop 0 = .ok (.iload_n 1, 1) := by decide +kernel
theorem dX6_drop_1 : decode cX6_drop 1 = .ok (.invokestatic 86, 3) := by decide +kernel
theorem dX6_drop_4 : decode cX6_drop 4 = .ok (.ifCond .ne 11, 3) := by decide +kernel
theorem dX6_drop_7 : decode cX6_drop 7 = .ok (.new 90, 3) := by decide +kernel
theorem dX6_drop_10 : decode cX6_drop 10 = .ok (.dup, 1) := by decide +kernel
theorem dX6_drop_11 : decode cX6_drop 11 = .ok (.invokespecial 92, 3) := by decide +kernel
theorem dX6_drop_14 : decode cX6_drop 14 = .ok (.athrow, 1) := by decide +kernel
theorem dX6_drop_15 : decode cX6_drop 15 = .ok (.aload_n 0, 1) := by decide +kernel
theorem dX6_drop_16 : decode cX6_drop 16 = .ok (.getfield 15, 3) := by decide +kernel
theorem dX6_drop_19 : decode cX6_drop 19 = .ok (.iload_n 1, 1) := by decide +kernel
theorem dX6_drop_20 : decode cX6_drop 20 = .ok (.aaload, 1) := by decide +kernel
theorem dX6_drop_21 : decode cX6_drop 21 = .ok (.getfield 114, 3) := by decide +kernel
theorem dX6_drop_24 : decode cX6_drop 24 = .ok (.istore_n 2, 1) := by decide +kernel
theorem dX6_drop_25 : decode cX6_drop 25 = .ok (.aload_n 0, 1) := by decide +kernel
theorem dX6_drop_26 : decode cX6_drop 26 = .ok (.getfield 15, 3) := by decide +kernel
theorem dX6_drop_29 : decode cX6_drop 29 = .ok (.iload_n 1, 1) := by decide +kernel
theorem dX6_drop_30 : decode cX6_drop 30 = .ok (.aaload, 1) := by decide +kernel
theorem dX6_drop_31 : decode cX6_drop 31 = .ok (.iconst 0, 1) := by decide +kernel
theorem dX6_drop_32 : decode cX6_drop 32 = .ok (.putfield 114, 3) := by decide +kernel
theorem dX6_drop_35 : decode cX6_drop 35 = .ok (.aload_n 0, 1) := by decide +kernel
theorem dX6_drop_36 : decode cX6_drop 36 = .ok (.iload_n 1, 1) := by decide +kernel
theorem dX6_drop_37 : decode cX6_drop 37 = .ok (.invokevirtual 118, 3) := by decide +kernel
theorem dX6_drop_40 : decode cX6_drop 40 = .ok (.iload_n 2, 1) := by decide +kernel
theorem dX6_drop_41 : decode cX6_drop 41 = .ok (.ireturn, 1) := by decide +kernel
theorem dX6_isTextNumber_0 : decode cX6_isTextNumber 0 = .ok (.iload_n 0, 1) := by decide +kernel
theorem dX6_isTextNumber_1 : decode cX6_isTextNumber 1 = .ok (.ifCond .lt 13, 3) := by decide +kernel
theorem dX6_isTextNumber_4 : decode cX6_isTextNumber 4 = .ok (.iload_n 0, 1) := by decide +kernel
theorem dX6_isTextNumber_5 : decode cX6_isTextNumber 5 = .ok (.bipush 12, 2) := by decide +kernel
theorem dX6_isTextNumber_7 : decode cX6_isTextNumber 7 = .ok (.if_icmp .ge 7, 3) := by decide +kernel
theorem dX6_isTextNumber_10 : decode cX6_isTextNumber 10 = .ok (.iconst 1, 1) := by decide +kernel
theorem dX6_isTextNumber_11 : decode cX6_isTextNumber 11 = .ok (.goto 4, 3) := by decide +kernel
theorem dX6_isTextNumber_14 : decode cX6_isTextNumber 14 = .ok (.iconst 0, 1) := by decide +kernel
theorem dX6_isTextNumber_15 : decode cX6_isTextNumber 15 = .ok (.ireturn, 1) := by decide +kernel
theorem dX6_existing_0 : decode cX6_existing 0 = .ok (.iload_n 1, 1) := by decide +kernel
theorem dX6_existing_1 : decode cX6_existing 1 = .ok (.invokestatic 86, 3) := by decide +kernel
theorem dX6_existing_4 : decode cX6_existing 4 = .ok (.ifCond .eq 15, 3) := by decide +kernel
theorem dX6_existing_7 : decode cX6_existing 7 = .ok (.aload_n 0, 1) := by decide +kernel
theorem dX6_existing_8 : decode cX6_existing 8 = .ok (.getfield 15, 3) := by decide +kernel
theorem dX6_existing_11 : decode cX6_existing 11 = .ok (.iload_n 1, 1) := by decide +kernel
theorem dX6_existing_12 : decode cX6_existing 12 = .ok (.aaload, 1) := by decide +kernel
theorem dX6_existing_13 : decode cX6_existing 13 = .ok (.getfield 114, 3) := by decide +kernel
theorem dX6_existing_16 : decode cX6_existing 16 = .ok (.ifCond .ne 11, 3) := by decide +kernel
theorem dX6_existing_19 : decode cX6_existing 19 = .ok (.new 121, 3) := by decide +kernel
theorem dX6_existing_22 : decode cX6_existing 22 = .ok (.dup, 1) := by decide +kernel
theorem dX6_existing_23 : decode cX6_existing 23 = .ok (.invokespecial 123, 3) := by decide +kernel
theorem dX6_existing_26 : decode cX6_existing 26 = .ok (.athrow, 1) := by decide +kernel
theorem dX6_existing_27 : decode cX6_existing 27 = .ok (.aload_n 0, 1) := by decide +kernel
theorem dX6_existing_28 : decode cX6_existing 28 = .ok (.getfield 15, 3) := by decide +kernel
theorem dX6_existing_31 : decode cX6_existing 31 = .ok (.iload_n 1, 1) := by decide +kernel
theorem dX6_existing_32 : decode cX6_existing 32 = .ok (.aaload, 1) := by decide +kernel
theorem dX6_existing_33 : decode cX6_existing 33 = .ok (.areturn, 1) := by decide +kernel
theorem dX6_about_0 : decode cX6_about 0 = .ok (.aload_n 0, 1) := by decide +kernel
theorem dX6_about_1 : decode cX6_about 1 = .ok (.iload_n 1, 1) := by decide +kernel
theorem dX6_about_2 : decode cX6_about 2 = .ok (.invokevirtual 124, 3) := by decide +kernel
theorem dX6_about_5 : decode cX6_about 5 = .ok (.astore_n 3, 1) := by decide +kernel
theorem dX6_about_6 : decode cX6_about 6 = .ok (.iload_n 2, 1) := by decide +kernel
theorem dX6_about_7 : decode cX6_about 7 = .ok (.tableswitch 49 0 3 #[29, 34, 39, 44], 29) := by decide +kernel
theorem dX6_about_36 : decode cX6_about 36 = .ok (.aload_n 3, 1) := by decide +kernel
theorem dX6_about_37 : decode cX6_about 37 = .ok (.getfield 128, 3) := by decide +kernel
theorem dX6_about_40 : decode cX6_about 40 = .ok (.ireturn, 1) := by decide +kernel
theorem dX6_about_41 : decode cX6_about 41 = .ok (.aload_n 3, 1) := by decide +kernel
theorem dX6_about_42 : decode cX6_about 42 = .ok (.getfield 131, 3) := by decide +kernel
theorem dX6_about_45 : decode cX6_about 45 = .ok (.ireturn, 1) := by decide +kernel
theorem dX6_about_46 : decode cX6_about 46 = .ok (.aload_n 3, 1) := by decide +kernel
theorem dX6_about_47 : decode cX6_about 47 = .ok (.getfield 134, 3) := by decide +kernel
theorem dX6_about_50 : decode cX6_about 50 = .ok (.ireturn, 1) := by decide +kernel
theorem dX6_about_51 : decode cX6_about 51 = .ok (.aload_n 3, 1) := by decide +kernel
theorem dX6_about_52 : decode cX6_about 52 = .ok (.getfield 137, 3) := by decide +kernel
theorem dX6_about_55 : decode cX6_about 55 = .ok (.ireturn, 1) := by decide +kernel
theorem dX6_about_56 : decode cX6_about 56 = .ok (.new 121, 3) := by decide +kernel
theorem dX6_about_59 : decode cX6_about 59 = .ok (.dup, 1) := by decide +kernel
theorem dX6_about_60 : decode cX6_about 60 = .ok (.invokespecial 123, 3) := by decide +kernel
theorem dX6_about_63 : decode cX6_about 63 = .ok (.athrow, 1) := by decide +kernel
theorem dX6_gap_0 : decode cX6_gap 0 = .ok (.aload_n 0, 1) := by decide +kernel
theorem dX6_gap_1 : decode cX6_gap 1 = .ok (.iload_n 1, 1) := by decide +kernel
theorem dX6_gap_2 : decode cX6_gap 2 = .ok (.invokevirtual 124, 3) := by decide +kernel
theorem dX6_gap_5 : decode cX6_gap 5 = .ok (.astore 4, 2) := by decide +kernel
theorem dX6_gap_7 : decode cX6_gap 7 = .ok (.iload_n 2, 1) := by decide +kernel
theorem dX6_gap_8 : decode cX6_gap 8 = .ok (.ifCond .lt 12, 3) := by decide +kernel
theorem dX6_gap_11 : decode cX6_gap 11 = .ok (.iload_n 2, 1) := by decide +kernel
theorem dX6_gap_12 : decode cX6_gap 12 = .ok (.aload 4, 2) := by decide +kernel
theorem dX6_gap_14 : decode cX6_gap 14 = .ok (.invokevirtual 140, 3) := by decide +kernel
theorem dX6_gap_17 : decode cX6_gap 17 = .ok (.if_icmp .lt 11, 3) := by decide +kernel
theorem dX6_gap_20 : decode cX6_gap 20 = .ok (.new 121, 3) := by decide +kernel
theorem dX6_gap_23 : decode cX6_gap 23 = .ok (.dup, 1) := by decide +kernel
theorem dX6_gap_24 : decode cX6_gap 24 = .ok (.invokespecial 123, 3) := by decide +kernel
theorem dX6_gap_27 : decode cX6_gap 27 = .ok (.athrow, 1) := by decide +kernel
theorem dX6_gap_28 : decode cX6_gap 28 = .ok (.iload_n 3, 1) := by decide +kernel
theorem dX6_gap_29 : decode cX6_gap 29 = .ok (.tableswitch 64 0 3 #[31, 39, 47, 57], 31) := by decide +kernel
theorem dX6_gap_60 : decode cX6_gap 60 = .ok (.aload 4, 2) := by decide +kernel
theorem dX6_gap_62 : decode cX6_gap 62 = .ok (.getfield 144, 3) := by decide +kernel
theorem dX6_gap_65 : decode cX6_gap 65 = .ok (.iload_n 2, 1) := by decide +kernel
theorem dX6_gap_66 : decode cX6_gap 66 = .ok (.iaload, 1) := by decide +kernel
theorem dX6_gap_67 : decode cX6_gap 67 = .ok (.ireturn, 1) := by decide +kernel
theorem dX6_gap_68 : decode cX6_gap 68 = .ok (.aload 4, 2) := by decide +kernel
theorem dX6_gap_70 : decode cX6_gap 70 = .ok (.getfield 147, 3) := by decide +kernel
theorem dX6_gap_73 : decode cX6_gap 73 = .ok (.iload_n 2, 1) := by decide +kernel
theorem dX6_gap_74 : decode cX6_gap 74 = .ok (.iaload, 1) := by decide +kernel
theorem dX6_gap_75 : decode cX6_gap 75 = .ok (.ireturn, 1) := by decide +kernel
theorem dX6_gap_76 : decode cX6_gap 76 = .ok (.aload 4, 2) := by decide +kernel
theorem dX6_gap_78 : decode cX6_gap 78 = .ok (.getfield 150, 3) := by decide +kernel
theorem dX6_gap_81 : decode cX6_gap 81 = .ok (.iload_n 2, 1) := by decide +kernel
theorem dX6_gap_82 : decode cX6_gap 82 = .ok (.iconst 1, 1) := by decide +kernel
theorem dX6_gap_83 : decode cX6_gap 83 = .ok (.iadd, 1) := by decide +kernel
theorem dX6_gap_84 : decode cX6_gap 84 = .ok (.iaload, 1) := by decide +kernel
theorem dX6_gap_85 : decode cX6_gap 85 = .ok (.ireturn, 1) := by decide +kernel
theorem dX6_gap_86 : decode cX6_gap 86 = .ok (.aload 4, 2) := by decide +kernel
theorem dX6_gap_88 : decode cX6_gap 88 = .ok (.iload_n 2, 1) := by decide +kernel
theorem dX6_gap_89 : decode cX6_gap 89 = .ok (.invokevirtual 153, 3) := by decide +kernel
theorem dX6_gap_92 : decode cX6_gap 92 = .ok (.ireturn, 1) := by decide +kernel
theorem dX6_gap_93 : decode cX6_gap 93 = .ok (.new 121, 3) := by decide +kernel
theorem dX6_gap_96 : decode cX6_gap 96 = .ok (.dup, 1) := by decide +kernel
theorem dX6_gap_97 : decode cX6_gap 97 = .ok (.invokespecial 123, 3) := by decide +kernel
theorem dX6_gap_100 : decode cX6_gap 100 = .ok (.athrow, 1) := by decide +kernel
theorem dX6_seen_0 : decode cX6_seen 0 = .ok (.iload_n 1, 1) := by decide +kernel
theorem dX6_seen_1 : decode cX6_seen 1 = .ok (.ifCond .lt 19, 3) := by decide +kernel
theorem dX6_seen_4 : decode cX6_seen 4 = .ok (.iload_n 1, 1) := by decide +kernel
theorem dX6_seen_5 : decode cX6_seen 5 = .ok (.bipush 16, 2) := by decide +kernel
theorem dX6_seen_7 : decode cX6_seen 7 = .ok (.if_icmp .ge 13, 3) := by decide +kernel
theorem dX6_seen_10 : decode cX6_seen 10 = .ok (.iload_n 2, 1) := by decide +kernel
theorem dX6_seen_11 : decode cX6_seen 11 = .ok (.iconst (-1), 1) := by decide +kernel
theorem dX6_seen_12 : decode cX6_seen 12 = .ok (.if_icmp .lt 8, 3) := by decide +kernel
theorem dX6_seen_15 : decode cX6_seen 15 = .ok (.iload_n 2, 1) := by decide +kernel
theorem dX6_seen_16 : decode cX6_seen 16 = .ok (.iconst 3, 1) := by decide +kernel
theorem dX6_seen_17 : decode cX6_seen 17 = .ok (.if_icmp .le 11, 3) := by decide +kernel
theorem dX6_seen_20 : decode cX6_seen 20 = .ok (.new 90, 3) := by decide +kernel
theorem dX6_seen_23 : decode cX6_seen 23 = .ok (.dup, 1) := by decide +kernel
theorem dX6_seen_24 : decode cX6_seen 24 = .ok (.invokespecial 92, 3) := by decide +kernel
theorem dX6_seen_27 : decode cX6_seen 27 = .ok (.athrow, 1) := by decide +kernel
theorem dX6_seen_28 : decode cX6_seen 28 = .ok (.iconst 0, 1) := by decide +kernel
theorem dX6_seen_29 : decode cX6_seen 29 = .ok (.istore_n 3, 1) := by decide +kernel
theorem dX6_seen_30 : decode cX6_seen 30 = .ok (.iconst 0, 1) := by decide +kernel
theorem dX6_seen_31 : decode cX6_seen 31 = .ok (.istore 4, 2) := by decide +kernel
theorem dX6_seen_33 : decode cX6_seen 33 = .ok (.iload 4, 2) := by decide +kernel
theorem dX6_seen_35 : decode cX6_seen 35 = .ok (.bipush 12, 2) := by decide +kernel
theorem dX6_seen_37 : decode cX6_seen 37 = .ok (.if_icmp .ge 37, 3) := by decide +kernel
theorem dX6_seen_40 : decode cX6_seen 40 = .ok (.aload_n 0, 1) := by decide +kernel
theorem dX6_seen_41 : decode cX6_seen 41 = .ok (.getfield 15, 3) := by decide +kernel
theorem dX6_seen_44 : decode cX6_seen 44 = .ok (.iload 4, 2) := by decide +kernel
theorem dX6_seen_46 : decode cX6_seen 46 = .ok (.aaload, 1) := by decide +kernel
theorem dX6_seen_47 : decode cX6_seen 47 = .ok (.getfield 114, 3) := by decide +kernel
theorem dX6_seen_50 : decode cX6_seen 50 = .ok (.ifCond .eq 18, 3) := by decide +kernel
theorem dX6_seen_53 : decode cX6_seen 53 = .ok (.iload_n 3, 1) := by decide +kernel
theorem dX6_seen_54 : decode cX6_seen 54 = .ok (.aload_n 0, 1) := by decide +kernel
theorem dX6_seen_55 : decode cX6_seen 55 = .ok (.getfield 15, 3) := by decide +kernel
theorem dX6_seen_58 : decode cX6_seen 58 = .ok (.iload 4, 2) := by decide +kernel
theorem dX6_seen_60 : decode cX6_seen 60 = .ok (.aaload, 1) := by decide +kernel
theorem dX6_seen_61 : decode cX6_seen 61 = .ok (.iload_n 1, 1) := by decide +kernel
theorem dX6_seen_62 : decode cX6_seen 62 = .ok (.iload_n 2, 1) := by decide +kernel
theorem dX6_seen_63 : decode cX6_seen 63 = .ok (.invokevirtual 157, 3) := by decide +kernel
theorem dX6_seen_66 : decode cX6_seen 66 = .ok (.iadd, 1) := by decide +kernel
theorem dX6_seen_67 : decode cX6_seen 67 = .ok (.istore_n 3, 1) := by decide +kernel
theorem dX6_seen_68 : decode cX6_seen 68 = .ok (.iinc 4 1, 3) := by decide +kernel
theorem dX6_seen_71 : decode cX6_seen 71 = .ok (.goto (-38), 3) := by decide +kernel
theorem dX6_seen_74 : decode cX6_seen 74 = .ok (.iload_n 3, 1) := by decide +kernel
theorem dX6_seen_75 : decode cX6_seen 75 = .ok (.ireturn, 1) := by decide +kernel
theorem dX6_price_0 : decode cX6_price 0 = .ok (.iload_n 1, 1) := by decide +kernel
theorem dX6_price_1 : decode cX6_price 1 = .ok (.ifCond .lt 18, 3) := by decide +kernel
theorem dX6_price_4 : decode cX6_price 4 = .ok (.iload_n 1, 1) := by decide +kernel
theorem dX6_price_5 : decode cX6_price 5 = .ok (.iconst 1, 1) := by decide +kernel
theorem dX6_price_6 : decode cX6_price 6 = .ok (.if_icmp .gt 13, 3) := by decide +kernel
theorem dX6_price_9 : decode cX6_price 9 = .ok (.iload_n 2, 1) := by decide +kernel
theorem dX6_price_10 : decode cX6_price 10 = .ok (.ifCond .lt 9, 3) := by decide +kernel
theorem dX6_price_13 : decode cX6_price 13 = .ok (.iload_n 2, 1) := by decide +kernel
theorem dX6_price_14 : decode cX6_price 14 = .ok (.bipush 100, 2) := by decide +kernel
theorem dX6_price_16 : decode cX6_price 16 = .ok (.if_icmp .le 11, 3) := by decide +kernel
theorem dX6_price_19 : decode cX6_price 19 = .ok (.new 90, 3) := by decide +kernel
theorem dX6_price_22 : decode cX6_price 22 = .ok (.dup, 1) := by decide +kernel
theorem dX6_price_23 : decode cX6_price 23 = .ok (.invokespecial 92, 3) := by decide +kernel
theorem dX6_price_26 : decode cX6_price 26 = .ok (.athrow, 1) := by decide +kernel
theorem dX6_price_27 : decode cX6_price 27 = .ok (.iload_n 1, 1) := by decide +kernel
theorem dX6_price_28 : decode cX6_price 28 = .ok (.ifCond .ne 10, 3) := by decide +kernel
theorem dX6_price_31 : decode cX6_price 31 = .ok (.aload_n 0, 1) := by decide +kernel
theorem dX6_price_32 : decode cX6_price 32 = .ok (.getfield 35, 3) := by decide +kernel
theorem dX6_price_35 : decode cX6_price 35 = .ok (.goto 7, 3) := by decide +kernel
theorem dX6_price_38 : decode cX6_price 38 = .ok (.aload_n 0, 1) := by decide +kernel
theorem dX6_price_39 : decode cX6_price 39 = .ok (.getfield 38, 3) := by decide +kernel
theorem dX6_price_42 : decode cX6_price 42 = .ok (.istore_n 3, 1) := by decide +kernel
theorem dX6_price_43 : decode cX6_price 43 = .ok (.iload_n 1, 1) := by decide +kernel
theorem dX6_price_44 : decode cX6_price 44 = .ok (.ifCond .ne 11, 3) := by decide +kernel
theorem dX6_price_47 : decode cX6_price 47 = .ok (.aload_n 0, 1) := by decide +kernel
theorem dX6_price_48 : decode cX6_price 48 = .ok (.iload_n 2, 1) := by decide +kernel
theorem dX6_price_49 : decode cX6_price 49 = .ok (.putfield 35, 3) := by decide +kernel
theorem dX6_price_52 : decode cX6_price 52 = .ok (.goto 8, 3) := by decide +kernel
theorem dX6_price_55 : decode cX6_price 55 = .ok (.aload_n 0, 1) := by decide +kernel
theorem dX6_price_56 : decode cX6_price 56 = .ok (.iload_n 2, 1) := by decide +kernel
theorem dX6_price_57 : decode cX6_price 57 = .ok (.putfield 38, 3) := by decide +kernel
theorem dX6_price_60 : decode cX6_price 60 = .ok (.iload_n 3, 1) := by decide +kernel
theorem dX6_price_61 : decode cX6_price 61 = .ok (.ireturn, 1) := by decide +kernel
theorem dX6_find_0 : decode cX6_find 0 = .ok (.aload_n 0, 1) := by decide +kernel
theorem dX6_find_1 : decode cX6_find 1 = .ok (.invokevirtual 161, 3) := by decide +kernel
theorem dX6_find_4 : decode cX6_find 4 = .ok (.iconst 0, 1) := by decide +kernel
theorem dX6_find_5 : decode cX6_find 5 = .ok (.istore_n 1, 1) := by decide +kernel
theorem dX6_find_6 : decode cX6_find 6 = .ok (.iconst 0, 1) := by decide +kernel
theorem dX6_find_7 : decode cX6_find 7 = .ok (.istore_n 2, 1) := by decide +kernel
theorem dX6_find_8 : decode cX6_find 8 = .ok (.iload_n 2, 1) := by decide +kernel
theorem dX6_find_9 : decode cX6_find 9 = .ok (.bipush 16, 2) := by decide +kernel
theorem dX6_find_11 : decode cX6_find 11 = .ok (.if_icmp .ge 44, 3) := by decide +kernel
theorem dX6_find_14 : decode cX6_find 14 = .ok (.aload_n 0, 1) := by decide +kernel
theorem dX6_find_15 : decode cX6_find 15 = .ok (.getfield 43, 3) := by decide +kernel
theorem dX6_find_18 : decode cX6_find 18 = .ok (.iload_n 2, 1) := by decide +kernel
theorem dX6_find_19 : decode cX6_find 19 = .ok (.aaload, 1) := by decide +kernel
theorem dX6_find_20 : decode cX6_find 20 = .ok (.aload_n 0, 1) := by decide +kernel
theorem dX6_find_21 : decode cX6_find 21 = .ok (.getfield 49, 3) := by decide +kernel
theorem dX6_find_24 : decode cX6_find 24 = .ok (.iload_n 2, 1) := by decide +kernel
theorem dX6_find_25 : decode cX6_find 25 = .ok (.aaload, 1) := by decide +kernel
theorem dX6_find_26 : decode cX6_find 26 = .ok (.aload_n 0, 1) := by decide +kernel
theorem dX6_find_27 : decode cX6_find 27 = .ok (.getfield 35, 3) := by decide +kernel
theorem dX6_find_30 : decode cX6_find 30 = .ok (.aload_n 0, 1) := by decide +kernel
theorem dX6_find_31 : decode cX6_find 31 = .ok (.getfield 38, 3) := by decide +kernel
theorem dX6_find_34 : decode cX6_find 34 = .ok (.invokevirtual 164, 3) := by decide +kernel
theorem dX6_find_37 : decode cX6_find 37 = .ok (.iload_n 1, 1) := by decide +kernel
theorem dX6_find_38 : decode cX6_find 38 = .ok (.aload_n 0, 1) := by decide +kernel
theorem dX6_find_39 : decode cX6_find 39 = .ok (.getfield 49, 3) := by decide +kernel
theorem dX6_find_42 : decode cX6_find 42 = .ok (.iload_n 2, 1) := by decide +kernel
theorem dX6_find_43 : decode cX6_find 43 = .ok (.aaload, 1) := by decide +kernel
theorem dX6_find_44 : decode cX6_find 44 = .ok (.getfield 168, 3) := by decide +kernel
theorem dX6_find_47 : decode cX6_find 47 = .ok (.iadd, 1) := by decide +kernel
theorem dX6_find_48 : decode cX6_find 48 = .ok (.istore_n 1, 1) := by decide +kernel
theorem dX6_find_49 : decode cX6_find 49 = .ok (.iinc 2 1, 3) := by decide +kernel
theorem dX6_find_52 : decode cX6_find 52 = .ok (.goto (-44), 3) := by decide +kernel
theorem dX6_find_55 : decode cX6_find 55 = .ok (.aload_n 0, 1) := by decide +kernel
theorem dX6_find_56 : decode cX6_find 56 = .ok (.iconst 1, 1) := by decide +kernel
theorem dX6_find_57 : decode cX6_find 57 = .ok (.putfield 171, 3) := by decide +kernel
theorem dX6_find_60 : decode cX6_find 60 = .ok (.iload_n 1, 1) := by decide +kernel
theorem dX6_find_61 : decode cX6_find 61 = .ok (.ireturn, 1) := by decide +kernel
theorem dX6_tallyAllTexts_0 : decode cX6_tallyAllTexts 0 = .ok (.iconst 0, 1) := by decide +kernel
theorem dX6_tallyAllTexts_1 : decode cX6_tallyAllTexts 1 = .ok (.istore_n 1, 1) := by decide +kernel
theorem dX6_tallyAllTexts_2 : decode cX6_tallyAllTexts 2 = .ok (.iload_n 1, 1) := by decide +kernel
theorem dX6_tallyAllTexts_3 : decode cX6_tallyAllTexts 3 = .ok (.bipush 16, 2) := by decide +kernel
theorem dX6_tallyAllTexts_5 : decode cX6_tallyAllTexts 5 = .ok (.if_icmp .ge 18, 3) := by decide +kernel
theorem dX6_tallyAllTexts_8 : decode cX6_tallyAllTexts 8 = .ok (.aload_n 0, 1) := by decide +kernel
theorem dX6_tallyAllTexts_9 : decode cX6_tallyAllTexts 9 = .ok (.getfield 43, 3) := by decide +kernel
theorem dX6_tallyAllTexts_12 : decode cX6_tallyAllTexts 12 = .ok (.iload_n 1, 1) := by decide +kernel
theorem dX6_tallyAllTexts_13 : decode cX6_tallyAllTexts 13 = .ok (.aaload, 1) := by decide +kernel
theorem dX6_tallyAllTexts_14 : decode cX6_tallyAllTexts 14 = .ok (.invokevirtual 174, 3) := by decide +kernel
theorem dX6_tallyAllTexts_17 : decode cX6_tallyAllTexts 17 = .ok (.iinc 1 1, 3) := by decide +kernel
theorem dX6_tallyAllTexts_20 : decode cX6_tallyAllTexts 20 = .ok (.goto (-18), 3) := by decide +kernel
theorem dX6_tallyAllTexts_23 : decode cX6_tallyAllTexts 23 = .ok (.iconst 0, 1) := by decide +kernel
theorem dX6_tallyAllTexts_24 : decode cX6_tallyAllTexts 24 = .ok (.istore_n 1, 1) := by decide +kernel
theorem dX6_tallyAllTexts_25 : decode cX6_tallyAllTexts 25 = .ok (.iload_n 1, 1) := by decide +kernel
theorem dX6_tallyAllTexts_26 : decode cX6_tallyAllTexts 26 = .ok (.bipush 12, 2) := by decide +kernel
theorem dX6_tallyAllTexts_28 : decode cX6_tallyAllTexts 28 = .ok (.if_icmp .ge 31, 3) := by decide +kernel
theorem dX6_tallyAllTexts_31 : decode cX6_tallyAllTexts 31 = .ok (.aload_n 0, 1) := by decide +kernel
theorem dX6_tallyAllTexts_32 : decode cX6_tallyAllTexts 32 = .ok (.getfield 15, 3) := by decide +kernel
theorem dX6_tallyAllTexts_35 : decode cX6_tallyAllTexts 35 = .ok (.iload_n 1, 1) := by decide +kernel
theorem dX6_tallyAllTexts_36 : decode cX6_tallyAllTexts 36 = .ok (.aaload, 1) := by decide +kernel
theorem dX6_tallyAllTexts_37 : decode cX6_tallyAllTexts 37 = .ok (.getfield 114, 3) := by decide +kernel
theorem dX6_tallyAllTexts_40 : decode cX6_tallyAllTexts 40 = .ok (.ifCond .eq 13, 3) := by decide +kernel
theorem dX6_tallyAllTexts_43 : decode cX6_tallyAllTexts 43 = .ok (.aload_n 0, 1) := by decide +kernel
theorem dX6_tallyAllTexts_44 : decode cX6_tallyAllTexts 44 = .ok (.aload_n 0, 1) := by decide +kernel
theorem dX6_tallyAllTexts_45 : decode cX6_tallyAllTexts 45 = .ok (.getfield 15, 3) := by decide +kernel
theorem dX6_tallyAllTexts_48 : decode cX6_tallyAllTexts 48 = .ok (.iload_n 1, 1) := by decide +kernel
theorem dX6_tallyAllTexts_49 : decode cX6_tallyAllTexts 49 = .ok (.aaload, 1) := by decide +kernel
theorem dX6_tallyAllTexts_50 : decode cX6_tallyAllTexts 50 = .ok (.invokevirtual 177, 3) := by decide +kernel
theorem dX6_tallyAllTexts_53 : decode cX6_tallyAllTexts 53 = .ok (.iinc 1 1, 3) := by decide +kernel
theorem dX6_tallyAllTexts_56 : decode cX6_tallyAllTexts 56 = .ok (.goto (-31), 3) := by decide +kernel
theorem dX6_tallyAllTexts_59 : decode cX6_tallyAllTexts 59 = .ok (.return_, 1) := by decide +kernel
theorem dX6_tallyText_0 : decode cX6_tallyText 0 = .ok (.aload_n 1, 1) := by decide +kernel
theorem dX6_tallyText_1 : decode cX6_tallyText 1 = .ok (.invokevirtual 140, 3) := by decide +kernel
theorem dX6_tallyText_4 : decode cX6_tallyText 4 = .ok (.istore_n 2, 1) := by decide +kernel
theorem dX6_tallyText_5 : decode cX6_tallyText 5 = .ok (.iconst 0, 1) := by decide +kernel
theorem dX6_tallyText_6 : decode cX6_tallyText 6 = .ok (.istore_n 3, 1) := by decide +kernel
theorem dX6_tallyText_7 : decode cX6_tallyText 7 = .ok (.iload_n 3, 1) := by decide +kernel
theorem dX6_tallyText_8 : decode cX6_tallyText 8 = .ok (.iload_n 2, 1) := by decide +kernel
theorem dX6_tallyText_9 : decode cX6_tallyText 9 = .ok (.if_icmp .ge 40, 3) := by decide +kernel
theorem dX6_tallyText_12 : decode cX6_tallyText 12 = .ok (.aload_n 1, 1) := by decide +kernel
theorem dX6_tallyText_13 : decode cX6_tallyText 13 = .ok (.getfield 144, 3) := by decide +kernel
theorem dX6_tallyText_16 : decode cX6_tallyText 16 = .ok (.iload_n 3, 1) := by decide +kernel
theorem dX6_tallyText_17 : decode cX6_tallyText 17 = .ok (.iaload, 1) := by decide +kernel
theorem dX6_tallyText_18 : decode cX6_tallyText 18 = .ok (.istore 4, 2) := by decide +kernel
theorem dX6_tallyText_20 : decode cX6_tallyText 20 = .ok (.aload_n 0, 1) := by decide +kernel
theorem dX6_tallyText_21 : decode cX6_tallyText 21 = .ok (.getfield 43, 3) := by decide +kernel
theorem dX6_tallyText_24 : decode cX6_tallyText 24 = .ok (.iload 4, 2) := by decide +kernel
theorem dX6_tallyText_26 : decode cX6_tallyText 26 = .ok (.aaload, 1) := by decide +kernel
theorem dX6_tallyText_27 : decode cX6_tallyText 27 = .ok (.iload 4, 2) := by decide +kernel
theorem dX6_tallyText_29 : decode cX6_tallyText 29 = .ok (.aload_n 1, 1) := by decide +kernel
theorem dX6_tallyText_30 : decode cX6_tallyText 30 = .ok (.iload_n 3, 1) := by decide +kernel
theorem dX6_tallyText_31 : decode cX6_tallyText 31 = .ok (.invokevirtual 153, 3) := by decide +kernel
theorem dX6_tallyText_34 : decode cX6_tallyText 34 = .ok (.aload_n 1, 1) := by decide +kernel
theorem dX6_tallyText_35 : decode cX6_tallyText 35 = .ok (.getfield 147, 3) := by decide +kernel
theorem dX6_tallyText_38 : decode cX6_tallyText 38 = .ok (.iload_n 3, 1) := by decide +kernel
theorem dX6_tallyText_39 : decode cX6_tallyText 39 = .ok (.iaload, 1) := by decide +kernel
theorem dX6_tallyText_40 : decode cX6_tallyText 40 = .ok (.invokevirtual 181, 3) := by decide +kernel
theorem dX6_tallyText_43 : decode cX6_tallyText 43 = .ok (.iinc 3 1, 3) := by decide +kernel
theorem dX6_tallyText_46 : decode cX6_tallyText 46 = .ok (.goto (-39), 3) := by decide +kernel
theorem dX6_tallyText_49 : decode cX6_tallyText 49 = .ok (.return_, 1) := by decide +kernel
theorem dX6_habit_0 : decode cX6_habit 0 = .ok (.iload_n 1, 1) := by decide +kernel
theorem dX6_habit_1 : decode cX6_habit 1 = .ok (.ifCond .lt 19, 3) := by decide +kernel
theorem dX6_habit_4 : decode cX6_habit 4 = .ok (.iload_n 1, 1) := by decide +kernel
theorem dX6_habit_5 : decode cX6_habit 5 = .ok (.bipush 16, 2) := by decide +kernel
theorem dX6_habit_7 : decode cX6_habit 7 = .ok (.if_icmp .ge 13, 3) := by decide +kernel
theorem dX6_habit_10 : decode cX6_habit 10 = .ok (.iload_n 2, 1) := by decide +kernel
theorem dX6_habit_11 : decode cX6_habit 11 = .ok (.ifCond .lt 9, 3) := by decide +kernel
theorem dX6_habit_14 : decode cX6_habit 14 = .ok (.iload_n 2, 1) := by decide +kernel
theorem dX6_habit_15 : decode cX6_habit 15 = .ok (.bipush 7, 2) := by decide +kernel
theorem dX6_habit_17 : decode cX6_habit 17 = .ok (.if_icmp .le 11, 3) := by decide +kernel
theorem dX6_habit_20 : decode cX6_habit 20 = .ok (.new 90, 3) := by decide +kernel
theorem dX6_habit_23 : decode cX6_habit 23 = .ok (.dup, 1) := by decide +kernel
theorem dX6_habit_24 : decode cX6_habit 24 = .ok (.invokespecial 92, 3) := by decide +kernel
theorem dX6_habit_27 : decode cX6_habit 27 = .ok (.athrow, 1) := by decide +kernel
theorem dX6_habit_28 : decode cX6_habit 28 = .ok (.aload_n 0, 1) := by decide +kernel
theorem dX6_habit_29 : decode cX6_habit 29 = .ok (.getfield 171, 3) := by decide +kernel
theorem dX6_habit_32 : decode cX6_habit 32 = .ok (.ifCond .eq 16, 3) := by decide +kernel
theorem dX6_habit_35 : decode cX6_habit 35 = .ok (.aload_n 0, 1) := by decide +kernel
theorem dX6_habit_36 : decode cX6_habit 36 = .ok (.getfield 49, 3) := by decide +kernel
theorem dX6_habit_39 : decode cX6_habit 39 = .ok (.iload_n 1, 1) := by decide +kernel
theorem dX6_habit_40 : decode cX6_habit 40 = .ok (.aaload, 1) := by decide +kernel
theorem dX6_habit_41 : decode cX6_habit 41 = .ok (.iload_n 2, 1) := by decide +kernel
theorem dX6_habit_42 : decode cX6_habit 42 = .ok (.invokevirtual 184, 3) := by decide +kernel
theorem dX6_habit_45 : decode cX6_habit 45 = .ok (.goto 4, 3) := by decide +kernel
theorem dX6_habit_48 : decode cX6_habit 48 = .ok (.iconst (-1), 1) := by decide +kernel
theorem dX6_habit_49 : decode cX6_habit 49 = .ok (.ireturn, 1) := by decide +kernel
theorem dX6_exception_0 : decode cX6_exception 0 = .ok (.aload_n 0, 1) := by decide +kernel
theorem dX6_exception_1 : decode cX6_exception 1 = .ok (.iload_n 1, 1) := by decide +kernel
theorem dX6_exception_2 : decode cX6_exception 2 = .ok (.invokevirtual 124, 3) := by decide +kernel
theorem dX6_exception_5 : decode cX6_exception 5 = .ok (.astore_n 3, 1) := by decide +kernel
theorem dX6_exception_6 : decode cX6_exception 6 = .ok (.iload_n 2, 1) := by decide +kernel
theorem dX6_exception_7 : decode cX6_exception 7 = .ok (.iconst (-1), 1) := by decide +kernel
theorem dX6_exception_8 : decode cX6_exception 8 = .ok (.if_icmp .ge 11, 3) := by decide +kernel
theorem dX6_exception_11 : decode cX6_exception 11 = .ok (.new 90, 3) := by decide +kernel
theorem dX6_exception_14 : decode cX6_exception 14 = .ok (.dup, 1) := by decide +kernel
theorem dX6_exception_15 : decode cX6_exception 15 = .ok (.invokespecial 92, 3) := by decide +kernel
theorem dX6_exception_18 : decode cX6_exception 18 = .ok (.athrow, 1) := by decide +kernel
theorem dX6_exception_19 : decode cX6_exception 19 = .ok (.aload_n 0, 1) := by decide +kernel
theorem dX6_exception_20 : decode cX6_exception 20 = .ok (.getfield 171, 3) := by decide +kernel
theorem dX6_exception_23 : decode cX6_exception 23 = .ok (.ifCond .ne 5, 3) := by decide +kernel
theorem dX6_exception_26 : decode cX6_exception 26 = .ok (.iconst (-1), 1) := by decide +kernel
theorem dX6_exception_27 : decode cX6_exception 27 = .ok (.ireturn, 1) := by decide +kernel
theorem dX6_exception_28 : decode cX6_exception 28 = .ok (.aload_n 3, 1) := by decide +kernel
theorem dX6_exception_29 : decode cX6_exception 29 = .ok (.invokevirtual 140, 3) := by decide +kernel
theorem dX6_exception_32 : decode cX6_exception 32 = .ok (.istore 4, 2) := by decide +kernel
theorem dX6_exception_34 : decode cX6_exception 34 = .ok (.iconst 0, 1) := by decide +kernel
theorem dX6_exception_35 : decode cX6_exception 35 = .ok (.istore 5, 2) := by decide +kernel
theorem dX6_exception_37 : decode cX6_exception 37 = .ok (.iconst 0, 1) := by decide +kernel
theorem dX6_exception_38 : decode cX6_exception 38 = .ok (.istore 6, 2) := by decide +kernel
theorem dX6_exception_40 : decode cX6_exception 40 = .ok (.iload 6, 2) := by decide +kernel
theorem dX6_exception_42 : decode cX6_exception 42 = .ok (.iload 4, 2) := by decide +kernel
theorem dX6_exception_44 : decode cX6_exception 44 = .ok (.if_icmp .ge 38, 3) := by decide +kernel
theorem dX6_exception_47 : decode cX6_exception 47 = .ok (.aload_n 0, 1) := by decide +kernel
theorem dX6_exception_48 : decode cX6_exception 48 = .ok (.aload_n 3, 1) := by decide +kernel
theorem dX6_exception_49 : decode cX6_exception 49 = .ok (.iload 6, 2) := by decide +kernel
theorem dX6_exception_51 : decode cX6_exception 51 = .ok (.invokevirtual 187, 3) := by decide +kernel
theorem dX6_exception_54 : decode cX6_exception 54 = .ok (.aload_n 3, 1) := by decide +kernel
theorem dX6_exception_55 : decode cX6_exception 55 = .ok (.getfield 147, 3) := by decide +kernel
theorem dX6_exception_58 : decode cX6_exception 58 = .ok (.iload 6, 2) := by decide +kernel
theorem dX6_exception_60 : decode cX6_exception 60 = .ok (.iaload, 1) := by decide +kernel
theorem dX6_exception_61 : decode cX6_exception 61 = .ok (.if_icmp .eq 15, 3) := by decide +kernel
theorem dX6_exception_64 : decode cX6_exception 64 = .ok (.iload 5, 2) := by decide +kernel
theorem dX6_exception_66 : decode cX6_exception 66 = .ok (.iload_n 2, 1) := by decide +kernel
theorem dX6_exception_67 : decode cX6_exception 67 = .ok (.if_icmp .ne 6, 3) := by decide +kernel
theorem dX6_exception_70 : decode cX6_exception 70 = .ok (.iload 6, 2) := by decide +kernel
theorem dX6_exception_72 : decode cX6_exception 72 = .ok (.ireturn, 1) := by decide +kernel
theorem dX6_exception_73 : decode cX6_exception 73 = .ok (.iinc 5 1, 3) := by decide +kernel
theorem dX6_exception_76 : decode cX6_exception 76 = .ok (.iinc 6 1, 3) := by decide +kernel
theorem dX6_exception_79 : decode cX6_exception 79 = .ok (.goto (-39), 3) := by decide +kernel
theorem dX6_exception_82 : decode cX6_exception 82 = .ok (.iload_n 2, 1) := by decide +kernel
theorem dX6_exception_83 : decode cX6_exception 83 = .ok (.iconst (-1), 1) := by decide +kernel
theorem dX6_exception_84 : decode cX6_exception 84 = .ok (.if_icmp .ne 8, 3) := by decide +kernel
theorem dX6_exception_87 : decode cX6_exception 87 = .ok (.iload 5, 2) := by decide +kernel
theorem dX6_exception_89 : decode cX6_exception 89 = .ok (.goto 4, 3) := by decide +kernel
theorem dX6_exception_92 : decode cX6_exception 92 = .ok (.iconst (-1), 1) := by decide +kernel
theorem dX6_exception_93 : decode cX6_exception 93 = .ok (.ireturn, 1) := by decide +kernel
theorem dX6_toldAt_0 : decode cX6_toldAt 0 = .ok (.aload_n 1, 1) := by decide +kernel
theorem dX6_toldAt_1 : decode cX6_toldAt 1 = .ok (.getfield 144, 3) := by decide +kernel
theorem dX6_toldAt_4 : decode cX6_toldAt 4 = .ok (.iload_n 2, 1) := by decide +kernel
theorem dX6_toldAt_5 : decode cX6_toldAt 5 = .ok (.iaload, 1) := by decide +kernel
theorem dX6_toldAt_6 : decode cX6_toldAt 6 = .ok (.istore_n 3, 1) := by decide +kernel
theorem dX6_toldAt_7 : decode cX6_toldAt 7 = .ok (.aload_n 0, 1) := by decide +kernel
theorem dX6_toldAt_8 : decode cX6_toldAt 8 = .ok (.getfield 49, 3) := by decide +kernel
theorem dX6_toldAt_11 : decode cX6_toldAt 11 = .ok (.iload_n 3, 1) := by decide +kernel
theorem dX6_toldAt_12 : decode cX6_toldAt 12 = .ok (.aaload, 1) := by decide +kernel
theorem dX6_toldAt_13 : decode cX6_toldAt 13 = .ok (.iload_n 3, 1) := by decide +kernel
theorem dX6_toldAt_14 : decode cX6_toldAt 14 = .ok (.aload_n 1, 1) := by decide +kernel
theorem dX6_toldAt_15 : decode cX6_toldAt 15 = .ok (.iload_n 2, 1) := by decide +kernel
theorem dX6_toldAt_16 : decode cX6_toldAt 16 = .ok (.invokevirtual 153, 3) := by decide +kernel
theorem dX6_toldAt_19 : decode cX6_toldAt 19 = .ok (.invokevirtual 191, 3) := by decide +kernel
theorem dX6_toldAt_22 : decode cX6_toldAt 22 = .ok (.ireturn, 1) := by decide +kernel
theorem dX6_keptApart_0 : decode cX6_keptApart 0 = .ok (.iload_n 0, 1) := by decide +kernel
theorem dX6_keptApart_1 : decode cX6_keptApart 1 = .ok (.bipush 15, 2) := by decide +kernel
theorem dX6_keptApart_3 : decode cX6_keptApart 3 = .ok (.if_icmp .ne 11, 3) := by decide +kernel
theorem dX6_keptApart_6 : decode cX6_keptApart 6 = .ok (.iload_n 1, 1) := by decide +kernel
theorem dX6_keptApart_7 : decode cX6_keptApart 7 = .ok (.ifCond .ne 7, 3) := by decide +kernel
theorem dX6_keptApart_10 : decode cX6_keptApart 10 = .ok (.iconst 1, 1) := by decide +kernel
theorem dX6_keptApart_11 : decode cX6_keptApart 11 = .ok (.goto 4, 3) := by decide +kernel
theorem dX6_keptApart_14 : decode cX6_keptApart 14 = .ok (.iload_n 1, 1) := by decide +kernel
theorem dX6_keptApart_15 : decode cX6_keptApart 15 = .ok (.ireturn, 1) := by decide +kernel
theorem dX6_lay_0 : decode cX6_lay 0 = .ok (.aload_n 0, 1) := by decide +kernel
theorem dX6_lay_1 : decode cX6_lay 1 = .ok (.iload_n 1, 1) := by decide +kernel
theorem dX6_lay_2 : decode cX6_lay 2 = .ok (.invokevirtual 124, 3) := by decide +kernel
theorem dX6_lay_5 : decode cX6_lay 5 = .ok (.astore_n 2, 1) := by decide +kernel
theorem dX6_lay_6 : decode cX6_lay 6 = .ok (.aload_n 0, 1) := by decide +kernel
theorem dX6_lay_7 : decode cX6_lay 7 = .ok (.invokevirtual 194, 3) := by decide +kernel
theorem dX6_lay_10 : decode cX6_lay 10 = .ok (.aload_n 0, 1) := by decide +kernel
theorem dX6_lay_11 : decode cX6_lay 11 = .ok (.getfield 171, 3) := by decide +kernel
theorem dX6_lay_14 : decode cX6_lay 14 = .ok (.ifCond .ne 5, 3) := by decide +kernel
theorem dX6_lay_17 : decode cX6_lay 17 = .ok (.iconst (-1), 1) := by decide +kernel
theorem dX6_lay_18 : decode cX6_lay 18 = .ok (.ireturn, 1) := by decide +kernel
theorem dX6_lay_19 : decode cX6_lay 19 = .ok (.iconst 0, 1) := by decide +kernel
theorem dX6_lay_20 : decode cX6_lay 20 = .ok (.istore_n 3, 1) := by decide +kernel
theorem dX6_lay_21 : decode cX6_lay 21 = .ok (.iload_n 3, 1) := by decide +kernel
theorem dX6_lay_22 : decode cX6_lay 22 = .ok (.aload_n 2, 1) := by decide +kernel
theorem dX6_lay_23 : decode cX6_lay 23 = .ok (.getfield 128, 3) := by decide +kernel
theorem dX6_lay_26 : decode cX6_lay 26 = .ok (.if_icmp .ge 57, 3) := by decide +kernel
theorem dX6_lay_29 : decode cX6_lay 29 = .ok (.iload_n 3, 1) := by decide +kernel
theorem dX6_lay_30 : decode cX6_lay 30 = .ok (.ifCond .le 24, 3) := by decide +kernel
theorem dX6_lay_33 : decode cX6_lay 33 = .ok (.aload_n 0, 1) := by decide +kernel
theorem dX6_lay_34 : decode cX6_lay 34 = .ok (.getfield 56, 3) := by decide +kernel
theorem dX6_lay_37 : decode cX6_lay 37 = .ok (.aload_n 0, 1) := by decide +kernel
theorem dX6_lay_38 : decode cX6_lay 38 = .ok (.aload_n 2, 1) := by decide +kernel
theorem dX6_lay_39 : decode cX6_lay 39 = .ok (.iload_n 3, 1) := by decide +kernel
theorem dX6_lay_40 : decode cX6_lay 40 = .ok (.iconst 1, 1) := by decide +kernel
theorem dX6_lay_41 : decode cX6_lay 41 = .ok (.isub, 1) := by decide +kernel
theorem dX6_lay_42 : decode cX6_lay 42 = .ok (.invokevirtual 187, 3) := by decide +kernel
theorem dX6_lay_45 : decode cX6_lay 45 = .ok (.aload_n 2, 1) := by decide +kernel
theorem dX6_lay_46 : decode cX6_lay 46 = .ok (.getfield 150, 3) := by decide +kernel
theorem dX6_lay_49 : decode cX6_lay 49 = .ok (.iload_n 3, 1) := by decide +kernel
theorem dX6_lay_50 : decode cX6_lay 50 = .ok (.iaload, 1) := by decide +kernel
theorem dX6_lay_51 : decode cX6_lay 51 = .ok (.invokevirtual 197, 3) := by decide +kernel
theorem dX6_lay_54 : decode cX6_lay 54 = .ok (.aload_n 0, 1) := by decide +kernel
theorem dX6_lay_55 : decode cX6_lay 55 = .ok (.getfield 56, 3) := by decide +kernel
theorem dX6_lay_58 : decode cX6_lay 58 = .ok (.aload_n 2, 1) := by decide +kernel
theorem dX6_lay_59 : decode cX6_lay 59 = .ok (.getfield 201, 3) := by decide +kernel
theorem dX6_lay_62 : decode cX6_lay 62 = .ok (.aload_n 2, 1) := by decide +kernel
theorem dX6_lay_63 : decode cX6_lay 63 = .ok (.getfield 204, 3) := by decide +kernel
theorem dX6_lay_66 : decode cX6_lay 66 = .ok (.iload_n 3, 1) := by decide +kernel
theorem dX6_lay_67 : decode cX6_lay 67 = .ok (.iaload, 1) := by decide +kernel
theorem dX6_lay_68 : decode cX6_lay 68 = .ok (.aload_n 2, 1) := by decide +kernel
theorem dX6_lay_69 : decode cX6_lay 69 = .ok (.getfield 207, 3) := by decide +kernel
theorem dX6_lay_72 : decode cX6_lay 72 = .ok (.iload_n 3, 1) := by decide +kernel
theorem dX6_lay_73 : decode cX6_lay 73 = .ok (.iaload, 1) := by decide +kernel
theorem dX6_lay_74 : decode cX6_lay 74 = .ok (.invokevirtual 210, 3) := by decide +kernel
theorem dX6_lay_77 : decode cX6_lay 77 = .ok (.iinc 3 1, 3) := by decide +kernel
theorem dX6_lay_80 : decode cX6_lay 80 = .ok (.goto (-59), 3) := by decide +kernel
theorem dX6_lay_83 : decode cX6_lay 83 = .ok (.aload_n 0, 1) := by decide +kernel
theorem dX6_lay_84 : decode cX6_lay 84 = .ok (.iload_n 1, 1) := by decide +kernel
theorem dX6_lay_85 : decode cX6_lay 85 = .ok (.sipush 2000, 3) := by decide +kernel
theorem dX6_lay_88 : decode cX6_lay 88 = .ok (.invokevirtual 213, 3) := by decide +kernel
theorem dX6_lay_91 : decode cX6_lay 91 = .ok (.ireturn, 1) := by decide +kernel
theorem dX6_clearOut_0 : decode cX6_clearOut 0 = .ok (.aload_n 0, 1) := by decide +kernel
theorem dX6_clearOut_1 : decode cX6_clearOut 1 = .ok (.getfield 56, 3) := by decide +kernel
theorem dX6_clearOut_4 : decode cX6_clearOut 4 = .ok (.invokevirtual 216, 3) := by decide +kernel
theorem dX6_clearOut_7 : decode cX6_clearOut 7 = .ok (.aload_n 0, 1) := by decide +kernel
theorem dX6_clearOut_8 : decode cX6_clearOut 8 = .ok (.iconst (-1), 1) := by decide +kernel
theorem dX6_clearOut_9 : decode cX6_clearOut 9 = .ok (.putfield 60, 3) := by decide +kernel
theorem dX6_clearOut_12 : decode cX6_clearOut 12 = .ok (.return_, 1) := by decide +kernel
theorem dX6_endOut_0 : decode cX6_endOut 0 = .ok (.aload_n 0, 1) := by decide +kernel
theorem dX6_endOut_1 : decode cX6_endOut 1 = .ok (.getfield 56, 3) := by decide +kernel
theorem dX6_endOut_4 : decode cX6_endOut 4 = .ok (.getfield 217, 3) := by decide +kernel
theorem dX6_endOut_7 : decode cX6_endOut 7 = .ok (.ifCond .ne 14, 3) := by decide +kernel
theorem dX6_endOut_10 : decode cX6_endOut 10 = .ok (.aload_n 0, 1) := by decide +kernel
theorem dX6_endOut_11 : decode cX6_endOut 11 = .ok (.getfield 56, 3) := by decide +kernel
theorem dX6_endOut_14 : decode cX6_endOut 14 = .ok (.getfield 220, 3) := by decide +kernel
theorem dX6_endOut_17 : decode cX6_endOut 17 = .ok (.iload_n 2, 1) := by decide +kernel
theorem dX6_endOut_18 : decode cX6_endOut 18 = .ok (.if_icmp .le 9, 3) := by decide +kernel
theorem dX6_endOut_21 : decode cX6_endOut 21 = .ok (.aload_n 0, 1) := by decide +kernel
theorem dX6_endOut_22 : decode cX6_endOut 22 = .ok (.invokevirtual 194, 3) := by decide +kernel
theorem dX6_endOut_25 : decode cX6_endOut 25 = .ok (.iconst (-1), 1) := by decide +kernel
theorem dX6_endOut_26 : decode cX6_endOut 26 = .ok (.ireturn, 1) := by decide +kernel
theorem dX6_endOut_27 : decode cX6_endOut 27 = .ok (.aload_n 0, 1) := by decide +kernel
theorem dX6_endOut_28 : decode cX6_endOut 28 = .ok (.iload_n 1, 1) := by decide +kernel
theorem dX6_endOut_29 : decode cX6_endOut 29 = .ok (.putfield 60, 3) := by decide +kernel
theorem dX6_endOut_32 : decode cX6_endOut 32 = .ok (.aload_n 0, 1) := by decide +kernel
theorem dX6_endOut_33 : decode cX6_endOut 33 = .ok (.getfield 56, 3) := by decide +kernel
theorem dX6_endOut_36 : decode cX6_endOut 36 = .ok (.getfield 220, 3) := by decide +kernel
theorem dX6_endOut_39 : decode cX6_endOut 39 = .ok (.ireturn, 1) := by decide +kernel
theorem dX6_turn_0 : decode cX6_turn 0 = .ok (.aload_n 0, 1) := by decide +kernel
theorem dX6_turn_1 : decode cX6_turn 1 = .ok (.iload_n 1, 1) := by decide +kernel
theorem dX6_turn_2 : decode cX6_turn 2 = .ok (.invokevirtual 124, 3) := by decide +kernel
theorem dX6_turn_5 : decode cX6_turn 5 = .ok (.astore_n 3, 1) := by decide +kernel
theorem dX6_turn_6 : decode cX6_turn 6 = .ok (.iload_n 2, 1) := by decide +kernel
theorem dX6_turn_7 : decode cX6_turn 7 = .ok (.ifCond .eq 16, 3) := by decide +kernel
theorem dX6_turn_10 : decode cX6_turn 10 = .ok (.iload_n 2, 1) := by decide +kernel
theorem dX6_turn_11 : decode cX6_turn 11 = .ok (.iconst 1, 1) := by decide +kernel
theorem dX6_turn_12 : decode cX6_turn 12 = .ok (.if_icmp .eq 11, 3) := by decide +kernel
theorem dX6_turn_15 : decode cX6_turn 15 = .ok (.new 90, 3) := by decide +kernel
theorem dX6_turn_18 : decode cX6_turn 18 = .ok (.dup, 1) := by decide +kernel
theorem dX6_turn_19 : decode cX6_turn 19 = .ok (.invokespecial 92, 3) := by decide +kernel
theorem dX6_turn_22 : decode cX6_turn 22 = .ok (.athrow, 1) := by decide +kernel
theorem dX6_turn_23 : decode cX6_turn 23 = .ok (.aload_n 0, 1) := by decide +kernel
theorem dX6_turn_24 : decode cX6_turn 24 = .ok (.invokevirtual 194, 3) := by decide +kernel
theorem dX6_turn_27 : decode cX6_turn 27 = .ok (.iconst 0, 1) := by decide +kernel
theorem dX6_turn_28 : decode cX6_turn 28 = .ok (.istore 4, 2) := by decide +kernel
theorem dX6_turn_30 : decode cX6_turn 30 = .ok (.iconst 0, 1) := by decide +kernel
theorem dX6_turn_31 : decode cX6_turn 31 = .ok (.istore 5, 2) := by decide +kernel
theorem dX6_turn_33 : decode cX6_turn 33 = .ok (.iload 5, 2) := by decide +kernel
theorem dX6_turn_35 : decode cX6_turn 35 = .ok (.aload_n 3, 1) := by decide +kernel
theorem dX6_turn_36 : decode cX6_turn 36 = .ok (.getfield 128, 3) := by decide +kernel
theorem dX6_turn_39 : decode cX6_turn 39 = .ok (.if_icmp .ge 66, 3) := by decide +kernel
theorem dX6_turn_42 : decode cX6_turn 42 = .ok (.aload_n 3, 1) := by decide +kernel
theorem dX6_turn_43 : decode cX6_turn 43 = .ok (.getfield 221, 3) := by decide +kernel
theorem dX6_turn_46 : decode cX6_turn 46 = .ok (.iload 5, 2) := by decide +kernel
theorem dX6_turn_48 : decode cX6_turn 48 = .ok (.iaload, 1) := by decide +kernel
theorem dX6_turn_49 : decode cX6_turn 49 = .ok (.iconst 1, 1) := by decide +kernel
theorem dX6_turn_50 : decode cX6_turn 50 = .ok (.if_icmp .ne 49, 3) := by decide +kernel
theorem dX6_turn_53 : decode cX6_turn 53 = .ok (.aload_n 0, 1) := by decide +kernel
theorem dX6_turn_54 : decode cX6_turn 54 = .ok (.getfield 56, 3) := by decide +kernel
theorem dX6_turn_57 : decode cX6_turn 57 = .ok (.aload_n 3, 1) := by decide +kernel
theorem dX6_turn_58 : decode cX6_turn 58 = .ok (.getfield 201, 3) := by decide +kernel
theorem dX6_turn_61 : decode cX6_turn 61 = .ok (.iload 4, 2) := by decide +kernel
theorem dX6_turn_63 : decode cX6_turn 63 = .ok (.aload_n 3, 1) := by decide +kernel
theorem dX6_turn_64 : decode cX6_turn 64 = .ok (.getfield 204, 3) := by decide +kernel
theorem dX6_turn_67 : decode cX6_turn 67 = .ok (.iload 5, 2) := by decide +kernel
theorem dX6_turn_69 : decode cX6_turn 69 = .ok (.iaload, 1) := by decide +kernel
theorem dX6_turn_70 : decode cX6_turn 70 = .ok (.invokevirtual 210, 3) := by decide +kernel
theorem dX6_turn_73 : decode cX6_turn 73 = .ok (.aload_n 3, 1) := by decide +kernel
theorem dX6_turn_74 : decode cX6_turn 74 = .ok (.getfield 207, 3) := by decide +kernel
theorem dX6_turn_77 : decode cX6_turn 77 = .ok (.iload 5, 2) := by decide +kernel
theorem dX6_turn_79 : decode cX6_turn 79 = .ok (.iaload, 1) := by decide +kernel
theorem dX6_turn_80 : decode cX6_turn 80 = .ok (.istore 4, 2) := by decide +kernel
theorem dX6_turn_82 : decode cX6_turn 82 = .ok (.aload_n 0, 1) := by decide +kernel
theorem dX6_turn_83 : decode cX6_turn 83 = .ok (.aload_n 3, 1) := by decide +kernel
theorem dX6_turn_84 : decode cX6_turn 84 = .ok (.iload 5, 2) := by decide +kernel
theorem dX6_turn_86 : decode cX6_turn 86 = .ok (.iload_n 2, 1) := by decide +kernel
theorem dX6_turn_87 : decode cX6_turn 87 = .ok (.invokevirtual 224, 3) := by decide +kernel
theorem dX6_turn_90 : decode cX6_turn 90 = .ok (.ifCond .ne 9, 3) := by decide +kernel
theorem dX6_turn_93 : decode cX6_turn 93 = .ok (.aload_n 0, 1) := by decide +kernel
theorem dX6_turn_94 : decode cX6_turn 94 = .ok (.invokevirtual 194, 3) := by decide +kernel
theorem dX6_turn_97 : decode cX6_turn 97 = .ok (.iconst (-1), 1) := by decide +kernel
theorem dX6_turn_98 : decode cX6_turn 98 = .ok (.ireturn, 1) := by decide +kernel
theorem dX6_turn_99 : decode cX6_turn 99 = .ok (.iinc 5 1, 3) := by decide +kernel
theorem dX6_turn_102 : decode cX6_turn 102 = .ok (.goto (-69), 3) := by decide +kernel
theorem dX6_turn_105 : decode cX6_turn 105 = .ok (.aload_n 0, 1) := by decide +kernel
theorem dX6_turn_106 : decode cX6_turn 106 = .ok (.getfield 56, 3) := by decide +kernel
theorem dX6_turn_109 : decode cX6_turn 109 = .ok (.aload_n 3, 1) := by decide +kernel
theorem dX6_turn_110 : decode cX6_turn 110 = .ok (.getfield 201, 3) := by decide +kernel
theorem dX6_turn_113 : decode cX6_turn 113 = .ok (.iload 4, 2) := by decide +kernel
theorem dX6_turn_115 : decode cX6_turn 115 = .ok (.aload_n 3, 1) := by decide +kernel
theorem dX6_turn_116 : decode cX6_turn 116 = .ok (.getfield 131, 3) := by decide +kernel
theorem dX6_turn_119 : decode cX6_turn 119 = .ok (.invokevirtual 210, 3) := by decide +kernel
theorem dX6_turn_122 : decode cX6_turn 122 = .ok (.aload_n 0, 1) := by decide +kernel
theorem dX6_turn_123 : decode cX6_turn 123 = .ok (.iload_n 1, 1) := by decide +kernel
theorem dX6_turn_124 : decode cX6_turn 124 = .ok (.sipush 800, 3) := by decide +kernel
theorem dX6_turn_127 : decode cX6_turn 127 = .ok (.invokevirtual 213, 3) := by decide +kernel
theorem dX6_turn_130 : decode cX6_turn 130 = .ok (.ireturn, 1) := by decide +kernel
theorem dX6_turnName_0 : decode cX6_turnName 0 = .ok (.aload_n 0, 1) := by decide +kernel
theorem dX6_turnName_1 : decode cX6_turnName 1 = .ok (.getfield 66, 3) := by decide +kernel
theorem dX6_turnName_4 : decode cX6_turnName 4 = .ok (.aload_n 1, 1) := by decide +kernel
theorem dX6_turnName_5 : decode cX6_turnName 5 = .ok (.getfield 201, 3) := by decide +kernel
theorem dX6_turnName_8 : decode cX6_turnName 8 = .ok (.aload_n 1, 1) := by decide +kernel
theorem dX6_turnName_9 : decode cX6_turnName 9 = .ok (.getfield 204, 3) := by decide +kernel
theorem dX6_turnName_12 : decode cX6_turnName 12 = .ok (.iload_n 2, 1) := by decide +kernel
theorem dX6_turnName_13 : decode cX6_turnName 13 = .ok (.iaload, 1) := by decide +kernel
theorem dX6_turnName_14 : decode cX6_turnName 14 = .ok (.aload_n 1, 1) := by decide +kernel
theorem dX6_turnName_15 : decode cX6_turnName 15 = .ok (.getfield 207, 3) := by decide +kernel
theorem dX6_turnName_18 : decode cX6_turnName 18 = .ok (.iload_n 2, 1) := by decide +kernel
theorem dX6_turnName_19 : decode cX6_turnName 19 = .ok (.iaload, 1) := by decide +kernel
theorem dX6_turnName_20 : decode cX6_turnName 20 = .ok (.iload_n 3, 1) := by decide +kernel
theorem dX6_turnName_21 : decode cX6_turnName 21 = .ok (.invokevirtual 228, 3) := by decide +kernel
theorem dX6_turnName_24 : decode cX6_turnName 24 = .ok (.aload_n 0, 1) := by decide +kernel
theorem dX6_turnName_25 : decode cX6_turnName 25 = .ok (.getfield 66, 3) := by decide +kernel
theorem dX6_turnName_28 : decode cX6_turnName 28 = .ok (.getfield 232, 3) := by decide +kernel
theorem dX6_turnName_31 : decode cX6_turnName 31 = .ok (.bipush 16, 2) := by decide +kernel
theorem dX6_turnName_33 : decode cX6_turnName 33 = .ok (.if_icmp .gt 25, 3) := by decide +kernel
theorem dX6_turnName_36 : decode cX6_turnName 36 = .ok (.aload_n 0, 1) := by decide +kernel
theorem dX6_turnName_37 : decode cX6_turnName 37 = .ok (.getfield 66, 3) := by decide +kernel
theorem dX6_turnName_40 : decode cX6_turnName 40 = .ok (.getfield 233, 3) := by decide +kernel
theorem dX6_turnName_43 : decode cX6_turnName 43 = .ok (.iconst 0, 1) := by decide +kernel
theorem dX6_turnName_44 : decode cX6_turnName 44 = .ok (.aload_n 0, 1) := by decide +kernel
theorem dX6_turnName_45 : decode cX6_turnName 45 = .ok (.getfield 66, 3) := by decide +kernel
theorem dX6_turnName_48 : decode cX6_turnName 48 = .ok (.getfield 232, 3) := by decide +kernel
theorem dX6_turnName_51 : decode cX6_turnName 51 = .ok (.invokestatic 236, 3) := by decide +kernel
theorem dX6_turnName_54 : decode cX6_turnName 54 = .ok (.iconst 1, 1) := by decide +kernel
theorem dX6_turnName_55 : decode cX6_turnName 55 = .ok (.if_icmp .eq 5, 3) := by decide +kernel
theorem dX6_turnName_58 : decode cX6_turnName 58 = .ok (.iconst 0, 1) := by decide +kernel
theorem dX6_turnName_59 : decode cX6_turnName 59 = .ok (.ireturn, 1) := by decide +kernel
theorem dX6_turnName_60 : decode cX6_turnName 60 = .ok (.aload_n 0, 1) := by decide +kernel
theorem dX6_turnName_61 : decode cX6_turnName 61 = .ok (.getfield 70, 3) := by decide +kernel
theorem dX6_turnName_64 : decode cX6_turnName 64 = .ok (.iload_n 2, 1) := by decide +kernel
theorem dX6_turnName_65 : decode cX6_turnName 65 = .ok (.aload_n 0, 1) := by decide +kernel
theorem dX6_turnName_66 : decode cX6_turnName 66 = .ok (.getfield 56, 3) := by decide +kernel
theorem dX6_turnName_69 : decode cX6_turnName 69 = .ok (.getfield 220, 3) := by decide +kernel
theorem dX6_turnName_72 : decode cX6_turnName 72 = .ok (.iastore, 1) := by decide +kernel
theorem dX6_turnName_73 : decode cX6_turnName 73 = .ok (.aload_n 0, 1) := by decide +kernel
theorem dX6_turnName_74 : decode cX6_turnName 74 = .ok (.getfield 56, 3) := by decide +kernel
theorem dX6_turnName_77 : decode cX6_turnName 77 = .ok (.aload_n 0, 1) := by decide +kernel
theorem dX6_turnName_78 : decode cX6_turnName 78 = .ok (.getfield 66, 3) := by decide +kernel
theorem dX6_turnName_81 : decode cX6_turnName 81 = .ok (.getfield 233, 3) := by decide +kernel
theorem dX6_turnName_84 : decode cX6_turnName 84 = .ok (.iconst 0, 1) := by decide +kernel
theorem dX6_turnName_85 : decode cX6_turnName 85 = .ok (.aload_n 0, 1) := by decide +kernel
theorem dX6_turnName_86 : decode cX6_turnName 86 = .ok (.getfield 66, 3) := by decide +kernel
theorem dX6_turnName_89 : decode cX6_turnName 89 = .ok (.getfield 232, 3) := by decide +kernel
theorem dX6_turnName_92 : decode cX6_turnName 92 = .ok (.invokevirtual 210, 3) := by decide +kernel
theorem dX6_turnName_95 : decode cX6_turnName 95 = .ok (.aload_n 0, 1) := by decide +kernel
theorem dX6_turnName_96 : decode cX6_turnName 96 = .ok (.getfield 74, 3) := by decide +kernel
theorem dX6_turnName_99 : decode cX6_turnName 99 = .ok (.iload_n 2, 1) := by decide +kernel
theorem dX6_turnName_100 : decode cX6_turnName 100 = .ok (.aload_n 0, 1) := by decide +kernel
theorem dX6_turnName_101 : decode cX6_turnName 101 = .ok (.getfield 56, 3) := by decide +kernel
theorem dX6_turnName_104 : decode cX6_turnName 104 = .ok (.getfield 220, 3) := by decide +kernel
theorem dX6_turnName_107 : decode cX6_turnName 107 = .ok (.iastore, 1) := by decide +kernel
theorem dX6_turnName_108 : decode cX6_turnName 108 = .ok (.aload_n 0, 1) := by decide +kernel
theorem dX6_turnName_109 : decode cX6_turnName 109 = .ok (.aload_n 1, 1) := by decide +kernel
theorem dX6_turnName_110 : decode cX6_turnName 110 = .ok (.iload_n 2, 1) := by decide +kernel
theorem dX6_turnName_111 : decode cX6_turnName 111 = .ok (.invokevirtual 240, 3) := by decide +kernel
theorem dX6_turnName_114 : decode cX6_turnName 114 = .ok (.ifCond .ne 7, 3) := by decide +kernel
theorem dX6_turnName_117 : decode cX6_turnName 117 = .ok (.iconst 1, 1) := by decide +kernel
theorem dX6_turnName_118 : decode cX6_turnName 118 = .ok (.goto 4, 3) := by decide +kernel
theorem dX6_turnName_121 : decode cX6_turnName 121 = .ok (.iconst 0, 1) := by decide +kernel
theorem dX6_turnName_122 : decode cX6_turnName 122 = .ok (.ireturn, 1) := by decide +kernel
theorem dX6_meetsUnlikeName_0 : decode cX6_meetsUnlikeName 0 = .ok (.iconst 0, 1) := by decide +kernel
theorem dX6_meetsUnlikeName_1 : decode cX6_meetsUnlikeName 1 = .ok (.istore_n 3, 1) := by decide +kernel
theorem dX6_meetsUnlikeName_2 : decode cX6_meetsUnlikeName 2 = .ok (.iload_n 3, 1) := by decide +kernel
theorem dX6_meetsUnlikeName_3 : decode cX6_meetsUnlikeName 3 = .ok (.iload_n 2, 1) := by decide +kernel
theorem dX6_meetsUnlikeName_4 : decode cX6_meetsUnlikeName 4 = .ok (.if_icmp .ge 75, 3) := by decide +kernel
theorem dX6_meetsUnlikeName_7 : decode cX6_meetsUnlikeName 7 = .ok (.aload_n 1, 1) := by decide +kernel
theorem dX6_meetsUnlikeName_8 : decode cX6_meetsUnlikeName 8 = .ok (.getfield 221, 3) := by decide +kernel
theorem dX6_meetsUnlikeName_11 : decode cX6_meetsUnlikeName 11 = .ok (.iload_n 3, 1) := by decide +kernel
theorem dX6_meetsUnlikeName_12 : decode cX6_meetsUnlikeName 12 = .ok (.iaload, 1) := by decide +kernel
theorem dX6_meetsUnlikeName_13 : decode cX6_meetsUnlikeName 13 = .ok (.iconst 1, 1) := by decide +kernel
theorem dX6_meetsUnlikeName_14 : decode cX6_meetsUnlikeName 14 = .ok (.if_icmp .ne 59, 3) := by decide +kernel
theorem dX6_meetsUnlikeName_17 : decode cX6_meetsUnlikeName 17 = .ok (.aload_n 0, 1) := by decide +kernel
theorem dX6_meetsUnlikeName_18 : decode cX6_meetsUnlikeName 18 = .ok (.getfield 56, 3) := by decide +kernel
theorem dX6_meetsUnlikeName_21 : decode cX6_meetsUnlikeName 21 = .ok (.getfield 244, 3) := by decide +kernel
theorem dX6_meetsUnlikeName_24 : decode cX6_meetsUnlikeName 24 = .ok (.aload_n 0, 1) := by decide +kernel
theorem dX6_meetsUnlikeName_25 : decode cX6_meetsUnlikeName 25 = .ok (.getfield 70, 3) := by decide +kernel
theorem dX6_meetsUnlikeName_28 : decode cX6_meetsUnlikeName 28 = .ok (.iload_n 3, 1) := by decide +kernel
theorem dX6_meetsUnlikeName_29 : decode cX6_meetsUnlikeName 29 = .ok (.iaload, 1) := by decide +kernel
theorem dX6_meetsUnlikeName_30 : decode cX6_meetsUnlikeName 30 = .ok (.aload_n 0, 1) := by decide +kernel
theorem dX6_meetsUnlikeName_31 : decode cX6_meetsUnlikeName 31 = .ok (.getfield 74, 3) := by decide +kernel
theorem dX6_meetsUnlikeName_34 : decode cX6_meetsUnlikeName 34 = .ok (.iload_n 3, 1) := by decide +kernel
theorem dX6_meetsUnlikeName_35 : decode cX6_meetsUnlikeName 35 = .ok (.iaload, 1) := by decide +kernel
theorem dX6_meetsUnlikeName_36 : decode cX6_meetsUnlikeName 36 = .ok (.aload_n 0, 1) := by decide +kernel
theorem dX6_meetsUnlikeName_37 : decode cX6_meetsUnlikeName 37 = .ok (.getfield 56, 3) := by decide +kernel
theorem dX6_meetsUnlikeName_40 : decode cX6_meetsUnlikeName 40 = .ok (.getfield 244, 3) := by decide +kernel
theorem dX6_meetsUnlikeName_43 : decode cX6_meetsUnlikeName 43 = .ok (.aload_n 0, 1) := by decide +kernel
theorem dX6_meetsUnlikeName_44 : decode cX6_meetsUnlikeName 44 = .ok (.getfield 70, 3) := by decide +kernel
theorem dX6_meetsUnlikeName_47 : decode cX6_meetsUnlikeName 47 = .ok (.iload_n 2, 1) := by decide +kernel
theorem dX6_meetsUnlikeName_48 : decode cX6_meetsUnlikeName 48 = .ok (.iaload, 1) := by decide +kernel
theorem dX6_meetsUnlikeName_49 : decode cX6_meetsUnlikeName 49 = .ok (.aload_n 0, 1) := by decide +kernel
theorem dX6_meetsUnlikeName_50 : decode cX6_meetsUnlikeName 50 = .ok (.getfield 74, 3) := by decide +kernel
theorem dX6_meetsUnlikeName_53 : decode cX6_meetsUnlikeName 53 = .ok (.iload_n 2, 1) := by decide +kernel
theorem dX6_meetsUnlikeName_54 : decode cX6_meetsUnlikeName 54 = .ok (.iaload, 1) := by decide +kernel
theorem dX6_meetsUnlikeName_55 : decode cX6_meetsUnlikeName 55 = .ok (.invokestatic 247, 3) := by decide +kernel
theorem dX6_meetsUnlikeName_58 : decode cX6_meetsUnlikeName 58 = .ok (.ifCond .eq 15, 3) := by decide +kernel
theorem dX6_meetsUnlikeName_61 : decode cX6_meetsUnlikeName 61 = .ok (.aload_n 1, 1) := by decide +kernel
theorem dX6_meetsUnlikeName_62 : decode cX6_meetsUnlikeName 62 = .ok (.iload_n 3, 1) := by decide +kernel
theorem dX6_meetsUnlikeName_63 : decode cX6_meetsUnlikeName 63 = .ok (.aload_n 1, 1) := by decide +kernel
theorem dX6_meetsUnlikeName_64 : decode cX6_meetsUnlikeName 64 = .ok (.iload_n 2, 1) := by decide +kernel
theorem dX6_meetsUnlikeName_65 : decode cX6_meetsUnlikeName 65 = .ok (.invokevirtual 251, 3) := by decide +kernel
theorem dX6_meetsUnlikeName_68 : decode cX6_meetsUnlikeName 68 = .ok (.ifCond .ne 5, 3) := by decide +kernel
theorem dX6_meetsUnlikeName_71 : decode cX6_meetsUnlikeName 71 = .ok (.iconst 1, 1) := by decide +kernel
theorem dX6_meetsUnlikeName_72 : decode cX6_meetsUnlikeName 72 = .ok (.ireturn, 1) := by decide +kernel
theorem dX6_meetsUnlikeName_73 : decode cX6_meetsUnlikeName 73 = .ok (.iinc 3 1, 3) := by decide +kernel
theorem dX6_meetsUnlikeName_76 : decode cX6_meetsUnlikeName 76 = .ok (.goto (-74), 3) := by decide +kernel
theorem dX6_meetsUnlikeName_79 : decode cX6_meetsUnlikeName 79 = .ok (.iconst 0, 1) := by decide +kernel
theorem dX6_meetsUnlikeName_80 : decode cX6_meetsUnlikeName 80 = .ok (.ireturn, 1) := by decide +kernel
theorem dX6_house_0 : decode cX6_house 0 = .ok (.iconst 0, 1) := by decide +kernel
theorem dX6_house_1 : decode cX6_house 1 = .ok (.istore_n 1, 1) := by decide +kernel
theorem dX6_house_2 : decode cX6_house 2 = .ok (.iconst 0, 1) := by decide +kernel
theorem dX6_house_3 : decode cX6_house 3 = .ok (.istore_n 2, 1) := by decide +kernel
theorem dX6_house_4 : decode cX6_house 4 = .ok (.iconst 0, 1) := by decide +kernel
theorem dX6_house_5 : decode cX6_house 5 = .ok (.istore_n 3, 1) := by decide +kernel
theorem dX6_house_6 : decode cX6_house 6 = .ok (.iload_n 3, 1) := by decide +kernel
theorem dX6_house_7 : decode cX6_house 7 = .ok (.bipush 12, 2) := by decide +kernel
theorem dX6_house_9 : decode cX6_house 9 = .ok (.if_icmp .ge 49, 3) := by decide +kernel
theorem dX6_house_12 : decode cX6_house 12 = .ok (.aload_n 0, 1) := by decide +kernel
theorem dX6_house_13 : decode cX6_house 13 = .ok (.getfield 15, 3) := by decide +kernel
theorem dX6_house_16 : decode cX6_house 16 = .ok (.iload_n 3, 1) := by decide +kernel
theorem dX6_house_17 : decode cX6_house 17 = .ok (.aaload, 1) := by decide +kernel
theorem dX6_house_18 : decode cX6_house 18 = .ok (.getfield 114, 3) := by decide +kernel
theorem dX6_house_21 : decode cX6_house 21 = .ok (.ifCond .eq 31, 3) := by decide +kernel
theorem dX6_house_24 : decode cX6_house 24 = .ok (.iload_n 1, 1) := by decide +kernel
theorem dX6_house_25 : decode cX6_house 25 = .ok (.aload_n 0, 1) := by decide +kernel
theorem dX6_house_26 : decode cX6_house 26 = .ok (.aload_n 0, 1) := by decide +kernel
theorem dX6_house_27 : decode cX6_house 27 = .ok (.getfield 15, 3) := by decide +kernel
theorem dX6_house_30 : decode cX6_house 30 = .ok (.iload_n 3, 1) := by decide +kernel
theorem dX6_house_31 : decode cX6_house 31 = .ok (.aaload, 1) := by decide +kernel
theorem dX6_house_32 : decode cX6_house 32 = .ok (.iconst 0, 1) := by decide +kernel
theorem dX6_house_33 : decode cX6_house 33 = .ok (.invokevirtual 255, 3) := by decide +kernel
theorem dX6_house_36 : decode cX6_house 36 = .ok (.iadd, 1) := by decide +kernel
theorem dX6_house_37 : decode cX6_house 37 = .ok (.istore_n 1, 1) := by decide +kernel
theorem dX6_house_38 : decode cX6_house 38 = .ok (.iload_n 2, 1) := by decide +kernel
theorem dX6_house_39 : decode cX6_house 39 = .ok (.aload_n 0, 1) := by decide +kernel
theorem dX6_house_40 : decode cX6_house 40 = .ok (.aload_n 0, 1) := by decide +kernel
theorem dX6_house_41 : decode cX6_house 41 = .ok (.getfield 15, 3) := by decide +kernel
theorem dX6_house_44 : decode cX6_house 44 = .ok (.iload_n 3, 1) := by decide +kernel
theorem dX6_house_45 : decode cX6_house 45 = .ok (.aaload, 1) := by decide +kernel
theorem dX6_house_46 : decode cX6_house 46 = .ok (.iconst 1, 1) := by decide +kernel
theorem dX6_house_47 : decode cX6_house 47 = .ok (.invokevirtual 255, 3) := by decide +kernel
theorem dX6_house_50 : decode cX6_house 50 = .ok (.iadd, 1) := by decide +kernel
theorem dX6_house_51 : decode cX6_house 51 = .ok (.istore_n 2, 1) := by decide +kernel
theorem dX6_house_52 : decode cX6_house 52 = .ok (.iinc 3 1, 3) := by decide +kernel
theorem dX6_house_55 : decode cX6_house 55 = .ok (.goto (-49), 3) := by decide +kernel
theorem dX6_house_58 : decode cX6_house 58 = .ok (.iload_n 1, 1) := by decide +kernel
theorem dX6_house_59 : decode cX6_house 59 = .ok (.iload_n 2, 1) := by decide +kernel
theorem dX6_house_60 : decode cX6_house 60 = .ok (.if_icmp .ne 5, 3) := by decide +kernel
theorem dX6_house_63 : decode cX6_house 63 = .ok (.iconst (-1), 1) := by decide +kernel
theorem dX6_house_64 : decode cX6_house 64 = .ok (.ireturn, 1) := by decide +kernel
theorem dX6_house_65 : decode cX6_house 65 = .ok (.iload_n 1, 1) := by decide +kernel
theorem dX6_house_66 : decode cX6_house 66 = .ok (.iload_n 2, 1) := by decide +kernel
theorem dX6_house_67 : decode cX6_house 67 = .ok (.if_icmp .le 7, 3) := by decide +kernel
theorem dX6_house_70 : decode cX6_house 70 = .ok (.iconst 0, 1) := by decide +kernel
theorem dX6_house_71 : decode cX6_house 71 = .ok (.goto 4, 3) := by decide +kernel
theorem dX6_house_74 : decode cX6_house 74 = .ok (.iconst 1, 1) := by decide +kernel
theorem dX6_house_75 : decode cX6_house 75 = .ok (.ireturn, 1) := by decide +kernel
theorem dX6_countMade_0 : decode cX6_countMade 0 = .ok (.iconst 0, 1) := by decide +kernel
theorem dX6_countMade_1 : decode cX6_countMade 1 = .ok (.istore_n 3, 1) := by decide +kernel
theorem dX6_countMade_2 : decode cX6_countMade 2 = .ok (.iconst 0, 1) := by decide +kernel
theorem dX6_countMade_3 : decode cX6_countMade 3 = .ok (.istore 4, 2) := by decide +kernel
theorem dX6_countMade_5 : decode cX6_countMade 5 = .ok (.iload 4, 2) := by decide +kernel
theorem dX6_countMade_7 : decode cX6_countMade 7 = .ok (.aload_n 1, 1) := by decide +kernel
theorem dX6_countMade_8 : decode cX6_countMade 8 = .ok (.getfield 128, 3) := by decide +kernel
theorem dX6_countMade_11 : decode cX6_countMade 11 = .ok (.if_icmp .ge 97, 3) := by decide +kernel
theorem dX6_countMade_14 : decode cX6_countMade 14 = .ok (.aload_n 1, 1) := by decide +kernel
theorem dX6_countMade_15 : decode cX6_countMade 15 = .ok (.getfield 221, 3) := by decide +kernel
theorem dX6_countMade_18 : decode cX6_countMade 18 = .ok (.iload 4, 2) := by decide +kernel
theorem dX6_countMade_20 : decode cX6_countMade 20 = .ok (.iaload, 1) := by decide +kernel
theorem dX6_countMade_21 : decode cX6_countMade 21 = .ok (.iconst 1, 1) := by decide +kernel
theorem dX6_countMade_22 : decode cX6_countMade 22 = .ok (.if_icmp .ne 80, 3) := by decide +kernel
theorem dX6_countMade_25 : decode cX6_countMade 25 = .ok (.aload_n 1, 1) := by decide +kernel
theorem dX6_countMade_26 : decode cX6_countMade 26 = .ok (.getfield 204, 3) := by decide +kernel
theorem dX6_countMade_29 : decode cX6_countMade 29 = .ok (.iload 4, 2) := by decide +kernel
theorem dX6_countMade_31 : decode cX6_countMade 31 = .ok (.iaload, 1) := by decide +kernel
theorem dX6_countMade_32 : decode cX6_countMade 32 = .ok (.istore 5, 2) := by decide +kernel
theorem dX6_countMade_34 : decode cX6_countMade 34 = .ok (.aload_n 1, 1) := by decide +kernel
theorem dX6_countMade_35 : decode cX6_countMade 35 = .ok (.getfield 207, 3) := by decide +kernel
theorem dX6_countMade_38 : decode cX6_countMade 38 = .ok (.iload 4, 2) := by decide +kernel
theorem dX6_countMade_40 : decode cX6_countMade 40 = .ok (.iaload, 1) := by decide +kernel
theorem dX6_countMade_41 : decode cX6_countMade 41 = .ok (.istore 6, 2) := by decide +kernel
theorem dX6_countMade_43 : decode cX6_countMade 43 = .ok (.aload_n 0, 1) := by decide +kernel
theorem dX6_countMade_44 : decode cX6_countMade 44 = .ok (.getfield 66, 3) := by decide +kernel
theorem dX6_countMade_47 : decode cX6_countMade 47 = .ok (.aload_n 1, 1) := by decide +kernel
theorem dX6_countMade_48 : decode cX6_countMade 48 = .ok (.getfield 201, 3) := by decide +kernel
theorem dX6_countMade_51 : decode cX6_countMade 51 = .ok (.iload 5, 2) := by decide +kernel
theorem dX6_countMade_53 : decode cX6_countMade 53 = .ok (.iload 6, 2) := by decide +kernel
theorem dX6_countMade_55 : decode cX6_countMade 55 = .ok (.iload_n 2, 1) := by decide +kernel
theorem dX6_countMade_56 : decode cX6_countMade 56 = .ok (.invokevirtual 228, 3) := by decide +kernel
theorem dX6_countMade_59 : decode cX6_countMade 59 = .ok (.aload_n 0, 1) := by decide +kernel
theorem dX6_countMade_60 : decode cX6_countMade 60 = .ok (.getfield 66, 3) := by decide +kernel
theorem dX6_countMade_63 : decode cX6_countMade 63 = .ok (.getfield 258, 3) := by decide +kernel
theorem dX6_countMade_66 : decode cX6_countMade 66 = .ok (.iconst 1, 1) := by decide +kernel
theorem dX6_countMade_67 : decode cX6_countMade 67 = .ok (.if_icmp .le 35, 3) := by decide +kernel
theorem dX6_countMade_70 : decode cX6_countMade 70 = .ok (.aload_n 0, 1) := by decide +kernel
theorem dX6_countMade_71 : decode cX6_countMade 71 = .ok (.getfield 66, 3) := by decide +kernel
theorem dX6_countMade_74 : decode cX6_countMade 74 = .ok (.getfield 233, 3) := by decide +kernel
theorem dX6_countMade_77 : decode cX6_countMade 77 = .ok (.iconst 0, 1) := by decide +kernel
theorem dX6_countMade_78 : decode cX6_countMade 78 = .ok (.aload_n 0, 1) := by decide +kernel
theorem dX6_countMade_79 : decode cX6_countMade 79 = .ok (.getfield 66, 3) := by decide +kernel
theorem dX6_countMade_82 : decode cX6_countMade 82 = .ok (.getfield 232, 3) := by decide +kernel
theorem dX6_countMade_85 : decode cX6_countMade 85 = .ok (.aload_n 1, 1) := by decide +kernel
theorem dX6_countMade_86 : decode cX6_countMade 86 = .ok (.getfield 201, 3) := by decide +kernel
theorem dX6_countMade_89 : decode cX6_countMade 89 = .ok (.iload 5, 2) := by decide +kernel
theorem dX6_countMade_91 : decode cX6_countMade 91 = .ok (.iload 6, 2) := by decide +kernel
theorem dX6_countMade_93 : decode cX6_countMade 93 = .ok (.invokestatic 247, 3) := by decide +kernel
theorem dX6_countMade_96 : decode cX6_countMade 96 = .ok (.ifCond .eq 6, 3) := by decide +kernel
theorem dX6_countMade_99 : decode cX6_countMade 99 = .ok (.iinc 3 1, 3) := by decide +kernel
theorem dX6_countMade_102 : decode cX6_countMade 102 = .ok (.iinc 4 1, 3) := by decide +kernel
theorem dX6_countMade_105 : decode cX6_countMade 105 = .ok (.goto (-100), 3) := by decide +kernel
theorem dX6_countMade_108 : decode cX6_countMade 108 = .ok (.iload_n 3, 1) := by decide +kernel
theorem dX6_countMade_109 : decode cX6_countMade 109 = .ok (.ireturn, 1) := by decide +kernel
theorem dX6_told_0 : decode cX6_told 0 = .ok (.iload_n 1, 1) := by decide +kernel
theorem dX6_told_1 : decode cX6_told 1 = .ok (.iconst (-1), 1) := by decide +kernel
theorem dX6_told_2 : decode cX6_told 2 = .ok (.if_icmp .ne 11, 3) := by decide +kernel
theorem dX6_told_5 : decode cX6_told 5 = .ok (.aload_n 0, 1) := by decide +kernel
theorem dX6_told_6 : decode cX6_told 6 = .ok (.getfield 56, 3) := by decide +kernel
theorem dX6_told_9 : decode cX6_told 9 = .ok (.getfield 220, 3) := by decide +kernel
theorem dX6_told_12 : decode cX6_told 12 = .ok (.ireturn, 1) := by decide +kernel
theorem dX6_told_13 : decode cX6_told 13 = .ok (.iload_n 1, 1) := by decide +kernel
theorem dX6_told_14 : decode cX6_told 14 = .ok (.ifCond .lt 14, 3) := by decide +kernel
theorem dX6_told_17 : decode cX6_told 17 = .ok (.iload_n 1, 1) := by decide +kernel
theorem dX6_told_18 : decode cX6_told 18 = .ok (.aload_n 0, 1) := by decide +kernel
theorem dX6_told_19 : decode cX6_told 19 = .ok (.getfield 56, 3) := by decide +kernel
theorem dX6_told_22 : decode cX6_told 22 = .ok (.getfield 220, 3) := by decide +kernel
theorem dX6_told_25 : decode cX6_told 25 = .ok (.if_icmp .lt 11, 3) := by decide +kernel
theorem dX6_told_28 : decode cX6_told 28 = .ok (.new 121, 3) := by decide +kernel
theorem dX6_told_31 : decode cX6_told 31 = .ok (.dup, 1) := by decide +kernel
theorem dX6_told_32 : decode cX6_told 32 = .ok (.invokespecial 123, 3) := by decide +kernel
theorem dX6_told_35 : decode cX6_told 35 = .ok (.athrow, 1) := by decide +kernel
theorem dX6_told_36 : decode cX6_told 36 = .ok (.aload_n 0, 1) := by decide +kernel
theorem dX6_told_37 : decode cX6_told 37 = .ok (.getfield 56, 3) := by decide +kernel
theorem dX6_told_40 : decode cX6_told 40 = .ok (.getfield 244, 3) := by decide +kernel
theorem dX6_told_43 : decode cX6_told 43 = .ok (.iload_n 1, 1) := by decide +kernel
theorem dX6_told_44 : decode cX6_told 44 = .ok (.baload, 1) := by decide +kernel
theorem dX6_told_45 : decode cX6_told 45 = .ok (.sipush 255, 3) := by decide +kernel
theorem dX6_told_48 : decode cX6_told 48 = .ok (.iand, 1) := by decide +kernel
theorem dX6_told_49 : decode cX6_told 49 = .ok (.ireturn, 1) := by decide +kernel
theorem dX6_take_0 : decode cX6_take 0 = .ok (.aload_n 0, 1) := by decide +kernel
theorem dX6_take_1 : decode cX6_take 1 = .ok (.iload_n 1, 1) := by decide +kernel
theorem dX6_take_2 : decode cX6_take 2 = .ok (.invokevirtual 124, 3) := by decide +kernel
theorem dX6_take_5 : decode cX6_take 5 = .ok (.astore_n 2, 1) := by decide +kernel
theorem dX6_take_6 : decode cX6_take 6 = .ok (.aload_n 0, 1) := by decide +kernel
theorem dX6_take_7 : decode cX6_take 7 = .ok (.getfield 60, 3) := by decide +kernel
theorem dX6_take_10 : decode cX6_take 10 = .ok (.iload_n 1, 1) := by decide +kernel
theorem dX6_take_11 : decode cX6_take 11 = .ok (.if_icmp .ne 26, 3) := by decide +kernel
theorem dX6_take_14 : decode cX6_take 14 = .ok (.aload_n 0, 1) := by decide +kernel
theorem dX6_take_15 : decode cX6_take 15 = .ok (.getfield 56, 3) := by decide +kernel
theorem dX6_take_18 : decode cX6_take 18 = .ok (.getfield 220, 3) := by decide +kernel
theorem dX6_take_21 : decode cX6_take 21 = .ok (.ifCond .eq 16, 3) := by decide +kernel
theorem dX6_take_24 : decode cX6_take 24 = .ok (.aload_n 0, 1) := by decide +kernel
theorem dX6_take_25 : decode cX6_take 25 = .ok (.getfield 56, 3) := by decide +kernel
theorem dX6_take_28 : decode cX6_take 28 = .ok (.getfield 220, 3) := by decide +kernel
theorem dX6_take_31 : decode cX6_take 31 = .ok (.sipush 800, 3) := by decide +kernel
theorem dX6_take_34 : decode cX6_take 34 = .ok (.if_icmp .le 5, 3) := by decide +kernel
theorem dX6_take_37 : decode cX6_take 37 = .ok (.iconst 0, 1) := by decide +kernel
theorem dX6_take_38 : decode cX6_take 38 = .ok (.ireturn, 1) := by decide +kernel
theorem dX6_take_39 : decode cX6_take 39 = .ok (.aload_n 0, 1) := by decide +kernel
theorem dX6_take_40 : decode cX6_take 40 = .ok (.iload_n 1, 1) := by decide +kernel
theorem dX6_take_41 : decode cX6_take 41 = .ok (.aload_n 2, 1) := by decide +kernel
theorem dX6_take_42 : decode cX6_take 42 = .ok (.getfield 134, 3) := by decide +kernel
theorem dX6_take_45 : decode cX6_take 45 = .ok (.aload_n 0, 1) := by decide +kernel
theorem dX6_take_46 : decode cX6_take 46 = .ok (.getfield 56, 3) := by decide +kernel
theorem dX6_take_49 : decode cX6_take 49 = .ok (.getfield 244, 3) := by decide +kernel
theorem dX6_take_52 : decode cX6_take 52 = .ok (.aload_n 0, 1) := by decide +kernel
theorem dX6_take_53 : decode cX6_take 53 = .ok (.getfield 56, 3) := by decide +kernel
theorem dX6_take_56 : decode cX6_take 56 = .ok (.getfield 220, 3) := by decide +kernel
theorem dX6_take_59 : decode cX6_take 59 = .ok (.invokevirtual 93, 3) := by decide +kernel
theorem dX6_take_62 : decode cX6_take 62 = .ok (.ifCond .ne 7, 3) := by decide +kernel
theorem dX6_take_65 : decode cX6_take 65 = .ok (.iconst 1, 1) := by decide +kernel
theorem dX6_take_66 : decode cX6_take 66 = .ok (.goto 4, 3) := by decide +kernel
theorem dX6_take_69 : decode cX6_take 69 = .ok (.iconst 0, 1) := by decide +kernel
theorem dX6_take_70 : decode cX6_take 70 = .ok (.ireturn, 1) := by decide +kernel
theorem dX6_alike_0 : decode cX6_alike 0 = .ok (.aload_n 0, 1) := by decide +kernel
theorem dX6_alike_1 : decode cX6_alike 1 = .ok (.iload_n 1, 1) := by decide +kernel
theorem dX6_alike_2 : decode cX6_alike 2 = .ok (.invokevirtual 124, 3) := by decide +kernel
theorem dX6_alike_5 : decode cX6_alike 5 = .ok (.astore_n 3, 1) := by decide +kernel
theorem dX6_alike_6 : decode cX6_alike 6 = .ok (.aload_n 0, 1) := by decide +kernel
theorem dX6_alike_7 : decode cX6_alike 7 = .ok (.iload_n 2, 1) := by decide +kernel
theorem dX6_alike_8 : decode cX6_alike 8 = .ok (.invokevirtual 124, 3) := by decide +kernel
theorem dX6_alike_11 : decode cX6_alike 11 = .ok (.astore 4, 2) := by decide +kernel
theorem dX6_alike_13 : decode cX6_alike 13 = .ok (.aload_n 3, 1) := by decide +kernel
theorem dX6_alike_14 : decode cX6_alike 14 = .ok (.getfield 128, 3) := by decide +kernel
theorem dX6_alike_17 : decode cX6_alike 17 = .ok (.aload 4, 2) := by decide +kernel
theorem dX6_alike_19 : decode cX6_alike 19 = .ok (.getfield 128, 3) := by decide +kernel
theorem dX6_alike_22 : decode cX6_alike 22 = .ok (.if_icmp .eq 5, 3) := by decide +kernel
theorem dX6_alike_25 : decode cX6_alike 25 = .ok (.iconst 0, 1) := by decide +kernel
theorem dX6_alike_26 : decode cX6_alike 26 = .ok (.ireturn, 1) := by decide +kernel
theorem dX6_alike_27 : decode cX6_alike 27 = .ok (.iconst 0, 1) := by decide +kernel
theorem dX6_alike_28 : decode cX6_alike 28 = .ok (.istore 5, 2) := by decide +kernel
theorem dX6_alike_30 : decode cX6_alike 30 = .ok (.iload 5, 2) := by decide +kernel
theorem dX6_alike_32 : decode cX6_alike 32 = .ok (.aload_n 3, 1) := by decide +kernel
theorem dX6_alike_33 : decode cX6_alike 33 = .ok (.getfield 128, 3) := by decide +kernel
theorem dX6_alike_36 : decode cX6_alike 36 = .ok (.if_icmp .ge 24, 3) := by decide +kernel
theorem dX6_alike_39 : decode cX6_alike 39 = .ok (.aload_n 3, 1) := by decide +kernel
theorem dX6_alike_40 : decode cX6_alike 40 = .ok (.iload 5, 2) := by decide +kernel
theorem dX6_alike_42 : decode cX6_alike 42 = .ok (.aload 4, 2) := by decide +kernel
theorem dX6_alike_44 : decode cX6_alike 44 = .ok (.iload 5, 2) := by decide +kernel
theorem dX6_alike_46 : decode cX6_alike 46 = .ok (.invokevirtual 251, 3) := by decide +kernel
theorem dX6_alike_49 : decode cX6_alike 49 = .ok (.ifCond .ne 5, 3) := by decide +kernel
theorem dX6_alike_52 : decode cX6_alike 52 = .ok (.iconst 0, 1) := by decide +kernel
theorem dX6_alike_53 : decode cX6_alike 53 = .ok (.ireturn, 1) := by decide +kernel
theorem dX6_alike_54 : decode cX6_alike 54 = .ok (.iinc 5 1, 3) := by decide +kernel
theorem dX6_alike_57 : decode cX6_alike 57 = .ok (.goto (-27), 3) := by decide +kernel
theorem dX6_alike_60 : decode cX6_alike 60 = .ok (.iconst 1, 1) := by decide +kernel
theorem dX6_alike_61 : decode cX6_alike 61 = .ok (.ireturn, 1) := by decide +kernel
theorem dX6_same_0 : decode cX6_same 0 = .ok (.iload_n 2, 1) := by decide +kernel
theorem dX6_same_1 : decode cX6_same 1 = .ok (.iload_n 1, 1) := by decide +kernel
theorem dX6_same_2 : decode cX6_same 2 = .ok (.isub, 1) := by decide +kernel
theorem dX6_same_3 : decode cX6_same 3 = .ok (.istore 6, 2) := by decide +kernel
theorem dX6_same_5 : decode cX6_same 5 = .ok (.iload 5, 2) := by decide +kernel
theorem dX6_same_7 : decode cX6_same 7 = .ok (.iload 4, 2) := by decide +kernel
theorem dX6_same_9 : decode cX6_same 9 = .ok (.isub, 1) := by decide +kernel
theorem dX6_same_10 : decode cX6_same 10 = .ok (.iload 6, 2) := by decide +kernel
theorem dX6_same_12 : decode cX6_same 12 = .ok (.if_icmp .ne 25, 3) := by decide +kernel
theorem dX6_same_15 : decode cX6_same 15 = .ok (.iload_n 1, 1) := by decide +kernel
theorem dX6_same_16 : decode cX6_same 16 = .ok (.ifCond .lt 21, 3) := by decide +kernel
theorem dX6_same_19 : decode cX6_same 19 = .ok (.iload_n 2, 1) := by decide +kernel
theorem dX6_same_20 : decode cX6_same 20 = .ok (.aload_n 0, 1) := by decide +kernel
theorem dX6_same_21 : decode cX6_same 21 = .ok (.arraylength, 1) := by decide +kernel
theorem dX6_same_22 : decode cX6_same 22 = .ok (.if_icmp .gt 15, 3) := by decide +kernel
theorem dX6_same_25 : decode cX6_same 25 = .ok (.iload 4, 2) := by decide +kernel
theorem dX6_same_27 : decode cX6_same 27 = .ok (.ifCond .lt 10, 3) := by decide +kernel
theorem dX6_same_30 : decode cX6_same 30 = .ok (.iload 5, 2) := by decide +kernel
theorem dX6_same_32 : decode cX6_same 32 = .ok (.aload_n 3, 1) := by decide +kernel
theorem dX6_same_33 : decode cX6_same 33 = .ok (.arraylength, 1) := by decide +kernel
theorem dX6_same_34 : decode cX6_same 34 = .ok (.if_icmp .le 5, 3) := by decide +kernel
theorem dX6_same_37 : decode cX6_same 37 = .ok (.iconst 0, 1) := by decide +kernel
theorem dX6_same_38 : decode cX6_same 38 = .ok (.ireturn, 1) := by decide +kernel
theorem dX6_same_39 : decode cX6_same 39 = .ok (.iconst 0, 1) := by decide +kernel
theorem dX6_same_40 : decode cX6_same 40 = .ok (.istore 7, 2) := by decide +kernel
theorem dX6_same_42 : decode cX6_same 42 = .ok (.iload 7, 2) := by decide +kernel
theorem dX6_same_44 : decode cX6_same 44 = .ok (.iload 6, 2) := by decide +kernel
theorem dX6_same_46 : decode cX6_same 46 = .ok (.if_icmp .ge 27, 3) := by decide +kernel
theorem dX6_same_49 : decode cX6_same 49 = .ok (.aload_n 0, 1) := by decide +kernel
theorem dX6_same_50 : decode cX6_same 50 = .ok (.iload_n 1, 1) := by decide +kernel
theorem dX6_same_51 : decode cX6_same 51 = .ok (.iload 7, 2) := by decide +kernel
theorem dX6_same_53 : decode cX6_same 53 = .ok (.iadd, 1) := by decide +kernel
theorem dX6_same_54 : decode cX6_same 54 = .ok (.baload, 1) := by decide +kernel
theorem dX6_same_55 : decode cX6_same 55 = .ok (.aload_n 3, 1) := by decide +kernel
theorem dX6_same_56 : decode cX6_same 56 = .ok (.iload 4, 2) := by decide +kernel
theorem dX6_same_58 : decode cX6_same 58 = .ok (.iload 7, 2) := by decide +kernel
theorem dX6_same_60 : decode cX6_same 60 = .ok (.iadd, 1) := by decide +kernel
theorem dX6_same_61 : decode cX6_same 61 = .ok (.baload, 1) := by decide +kernel
theorem dX6_same_62 : decode cX6_same 62 = .ok (.if_icmp .eq 5, 3) := by decide +kernel
theorem dX6_same_65 : decode cX6_same 65 = .ok (.iconst 0, 1) := by decide +kernel
theorem dX6_same_66 : decode cX6_same 66 = .ok (.ireturn, 1) := by decide +kernel
theorem dX6_same_67 : decode cX6_same 67 = .ok (.iinc 7 1, 3) := by decide +kernel
theorem dX6_same_70 : decode cX6_same 70 = .ok (.goto (-28), 3) := by decide +kernel
theorem dX6_same_73 : decode cX6_same 73 = .ok (.iconst 1, 1) := by decide +kernel
theorem dX6_same_74 : decode cX6_same 74 = .ok (.ireturn, 1) := by decide +kernel
theorem dX6_wordSort_0 : decode cX6_wordSort 0 = .ok (.aload_n 0, 1) := by decide +kernel
theorem dX6_wordSort_1 : decode cX6_wordSort 1 = .ok (.iload_n 1, 1) := by decide +kernel
theorem dX6_wordSort_2 : decode cX6_wordSort 2 = .ok (.iload_n 2, 1) := by decide +kernel
theorem dX6_wordSort_3 : decode cX6_wordSort 3 = .ok (.ldc_w 261, 3) := by decide +kernel
theorem dX6_wordSort_6 : decode cX6_wordSort 6 = .ok (.invokestatic 263, 3) := by decide +kernel
theorem dX6_wordSort_9 : decode cX6_wordSort 9 = .ok (.ifCond .eq 5, 3) := by decide +kernel
theorem dX6_wordSort_12 : decode cX6_wordSort 12 = .ok (.iconst 3, 1) := by decide +kernel
theorem dX6_wordSort_13 : decode cX6_wordSort 13 = .ok (.ireturn, 1) := by decide +kernel
theorem dX6_wordSort_14 : decode cX6_wordSort 14 = .ok (.aload_n 0, 1) := by decide +kernel
theorem dX6_wordSort_15 : decode cX6_wordSort 15 = .ok (.iload_n 1, 1) := by decide +kernel
theorem dX6_wordSort_16 : decode cX6_wordSort 16 = .ok (.iload_n 2, 1) := by decide +kernel
theorem dX6_wordSort_17 : decode cX6_wordSort 17 = .ok (.ldc_w 267, 3) := by decide +kernel
theorem dX6_wordSort_20 : decode cX6_wordSort 20 = .ok (.invokestatic 263, 3) := by decide +kernel
theorem dX6_wordSort_23 : decode cX6_wordSort 23 = .ok (.ifCond .eq 5, 3) := by decide +kernel
theorem dX6_wordSort_26 : decode cX6_wordSort 26 = .ok (.iconst 4, 1) := by decide +kernel
theorem dX6_wordSort_27 : decode cX6_wordSort 27 = .ok (.ireturn, 1) := by decide +kernel
theorem dX6_wordSort_28 : decode cX6_wordSort 28 = .ok (.aload_n 0, 1) := by decide +kernel
theorem dX6_wordSort_29 : decode cX6_wordSort 29 = .ok (.iload_n 1, 1) := by decide +kernel
theorem dX6_wordSort_30 : decode cX6_wordSort 30 = .ok (.iload_n 2, 1) := by decide +kernel
theorem dX6_wordSort_31 : decode cX6_wordSort 31 = .ok (.ldc_w 269, 3) := by decide +kernel
theorem dX6_wordSort_34 : decode cX6_wordSort 34 = .ok (.invokestatic 263, 3) := by decide +kernel
theorem dX6_wordSort_37 : decode cX6_wordSort 37 = .ok (.ifCond .eq 5, 3) := by decide +kernel
theorem dX6_wordSort_40 : decode cX6_wordSort 40 = .ok (.iconst 5, 1) := by decide +kernel
theorem dX6_wordSort_41 : decode cX6_wordSort 41 = .ok (.ireturn, 1) := by decide +kernel
theorem dX6_wordSort_42 : decode cX6_wordSort 42 = .ok (.aload_n 0, 1) := by decide +kernel
theorem dX6_wordSort_43 : decode cX6_wordSort 43 = .ok (.iload_n 1, 1) := by decide +kernel
theorem dX6_wordSort_44 : decode cX6_wordSort 44 = .ok (.iload_n 2, 1) := by decide +kernel
theorem dX6_wordSort_45 : decode cX6_wordSort 45 = .ok (.ldc_w 271, 3) := by decide +kernel
theorem dX6_wordSort_48 : decode cX6_wordSort 48 = .ok (.invokestatic 263, 3) := by decide +kernel
theorem dX6_wordSort_51 : decode cX6_wordSort 51 = .ok (.ifCond .eq 8, 3) := by decide +kernel
theorem dX6_wordSort_54 : decode cX6_wordSort 54 = .ok (.bipush 6, 2) := by decide +kernel
theorem dX6_wordSort_56 : decode cX6_wordSort 56 = .ok (.goto 4, 3) := by decide +kernel
theorem dX6_wordSort_59 : decode cX6_wordSort 59 = .ok (.iconst 1, 1) := by decide +kernel
theorem dX6_wordSort_60 : decode cX6_wordSort 60 = .ok (.ireturn, 1) := by decide +kernel
theorem dX6_spells_0 : decode cX6_spells 0 = .ok (.aload_n 3, 1) := by decide +kernel
theorem dX6_spells_1 : decode cX6_spells 1 = .ok (.invokevirtual 273, 3) := by decide +kernel
theorem dX6_spells_4 : decode cX6_spells 4 = .ok (.istore 4, 2) := by decide +kernel
theorem dX6_spells_6 : decode cX6_spells 6 = .ok (.iload_n 2, 1) := by decide +kernel
theorem dX6_spells_7 : decode cX6_spells 7 = .ok (.iload_n 1, 1) := by decide +kernel
theorem dX6_spells_8 : decode cX6_spells 8 = .ok (.isub, 1) := by decide +kernel
theorem dX6_spells_9 : decode cX6_spells 9 = .ok (.iload 4, 2) := by decide +kernel
theorem dX6_spells_11 : decode cX6_spells 11 = .ok (.if_icmp .ne 13, 3) := by decide +kernel
theorem dX6_spells_14 : decode cX6_spells 14 = .ok (.iload_n 1, 1) := by decide +kernel
theorem dX6_spells_15 : decode cX6_spells 15 = .ok (.ifCond .lt 9, 3) := by decide +kernel
theorem dX6_spells_18 : decode cX6_spells 18 = .ok (.iload_n 2, 1) := by decide +kernel
theorem dX6_spells_19 : decode cX6_spells 19 = .ok (.aload_n 0, 1) := by decide +kernel
theorem dX6_spells_20 : decode cX6_spells 20 = .ok (.arraylength, 1) := by decide +kernel
theorem dX6_spells_21 : decode cX6_spells 21 = .ok (.if_icmp .le 5, 3) := by decide +kernel
theorem dX6_spells_24 : decode cX6_spells 24 = .ok (.iconst 0, 1) := by decide +kernel
theorem dX6_spells_25 : decode cX6_spells 25 = .ok (.ireturn, 1) := by decide +kernel
theorem dX6_spells_26 : decode cX6_spells 26 = .ok (.iconst 0, 1) := by decide +kernel
theorem dX6_spells_27 : decode cX6_spells 27 = .ok (.istore 5, 2) := by decide +kernel
theorem dX6_spells_29 : decode cX6_spells 29 = .ok (.iload 5, 2) := by decide +kernel
theorem dX6_spells_31 : decode cX6_spells 31 = .ok (.iload 4, 2) := by decide +kernel
theorem dX6_spells_33 : decode cX6_spells 33 = .ok (.if_icmp .ge 26, 3) := by decide +kernel
theorem dX6_spells_36 : decode cX6_spells 36 = .ok (.aload_n 0, 1) := by decide +kernel
theorem dX6_spells_37 : decode cX6_spells 37 = .ok (.iload_n 1, 1) := by decide +kernel
theorem dX6_spells_38 : decode cX6_spells 38 = .ok (.iload 5, 2) := by decide +kernel
theorem dX6_spells_40 : decode cX6_spells 40 = .ok (.iadd, 1) := by decide +kernel
theorem dX6_spells_41 : decode cX6_spells 41 = .ok (.baload, 1) := by decide +kernel
theorem dX6_spells_42 : decode cX6_spells 42 = .ok (.aload_n 3, 1) := by decide +kernel
theorem dX6_spells_43 : decode cX6_spells 43 = .ok (.iload 5, 2) := by decide +kernel
theorem dX6_spells_45 : decode cX6_spells 45 = .ok (.invokevirtual 277, 3) := by decide +kernel
theorem dX6_spells_48 : decode cX6_spells 48 = .ok (.if_icmp .eq 5, 3) := by decide +kernel
theorem dX6_spells_51 : decode cX6_spells 51 = .ok (.iconst 0, 1) := by decide +kernel
theorem dX6_spells_52 : decode cX6_spells 52 = .ok (.ireturn, 1) := by decide +kernel
theorem dX6_spells_53 : decode cX6_spells 53 = .ok (.iinc 5 1, 3) := by decide +kernel
theorem dX6_spells_56 : decode cX6_spells 56 = .ok (.goto (-27), 3) := by decide +kernel
theorem dX6_spells_59 : decode cX6_spells 59 = .ok (.iconst 1, 1) := by decide +kernel
theorem dX6_spells_60 : decode cX6_spells 60 = .ok (.ireturn, 1) := by decide +kernel
theorem dX6_isGreat_0 : decode cX6_isGreat 0 = .ok (.iload_n 0, 1) := by decide +kernel
theorem dX6_isGreat_1 : decode cX6_isGreat 1 = .ok (.bipush 65, 2) := by decide +kernel
theorem dX6_isGreat_3 : decode cX6_isGreat 3 = .ok (.if_icmp .lt 13, 3) := by decide +kernel
theorem dX6_isGreat_6 : decode cX6_isGreat 6 = .ok (.iload_n 0, 1) := by decide +kernel
theorem dX6_isGreat_7 : decode cX6_isGreat 7 = .ok (.bipush 90, 2) := by decide +kernel
theorem dX6_isGreat_9 : decode cX6_isGreat 9 = .ok (.if_icmp .gt 7, 3) := by decide +kernel
theorem dX6_isGreat_12 : decode cX6_isGreat 12 = .ok (.iconst 1, 1) := by decide +kernel
theorem dX6_isGreat_13 : decode cX6_isGreat 13 = .ok (.goto 4, 3) := by decide +kernel
theorem dX6_isGreat_16 : decode cX6_isGreat 16 = .ok (.iconst 0, 1) := by decide +kernel
theorem dX6_isGreat_17 : decode cX6_isGreat 17 = .ok (.ireturn, 1) := by decide +kernel
theorem dX6_isSmall_0 : decode cX6_isSmall 0 = .ok (.iload_n 0, 1) := by decide +kernel
theorem dX6_isSmall_1 : decode cX6_isSmall 1 = .ok (.bipush 97, 2) := by decide +kernel
theorem dX6_isSmall_3 : decode cX6_isSmall 3 = .ok (.if_icmp .lt 13, 3) := by decide +kernel
theorem dX6_isSmall_6 : decode cX6_isSmall 6 = .ok (.iload_n 0, 1) := by decide +kernel
theorem dX6_isSmall_7 : decode cX6_isSmall 7 = .ok (.bipush 122, 2) := by decide +kernel
theorem dX6_isSmall_9 : decode cX6_isSmall 9 = .ok (.if_icmp .gt 7, 3) := by decide +kernel
theorem dX6_isSmall_12 : decode cX6_isSmall 12 = .ok (.iconst 1, 1) := by decide +kernel
theorem dX6_isSmall_13 : decode cX6_isSmall 13 = .ok (.goto 4, 3) := by decide +kernel
theorem dX6_isSmall_16 : decode cX6_isSmall 16 = .ok (.iconst 0, 1) := by decide +kernel
theorem dX6_isSmall_17 : decode cX6_isSmall 17 = .ok (.ireturn, 1) := by decide +kernel
theorem dX6_isDigit_0 : decode cX6_isDigit 0 = .ok (.iload_n 0, 1) := by decide +kernel
theorem dX6_isDigit_1 : decode cX6_isDigit 1 = .ok (.bipush 48, 2) := by decide +kernel
theorem dX6_isDigit_3 : decode cX6_isDigit 3 = .ok (.if_icmp .lt 13, 3) := by decide +kernel
theorem dX6_isDigit_6 : decode cX6_isDigit 6 = .ok (.iload_n 0, 1) := by decide +kernel
theorem dX6_isDigit_7 : decode cX6_isDigit 7 = .ok (.bipush 57, 2) := by decide +kernel
theorem dX6_isDigit_9 : decode cX6_isDigit 9 = .ok (.if_icmp .gt 7, 3) := by decide +kernel
theorem dX6_isDigit_12 : decode cX6_isDigit 12 = .ok (.iconst 1, 1) := by decide +kernel
theorem dX6_isDigit_13 : decode cX6_isDigit 13 = .ok (.goto 4, 3) := by decide +kernel
theorem dX6_isDigit_16 : decode cX6_isDigit 16 = .ok (.iconst 0, 1) := by decide +kernel
theorem dX6_isDigit_17 : decode cX6_isDigit 17 = .ok (.ireturn, 1) := by decide +kernel
theorem dX6_isOperator_0 : decode cX6_isOperator 0 = .ok (.iload_n 0, 1) := by decide +kernel
theorem dX6_isOperator_1 : decode cX6_isOperator 1 = .ok (.bipush 43, 2) := by decide +kernel
theorem dX6_isOperator_3 : decode cX6_isOperator 3 = .ok (.if_icmp .eq 15, 3) := by decide +kernel
theorem dX6_isOperator_6 : decode cX6_isOperator 6 = .ok (.iload_n 0, 1) := by decide +kernel
theorem dX6_isOperator_7 : decode cX6_isOperator 7 = .ok (.bipush 45, 2) := by decide +kernel
theorem dX6_isOperator_9 : decode cX6_isOperator 9 = .ok (.if_icmp .eq 9, 3) := by decide +kernel
theorem dX6_isOperator_12 : decode cX6_isOperator 12 = .ok (.iload_n 0, 1) := by decide +kernel
theorem dX6_isOperator_13 : decode cX6_isOperator 13 = .ok (.bipush 60, 2) := by decide +kernel
theorem dX6_isOperator_15 : decode cX6_isOperator 15 = .ok (.if_icmp .ne 7, 3) := by decide +kernel
theorem dX6_isOperator_18 : decode cX6_isOperator 18 = .ok (.iconst 1, 1) := by decide +kernel
theorem dX6_isOperator_19 : decode cX6_isOperator 19 = .ok (.goto 4, 3) := by decide +kernel
theorem dX6_isOperator_22 : decode cX6_isOperator 22 = .ok (.iconst 0, 1) := by decide +kernel
theorem dX6_isOperator_23 : decode cX6_isOperator 23 = .ok (.ireturn, 1) := by decide +kernel
end
section
theorem dX7_init_0 : decode cX7_init 0 = .ok (.aload_n 0, 1) := by decide +kernel
theorem dX7_init_1 : decode cX7_init 1 = .ok (.invokespecial 1, 3) := by decide +kernel
theorem dX7_init_4 : decode cX7_init 4 = .ok (.aload_n 0, 1) := by decide +kernel
theorem dX7_init_5 : decode cX7_init 5 = .ok (.sipush 800, 3) := by decide +kernel
theorem dX7_init_8 : decode cX7_init 8 = .ok (.newarray .int, 2) := by decide +kernel
theorem dX7_init_10 : decode cX7_init 10 = .ok (.putfield 7, 3) := by decide +kernel
theorem dX7_init_13 : decode cX7_init 13 = .ok (.aload_n 0, 1) := by decide +kernel
theorem dX7_init_14 : decode cX7_init 14 = .ok (.iconst (-1), 1) := by decide +kernel
theorem dX7_init_15 : decode cX7_init 15 = .ok (.putfield 13, 3) := by decide +kernel
theorem dX7_init_18 : decode cX7_init 18 = .ok (.aload_n 0, 1) := by decide +kernel
theorem dX7_init_19 : decode cX7_init 19 = .ok (.bipush 12, 2) := by decide +kernel
theorem dX7_init_21 : decode cX7_init 21 = .ok (.newarray .boolean, 2) := by decide +kernel
theorem dX7_init_23 : decode cX7_init 23 = .ok (.putfield 17, 3) := by decide +kernel
theorem dX7_init_26 : decode cX7_init 26 = .ok (.aload_n 0, 1) := by decide +kernel
theorem dX7_init_27 : decode cX7_init 27 = .ok (.sipush 10400, 3) := by decide +kernel
theorem dX7_init_30 : decode cX7_init 30 = .ok (.newarray .int, 2) := by decide +kernel
theorem dX7_init_32 : decode cX7_init 32 = .ok (.putfield 21, 3) := by decide +kernel
theorem dX7_init_35 : decode cX7_init 35 = .ok (.aload_n 0, 1) := by decide +kernel
theorem dX7_init_36 : decode cX7_init 36 = .ok (.bipush 13, 2) := by decide +kernel
theorem dX7_init_38 : decode cX7_init 38 = .ok (.newarray .int, 2) := by decide +kernel
theorem dX7_init_40 : decode cX7_init 40 = .ok (.putfield 24, 3) := by decide +kernel
theorem dX7_init_43 : decode cX7_init 43 = .ok (.aload_n 0, 1) := by decide +kernel
theorem dX7_init_44 : decode cX7_init 44 = .ok (.bipush 13, 2) := by decide +kernel
theorem dX7_init_46 : decode cX7_init 46 = .ok (.newarray .int, 2) := by decide +kernel
theorem dX7_init_48 : decode cX7_init 48 = .ok (.putfield 27, 3) := by decide +kernel
theorem dX7_init_51 : decode cX7_init 51 = .ok (.aload_n 0, 1) := by decide +kernel
theorem dX7_init_52 : decode cX7_init 52 = .ok (.bipush 13, 2) := by decide +kernel
theorem dX7_init_54 : decode cX7_init 54 = .ok (.newarray .int, 2) := by decide +kernel
theorem dX7_init_56 : decode cX7_init 56 = .ok (.putfield 30, 3) := by decide +kernel
theorem dX7_init_59 : decode cX7_init 59 = .ok (.aload_n 0, 1) := by decide +kernel
theorem dX7_init_60 : decode cX7_init 60 = .ok (.bipush 13, 2) := by decide +kernel
theorem dX7_init_62 : decode cX7_init 62 = .ok (.newarray .int, 2) := by decide +kernel
theorem dX7_init_64 : decode cX7_init 64 = .ok (.putfield 33, 3) := by decide +kernel
theorem dX7_init_67 : decode cX7_init 67 = .ok (.aload_n 0, 1) := by decide +kernel
theorem dX7_init_68 : decode cX7_init 68 = .ok (.sipush 2613, 3) := by decide +kernel
theorem dX7_init_71 : decode cX7_init 71 = .ok (.newarray .int, 2) := by decide +kernel
theorem dX7_init_73 : decode cX7_init 73 = .ok (.putfield 36, 3) := by decide +kernel
theorem dX7_init_76 : decode cX7_init 76 = .ok (.aload_n 0, 1) := by decide +kernel
theorem dX7_init_77 : decode cX7_init 77 = .ok (.sipush 2613, 3) := by decide +kernel
theorem dX7_init_80 : decode cX7_init 80 = .ok (.newarray .int, 2) := by decide +kernel
theorem dX7_init_82 : decode cX7_init 82 = .ok (.putfield 39, 3) := by decide +kernel
theorem dX7_init_85 : decode cX7_init 85 = .ok (.aload_n 0, 1) := by decide +kernel
theorem dX7_init_86 : decode cX7_init 86 = .ok (.sipush 2613, 3) := by decide +kernel
theorem dX7_init_89 : decode cX7_init 89 = .ok (.newarray .int, 2) := by decide +kernel
theorem dX7_init_91 : decode cX7_init 91 = .ok (.putfield 42, 3) := by decide +kernel
theorem dX7_init_94 : decode cX7_init 94 = .ok (.aload_n 0, 1) := by decide +kernel
theorem dX7_init_95 : decode cX7_init 95 = .ok (.sipush 2613, 3) := by decide +kernel
theorem dX7_init_98 : decode cX7_init 98 = .ok (.newarray .int, 2) := by decide +kernel
theorem dX7_init_100 : decode cX7_init 100 = .ok (.putfield 45, 3) := by decide +kernel
theorem dX7_init_103 : decode cX7_init 103 = .ok (.aload_n 0, 1) := by decide +kernel
theorem dX7_init_104 : decode cX7_init 104 = .ok (.sipush 2613, 3) := by decide +kernel
theorem dX7_init_107 : decode cX7_init 107 = .ok (.newarray .int, 2) := by decide +kernel
theorem dX7_init_109 : decode cX7_init 109 = .ok (.putfield 48, 3) := by decide +kernel
theorem dX7_init_112 : decode cX7_init 112 = .ok (.aload_n 0, 1) := by decide +kernel
theorem dX7_init_113 : decode cX7_init 113 = .ok (.iconst 2, 1) := by decide +kernel
theorem dX7_init_114 : decode cX7_init 114 = .ok (.newarray .int, 2) := by decide +kernel
theorem dX7_init_116 : decode cX7_init 116 = .ok (.dup, 1) := by decide +kernel
theorem dX7_init_117 : decode cX7_init 117 = .ok (.iconst 0, 1) := by decide +kernel
theorem dX7_init_118 : decode cX7_init 118 = .ok (.iconst 5, 1) := by decide +kernel
theorem dX7_init_119 : decode cX7_init 119 = .ok (.iastore, 1) := by decide +kernel
theorem dX7_init_120 : decode cX7_init 120 = .ok (.dup, 1) := by decide +kernel
theorem dX7_init_121 : decode cX7_init 121 = .ok (.iconst 1, 1) := by decide +kernel
theorem dX7_init_122 : decode cX7_init 122 = .ok (.iconst 2, 1) := by decide +kernel
theorem dX7_init_123 : decode cX7_init 123 = .ok (.iastore, 1) := by decide +kernel
theorem dX7_init_124 : decode cX7_init 124 = .ok (.putfield 51, 3) := by decide +kernel
theorem dX7_init_127 : decode cX7_init 127 = .ok (.aload_n 0, 1) := by decide +kernel
theorem dX7_init_128 : decode cX7_init 128 = .ok (.sipush 128, 3) := by decide +kernel
theorem dX7_init_131 : decode cX7_init 131 = .ok (.newarray .int, 2) := by decide +kernel
theorem dX7_init_133 : decode cX7_init 133 = .ok (.putfield 54, 3) := by decide +kernel
theorem dX7_init_136 : decode cX7_init 136 = .ok (.aload_n 0, 1) := by decide +kernel
theorem dX7_init_137 : decode cX7_init 137 = .ok (.sipush 2000, 3) := by decide +kernel
theorem dX7_init_140 : decode cX7_init 140 = .ok (.newarray .int, 2) := by decide +kernel
theorem dX7_init_142 : decode cX7_init 142 = .ok (.putfield 57, 3) := by decide +kernel
theorem dX7_init_145 : decode cX7_init 145 = .ok (.aload_n 0, 1) := by decide +kernel
theorem dX7_init_146 : decode cX7_init 146 = .ok (.iconst (-1), 1) := by decide +kernel
theorem dX7_init_147 : decode cX7_init 147 = .ok (.putfield 60, 3) := by decide +kernel
theorem dX7_init_150 : decode cX7_init 150 = .ok (.aload_n 0, 1) := by decide +kernel
theorem dX7_init_151 : decode cX7_init 151 = .ok (.sipush 2400, 3) := by decide +kernel
theorem dX7_init_154 : decode cX7_init 154 = .ok (.newarray .int, 2) := by decide +kernel
theorem dX7_init_156 : decode cX7_init 156 = .ok (.putfield 63, 3) := by decide +kernel
theorem dX7_init_159 : decode cX7_init 159 = .ok (.aload_n 0, 1) := by decide +kernel
theorem dX7_init_160 : decode cX7_init 160 = .ok (.sipush 2400, 3) := by decide +kernel
theorem dX7_init_163 : decode cX7_init 163 = .ok (.newarray .int, 2) := by decide +kernel
theorem dX7_init_165 : decode cX7_init 165 = .ok (.putfield 66, 3) := by decide +kernel
theorem dX7_init_168 : decode cX7_init 168 = .ok (.aload_n 0, 1) := by decide +kernel
theorem dX7_init_169 : decode cX7_init 169 = .ok (.sipush 9600, 3) := by decide +kernel
theorem dX7_init_172 : decode cX7_init 172 = .ok (.newarray .int, 2) := by decide +kernel
theorem dX7_init_174 : decode cX7_init 174 = .ok (.putfield 69, 3) := by decide +kernel
theorem dX7_init_177 : decode cX7_init 177 = .ok (.aload_n 0, 1) := by decide +kernel
theorem dX7_init_178 : decode cX7_init 178 = .ok (.bipush 40, 2) := by decide +kernel
theorem dX7_init_180 : decode cX7_init 180 = .ok (.newarray .int, 2) := by decide +kernel
theorem dX7_init_182 : decode cX7_init 182 = .ok (.putfield 72, 3) := by decide +kernel
theorem dX7_init_185 : decode cX7_init 185 = .ok (.aload_n 0, 1) := by decide +kernel
theorem dX7_init_186 : decode cX7_init 186 = .ok (.bipush 40, 2) := by decide +kernel
theorem dX7_init_188 : decode cX7_init 188 = .ok (.newarray .int, 2) := by decide +kernel
theorem dX7_init_190 : decode cX7_init 190 = .ok (.putfield 75, 3) := by decide +kernel
theorem dX7_init_193 : decode cX7_init 193 = .ok (.return_, 1) := by decide +kernel
theorem dX7_thrown_0 : decode cX7_thrown 0 = .ok (.aload_n 0, 1) := by decide +kernel
theorem dX7_thrown_1 : decode cX7_thrown 1 = .ok (.getfield 78, 3) := by decide +kernel
theorem dX7_thrown_4 : decode cX7_thrown 4 = .ok (.ireturn, 1) := by decide +kernel
theorem dX7_right_0 : decode cX7_right 0 = .ok (.aload_n 0, 1) := by decide +kernel
theorem dX7_right_1 : decode cX7_right 1 = .ok (.getfield 78, 3) := by decide +kernel
theorem dX7_right_4 : decode cX7_right 4 = .ok (.ifCond .ne 12, 3) := by decide +kernel
theorem dX7_right_7 : decode cX7_right 7 = .ok (.iload_n 1, 1) := by decide +kernel
theorem dX7_right_8 : decode cX7_right 8 = .ok (.ifCond .ne 8, 3) := by decide +kernel
theorem dX7_right_11 : decode cX7_right 11 = .ok (.aload_n 0, 1) := by decide +kernel
theorem dX7_right_12 : decode cX7_right 12 = .ok (.iload_n 2, 1) := by decide +kernel
theorem dX7_right_13 : decode cX7_right 13 = .ok (.putfield 78, 3) := by decide +kernel
theorem dX7_right_16 : decode cX7_right 16 = .ok (.aload_n 0, 1) := by decide +kernel
theorem dX7_right_17 : decode cX7_right 17 = .ok (.getfield 78, 3) := by decide +kernel
theorem dX7_right_20 : decode cX7_right 20 = .ok (.ifCond .ne 7, 3) := by decide +kernel
theorem dX7_right_23 : decode cX7_right 23 = .ok (.iconst 1, 1) := by decide +kernel
theorem dX7_right_24 : decode cX7_right 24 = .ok (.goto 4, 3) := by decide +kernel
theorem dX7_right_27 : decode cX7_right 27 = .ok (.iconst 0, 1) := by decide +kernel
theorem dX7_right_28 : decode cX7_right 28 = .ok (.ireturn, 1) := by decide +kernel
theorem dX7_feed_0 : decode cX7_feed 0 = .ok (.aload_n 0, 1) := by decide +kernel
theorem dX7_feed_1 : decode cX7_feed 1 = .ok (.iconst 0, 1) := by decide +kernel
theorem dX7_feed_2 : decode cX7_feed 2 = .ok (.putfield 78, 3) := by decide +kernel
theorem dX7_feed_5 : decode cX7_feed 5 = .ok (.aload_n 0, 1) := by decide +kernel
theorem dX7_feed_6 : decode cX7_feed 6 = .ok (.getfield 81, 3) := by decide +kernel
theorem dX7_feed_9 : decode cX7_feed 9 = .ok (.bipush 20, 2) := by decide +kernel
theorem dX7_feed_11 : decode cX7_feed 11 = .ok (.iadd, 1) := by decide +kernel
theorem dX7_feed_12 : decode cX7_feed 12 = .ok (.sipush 800, 3) := by decide +kernel
theorem dX7_feed_15 : decode cX7_feed 15 = .ok (.if_icmp .le 5, 3) := by decide +kernel
theorem dX7_feed_18 : decode cX7_feed 18 = .ok (.iconst (-1), 1) := by decide +kernel
theorem dX7_feed_19 : decode cX7_feed 19 = .ok (.ireturn, 1) := by decide +kernel
theorem dX7_feed_20 : decode cX7_feed 20 = .ok (.aload_n 0, 1) := by decide +kernel
theorem dX7_feed_21 : decode cX7_feed 21 = .ok (.iload_n 1, 1) := by decide +kernel
theorem dX7_feed_22 : decode cX7_feed 22 = .ok (.invokevirtual 84, 3) := by decide +kernel
theorem dX7_feed_25 : decode cX7_feed 25 = .ok (.aload_n 0, 1) := by decide +kernel
theorem dX7_feed_26 : decode cX7_feed 26 = .ok (.iload_n 2, 1) := by decide +kernel
theorem dX7_feed_27 : decode cX7_feed 27 = .ok (.invokevirtual 84, 3) := by decide +kernel
theorem dX7_feed_30 : decode cX7_feed 30 = .ok (.aload_n 0, 1) := by decide +kernel
theorem dX7_feed_31 : decode cX7_feed 31 = .ok (.iload_n 3, 1) := by decide +kernel
theorem dX7_feed_32 : decode cX7_feed 32 = .ok (.invokevirtual 84, 3) := by decide +kernel
theorem dX7_feed_35 : decode cX7_feed 35 = .ok (.aload_n 0, 1) := by decide +kernel
theorem dX7_feed_36 : decode cX7_feed 36 = .ok (.iload 4, 2) := by decide +kernel
theorem dX7_feed_38 : decode cX7_feed 38 = .ok (.invokevirtual 84, 3) := by decide +kernel
theorem dX7_feed_41 : decode cX7_feed 41 = .ok (.aload_n 0, 1) := by decide +kernel
theorem dX7_feed_42 : decode cX7_feed 42 = .ok (.iload 5, 2) := by decide +kernel
theorem dX7_feed_44 : decode cX7_feed 44 = .ok (.invokevirtual 84, 3) := by decide +kernel
theorem dX7_feed_47 : decode cX7_feed 47 = .ok (.aload_n 0, 1) := by decide +kernel
theorem dX7_feed_48 : decode cX7_feed 48 = .ok (.getfield 81, 3) := by decide +kernel
theorem dX7_feed_51 : decode cX7_feed 51 = .ok (.ireturn, 1) := by decide +kernel
theorem dX7_lays_0 : decode cX7_lays 0 = .ok (.bipush 24, 2) := by decide +kernel
theorem dX7_lays_2 : decode cX7_lays 2 = .ok (.istore_n 2, 1) := by decide +kernel
theorem dX7_lays_3 : decode cX7_lays 3 = .ok (.iload_n 2, 1) := by decide +kernel
theorem dX7_lays_4 : decode cX7_lays 4 = .ok (.ifCond .lt 35, 3) := by decide +kernel
theorem dX7_lays_7 : decode cX7_lays 7 = .ok (.aload_n 0, 1) := by decide +kernel
theorem dX7_lays_8 : decode cX7_lays 8 = .ok (.getfield 7, 3) := by decide +kernel
theorem dX7_lays_11 : decode cX7_lays 11 = .ok (.aload_n 0, 1) := by decide +kernel
theorem dX7_lays_12 : decode cX7_lays 12 = .ok (.getfield 81, 3) := by decide +kernel
theorem dX7_lays_15 : decode cX7_lays 15 = .ok (.iload_n 1, 1) := by decide +kernel
theorem dX7_lays_16 : decode cX7_lays 16 = .ok (.iload_n 2, 1) := by decide +kernel
theorem dX7_lays_17 : decode cX7_lays 17 = .ok (.ishr, 1) := by decide +kernel
theorem dX7_lays_18 : decode cX7_lays 18 = .ok (.sipush 255, 3) := by decide +kernel
theorem dX7_lays_21 : decode cX7_lays 21 = .ok (.iand, 1) := by decide +kernel
theorem dX7_lays_22 : decode cX7_lays 22 = .ok (.iastore, 1) := by decide +kernel
theorem dX7_lays_23 : decode cX7_lays 23 = .ok (.aload_n 0, 1) := by decide +kernel
theorem dX7_lays_24 : decode cX7_lays 24 = .ok (.dup, 1) := by decide +kernel
theorem dX7_lays_25 : decode cX7_lays 25 = .ok (.getfield 81, 3) := by decide +kernel
theorem dX7_lays_28 : decode cX7_lays 28 = .ok (.iconst 1, 1) := by decide +kernel
theorem dX7_lays_29 : decode cX7_lays 29 = .ok (.iadd, 1) := by decide +kernel
theorem dX7_lays_30 : decode cX7_lays 30 = .ok (.putfield 81, 3) := by decide +kernel
theorem dX7_lays_33 : decode cX7_lays 33 = .ok (.iinc 2 (-8), 3) := by decide +kernel
theorem dX7_lays_36 : decode cX7_lays 36 = .ok (.goto (-33), 3) := by decide +kernel
theorem dX7_lays_39 : decode cX7_lays 39 = .ok (.return_, 1) := by decide +kernel
theorem dX7_isLetter_0 : decode cX7_isLetter 0 = .ok (.iload_n 0, 1) := by decide +kernel
theorem dX7_isLetter_1 : decode cX7_isLetter 1 = .ok (.bipush 97, 2) := by decide +kernel
theorem dX7_isLetter_3 : decode cX7_isLetter 3 = .ok (.if_icmp .lt 9, 3) := by decide +kernel
theorem dX7_isLetter_6 : decode cX7_isLetter 6 = .ok (.iload_n 0, 1) := by decide +kernel
theorem dX7_isLetter_7 : decode cX7_isLetter 7 = .ok (.bipush 122, 2) := by decide +kernel
theorem dX7_isLetter_9 : decode cX7_isLetter 9 = .ok (.if_icmp .le 15, 3) := by decide +kernel
theorem dX7_isLetter_12 : decode cX7_isLetter 12 = .ok (.iload_n 0, 1) := by decide +kernel
theorem dX7_isLetter_13 : decode cX7_isLetter 13 = .ok (.bipush 65, 2) := by decide +kernel
theorem dX7_isLetter_15 : decode cX7_isLetter 15 = .ok (.if_icmp .lt 13, 3) := by decide +kernel
theorem dX7_isLetter_18 : decode cX7_isLetter 18 = .ok (.iload_n 0, 1) := by decide +kernel
theorem dX7_isLetter_19 : decode cX7_isLetter 19 = .ok (.bipush 90, 2) := by decide +kernel
theorem dX7_isLetter_21 : decode cX7_isLetter 21 = .ok (.if_icmp .gt 7, 3) := by decide +kernel
theorem dX7_isLetter_24 : decode cX7_isLetter 24 = .ok (.iconst 1, 1) := by decide +kernel
theorem dX7_isLetter_25 : decode cX7_isLetter 25 = .ok (.goto 4, 3) := by decide +kernel
theorem dX7_isLetter_28 : decode cX7_isLetter 28 = .ok (.iconst 0, 1) := by decide +kernel
theorem dX7_isLetter_29 : decode cX7_isLetter 29 = .ok (.ireturn, 1) := by decide +kernel
theorem dX7_isDigit_0 : decode cX7_isDigit 0 = .ok (.iload_n 0, 1) := by decide +kernel
theorem dX7_isDigit_1 : decode cX7_isDigit 1 = .ok (.bipush 48, 2) := by decide +kernel
theorem dX7_isDigit_3 : decode cX7_isDigit 3 = .ok (.if_icmp .lt 13, 3) := by decide +kernel
theorem dX7_isDigit_6 : decode cX7_isDigit 6 = .ok (.iload_n 0, 1) := by decide +kernel
theorem dX7_isDigit_7 : decode cX7_isDigit 7 = .ok (.bipush 57, 2) := by decide +kernel
theorem dX7_isDigit_9 : decode cX7_isDigit 9 = .ok (.if_icmp .gt 7, 3) := by decide +kernel
theorem dX7_isDigit_12 : decode cX7_isDigit 12 = .ok (.iconst 1, 1) := by decide +kernel
theorem dX7_isDigit_13 : decode cX7_isDigit 13 = .ok (.goto 4, 3) := by decide +kernel
theorem dX7_isDigit_16 : decode cX7_isDigit 16 = .ok (.iconst 0, 1) := by decide +kernel
theorem dX7_isDigit_17 : decode cX7_isDigit 17 = .ok (.ireturn, 1) := by decide +kernel
theorem dX7_byteAt_0 : decode cX7_byteAt 0 = .ok (.iload_n 2, 1) := by decide +kernel
theorem dX7_byteAt_1 : decode cX7_byteAt 1 = .ok (.aload_n 0, 1) := by decide +kernel
theorem dX7_byteAt_2 : decode cX7_byteAt 2 = .ok (.getfield 24, 3) := by decide +kernel
theorem dX7_byteAt_5 : decode cX7_byteAt 5 = .ok (.iload_n 1, 1) := by decide +kernel
theorem dX7_byteAt_6 : decode cX7_byteAt 6 = .ok (.iaload, 1) := by decide +kernel
theorem dX7_byteAt_7 : decode cX7_byteAt 7 = .ok (.if_icmp .ge 18, 3) := by decide +kernel
theorem dX7_byteAt_10 : decode cX7_byteAt 10 = .ok (.aload_n 0, 1) := by decide +kernel
theorem dX7_byteAt_11 : decode cX7_byteAt 11 = .ok (.getfield 21, 3) := by decide +kernel
theorem dX7_byteAt_14 : decode cX7_byteAt 14 = .ok (.sipush 800, 3) := by decide +kernel
theorem dX7_byteAt_17 : decode cX7_byteAt 17 = .ok (.iload_n 1, 1) := by decide +kernel
theorem dX7_byteAt_18 : decode cX7_byteAt 18 = .ok (.imul, 1) := by decide +kernel
theorem dX7_byteAt_19 : decode cX7_byteAt 19 = .ok (.iload_n 2, 1) := by decide +kernel
theorem dX7_byteAt_20 : decode cX7_byteAt 20 = .ok (.iadd, 1) := by decide +kernel
theorem dX7_byteAt_21 : decode cX7_byteAt 21 = .ok (.iaload, 1) := by decide +kernel
theorem dX7_byteAt_22 : decode cX7_byteAt 22 = .ok (.goto 4, 3) := by decide +kernel
theorem dX7_byteAt_25 : decode cX7_byteAt 25 = .ok (.iconst 0, 1) := by decide +kernel
theorem dX7_byteAt_26 : decode cX7_byteAt 26 = .ok (.ireturn, 1) := by decide +kernel
theorem dX7_look_0 : decode cX7_look 0 = .ok (.aload_n 0, 1) := by decide +kernel
theorem dX7_look_1 : decode cX7_look 1 = .ok (.aload_n 0, 1) := by decide +kernel
theorem dX7_look_2 : decode cX7_look 2 = .ok (.getfield 88, 3) := by decide +kernel
theorem dX7_look_5 : decode cX7_look 5 = .ok (.putfield 91, 3) := by decide +kernel
theorem dX7_look_8 : decode cX7_look 8 = .ok (.aload_n 0, 1) := by decide +kernel
theorem dX7_look_9 : decode cX7_look 9 = .ok (.getfield 91, 3) := by decide +kernel
theorem dX7_look_12 : decode cX7_look 12 = .ok (.aload_n 0, 1) := by decide +kernel
theorem dX7_look_13 : decode cX7_look 13 = .ok (.getfield 24, 3) := by decide +kernel
theorem dX7_look_16 : decode cX7_look 16 = .ok (.bipush 12, 2) := by decide +kernel
theorem dX7_look_18 : decode cX7_look 18 = .ok (.iaload, 1) := by decide +kernel
theorem dX7_look_19 : decode cX7_look 19 = .ok (.if_icmp .ge 46, 3) := by decide +kernel
theorem dX7_look_22 : decode cX7_look 22 = .ok (.aload_n 0, 1) := by decide +kernel
theorem dX7_look_23 : decode cX7_look 23 = .ok (.bipush 12, 2) := by decide +kernel
theorem dX7_look_25 : decode cX7_look 25 = .ok (.aload_n 0, 1) := by decide +kernel
theorem dX7_look_26 : decode cX7_look 26 = .ok (.getfield 91, 3) := by decide +kernel
theorem dX7_look_29 : decode cX7_look 29 = .ok (.invokevirtual 94, 3) := by decide +kernel
theorem dX7_look_32 : decode cX7_look 32 = .ok (.bipush 32, 2) := by decide +kernel
theorem dX7_look_34 : decode cX7_look 34 = .ok (.if_icmp .eq 18, 3) := by decide +kernel
theorem dX7_look_37 : decode cX7_look 37 = .ok (.aload_n 0, 1) := by decide +kernel
theorem dX7_look_38 : decode cX7_look 38 = .ok (.bipush 12, 2) := by decide +kernel
theorem dX7_look_40 : decode cX7_look 40 = .ok (.aload_n 0, 1) := by decide +kernel
theorem dX7_look_41 : decode cX7_look 41 = .ok (.getfield 91, 3) := by decide +kernel
theorem dX7_look_44 : decode cX7_look 44 = .ok (.invokevirtual 94, 3) := by decide +kernel
theorem dX7_look_47 : decode cX7_look 47 = .ok (.bipush 10, 2) := by decide +kernel
theorem dX7_look_49 : decode cX7_look 49 = .ok (.if_icmp .ne 16, 3) := by decide +kernel
theorem dX7_look_52 : decode cX7_look 52 = .ok (.aload_n 0, 1) := by decide +kernel
theorem dX7_look_53 : decode cX7_look 53 = .ok (.dup, 1) := by decide +kernel
theorem dX7_look_54 : decode cX7_look 54 = .ok (.getfield 91, 3) := by decide +kernel
theorem dX7_look_57 : decode cX7_look 57 = .ok (.iconst 1, 1) := by decide +kernel
theorem dX7_look_58 : decode cX7_look 58 = .ok (.iadd, 1) := by decide +kernel
theorem dX7_look_59 : decode cX7_look 59 = .ok (.putfield 91, 3) := by decide +kernel
theorem dX7_look_62 : decode cX7_look 62 = .ok (.goto (-54), 3) := by decide +kernel
theorem dX7_look_65 : decode cX7_look 65 = .ok (.aload_n 0, 1) := by decide +kernel
theorem dX7_look_66 : decode cX7_look 66 = .ok (.bipush 12, 2) := by decide +kernel
theorem dX7_look_68 : decode cX7_look 68 = .ok (.aload_n 0, 1) := by decide +kernel
theorem dX7_look_69 : decode cX7_look 69 = .ok (.getfield 91, 3) := by decide +kernel
theorem dX7_look_72 : decode cX7_look 72 = .ok (.invokevirtual 94, 3) := by decide +kernel
theorem dX7_look_75 : decode cX7_look 75 = .ok (.istore_n 1, 1) := by decide +kernel
theorem dX7_look_76 : decode cX7_look 76 = .ok (.aload_n 0, 1) := by decide +kernel
theorem dX7_look_77 : decode cX7_look 77 = .ok (.aload_n 0, 1) := by decide +kernel
theorem dX7_look_78 : decode cX7_look 78 = .ok (.getfield 91, 3) := by decide +kernel
theorem dX7_look_81 : decode cX7_look 81 = .ok (.aload_n 0, 1) := by decide +kernel
theorem dX7_look_82 : decode cX7_look 82 = .ok (.getfield 24, 3) := by decide +kernel
theorem dX7_look_85 : decode cX7_look 85 = .ok (.bipush 12, 2) := by decide +kernel
theorem dX7_look_87 : decode cX7_look 87 = .ok (.iaload, 1) := by decide +kernel
theorem dX7_look_88 : decode cX7_look 88 = .ok (.if_icmp .ge 7, 3) := by decide +kernel
theorem dX7_look_91 : decode cX7_look 91 = .ok (.iconst 1, 1) := by decide +kernel
theorem dX7_look_92 : decode cX7_look 92 = .ok (.goto 4, 3) := by decide +kernel
theorem dX7_look_95 : decode cX7_look 95 = .ok (.iconst 0, 1) := by decide +kernel
theorem dX7_look_96 : decode cX7_look 96 = .ok (.putfield 98, 3) := by decide +kernel
theorem dX7_look_99 : decode cX7_look 99 = .ok (.aload_n 0, 1) := by decide +kernel
theorem dX7_look_100 : decode cX7_look 100 = .ok (.getfield 98, 3) := by decide +kernel
theorem dX7_look_103 : decode cX7_look 103 = .ok (.ifCond .ne 11, 3) := by decide +kernel
theorem dX7_look_106 : decode cX7_look 106 = .ok (.aload_n 0, 1) := by decide +kernel
theorem dX7_look_107 : decode cX7_look 107 = .ok (.iconst (-1), 1) := by decide +kernel
theorem dX7_look_108 : decode cX7_look 108 = .ok (.putfield 101, 3) := by decide +kernel
theorem dX7_look_111 : decode cX7_look 111 = .ok (.goto 154, 3) := by decide +kernel
theorem dX7_look_114 : decode cX7_look 114 = .ok (.iload_n 1, 1) := by decide +kernel
theorem dX7_look_115 : decode cX7_look 115 = .ok (.invokestatic 104, 3) := by decide +kernel
theorem dX7_look_118 : decode cX7_look 118 = .ok (.ifCond .eq 83, 3) := by decide +kernel
theorem dX7_look_121 : decode cX7_look 121 = .ok (.aload_n 0, 1) := by decide +kernel
theorem dX7_look_122 : decode cX7_look 122 = .ok (.iconst 0, 1) := by decide +kernel
theorem dX7_look_123 : decode cX7_look 123 = .ok (.putfield 101, 3) := by decide +kernel
theorem dX7_look_126 : decode cX7_look 126 = .ok (.aload_n 0, 1) := by decide +kernel
theorem dX7_look_127 : decode cX7_look 127 = .ok (.bipush 12, 2) := by decide +kernel
theorem dX7_look_129 : decode cX7_look 129 = .ok (.aload_n 0, 1) := by decide +kernel
theorem dX7_look_130 : decode cX7_look 130 = .ok (.getfield 91, 3) := by decide +kernel
theorem dX7_look_133 : decode cX7_look 133 = .ok (.aload_n 0, 1) := by decide +kernel
theorem dX7_look_134 : decode cX7_look 134 = .ok (.getfield 98, 3) := by decide +kernel
theorem dX7_look_137 : decode cX7_look 137 = .ok (.iadd, 1) := by decide +kernel
theorem dX7_look_138 : decode cX7_look 138 = .ok (.invokevirtual 94, 3) := by decide +kernel
theorem dX7_look_141 : decode cX7_look 141 = .ok (.invokestatic 104, 3) := by decide +kernel
theorem dX7_look_144 : decode cX7_look 144 = .ok (.ifCond .ne 44, 3) := by decide +kernel
theorem dX7_look_147 : decode cX7_look 147 = .ok (.aload_n 0, 1) := by decide +kernel
theorem dX7_look_148 : decode cX7_look 148 = .ok (.bipush 12, 2) := by decide +kernel
theorem dX7_look_150 : decode cX7_look 150 = .ok (.aload_n 0, 1) := by decide +kernel
theorem dX7_look_151 : decode cX7_look 151 = .ok (.getfield 91, 3) := by decide +kernel
theorem dX7_look_154 : decode cX7_look 154 = .ok (.aload_n 0, 1) := by decide +kernel
theorem dX7_look_155 : decode cX7_look 155 = .ok (.getfield 98, 3) := by decide +kernel
theorem dX7_look_158 : decode cX7_look 158 = .ok (.iadd, 1) := by decide +kernel
theorem dX7_look_159 : decode cX7_look 159 = .ok (.invokevirtual 94, 3) := by decide +kernel
theorem dX7_look_162 : decode cX7_look 162 = .ok (.invokestatic 108, 3) := by decide +kernel
theorem dX7_look_165 : decode cX7_look 165 = .ok (.ifCond .ne 23, 3) := by decide +kernel
theorem dX7_look_168 : decode cX7_look 168 = .ok (.aload_n 0, 1) := by decide +kernel
theorem dX7_look_169 : decode cX7_look 169 = .ok (.bipush 12, 2) := by decide +kernel
theorem dX7_look_171 : decode cX7_look 171 = .ok (.aload_n 0, 1) := by decide +kernel
theorem dX7_look_172 : decode cX7_look 172 = .ok (.getfield 91, 3) := by decide +kernel
theorem dX7_look_175 : decode cX7_look 175 = .ok (.aload_n 0, 1) := by decide +kernel
theorem dX7_look_176 : decode cX7_look 176 = .ok (.getfield 98, 3) := by decide +kernel
theorem dX7_look_179 : decode cX7_look 179 = .ok (.iadd, 1) := by decide +kernel
theorem dX7_look_180 : decode cX7_look 180 = .ok (.invokevirtual 94, 3) := by decide +kernel
theorem dX7_look_183 : decode cX7_look 183 = .ok (.bipush 95, 2) := by decide +kernel
theorem dX7_look_185 : decode cX7_look 185 = .ok (.if_icmp .ne 80, 3) := by decide +kernel
theorem dX7_look_188 : decode cX7_look 188 = .ok (.aload_n 0, 1) := by decide +kernel
theorem dX7_look_189 : decode cX7_look 189 = .ok (.dup, 1) := by decide +kernel
theorem dX7_look_190 : decode cX7_look 190 = .ok (.getfield 98, 3) := by decide +kernel
theorem dX7_look_193 : decode cX7_look 193 = .ok (.iconst 1, 1) := by decide +kernel
theorem dX7_look_194 : decode cX7_look 194 = .ok (.iadd, 1) := by decide +kernel
theorem dX7_look_195 : decode cX7_look 195 = .ok (.putfield 98, 3) := by decide +kernel
theorem dX7_look_198 : decode cX7_look 198 = .ok (.goto (-72), 3) := by decide +kernel
theorem dX7_look_201 : decode cX7_look 201 = .ok (.iload_n 1, 1) := by decide +kernel
theorem dX7_look_202 : decode cX7_look 202 = .ok (.invokestatic 108, 3) := by decide +kernel
theorem dX7_look_205 : decode cX7_look 205 = .ok (.ifCond .eq 42, 3) := by decide +kernel
theorem dX7_look_208 : decode cX7_look 208 = .ok (.aload_n 0, 1) := by decide +kernel
theorem dX7_look_209 : decode cX7_look 209 = .ok (.iconst 1, 1) := by decide +kernel
theorem dX7_look_210 : decode cX7_look 210 = .ok (.putfield 101, 3) := by decide +kernel
theorem dX7_look_213 : decode cX7_look 213 = .ok (.aload_n 0, 1) := by decide +kernel
theorem dX7_look_214 : decode cX7_look 214 = .ok (.bipush 12, 2) := by decide +kernel
theorem dX7_look_216 : decode cX7_look 216 = .ok (.aload_n 0, 1) := by decide +kernel
theorem dX7_look_217 : decode cX7_look 217 = .ok (.getfield 91, 3) := by decide +kernel
theorem dX7_look_220 : decode cX7_look 220 = .ok (.aload_n 0, 1) := by decide +kernel
theorem dX7_look_221 : decode cX7_look 221 = .ok (.getfield 98, 3) := by decide +kernel
theorem dX7_look_224 : decode cX7_look 224 = .ok (.iadd, 1) := by decide +kernel
theorem dX7_look_225 : decode cX7_look 225 = .ok (.invokevirtual 94, 3) := by decide +kernel
theorem dX7_look_228 : decode cX7_look 228 = .ok (.invokestatic 108, 3) := by decide +kernel
theorem dX7_look_231 : decode cX7_look 231 = .ok (.ifCond .eq 34, 3) := by decide +kernel
theorem dX7_look_234 : decode cX7_look 234 = .ok (.aload_n 0, 1) := by decide +kernel
theorem dX7_look_235 : decode cX7_look 235 = .ok (.dup, 1) := by decide +kernel
theorem dX7_look_236 : decode cX7_look 236 = .ok (.getfield 98, 3) := by decide +kernel
theorem dX7_look_239 : decode cX7_look 239 = .ok (.iconst 1, 1) := by decide +kernel
theorem dX7_look_240 : decode cX7_look 240 = .ok (.iadd, 1) := by decide +kernel
theorem dX7_look_241 : decode cX7_look 241 = .ok (.putfield 98, 3) := by decide +kernel
theorem dX7_look_244 : decode cX7_look 244 = .ok (.goto (-31), 3) := by decide +kernel
theorem dX7_look_247 : decode cX7_look 247 = .ok (.aload_n 0, 1) := by decide +kernel
theorem dX7_look_248 : decode cX7_look 248 = .ok (.ldc 111, 2) := by decide +kernel
theorem dX7_look_250 : decode cX7_look 250 = .ok (.iload_n 1, 1) := by decide +kernel
theorem dX7_look_251 : decode cX7_look 251 = .ok (.invokevirtual 113, 3) := by decide +kernel
theorem dX7_look_254 : decode cX7_look 254 = .ok (.ifCond .lt 7, 3) := by decide +kernel
theorem dX7_look_257 : decode cX7_look 257 = .ok (.iconst 2, 1) := by decide +kernel
theorem dX7_look_258 : decode cX7_look 258 = .ok (.goto 4, 3) := by decide +kernel
theorem dX7_look_261 : decode cX7_look 261 = .ok (.iconst (-1), 1) := by decide +kernel
theorem dX7_look_262 : decode cX7_look 262 = .ok (.putfield 101, 3) := by decide +kernel
theorem dX7_look_265 : decode cX7_look 265 = .ok (.return_, 1) := by decide +kernel
theorem dX7_wrong_0 : decode cX7_wrong 0 = .ok (.aload_n 0, 1) := by decide +kernel
theorem dX7_wrong_1 : decode cX7_wrong 1 = .ok (.getfield 119, 3) := by decide +kernel
theorem dX7_wrong_4 : decode cX7_wrong 4 = .ok (.ifCond .ne 16, 3) := by decide +kernel
theorem dX7_wrong_7 : decode cX7_wrong 7 = .ok (.aload_n 0, 1) := by decide +kernel
theorem dX7_wrong_8 : decode cX7_wrong 8 = .ok (.iload_n 1, 1) := by decide +kernel
theorem dX7_wrong_9 : decode cX7_wrong 9 = .ok (.putfield 119, 3) := by decide +kernel
theorem dX7_wrong_12 : decode cX7_wrong 12 = .ok (.aload_n 0, 1) := by decide +kernel
theorem dX7_wrong_13 : decode cX7_wrong 13 = .ok (.aload_n 0, 1) := by decide +kernel
theorem dX7_wrong_14 : decode cX7_wrong 14 = .ok (.getfield 91, 3) := by decide +kernel
theorem dX7_wrong_17 : decode cX7_wrong 17 = .ok (.putfield 13, 3) := by decide +kernel
theorem dX7_wrong_20 : decode cX7_wrong 20 = .ok (.iconst 0, 1) := by decide +kernel
theorem dX7_wrong_21 : decode cX7_wrong 21 = .ok (.ireturn, 1) := by decide +kernel
theorem dX7_is_0 : decode cX7_is 0 = .ok (.aload_n 0, 1) := by decide +kernel
theorem dX7_is_1 : decode cX7_is 1 = .ok (.getfield 98, 3) := by decide +kernel
theorem dX7_is_4 : decode cX7_is 4 = .ok (.aload_n 1, 1) := by decide +kernel
theorem dX7_is_5 : decode cX7_is 5 = .ok (.invokevirtual 122, 3) := by decide +kernel
theorem dX7_is_8 : decode cX7_is 8 = .ok (.if_icmp .ne 7, 3) := by decide +kernel
theorem dX7_is_11 : decode cX7_is 11 = .ok (.iconst 1, 1) := by decide +kernel
theorem dX7_is_12 : decode cX7_is 12 = .ok (.goto 4, 3) := by decide +kernel
theorem dX7_is_15 : decode cX7_is 15 = .ok (.iconst 0, 1) := by decide +kernel
theorem dX7_is_16 : decode cX7_is 16 = .ok (.istore_n 2, 1) := by decide +kernel
theorem dX7_is_17 : decode cX7_is 17 = .ok (.iconst 0, 1) := by decide +kernel
theorem dX7_is_18 : decode cX7_is 18 = .ok (.istore_n 3, 1) := by decide +kernel
theorem dX7_is_19 : decode cX7_is 19 = .ok (.iload_n 3, 1) := by decide +kernel
theorem dX7_is_20 : decode cX7_is 20 = .ok (.aload_n 0, 1) := by decide +kernel
theorem dX7_is_21 : decode cX7_is 21 = .ok (.getfield 98, 3) := by decide +kernel
theorem dX7_is_24 : decode cX7_is 24 = .ok (.if_icmp .ge 39, 3) := by decide +kernel
theorem dX7_is_27 : decode cX7_is 27 = .ok (.iload_n 2, 1) := by decide +kernel
theorem dX7_is_28 : decode cX7_is 28 = .ok (.ifCond .eq 35, 3) := by decide +kernel
theorem dX7_is_31 : decode cX7_is 31 = .ok (.aload_n 0, 1) := by decide +kernel
theorem dX7_is_32 : decode cX7_is 32 = .ok (.bipush 12, 2) := by decide +kernel
theorem dX7_is_34 : decode cX7_is 34 = .ok (.aload_n 0, 1) := by decide +kernel
theorem dX7_is_35 : decode cX7_is 35 = .ok (.getfield 91, 3) := by decide +kernel
theorem dX7_is_38 : decode cX7_is 38 = .ok (.iload_n 3, 1) := by decide +kernel
theorem dX7_is_39 : decode cX7_is 39 = .ok (.iadd, 1) := by decide +kernel
theorem dX7_is_40 : decode cX7_is 40 = .ok (.invokevirtual 94, 3) := by decide +kernel
theorem dX7_is_43 : decode cX7_is 43 = .ok (.aload_n 1, 1) := by decide +kernel
theorem dX7_is_44 : decode cX7_is 44 = .ok (.iload_n 3, 1) := by decide +kernel
theorem dX7_is_45 : decode cX7_is 45 = .ok (.invokevirtual 126, 3) := by decide +kernel
theorem dX7_is_48 : decode cX7_is 48 = .ok (.if_icmp .ne 7, 3) := by decide +kernel
theorem dX7_is_51 : decode cX7_is 51 = .ok (.iconst 1, 1) := by decide +kernel
theorem dX7_is_52 : decode cX7_is 52 = .ok (.goto 4, 3) := by decide +kernel
theorem dX7_is_55 : decode cX7_is 55 = .ok (.iconst 0, 1) := by decide +kernel
theorem dX7_is_56 : decode cX7_is 56 = .ok (.istore_n 2, 1) := by decide +kernel
theorem dX7_is_57 : decode cX7_is 57 = .ok (.iinc 3 1, 3) := by decide +kernel
theorem dX7_is_60 : decode cX7_is 60 = .ok (.goto (-41), 3) := by decide +kernel
theorem dX7_is_63 : decode cX7_is 63 = .ok (.iload_n 2, 1) := by decide +kernel
theorem dX7_is_64 : decode cX7_is 64 = .ok (.ireturn, 1) := by decide +kernel
theorem dX7_isKeyword_0 : decode cX7_isKeyword 0 = .ok (.aload_n 0, 1) := by decide +kernel
theorem dX7_isKeyword_1 : decode cX7_isKeyword 1 = .ok (.ldc 130, 2) := by decide +kernel
theorem dX7_isKeyword_3 : decode cX7_isKeyword 3 = .ok (.invokevirtual 132, 3) := by decide +kernel
theorem dX7_isKeyword_6 : decode cX7_isKeyword 6 = .ok (.ifCond .ne 30, 3) := by decide +kernel
theorem dX7_isKeyword_9 : decode cX7_isKeyword 9 = .ok (.aload_n 0, 1) := by decide +kernel
theorem dX7_isKeyword_10 : decode cX7_isKeyword 10 = .ok (.ldc 136, 2) := by decide +kernel
theorem dX7_isKeyword_12 : decode cX7_isKeyword 12 = .ok (.invokevirtual 132, 3) := by decide +kernel
theorem dX7_isKeyword_15 : decode cX7_isKeyword 15 = .ok (.ifCond .ne 21, 3) := by decide +kernel
theorem dX7_isKeyword_18 : decode cX7_isKeyword 18 = .ok (.aload_n 0, 1) := by decide +kernel
theorem dX7_isKeyword_19 : decode cX7_isKeyword 19 = .ok (.ldc 138, 2) := by decide +kernel
theorem dX7_isKeyword_21 : decode cX7_isKeyword 21 = .ok (.invokevirtual 132, 3) := by decide +kernel
theorem dX7_isKeyword_24 : decode cX7_isKeyword 24 = .ok (.ifCond .ne 12, 3) := by decide +kernel
theorem dX7_isKeyword_27 : decode cX7_isKeyword 27 = .ok (.aload_n 0, 1) := by decide +kernel
theorem dX7_isKeyword_28 : decode cX7_isKeyword 28 = .ok (.ldc 140, 2) := by decide +kernel
theorem dX7_isKeyword_30 : decode cX7_isKeyword 30 = .ok (.invokevirtual 132, 3) := by decide +kernel
theorem dX7_isKeyword_33 : decode cX7_isKeyword 33 = .ok (.ifCond .eq 7, 3) := by decide +kernel
theorem dX7_isKeyword_36 : decode cX7_isKeyword 36 = .ok (.iconst 1, 1) := by decide +kernel
theorem dX7_isKeyword_37 : decode cX7_isKeyword 37 = .ok (.goto 4, 3) := by decide +kernel
theorem dX7_isKeyword_40 : decode cX7_isKeyword 40 = .ok (.iconst 0, 1) := by decide +kernel
theorem dX7_isKeyword_41 : decode cX7_isKeyword 41 = .ok (.ireturn, 1) := by decide +kernel
theorem dX7_isName_0 : decode cX7_isName 0 = .ok (.aload_n 0, 1) := by decide +kernel
theorem dX7_isName_1 : decode cX7_isName 1 = .ok (.getfield 98, 3) := by decide +kernel
theorem dX7_isName_4 : decode cX7_isName 4 = .ok (.ifCond .le 21, 3) := by decide +kernel
theorem dX7_isName_7 : decode cX7_isName 7 = .ok (.aload_n 0, 1) := by decide +kernel
theorem dX7_isName_8 : decode cX7_isName 8 = .ok (.getfield 101, 3) := by decide +kernel
theorem dX7_isName_11 : decode cX7_isName 11 = .ok (.ifCond .ne 14, 3) := by decide +kernel
theorem dX7_isName_14 : decode cX7_isName 14 = .ok (.aload_n 0, 1) := by decide +kernel
theorem dX7_isName_15 : decode cX7_isName 15 = .ok (.invokevirtual 142, 3) := by decide +kernel
theorem dX7_isName_18 : decode cX7_isName 18 = .ok (.ifCond .ne 7, 3) := by decide +kernel
theorem dX7_isName_21 : decode cX7_isName 21 = .ok (.iconst 1, 1) := by decide +kernel
theorem dX7_isName_22 : decode cX7_isName 22 = .ok (.goto 4, 3) := by decide +kernel
theorem dX7_isName_25 : decode cX7_isName 25 = .ok (.iconst 0, 1) := by decide +kernel
theorem dX7_isName_26 : decode cX7_isName 26 = .ok (.ireturn, 1) := by decide +kernel
theorem dX7_comes_0 : decode cX7_comes 0 = .ok (.aload_n 0, 1) := by decide +kernel
theorem dX7_comes_1 : decode cX7_comes 1 = .ok (.getfield 30, 3) := by decide +kernel
theorem dX7_comes_4 : decode cX7_comes 4 = .ok (.bipush 12, 2) := by decide +kernel
theorem dX7_comes_6 : decode cX7_comes 6 = .ok (.iaload, 1) := by decide +kernel
theorem dX7_comes_7 : decode cX7_comes 7 = .ok (.sipush 200, 3) := by decide +kernel
theorem dX7_comes_10 : decode cX7_comes 10 = .ok (.if_icmp .eq 36, 3) := by decide +kernel
theorem dX7_comes_13 : decode cX7_comes 13 = .ok (.aload_n 0, 1) := by decide +kernel
theorem dX7_comes_14 : decode cX7_comes 14 = .ok (.getfield 101, 3) := by decide +kernel
theorem dX7_comes_17 : decode cX7_comes 17 = .ok (.ifCond .ne 12, 3) := by decide +kernel
theorem dX7_comes_20 : decode cX7_comes 20 = .ok (.aload_n 0, 1) := by decide +kernel
theorem dX7_comes_21 : decode cX7_comes 21 = .ok (.getfield 98, 3) := by decide +kernel
theorem dX7_comes_24 : decode cX7_comes 24 = .ok (.bipush 16, 2) := by decide +kernel
theorem dX7_comes_26 : decode cX7_comes 26 = .ok (.if_icmp .gt 20, 3) := by decide +kernel
theorem dX7_comes_29 : decode cX7_comes 29 = .ok (.aload_n 0, 1) := by decide +kernel
theorem dX7_comes_30 : decode cX7_comes 30 = .ok (.getfield 101, 3) := by decide +kernel
theorem dX7_comes_33 : decode cX7_comes 33 = .ok (.iconst 1, 1) := by decide +kernel
theorem dX7_comes_34 : decode cX7_comes 34 = .ok (.if_icmp .ne 18, 3) := by decide +kernel
theorem dX7_comes_37 : decode cX7_comes 37 = .ok (.aload_n 0, 1) := by decide +kernel
theorem dX7_comes_38 : decode cX7_comes 38 = .ok (.getfield 98, 3) := by decide +kernel
theorem dX7_comes_41 : decode cX7_comes 41 = .ok (.bipush 6, 2) := by decide +kernel
theorem dX7_comes_43 : decode cX7_comes 43 = .ok (.if_icmp .le 9, 3) := by decide +kernel
theorem dX7_comes_46 : decode cX7_comes 46 = .ok (.aload_n 0, 1) := by decide +kernel
theorem dX7_comes_47 : decode cX7_comes 47 = .ok (.iconst 2, 1) := by decide +kernel
theorem dX7_comes_48 : decode cX7_comes 48 = .ok (.invokevirtual 146, 3) := by decide +kernel
theorem dX7_comes_51 : decode cX7_comes 51 = .ok (.ireturn, 1) := by decide +kernel
theorem dX7_comes_52 : decode cX7_comes 52 = .ok (.aload_n 0, 1) := by decide +kernel
theorem dX7_comes_53 : decode cX7_comes 53 = .ok (.ldc 149, 2) := by decide +kernel
theorem dX7_comes_55 : decode cX7_comes 55 = .ok (.invokevirtual 132, 3) := by decide +kernel
theorem dX7_comes_58 : decode cX7_comes 58 = .ok (.ifCond .ne 12, 3) := by decide +kernel
theorem dX7_comes_61 : decode cX7_comes 61 = .ok (.aload_n 0, 1) := by decide +kernel
theorem dX7_comes_62 : decode cX7_comes 62 = .ok (.ldc 151, 2) := by decide +kernel
theorem dX7_comes_64 : decode cX7_comes 64 = .ok (.invokevirtual 132, 3) := by decide +kernel
theorem dX7_comes_67 : decode cX7_comes 67 = .ok (.ifCond .eq 7, 3) := by decide +kernel
theorem dX7_comes_70 : decode cX7_comes 70 = .ok (.iconst 1, 1) := by decide +kernel
theorem dX7_comes_71 : decode cX7_comes 71 = .ok (.goto 4, 3) := by decide +kernel
theorem dX7_comes_74 : decode cX7_comes 74 = .ok (.iconst 0, 1) := by decide +kernel
theorem dX7_comes_75 : decode cX7_comes 75 = .ok (.istore_n 2, 1) := by decide +kernel
theorem dX7_comes_76 : decode cX7_comes 76 = .ok (.iload_n 2, 1) := by decide +kernel
theorem dX7_comes_77 : decode cX7_comes 77 = .ok (.ifCond .eq 18, 3) := by decide +kernel
theorem dX7_comes_80 : decode cX7_comes 80 = .ok (.aload_n 0, 1) := by decide +kernel
theorem dX7_comes_81 : decode cX7_comes 81 = .ok (.getfield 153, 3) := by decide +kernel
theorem dX7_comes_84 : decode cX7_comes 84 = .ok (.bipush 6, 2) := by decide +kernel
theorem dX7_comes_86 : decode cX7_comes 86 = .ok (.if_icmp .ne 9, 3) := by decide +kernel
theorem dX7_comes_89 : decode cX7_comes 89 = .ok (.aload_n 0, 1) := by decide +kernel
theorem dX7_comes_90 : decode cX7_comes 90 = .ok (.iconst 2, 1) := by decide +kernel
theorem dX7_comes_91 : decode cX7_comes 91 = .ok (.invokevirtual 146, 3) := by decide +kernel
theorem dX7_comes_94 : decode cX7_comes 94 = .ok (.ireturn, 1) := by decide +kernel
theorem dX7_comes_95 : decode cX7_comes 95 = .ok (.aload_n 0, 1) := by decide +kernel
theorem dX7_comes_96 : decode cX7_comes 96 = .ok (.ldc 156, 2) := by decide +kernel
theorem dX7_comes_98 : decode cX7_comes 98 = .ok (.invokevirtual 132, 3) := by decide +kernel
theorem dX7_comes_101 : decode cX7_comes 101 = .ok (.ifCond .eq 13, 3) := by decide +kernel
theorem dX7_comes_104 : decode cX7_comes 104 = .ok (.aload_n 0, 1) := by decide +kernel
theorem dX7_comes_105 : decode cX7_comes 105 = .ok (.dup, 1) := by decide +kernel
theorem dX7_comes_106 : decode cX7_comes 106 = .ok (.getfield 158, 3) := by decide +kernel
theorem dX7_comes_109 : decode cX7_comes 109 = .ok (.iconst 1, 1) := by decide +kernel
theorem dX7_comes_110 : decode cX7_comes 110 = .ok (.isub, 1) := by decide +kernel
theorem dX7_comes_111 : decode cX7_comes 111 = .ok (.putfield 158, 3) := by decide +kernel
theorem dX7_comes_114 : decode cX7_comes 114 = .ok (.aload_n 0, 1) := by decide +kernel
theorem dX7_comes_115 : decode cX7_comes 115 = .ok (.ldc 156, 2) := by decide +kernel
theorem dX7_comes_117 : decode cX7_comes 117 = .ok (.invokevirtual 132, 3) := by decide +kernel
theorem dX7_comes_120 : decode cX7_comes 120 = .ok (.ifCond .ne 12, 3) := by decide +kernel
theorem dX7_comes_123 : decode cX7_comes 123 = .ok (.aload_n 0, 1) := by decide +kernel
theorem dX7_comes_124 : decode cX7_comes 124 = .ok (.ldc 161, 2) := by decide +kernel
theorem dX7_comes_126 : decode cX7_comes 126 = .ok (.invokevirtual 132, 3) := by decide +kernel
theorem dX7_comes_129 : decode cX7_comes 129 = .ok (.ifCond .eq 13, 3) := by decide +kernel
theorem dX7_comes_132 : decode cX7_comes 132 = .ok (.aload_n 0, 1) := by decide +kernel
theorem dX7_comes_133 : decode cX7_comes 133 = .ok (.dup, 1) := by decide +kernel
theorem dX7_comes_134 : decode cX7_comes 134 = .ok (.getfield 153, 3) := by decide +kernel
theorem dX7_comes_137 : decode cX7_comes 137 = .ok (.iconst 1, 1) := by decide +kernel
theorem dX7_comes_138 : decode cX7_comes 138 = .ok (.isub, 1) := by decide +kernel
theorem dX7_comes_139 : decode cX7_comes 139 = .ok (.putfield 153, 3) := by decide +kernel
theorem dX7_comes_142 : decode cX7_comes 142 = .ok (.sipush 2412, 3) := by decide +kernel
theorem dX7_comes_145 : decode cX7_comes 145 = .ok (.aload_n 0, 1) := by decide +kernel
theorem dX7_comes_146 : decode cX7_comes 146 = .ok (.getfield 30, 3) := by decide +kernel
theorem dX7_comes_149 : decode cX7_comes 149 = .ok (.bipush 12, 2) := by decide +kernel
theorem dX7_comes_151 : decode cX7_comes 151 = .ok (.iaload, 1) := by decide +kernel
theorem dX7_comes_152 : decode cX7_comes 152 = .ok (.iadd, 1) := by decide +kernel
theorem dX7_comes_153 : decode cX7_comes 153 = .ok (.istore_n 3, 1) := by decide +kernel
theorem dX7_comes_154 : decode cX7_comes 154 = .ok (.aload_n 0, 1) := by decide +kernel
theorem dX7_comes_155 : decode cX7_comes 155 = .ok (.getfield 36, 3) := by decide +kernel
theorem dX7_comes_158 : decode cX7_comes 158 = .ok (.iload_n 3, 1) := by decide +kernel
theorem dX7_comes_159 : decode cX7_comes 159 = .ok (.aload_n 0, 1) := by decide +kernel
theorem dX7_comes_160 : decode cX7_comes 160 = .ok (.getfield 91, 3) := by decide +kernel
theorem dX7_comes_163 : decode cX7_comes 163 = .ok (.iastore, 1) := by decide +kernel
theorem dX7_comes_164 : decode cX7_comes 164 = .ok (.aload_n 0, 1) := by decide +kernel
theorem dX7_comes_165 : decode cX7_comes 165 = .ok (.getfield 39, 3) := by decide +kernel
theorem dX7_comes_168 : decode cX7_comes 168 = .ok (.iload_n 3, 1) := by decide +kernel
theorem dX7_comes_169 : decode cX7_comes 169 = .ok (.aload_n 0, 1) := by decide +kernel
theorem dX7_comes_170 : decode cX7_comes 170 = .ok (.getfield 98, 3) := by decide +kernel
theorem dX7_comes_173 : decode cX7_comes 173 = .ok (.iastore, 1) := by decide +kernel
theorem dX7_comes_174 : decode cX7_comes 174 = .ok (.aload_n 0, 1) := by decide +kernel
theorem dX7_comes_175 : decode cX7_comes 175 = .ok (.getfield 42, 3) := by decide +kernel
theorem dX7_comes_178 : decode cX7_comes 178 = .ok (.iload_n 3, 1) := by decide +kernel
theorem dX7_comes_179 : decode cX7_comes 179 = .ok (.aload_n 0, 1) := by decide +kernel
theorem dX7_comes_180 : decode cX7_comes 180 = .ok (.getfield 101, 3) := by decide +kernel
theorem dX7_comes_183 : decode cX7_comes 183 = .ok (.iastore, 1) := by decide +kernel
theorem dX7_comes_184 : decode cX7_comes 184 = .ok (.aload_n 0, 1) := by decide +kernel
theorem dX7_comes_185 : decode cX7_comes 185 = .ok (.getfield 45, 3) := by decide +kernel
theorem dX7_comes_188 : decode cX7_comes 188 = .ok (.iload_n 3, 1) := by decide +kernel
theorem dX7_comes_189 : decode cX7_comes 189 = .ok (.aload_n 0, 1) := by decide +kernel
theorem dX7_comes_190 : decode cX7_comes 190 = .ok (.getfield 158, 3) := by decide +kernel
theorem dX7_comes_193 : decode cX7_comes 193 = .ok (.iastore, 1) := by decide +kernel
theorem dX7_comes_194 : decode cX7_comes 194 = .ok (.aload_n 0, 1) := by decide +kernel
theorem dX7_comes_195 : decode cX7_comes 195 = .ok (.getfield 48, 3) := by decide +kernel
theorem dX7_comes_198 : decode cX7_comes 198 = .ok (.iload_n 3, 1) := by decide +kernel
theorem dX7_comes_199 : decode cX7_comes 199 = .ok (.iload_n 1, 1) := by decide +kernel
theorem dX7_comes_200 : decode cX7_comes 200 = .ok (.iastore, 1) := by decide +kernel
theorem dX7_comes_201 : decode cX7_comes 201 = .ok (.aload_n 0, 1) := by decide +kernel
theorem dX7_comes_202 : decode cX7_comes 202 = .ok (.getfield 30, 3) := by decide +kernel
theorem dX7_comes_205 : decode cX7_comes 205 = .ok (.bipush 12, 2) := by decide +kernel
theorem dX7_comes_207 : decode cX7_comes 207 = .ok (.dup2, 1) := by decide +kernel
theorem dX7_comes_208 : decode cX7_comes 208 = .ok (.iaload, 1) := by decide +kernel
theorem dX7_comes_209 : decode cX7_comes 209 = .ok (.iconst 1, 1) := by decide +kernel
theorem dX7_comes_210 : decode cX7_comes 210 = .ok (.iadd, 1) := by decide +kernel
theorem dX7_comes_211 : decode cX7_comes 211 = .ok (.iastore, 1) := by decide +kernel
theorem dX7_comes_212 : decode cX7_comes 212 = .ok (.aload_n 0, 1) := by decide +kernel
theorem dX7_comes_213 : decode cX7_comes 213 = .ok (.ldc 149, 2) := by decide +kernel
theorem dX7_comes_215 : decode cX7_comes 215 = .ok (.invokevirtual 132, 3) := by decide +kernel
theorem dX7_comes_218 : decode cX7_comes 218 = .ok (.ifCond .eq 13, 3) := by decide +kernel
theorem dX7_comes_221 : decode cX7_comes 221 = .ok (.aload_n 0, 1) := by decide +kernel
theorem dX7_comes_222 : decode cX7_comes 222 = .ok (.dup, 1) := by decide +kernel
theorem dX7_comes_223 : decode cX7_comes 223 = .ok (.getfield 158, 3) := by decide +kernel
theorem dX7_comes_226 : decode cX7_comes 226 = .ok (.iconst 1, 1) := by decide +kernel
theorem dX7_comes_227 : decode cX7_comes 227 = .ok (.iadd, 1) := by decide +kernel
theorem dX7_comes_228 : decode cX7_comes 228 = .ok (.putfield 158, 3) := by decide +kernel
theorem dX7_comes_231 : decode cX7_comes 231 = .ok (.iload_n 2, 1) := by decide +kernel
theorem dX7_comes_232 : decode cX7_comes 232 = .ok (.ifCond .eq 13, 3) := by decide +kernel
theorem dX7_comes_235 : decode cX7_comes 235 = .ok (.aload_n 0, 1) := by decide +kernel
theorem dX7_comes_236 : decode cX7_comes 236 = .ok (.dup, 1) := by decide +kernel
theorem dX7_comes_237 : decode cX7_comes 237 = .ok (.getfield 153, 3) := by decide +kernel
theorem dX7_comes_240 : decode cX7_comes 240 = .ok (.iconst 1, 1) := by decide +kernel
theorem dX7_comes_241 : decode cX7_comes 241 = .ok (.iadd, 1) := by decide +kernel
theorem dX7_comes_242 : decode cX7_comes 242 = .ok (.putfield 153, 3) := by decide +kernel
theorem dX7_comes_245 : decode cX7_comes 245 = .ok (.aload_n 0, 1) := by decide +kernel
theorem dX7_comes_246 : decode cX7_comes 246 = .ok (.aload_n 0, 1) := by decide +kernel
theorem dX7_comes_247 : decode cX7_comes 247 = .ok (.getfield 91, 3) := by decide +kernel
theorem dX7_comes_250 : decode cX7_comes 250 = .ok (.aload_n 0, 1) := by decide +kernel
theorem dX7_comes_251 : decode cX7_comes 251 = .ok (.getfield 98, 3) := by decide +kernel
theorem dX7_comes_254 : decode cX7_comes 254 = .ok (.iadd, 1) := by decide +kernel
theorem dX7_comes_255 : decode cX7_comes 255 = .ok (.putfield 88, 3) := by decide +kernel
theorem dX7_comes_258 : decode cX7_comes 258 = .ok (.aload_n 0, 1) := by decide +kernel
theorem dX7_comes_259 : decode cX7_comes 259 = .ok (.invokevirtual 163, 3) := by decide +kernel
theorem dX7_comes_262 : decode cX7_comes 262 = .ok (.iconst 1, 1) := by decide +kernel
theorem dX7_comes_263 : decode cX7_comes 263 = .ok (.ireturn, 1) := by decide +kernel
theorem dX7_need_0 : decode cX7_need 0 = .ok (.aload_n 0, 1) := by decide +kernel
theorem dX7_need_1 : decode cX7_need 1 = .ok (.aload_n 1, 1) := by decide +kernel
theorem dX7_need_2 : decode cX7_need 2 = .ok (.invokevirtual 132, 3) := by decide +kernel
theorem dX7_need_5 : decode cX7_need 5 = .ok (.ifCond .eq 11, 3) := by decide +kernel
theorem dX7_need_8 : decode cX7_need 8 = .ok (.aload_n 0, 1) := by decide +kernel
theorem dX7_need_9 : decode cX7_need 9 = .ok (.iload_n 2, 1) := by decide +kernel
theorem dX7_need_10 : decode cX7_need 10 = .ok (.invokevirtual 166, 3) := by decide +kernel
theorem dX7_need_13 : decode cX7_need 13 = .ok (.goto 8, 3) := by decide +kernel
theorem dX7_need_16 : decode cX7_need 16 = .ok (.aload_n 0, 1) := by decide +kernel
theorem dX7_need_17 : decode cX7_need 17 = .ok (.iconst 1, 1) := by decide +kernel
theorem dX7_need_18 : decode cX7_need 18 = .ok (.invokevirtual 146, 3) := by decide +kernel
theorem dX7_need_21 : decode cX7_need 21 = .ok (.ireturn, 1) := by decide +kernel
theorem dX7_name_0 : decode cX7_name 0 = .ok (.aload_n 0, 1) := by decide +kernel
theorem dX7_name_1 : decode cX7_name 1 = .ok (.invokevirtual 169, 3) := by decide +kernel
theorem dX7_name_4 : decode cX7_name 4 = .ok (.ifCond .eq 11, 3) := by decide +kernel
theorem dX7_name_7 : decode cX7_name 7 = .ok (.aload_n 0, 1) := by decide +kernel
theorem dX7_name_8 : decode cX7_name 8 = .ok (.iload_n 1, 1) := by decide +kernel
theorem dX7_name_9 : decode cX7_name 9 = .ok (.invokevirtual 166, 3) := by decide +kernel
theorem dX7_name_12 : decode cX7_name 12 = .ok (.goto 8, 3) := by decide +kernel
theorem dX7_name_15 : decode cX7_name 15 = .ok (.aload_n 0, 1) := by decide +kernel
theorem dX7_name_16 : decode cX7_name 16 = .ok (.iconst 1, 1) := by decide +kernel
theorem dX7_name_17 : decode cX7_name 17 = .ok (.invokevirtual 146, 3) := by decide +kernel
theorem dX7_name_20 : decode cX7_name 20 = .ok (.ireturn, 1) := by decide +kernel
theorem dX7_part_0 : decode cX7_part 0 = .ok (.aload_n 0, 1) := by decide +kernel
theorem dX7_part_1 : decode cX7_part 1 = .ok (.invokevirtual 169, 3) := by decide +kernel
theorem dX7_part_4 : decode cX7_part 4 = .ok (.ifCond .ne 18, 3) := by decide +kernel
theorem dX7_part_7 : decode cX7_part 7 = .ok (.aload_n 0, 1) := by decide +kernel
theorem dX7_part_8 : decode cX7_part 8 = .ok (.getfield 98, 3) := by decide +kernel
theorem dX7_part_11 : decode cX7_part 11 = .ok (.ifCond .le 17, 3) := by decide +kernel
theorem dX7_part_14 : decode cX7_part 14 = .ok (.aload_n 0, 1) := by decide +kernel
theorem dX7_part_15 : decode cX7_part 15 = .ok (.getfield 101, 3) := by decide +kernel
theorem dX7_part_18 : decode cX7_part 18 = .ok (.iconst 1, 1) := by decide +kernel
theorem dX7_part_19 : decode cX7_part 19 = .ok (.if_icmp .ne 9, 3) := by decide +kernel
theorem dX7_part_22 : decode cX7_part 22 = .ok (.aload_n 0, 1) := by decide +kernel
theorem dX7_part_23 : decode cX7_part 23 = .ok (.iload_n 1, 1) := by decide +kernel
theorem dX7_part_24 : decode cX7_part 24 = .ok (.invokevirtual 166, 3) := by decide +kernel
theorem dX7_part_27 : decode cX7_part 27 = .ok (.ireturn, 1) := by decide +kernel
theorem dX7_part_28 : decode cX7_part 28 = .ok (.aload_n 0, 1) := by decide +kernel
theorem dX7_part_29 : decode cX7_part 29 = .ok (.ldc 151, 2) := by decide +kernel
theorem dX7_part_31 : decode cX7_part 31 = .ok (.iload_n 1, 1) := by decide +kernel
theorem dX7_part_32 : decode cX7_part 32 = .ok (.invokevirtual 172, 3) := by decide +kernel
theorem dX7_part_35 : decode cX7_part 35 = .ok (.ifCond .eq 25, 3) := by decide +kernel
theorem dX7_part_38 : decode cX7_part 38 = .ok (.aload_n 0, 1) := by decide +kernel
theorem dX7_part_39 : decode cX7_part 39 = .ok (.iload_n 1, 1) := by decide +kernel
theorem dX7_part_40 : decode cX7_part 40 = .ok (.invokevirtual 176, 3) := by decide +kernel
theorem dX7_part_43 : decode cX7_part 43 = .ok (.ifCond .eq 17, 3) := by decide +kernel
theorem dX7_part_46 : decode cX7_part 46 = .ok (.aload_n 0, 1) := by decide +kernel
theorem dX7_part_47 : decode cX7_part 47 = .ok (.ldc 161, 2) := by decide +kernel
theorem dX7_part_49 : decode cX7_part 49 = .ok (.iload_n 1, 1) := by decide +kernel
theorem dX7_part_50 : decode cX7_part 50 = .ok (.invokevirtual 172, 3) := by decide +kernel
theorem dX7_part_53 : decode cX7_part 53 = .ok (.ifCond .eq 7, 3) := by decide +kernel
theorem dX7_part_56 : decode cX7_part 56 = .ok (.iconst 1, 1) := by decide +kernel
theorem dX7_part_57 : decode cX7_part 57 = .ok (.goto 4, 3) := by decide +kernel
theorem dX7_part_60 : decode cX7_part 60 = .ok (.iconst 0, 1) := by decide +kernel
theorem dX7_part_61 : decode cX7_part 61 = .ok (.ireturn, 1) := by decide +kernel
theorem dX7_expr_0 : decode cX7_expr 0 = .ok (.aload_n 0, 1) := by decide +kernel
theorem dX7_expr_1 : decode cX7_expr 1 = .ok (.iload_n 1, 1) := by decide +kernel
theorem dX7_expr_2 : decode cX7_expr 2 = .ok (.invokevirtual 179, 3) := by decide +kernel
theorem dX7_expr_5 : decode cX7_expr 5 = .ok (.ifCond .ne 5, 3) := by decide +kernel
theorem dX7_expr_8 : decode cX7_expr 8 = .ok (.iconst 0, 1) := by decide +kernel
theorem dX7_expr_9 : decode cX7_expr 9 = .ok (.ireturn, 1) := by decide +kernel
theorem dX7_expr_10 : decode cX7_expr 10 = .ok (.aload_n 0, 1) := by decide +kernel
theorem dX7_expr_11 : decode cX7_expr 11 = .ok (.ldc 182, 2) := by decide +kernel
theorem dX7_expr_13 : decode cX7_expr 13 = .ok (.invokevirtual 132, 3) := by decide +kernel
theorem dX7_expr_16 : decode cX7_expr 16 = .ok (.ifCond .ne 21, 3) := by decide +kernel
theorem dX7_expr_19 : decode cX7_expr 19 = .ok (.aload_n 0, 1) := by decide +kernel
theorem dX7_expr_20 : decode cX7_expr 20 = .ok (.ldc 184, 2) := by decide +kernel
theorem dX7_expr_22 : decode cX7_expr 22 = .ok (.invokevirtual 132, 3) := by decide +kernel
theorem dX7_expr_25 : decode cX7_expr 25 = .ok (.ifCond .ne 12, 3) := by decide +kernel
theorem dX7_expr_28 : decode cX7_expr 28 = .ok (.aload_n 0, 1) := by decide +kernel
theorem dX7_expr_29 : decode cX7_expr 29 = .ok (.ldc 186, 2) := by decide +kernel
theorem dX7_expr_31 : decode cX7_expr 31 = .ok (.invokevirtual 132, 3) := by decide +kernel
theorem dX7_expr_34 : decode cX7_expr 34 = .ok (.ifCond .eq 21, 3) := by decide +kernel
theorem dX7_expr_37 : decode cX7_expr 37 = .ok (.aload_n 0, 1) := by decide +kernel
theorem dX7_expr_38 : decode cX7_expr 38 = .ok (.iload_n 1, 1) := by decide +kernel
theorem dX7_expr_39 : decode cX7_expr 39 = .ok (.invokevirtual 166, 3) := by decide +kernel
theorem dX7_expr_42 : decode cX7_expr 42 = .ok (.ifCond .eq 11, 3) := by decide +kernel
theorem dX7_expr_45 : decode cX7_expr 45 = .ok (.aload_n 0, 1) := by decide +kernel
theorem dX7_expr_46 : decode cX7_expr 46 = .ok (.iload_n 1, 1) := by decide +kernel
theorem dX7_expr_47 : decode cX7_expr 47 = .ok (.invokevirtual 179, 3) := by decide +kernel
theorem dX7_expr_50 : decode cX7_expr 50 = .ok (.ifCond .ne (-40), 3) := by decide +kernel
theorem dX7_expr_53 : decode cX7_expr 53 = .ok (.iconst 0, 1) := by decide +kernel
theorem dX7_expr_54 : decode cX7_expr 54 = .ok (.ireturn, 1) := by decide +kernel
theorem dX7_expr_55 : decode cX7_expr 55 = .ok (.iconst 1, 1) := by decide +kernel
theorem dX7_expr_56 : decode cX7_expr 56 = .ok (.ireturn, 1) := by decide +kernel
theorem dX7_block_0 : decode cX7_block 0 = .ok (.aload_n 0, 1) := by decide +kernel
theorem dX7_block_1 : decode cX7_block 1 = .ok (.ldc 149, 2) := by decide +kernel
theorem dX7_block_3 : decode cX7_block 3 = .ok (.iload_n 1, 1) := by decide +kernel
theorem dX7_block_4 : decode cX7_block 4 = .ok (.invokevirtual 172, 3) := by decide +kernel
theorem dX7_block_7 : decode cX7_block 7 = .ok (.ifCond .ne 5, 3) := by decide +kernel
theorem dX7_block_10 : decode cX7_block 10 = .ok (.iconst 0, 1) := by decide +kernel
theorem dX7_block_11 : decode cX7_block 11 = .ok (.ireturn, 1) := by decide +kernel
theorem dX7_block_12 : decode cX7_block 12 = .ok (.aload_n 0, 1) := by decide +kernel
theorem dX7_block_13 : decode cX7_block 13 = .ok (.ldc 156, 2) := by decide +kernel
theorem dX7_block_15 : decode cX7_block 15 = .ok (.invokevirtual 132, 3) := by decide +kernel
theorem dX7_block_18 : decode cX7_block 18 = .ok (.ifCond .ne 12, 3) := by decide +kernel
theorem dX7_block_21 : decode cX7_block 21 = .ok (.aload_n 0, 1) := by decide +kernel
theorem dX7_block_22 : decode cX7_block 22 = .ok (.invokevirtual 188, 3) := by decide +kernel
theorem dX7_block_25 : decode cX7_block 25 = .ok (.ifCond .ne (-13), 3) := by decide +kernel
theorem dX7_block_28 : decode cX7_block 28 = .ok (.iconst 0, 1) := by decide +kernel
theorem dX7_block_29 : decode cX7_block 29 = .ok (.ireturn, 1) := by decide +kernel
theorem dX7_block_30 : decode cX7_block 30 = .ok (.aload_n 0, 1) := by decide +kernel
theorem dX7_block_31 : decode cX7_block 31 = .ok (.iload_n 1, 1) := by decide +kernel
theorem dX7_block_32 : decode cX7_block 32 = .ok (.invokevirtual 166, 3) := by decide +kernel
theorem dX7_block_35 : decode cX7_block 35 = .ok (.ireturn, 1) := by decide +kernel
theorem dX7_call_0 : decode cX7_call 0 = .ok (.aload_n 0, 1) := by decide +kernel
theorem dX7_call_1 : decode cX7_call 1 = .ok (.iconst 1, 1) := by decide +kernel
theorem dX7_call_2 : decode cX7_call 2 = .ok (.invokevirtual 166, 3) := by decide +kernel
theorem dX7_call_5 : decode cX7_call 5 = .ok (.ifCond .eq 21, 3) := by decide +kernel
theorem dX7_call_8 : decode cX7_call 8 = .ok (.aload_n 0, 1) := by decide +kernel
theorem dX7_call_9 : decode cX7_call 9 = .ok (.iconst 1, 1) := by decide +kernel
theorem dX7_call_10 : decode cX7_call 10 = .ok (.invokevirtual 191, 3) := by decide +kernel
theorem dX7_call_13 : decode cX7_call 13 = .ok (.ifCond .eq 13, 3) := by decide +kernel
theorem dX7_call_16 : decode cX7_call 16 = .ok (.aload_n 0, 1) := by decide +kernel
theorem dX7_call_17 : decode cX7_call 17 = .ok (.ldc 151, 2) := by decide +kernel
theorem dX7_call_19 : decode cX7_call 19 = .ok (.iconst 1, 1) := by decide +kernel
theorem dX7_call_20 : decode cX7_call 20 = .ok (.invokevirtual 172, 3) := by decide +kernel
theorem dX7_call_23 : decode cX7_call 23 = .ok (.ifCond .ne 5, 3) := by decide +kernel
theorem dX7_call_26 : decode cX7_call 26 = .ok (.iconst 0, 1) := by decide +kernel
theorem dX7_call_27 : decode cX7_call 27 = .ok (.ireturn, 1) := by decide +kernel
theorem dX7_call_28 : decode cX7_call 28 = .ok (.aload_n 0, 1) := by decide +kernel
theorem dX7_call_29 : decode cX7_call 29 = .ok (.ldc 161, 2) := by decide +kernel
theorem dX7_call_31 : decode cX7_call 31 = .ok (.invokevirtual 132, 3) := by decide +kernel
theorem dX7_call_34 : decode cX7_call 34 = .ok (.ifCond .ne 40, 3) := by decide +kernel
theorem dX7_call_37 : decode cX7_call 37 = .ok (.aload_n 0, 1) := by decide +kernel
theorem dX7_call_38 : decode cX7_call 38 = .ok (.iconst 1, 1) := by decide +kernel
theorem dX7_call_39 : decode cX7_call 39 = .ok (.invokevirtual 176, 3) := by decide +kernel
theorem dX7_call_42 : decode cX7_call 42 = .ok (.ifCond .ne 5, 3) := by decide +kernel
theorem dX7_call_45 : decode cX7_call 45 = .ok (.iconst 0, 1) := by decide +kernel
theorem dX7_call_46 : decode cX7_call 46 = .ok (.ireturn, 1) := by decide +kernel
theorem dX7_call_47 : decode cX7_call 47 = .ok (.aload_n 0, 1) := by decide +kernel
theorem dX7_call_48 : decode cX7_call 48 = .ok (.ldc 194, 2) := by decide +kernel
theorem dX7_call_50 : decode cX7_call 50 = .ok (.invokevirtual 132, 3) := by decide +kernel
theorem dX7_call_53 : decode cX7_call 53 = .ok (.ifCond .eq 21, 3) := by decide +kernel
theorem dX7_call_56 : decode cX7_call 56 = .ok (.aload_n 0, 1) := by decide +kernel
theorem dX7_call_57 : decode cX7_call 57 = .ok (.iconst 1, 1) := by decide +kernel
theorem dX7_call_58 : decode cX7_call 58 = .ok (.invokevirtual 166, 3) := by decide +kernel
theorem dX7_call_61 : decode cX7_call 61 = .ok (.ifCond .eq 11, 3) := by decide +kernel
theorem dX7_call_64 : decode cX7_call 64 = .ok (.aload_n 0, 1) := by decide +kernel
theorem dX7_call_65 : decode cX7_call 65 = .ok (.iconst 1, 1) := by decide +kernel
theorem dX7_call_66 : decode cX7_call 66 = .ok (.invokevirtual 176, 3) := by decide +kernel
theorem dX7_call_69 : decode cX7_call 69 = .ok (.ifCond .ne (-22), 3) := by decide +kernel
theorem dX7_call_72 : decode cX7_call 72 = .ok (.iconst 0, 1) := by decide +kernel
theorem dX7_call_73 : decode cX7_call 73 = .ok (.ireturn, 1) := by decide +kernel
theorem dX7_call_74 : decode cX7_call 74 = .ok (.aload_n 0, 1) := by decide +kernel
theorem dX7_call_75 : decode cX7_call 75 = .ok (.ldc 161, 2) := by decide +kernel
theorem dX7_call_77 : decode cX7_call 77 = .ok (.iconst 1, 1) := by decide +kernel
theorem dX7_call_78 : decode cX7_call 78 = .ok (.invokevirtual 172, 3) := by decide +kernel
theorem dX7_call_81 : decode cX7_call 81 = .ok (.ifCond .eq 17, 3) := by decide +kernel
theorem dX7_call_84 : decode cX7_call 84 = .ok (.aload_n 0, 1) := by decide +kernel
theorem dX7_call_85 : decode cX7_call 85 = .ok (.ldc 196, 2) := by decide +kernel
theorem dX7_call_87 : decode cX7_call 87 = .ok (.iconst 1, 1) := by decide +kernel
theorem dX7_call_88 : decode cX7_call 88 = .ok (.invokevirtual 172, 3) := by decide +kernel
theorem dX7_call_91 : decode cX7_call 91 = .ok (.ifCond .eq 7, 3) := by decide +kernel
theorem dX7_call_94 : decode cX7_call 94 = .ok (.iconst 1, 1) := by decide +kernel
theorem dX7_call_95 : decode cX7_call 95 = .ok (.goto 4, 3) := by decide +kernel
theorem dX7_call_98 : decode cX7_call 98 = .ok (.iconst 0, 1) := by decide +kernel
theorem dX7_call_99 : decode cX7_call 99 = .ok (.ireturn, 1) := by decide +kernel
theorem dX7_statement_0 : decode cX7_statement 0 = .ok (.aload_n 0, 1) := by decide +kernel
theorem dX7_statement_1 : decode cX7_statement 1 = .ok (.ldc 140, 2) := by decide +kernel
theorem dX7_statement_3 : decode cX7_statement 3 = .ok (.invokevirtual 132, 3) := by decide +kernel
theorem dX7_statement_6 : decode cX7_statement 6 = .ok (.ifCond .eq 19, 3) := by decide +kernel
theorem dX7_statement_9 : decode cX7_statement 9 = .ok (.aload_n 0, 1) := by decide +kernel
theorem dX7_statement_10 : decode cX7_statement 10 = .ok (.getfield 33, 3) := by decide +kernel
theorem dX7_statement_13 : decode cX7_statement 13 = .ok (.bipush 12, 2) := by decide +kernel
theorem dX7_statement_15 : decode cX7_statement 15 = .ok (.dup2, 1) := by decide +kernel
theorem dX7_statement_16 : decode cX7_statement 16 = .ok (.iaload, 1) := by decide +kernel
theorem dX7_statement_17 : decode cX7_statement 17 = .ok (.iconst 1, 1) := by decide +kernel
theorem dX7_statement_18 : decode cX7_statement 18 = .ok (.iadd, 1) := by decide +kernel
theorem dX7_statement_19 : decode cX7_statement 19 = .ok (.iastore, 1) := by decide +kernel
theorem dX7_statement_20 : decode cX7_statement 20 = .ok (.aload_n 0, 1) := by decide +kernel
theorem dX7_statement_21 : decode cX7_statement 21 = .ok (.invokevirtual 198, 3) := by decide +kernel
theorem dX7_statement_24 : decode cX7_statement 24 = .ok (.ireturn, 1) := by decide +kernel
theorem dX7_statement_25 : decode cX7_statement 25 = .ok (.aload_n 0, 1) := by decide +kernel
theorem dX7_statement_26 : decode cX7_statement 26 = .ok (.ldc 138, 2) := by decide +kernel
theorem dX7_statement_28 : decode cX7_statement 28 = .ok (.invokevirtual 132, 3) := by decide +kernel
theorem dX7_statement_31 : decode cX7_statement 31 = .ok (.ifCond .eq 44, 3) := by decide +kernel
theorem dX7_statement_34 : decode cX7_statement 34 = .ok (.aload_n 0, 1) := by decide +kernel
theorem dX7_statement_35 : decode cX7_statement 35 = .ok (.getfield 33, 3) := by decide +kernel
theorem dX7_statement_38 : decode cX7_statement 38 = .ok (.bipush 12, 2) := by decide +kernel
theorem dX7_statement_40 : decode cX7_statement 40 = .ok (.dup2, 1) := by decide +kernel
theorem dX7_statement_41 : decode cX7_statement 41 = .ok (.iaload, 1) := by decide +kernel
theorem dX7_statement_42 : decode cX7_statement 42 = .ok (.iconst 1, 1) := by decide +kernel
theorem dX7_statement_43 : decode cX7_statement 43 = .ok (.iadd, 1) := by decide +kernel
theorem dX7_statement_44 : decode cX7_statement 44 = .ok (.iastore, 1) := by decide +kernel
theorem dX7_statement_45 : decode cX7_statement 45 = .ok (.aload_n 0, 1) := by decide +kernel
theorem dX7_statement_46 : decode cX7_statement 46 = .ok (.iconst 3, 1) := by decide +kernel
theorem dX7_statement_47 : decode cX7_statement 47 = .ok (.invokevirtual 166, 3) := by decide +kernel
theorem dX7_statement_50 : decode cX7_statement 50 = .ok (.ifCond .eq 23, 3) := by decide +kernel
theorem dX7_statement_53 : decode cX7_statement 53 = .ok (.aload_n 0, 1) := by decide +kernel
theorem dX7_statement_54 : decode cX7_statement 54 = .ok (.iconst 3, 1) := by decide +kernel
theorem dX7_statement_55 : decode cX7_statement 55 = .ok (.invokevirtual 176, 3) := by decide +kernel
theorem dX7_statement_58 : decode cX7_statement 58 = .ok (.ifCond .eq 15, 3) := by decide +kernel
theorem dX7_statement_61 : decode cX7_statement 61 = .ok (.aload_n 0, 1) := by decide +kernel
theorem dX7_statement_62 : decode cX7_statement 62 = .ok (.iconst 3, 1) := by decide +kernel
theorem dX7_statement_63 : decode cX7_statement 63 = .ok (.invokevirtual 200, 3) := by decide +kernel
theorem dX7_statement_66 : decode cX7_statement 66 = .ok (.ifCond .eq 7, 3) := by decide +kernel
theorem dX7_statement_69 : decode cX7_statement 69 = .ok (.iconst 1, 1) := by decide +kernel
theorem dX7_statement_70 : decode cX7_statement 70 = .ok (.goto 4, 3) := by decide +kernel
theorem dX7_statement_73 : decode cX7_statement 73 = .ok (.iconst 0, 1) := by decide +kernel
theorem dX7_statement_74 : decode cX7_statement 74 = .ok (.ireturn, 1) := by decide +kernel
theorem dX7_statement_75 : decode cX7_statement 75 = .ok (.aload_n 0, 1) := by decide +kernel
theorem dX7_statement_76 : decode cX7_statement 76 = .ok (.ldc 130, 2) := by decide +kernel
theorem dX7_statement_78 : decode cX7_statement 78 = .ok (.invokevirtual 132, 3) := by decide +kernel
theorem dX7_statement_81 : decode cX7_statement 81 = .ok (.ifCond .eq 71, 3) := by decide +kernel
theorem dX7_statement_84 : decode cX7_statement 84 = .ok (.aload_n 0, 1) := by decide +kernel
theorem dX7_statement_85 : decode cX7_statement 85 = .ok (.getfield 33, 3) := by decide +kernel
theorem dX7_statement_88 : decode cX7_statement 88 = .ok (.bipush 12, 2) := by decide +kernel
theorem dX7_statement_90 : decode cX7_statement 90 = .ok (.dup2, 1) := by decide +kernel
theorem dX7_statement_91 : decode cX7_statement 91 = .ok (.iaload, 1) := by decide +kernel
theorem dX7_statement_92 : decode cX7_statement 92 = .ok (.iconst 1, 1) := by decide +kernel
theorem dX7_statement_93 : decode cX7_statement 93 = .ok (.iadd, 1) := by decide +kernel
theorem dX7_statement_94 : decode cX7_statement 94 = .ok (.iastore, 1) := by decide +kernel
theorem dX7_statement_95 : decode cX7_statement 95 = .ok (.aload_n 0, 1) := by decide +kernel
theorem dX7_statement_96 : decode cX7_statement 96 = .ok (.iconst 2, 1) := by decide +kernel
theorem dX7_statement_97 : decode cX7_statement 97 = .ok (.invokevirtual 166, 3) := by decide +kernel
theorem dX7_statement_100 : decode cX7_statement 100 = .ok (.ifCond .eq 19, 3) := by decide +kernel
theorem dX7_statement_103 : decode cX7_statement 103 = .ok (.aload_n 0, 1) := by decide +kernel
theorem dX7_statement_104 : decode cX7_statement 104 = .ok (.iconst 2, 1) := by decide +kernel
theorem dX7_statement_105 : decode cX7_statement 105 = .ok (.invokevirtual 176, 3) := by decide +kernel
theorem dX7_statement_108 : decode cX7_statement 108 = .ok (.ifCond .eq 11, 3) := by decide +kernel
theorem dX7_statement_111 : decode cX7_statement 111 = .ok (.aload_n 0, 1) := by decide +kernel
theorem dX7_statement_112 : decode cX7_statement 112 = .ok (.iconst 2, 1) := by decide +kernel
theorem dX7_statement_113 : decode cX7_statement 113 = .ok (.invokevirtual 200, 3) := by decide +kernel
theorem dX7_statement_116 : decode cX7_statement 116 = .ok (.ifCond .ne 5, 3) := by decide +kernel
theorem dX7_statement_119 : decode cX7_statement 119 = .ok (.iconst 0, 1) := by decide +kernel
theorem dX7_statement_120 : decode cX7_statement 120 = .ok (.ireturn, 1) := by decide +kernel
theorem dX7_statement_121 : decode cX7_statement 121 = .ok (.aload_n 0, 1) := by decide +kernel
theorem dX7_statement_122 : decode cX7_statement 122 = .ok (.ldc 136, 2) := by decide +kernel
theorem dX7_statement_124 : decode cX7_statement 124 = .ok (.invokevirtual 132, 3) := by decide +kernel
theorem dX7_statement_127 : decode cX7_statement 127 = .ok (.ifCond .eq 19, 3) := by decide +kernel
theorem dX7_statement_130 : decode cX7_statement 130 = .ok (.aload_n 0, 1) := by decide +kernel
theorem dX7_statement_131 : decode cX7_statement 131 = .ok (.iconst 2, 1) := by decide +kernel
theorem dX7_statement_132 : decode cX7_statement 132 = .ok (.invokevirtual 166, 3) := by decide +kernel
theorem dX7_statement_135 : decode cX7_statement 135 = .ok (.ifCond .eq 15, 3) := by decide +kernel
theorem dX7_statement_138 : decode cX7_statement 138 = .ok (.aload_n 0, 1) := by decide +kernel
theorem dX7_statement_139 : decode cX7_statement 139 = .ok (.iconst 2, 1) := by decide +kernel
theorem dX7_statement_140 : decode cX7_statement 140 = .ok (.invokevirtual 200, 3) := by decide +kernel
theorem dX7_statement_143 : decode cX7_statement 143 = .ok (.ifCond .eq 7, 3) := by decide +kernel
theorem dX7_statement_146 : decode cX7_statement 146 = .ok (.iconst 1, 1) := by decide +kernel
theorem dX7_statement_147 : decode cX7_statement 147 = .ok (.goto 4, 3) := by decide +kernel
theorem dX7_statement_150 : decode cX7_statement 150 = .ok (.iconst 0, 1) := by decide +kernel
theorem dX7_statement_151 : decode cX7_statement 151 = .ok (.ireturn, 1) := by decide +kernel
theorem dX7_statement_152 : decode cX7_statement 152 = .ok (.aload_n 0, 1) := by decide +kernel
theorem dX7_statement_153 : decode cX7_statement 153 = .ok (.invokevirtual 169, 3) := by decide +kernel
theorem dX7_statement_156 : decode cX7_statement 156 = .ok (.ifCond .ne 9, 3) := by decide +kernel
theorem dX7_statement_159 : decode cX7_statement 159 = .ok (.aload_n 0, 1) := by decide +kernel
theorem dX7_statement_160 : decode cX7_statement 160 = .ok (.iconst 1, 1) := by decide +kernel
theorem dX7_statement_161 : decode cX7_statement 161 = .ok (.invokevirtual 146, 3) := by decide +kernel
theorem dX7_statement_164 : decode cX7_statement 164 = .ok (.ireturn, 1) := by decide +kernel
theorem dX7_statement_165 : decode cX7_statement 165 = .ok (.aload_n 0, 1) := by decide +kernel
theorem dX7_statement_166 : decode cX7_statement 166 = .ok (.getfield 33, 3) := by decide +kernel
theorem dX7_statement_169 : decode cX7_statement 169 = .ok (.bipush 12, 2) := by decide +kernel
theorem dX7_statement_171 : decode cX7_statement 171 = .ok (.dup2, 1) := by decide +kernel
theorem dX7_statement_172 : decode cX7_statement 172 = .ok (.iaload, 1) := by decide +kernel
theorem dX7_statement_173 : decode cX7_statement 173 = .ok (.iconst 1, 1) := by decide +kernel
theorem dX7_statement_174 : decode cX7_statement 174 = .ok (.iadd, 1) := by decide +kernel
theorem dX7_statement_175 : decode cX7_statement 175 = .ok (.iastore, 1) := by decide +kernel
theorem dX7_statement_176 : decode cX7_statement 176 = .ok (.aload_n 0, 1) := by decide +kernel
theorem dX7_statement_177 : decode cX7_statement 177 = .ok (.iconst 0, 1) := by decide +kernel
theorem dX7_statement_178 : decode cX7_statement 178 = .ok (.invokevirtual 166, 3) := by decide +kernel
theorem dX7_statement_181 : decode cX7_statement 181 = .ok (.ifCond .eq 35, 3) := by decide +kernel
theorem dX7_statement_184 : decode cX7_statement 184 = .ok (.aload_n 0, 1) := by decide +kernel
theorem dX7_statement_185 : decode cX7_statement 185 = .ok (.ldc 203, 2) := by decide +kernel
theorem dX7_statement_187 : decode cX7_statement 187 = .ok (.iconst 0, 1) := by decide +kernel
theorem dX7_statement_188 : decode cX7_statement 188 = .ok (.invokevirtual 172, 3) := by decide +kernel
theorem dX7_statement_191 : decode cX7_statement 191 = .ok (.ifCond .eq 25, 3) := by decide +kernel
theorem dX7_statement_194 : decode cX7_statement 194 = .ok (.aload_n 0, 1) := by decide +kernel
theorem dX7_statement_195 : decode cX7_statement 195 = .ok (.iconst 0, 1) := by decide +kernel
theorem dX7_statement_196 : decode cX7_statement 196 = .ok (.invokevirtual 176, 3) := by decide +kernel
theorem dX7_statement_199 : decode cX7_statement 199 = .ok (.ifCond .eq 17, 3) := by decide +kernel
theorem dX7_statement_202 : decode cX7_statement 202 = .ok (.aload_n 0, 1) := by decide +kernel
theorem dX7_statement_203 : decode cX7_statement 203 = .ok (.ldc 196, 2) := by decide +kernel
theorem dX7_statement_205 : decode cX7_statement 205 = .ok (.iconst 0, 1) := by decide +kernel
theorem dX7_statement_206 : decode cX7_statement 206 = .ok (.invokevirtual 172, 3) := by decide +kernel
theorem dX7_statement_209 : decode cX7_statement 209 = .ok (.ifCond .eq 7, 3) := by decide +kernel
theorem dX7_statement_212 : decode cX7_statement 212 = .ok (.iconst 1, 1) := by decide +kernel
theorem dX7_statement_213 : decode cX7_statement 213 = .ok (.goto 4, 3) := by decide +kernel
theorem dX7_statement_216 : decode cX7_statement 216 = .ok (.iconst 0, 1) := by decide +kernel
theorem dX7_statement_217 : decode cX7_statement 217 = .ok (.ireturn, 1) := by decide +kernel
theorem dX7_reads_0 : decode cX7_reads 0 = .ok (.aload_n 0, 1) := by decide +kernel
theorem dX7_reads_1 : decode cX7_reads 1 = .ok (.iconst 0, 1) := by decide +kernel
theorem dX7_reads_2 : decode cX7_reads 2 = .ok (.putfield 88, 3) := by decide +kernel
theorem dX7_reads_5 : decode cX7_reads 5 = .ok (.aload_n 0, 1) := by decide +kernel
theorem dX7_reads_6 : decode cX7_reads 6 = .ok (.iconst 0, 1) := by decide +kernel
theorem dX7_reads_7 : decode cX7_reads 7 = .ok (.putfield 153, 3) := by decide +kernel
theorem dX7_reads_10 : decode cX7_reads 10 = .ok (.aload_n 0, 1) := by decide +kernel
theorem dX7_reads_11 : decode cX7_reads 11 = .ok (.iconst 0, 1) := by decide +kernel
theorem dX7_reads_12 : decode cX7_reads 12 = .ok (.putfield 158, 3) := by decide +kernel
theorem dX7_reads_15 : decode cX7_reads 15 = .ok (.aload_n 0, 1) := by decide +kernel
theorem dX7_reads_16 : decode cX7_reads 16 = .ok (.getfield 30, 3) := by decide +kernel
theorem dX7_reads_19 : decode cX7_reads 19 = .ok (.bipush 12, 2) := by decide +kernel
theorem dX7_reads_21 : decode cX7_reads 21 = .ok (.iconst 0, 1) := by decide +kernel
theorem dX7_reads_22 : decode cX7_reads 22 = .ok (.iastore, 1) := by decide +kernel
theorem dX7_reads_23 : decode cX7_reads 23 = .ok (.aload_n 0, 1) := by decide +kernel
theorem dX7_reads_24 : decode cX7_reads 24 = .ok (.getfield 33, 3) := by decide +kernel
theorem dX7_reads_27 : decode cX7_reads 27 = .ok (.bipush 12, 2) := by decide +kernel
theorem dX7_reads_29 : decode cX7_reads 29 = .ok (.iconst 0, 1) := by decide +kernel
theorem dX7_reads_30 : decode cX7_reads 30 = .ok (.iastore, 1) := by decide +kernel
theorem dX7_reads_31 : decode cX7_reads 31 = .ok (.aload_n 0, 1) := by decide +kernel
theorem dX7_reads_32 : decode cX7_reads 32 = .ok (.invokevirtual 163, 3) := by decide +kernel
theorem dX7_reads_35 : decode cX7_reads 35 = .ok (.aload_n 0, 1) := by decide +kernel
theorem dX7_reads_36 : decode cX7_reads 36 = .ok (.getfield 98, 3) := by decide +kernel
theorem dX7_reads_39 : decode cX7_reads 39 = .ok (.ifCond .le 12, 3) := by decide +kernel
theorem dX7_reads_42 : decode cX7_reads 42 = .ok (.aload_n 0, 1) := by decide +kernel
theorem dX7_reads_43 : decode cX7_reads 43 = .ok (.invokevirtual 188, 3) := by decide +kernel
theorem dX7_reads_46 : decode cX7_reads 46 = .ok (.ifCond .ne (-11), 3) := by decide +kernel
theorem dX7_reads_49 : decode cX7_reads 49 = .ok (.iconst 0, 1) := by decide +kernel
theorem dX7_reads_50 : decode cX7_reads 50 = .ok (.ireturn, 1) := by decide +kernel
theorem dX7_reads_51 : decode cX7_reads 51 = .ok (.aload_n 0, 1) := by decide +kernel
theorem dX7_reads_52 : decode cX7_reads 52 = .ok (.getfield 17, 3) := by decide +kernel
theorem dX7_reads_55 : decode cX7_reads 55 = .ok (.iload_n 1, 1) := by decide +kernel
theorem dX7_reads_56 : decode cX7_reads 56 = .ok (.iconst 1, 1) := by decide +kernel
theorem dX7_reads_57 : decode cX7_reads 57 = .ok (.bastore, 1) := by decide +kernel
theorem dX7_reads_58 : decode cX7_reads 58 = .ok (.aload_n 0, 1) := by decide +kernel
theorem dX7_reads_59 : decode cX7_reads 59 = .ok (.getfield 27, 3) := by decide +kernel
theorem dX7_reads_62 : decode cX7_reads 62 = .ok (.iload_n 1, 1) := by decide +kernel
theorem dX7_reads_63 : decode cX7_reads 63 = .ok (.iload_n 2, 1) := by decide +kernel
theorem dX7_reads_64 : decode cX7_reads 64 = .ok (.iastore, 1) := by decide +kernel
theorem dX7_reads_65 : decode cX7_reads 65 = .ok (.aload_n 0, 1) := by decide +kernel
theorem dX7_reads_66 : decode cX7_reads 66 = .ok (.getfield 24, 3) := by decide +kernel
theorem dX7_reads_69 : decode cX7_reads 69 = .ok (.iload_n 1, 1) := by decide +kernel
theorem dX7_reads_70 : decode cX7_reads 70 = .ok (.aload_n 0, 1) := by decide +kernel
theorem dX7_reads_71 : decode cX7_reads 71 = .ok (.getfield 24, 3) := by decide +kernel
theorem dX7_reads_74 : decode cX7_reads 74 = .ok (.bipush 12, 2) := by decide +kernel
theorem dX7_reads_76 : decode cX7_reads 76 = .ok (.iaload, 1) := by decide +kernel
theorem dX7_reads_77 : decode cX7_reads 77 = .ok (.iastore, 1) := by decide +kernel
theorem dX7_reads_78 : decode cX7_reads 78 = .ok (.aload_n 0, 1) := by decide +kernel
theorem dX7_reads_79 : decode cX7_reads 79 = .ok (.getfield 30, 3) := by decide +kernel
theorem dX7_reads_82 : decode cX7_reads 82 = .ok (.iload_n 1, 1) := by decide +kernel
theorem dX7_reads_83 : decode cX7_reads 83 = .ok (.aload_n 0, 1) := by decide +kernel
theorem dX7_reads_84 : decode cX7_reads 84 = .ok (.getfield 30, 3) := by decide +kernel
theorem dX7_reads_87 : decode cX7_reads 87 = .ok (.bipush 12, 2) := by decide +kernel
theorem dX7_reads_89 : decode cX7_reads 89 = .ok (.iaload, 1) := by decide +kernel
theorem dX7_reads_90 : decode cX7_reads 90 = .ok (.iastore, 1) := by decide +kernel
theorem dX7_reads_91 : decode cX7_reads 91 = .ok (.aload_n 0, 1) := by decide +kernel
theorem dX7_reads_92 : decode cX7_reads 92 = .ok (.getfield 33, 3) := by decide +kernel
theorem dX7_reads_95 : decode cX7_reads 95 = .ok (.iload_n 1, 1) := by decide +kernel
theorem dX7_reads_96 : decode cX7_reads 96 = .ok (.aload_n 0, 1) := by decide +kernel
theorem dX7_reads_97 : decode cX7_reads 97 = .ok (.getfield 33, 3) := by decide +kernel
theorem dX7_reads_100 : decode cX7_reads 100 = .ok (.bipush 12, 2) := by decide +kernel
theorem dX7_reads_102 : decode cX7_reads 102 = .ok (.iaload, 1) := by decide +kernel
theorem dX7_reads_103 : decode cX7_reads 103 = .ok (.iastore, 1) := by decide +kernel
theorem dX7_reads_104 : decode cX7_reads 104 = .ok (.iconst 0, 1) := by decide +kernel
theorem dX7_reads_105 : decode cX7_reads 105 = .ok (.istore_n 3, 1) := by decide +kernel
theorem dX7_reads_106 : decode cX7_reads 106 = .ok (.iload_n 3, 1) := by decide +kernel
theorem dX7_reads_107 : decode cX7_reads 107 = .ok (.aload_n 0, 1) := by decide +kernel
theorem dX7_reads_108 : decode cX7_reads 108 = .ok (.getfield 24, 3) := by decide +kernel
theorem dX7_reads_111 : decode cX7_reads 111 = .ok (.iload_n 1, 1) := by decide +kernel
theorem dX7_reads_112 : decode cX7_reads 112 = .ok (.iaload, 1) := by decide +kernel
theorem dX7_reads_113 : decode cX7_reads 113 = .ok (.if_icmp .ge 31, 3) := by decide +kernel
theorem dX7_reads_116 : decode cX7_reads 116 = .ok (.aload_n 0, 1) := by decide +kernel
theorem dX7_reads_117 : decode cX7_reads 117 = .ok (.getfield 21, 3) := by decide +kernel
theorem dX7_reads_120 : decode cX7_reads 120 = .ok (.sipush 800, 3) := by decide +kernel
theorem dX7_reads_123 : decode cX7_reads 123 = .ok (.iload_n 1, 1) := by decide +kernel
theorem dX7_reads_124 : decode cX7_reads 124 = .ok (.imul, 1) := by decide +kernel
theorem dX7_reads_125 : decode cX7_reads 125 = .ok (.iload_n 3, 1) := by decide +kernel
theorem dX7_reads_126 : decode cX7_reads 126 = .ok (.iadd, 1) := by decide +kernel
theorem dX7_reads_127 : decode cX7_reads 127 = .ok (.aload_n 0, 1) := by decide +kernel
theorem dX7_reads_128 : decode cX7_reads 128 = .ok (.getfield 21, 3) := by decide +kernel
theorem dX7_reads_131 : decode cX7_reads 131 = .ok (.sipush 9600, 3) := by decide +kernel
theorem dX7_reads_134 : decode cX7_reads 134 = .ok (.iload_n 3, 1) := by decide +kernel
theorem dX7_reads_135 : decode cX7_reads 135 = .ok (.iadd, 1) := by decide +kernel
theorem dX7_reads_136 : decode cX7_reads 136 = .ok (.iaload, 1) := by decide +kernel
theorem dX7_reads_137 : decode cX7_reads 137 = .ok (.iastore, 1) := by decide +kernel
theorem dX7_reads_138 : decode cX7_reads 138 = .ok (.iinc 3 1, 3) := by decide +kernel
theorem dX7_reads_141 : decode cX7_reads 141 = .ok (.goto (-35), 3) := by decide +kernel
theorem dX7_reads_144 : decode cX7_reads 144 = .ok (.iconst 0, 1) := by decide +kernel
theorem dX7_reads_145 : decode cX7_reads 145 = .ok (.istore_n 3, 1) := by decide +kernel
theorem dX7_reads_146 : decode cX7_reads 146 = .ok (.iload_n 3, 1) := by decide +kernel
theorem dX7_reads_147 : decode cX7_reads 147 = .ok (.aload_n 0, 1) := by decide +kernel
theorem dX7_reads_148 : decode cX7_reads 148 = .ok (.getfield 30, 3) := by decide +kernel
theorem dX7_reads_151 : decode cX7_reads 151 = .ok (.iload_n 1, 1) := by decide +kernel
theorem dX7_reads_152 : decode cX7_reads 152 = .ok (.iaload, 1) := by decide +kernel
theorem dX7_reads_153 : decode cX7_reads 153 = .ok (.if_icmp .ge 119, 3) := by decide +kernel
theorem dX7_reads_156 : decode cX7_reads 156 = .ok (.aload_n 0, 1) := by decide +kernel
theorem dX7_reads_157 : decode cX7_reads 157 = .ok (.getfield 36, 3) := by decide +kernel
theorem dX7_reads_160 : decode cX7_reads 160 = .ok (.sipush 201, 3) := by decide +kernel
theorem dX7_reads_163 : decode cX7_reads 163 = .ok (.iload_n 1, 1) := by decide +kernel
theorem dX7_reads_164 : decode cX7_reads 164 = .ok (.imul, 1) := by decide +kernel
theorem dX7_reads_165 : decode cX7_reads 165 = .ok (.iload_n 3, 1) := by decide +kernel
theorem dX7_reads_166 : decode cX7_reads 166 = .ok (.iadd, 1) := by decide +kernel
theorem dX7_reads_167 : decode cX7_reads 167 = .ok (.aload_n 0, 1) := by decide +kernel
theorem dX7_reads_168 : decode cX7_reads 168 = .ok (.getfield 36, 3) := by decide +kernel
theorem dX7_reads_171 : decode cX7_reads 171 = .ok (.sipush 2412, 3) := by decide +kernel
theorem dX7_reads_174 : decode cX7_reads 174 = .ok (.iload_n 3, 1) := by decide +kernel
theorem dX7_reads_175 : decode cX7_reads 175 = .ok (.iadd, 1) := by decide +kernel
theorem dX7_reads_176 : decode cX7_reads 176 = .ok (.iaload, 1) := by decide +kernel
theorem dX7_reads_177 : decode cX7_reads 177 = .ok (.iastore, 1) := by decide +kernel
theorem dX7_reads_178 : decode cX7_reads 178 = .ok (.aload_n 0, 1) := by decide +kernel
theorem dX7_reads_179 : decode cX7_reads 179 = .ok (.getfield 39, 3) := by decide +kernel
theorem dX7_reads_182 : decode cX7_reads 182 = .ok (.sipush 201, 3) := by decide +kernel
theorem dX7_reads_185 : decode cX7_reads 185 = .ok (.iload_n 1, 1) := by decide +kernel
theorem dX7_reads_186 : decode cX7_reads 186 = .ok (.imul, 1) := by decide +kernel
theorem dX7_reads_187 : decode cX7_reads 187 = .ok (.iload_n 3, 1) := by decide +kernel
theorem dX7_reads_188 : decode cX7_reads 188 = .ok (.iadd, 1) := by decide +kernel
theorem dX7_reads_189 : decode cX7_reads 189 = .ok (.aload_n 0, 1) := by decide +kernel
theorem dX7_reads_190 : decode cX7_reads 190 = .ok (.getfield 39, 3) := by decide +kernel
theorem dX7_reads_193 : decode cX7_reads 193 = .ok (.sipush 2412, 3) := by decide +kernel
theorem dX7_reads_196 : decode cX7_reads 196 = .ok (.iload_n 3, 1) := by decide +kernel
theorem dX7_reads_197 : decode cX7_reads 197 = .ok (.iadd, 1) := by decide +kernel
theorem dX7_reads_198 : decode cX7_reads 198 = .ok (.iaload, 1) := by decide +kernel
theorem dX7_reads_199 : decode cX7_reads 199 = .ok (.iastore, 1) := by decide +kernel
theorem dX7_reads_200 : decode cX7_reads 200 = .ok (.aload_n 0, 1) := by decide +kernel
theorem dX7_reads_201 : decode cX7_reads 201 = .ok (.getfield 42, 3) := by decide +kernel
theorem dX7_reads_204 : decode cX7_reads 204 = .ok (.sipush 201, 3) := by decide +kernel
theorem dX7_reads_207 : decode cX7_reads 207 = .ok (.iload_n 1, 1) := by decide +kernel
theorem dX7_reads_208 : decode cX7_reads 208 = .ok (.imul, 1) := by decide +kernel
theorem dX7_reads_209 : decode cX7_reads 209 = .ok (.iload_n 3, 1) := by decide +kernel
theorem dX7_reads_210 : decode cX7_reads 210 = .ok (.iadd, 1) := by decide +kernel
theorem dX7_reads_211 : decode cX7_reads 211 = .ok (.aload_n 0, 1) := by decide +kernel
theorem dX7_reads_212 : decode cX7_reads 212 = .ok (.getfield 42, 3) := by decide +kernel
theorem dX7_reads_215 : decode cX7_reads 215 = .ok (.sipush 2412, 3) := by decide +kernel
theorem dX7_reads_218 : decode cX7_reads 218 = .ok (.iload_n 3, 1) := by decide +kernel
theorem dX7_reads_219 : decode cX7_reads 219 = .ok (.iadd, 1) := by decide +kernel
theorem dX7_reads_220 : decode cX7_reads 220 = .ok (.iaload, 1) := by decide +kernel
theorem dX7_reads_221 : decode cX7_reads 221 = .ok (.iastore, 1) := by decide +kernel
theorem dX7_reads_222 : decode cX7_reads 222 = .ok (.aload_n 0, 1) := by decide +kernel
theorem dX7_reads_223 : decode cX7_reads 223 = .ok (.getfield 45, 3) := by decide +kernel
theorem dX7_reads_226 : decode cX7_reads 226 = .ok (.sipush 201, 3) := by decide +kernel
theorem dX7_reads_229 : decode cX7_reads 229 = .ok (.iload_n 1, 1) := by decide +kernel
theorem dX7_reads_230 : decode cX7_reads 230 = .ok (.imul, 1) := by decide +kernel
theorem dX7_reads_231 : decode cX7_reads 231 = .ok (.iload_n 3, 1) := by decide +kernel
theorem dX7_reads_232 : decode cX7_reads 232 = .ok (.iadd, 1) := by decide +kernel
theorem dX7_reads_233 : decode cX7_reads 233 = .ok (.aload_n 0, 1) := by decide +kernel
theorem dX7_reads_234 : decode cX7_reads 234 = .ok (.getfield 45, 3) := by decide +kernel
theorem dX7_reads_237 : decode cX7_reads 237 = .ok (.sipush 2412, 3) := by decide +kernel
theorem dX7_reads_240 : decode cX7_reads 240 = .ok (.iload_n 3, 1) := by decide +kernel
theorem dX7_reads_241 : decode cX7_reads 241 = .ok (.iadd, 1) := by decide +kernel
theorem dX7_reads_242 : decode cX7_reads 242 = .ok (.iaload, 1) := by decide +kernel
theorem dX7_reads_243 : decode cX7_reads 243 = .ok (.iastore, 1) := by decide +kernel
theorem dX7_reads_244 : decode cX7_reads 244 = .ok (.aload_n 0, 1) := by decide +kernel
theorem dX7_reads_245 : decode cX7_reads 245 = .ok (.getfield 48, 3) := by decide +kernel
theorem dX7_reads_248 : decode cX7_reads 248 = .ok (.sipush 201, 3) := by decide +kernel
theorem dX7_reads_251 : decode cX7_reads 251 = .ok (.iload_n 1, 1) := by decide +kernel
theorem dX7_reads_252 : decode cX7_reads 252 = .ok (.imul, 1) := by decide +kernel
theorem dX7_reads_253 : decode cX7_reads 253 = .ok (.iload_n 3, 1) := by decide +kernel
theorem dX7_reads_254 : decode cX7_reads 254 = .ok (.iadd, 1) := by decide +kernel
theorem dX7_reads_255 : decode cX7_reads 255 = .ok (.aload_n 0, 1) := by decide +kernel
theorem dX7_reads_256 : decode cX7_reads 256 = .ok (.getfield 48, 3) := by decide +kernel
theorem dX7_reads_259 : decode cX7_reads 259 = .ok (.sipush 2412, 3) := by decide +kernel
theorem dX7_reads_262 : decode cX7_reads 262 = .ok (.iload_n 3, 1) := by decide +kernel
theorem dX7_reads_263 : decode cX7_reads 263 = .ok (.iadd, 1) := by decide +kernel
theorem dX7_reads_264 : decode cX7_reads 264 = .ok (.iaload, 1) := by decide +kernel
theorem dX7_reads_265 : decode cX7_reads 265 = .ok (.iastore, 1) := by decide +kernel
theorem dX7_reads_266 : decode cX7_reads 266 = .ok (.iinc 3 1, 3) := by decide +kernel
theorem dX7_reads_269 : decode cX7_reads 269 = .ok (.goto (-123), 3) := by decide +kernel
theorem dX7_reads_272 : decode cX7_reads 272 = .ok (.iconst 1, 1) := by decide +kernel
theorem dX7_reads_273 : decode cX7_reads 273 = .ok (.ireturn, 1) := by decide +kernel
theorem dX7_isNumber_0 : decode cX7_isNumber 0 = .ok (.iload_n 0, 1) := by decide +kernel
theorem dX7_isNumber_1 : decode cX7_isNumber 1 = .ok (.ifCond .lt 13, 3) := by decide +kernel
theorem dX7_isNumber_4 : decode cX7_isNumber 4 = .ok (.iload_n 0, 1) := by decide +kernel
theorem dX7_isNumber_5 : decode cX7_isNumber 5 = .ok (.bipush 12, 2) := by decide +kernel
theorem dX7_isNumber_7 : decode cX7_isNumber 7 = .ok (.if_icmp .ge 7, 3) := by decide +kernel
theorem dX7_isNumber_10 : decode cX7_isNumber 10 = .ok (.iconst 1, 1) := by decide +kernel
theorem dX7_isNumber_11 : decode cX7_isNumber 11 = .ok (.goto 4, 3) := by decide +kernel
theorem dX7_isNumber_14 : decode cX7_isNumber 14 = .ok (.iconst 0, 1) := by decide +kernel
theorem dX7_isNumber_15 : decode cX7_isNumber 15 = .ok (.ireturn, 1) := by decide +kernel
theorem dX7_text_0 : decode cX7_text 0 = .ok (.aload_n 0, 1) := by decide +kernel
theorem dX7_text_1 : decode cX7_text 1 = .ok (.iconst 0, 1) := by decide +kernel
theorem dX7_text_2 : decode cX7_text 2 = .ok (.putfield 78, 3) := by decide +kernel
theorem dX7_text_5 : decode cX7_text 5 = .ok (.aload_n 0, 1) := by decide +kernel
theorem dX7_text_6 : decode cX7_text 6 = .ok (.iload_n 1, 1) := by decide +kernel
theorem dX7_text_7 : decode cX7_text 7 = .ok (.invokestatic 205, 3) := by decide +kernel
theorem dX7_text_10 : decode cX7_text 10 = .ok (.ifCond .eq 28, 3) := by decide +kernel
theorem dX7_text_13 : decode cX7_text 13 = .ok (.iload_n 2, 1) := by decide +kernel
theorem dX7_text_14 : decode cX7_text 14 = .ok (.ifCond .lt 24, 3) := by decide +kernel
theorem dX7_text_17 : decode cX7_text 17 = .ok (.iload_n 2, 1) := by decide +kernel
theorem dX7_text_18 : decode cX7_text 18 = .ok (.iconst 3, 1) := by decide +kernel
theorem dX7_text_19 : decode cX7_text 19 = .ok (.if_icmp .gt 19, 3) := by decide +kernel
theorem dX7_text_22 : decode cX7_text 22 = .ok (.iload_n 3, 1) := by decide +kernel
theorem dX7_text_23 : decode cX7_text 23 = .ok (.ifCond .lt 15, 3) := by decide +kernel
theorem dX7_text_26 : decode cX7_text 26 = .ok (.iload_n 3, 1) := by decide +kernel
theorem dX7_text_27 : decode cX7_text 27 = .ok (.aload_n 0, 1) := by decide +kernel
theorem dX7_text_28 : decode cX7_text 28 = .ok (.getfield 81, 3) := by decide +kernel
theorem dX7_text_31 : decode cX7_text 31 = .ok (.if_icmp .gt 7, 3) := by decide +kernel
theorem dX7_text_34 : decode cX7_text 34 = .ok (.iconst 1, 1) := by decide +kernel
theorem dX7_text_35 : decode cX7_text 35 = .ok (.goto 4, 3) := by decide +kernel
theorem dX7_text_38 : decode cX7_text 38 = .ok (.iconst 0, 1) := by decide +kernel
theorem dX7_text_39 : decode cX7_text 39 = .ok (.iconst 1, 1) := by decide +kernel
theorem dX7_text_40 : decode cX7_text 40 = .ok (.invokevirtual 208, 3) := by decide +kernel
theorem dX7_text_43 : decode cX7_text 43 = .ok (.ifCond .ne 5, 3) := by decide +kernel
theorem dX7_text_46 : decode cX7_text 46 = .ok (.iconst 0, 1) := by decide +kernel
theorem dX7_text_47 : decode cX7_text 47 = .ok (.ireturn, 1) := by decide +kernel
theorem dX7_text_48 : decode cX7_text 48 = .ok (.aload_n 0, 1) := by decide +kernel
theorem dX7_text_49 : decode cX7_text 49 = .ok (.iconst 0, 1) := by decide +kernel
theorem dX7_text_50 : decode cX7_text 50 = .ok (.putfield 81, 3) := by decide +kernel
theorem dX7_text_53 : decode cX7_text 53 = .ok (.aload_n 0, 1) := by decide +kernel
theorem dX7_text_54 : decode cX7_text 54 = .ok (.iconst 0, 1) := by decide +kernel
theorem dX7_text_55 : decode cX7_text 55 = .ok (.putfield 119, 3) := by decide +kernel
theorem dX7_text_58 : decode cX7_text 58 = .ok (.aload_n 0, 1) := by decide +kernel
theorem dX7_text_59 : decode cX7_text 59 = .ok (.iconst (-1), 1) := by decide +kernel
theorem dX7_text_60 : decode cX7_text 60 = .ok (.putfield 13, 3) := by decide +kernel
theorem dX7_text_63 : decode cX7_text 63 = .ok (.aload_n 0, 1) := by decide +kernel
theorem dX7_text_64 : decode cX7_text 64 = .ok (.getfield 24, 3) := by decide +kernel
theorem dX7_text_67 : decode cX7_text 67 = .ok (.bipush 12, 2) := by decide +kernel
theorem dX7_text_69 : decode cX7_text 69 = .ok (.iload_n 3, 1) := by decide +kernel
theorem dX7_text_70 : decode cX7_text 70 = .ok (.iastore, 1) := by decide +kernel
theorem dX7_text_71 : decode cX7_text 71 = .ok (.iconst 0, 1) := by decide +kernel
theorem dX7_text_72 : decode cX7_text 72 = .ok (.istore 4, 2) := by decide +kernel
theorem dX7_text_74 : decode cX7_text 74 = .ok (.iload 4, 2) := by decide +kernel
theorem dX7_text_76 : decode cX7_text 76 = .ok (.iload_n 3, 1) := by decide +kernel
theorem dX7_text_77 : decode cX7_text 77 = .ok (.if_icmp .ge 27, 3) := by decide +kernel
theorem dX7_text_80 : decode cX7_text 80 = .ok (.aload_n 0, 1) := by decide +kernel
theorem dX7_text_81 : decode cX7_text 81 = .ok (.getfield 21, 3) := by decide +kernel
theorem dX7_text_84 : decode cX7_text 84 = .ok (.sipush 9600, 3) := by decide +kernel
theorem dX7_text_87 : decode cX7_text 87 = .ok (.iload 4, 2) := by decide +kernel
theorem dX7_text_89 : decode cX7_text 89 = .ok (.iadd, 1) := by decide +kernel
theorem dX7_text_90 : decode cX7_text 90 = .ok (.aload_n 0, 1) := by decide +kernel
theorem dX7_text_91 : decode cX7_text 91 = .ok (.getfield 7, 3) := by decide +kernel
theorem dX7_text_94 : decode cX7_text 94 = .ok (.iload 4, 2) := by decide +kernel
theorem dX7_text_96 : decode cX7_text 96 = .ok (.iaload, 1) := by decide +kernel
theorem dX7_text_97 : decode cX7_text 97 = .ok (.iastore, 1) := by decide +kernel
theorem dX7_text_98 : decode cX7_text 98 = .ok (.iinc 4 1, 3) := by decide +kernel
theorem dX7_text_101 : decode cX7_text 101 = .ok (.goto (-27), 3) := by decide +kernel
theorem dX7_text_104 : decode cX7_text 104 = .ok (.aload_n 0, 1) := by decide +kernel
theorem dX7_text_105 : decode cX7_text 105 = .ok (.iload_n 1, 1) := by decide +kernel
theorem dX7_text_106 : decode cX7_text 106 = .ok (.iload_n 2, 1) := by decide +kernel
theorem dX7_text_107 : decode cX7_text 107 = .ok (.invokevirtual 212, 3) := by decide +kernel
theorem dX7_text_110 : decode cX7_text 110 = .ok (.ifCond .eq 16, 3) := by decide +kernel
theorem dX7_text_113 : decode cX7_text 113 = .ok (.aload_n 0, 1) := by decide +kernel
theorem dX7_text_114 : decode cX7_text 114 = .ok (.getfield 60, 3) := by decide +kernel
theorem dX7_text_117 : decode cX7_text 117 = .ok (.iload_n 1, 1) := by decide +kernel
theorem dX7_text_118 : decode cX7_text 118 = .ok (.if_icmp .ne 8, 3) := by decide +kernel
theorem dX7_text_121 : decode cX7_text 121 = .ok (.aload_n 0, 1) := by decide +kernel
theorem dX7_text_122 : decode cX7_text 122 = .ok (.iconst (-1), 1) := by decide +kernel
theorem dX7_text_123 : decode cX7_text 123 = .ok (.putfield 60, 3) := by decide +kernel
theorem dX7_text_126 : decode cX7_text 126 = .ok (.aload_n 0, 1) := by decide +kernel
theorem dX7_text_127 : decode cX7_text 127 = .ok (.getfield 119, 3) := by decide +kernel
theorem dX7_text_130 : decode cX7_text 130 = .ok (.ireturn, 1) := by decide +kernel
theorem dX7_fault_0 : decode cX7_fault 0 = .ok (.aload_n 0, 1) := by decide +kernel
theorem dX7_fault_1 : decode cX7_fault 1 = .ok (.iconst 0, 1) := by decide +kernel
theorem dX7_fault_2 : decode cX7_fault 2 = .ok (.putfield 78, 3) := by decide +kernel
theorem dX7_fault_5 : decode cX7_fault 5 = .ok (.aload_n 0, 1) := by decide +kernel
theorem dX7_fault_6 : decode cX7_fault 6 = .ok (.iload_n 1, 1) := by decide +kernel
theorem dX7_fault_7 : decode cX7_fault 7 = .ok (.ifCond .eq 8, 3) := by decide +kernel
theorem dX7_fault_10 : decode cX7_fault 10 = .ok (.iload_n 1, 1) := by decide +kernel
theorem dX7_fault_11 : decode cX7_fault 11 = .ok (.iconst 1, 1) := by decide +kernel
theorem dX7_fault_12 : decode cX7_fault 12 = .ok (.if_icmp .ne 7, 3) := by decide +kernel
theorem dX7_fault_15 : decode cX7_fault 15 = .ok (.iconst 1, 1) := by decide +kernel
theorem dX7_fault_16 : decode cX7_fault 16 = .ok (.goto 4, 3) := by decide +kernel
theorem dX7_fault_19 : decode cX7_fault 19 = .ok (.iconst 0, 1) := by decide +kernel
theorem dX7_fault_20 : decode cX7_fault 20 = .ok (.iconst 1, 1) := by decide +kernel
theorem dX7_fault_21 : decode cX7_fault 21 = .ok (.invokevirtual 208, 3) := by decide +kernel
theorem dX7_fault_24 : decode cX7_fault 24 = .ok (.ifCond .ne 5, 3) := by decide +kernel
theorem dX7_fault_27 : decode cX7_fault 27 = .ok (.iconst 0, 1) := by decide +kernel
theorem dX7_fault_28 : decode cX7_fault 28 = .ok (.ireturn, 1) := by decide +kernel
theorem dX7_fault_29 : decode cX7_fault 29 = .ok (.iload_n 1, 1) := by decide +kernel
theorem dX7_fault_30 : decode cX7_fault 30 = .ok (.ifCond .ne 10, 3) := by decide +kernel
theorem dX7_fault_33 : decode cX7_fault 33 = .ok (.aload_n 0, 1) := by decide +kernel
theorem dX7_fault_34 : decode cX7_fault 34 = .ok (.getfield 119, 3) := by decide +kernel
theorem dX7_fault_37 : decode cX7_fault 37 = .ok (.goto 7, 3) := by decide +kernel
theorem dX7_fault_40 : decode cX7_fault 40 = .ok (.aload_n 0, 1) := by decide +kernel
theorem dX7_fault_41 : decode cX7_fault 41 = .ok (.getfield 13, 3) := by decide +kernel
theorem dX7_fault_44 : decode cX7_fault 44 = .ok (.ireturn, 1) := by decide +kernel
theorem dX7_drop_0 : decode cX7_drop 0 = .ok (.aload_n 0, 1) := by decide +kernel
theorem dX7_drop_1 : decode cX7_drop 1 = .ok (.iconst 0, 1) := by decide +kernel
theorem dX7_drop_2 : decode cX7_drop 2 = .ok (.putfield 78, 3) := by decide +kernel
theorem dX7_drop_5 : decode cX7_drop 5 = .ok (.aload_n 0, 1) := by decide +kernel
theorem dX7_drop_6 : decode cX7_drop 6 = .ok (.iload_n 1, 1) := by decide +kernel
theorem dX7_drop_7 : decode cX7_drop 7 = .ok (.invokestatic 205, 3) := by decide +kernel
theorem dX7_drop_10 : decode cX7_drop 10 = .ok (.iconst 1, 1) := by decide +kernel
theorem dX7_drop_11 : decode cX7_drop 11 = .ok (.invokevirtual 208, 3) := by decide +kernel
theorem dX7_drop_14 : decode cX7_drop 14 = .ok (.ifCond .ne 5, 3) := by decide +kernel
theorem dX7_drop_17 : decode cX7_drop 17 = .ok (.iconst 0, 1) := by decide +kernel
theorem dX7_drop_18 : decode cX7_drop 18 = .ok (.ireturn, 1) := by decide +kernel
theorem dX7_drop_19 : decode cX7_drop 19 = .ok (.aload_n 0, 1) := by decide +kernel
theorem dX7_drop_20 : decode cX7_drop 20 = .ok (.getfield 17, 3) := by decide +kernel
theorem dX7_drop_23 : decode cX7_drop 23 = .ok (.iload_n 1, 1) := by decide +kernel
theorem dX7_drop_24 : decode cX7_drop 24 = .ok (.baload, 1) := by decide +kernel
theorem dX7_drop_25 : decode cX7_drop 25 = .ok (.istore_n 2, 1) := by decide +kernel
theorem dX7_drop_26 : decode cX7_drop 26 = .ok (.aload_n 0, 1) := by decide +kernel
theorem dX7_drop_27 : decode cX7_drop 27 = .ok (.getfield 17, 3) := by decide +kernel
theorem dX7_drop_30 : decode cX7_drop 30 = .ok (.iload_n 1, 1) := by decide +kernel
theorem dX7_drop_31 : decode cX7_drop 31 = .ok (.iconst 0, 1) := by decide +kernel
theorem dX7_drop_32 : decode cX7_drop 32 = .ok (.bastore, 1) := by decide +kernel
theorem dX7_drop_33 : decode cX7_drop 33 = .ok (.aload_n 0, 1) := by decide +kernel
theorem dX7_drop_34 : decode cX7_drop 34 = .ok (.getfield 60, 3) := by decide +kernel
theorem dX7_drop_37 : decode cX7_drop 37 = .ok (.iload_n 1, 1) := by decide +kernel
theorem dX7_drop_38 : decode cX7_drop 38 = .ok (.if_icmp .ne 8, 3) := by decide +kernel
theorem dX7_drop_41 : decode cX7_drop 41 = .ok (.aload_n 0, 1) := by decide +kernel
theorem dX7_drop_42 : decode cX7_drop 42 = .ok (.iconst (-1), 1) := by decide +kernel
theorem dX7_drop_43 : decode cX7_drop 43 = .ok (.putfield 60, 3) := by decide +kernel
theorem dX7_drop_46 : decode cX7_drop 46 = .ok (.iload_n 2, 1) := by decide +kernel
theorem dX7_drop_47 : decode cX7_drop 47 = .ok (.ireturn, 1) := by decide +kernel
theorem dX7_isThere_0 : decode cX7_isThere 0 = .ok (.aload_n 0, 1) := by decide +kernel
theorem dX7_isThere_1 : decode cX7_isThere 1 = .ok (.iconst 0, 1) := by decide +kernel
theorem dX7_isThere_2 : decode cX7_isThere 2 = .ok (.putfield 78, 3) := by decide +kernel
theorem dX7_isThere_5 : decode cX7_isThere 5 = .ok (.aload_n 0, 1) := by decide +kernel
theorem dX7_isThere_6 : decode cX7_isThere 6 = .ok (.iload_n 1, 1) := by decide +kernel
theorem dX7_isThere_7 : decode cX7_isThere 7 = .ok (.invokestatic 205, 3) := by decide +kernel
theorem dX7_isThere_10 : decode cX7_isThere 10 = .ok (.ifCond .eq 16, 3) := by decide +kernel
theorem dX7_isThere_13 : decode cX7_isThere 13 = .ok (.aload_n 0, 1) := by decide +kernel
theorem dX7_isThere_14 : decode cX7_isThere 14 = .ok (.getfield 17, 3) := by decide +kernel
theorem dX7_isThere_17 : decode cX7_isThere 17 = .ok (.iload_n 1, 1) := by decide +kernel
theorem dX7_isThere_18 : decode cX7_isThere 18 = .ok (.baload, 1) := by decide +kernel
theorem dX7_isThere_19 : decode cX7_isThere 19 = .ok (.ifCond .eq 7, 3) := by decide +kernel
theorem dX7_isThere_22 : decode cX7_isThere 22 = .ok (.iconst 1, 1) := by decide +kernel
theorem dX7_isThere_23 : decode cX7_isThere 23 = .ok (.goto 4, 3) := by decide +kernel
theorem dX7_isThere_26 : decode cX7_isThere 26 = .ok (.iconst 0, 1) := by decide +kernel
theorem dX7_isThere_27 : decode cX7_isThere 27 = .ok (.iconst 1, 1) := by decide +kernel
theorem dX7_isThere_28 : decode cX7_isThere 28 = .ok (.invokevirtual 208, 3) := by decide +kernel
theorem dX7_isThere_31 : decode cX7_isThere 31 = .ok (.ireturn, 1) := by decide +kernel
theorem dX7_about_0 : decode cX7_about 0 = .ok (.aload_n 0, 1) := by decide +kernel
theorem dX7_about_1 : decode cX7_about 1 = .ok (.iload_n 1, 1) := by decide +kernel
theorem dX7_about_2 : decode cX7_about 2 = .ok (.invokevirtual 216, 3) := by decide +kernel
theorem dX7_about_5 : decode cX7_about 5 = .ok (.ifCond .eq 25, 3) := by decide +kernel
theorem dX7_about_8 : decode cX7_about 8 = .ok (.aload_n 0, 1) := by decide +kernel
theorem dX7_about_9 : decode cX7_about 9 = .ok (.iload_n 2, 1) := by decide +kernel
theorem dX7_about_10 : decode cX7_about 10 = .ok (.ifCond .lt 12, 3) := by decide +kernel
theorem dX7_about_13 : decode cX7_about 13 = .ok (.iload_n 2, 1) := by decide +kernel
theorem dX7_about_14 : decode cX7_about 14 = .ok (.iconst 3, 1) := by decide +kernel
theorem dX7_about_15 : decode cX7_about 15 = .ok (.if_icmp .gt 7, 3) := by decide +kernel
theorem dX7_about_18 : decode cX7_about 18 = .ok (.iconst 1, 1) := by decide +kernel
theorem dX7_about_19 : decode cX7_about 19 = .ok (.goto 4, 3) := by decide +kernel
theorem dX7_about_22 : decode cX7_about 22 = .ok (.iconst 0, 1) := by decide +kernel
theorem dX7_about_23 : decode cX7_about 23 = .ok (.iconst 1, 1) := by decide +kernel
theorem dX7_about_24 : decode cX7_about 24 = .ok (.invokevirtual 208, 3) := by decide +kernel
theorem dX7_about_27 : decode cX7_about 27 = .ok (.ifCond .ne 5, 3) := by decide +kernel
theorem dX7_about_30 : decode cX7_about 30 = .ok (.iconst 0, 1) := by decide +kernel
theorem dX7_about_31 : decode cX7_about 31 = .ok (.ireturn, 1) := by decide +kernel
theorem dX7_about_32 : decode cX7_about 32 = .ok (.iload_n 2, 1) := by decide +kernel
theorem dX7_about_33 : decode cX7_about 33 = .ok (.ifCond .ne 12, 3) := by decide +kernel
theorem dX7_about_36 : decode cX7_about 36 = .ok (.aload_n 0, 1) := by decide +kernel
theorem dX7_about_37 : decode cX7_about 37 = .ok (.getfield 30, 3) := by decide +kernel
theorem dX7_about_40 : decode cX7_about 40 = .ok (.iload_n 1, 1) := by decide +kernel
theorem dX7_about_41 : decode cX7_about 41 = .ok (.iaload, 1) := by decide +kernel
theorem dX7_about_42 : decode cX7_about 42 = .ok (.goto 37, 3) := by decide +kernel
theorem dX7_about_45 : decode cX7_about 45 = .ok (.iload_n 2, 1) := by decide +kernel
theorem dX7_about_46 : decode cX7_about 46 = .ok (.iconst 1, 1) := by decide +kernel
theorem dX7_about_47 : decode cX7_about 47 = .ok (.if_icmp .ne 12, 3) := by decide +kernel
theorem dX7_about_50 : decode cX7_about 50 = .ok (.aload_n 0, 1) := by decide +kernel
theorem dX7_about_51 : decode cX7_about 51 = .ok (.getfield 24, 3) := by decide +kernel
theorem dX7_about_54 : decode cX7_about 54 = .ok (.iload_n 1, 1) := by decide +kernel
theorem dX7_about_55 : decode cX7_about 55 = .ok (.iaload, 1) := by decide +kernel
theorem dX7_about_56 : decode cX7_about 56 = .ok (.goto 23, 3) := by decide +kernel
theorem dX7_about_59 : decode cX7_about 59 = .ok (.iload_n 2, 1) := by decide +kernel
theorem dX7_about_60 : decode cX7_about 60 = .ok (.iconst 2, 1) := by decide +kernel
theorem dX7_about_61 : decode cX7_about 61 = .ok (.if_icmp .ne 12, 3) := by decide +kernel
theorem dX7_about_64 : decode cX7_about 64 = .ok (.aload_n 0, 1) := by decide +kernel
theorem dX7_about_65 : decode cX7_about 65 = .ok (.getfield 27, 3) := by decide +kernel
theorem dX7_about_68 : decode cX7_about 68 = .ok (.iload_n 1, 1) := by decide +kernel
theorem dX7_about_69 : decode cX7_about 69 = .ok (.iaload, 1) := by decide +kernel
theorem dX7_about_70 : decode cX7_about 70 = .ok (.goto 9, 3) := by decide +kernel
theorem dX7_about_73 : decode cX7_about 73 = .ok (.aload_n 0, 1) := by decide +kernel
theorem dX7_about_74 : decode cX7_about 74 = .ok (.getfield 33, 3) := by decide +kernel
theorem dX7_about_77 : decode cX7_about 77 = .ok (.iload_n 1, 1) := by decide +kernel
theorem dX7_about_78 : decode cX7_about 78 = .ok (.iaload, 1) := by decide +kernel
theorem dX7_about_79 : decode cX7_about 79 = .ok (.ireturn, 1) := by decide +kernel
theorem dX7_isSign_0 : decode cX7_isSign 0 = .ok (.aload_n 0, 1) := by decide +kernel
theorem dX7_isSign_1 : decode cX7_isSign 1 = .ok (.getfield 42, 3) := by decide +kernel
theorem dX7_isSign_4 : decode cX7_isSign 4 = .ok (.sipush 201, 3) := by decide +kernel
theorem dX7_isSign_7 : decode cX7_isSign 7 = .ok (.iload_n 1, 1) := by decide +kernel
theorem dX7_isSign_8 : decode cX7_isSign 8 = .ok (.imul, 1) := by decide +kernel
theorem dX7_isSign_9 : decode cX7_isSign 9 = .ok (.iload_n 2, 1) := by decide +kernel
theorem dX7_isSign_10 : decode cX7_isSign 10 = .ok (.iadd, 1) := by decide +kernel
theorem dX7_isSign_11 : decode cX7_isSign 11 = .ok (.iaload, 1) := by decide +kernel
theorem dX7_isSign_12 : decode cX7_isSign 12 = .ok (.iconst 2, 1) := by decide +kernel
theorem dX7_isSign_13 : decode cX7_isSign 13 = .ok (.if_icmp .ne 34, 3) := by decide +kernel
theorem dX7_isSign_16 : decode cX7_isSign 16 = .ok (.aload_n 0, 1) := by decide +kernel
theorem dX7_isSign_17 : decode cX7_isSign 17 = .ok (.getfield 21, 3) := by decide +kernel
theorem dX7_isSign_20 : decode cX7_isSign 20 = .ok (.sipush 800, 3) := by decide +kernel
theorem dX7_isSign_23 : decode cX7_isSign 23 = .ok (.iload_n 1, 1) := by decide +kernel
theorem dX7_isSign_24 : decode cX7_isSign 24 = .ok (.imul, 1) := by decide +kernel
theorem dX7_isSign_25 : decode cX7_isSign 25 = .ok (.aload_n 0, 1) := by decide +kernel
theorem dX7_isSign_26 : decode cX7_isSign 26 = .ok (.getfield 36, 3) := by decide +kernel
theorem dX7_isSign_29 : decode cX7_isSign 29 = .ok (.sipush 201, 3) := by decide +kernel
theorem dX7_isSign_32 : decode cX7_isSign 32 = .ok (.iload_n 1, 1) := by decide +kernel
theorem dX7_isSign_33 : decode cX7_isSign 33 = .ok (.imul, 1) := by decide +kernel
theorem dX7_isSign_34 : decode cX7_isSign 34 = .ok (.iload_n 2, 1) := by decide +kernel
theorem dX7_isSign_35 : decode cX7_isSign 35 = .ok (.iadd, 1) := by decide +kernel
theorem dX7_isSign_36 : decode cX7_isSign 36 = .ok (.iaload, 1) := by decide +kernel
theorem dX7_isSign_37 : decode cX7_isSign 37 = .ok (.iadd, 1) := by decide +kernel
theorem dX7_isSign_38 : decode cX7_isSign 38 = .ok (.iaload, 1) := by decide +kernel
theorem dX7_isSign_39 : decode cX7_isSign 39 = .ok (.iload_n 3, 1) := by decide +kernel
theorem dX7_isSign_40 : decode cX7_isSign 40 = .ok (.if_icmp .ne 7, 3) := by decide +kernel
theorem dX7_isSign_43 : decode cX7_isSign 43 = .ok (.iconst 1, 1) := by decide +kernel
theorem dX7_isSign_44 : decode cX7_isSign 44 = .ok (.goto 4, 3) := by decide +kernel
theorem dX7_isSign_47 : decode cX7_isSign 47 = .ok (.iconst 0, 1) := by decide +kernel
theorem dX7_isSign_48 : decode cX7_isSign 48 = .ok (.ireturn, 1) := by decide +kernel
theorem dX7_isWork_0 : decode cX7_isWork 0 = .ok (.aload_n 0, 1) := by decide +kernel
theorem dX7_isWork_1 : decode cX7_isWork 1 = .ok (.iload_n 1, 1) := by decide +kernel
theorem dX7_isWork_2 : decode cX7_isWork 2 = .ok (.iload_n 2, 1) := by decide +kernel
theorem dX7_isWork_3 : decode cX7_isWork 3 = .ok (.bipush 43, 2) := by decide +kernel
theorem dX7_isWork_5 : decode cX7_isWork 5 = .ok (.invokevirtual 219, 3) := by decide +kernel
theorem dX7_isWork_8 : decode cX7_isWork 8 = .ok (.ifCond .ne 25, 3) := by decide +kernel
theorem dX7_isWork_11 : decode cX7_isWork 11 = .ok (.aload_n 0, 1) := by decide +kernel
theorem dX7_isWork_12 : decode cX7_isWork 12 = .ok (.iload_n 1, 1) := by decide +kernel
theorem dX7_isWork_13 : decode cX7_isWork 13 = .ok (.iload_n 2, 1) := by decide +kernel
theorem dX7_isWork_14 : decode cX7_isWork 14 = .ok (.bipush 45, 2) := by decide +kernel
theorem dX7_isWork_16 : decode cX7_isWork 16 = .ok (.invokevirtual 219, 3) := by decide +kernel
theorem dX7_isWork_19 : decode cX7_isWork 19 = .ok (.ifCond .ne 14, 3) := by decide +kernel
theorem dX7_isWork_22 : decode cX7_isWork 22 = .ok (.aload_n 0, 1) := by decide +kernel
theorem dX7_isWork_23 : decode cX7_isWork 23 = .ok (.iload_n 1, 1) := by decide +kernel
theorem dX7_isWork_24 : decode cX7_isWork 24 = .ok (.iload_n 2, 1) := by decide +kernel
theorem dX7_isWork_25 : decode cX7_isWork 25 = .ok (.bipush 60, 2) := by decide +kernel
theorem dX7_isWork_27 : decode cX7_isWork 27 = .ok (.invokevirtual 219, 3) := by decide +kernel
theorem dX7_isWork_30 : decode cX7_isWork 30 = .ok (.ifCond .eq 7, 3) := by decide +kernel
theorem dX7_isWork_33 : decode cX7_isWork 33 = .ok (.iconst 1, 1) := by decide +kernel
theorem dX7_isWork_34 : decode cX7_isWork 34 = .ok (.goto 4, 3) := by decide +kernel
theorem dX7_isWork_37 : decode cX7_isWork 37 = .ok (.iconst 0, 1) := by decide +kernel
theorem dX7_isWork_38 : decode cX7_isWork 38 = .ok (.ireturn, 1) := by decide +kernel
theorem dX7_kindOf_0 : decode cX7_kindOf 0 = .ok (.aload_n 0, 1) := by decide +kernel
theorem dX7_kindOf_1 : decode cX7_kindOf 1 = .ok (.iload_n 1, 1) := by decide +kernel
theorem dX7_kindOf_2 : decode cX7_kindOf 2 = .ok (.iload_n 2, 1) := by decide +kernel
theorem dX7_kindOf_3 : decode cX7_kindOf 3 = .ok (.iconst 1, 1) := by decide +kernel
theorem dX7_kindOf_4 : decode cX7_kindOf 4 = .ok (.iadd, 1) := by decide +kernel
theorem dX7_kindOf_5 : decode cX7_kindOf 5 = .ok (.bipush 59, 2) := by decide +kernel
theorem dX7_kindOf_7 : decode cX7_kindOf 7 = .ok (.invokevirtual 219, 3) := by decide +kernel
theorem dX7_kindOf_10 : decode cX7_kindOf 10 = .ok (.ifCond .eq 5, 3) := by decide +kernel
theorem dX7_kindOf_13 : decode cX7_kindOf 13 = .ok (.iconst 0, 1) := by decide +kernel
theorem dX7_kindOf_14 : decode cX7_kindOf 14 = .ok (.ireturn, 1) := by decide +kernel
theorem dX7_kindOf_15 : decode cX7_kindOf 15 = .ok (.aload_n 0, 1) := by decide +kernel
theorem dX7_kindOf_16 : decode cX7_kindOf 16 = .ok (.iload_n 1, 1) := by decide +kernel
theorem dX7_kindOf_17 : decode cX7_kindOf 17 = .ok (.iload_n 2, 1) := by decide +kernel
theorem dX7_kindOf_18 : decode cX7_kindOf 18 = .ok (.bipush 59, 2) := by decide +kernel
theorem dX7_kindOf_20 : decode cX7_kindOf 20 = .ok (.invokevirtual 219, 3) := by decide +kernel
theorem dX7_kindOf_23 : decode cX7_kindOf 23 = .ok (.ifCond .eq 5, 3) := by decide +kernel
theorem dX7_kindOf_26 : decode cX7_kindOf 26 = .ok (.iconst 1, 1) := by decide +kernel
theorem dX7_kindOf_27 : decode cX7_kindOf 27 = .ok (.ireturn, 1) := by decide +kernel
theorem dX7_kindOf_28 : decode cX7_kindOf 28 = .ok (.aload_n 0, 1) := by decide +kernel
theorem dX7_kindOf_29 : decode cX7_kindOf 29 = .ok (.iload_n 1, 1) := by decide +kernel
theorem dX7_kindOf_30 : decode cX7_kindOf 30 = .ok (.iload_n 2, 1) := by decide +kernel
theorem dX7_kindOf_31 : decode cX7_kindOf 31 = .ok (.bipush 123, 2) := by decide +kernel
theorem dX7_kindOf_33 : decode cX7_kindOf 33 = .ok (.invokevirtual 219, 3) := by decide +kernel
theorem dX7_kindOf_36 : decode cX7_kindOf 36 = .ok (.ifCond .eq 5, 3) := by decide +kernel
theorem dX7_kindOf_39 : decode cX7_kindOf 39 = .ok (.iconst 2, 1) := by decide +kernel
theorem dX7_kindOf_40 : decode cX7_kindOf 40 = .ok (.ireturn, 1) := by decide +kernel
theorem dX7_kindOf_41 : decode cX7_kindOf 41 = .ok (.aload_n 0, 1) := by decide +kernel
theorem dX7_kindOf_42 : decode cX7_kindOf 42 = .ok (.iload_n 1, 1) := by decide +kernel
theorem dX7_kindOf_43 : decode cX7_kindOf 43 = .ok (.iload_n 2, 1) := by decide +kernel
theorem dX7_kindOf_44 : decode cX7_kindOf 44 = .ok (.iconst 1, 1) := by decide +kernel
theorem dX7_kindOf_45 : decode cX7_kindOf 45 = .ok (.iadd, 1) := by decide +kernel
theorem dX7_kindOf_46 : decode cX7_kindOf 46 = .ok (.bipush 125, 2) := by decide +kernel
theorem dX7_kindOf_48 : decode cX7_kindOf 48 = .ok (.invokevirtual 219, 3) := by decide +kernel
theorem dX7_kindOf_51 : decode cX7_kindOf 51 = .ok (.ifCond .eq 5, 3) := by decide +kernel
theorem dX7_kindOf_54 : decode cX7_kindOf 54 = .ok (.iconst 3, 1) := by decide +kernel
theorem dX7_kindOf_55 : decode cX7_kindOf 55 = .ok (.ireturn, 1) := by decide +kernel
theorem dX7_kindOf_56 : decode cX7_kindOf 56 = .ok (.aload_n 0, 1) := by decide +kernel
theorem dX7_kindOf_57 : decode cX7_kindOf 57 = .ok (.iload_n 1, 1) := by decide +kernel
theorem dX7_kindOf_58 : decode cX7_kindOf 58 = .ok (.iload_n 2, 1) := by decide +kernel
theorem dX7_kindOf_59 : decode cX7_kindOf 59 = .ok (.bipush 125, 2) := by decide +kernel
theorem dX7_kindOf_61 : decode cX7_kindOf 61 = .ok (.invokevirtual 219, 3) := by decide +kernel
theorem dX7_kindOf_64 : decode cX7_kindOf 64 = .ok (.ifCond .eq 5, 3) := by decide +kernel
theorem dX7_kindOf_67 : decode cX7_kindOf 67 = .ok (.iconst 4, 1) := by decide +kernel
theorem dX7_kindOf_68 : decode cX7_kindOf 68 = .ok (.ireturn, 1) := by decide +kernel
theorem dX7_kindOf_69 : decode cX7_kindOf 69 = .ok (.aload_n 0, 1) := by decide +kernel
theorem dX7_kindOf_70 : decode cX7_kindOf 70 = .ok (.iload_n 1, 1) := by decide +kernel
theorem dX7_kindOf_71 : decode cX7_kindOf 71 = .ok (.iload_n 2, 1) := by decide +kernel
theorem dX7_kindOf_72 : decode cX7_kindOf 72 = .ok (.iconst 1, 1) := by decide +kernel
theorem dX7_kindOf_73 : decode cX7_kindOf 73 = .ok (.iadd, 1) := by decide +kernel
theorem dX7_kindOf_74 : decode cX7_kindOf 74 = .ok (.bipush 123, 2) := by decide +kernel
theorem dX7_kindOf_76 : decode cX7_kindOf 76 = .ok (.invokevirtual 219, 3) := by decide +kernel
theorem dX7_kindOf_79 : decode cX7_kindOf 79 = .ok (.ifCond .eq 5, 3) := by decide +kernel
theorem dX7_kindOf_82 : decode cX7_kindOf 82 = .ok (.iconst 5, 1) := by decide +kernel
theorem dX7_kindOf_83 : decode cX7_kindOf 83 = .ok (.ireturn, 1) := by decide +kernel
theorem dX7_kindOf_84 : decode cX7_kindOf 84 = .ok (.aload_n 0, 1) := by decide +kernel
theorem dX7_kindOf_85 : decode cX7_kindOf 85 = .ok (.iload_n 1, 1) := by decide +kernel
theorem dX7_kindOf_86 : decode cX7_kindOf 86 = .ok (.iload_n 2, 1) := by decide +kernel
theorem dX7_kindOf_87 : decode cX7_kindOf 87 = .ok (.iconst 1, 1) := by decide +kernel
theorem dX7_kindOf_88 : decode cX7_kindOf 88 = .ok (.iadd, 1) := by decide +kernel
theorem dX7_kindOf_89 : decode cX7_kindOf 89 = .ok (.bipush 44, 2) := by decide +kernel
theorem dX7_kindOf_91 : decode cX7_kindOf 91 = .ok (.invokevirtual 219, 3) := by decide +kernel
theorem dX7_kindOf_94 : decode cX7_kindOf 94 = .ok (.ifCond .eq 6, 3) := by decide +kernel
theorem dX7_kindOf_97 : decode cX7_kindOf 97 = .ok (.bipush 6, 2) := by decide +kernel
theorem dX7_kindOf_99 : decode cX7_kindOf 99 = .ok (.ireturn, 1) := by decide +kernel
theorem dX7_kindOf_100 : decode cX7_kindOf 100 = .ok (.aload_n 0, 1) := by decide +kernel
theorem dX7_kindOf_101 : decode cX7_kindOf 101 = .ok (.iload_n 1, 1) := by decide +kernel
theorem dX7_kindOf_102 : decode cX7_kindOf 102 = .ok (.iload_n 2, 1) := by decide +kernel
theorem dX7_kindOf_103 : decode cX7_kindOf 103 = .ok (.bipush 44, 2) := by decide +kernel
theorem dX7_kindOf_105 : decode cX7_kindOf 105 = .ok (.invokevirtual 219, 3) := by decide +kernel
theorem dX7_kindOf_108 : decode cX7_kindOf 108 = .ok (.ifCond .eq 6, 3) := by decide +kernel
theorem dX7_kindOf_111 : decode cX7_kindOf 111 = .ok (.bipush 7, 2) := by decide +kernel
theorem dX7_kindOf_113 : decode cX7_kindOf 113 = .ok (.ireturn, 1) := by decide +kernel
theorem dX7_kindOf_114 : decode cX7_kindOf 114 = .ok (.aload_n 0, 1) := by decide +kernel
theorem dX7_kindOf_115 : decode cX7_kindOf 115 = .ok (.iload_n 1, 1) := by decide +kernel
theorem dX7_kindOf_116 : decode cX7_kindOf 116 = .ok (.iload_n 2, 1) := by decide +kernel
theorem dX7_kindOf_117 : decode cX7_kindOf 117 = .ok (.bipush 40, 2) := by decide +kernel
theorem dX7_kindOf_119 : decode cX7_kindOf 119 = .ok (.invokevirtual 219, 3) := by decide +kernel
theorem dX7_kindOf_122 : decode cX7_kindOf 122 = .ok (.ifCond .eq 6, 3) := by decide +kernel
theorem dX7_kindOf_125 : decode cX7_kindOf 125 = .ok (.bipush 8, 2) := by decide +kernel
theorem dX7_kindOf_127 : decode cX7_kindOf 127 = .ok (.ireturn, 1) := by decide +kernel
theorem dX7_kindOf_128 : decode cX7_kindOf 128 = .ok (.aload_n 0, 1) := by decide +kernel
theorem dX7_kindOf_129 : decode cX7_kindOf 129 = .ok (.iload_n 1, 1) := by decide +kernel
theorem dX7_kindOf_130 : decode cX7_kindOf 130 = .ok (.iload_n 2, 1) := by decide +kernel
theorem dX7_kindOf_131 : decode cX7_kindOf 131 = .ok (.iconst 1, 1) := by decide +kernel
theorem dX7_kindOf_132 : decode cX7_kindOf 132 = .ok (.iadd, 1) := by decide +kernel
theorem dX7_kindOf_133 : decode cX7_kindOf 133 = .ok (.bipush 41, 2) := by decide +kernel
theorem dX7_kindOf_135 : decode cX7_kindOf 135 = .ok (.invokevirtual 219, 3) := by decide +kernel
theorem dX7_kindOf_138 : decode cX7_kindOf 138 = .ok (.ifCond .eq 6, 3) := by decide +kernel
theorem dX7_kindOf_141 : decode cX7_kindOf 141 = .ok (.bipush 9, 2) := by decide +kernel
theorem dX7_kindOf_143 : decode cX7_kindOf 143 = .ok (.ireturn, 1) := by decide +kernel
theorem dX7_kindOf_144 : decode cX7_kindOf 144 = .ok (.aload_n 0, 1) := by decide +kernel
theorem dX7_kindOf_145 : decode cX7_kindOf 145 = .ok (.iload_n 1, 1) := by decide +kernel
theorem dX7_kindOf_146 : decode cX7_kindOf 146 = .ok (.iload_n 2, 1) := by decide +kernel
theorem dX7_kindOf_147 : decode cX7_kindOf 147 = .ok (.iconst 1, 1) := by decide +kernel
theorem dX7_kindOf_148 : decode cX7_kindOf 148 = .ok (.iadd, 1) := by decide +kernel
theorem dX7_kindOf_149 : decode cX7_kindOf 149 = .ok (.bipush 40, 2) := by decide +kernel
theorem dX7_kindOf_151 : decode cX7_kindOf 151 = .ok (.invokevirtual 219, 3) := by decide +kernel
theorem dX7_kindOf_154 : decode cX7_kindOf 154 = .ok (.ifCond .eq 6, 3) := by decide +kernel
theorem dX7_kindOf_157 : decode cX7_kindOf 157 = .ok (.bipush 10, 2) := by decide +kernel
theorem dX7_kindOf_159 : decode cX7_kindOf 159 = .ok (.ireturn, 1) := by decide +kernel
theorem dX7_kindOf_160 : decode cX7_kindOf 160 = .ok (.aload_n 0, 1) := by decide +kernel
theorem dX7_kindOf_161 : decode cX7_kindOf 161 = .ok (.iload_n 1, 1) := by decide +kernel
theorem dX7_kindOf_162 : decode cX7_kindOf 162 = .ok (.iload_n 2, 1) := by decide +kernel
theorem dX7_kindOf_163 : decode cX7_kindOf 163 = .ok (.iconst 1, 1) := by decide +kernel
theorem dX7_kindOf_164 : decode cX7_kindOf 164 = .ok (.iadd, 1) := by decide +kernel
theorem dX7_kindOf_165 : decode cX7_kindOf 165 = .ok (.bipush 61, 2) := by decide +kernel
theorem dX7_kindOf_167 : decode cX7_kindOf 167 = .ok (.invokevirtual 219, 3) := by decide +kernel
theorem dX7_kindOf_170 : decode cX7_kindOf 170 = .ok (.ifCond .eq 6, 3) := by decide +kernel
theorem dX7_kindOf_173 : decode cX7_kindOf 173 = .ok (.bipush 11, 2) := by decide +kernel
theorem dX7_kindOf_175 : decode cX7_kindOf 175 = .ok (.ireturn, 1) := by decide +kernel
theorem dX7_kindOf_176 : decode cX7_kindOf 176 = .ok (.aload_n 0, 1) := by decide +kernel
theorem dX7_kindOf_177 : decode cX7_kindOf 177 = .ok (.iload_n 1, 1) := by decide +kernel
theorem dX7_kindOf_178 : decode cX7_kindOf 178 = .ok (.iload_n 2, 1) := by decide +kernel
theorem dX7_kindOf_179 : decode cX7_kindOf 179 = .ok (.bipush 61, 2) := by decide +kernel
theorem dX7_kindOf_181 : decode cX7_kindOf 181 = .ok (.invokevirtual 219, 3) := by decide +kernel
theorem dX7_kindOf_184 : decode cX7_kindOf 184 = .ok (.ifCond .eq 6, 3) := by decide +kernel
theorem dX7_kindOf_187 : decode cX7_kindOf 187 = .ok (.bipush 12, 2) := by decide +kernel
theorem dX7_kindOf_189 : decode cX7_kindOf 189 = .ok (.ireturn, 1) := by decide +kernel
theorem dX7_kindOf_190 : decode cX7_kindOf 190 = .ok (.aload_n 0, 1) := by decide +kernel
theorem dX7_kindOf_191 : decode cX7_kindOf 191 = .ok (.iload_n 1, 1) := by decide +kernel
theorem dX7_kindOf_192 : decode cX7_kindOf 192 = .ok (.iload_n 2, 1) := by decide +kernel
theorem dX7_kindOf_193 : decode cX7_kindOf 193 = .ok (.iconst 1, 1) := by decide +kernel
theorem dX7_kindOf_194 : decode cX7_kindOf 194 = .ok (.iadd, 1) := by decide +kernel
theorem dX7_kindOf_195 : decode cX7_kindOf 195 = .ok (.invokevirtual 223, 3) := by decide +kernel
theorem dX7_kindOf_198 : decode cX7_kindOf 198 = .ok (.ifCond .eq 6, 3) := by decide +kernel
theorem dX7_kindOf_201 : decode cX7_kindOf 201 = .ok (.bipush 13, 2) := by decide +kernel
theorem dX7_kindOf_203 : decode cX7_kindOf 203 = .ok (.ireturn, 1) := by decide +kernel
theorem dX7_kindOf_204 : decode cX7_kindOf 204 = .ok (.aload_n 0, 1) := by decide +kernel
theorem dX7_kindOf_205 : decode cX7_kindOf 205 = .ok (.iload_n 1, 1) := by decide +kernel
theorem dX7_kindOf_206 : decode cX7_kindOf 206 = .ok (.iload_n 2, 1) := by decide +kernel
theorem dX7_kindOf_207 : decode cX7_kindOf 207 = .ok (.invokevirtual 223, 3) := by decide +kernel
theorem dX7_kindOf_210 : decode cX7_kindOf 210 = .ok (.ifCond .eq 8, 3) := by decide +kernel
theorem dX7_kindOf_213 : decode cX7_kindOf 213 = .ok (.bipush 14, 2) := by decide +kernel
theorem dX7_kindOf_215 : decode cX7_kindOf 215 = .ok (.goto 5, 3) := by decide +kernel
theorem dX7_kindOf_218 : decode cX7_kindOf 218 = .ok (.bipush 15, 2) := by decide +kernel
theorem dX7_kindOf_220 : decode cX7_kindOf 220 = .ok (.ireturn, 1) := by decide +kernel
theorem dX7_choiceOf_0 : decode cX7_choiceOf 0 = .ok (.aload_n 0, 1) := by decide +kernel
theorem dX7_choiceOf_1 : decode cX7_choiceOf 1 = .ok (.getfield 36, 3) := by decide +kernel
theorem dX7_choiceOf_4 : decode cX7_choiceOf 4 = .ok (.sipush 201, 3) := by decide +kernel
theorem dX7_choiceOf_7 : decode cX7_choiceOf 7 = .ok (.iload_n 1, 1) := by decide +kernel
theorem dX7_choiceOf_8 : decode cX7_choiceOf 8 = .ok (.imul, 1) := by decide +kernel
theorem dX7_choiceOf_9 : decode cX7_choiceOf 9 = .ok (.iload_n 2, 1) := by decide +kernel
theorem dX7_choiceOf_10 : decode cX7_choiceOf 10 = .ok (.iadd, 1) := by decide +kernel
theorem dX7_choiceOf_11 : decode cX7_choiceOf 11 = .ok (.iaload, 1) := by decide +kernel
theorem dX7_choiceOf_12 : decode cX7_choiceOf 12 = .ok (.aload_n 0, 1) := by decide +kernel
theorem dX7_choiceOf_13 : decode cX7_choiceOf 13 = .ok (.getfield 39, 3) := by decide +kernel
theorem dX7_choiceOf_16 : decode cX7_choiceOf 16 = .ok (.sipush 201, 3) := by decide +kernel
theorem dX7_choiceOf_19 : decode cX7_choiceOf 19 = .ok (.iload_n 1, 1) := by decide +kernel
theorem dX7_choiceOf_20 : decode cX7_choiceOf 20 = .ok (.imul, 1) := by decide +kernel
theorem dX7_choiceOf_21 : decode cX7_choiceOf 21 = .ok (.iload_n 2, 1) := by decide +kernel
theorem dX7_choiceOf_22 : decode cX7_choiceOf 22 = .ok (.iadd, 1) := by decide +kernel
theorem dX7_choiceOf_23 : decode cX7_choiceOf 23 = .ok (.iaload, 1) := by decide +kernel
theorem dX7_choiceOf_24 : decode cX7_choiceOf 24 = .ok (.iadd, 1) := by decide +kernel
theorem dX7_choiceOf_25 : decode cX7_choiceOf 25 = .ok (.istore_n 3, 1) := by decide +kernel
theorem dX7_choiceOf_26 : decode cX7_choiceOf 26 = .ok (.aload_n 0, 1) := by decide +kernel
theorem dX7_choiceOf_27 : decode cX7_choiceOf 27 = .ok (.getfield 36, 3) := by decide +kernel
theorem dX7_choiceOf_30 : decode cX7_choiceOf 30 = .ok (.sipush 201, 3) := by decide +kernel
theorem dX7_choiceOf_33 : decode cX7_choiceOf 33 = .ok (.iload_n 1, 1) := by decide +kernel
theorem dX7_choiceOf_34 : decode cX7_choiceOf 34 = .ok (.imul, 1) := by decide +kernel
theorem dX7_choiceOf_35 : decode cX7_choiceOf 35 = .ok (.iload_n 2, 1) := by decide +kernel
theorem dX7_choiceOf_36 : decode cX7_choiceOf 36 = .ok (.iadd, 1) := by decide +kernel
theorem dX7_choiceOf_37 : decode cX7_choiceOf 37 = .ok (.iconst 1, 1) := by decide +kernel
theorem dX7_choiceOf_38 : decode cX7_choiceOf 38 = .ok (.iadd, 1) := by decide +kernel
theorem dX7_choiceOf_39 : decode cX7_choiceOf 39 = .ok (.iaload, 1) := by decide +kernel
theorem dX7_choiceOf_40 : decode cX7_choiceOf 40 = .ok (.iload_n 3, 1) := by decide +kernel
theorem dX7_choiceOf_41 : decode cX7_choiceOf 41 = .ok (.isub, 1) := by decide +kernel
theorem dX7_choiceOf_42 : decode cX7_choiceOf 42 = .ok (.istore 4, 2) := by decide +kernel
theorem dX7_choiceOf_44 : decode cX7_choiceOf 44 = .ok (.iload 4, 2) := by decide +kernel
theorem dX7_choiceOf_46 : decode cX7_choiceOf 46 = .ok (.ifCond .ne 5, 3) := by decide +kernel
theorem dX7_choiceOf_49 : decode cX7_choiceOf 49 = .ok (.iconst 0, 1) := by decide +kernel
theorem dX7_choiceOf_50 : decode cX7_choiceOf 50 = .ok (.ireturn, 1) := by decide +kernel
theorem dX7_choiceOf_51 : decode cX7_choiceOf 51 = .ok (.aload_n 0, 1) := by decide +kernel
theorem dX7_choiceOf_52 : decode cX7_choiceOf 52 = .ok (.getfield 21, 3) := by decide +kernel
theorem dX7_choiceOf_55 : decode cX7_choiceOf 55 = .ok (.sipush 800, 3) := by decide +kernel
theorem dX7_choiceOf_58 : decode cX7_choiceOf 58 = .ok (.iload_n 1, 1) := by decide +kernel
theorem dX7_choiceOf_59 : decode cX7_choiceOf 59 = .ok (.imul, 1) := by decide +kernel
theorem dX7_choiceOf_60 : decode cX7_choiceOf 60 = .ok (.iload_n 3, 1) := by decide +kernel
theorem dX7_choiceOf_61 : decode cX7_choiceOf 61 = .ok (.iadd, 1) := by decide +kernel
theorem dX7_choiceOf_62 : decode cX7_choiceOf 62 = .ok (.iaload, 1) := by decide +kernel
theorem dX7_choiceOf_63 : decode cX7_choiceOf 63 = .ok (.istore 5, 2) := by decide +kernel
theorem dX7_choiceOf_65 : decode cX7_choiceOf 65 = .ok (.iload 4, 2) := by decide +kernel
theorem dX7_choiceOf_67 : decode cX7_choiceOf 67 = .ok (.iconst 1, 1) := by decide +kernel
theorem dX7_choiceOf_68 : decode cX7_choiceOf 68 = .ok (.if_icmp .ne 12, 3) := by decide +kernel
theorem dX7_choiceOf_71 : decode cX7_choiceOf 71 = .ok (.iload 5, 2) := by decide +kernel
theorem dX7_choiceOf_73 : decode cX7_choiceOf 73 = .ok (.bipush 32, 2) := by decide +kernel
theorem dX7_choiceOf_75 : decode cX7_choiceOf 75 = .ok (.if_icmp .ne 5, 3) := by decide +kernel
theorem dX7_choiceOf_78 : decode cX7_choiceOf 78 = .ok (.iconst 1, 1) := by decide +kernel
theorem dX7_choiceOf_79 : decode cX7_choiceOf 79 = .ok (.ireturn, 1) := by decide +kernel
theorem dX7_choiceOf_80 : decode cX7_choiceOf 80 = .ok (.iload 5, 2) := by decide +kernel
theorem dX7_choiceOf_82 : decode cX7_choiceOf 82 = .ok (.bipush 10, 2) := by decide +kernel
theorem dX7_choiceOf_84 : decode cX7_choiceOf 84 = .ok (.if_icmp .ne 30, 3) := by decide +kernel
theorem dX7_choiceOf_87 : decode cX7_choiceOf 87 = .ok (.iload 4, 2) := by decide +kernel
theorem dX7_choiceOf_89 : decode cX7_choiceOf 89 = .ok (.iconst 1, 1) := by decide +kernel
theorem dX7_choiceOf_90 : decode cX7_choiceOf 90 = .ok (.iconst 2, 1) := by decide +kernel
theorem dX7_choiceOf_91 : decode cX7_choiceOf 91 = .ok (.aload_n 0, 1) := by decide +kernel
theorem dX7_choiceOf_92 : decode cX7_choiceOf 92 = .ok (.getfield 45, 3) := by decide +kernel
theorem dX7_choiceOf_95 : decode cX7_choiceOf 95 = .ok (.sipush 201, 3) := by decide +kernel
theorem dX7_choiceOf_98 : decode cX7_choiceOf 98 = .ok (.iload_n 1, 1) := by decide +kernel
theorem dX7_choiceOf_99 : decode cX7_choiceOf 99 = .ok (.imul, 1) := by decide +kernel
theorem dX7_choiceOf_100 : decode cX7_choiceOf 100 = .ok (.iload_n 2, 1) := by decide +kernel
theorem dX7_choiceOf_101 : decode cX7_choiceOf 101 = .ok (.iadd, 1) := by decide +kernel
theorem dX7_choiceOf_102 : decode cX7_choiceOf 102 = .ok (.iconst 1, 1) := by decide +kernel
theorem dX7_choiceOf_103 : decode cX7_choiceOf 103 = .ok (.iadd, 1) := by decide +kernel
theorem dX7_choiceOf_104 : decode cX7_choiceOf 104 = .ok (.iaload, 1) := by decide +kernel
theorem dX7_choiceOf_105 : decode cX7_choiceOf 105 = .ok (.imul, 1) := by decide +kernel
theorem dX7_choiceOf_106 : decode cX7_choiceOf 106 = .ok (.iadd, 1) := by decide +kernel
theorem dX7_choiceOf_107 : decode cX7_choiceOf 107 = .ok (.if_icmp .ne 7, 3) := by decide +kernel
theorem dX7_choiceOf_110 : decode cX7_choiceOf 110 = .ok (.iconst 1, 1) := by decide +kernel
theorem dX7_choiceOf_111 : decode cX7_choiceOf 111 = .ok (.goto 4, 3) := by decide +kernel
theorem dX7_choiceOf_114 : decode cX7_choiceOf 114 = .ok (.iconst 0, 1) := by decide +kernel
theorem dX7_choiceOf_115 : decode cX7_choiceOf 115 = .ok (.istore 6, 2) := by decide +kernel
theorem dX7_choiceOf_117 : decode cX7_choiceOf 117 = .ok (.iconst 1, 1) := by decide +kernel
theorem dX7_choiceOf_118 : decode cX7_choiceOf 118 = .ok (.istore 7, 2) := by decide +kernel
theorem dX7_choiceOf_120 : decode cX7_choiceOf 120 = .ok (.iload 7, 2) := by decide +kernel
theorem dX7_choiceOf_122 : decode cX7_choiceOf 122 = .ok (.iload 4, 2) := by decide +kernel
theorem dX7_choiceOf_124 : decode cX7_choiceOf 124 = .ok (.if_icmp .ge 41, 3) := by decide +kernel
theorem dX7_choiceOf_127 : decode cX7_choiceOf 127 = .ok (.iload 6, 2) := by decide +kernel
theorem dX7_choiceOf_129 : decode cX7_choiceOf 129 = .ok (.ifCond .eq 36, 3) := by decide +kernel
theorem dX7_choiceOf_132 : decode cX7_choiceOf 132 = .ok (.aload_n 0, 1) := by decide +kernel
theorem dX7_choiceOf_133 : decode cX7_choiceOf 133 = .ok (.getfield 21, 3) := by decide +kernel
theorem dX7_choiceOf_136 : decode cX7_choiceOf 136 = .ok (.sipush 800, 3) := by decide +kernel
theorem dX7_choiceOf_139 : decode cX7_choiceOf 139 = .ok (.iload_n 1, 1) := by decide +kernel
theorem dX7_choiceOf_140 : decode cX7_choiceOf 140 = .ok (.imul, 1) := by decide +kernel
theorem dX7_choiceOf_141 : decode cX7_choiceOf 141 = .ok (.iload_n 3, 1) := by decide +kernel
theorem dX7_choiceOf_142 : decode cX7_choiceOf 142 = .ok (.iadd, 1) := by decide +kernel
theorem dX7_choiceOf_143 : decode cX7_choiceOf 143 = .ok (.iload 7, 2) := by decide +kernel
theorem dX7_choiceOf_145 : decode cX7_choiceOf 145 = .ok (.iadd, 1) := by decide +kernel
theorem dX7_choiceOf_146 : decode cX7_choiceOf 146 = .ok (.iaload, 1) := by decide +kernel
theorem dX7_choiceOf_147 : decode cX7_choiceOf 147 = .ok (.bipush 32, 2) := by decide +kernel
theorem dX7_choiceOf_149 : decode cX7_choiceOf 149 = .ok (.if_icmp .ne 7, 3) := by decide +kernel
theorem dX7_choiceOf_152 : decode cX7_choiceOf 152 = .ok (.iconst 1, 1) := by decide +kernel
theorem dX7_choiceOf_153 : decode cX7_choiceOf 153 = .ok (.goto 4, 3) := by decide +kernel
theorem dX7_choiceOf_156 : decode cX7_choiceOf 156 = .ok (.iconst 0, 1) := by decide +kernel
theorem dX7_choiceOf_157 : decode cX7_choiceOf 157 = .ok (.istore 6, 2) := by decide +kernel
theorem dX7_choiceOf_159 : decode cX7_choiceOf 159 = .ok (.iinc 7 1, 3) := by decide +kernel
theorem dX7_choiceOf_162 : decode cX7_choiceOf 162 = .ok (.goto (-42), 3) := by decide +kernel
theorem dX7_choiceOf_165 : decode cX7_choiceOf 165 = .ok (.iload 6, 2) := by decide +kernel
theorem dX7_choiceOf_167 : decode cX7_choiceOf 167 = .ok (.ifCond .eq 7, 3) := by decide +kernel
theorem dX7_choiceOf_170 : decode cX7_choiceOf 170 = .ok (.iconst 2, 1) := by decide +kernel
theorem dX7_choiceOf_171 : decode cX7_choiceOf 171 = .ok (.goto 4, 3) := by decide +kernel
theorem dX7_choiceOf_174 : decode cX7_choiceOf 174 = .ok (.iconst 3, 1) := by decide +kernel
theorem dX7_choiceOf_175 : decode cX7_choiceOf 175 = .ok (.ireturn, 1) := by decide +kernel
theorem dX7_testsOf_0 : decode cX7_testsOf 0 = .ok (.aload_n 0, 1) := by decide +kernel
theorem dX7_testsOf_1 : decode cX7_testsOf 1 = .ok (.getfield 45, 3) := by decide +kernel
theorem dX7_testsOf_4 : decode cX7_testsOf 4 = .ok (.sipush 201, 3) := by decide +kernel
theorem dX7_testsOf_7 : decode cX7_testsOf 7 = .ok (.iload_n 1, 1) := by decide +kernel
theorem dX7_testsOf_8 : decode cX7_testsOf 8 = .ok (.imul, 1) := by decide +kernel
theorem dX7_testsOf_9 : decode cX7_testsOf 9 = .ok (.iload_n 2, 1) := by decide +kernel
theorem dX7_testsOf_10 : decode cX7_testsOf 10 = .ok (.iadd, 1) := by decide +kernel
theorem dX7_testsOf_11 : decode cX7_testsOf 11 = .ok (.iconst 1, 1) := by decide +kernel
theorem dX7_testsOf_12 : decode cX7_testsOf 12 = .ok (.iadd, 1) := by decide +kernel
theorem dX7_testsOf_13 : decode cX7_testsOf 13 = .ok (.iaload, 1) := by decide +kernel
theorem dX7_testsOf_14 : decode cX7_testsOf 14 = .ok (.istore_n 3, 1) := by decide +kernel
theorem dX7_testsOf_15 : decode cX7_testsOf 15 = .ok (.iload_n 3, 1) := by decide +kernel
theorem dX7_testsOf_16 : decode cX7_testsOf 16 = .ok (.ifCond .ne 7, 3) := by decide +kernel
theorem dX7_testsOf_19 : decode cX7_testsOf 19 = .ok (.iconst 1, 1) := by decide +kernel
theorem dX7_testsOf_20 : decode cX7_testsOf 20 = .ok (.goto 13, 3) := by decide +kernel
theorem dX7_testsOf_23 : decode cX7_testsOf 23 = .ok (.iload_n 3, 1) := by decide +kernel
theorem dX7_testsOf_24 : decode cX7_testsOf 24 = .ok (.iconst 2, 1) := by decide +kernel
theorem dX7_testsOf_25 : decode cX7_testsOf 25 = .ok (.if_icmp .lt 7, 3) := by decide +kernel
theorem dX7_testsOf_28 : decode cX7_testsOf 28 = .ok (.iconst 2, 1) := by decide +kernel
theorem dX7_testsOf_29 : decode cX7_testsOf 29 = .ok (.goto 4, 3) := by decide +kernel
theorem dX7_testsOf_32 : decode cX7_testsOf 32 = .ok (.iconst 0, 1) := by decide +kernel
theorem dX7_testsOf_33 : decode cX7_testsOf 33 = .ok (.istore 4, 2) := by decide +kernel
theorem dX7_testsOf_35 : decode cX7_testsOf 35 = .ok (.iload 4, 2) := by decide +kernel
theorem dX7_testsOf_37 : decode cX7_testsOf 37 = .ok (.iconst 4, 1) := by decide +kernel
theorem dX7_testsOf_38 : decode cX7_testsOf 38 = .ok (.aload_n 0, 1) := by decide +kernel
theorem dX7_testsOf_39 : decode cX7_testsOf 39 = .ok (.getfield 48, 3) := by decide +kernel
theorem dX7_testsOf_42 : decode cX7_testsOf 42 = .ok (.sipush 201, 3) := by decide +kernel
theorem dX7_testsOf_45 : decode cX7_testsOf 45 = .ok (.iload_n 1, 1) := by decide +kernel
theorem dX7_testsOf_46 : decode cX7_testsOf 46 = .ok (.imul, 1) := by decide +kernel
theorem dX7_testsOf_47 : decode cX7_testsOf 47 = .ok (.iload_n 2, 1) := by decide +kernel
theorem dX7_testsOf_48 : decode cX7_testsOf 48 = .ok (.iadd, 1) := by decide +kernel
theorem dX7_testsOf_49 : decode cX7_testsOf 49 = .ok (.iaload, 1) := by decide +kernel
theorem dX7_testsOf_50 : decode cX7_testsOf 50 = .ok (.ishl, 1) := by decide +kernel
theorem dX7_testsOf_51 : decode cX7_testsOf 51 = .ok (.ior, 1) := by decide +kernel
theorem dX7_testsOf_52 : decode cX7_testsOf 52 = .ok (.bipush 64, 2) := by decide +kernel
theorem dX7_testsOf_54 : decode cX7_testsOf 54 = .ok (.aload_n 0, 1) := by decide +kernel
theorem dX7_testsOf_55 : decode cX7_testsOf 55 = .ok (.getfield 27, 3) := by decide +kernel
theorem dX7_testsOf_58 : decode cX7_testsOf 58 = .ok (.iload_n 1, 1) := by decide +kernel
theorem dX7_testsOf_59 : decode cX7_testsOf 59 = .ok (.iaload, 1) := by decide +kernel
theorem dX7_testsOf_60 : decode cX7_testsOf 60 = .ok (.ishl, 1) := by decide +kernel
theorem dX7_testsOf_61 : decode cX7_testsOf 61 = .ok (.ior, 1) := by decide +kernel
theorem dX7_testsOf_62 : decode cX7_testsOf 62 = .ok (.ireturn, 1) := by decide +kernel
theorem dX7_isPair_0 : decode cX7_isPair 0 = .ok (.aload_n 0, 1) := by decide +kernel
theorem dX7_isPair_1 : decode cX7_isPair 1 = .ok (.getfield 42, 3) := by decide +kernel
theorem dX7_isPair_4 : decode cX7_isPair 4 = .ok (.sipush 201, 3) := by decide +kernel
theorem dX7_isPair_7 : decode cX7_isPair 7 = .ok (.iload_n 1, 1) := by decide +kernel
theorem dX7_isPair_8 : decode cX7_isPair 8 = .ok (.imul, 1) := by decide +kernel
theorem dX7_isPair_9 : decode cX7_isPair 9 = .ok (.iload_n 2, 1) := by decide +kernel
theorem dX7_isPair_10 : decode cX7_isPair 10 = .ok (.iadd, 1) := by decide +kernel
theorem dX7_isPair_11 : decode cX7_isPair 11 = .ok (.iaload, 1) := by decide +kernel
theorem dX7_isPair_12 : decode cX7_isPair 12 = .ok (.iconst 2, 1) := by decide +kernel
theorem dX7_isPair_13 : decode cX7_isPair 13 = .ok (.if_icmp .eq 25, 3) := by decide +kernel
theorem dX7_isPair_16 : decode cX7_isPair 16 = .ok (.aload_n 0, 1) := by decide +kernel
theorem dX7_isPair_17 : decode cX7_isPair 17 = .ok (.getfield 42, 3) := by decide +kernel
theorem dX7_isPair_20 : decode cX7_isPair 20 = .ok (.sipush 201, 3) := by decide +kernel
theorem dX7_isPair_23 : decode cX7_isPair 23 = .ok (.iload_n 1, 1) := by decide +kernel
theorem dX7_isPair_24 : decode cX7_isPair 24 = .ok (.imul, 1) := by decide +kernel
theorem dX7_isPair_25 : decode cX7_isPair 25 = .ok (.iload_n 2, 1) := by decide +kernel
theorem dX7_isPair_26 : decode cX7_isPair 26 = .ok (.iadd, 1) := by decide +kernel
theorem dX7_isPair_27 : decode cX7_isPair 27 = .ok (.iconst 1, 1) := by decide +kernel
theorem dX7_isPair_28 : decode cX7_isPair 28 = .ok (.iadd, 1) := by decide +kernel
theorem dX7_isPair_29 : decode cX7_isPair 29 = .ok (.iaload, 1) := by decide +kernel
theorem dX7_isPair_30 : decode cX7_isPair 30 = .ok (.iconst 2, 1) := by decide +kernel
theorem dX7_isPair_31 : decode cX7_isPair 31 = .ok (.if_icmp .eq 7, 3) := by decide +kernel
theorem dX7_isPair_34 : decode cX7_isPair 34 = .ok (.iconst 1, 1) := by decide +kernel
theorem dX7_isPair_35 : decode cX7_isPair 35 = .ok (.goto 4, 3) := by decide +kernel
theorem dX7_isPair_38 : decode cX7_isPair 38 = .ok (.iconst 0, 1) := by decide +kernel
theorem dX7_isPair_39 : decode cX7_isPair 39 = .ok (.ireturn, 1) := by decide +kernel
theorem dX7_gap_0 : decode cX7_gap 0 = .ok (.aload_n 0, 1) := by decide +kernel
theorem dX7_gap_1 : decode cX7_gap 1 = .ok (.iload_n 1, 1) := by decide +kernel
theorem dX7_gap_2 : decode cX7_gap 2 = .ok (.invokevirtual 216, 3) := by decide +kernel
theorem dX7_gap_5 : decode cX7_gap 5 = .ok (.ifCond .eq 41, 3) := by decide +kernel
theorem dX7_gap_8 : decode cX7_gap 8 = .ok (.aload_n 0, 1) := by decide +kernel
theorem dX7_gap_9 : decode cX7_gap 9 = .ok (.iload_n 2, 1) := by decide +kernel
theorem dX7_gap_10 : decode cX7_gap 10 = .ok (.ifCond .lt 28, 3) := by decide +kernel
theorem dX7_gap_13 : decode cX7_gap 13 = .ok (.iload_n 2, 1) := by decide +kernel
theorem dX7_gap_14 : decode cX7_gap 14 = .ok (.aload_n 0, 1) := by decide +kernel
theorem dX7_gap_15 : decode cX7_gap 15 = .ok (.getfield 30, 3) := by decide +kernel
theorem dX7_gap_18 : decode cX7_gap 18 = .ok (.iload_n 1, 1) := by decide +kernel
theorem dX7_gap_19 : decode cX7_gap 19 = .ok (.iaload, 1) := by decide +kernel
theorem dX7_gap_20 : decode cX7_gap 20 = .ok (.iconst 1, 1) := by decide +kernel
theorem dX7_gap_21 : decode cX7_gap 21 = .ok (.isub, 1) := by decide +kernel
theorem dX7_gap_22 : decode cX7_gap 22 = .ok (.if_icmp .ge 16, 3) := by decide +kernel
theorem dX7_gap_25 : decode cX7_gap 25 = .ok (.iload_n 3, 1) := by decide +kernel
theorem dX7_gap_26 : decode cX7_gap 26 = .ok (.ifCond .lt 12, 3) := by decide +kernel
theorem dX7_gap_29 : decode cX7_gap 29 = .ok (.iload_n 3, 1) := by decide +kernel
theorem dX7_gap_30 : decode cX7_gap 30 = .ok (.iconst 3, 1) := by decide +kernel
theorem dX7_gap_31 : decode cX7_gap 31 = .ok (.if_icmp .gt 7, 3) := by decide +kernel
theorem dX7_gap_34 : decode cX7_gap 34 = .ok (.iconst 1, 1) := by decide +kernel
theorem dX7_gap_35 : decode cX7_gap 35 = .ok (.goto 4, 3) := by decide +kernel
theorem dX7_gap_38 : decode cX7_gap 38 = .ok (.iconst 0, 1) := by decide +kernel
theorem dX7_gap_39 : decode cX7_gap 39 = .ok (.iconst 1, 1) := by decide +kernel
theorem dX7_gap_40 : decode cX7_gap 40 = .ok (.invokevirtual 208, 3) := by decide +kernel
theorem dX7_gap_43 : decode cX7_gap 43 = .ok (.ifCond .ne 5, 3) := by decide +kernel
theorem dX7_gap_46 : decode cX7_gap 46 = .ok (.iconst 0, 1) := by decide +kernel
theorem dX7_gap_47 : decode cX7_gap 47 = .ok (.ireturn, 1) := by decide +kernel
theorem dX7_gap_48 : decode cX7_gap 48 = .ok (.iload_n 3, 1) := by decide +kernel
theorem dX7_gap_49 : decode cX7_gap 49 = .ok (.ifCond .ne 12, 3) := by decide +kernel
theorem dX7_gap_52 : decode cX7_gap 52 = .ok (.aload_n 0, 1) := by decide +kernel
theorem dX7_gap_53 : decode cX7_gap 53 = .ok (.iload_n 1, 1) := by decide +kernel
theorem dX7_gap_54 : decode cX7_gap 54 = .ok (.iload_n 2, 1) := by decide +kernel
theorem dX7_gap_55 : decode cX7_gap 55 = .ok (.invokevirtual 226, 3) := by decide +kernel
theorem dX7_gap_58 : decode cX7_gap 58 = .ok (.goto 45, 3) := by decide +kernel
theorem dX7_gap_61 : decode cX7_gap 61 = .ok (.iload_n 3, 1) := by decide +kernel
theorem dX7_gap_62 : decode cX7_gap 62 = .ok (.iconst 1, 1) := by decide +kernel
theorem dX7_gap_63 : decode cX7_gap 63 = .ok (.if_icmp .ne 12, 3) := by decide +kernel
theorem dX7_gap_66 : decode cX7_gap 66 = .ok (.aload_n 0, 1) := by decide +kernel
theorem dX7_gap_67 : decode cX7_gap 67 = .ok (.iload_n 1, 1) := by decide +kernel
theorem dX7_gap_68 : decode cX7_gap 68 = .ok (.iload_n 2, 1) := by decide +kernel
theorem dX7_gap_69 : decode cX7_gap 69 = .ok (.invokevirtual 229, 3) := by decide +kernel
theorem dX7_gap_72 : decode cX7_gap 72 = .ok (.goto 31, 3) := by decide +kernel
theorem dX7_gap_75 : decode cX7_gap 75 = .ok (.iload_n 3, 1) := by decide +kernel
theorem dX7_gap_76 : decode cX7_gap 76 = .ok (.iconst 2, 1) := by decide +kernel
theorem dX7_gap_77 : decode cX7_gap 77 = .ok (.if_icmp .ne 20, 3) := by decide +kernel
theorem dX7_gap_80 : decode cX7_gap 80 = .ok (.aload_n 0, 1) := by decide +kernel
theorem dX7_gap_81 : decode cX7_gap 81 = .ok (.getfield 45, 3) := by decide +kernel
theorem dX7_gap_84 : decode cX7_gap 84 = .ok (.sipush 201, 3) := by decide +kernel
theorem dX7_gap_87 : decode cX7_gap 87 = .ok (.iload_n 1, 1) := by decide +kernel
theorem dX7_gap_88 : decode cX7_gap 88 = .ok (.imul, 1) := by decide +kernel
theorem dX7_gap_89 : decode cX7_gap 89 = .ok (.iload_n 2, 1) := by decide +kernel
theorem dX7_gap_90 : decode cX7_gap 90 = .ok (.iadd, 1) := by decide +kernel
theorem dX7_gap_91 : decode cX7_gap 91 = .ok (.iconst 1, 1) := by decide +kernel
theorem dX7_gap_92 : decode cX7_gap 92 = .ok (.iadd, 1) := by decide +kernel
theorem dX7_gap_93 : decode cX7_gap 93 = .ok (.iaload, 1) := by decide +kernel
theorem dX7_gap_94 : decode cX7_gap 94 = .ok (.goto 9, 3) := by decide +kernel
theorem dX7_gap_97 : decode cX7_gap 97 = .ok (.aload_n 0, 1) := by decide +kernel
theorem dX7_gap_98 : decode cX7_gap 98 = .ok (.iload_n 1, 1) := by decide +kernel
theorem dX7_gap_99 : decode cX7_gap 99 = .ok (.iload_n 2, 1) := by decide +kernel
theorem dX7_gap_100 : decode cX7_gap 100 = .ok (.invokevirtual 232, 3) := by decide +kernel
theorem dX7_gap_103 : decode cX7_gap 103 = .ok (.ireturn, 1) := by decide +kernel
theorem dX7_seen_0 : decode cX7_seen 0 = .ok (.aload_n 0, 1) := by decide +kernel
theorem dX7_seen_1 : decode cX7_seen 1 = .ok (.iconst 0, 1) := by decide +kernel
theorem dX7_seen_2 : decode cX7_seen 2 = .ok (.putfield 78, 3) := by decide +kernel
theorem dX7_seen_5 : decode cX7_seen 5 = .ok (.aload_n 0, 1) := by decide +kernel
theorem dX7_seen_6 : decode cX7_seen 6 = .ok (.iload_n 1, 1) := by decide +kernel
theorem dX7_seen_7 : decode cX7_seen 7 = .ok (.ifCond .lt 23, 3) := by decide +kernel
theorem dX7_seen_10 : decode cX7_seen 10 = .ok (.iload_n 1, 1) := by decide +kernel
theorem dX7_seen_11 : decode cX7_seen 11 = .ok (.bipush 15, 2) := by decide +kernel
theorem dX7_seen_13 : decode cX7_seen 13 = .ok (.if_icmp .gt 17, 3) := by decide +kernel
theorem dX7_seen_16 : decode cX7_seen 16 = .ok (.iload_n 2, 1) := by decide +kernel
theorem dX7_seen_17 : decode cX7_seen 17 = .ok (.iconst (-1), 1) := by decide +kernel
theorem dX7_seen_18 : decode cX7_seen 18 = .ok (.if_icmp .lt 12, 3) := by decide +kernel
theorem dX7_seen_21 : decode cX7_seen 21 = .ok (.iload_n 2, 1) := by decide +kernel
theorem dX7_seen_22 : decode cX7_seen 22 = .ok (.iconst 3, 1) := by decide +kernel
theorem dX7_seen_23 : decode cX7_seen 23 = .ok (.if_icmp .gt 7, 3) := by decide +kernel
theorem dX7_seen_26 : decode cX7_seen 26 = .ok (.iconst 1, 1) := by decide +kernel
theorem dX7_seen_27 : decode cX7_seen 27 = .ok (.goto 4, 3) := by decide +kernel
theorem dX7_seen_30 : decode cX7_seen 30 = .ok (.iconst 0, 1) := by decide +kernel
theorem dX7_seen_31 : decode cX7_seen 31 = .ok (.iconst 1, 1) := by decide +kernel
theorem dX7_seen_32 : decode cX7_seen 32 = .ok (.invokevirtual 208, 3) := by decide +kernel
theorem dX7_seen_35 : decode cX7_seen 35 = .ok (.ifCond .ne 5, 3) := by decide +kernel
theorem dX7_seen_38 : decode cX7_seen 38 = .ok (.iconst 0, 1) := by decide +kernel
theorem dX7_seen_39 : decode cX7_seen 39 = .ok (.ireturn, 1) := by decide +kernel
theorem dX7_seen_40 : decode cX7_seen 40 = .ok (.iconst 0, 1) := by decide +kernel
theorem dX7_seen_41 : decode cX7_seen 41 = .ok (.istore_n 3, 1) := by decide +kernel
theorem dX7_seen_42 : decode cX7_seen 42 = .ok (.iconst 0, 1) := by decide +kernel
theorem dX7_seen_43 : decode cX7_seen 43 = .ok (.istore 4, 2) := by decide +kernel
theorem dX7_seen_45 : decode cX7_seen 45 = .ok (.iload 4, 2) := by decide +kernel
theorem dX7_seen_47 : decode cX7_seen 47 = .ok (.bipush 12, 2) := by decide +kernel
theorem dX7_seen_49 : decode cX7_seen 49 = .ok (.if_icmp .ge 74, 3) := by decide +kernel
theorem dX7_seen_52 : decode cX7_seen 52 = .ok (.iconst 0, 1) := by decide +kernel
theorem dX7_seen_53 : decode cX7_seen 53 = .ok (.istore 5, 2) := by decide +kernel
theorem dX7_seen_55 : decode cX7_seen 55 = .ok (.aload_n 0, 1) := by decide +kernel
theorem dX7_seen_56 : decode cX7_seen 56 = .ok (.getfield 17, 3) := by decide +kernel
theorem dX7_seen_59 : decode cX7_seen 59 = .ok (.iload 4, 2) := by decide +kernel
theorem dX7_seen_61 : decode cX7_seen 61 = .ok (.baload, 1) := by decide +kernel
theorem dX7_seen_62 : decode cX7_seen 62 = .ok (.ifCond .eq 55, 3) := by decide +kernel
theorem dX7_seen_65 : decode cX7_seen 65 = .ok (.iload 5, 2) := by decide +kernel
theorem dX7_seen_67 : decode cX7_seen 67 = .ok (.aload_n 0, 1) := by decide +kernel
theorem dX7_seen_68 : decode cX7_seen 68 = .ok (.getfield 30, 3) := by decide +kernel
theorem dX7_seen_71 : decode cX7_seen 71 = .ok (.iload 4, 2) := by decide +kernel
theorem dX7_seen_73 : decode cX7_seen 73 = .ok (.iaload, 1) := by decide +kernel
theorem dX7_seen_74 : decode cX7_seen 74 = .ok (.iconst 1, 1) := by decide +kernel
theorem dX7_seen_75 : decode cX7_seen 75 = .ok (.isub, 1) := by decide +kernel
theorem dX7_seen_76 : decode cX7_seen 76 = .ok (.if_icmp .ge 41, 3) := by decide +kernel
theorem dX7_seen_79 : decode cX7_seen 79 = .ok (.aload_n 0, 1) := by decide +kernel
theorem dX7_seen_80 : decode cX7_seen 80 = .ok (.iload 4, 2) := by decide +kernel
theorem dX7_seen_82 : decode cX7_seen 82 = .ok (.iload 5, 2) := by decide +kernel
theorem dX7_seen_84 : decode cX7_seen 84 = .ok (.invokevirtual 226, 3) := by decide +kernel
theorem dX7_seen_87 : decode cX7_seen 87 = .ok (.iload_n 1, 1) := by decide +kernel
theorem dX7_seen_88 : decode cX7_seen 88 = .ok (.if_icmp .ne 23, 3) := by decide +kernel
theorem dX7_seen_91 : decode cX7_seen 91 = .ok (.iload_n 2, 1) := by decide +kernel
theorem dX7_seen_92 : decode cX7_seen 92 = .ok (.iconst (-1), 1) := by decide +kernel
theorem dX7_seen_93 : decode cX7_seen 93 = .ok (.if_icmp .eq 15, 3) := by decide +kernel
theorem dX7_seen_96 : decode cX7_seen 96 = .ok (.aload_n 0, 1) := by decide +kernel
theorem dX7_seen_97 : decode cX7_seen 97 = .ok (.iload 4, 2) := by decide +kernel
theorem dX7_seen_99 : decode cX7_seen 99 = .ok (.iload 5, 2) := by decide +kernel
theorem dX7_seen_101 : decode cX7_seen 101 = .ok (.invokevirtual 229, 3) := by decide +kernel
theorem dX7_seen_104 : decode cX7_seen 104 = .ok (.iload_n 2, 1) := by decide +kernel
theorem dX7_seen_105 : decode cX7_seen 105 = .ok (.if_icmp .ne 6, 3) := by decide +kernel
theorem dX7_seen_108 : decode cX7_seen 108 = .ok (.iinc 3 1, 3) := by decide +kernel
theorem dX7_seen_111 : decode cX7_seen 111 = .ok (.iinc 5 1, 3) := by decide +kernel
theorem dX7_seen_114 : decode cX7_seen 114 = .ok (.goto (-59), 3) := by decide +kernel
theorem dX7_seen_117 : decode cX7_seen 117 = .ok (.iinc 4 1, 3) := by decide +kernel
theorem dX7_seen_120 : decode cX7_seen 120 = .ok (.goto (-75), 3) := by decide +kernel
end
section
theorem dX7_seen_123 : decode cX7_seen 123 = .ok (.iload_n 3, 1) := by decide +kernel
theorem dX7_seen_124 : decode cX7_seen 124 = .ok (.ireturn, 1) := by decide +kernel
theorem dX7_price_0 : decode cX7_price 0 = .ok (.aload_n 0, 1) := by decide +kernel
theorem dX7_price_1 : decode cX7_price 1 = .ok (.iconst 0, 1) := by decide +kernel
theorem dX7_price_2 : decode cX7_price 2 = .ok (.putfield 78, 3) := by decide +kernel
theorem dX7_price_5 : decode cX7_price 5 = .ok (.aload_n 0, 1) := by decide +kernel
theorem dX7_price_6 : decode cX7_price 6 = .ok (.iload_n 1, 1) := by decide +kernel
theorem dX7_price_7 : decode cX7_price 7 = .ok (.ifCond .lt 22, 3) := by decide +kernel
theorem dX7_price_10 : decode cX7_price 10 = .ok (.iload_n 1, 1) := by decide +kernel
theorem dX7_price_11 : decode cX7_price 11 = .ok (.iconst 1, 1) := by decide +kernel
theorem dX7_price_12 : decode cX7_price 12 = .ok (.if_icmp .gt 17, 3) := by decide +kernel
theorem dX7_price_15 : decode cX7_price 15 = .ok (.iload_n 2, 1) := by decide +kernel
theorem dX7_price_16 : decode cX7_price 16 = .ok (.ifCond .lt 13, 3) := by decide +kernel
theorem dX7_price_19 : decode cX7_price 19 = .ok (.iload_n 2, 1) := by decide +kernel
theorem dX7_price_20 : decode cX7_price 20 = .ok (.bipush 100, 2) := by decide +kernel
theorem dX7_price_22 : decode cX7_price 22 = .ok (.if_icmp .gt 7, 3) := by decide +kernel
theorem dX7_price_25 : decode cX7_price 25 = .ok (.iconst 1, 1) := by decide +kernel
theorem dX7_price_26 : decode cX7_price 26 = .ok (.goto 4, 3) := by decide +kernel
theorem dX7_price_29 : decode cX7_price 29 = .ok (.iconst 0, 1) := by decide +kernel
theorem dX7_price_30 : decode cX7_price 30 = .ok (.iconst 1, 1) := by decide +kernel
theorem dX7_price_31 : decode cX7_price 31 = .ok (.invokevirtual 208, 3) := by decide +kernel
theorem dX7_price_34 : decode cX7_price 34 = .ok (.ifCond .ne 5, 3) := by decide +kernel
theorem dX7_price_37 : decode cX7_price 37 = .ok (.iconst 0, 1) := by decide +kernel
theorem dX7_price_38 : decode cX7_price 38 = .ok (.ireturn, 1) := by decide +kernel
theorem dX7_price_39 : decode cX7_price 39 = .ok (.aload_n 0, 1) := by decide +kernel
theorem dX7_price_40 : decode cX7_price 40 = .ok (.getfield 51, 3) := by decide +kernel
theorem dX7_price_43 : decode cX7_price 43 = .ok (.iload_n 1, 1) := by decide +kernel
theorem dX7_price_44 : decode cX7_price 44 = .ok (.iaload, 1) := by decide +kernel
theorem dX7_price_45 : decode cX7_price 45 = .ok (.istore_n 3, 1) := by decide +kernel
theorem dX7_price_46 : decode cX7_price 46 = .ok (.aload_n 0, 1) := by decide +kernel
theorem dX7_price_47 : decode cX7_price 47 = .ok (.getfield 51, 3) := by decide +kernel
theorem dX7_price_50 : decode cX7_price 50 = .ok (.iload_n 1, 1) := by decide +kernel
theorem dX7_price_51 : decode cX7_price 51 = .ok (.iload_n 2, 1) := by decide +kernel
theorem dX7_price_52 : decode cX7_price 52 = .ok (.iastore, 1) := by decide +kernel
theorem dX7_price_53 : decode cX7_price 53 = .ok (.iload_n 3, 1) := by decide +kernel
theorem dX7_price_54 : decode cX7_price 54 = .ok (.ireturn, 1) := by decide +kernel
theorem dX7_gathers_0 : decode cX7_gathers 0 = .ok (.aload_n 0, 1) := by decide +kernel
theorem dX7_gathers_1 : decode cX7_gathers 1 = .ok (.iconst 0, 1) := by decide +kernel
theorem dX7_gathers_2 : decode cX7_gathers 2 = .ok (.putfield 235, 3) := by decide +kernel
theorem dX7_gathers_5 : decode cX7_gathers 5 = .ok (.iconst 0, 1) := by decide +kernel
theorem dX7_gathers_6 : decode cX7_gathers 6 = .ok (.istore_n 2, 1) := by decide +kernel
theorem dX7_gathers_7 : decode cX7_gathers 7 = .ok (.iload_n 2, 1) := by decide +kernel
theorem dX7_gathers_8 : decode cX7_gathers 8 = .ok (.bipush 12, 2) := by decide +kernel
theorem dX7_gathers_10 : decode cX7_gathers 10 = .ok (.if_icmp .ge 202, 3) := by decide +kernel
theorem dX7_gathers_13 : decode cX7_gathers 13 = .ok (.iconst 0, 1) := by decide +kernel
theorem dX7_gathers_14 : decode cX7_gathers 14 = .ok (.istore_n 3, 1) := by decide +kernel
theorem dX7_gathers_15 : decode cX7_gathers 15 = .ok (.aload_n 0, 1) := by decide +kernel
theorem dX7_gathers_16 : decode cX7_gathers 16 = .ok (.getfield 17, 3) := by decide +kernel
theorem dX7_gathers_19 : decode cX7_gathers 19 = .ok (.iload_n 2, 1) := by decide +kernel
theorem dX7_gathers_20 : decode cX7_gathers 20 = .ok (.baload, 1) := by decide +kernel
theorem dX7_gathers_21 : decode cX7_gathers 21 = .ok (.ifCond .eq 185, 3) := by decide +kernel
theorem dX7_gathers_24 : decode cX7_gathers 24 = .ok (.iload_n 3, 1) := by decide +kernel
theorem dX7_gathers_25 : decode cX7_gathers 25 = .ok (.aload_n 0, 1) := by decide +kernel
theorem dX7_gathers_26 : decode cX7_gathers 26 = .ok (.getfield 30, 3) := by decide +kernel
theorem dX7_gathers_29 : decode cX7_gathers 29 = .ok (.iload_n 2, 1) := by decide +kernel
theorem dX7_gathers_30 : decode cX7_gathers 30 = .ok (.iaload, 1) := by decide +kernel
theorem dX7_gathers_31 : decode cX7_gathers 31 = .ok (.iconst 1, 1) := by decide +kernel
theorem dX7_gathers_32 : decode cX7_gathers 32 = .ok (.isub, 1) := by decide +kernel
theorem dX7_gathers_33 : decode cX7_gathers 33 = .ok (.if_icmp .ge 173, 3) := by decide +kernel
theorem dX7_gathers_36 : decode cX7_gathers 36 = .ok (.aload_n 0, 1) := by decide +kernel
theorem dX7_gathers_37 : decode cX7_gathers 37 = .ok (.iload_n 2, 1) := by decide +kernel
theorem dX7_gathers_38 : decode cX7_gathers 38 = .ok (.iload_n 3, 1) := by decide +kernel
theorem dX7_gathers_39 : decode cX7_gathers 39 = .ok (.invokevirtual 226, 3) := by decide +kernel
theorem dX7_gathers_42 : decode cX7_gathers 42 = .ok (.iload_n 1, 1) := by decide +kernel
theorem dX7_gathers_43 : decode cX7_gathers 43 = .ok (.if_icmp .eq 6, 3) := by decide +kernel
theorem dX7_gathers_46 : decode cX7_gathers 46 = .ok (.goto 154, 3) := by decide +kernel
theorem dX7_gathers_49 : decode cX7_gathers 49 = .ok (.aload_n 0, 1) := by decide +kernel
theorem dX7_gathers_50 : decode cX7_gathers 50 = .ok (.iload_n 2, 1) := by decide +kernel
theorem dX7_gathers_51 : decode cX7_gathers 51 = .ok (.iload_n 3, 1) := by decide +kernel
theorem dX7_gathers_52 : decode cX7_gathers 52 = .ok (.invokevirtual 232, 3) := by decide +kernel
theorem dX7_gathers_55 : decode cX7_gathers 55 = .ok (.istore 4, 2) := by decide +kernel
theorem dX7_gathers_57 : decode cX7_gathers 57 = .ok (.aload_n 0, 1) := by decide +kernel
theorem dX7_gathers_58 : decode cX7_gathers 58 = .ok (.iload_n 2, 1) := by decide +kernel
theorem dX7_gathers_59 : decode cX7_gathers 59 = .ok (.iload_n 3, 1) := by decide +kernel
theorem dX7_gathers_60 : decode cX7_gathers 60 = .ok (.invokevirtual 238, 3) := by decide +kernel
theorem dX7_gathers_63 : decode cX7_gathers 63 = .ok (.ifCond .eq 7, 3) := by decide +kernel
theorem dX7_gathers_66 : decode cX7_gathers 66 = .ok (.iconst 1, 1) := by decide +kernel
theorem dX7_gathers_67 : decode cX7_gathers 67 = .ok (.goto 4, 3) := by decide +kernel
theorem dX7_gathers_70 : decode cX7_gathers 70 = .ok (.iconst 0, 1) := by decide +kernel
theorem dX7_gathers_71 : decode cX7_gathers 71 = .ok (.istore 5, 2) := by decide +kernel
theorem dX7_gathers_73 : decode cX7_gathers 73 = .ok (.iconst 0, 1) := by decide +kernel
theorem dX7_gathers_74 : decode cX7_gathers 74 = .ok (.istore 6, 2) := by decide +kernel
theorem dX7_gathers_76 : decode cX7_gathers 76 = .ok (.iload 6, 2) := by decide +kernel
theorem dX7_gathers_78 : decode cX7_gathers 78 = .ok (.aload_n 0, 1) := by decide +kernel
theorem dX7_gathers_79 : decode cX7_gathers 79 = .ok (.getfield 235, 3) := by decide +kernel
theorem dX7_gathers_82 : decode cX7_gathers 82 = .ok (.if_icmp .ge 33, 3) := by decide +kernel
theorem dX7_gathers_85 : decode cX7_gathers 85 = .ok (.aload_n 0, 1) := by decide +kernel
theorem dX7_gathers_86 : decode cX7_gathers 86 = .ok (.getfield 63, 3) := by decide +kernel
theorem dX7_gathers_89 : decode cX7_gathers 89 = .ok (.iload 6, 2) := by decide +kernel
theorem dX7_gathers_91 : decode cX7_gathers 91 = .ok (.iaload, 1) := by decide +kernel
theorem dX7_gathers_92 : decode cX7_gathers 92 = .ok (.iload 4, 2) := by decide +kernel
theorem dX7_gathers_94 : decode cX7_gathers 94 = .ok (.if_icmp .ne 15, 3) := by decide +kernel
theorem dX7_gathers_97 : decode cX7_gathers 97 = .ok (.aload_n 0, 1) := by decide +kernel
theorem dX7_gathers_98 : decode cX7_gathers 98 = .ok (.getfield 66, 3) := by decide +kernel
theorem dX7_gathers_101 : decode cX7_gathers 101 = .ok (.iload 6, 2) := by decide +kernel
theorem dX7_gathers_103 : decode cX7_gathers 103 = .ok (.iaload, 1) := by decide +kernel
theorem dX7_gathers_104 : decode cX7_gathers 104 = .ok (.iload 5, 2) := by decide +kernel
theorem dX7_gathers_106 : decode cX7_gathers 106 = .ok (.if_icmp .eq 9, 3) := by decide +kernel
theorem dX7_gathers_109 : decode cX7_gathers 109 = .ok (.iinc 6 1, 3) := by decide +kernel
theorem dX7_gathers_112 : decode cX7_gathers 112 = .ok (.goto (-36), 3) := by decide +kernel
theorem dX7_gathers_115 : decode cX7_gathers 115 = .ok (.iload 6, 2) := by decide +kernel
theorem dX7_gathers_117 : decode cX7_gathers 117 = .ok (.aload_n 0, 1) := by decide +kernel
theorem dX7_gathers_118 : decode cX7_gathers 118 = .ok (.getfield 235, 3) := by decide +kernel
theorem dX7_gathers_121 : decode cX7_gathers 121 = .ok (.if_icmp .ne 59, 3) := by decide +kernel
theorem dX7_gathers_124 : decode cX7_gathers 124 = .ok (.aload_n 0, 1) := by decide +kernel
theorem dX7_gathers_125 : decode cX7_gathers 125 = .ok (.getfield 63, 3) := by decide +kernel
theorem dX7_gathers_128 : decode cX7_gathers 128 = .ok (.iload 6, 2) := by decide +kernel
theorem dX7_gathers_130 : decode cX7_gathers 130 = .ok (.iload 4, 2) := by decide +kernel
theorem dX7_gathers_132 : decode cX7_gathers 132 = .ok (.iastore, 1) := by decide +kernel
theorem dX7_gathers_133 : decode cX7_gathers 133 = .ok (.aload_n 0, 1) := by decide +kernel
theorem dX7_gathers_134 : decode cX7_gathers 134 = .ok (.getfield 66, 3) := by decide +kernel
theorem dX7_gathers_137 : decode cX7_gathers 137 = .ok (.iload 6, 2) := by decide +kernel
theorem dX7_gathers_139 : decode cX7_gathers 139 = .ok (.iload 5, 2) := by decide +kernel
theorem dX7_gathers_141 : decode cX7_gathers 141 = .ok (.iastore, 1) := by decide +kernel
theorem dX7_gathers_142 : decode cX7_gathers 142 = .ok (.iconst 0, 1) := by decide +kernel
theorem dX7_gathers_143 : decode cX7_gathers 143 = .ok (.istore 7, 2) := by decide +kernel
theorem dX7_gathers_145 : decode cX7_gathers 145 = .ok (.iload 7, 2) := by decide +kernel
theorem dX7_gathers_147 : decode cX7_gathers 147 = .ok (.iconst 4, 1) := by decide +kernel
theorem dX7_gathers_148 : decode cX7_gathers 148 = .ok (.if_icmp .ge 22, 3) := by decide +kernel
theorem dX7_gathers_151 : decode cX7_gathers 151 = .ok (.aload_n 0, 1) := by decide +kernel
theorem dX7_gathers_152 : decode cX7_gathers 152 = .ok (.getfield 69, 3) := by decide +kernel
theorem dX7_gathers_155 : decode cX7_gathers 155 = .ok (.iconst 4, 1) := by decide +kernel
theorem dX7_gathers_156 : decode cX7_gathers 156 = .ok (.iload 6, 2) := by decide +kernel
theorem dX7_gathers_158 : decode cX7_gathers 158 = .ok (.imul, 1) := by decide +kernel
theorem dX7_gathers_159 : decode cX7_gathers 159 = .ok (.iload 7, 2) := by decide +kernel
theorem dX7_gathers_161 : decode cX7_gathers 161 = .ok (.iadd, 1) := by decide +kernel
theorem dX7_gathers_162 : decode cX7_gathers 162 = .ok (.iconst 0, 1) := by decide +kernel
theorem dX7_gathers_163 : decode cX7_gathers 163 = .ok (.iastore, 1) := by decide +kernel
theorem dX7_gathers_164 : decode cX7_gathers 164 = .ok (.iinc 7 1, 3) := by decide +kernel
theorem dX7_gathers_167 : decode cX7_gathers 167 = .ok (.goto (-22), 3) := by decide +kernel
theorem dX7_gathers_170 : decode cX7_gathers 170 = .ok (.aload_n 0, 1) := by decide +kernel
theorem dX7_gathers_171 : decode cX7_gathers 171 = .ok (.dup, 1) := by decide +kernel
theorem dX7_gathers_172 : decode cX7_gathers 172 = .ok (.getfield 235, 3) := by decide +kernel
theorem dX7_gathers_175 : decode cX7_gathers 175 = .ok (.iconst 1, 1) := by decide +kernel
theorem dX7_gathers_176 : decode cX7_gathers 176 = .ok (.iadd, 1) := by decide +kernel
theorem dX7_gathers_177 : decode cX7_gathers 177 = .ok (.putfield 235, 3) := by decide +kernel
theorem dX7_gathers_180 : decode cX7_gathers 180 = .ok (.aload_n 0, 1) := by decide +kernel
theorem dX7_gathers_181 : decode cX7_gathers 181 = .ok (.getfield 69, 3) := by decide +kernel
theorem dX7_gathers_184 : decode cX7_gathers 184 = .ok (.iconst 4, 1) := by decide +kernel
theorem dX7_gathers_185 : decode cX7_gathers 185 = .ok (.iload 6, 2) := by decide +kernel
theorem dX7_gathers_187 : decode cX7_gathers 187 = .ok (.imul, 1) := by decide +kernel
theorem dX7_gathers_188 : decode cX7_gathers 188 = .ok (.aload_n 0, 1) := by decide +kernel
theorem dX7_gathers_189 : decode cX7_gathers 189 = .ok (.iload_n 2, 1) := by decide +kernel
theorem dX7_gathers_190 : decode cX7_gathers 190 = .ok (.iload_n 3, 1) := by decide +kernel
theorem dX7_gathers_191 : decode cX7_gathers 191 = .ok (.invokevirtual 229, 3) := by decide +kernel
theorem dX7_gathers_194 : decode cX7_gathers 194 = .ok (.iadd, 1) := by decide +kernel
theorem dX7_gathers_195 : decode cX7_gathers 195 = .ok (.dup2, 1) := by decide +kernel
theorem dX7_gathers_196 : decode cX7_gathers 196 = .ok (.iaload, 1) := by decide +kernel
theorem dX7_gathers_197 : decode cX7_gathers 197 = .ok (.iconst 1, 1) := by decide +kernel
theorem dX7_gathers_198 : decode cX7_gathers 198 = .ok (.iadd, 1) := by decide +kernel
theorem dX7_gathers_199 : decode cX7_gathers 199 = .ok (.iastore, 1) := by decide +kernel
theorem dX7_gathers_200 : decode cX7_gathers 200 = .ok (.iinc 3 1, 3) := by decide +kernel
theorem dX7_gathers_203 : decode cX7_gathers 203 = .ok (.goto (-188), 3) := by decide +kernel
theorem dX7_gathers_206 : decode cX7_gathers 206 = .ok (.iinc 2 1, 3) := by decide +kernel
theorem dX7_gathers_209 : decode cX7_gathers 209 = .ok (.goto (-202), 3) := by decide +kernel
theorem dX7_gathers_212 : decode cX7_gathers 212 = .ok (.return_, 1) := by decide +kernel
theorem dX7_tells_0 : decode cX7_tells 0 = .ok (.iload_n 2, 1) := by decide +kernel
theorem dX7_tells_1 : decode cX7_tells 1 = .ok (.ifCond .le 17, 3) := by decide +kernel
theorem dX7_tells_4 : decode cX7_tells 4 = .ok (.iload_n 0, 1) := by decide +kernel
theorem dX7_tells_5 : decode cX7_tells 5 = .ok (.iload_n 3, 1) := by decide +kernel
theorem dX7_tells_6 : decode cX7_tells 6 = .ok (.ishr, 1) := by decide +kernel
theorem dX7_tells_7 : decode cX7_tells 7 = .ok (.iconst 1, 1) := by decide +kernel
theorem dX7_tells_8 : decode cX7_tells 8 = .ok (.iand, 1) := by decide +kernel
theorem dX7_tells_9 : decode cX7_tells 9 = .ok (.iconst 1, 1) := by decide +kernel
theorem dX7_tells_10 : decode cX7_tells 10 = .ok (.if_icmp .ne 8, 3) := by decide +kernel
theorem dX7_tells_13 : decode cX7_tells 13 = .ok (.iload 4, 2) := by decide +kernel
theorem dX7_tells_15 : decode cX7_tells 15 = .ok (.goto 25, 3) := by decide +kernel
theorem dX7_tells_18 : decode cX7_tells 18 = .ok (.iload_n 2, 1) := by decide +kernel
theorem dX7_tells_19 : decode cX7_tells 19 = .ok (.iconst 1, 1) := by decide +kernel
theorem dX7_tells_20 : decode cX7_tells 20 = .ok (.if_icmp .le 18, 3) := by decide +kernel
theorem dX7_tells_23 : decode cX7_tells 23 = .ok (.iload_n 0, 1) := by decide +kernel
theorem dX7_tells_24 : decode cX7_tells 24 = .ok (.iload 5, 2) := by decide +kernel
theorem dX7_tells_26 : decode cX7_tells 26 = .ok (.ishr, 1) := by decide +kernel
theorem dX7_tells_27 : decode cX7_tells 27 = .ok (.iconst 1, 1) := by decide +kernel
theorem dX7_tells_28 : decode cX7_tells 28 = .ok (.iand, 1) := by decide +kernel
theorem dX7_tells_29 : decode cX7_tells 29 = .ok (.iconst 1, 1) := by decide +kernel
theorem dX7_tells_30 : decode cX7_tells 30 = .ok (.if_icmp .ne 8, 3) := by decide +kernel
theorem dX7_tells_33 : decode cX7_tells 33 = .ok (.iload 6, 2) := by decide +kernel
theorem dX7_tells_35 : decode cX7_tells 35 = .ok (.goto 5, 3) := by decide +kernel
theorem dX7_tells_38 : decode cX7_tells 38 = .ok (.iload 7, 2) := by decide +kernel
theorem dX7_tells_40 : decode cX7_tells 40 = .ok (.istore 8, 2) := by decide +kernel
theorem dX7_tells_42 : decode cX7_tells 42 = .ok (.iload 8, 2) := by decide +kernel
theorem dX7_tells_44 : decode cX7_tells 44 = .ok (.ifCond .ne 11, 3) := by decide +kernel
theorem dX7_tells_47 : decode cX7_tells 47 = .ok (.iload_n 1, 1) := by decide +kernel
theorem dX7_tells_48 : decode cX7_tells 48 = .ok (.ifCond .eq 7, 3) := by decide +kernel
theorem dX7_tells_51 : decode cX7_tells 51 = .ok (.iconst 1, 1) := by decide +kernel
theorem dX7_tells_52 : decode cX7_tells 52 = .ok (.goto 5, 3) := by decide +kernel
theorem dX7_tells_55 : decode cX7_tells 55 = .ok (.iload 8, 2) := by decide +kernel
theorem dX7_tells_57 : decode cX7_tells 57 = .ok (.ireturn, 1) := by decide +kernel
theorem dX7_exceptions_0 : decode cX7_exceptions 0 = .ok (.iconst 0, 1) := by decide +kernel
theorem dX7_exceptions_1 : decode cX7_exceptions 1 = .ok (.istore 7, 2) := by decide +kernel
theorem dX7_exceptions_3 : decode cX7_exceptions 3 = .ok (.iconst 0, 1) := by decide +kernel
theorem dX7_exceptions_4 : decode cX7_exceptions 4 = .ok (.istore 8, 2) := by decide +kernel
theorem dX7_exceptions_6 : decode cX7_exceptions 6 = .ok (.iload 8, 2) := by decide +kernel
theorem dX7_exceptions_8 : decode cX7_exceptions 8 = .ok (.aload_n 0, 1) := by decide +kernel
theorem dX7_exceptions_9 : decode cX7_exceptions 9 = .ok (.getfield 235, 3) := by decide +kernel
theorem dX7_exceptions_12 : decode cX7_exceptions 12 = .ok (.if_icmp .ge 85, 3) := by decide +kernel
theorem dX7_exceptions_15 : decode cX7_exceptions 15 = .ok (.aload_n 0, 1) := by decide +kernel
theorem dX7_exceptions_16 : decode cX7_exceptions 16 = .ok (.getfield 63, 3) := by decide +kernel
theorem dX7_exceptions_19 : decode cX7_exceptions 19 = .ok (.iload 8, 2) := by decide +kernel
theorem dX7_exceptions_21 : decode cX7_exceptions 21 = .ok (.iaload, 1) := by decide +kernel
theorem dX7_exceptions_22 : decode cX7_exceptions 22 = .ok (.aload_n 0, 1) := by decide +kernel
theorem dX7_exceptions_23 : decode cX7_exceptions 23 = .ok (.getfield 66, 3) := by decide +kernel
theorem dX7_exceptions_26 : decode cX7_exceptions 26 = .ok (.iload 8, 2) := by decide +kernel
theorem dX7_exceptions_28 : decode cX7_exceptions 28 = .ok (.iaload, 1) := by decide +kernel
theorem dX7_exceptions_29 : decode cX7_exceptions 29 = .ok (.iconst 1, 1) := by decide +kernel
theorem dX7_exceptions_30 : decode cX7_exceptions 30 = .ok (.if_icmp .ne 7, 3) := by decide +kernel
theorem dX7_exceptions_33 : decode cX7_exceptions 33 = .ok (.iconst 1, 1) := by decide +kernel
theorem dX7_exceptions_34 : decode cX7_exceptions 34 = .ok (.goto 4, 3) := by decide +kernel
theorem dX7_exceptions_37 : decode cX7_exceptions 37 = .ok (.iconst 0, 1) := by decide +kernel
theorem dX7_exceptions_38 : decode cX7_exceptions 38 = .ok (.iload_n 1, 1) := by decide +kernel
theorem dX7_exceptions_39 : decode cX7_exceptions 39 = .ok (.iload_n 2, 1) := by decide +kernel
theorem dX7_exceptions_40 : decode cX7_exceptions 40 = .ok (.iload_n 3, 1) := by decide +kernel
theorem dX7_exceptions_41 : decode cX7_exceptions 41 = .ok (.iload 4, 2) := by decide +kernel
theorem dX7_exceptions_43 : decode cX7_exceptions 43 = .ok (.iload 5, 2) := by decide +kernel
theorem dX7_exceptions_45 : decode cX7_exceptions 45 = .ok (.iload 6, 2) := by decide +kernel
theorem dX7_exceptions_47 : decode cX7_exceptions 47 = .ok (.invokestatic 241, 3) := by decide +kernel
theorem dX7_exceptions_50 : decode cX7_exceptions 50 = .ok (.istore 9, 2) := by decide +kernel
theorem dX7_exceptions_52 : decode cX7_exceptions 52 = .ok (.iconst 0, 1) := by decide +kernel
theorem dX7_exceptions_53 : decode cX7_exceptions 53 = .ok (.istore 10, 2) := by decide +kernel
theorem dX7_exceptions_55 : decode cX7_exceptions 55 = .ok (.iload 10, 2) := by decide +kernel
theorem dX7_exceptions_57 : decode cX7_exceptions 57 = .ok (.iconst 4, 1) := by decide +kernel
theorem dX7_exceptions_58 : decode cX7_exceptions 58 = .ok (.if_icmp .ge 33, 3) := by decide +kernel
theorem dX7_exceptions_61 : decode cX7_exceptions 61 = .ok (.iload 10, 2) := by decide +kernel
theorem dX7_exceptions_63 : decode cX7_exceptions 63 = .ok (.iload 9, 2) := by decide +kernel
theorem dX7_exceptions_65 : decode cX7_exceptions 65 = .ok (.if_icmp .eq 20, 3) := by decide +kernel
theorem dX7_exceptions_68 : decode cX7_exceptions 68 = .ok (.iload 7, 2) := by decide +kernel
theorem dX7_exceptions_70 : decode cX7_exceptions 70 = .ok (.aload_n 0, 1) := by decide +kernel
theorem dX7_exceptions_71 : decode cX7_exceptions 71 = .ok (.getfield 69, 3) := by decide +kernel
theorem dX7_exceptions_74 : decode cX7_exceptions 74 = .ok (.iconst 4, 1) := by decide +kernel
theorem dX7_exceptions_75 : decode cX7_exceptions 75 = .ok (.iload 8, 2) := by decide +kernel
theorem dX7_exceptions_77 : decode cX7_exceptions 77 = .ok (.imul, 1) := by decide +kernel
theorem dX7_exceptions_78 : decode cX7_exceptions 78 = .ok (.iload 10, 2) := by decide +kernel
theorem dX7_exceptions_80 : decode cX7_exceptions 80 = .ok (.iadd, 1) := by decide +kernel
theorem dX7_exceptions_81 : decode cX7_exceptions 81 = .ok (.iaload, 1) := by decide +kernel
theorem dX7_exceptions_82 : decode cX7_exceptions 82 = .ok (.iadd, 1) := by decide +kernel
theorem dX7_exceptions_83 : decode cX7_exceptions 83 = .ok (.istore 7, 2) := by decide +kernel
theorem dX7_exceptions_85 : decode cX7_exceptions 85 = .ok (.iinc 10 1, 3) := by decide +kernel
theorem dX7_exceptions_88 : decode cX7_exceptions 88 = .ok (.goto (-33), 3) := by decide +kernel
theorem dX7_exceptions_91 : decode cX7_exceptions 91 = .ok (.iinc 8 1, 3) := by decide +kernel
theorem dX7_exceptions_94 : decode cX7_exceptions 94 = .ok (.goto (-88), 3) := by decide +kernel
theorem dX7_exceptions_97 : decode cX7_exceptions 97 = .ok (.iload 7, 2) := by decide +kernel
theorem dX7_exceptions_99 : decode cX7_exceptions 99 = .ok (.ireturn, 1) := by decide +kernel
theorem dX7_tries_0 : decode cX7_tries 0 = .ok (.aload_n 0, 1) := by decide +kernel
theorem dX7_tries_1 : decode cX7_tries 1 = .ok (.iload_n 2, 1) := by decide +kernel
theorem dX7_tries_2 : decode cX7_tries 2 = .ok (.iload_n 3, 1) := by decide +kernel
theorem dX7_tries_3 : decode cX7_tries 3 = .ok (.iload 4, 2) := by decide +kernel
theorem dX7_tries_5 : decode cX7_tries 5 = .ok (.iload 5, 2) := by decide +kernel
theorem dX7_tries_7 : decode cX7_tries 7 = .ok (.iload 6, 2) := by decide +kernel
theorem dX7_tries_9 : decode cX7_tries 9 = .ok (.iload 7, 2) := by decide +kernel
theorem dX7_tries_11 : decode cX7_tries 11 = .ok (.invokevirtual 245, 3) := by decide +kernel
theorem dX7_tries_14 : decode cX7_tries 14 = .ok (.istore 8, 2) := by decide +kernel
theorem dX7_tries_16 : decode cX7_tries 16 = .ok (.aload_n 0, 1) := by decide +kernel
theorem dX7_tries_17 : decode cX7_tries 17 = .ok (.getfield 51, 3) := by decide +kernel
theorem dX7_tries_20 : decode cX7_tries 20 = .ok (.iconst 0, 1) := by decide +kernel
theorem dX7_tries_21 : decode cX7_tries 21 = .ok (.iaload, 1) := by decide +kernel
theorem dX7_tries_22 : decode cX7_tries 22 = .ok (.iload_n 2, 1) := by decide +kernel
theorem dX7_tries_23 : decode cX7_tries 23 = .ok (.imul, 1) := by decide +kernel
theorem dX7_tries_24 : decode cX7_tries 24 = .ok (.aload_n 0, 1) := by decide +kernel
theorem dX7_tries_25 : decode cX7_tries 25 = .ok (.getfield 51, 3) := by decide +kernel
theorem dX7_tries_28 : decode cX7_tries 28 = .ok (.iconst 1, 1) := by decide +kernel
theorem dX7_tries_29 : decode cX7_tries 29 = .ok (.iaload, 1) := by decide +kernel
theorem dX7_tries_30 : decode cX7_tries 30 = .ok (.iload 8, 2) := by decide +kernel
theorem dX7_tries_32 : decode cX7_tries 32 = .ok (.imul, 1) := by decide +kernel
theorem dX7_tries_33 : decode cX7_tries 33 = .ok (.iadd, 1) := by decide +kernel
theorem dX7_tries_34 : decode cX7_tries 34 = .ok (.istore 9, 2) := by decide +kernel
theorem dX7_tries_36 : decode cX7_tries 36 = .ok (.bipush 8, 2) := by decide +kernel
theorem dX7_tries_38 : decode cX7_tries 38 = .ok (.iload_n 1, 1) := by decide +kernel
theorem dX7_tries_39 : decode cX7_tries 39 = .ok (.imul, 1) := by decide +kernel
theorem dX7_tries_40 : decode cX7_tries 40 = .ok (.istore 10, 2) := by decide +kernel
theorem dX7_tries_42 : decode cX7_tries 42 = .ok (.iload 9, 2) := by decide +kernel
theorem dX7_tries_44 : decode cX7_tries 44 = .ok (.aload_n 0, 1) := by decide +kernel
theorem dX7_tries_45 : decode cX7_tries 45 = .ok (.getfield 54, 3) := by decide +kernel
theorem dX7_tries_48 : decode cX7_tries 48 = .ok (.iload 10, 2) := by decide +kernel
theorem dX7_tries_50 : decode cX7_tries 50 = .ok (.bipush 6, 2) := by decide +kernel
theorem dX7_tries_52 : decode cX7_tries 52 = .ok (.iadd, 1) := by decide +kernel
theorem dX7_tries_53 : decode cX7_tries 53 = .ok (.iaload, 1) := by decide +kernel
theorem dX7_tries_54 : decode cX7_tries 54 = .ok (.if_icmp .lt 4, 3) := by decide +kernel
theorem dX7_tries_57 : decode cX7_tries 57 = .ok (.return_, 1) := by decide +kernel
theorem dX7_tries_58 : decode cX7_tries 58 = .ok (.aload_n 0, 1) := by decide +kernel
theorem dX7_tries_59 : decode cX7_tries 59 = .ok (.getfield 54, 3) := by decide +kernel
theorem dX7_tries_62 : decode cX7_tries 62 = .ok (.iload 10, 2) := by decide +kernel
theorem dX7_tries_64 : decode cX7_tries 64 = .ok (.iload_n 2, 1) := by decide +kernel
theorem dX7_tries_65 : decode cX7_tries 65 = .ok (.iastore, 1) := by decide +kernel
theorem dX7_tries_66 : decode cX7_tries 66 = .ok (.aload_n 0, 1) := by decide +kernel
theorem dX7_tries_67 : decode cX7_tries 67 = .ok (.getfield 54, 3) := by decide +kernel
theorem dX7_tries_70 : decode cX7_tries 70 = .ok (.iload 10, 2) := by decide +kernel
theorem dX7_tries_72 : decode cX7_tries 72 = .ok (.iconst 1, 1) := by decide +kernel
theorem dX7_tries_73 : decode cX7_tries 73 = .ok (.iadd, 1) := by decide +kernel
theorem dX7_tries_74 : decode cX7_tries 74 = .ok (.iload_n 2, 1) := by decide +kernel
theorem dX7_tries_75 : decode cX7_tries 75 = .ok (.ifCond .le 7, 3) := by decide +kernel
theorem dX7_tries_78 : decode cX7_tries 78 = .ok (.iload_n 3, 1) := by decide +kernel
theorem dX7_tries_79 : decode cX7_tries 79 = .ok (.goto 4, 3) := by decide +kernel
theorem dX7_tries_82 : decode cX7_tries 82 = .ok (.iconst (-1), 1) := by decide +kernel
theorem dX7_tries_83 : decode cX7_tries 83 = .ok (.iastore, 1) := by decide +kernel
theorem dX7_tries_84 : decode cX7_tries 84 = .ok (.aload_n 0, 1) := by decide +kernel
theorem dX7_tries_85 : decode cX7_tries 85 = .ok (.getfield 54, 3) := by decide +kernel
theorem dX7_tries_88 : decode cX7_tries 88 = .ok (.iload 10, 2) := by decide +kernel
theorem dX7_tries_90 : decode cX7_tries 90 = .ok (.iconst 2, 1) := by decide +kernel
theorem dX7_tries_91 : decode cX7_tries 91 = .ok (.iadd, 1) := by decide +kernel
theorem dX7_tries_92 : decode cX7_tries 92 = .ok (.iload_n 2, 1) := by decide +kernel
theorem dX7_tries_93 : decode cX7_tries 93 = .ok (.ifCond .le 8, 3) := by decide +kernel
theorem dX7_tries_96 : decode cX7_tries 96 = .ok (.iload 4, 2) := by decide +kernel
theorem dX7_tries_98 : decode cX7_tries 98 = .ok (.goto 4, 3) := by decide +kernel
theorem dX7_tries_101 : decode cX7_tries 101 = .ok (.iconst (-1), 1) := by decide +kernel
theorem dX7_tries_102 : decode cX7_tries 102 = .ok (.iastore, 1) := by decide +kernel
theorem dX7_tries_103 : decode cX7_tries 103 = .ok (.aload_n 0, 1) := by decide +kernel
theorem dX7_tries_104 : decode cX7_tries 104 = .ok (.getfield 54, 3) := by decide +kernel
theorem dX7_tries_107 : decode cX7_tries 107 = .ok (.iload 10, 2) := by decide +kernel
theorem dX7_tries_109 : decode cX7_tries 109 = .ok (.iconst 3, 1) := by decide +kernel
theorem dX7_tries_110 : decode cX7_tries 110 = .ok (.iadd, 1) := by decide +kernel
theorem dX7_tries_111 : decode cX7_tries 111 = .ok (.iload_n 2, 1) := by decide +kernel
theorem dX7_tries_112 : decode cX7_tries 112 = .ok (.iconst 1, 1) := by decide +kernel
theorem dX7_tries_113 : decode cX7_tries 113 = .ok (.if_icmp .le 8, 3) := by decide +kernel
theorem dX7_tries_116 : decode cX7_tries 116 = .ok (.iload 5, 2) := by decide +kernel
theorem dX7_tries_118 : decode cX7_tries 118 = .ok (.goto 4, 3) := by decide +kernel
theorem dX7_tries_121 : decode cX7_tries 121 = .ok (.iconst (-1), 1) := by decide +kernel
theorem dX7_tries_122 : decode cX7_tries 122 = .ok (.iastore, 1) := by decide +kernel
theorem dX7_tries_123 : decode cX7_tries 123 = .ok (.aload_n 0, 1) := by decide +kernel
theorem dX7_tries_124 : decode cX7_tries 124 = .ok (.getfield 54, 3) := by decide +kernel
theorem dX7_tries_127 : decode cX7_tries 127 = .ok (.iload 10, 2) := by decide +kernel
theorem dX7_tries_129 : decode cX7_tries 129 = .ok (.iconst 4, 1) := by decide +kernel
theorem dX7_tries_130 : decode cX7_tries 130 = .ok (.iadd, 1) := by decide +kernel
theorem dX7_tries_131 : decode cX7_tries 131 = .ok (.iload_n 2, 1) := by decide +kernel
theorem dX7_tries_132 : decode cX7_tries 132 = .ok (.iconst 1, 1) := by decide +kernel
theorem dX7_tries_133 : decode cX7_tries 133 = .ok (.if_icmp .le 8, 3) := by decide +kernel
theorem dX7_tries_136 : decode cX7_tries 136 = .ok (.iload 6, 2) := by decide +kernel
theorem dX7_tries_138 : decode cX7_tries 138 = .ok (.goto 4, 3) := by decide +kernel
theorem dX7_tries_141 : decode cX7_tries 141 = .ok (.iconst (-1), 1) := by decide +kernel
theorem dX7_tries_142 : decode cX7_tries 142 = .ok (.iastore, 1) := by decide +kernel
theorem dX7_tries_143 : decode cX7_tries 143 = .ok (.aload_n 0, 1) := by decide +kernel
theorem dX7_tries_144 : decode cX7_tries 144 = .ok (.getfield 54, 3) := by decide +kernel
theorem dX7_tries_147 : decode cX7_tries 147 = .ok (.iload 10, 2) := by decide +kernel
theorem dX7_tries_149 : decode cX7_tries 149 = .ok (.iconst 5, 1) := by decide +kernel
theorem dX7_tries_150 : decode cX7_tries 150 = .ok (.iadd, 1) := by decide +kernel
theorem dX7_tries_151 : decode cX7_tries 151 = .ok (.iload 7, 2) := by decide +kernel
theorem dX7_tries_153 : decode cX7_tries 153 = .ok (.iastore, 1) := by decide +kernel
theorem dX7_tries_154 : decode cX7_tries 154 = .ok (.aload_n 0, 1) := by decide +kernel
theorem dX7_tries_155 : decode cX7_tries 155 = .ok (.getfield 54, 3) := by decide +kernel
theorem dX7_tries_158 : decode cX7_tries 158 = .ok (.iload 10, 2) := by decide +kernel
theorem dX7_tries_160 : decode cX7_tries 160 = .ok (.bipush 6, 2) := by decide +kernel
theorem dX7_tries_162 : decode cX7_tries 162 = .ok (.iadd, 1) := by decide +kernel
theorem dX7_tries_163 : decode cX7_tries 163 = .ok (.iload 9, 2) := by decide +kernel
theorem dX7_tries_165 : decode cX7_tries 165 = .ok (.iastore, 1) := by decide +kernel
theorem dX7_tries_166 : decode cX7_tries 166 = .ok (.aload_n 0, 1) := by decide +kernel
theorem dX7_tries_167 : decode cX7_tries 167 = .ok (.getfield 54, 3) := by decide +kernel
theorem dX7_tries_170 : decode cX7_tries 170 = .ok (.iload 10, 2) := by decide +kernel
theorem dX7_tries_172 : decode cX7_tries 172 = .ok (.bipush 7, 2) := by decide +kernel
theorem dX7_tries_174 : decode cX7_tries 174 = .ok (.iadd, 1) := by decide +kernel
theorem dX7_tries_175 : decode cX7_tries 175 = .ok (.iload 8, 2) := by decide +kernel
theorem dX7_tries_177 : decode cX7_tries 177 = .ok (.iastore, 1) := by decide +kernel
theorem dX7_tries_178 : decode cX7_tries 178 = .ok (.return_, 1) := by decide +kernel
theorem dX7_find_0 : decode cX7_find 0 = .ok (.aload_n 0, 1) := by decide +kernel
theorem dX7_find_1 : decode cX7_find 1 = .ok (.iconst 0, 1) := by decide +kernel
theorem dX7_find_2 : decode cX7_find 2 = .ok (.putfield 78, 3) := by decide +kernel
theorem dX7_find_5 : decode cX7_find 5 = .ok (.iconst 0, 1) := by decide +kernel
theorem dX7_find_6 : decode cX7_find 6 = .ok (.istore_n 1, 1) := by decide +kernel
theorem dX7_find_7 : decode cX7_find 7 = .ok (.iconst 0, 1) := by decide +kernel
theorem dX7_find_8 : decode cX7_find 8 = .ok (.istore_n 2, 1) := by decide +kernel
theorem dX7_find_9 : decode cX7_find 9 = .ok (.iload_n 2, 1) := by decide +kernel
theorem dX7_find_10 : decode cX7_find 10 = .ok (.bipush 16, 2) := by decide +kernel
theorem dX7_find_12 : decode cX7_find 12 = .ok (.if_icmp .ge 220, 3) := by decide +kernel
theorem dX7_find_15 : decode cX7_find 15 = .ok (.aload_n 0, 1) := by decide +kernel
theorem dX7_find_16 : decode cX7_find 16 = .ok (.iload_n 2, 1) := by decide +kernel
theorem dX7_find_17 : decode cX7_find 17 = .ok (.invokevirtual 249, 3) := by decide +kernel
theorem dX7_find_20 : decode cX7_find 20 = .ok (.aload_n 0, 1) := by decide +kernel
theorem dX7_find_21 : decode cX7_find 21 = .ok (.getfield 54, 3) := by decide +kernel
theorem dX7_find_24 : decode cX7_find 24 = .ok (.bipush 8, 2) := by decide +kernel
theorem dX7_find_26 : decode cX7_find 26 = .ok (.iload_n 2, 1) := by decide +kernel
theorem dX7_find_27 : decode cX7_find 27 = .ok (.imul, 1) := by decide +kernel
theorem dX7_find_28 : decode cX7_find 28 = .ok (.bipush 6, 2) := by decide +kernel
theorem dX7_find_30 : decode cX7_find 30 = .ok (.iadd, 1) := by decide +kernel
theorem dX7_find_31 : decode cX7_find 31 = .ok (.ldc 252, 2) := by decide +kernel
theorem dX7_find_33 : decode cX7_find 33 = .ok (.iastore, 1) := by decide +kernel
theorem dX7_find_34 : decode cX7_find 34 = .ok (.iconst 0, 1) := by decide +kernel
theorem dX7_find_35 : decode cX7_find 35 = .ok (.istore_n 3, 1) := by decide +kernel
theorem dX7_find_36 : decode cX7_find 36 = .ok (.iload_n 3, 1) := by decide +kernel
theorem dX7_find_37 : decode cX7_find 37 = .ok (.iconst 3, 1) := by decide +kernel
theorem dX7_find_38 : decode cX7_find 38 = .ok (.if_icmp .ge 20, 3) := by decide +kernel
theorem dX7_find_41 : decode cX7_find 41 = .ok (.aload_n 0, 1) := by decide +kernel
theorem dX7_find_42 : decode cX7_find 42 = .ok (.iload_n 2, 1) := by decide +kernel
theorem dX7_find_43 : decode cX7_find 43 = .ok (.iconst 0, 1) := by decide +kernel
theorem dX7_find_44 : decode cX7_find 44 = .ok (.iconst 0, 1) := by decide +kernel
theorem dX7_find_45 : decode cX7_find 45 = .ok (.iconst 0, 1) := by decide +kernel
theorem dX7_find_46 : decode cX7_find 46 = .ok (.iconst 0, 1) := by decide +kernel
theorem dX7_find_47 : decode cX7_find 47 = .ok (.iconst 0, 1) := by decide +kernel
theorem dX7_find_48 : decode cX7_find 48 = .ok (.iload_n 3, 1) := by decide +kernel
theorem dX7_find_49 : decode cX7_find 49 = .ok (.invokevirtual 253, 3) := by decide +kernel
theorem dX7_find_52 : decode cX7_find 52 = .ok (.iinc 3 1, 3) := by decide +kernel
theorem dX7_find_55 : decode cX7_find 55 = .ok (.goto (-19), 3) := by decide +kernel
theorem dX7_find_58 : decode cX7_find 58 = .ok (.iconst 0, 1) := by decide +kernel
theorem dX7_find_59 : decode cX7_find 59 = .ok (.istore_n 3, 1) := by decide +kernel
theorem dX7_find_60 : decode cX7_find 60 = .ok (.iload_n 3, 1) := by decide +kernel
theorem dX7_find_61 : decode cX7_find 61 = .ok (.bipush 10, 2) := by decide +kernel
theorem dX7_find_63 : decode cX7_find 63 = .ok (.if_icmp .ge 52, 3) := by decide +kernel
theorem dX7_find_66 : decode cX7_find 66 = .ok (.iconst 0, 1) := by decide +kernel
theorem dX7_find_67 : decode cX7_find 67 = .ok (.istore 4, 2) := by decide +kernel
theorem dX7_find_69 : decode cX7_find 69 = .ok (.iload 4, 2) := by decide +kernel
theorem dX7_find_71 : decode cX7_find 71 = .ok (.iconst 3, 1) := by decide +kernel
theorem dX7_find_72 : decode cX7_find 72 = .ok (.if_icmp .ge 37, 3) := by decide +kernel
theorem dX7_find_75 : decode cX7_find 75 = .ok (.iconst 0, 1) := by decide +kernel
theorem dX7_find_76 : decode cX7_find 76 = .ok (.istore 5, 2) := by decide +kernel
theorem dX7_find_78 : decode cX7_find 78 = .ok (.iload 5, 2) := by decide +kernel
theorem dX7_find_80 : decode cX7_find 80 = .ok (.iconst 3, 1) := by decide +kernel
theorem dX7_find_81 : decode cX7_find 81 = .ok (.if_icmp .ge 22, 3) := by decide +kernel
theorem dX7_find_84 : decode cX7_find 84 = .ok (.aload_n 0, 1) := by decide +kernel
theorem dX7_find_85 : decode cX7_find 85 = .ok (.iload_n 2, 1) := by decide +kernel
theorem dX7_find_86 : decode cX7_find 86 = .ok (.iconst 1, 1) := by decide +kernel
theorem dX7_find_87 : decode cX7_find 87 = .ok (.iload_n 3, 1) := by decide +kernel
theorem dX7_find_88 : decode cX7_find 88 = .ok (.iload 4, 2) := by decide +kernel
theorem dX7_find_90 : decode cX7_find 90 = .ok (.iconst 0, 1) := by decide +kernel
theorem dX7_find_91 : decode cX7_find 91 = .ok (.iconst 0, 1) := by decide +kernel
theorem dX7_find_92 : decode cX7_find 92 = .ok (.iload 5, 2) := by decide +kernel
theorem dX7_find_94 : decode cX7_find 94 = .ok (.invokevirtual 253, 3) := by decide +kernel
theorem dX7_find_97 : decode cX7_find 97 = .ok (.iinc 5 1, 3) := by decide +kernel
theorem dX7_find_100 : decode cX7_find 100 = .ok (.goto (-22), 3) := by decide +kernel
theorem dX7_find_103 : decode cX7_find 103 = .ok (.iinc 4 1, 3) := by decide +kernel
theorem dX7_find_106 : decode cX7_find 106 = .ok (.goto (-37), 3) := by decide +kernel
theorem dX7_find_109 : decode cX7_find 109 = .ok (.iinc 3 1, 3) := by decide +kernel
theorem dX7_find_112 : decode cX7_find 112 = .ok (.goto (-52), 3) := by decide +kernel
theorem dX7_find_115 : decode cX7_find 115 = .ok (.iconst 0, 1) := by decide +kernel
theorem dX7_find_116 : decode cX7_find 116 = .ok (.istore_n 3, 1) := by decide +kernel
theorem dX7_find_117 : decode cX7_find 117 = .ok (.iload_n 3, 1) := by decide +kernel
theorem dX7_find_118 : decode cX7_find 118 = .ok (.bipush 10, 2) := by decide +kernel
theorem dX7_find_120 : decode cX7_find 120 = .ok (.if_icmp .ge 91, 3) := by decide +kernel
theorem dX7_find_123 : decode cX7_find 123 = .ok (.iconst 0, 1) := by decide +kernel
theorem dX7_find_124 : decode cX7_find 124 = .ok (.istore 4, 2) := by decide +kernel
theorem dX7_find_126 : decode cX7_find 126 = .ok (.iload 4, 2) := by decide +kernel
theorem dX7_find_128 : decode cX7_find 128 = .ok (.iconst 3, 1) := by decide +kernel
theorem dX7_find_129 : decode cX7_find 129 = .ok (.if_icmp .ge 76, 3) := by decide +kernel
theorem dX7_find_132 : decode cX7_find 132 = .ok (.iconst 0, 1) := by decide +kernel
theorem dX7_find_133 : decode cX7_find 133 = .ok (.istore 5, 2) := by decide +kernel
theorem dX7_find_135 : decode cX7_find 135 = .ok (.iload 5, 2) := by decide +kernel
theorem dX7_find_137 : decode cX7_find 137 = .ok (.bipush 10, 2) := by decide +kernel
theorem dX7_find_139 : decode cX7_find 139 = .ok (.if_icmp .ge 60, 3) := by decide +kernel
theorem dX7_find_142 : decode cX7_find 142 = .ok (.iconst 0, 1) := by decide +kernel
theorem dX7_find_143 : decode cX7_find 143 = .ok (.istore 6, 2) := by decide +kernel
theorem dX7_find_145 : decode cX7_find 145 = .ok (.iload 6, 2) := by decide +kernel
theorem dX7_find_147 : decode cX7_find 147 = .ok (.iconst 3, 1) := by decide +kernel
theorem dX7_find_148 : decode cX7_find 148 = .ok (.if_icmp .ge 45, 3) := by decide +kernel
theorem dX7_find_151 : decode cX7_find 151 = .ok (.iload 5, 2) := by decide +kernel
theorem dX7_find_153 : decode cX7_find 153 = .ok (.iload_n 3, 1) := by decide +kernel
theorem dX7_find_154 : decode cX7_find 154 = .ok (.if_icmp .eq 39, 3) := by decide +kernel
theorem dX7_find_157 : decode cX7_find 157 = .ok (.iconst 0, 1) := by decide +kernel
theorem dX7_find_158 : decode cX7_find 158 = .ok (.istore 7, 2) := by decide +kernel
theorem dX7_find_160 : decode cX7_find 160 = .ok (.iload 7, 2) := by decide +kernel
theorem dX7_find_162 : decode cX7_find 162 = .ok (.iconst 3, 1) := by decide +kernel
theorem dX7_find_163 : decode cX7_find 163 = .ok (.if_icmp .ge 24, 3) := by decide +kernel
theorem dX7_find_166 : decode cX7_find 166 = .ok (.aload_n 0, 1) := by decide +kernel
theorem dX7_find_167 : decode cX7_find 167 = .ok (.iload_n 2, 1) := by decide +kernel
theorem dX7_find_168 : decode cX7_find 168 = .ok (.iconst 2, 1) := by decide +kernel
theorem dX7_find_169 : decode cX7_find 169 = .ok (.iload_n 3, 1) := by decide +kernel
theorem dX7_find_170 : decode cX7_find 170 = .ok (.iload 4, 2) := by decide +kernel
theorem dX7_find_172 : decode cX7_find 172 = .ok (.iload 5, 2) := by decide +kernel
theorem dX7_find_174 : decode cX7_find 174 = .ok (.iload 6, 2) := by decide +kernel
theorem dX7_find_176 : decode cX7_find 176 = .ok (.iload 7, 2) := by decide +kernel
theorem dX7_find_178 : decode cX7_find 178 = .ok (.invokevirtual 253, 3) := by decide +kernel
theorem dX7_find_181 : decode cX7_find 181 = .ok (.iinc 7 1, 3) := by decide +kernel
theorem dX7_find_184 : decode cX7_find 184 = .ok (.goto (-24), 3) := by decide +kernel
theorem dX7_find_187 : decode cX7_find 187 = .ok (.iinc 6 1, 3) := by decide +kernel
theorem dX7_find_190 : decode cX7_find 190 = .ok (.goto (-45), 3) := by decide +kernel
theorem dX7_find_193 : decode cX7_find 193 = .ok (.iinc 5 1, 3) := by decide +kernel
theorem dX7_find_196 : decode cX7_find 196 = .ok (.goto (-61), 3) := by decide +kernel
theorem dX7_find_199 : decode cX7_find 199 = .ok (.iinc 4 1, 3) := by decide +kernel
theorem dX7_find_202 : decode cX7_find 202 = .ok (.goto (-76), 3) := by decide +kernel
theorem dX7_find_205 : decode cX7_find 205 = .ok (.iinc 3 1, 3) := by decide +kernel
theorem dX7_find_208 : decode cX7_find 208 = .ok (.goto (-91), 3) := by decide +kernel
theorem dX7_find_211 : decode cX7_find 211 = .ok (.iload_n 1, 1) := by decide +kernel
theorem dX7_find_212 : decode cX7_find 212 = .ok (.aload_n 0, 1) := by decide +kernel
theorem dX7_find_213 : decode cX7_find 213 = .ok (.getfield 54, 3) := by decide +kernel
theorem dX7_find_216 : decode cX7_find 216 = .ok (.bipush 8, 2) := by decide +kernel
theorem dX7_find_218 : decode cX7_find 218 = .ok (.iload_n 2, 1) := by decide +kernel
theorem dX7_find_219 : decode cX7_find 219 = .ok (.imul, 1) := by decide +kernel
theorem dX7_find_220 : decode cX7_find 220 = .ok (.bipush 6, 2) := by decide +kernel
theorem dX7_find_222 : decode cX7_find 222 = .ok (.iadd, 1) := by decide +kernel
theorem dX7_find_223 : decode cX7_find 223 = .ok (.iaload, 1) := by decide +kernel
theorem dX7_find_224 : decode cX7_find 224 = .ok (.iadd, 1) := by decide +kernel
theorem dX7_find_225 : decode cX7_find 225 = .ok (.istore_n 1, 1) := by decide +kernel
theorem dX7_find_226 : decode cX7_find 226 = .ok (.iinc 2 1, 3) := by decide +kernel
theorem dX7_find_229 : decode cX7_find 229 = .ok (.goto (-220), 3) := by decide +kernel
theorem dX7_find_232 : decode cX7_find 232 = .ok (.aload_n 0, 1) := by decide +kernel
theorem dX7_find_233 : decode cX7_find 233 = .ok (.iconst 1, 1) := by decide +kernel
theorem dX7_find_234 : decode cX7_find 234 = .ok (.putfield 257, 3) := by decide +kernel
theorem dX7_find_237 : decode cX7_find 237 = .ok (.iload_n 1, 1) := by decide +kernel
theorem dX7_find_238 : decode cX7_find 238 = .ok (.ireturn, 1) := by decide +kernel
theorem dX7_habit_0 : decode cX7_habit 0 = .ok (.aload_n 0, 1) := by decide +kernel
theorem dX7_habit_1 : decode cX7_habit 1 = .ok (.iconst 0, 1) := by decide +kernel
theorem dX7_habit_2 : decode cX7_habit 2 = .ok (.putfield 78, 3) := by decide +kernel
theorem dX7_habit_5 : decode cX7_habit 5 = .ok (.aload_n 0, 1) := by decide +kernel
theorem dX7_habit_6 : decode cX7_habit 6 = .ok (.iload_n 1, 1) := by decide +kernel
theorem dX7_habit_7 : decode cX7_habit 7 = .ok (.ifCond .lt 23, 3) := by decide +kernel
theorem dX7_habit_10 : decode cX7_habit 10 = .ok (.iload_n 1, 1) := by decide +kernel
theorem dX7_habit_11 : decode cX7_habit 11 = .ok (.bipush 15, 2) := by decide +kernel
theorem dX7_habit_13 : decode cX7_habit 13 = .ok (.if_icmp .gt 17, 3) := by decide +kernel
theorem dX7_habit_16 : decode cX7_habit 16 = .ok (.iload_n 2, 1) := by decide +kernel
theorem dX7_habit_17 : decode cX7_habit 17 = .ok (.ifCond .lt 13, 3) := by decide +kernel
theorem dX7_habit_20 : decode cX7_habit 20 = .ok (.iload_n 2, 1) := by decide +kernel
theorem dX7_habit_21 : decode cX7_habit 21 = .ok (.bipush 7, 2) := by decide +kernel
theorem dX7_habit_23 : decode cX7_habit 23 = .ok (.if_icmp .gt 7, 3) := by decide +kernel
theorem dX7_habit_26 : decode cX7_habit 26 = .ok (.iconst 1, 1) := by decide +kernel
theorem dX7_habit_27 : decode cX7_habit 27 = .ok (.goto 4, 3) := by decide +kernel
theorem dX7_habit_30 : decode cX7_habit 30 = .ok (.iconst 0, 1) := by decide +kernel
theorem dX7_habit_31 : decode cX7_habit 31 = .ok (.iconst 1, 1) := by decide +kernel
theorem dX7_habit_32 : decode cX7_habit 32 = .ok (.invokevirtual 208, 3) := by decide +kernel
theorem dX7_habit_35 : decode cX7_habit 35 = .ok (.ifCond .ne 5, 3) := by decide +kernel
theorem dX7_habit_38 : decode cX7_habit 38 = .ok (.iconst 0, 1) := by decide +kernel
theorem dX7_habit_39 : decode cX7_habit 39 = .ok (.ireturn, 1) := by decide +kernel
theorem dX7_habit_40 : decode cX7_habit 40 = .ok (.aload_n 0, 1) := by decide +kernel
theorem dX7_habit_41 : decode cX7_habit 41 = .ok (.getfield 257, 3) := by decide +kernel
theorem dX7_habit_44 : decode cX7_habit 44 = .ok (.ifCond .eq 17, 3) := by decide +kernel
theorem dX7_habit_47 : decode cX7_habit 47 = .ok (.aload_n 0, 1) := by decide +kernel
theorem dX7_habit_48 : decode cX7_habit 48 = .ok (.getfield 54, 3) := by decide +kernel
theorem dX7_habit_51 : decode cX7_habit 51 = .ok (.bipush 8, 2) := by decide +kernel
theorem dX7_habit_53 : decode cX7_habit 53 = .ok (.iload_n 1, 1) := by decide +kernel
theorem dX7_habit_54 : decode cX7_habit 54 = .ok (.imul, 1) := by decide +kernel
theorem dX7_habit_55 : decode cX7_habit 55 = .ok (.iload_n 2, 1) := by decide +kernel
theorem dX7_habit_56 : decode cX7_habit 56 = .ok (.iadd, 1) := by decide +kernel
theorem dX7_habit_57 : decode cX7_habit 57 = .ok (.iaload, 1) := by decide +kernel
theorem dX7_habit_58 : decode cX7_habit 58 = .ok (.goto 4, 3) := by decide +kernel
theorem dX7_habit_61 : decode cX7_habit 61 = .ok (.iconst (-1), 1) := by decide +kernel
theorem dX7_habit_62 : decode cX7_habit 62 = .ok (.ireturn, 1) := by decide +kernel
theorem dX7_toldAt_0 : decode cX7_toldAt 0 = .ok (.bipush 8, 2) := by decide +kernel
theorem dX7_toldAt_2 : decode cX7_toldAt 2 = .ok (.aload_n 0, 1) := by decide +kernel
theorem dX7_toldAt_3 : decode cX7_toldAt 3 = .ok (.iload_n 1, 1) := by decide +kernel
theorem dX7_toldAt_4 : decode cX7_toldAt 4 = .ok (.iload_n 2, 1) := by decide +kernel
theorem dX7_toldAt_5 : decode cX7_toldAt 5 = .ok (.invokevirtual 226, 3) := by decide +kernel
theorem dX7_toldAt_8 : decode cX7_toldAt 8 = .ok (.imul, 1) := by decide +kernel
theorem dX7_toldAt_9 : decode cX7_toldAt 9 = .ok (.istore_n 3, 1) := by decide +kernel
theorem dX7_toldAt_10 : decode cX7_toldAt 10 = .ok (.aload_n 0, 1) := by decide +kernel
theorem dX7_toldAt_11 : decode cX7_toldAt 11 = .ok (.iload_n 1, 1) := by decide +kernel
theorem dX7_toldAt_12 : decode cX7_toldAt 12 = .ok (.iload_n 2, 1) := by decide +kernel
theorem dX7_toldAt_13 : decode cX7_toldAt 13 = .ok (.invokevirtual 232, 3) := by decide +kernel
theorem dX7_toldAt_16 : decode cX7_toldAt 16 = .ok (.aload_n 0, 1) := by decide +kernel
theorem dX7_toldAt_17 : decode cX7_toldAt 17 = .ok (.iload_n 1, 1) := by decide +kernel
theorem dX7_toldAt_18 : decode cX7_toldAt 18 = .ok (.iload_n 2, 1) := by decide +kernel
theorem dX7_toldAt_19 : decode cX7_toldAt 19 = .ok (.invokevirtual 238, 3) := by decide +kernel
theorem dX7_toldAt_22 : decode cX7_toldAt 22 = .ok (.aload_n 0, 1) := by decide +kernel
theorem dX7_toldAt_23 : decode cX7_toldAt 23 = .ok (.getfield 54, 3) := by decide +kernel
theorem dX7_toldAt_26 : decode cX7_toldAt 26 = .ok (.iload_n 3, 1) := by decide +kernel
theorem dX7_toldAt_27 : decode cX7_toldAt 27 = .ok (.iaload, 1) := by decide +kernel
theorem dX7_toldAt_28 : decode cX7_toldAt 28 = .ok (.aload_n 0, 1) := by decide +kernel
theorem dX7_toldAt_29 : decode cX7_toldAt 29 = .ok (.getfield 54, 3) := by decide +kernel
theorem dX7_toldAt_32 : decode cX7_toldAt 32 = .ok (.iload_n 3, 1) := by decide +kernel
theorem dX7_toldAt_33 : decode cX7_toldAt 33 = .ok (.iconst 1, 1) := by decide +kernel
theorem dX7_toldAt_34 : decode cX7_toldAt 34 = .ok (.iadd, 1) := by decide +kernel
theorem dX7_toldAt_35 : decode cX7_toldAt 35 = .ok (.iaload, 1) := by decide +kernel
theorem dX7_toldAt_36 : decode cX7_toldAt 36 = .ok (.aload_n 0, 1) := by decide +kernel
theorem dX7_toldAt_37 : decode cX7_toldAt 37 = .ok (.getfield 54, 3) := by decide +kernel
theorem dX7_toldAt_40 : decode cX7_toldAt 40 = .ok (.iload_n 3, 1) := by decide +kernel
theorem dX7_toldAt_41 : decode cX7_toldAt 41 = .ok (.iconst 2, 1) := by decide +kernel
theorem dX7_toldAt_42 : decode cX7_toldAt 42 = .ok (.iadd, 1) := by decide +kernel
theorem dX7_toldAt_43 : decode cX7_toldAt 43 = .ok (.iaload, 1) := by decide +kernel
theorem dX7_toldAt_44 : decode cX7_toldAt 44 = .ok (.aload_n 0, 1) := by decide +kernel
theorem dX7_toldAt_45 : decode cX7_toldAt 45 = .ok (.getfield 54, 3) := by decide +kernel
theorem dX7_toldAt_48 : decode cX7_toldAt 48 = .ok (.iload_n 3, 1) := by decide +kernel
theorem dX7_toldAt_49 : decode cX7_toldAt 49 = .ok (.iconst 3, 1) := by decide +kernel
theorem dX7_toldAt_50 : decode cX7_toldAt 50 = .ok (.iadd, 1) := by decide +kernel
theorem dX7_toldAt_51 : decode cX7_toldAt 51 = .ok (.iaload, 1) := by decide +kernel
theorem dX7_toldAt_52 : decode cX7_toldAt 52 = .ok (.aload_n 0, 1) := by decide +kernel
theorem dX7_toldAt_53 : decode cX7_toldAt 53 = .ok (.getfield 54, 3) := by decide +kernel
theorem dX7_toldAt_56 : decode cX7_toldAt 56 = .ok (.iload_n 3, 1) := by decide +kernel
theorem dX7_toldAt_57 : decode cX7_toldAt 57 = .ok (.iconst 4, 1) := by decide +kernel
theorem dX7_toldAt_58 : decode cX7_toldAt 58 = .ok (.iadd, 1) := by decide +kernel
theorem dX7_toldAt_59 : decode cX7_toldAt 59 = .ok (.iaload, 1) := by decide +kernel
theorem dX7_toldAt_60 : decode cX7_toldAt 60 = .ok (.aload_n 0, 1) := by decide +kernel
theorem dX7_toldAt_61 : decode cX7_toldAt 61 = .ok (.getfield 54, 3) := by decide +kernel
theorem dX7_toldAt_64 : decode cX7_toldAt 64 = .ok (.iload_n 3, 1) := by decide +kernel
theorem dX7_toldAt_65 : decode cX7_toldAt 65 = .ok (.iconst 5, 1) := by decide +kernel
theorem dX7_toldAt_66 : decode cX7_toldAt 66 = .ok (.iadd, 1) := by decide +kernel
theorem dX7_toldAt_67 : decode cX7_toldAt 67 = .ok (.iaload, 1) := by decide +kernel
theorem dX7_toldAt_68 : decode cX7_toldAt 68 = .ok (.invokestatic 241, 3) := by decide +kernel
theorem dX7_toldAt_71 : decode cX7_toldAt 71 = .ok (.ireturn, 1) := by decide +kernel
theorem dX7_exception_0 : decode cX7_exception 0 = .ok (.aload_n 0, 1) := by decide +kernel
theorem dX7_exception_1 : decode cX7_exception 1 = .ok (.iload_n 1, 1) := by decide +kernel
theorem dX7_exception_2 : decode cX7_exception 2 = .ok (.invokevirtual 216, 3) := by decide +kernel
theorem dX7_exception_5 : decode cX7_exception 5 = .ok (.ifCond .eq 21, 3) := by decide +kernel
theorem dX7_exception_8 : decode cX7_exception 8 = .ok (.aload_n 0, 1) := by decide +kernel
theorem dX7_exception_9 : decode cX7_exception 9 = .ok (.iload_n 2, 1) := by decide +kernel
theorem dX7_exception_10 : decode cX7_exception 10 = .ok (.iconst (-1), 1) := by decide +kernel
theorem dX7_exception_11 : decode cX7_exception 11 = .ok (.if_icmp .lt 7, 3) := by decide +kernel
theorem dX7_exception_14 : decode cX7_exception 14 = .ok (.iconst 1, 1) := by decide +kernel
theorem dX7_exception_15 : decode cX7_exception 15 = .ok (.goto 4, 3) := by decide +kernel
theorem dX7_exception_18 : decode cX7_exception 18 = .ok (.iconst 0, 1) := by decide +kernel
theorem dX7_exception_19 : decode cX7_exception 19 = .ok (.iconst 2, 1) := by decide +kernel
theorem dX7_exception_20 : decode cX7_exception 20 = .ok (.invokevirtual 208, 3) := by decide +kernel
theorem dX7_exception_23 : decode cX7_exception 23 = .ok (.ifCond .ne 5, 3) := by decide +kernel
theorem dX7_exception_26 : decode cX7_exception 26 = .ok (.iconst 0, 1) := by decide +kernel
theorem dX7_exception_27 : decode cX7_exception 27 = .ok (.ireturn, 1) := by decide +kernel
theorem dX7_exception_28 : decode cX7_exception 28 = .ok (.aload_n 0, 1) := by decide +kernel
theorem dX7_exception_29 : decode cX7_exception 29 = .ok (.getfield 257, 3) := by decide +kernel
theorem dX7_exception_32 : decode cX7_exception 32 = .ok (.ifCond .ne 5, 3) := by decide +kernel
theorem dX7_exception_35 : decode cX7_exception 35 = .ok (.iconst (-1), 1) := by decide +kernel
theorem dX7_exception_36 : decode cX7_exception 36 = .ok (.ireturn, 1) := by decide +kernel
theorem dX7_exception_37 : decode cX7_exception 37 = .ok (.iconst 0, 1) := by decide +kernel
theorem dX7_exception_38 : decode cX7_exception 38 = .ok (.istore_n 3, 1) := by decide +kernel
theorem dX7_exception_39 : decode cX7_exception 39 = .ok (.iconst 0, 1) := by decide +kernel
theorem dX7_exception_40 : decode cX7_exception 40 = .ok (.istore 4, 2) := by decide +kernel
theorem dX7_exception_42 : decode cX7_exception 42 = .ok (.iload 4, 2) := by decide +kernel
theorem dX7_exception_44 : decode cX7_exception 44 = .ok (.aload_n 0, 1) := by decide +kernel
theorem dX7_exception_45 : decode cX7_exception 45 = .ok (.getfield 30, 3) := by decide +kernel
theorem dX7_exception_48 : decode cX7_exception 48 = .ok (.iload_n 1, 1) := by decide +kernel
theorem dX7_exception_49 : decode cX7_exception 49 = .ok (.iaload, 1) := by decide +kernel
theorem dX7_exception_50 : decode cX7_exception 50 = .ok (.iconst 1, 1) := by decide +kernel
theorem dX7_exception_51 : decode cX7_exception 51 = .ok (.isub, 1) := by decide +kernel
theorem dX7_exception_52 : decode cX7_exception 52 = .ok (.if_icmp .ge 40, 3) := by decide +kernel
theorem dX7_exception_55 : decode cX7_exception 55 = .ok (.aload_n 0, 1) := by decide +kernel
theorem dX7_exception_56 : decode cX7_exception 56 = .ok (.iload_n 1, 1) := by decide +kernel
theorem dX7_exception_57 : decode cX7_exception 57 = .ok (.iload 4, 2) := by decide +kernel
theorem dX7_exception_59 : decode cX7_exception 59 = .ok (.invokevirtual 261, 3) := by decide +kernel
theorem dX7_exception_62 : decode cX7_exception 62 = .ok (.aload_n 0, 1) := by decide +kernel
theorem dX7_exception_63 : decode cX7_exception 63 = .ok (.iload_n 1, 1) := by decide +kernel
theorem dX7_exception_64 : decode cX7_exception 64 = .ok (.iload 4, 2) := by decide +kernel
theorem dX7_exception_66 : decode cX7_exception 66 = .ok (.invokevirtual 229, 3) := by decide +kernel
theorem dX7_exception_69 : decode cX7_exception 69 = .ok (.if_icmp .ne 6, 3) := by decide +kernel
theorem dX7_exception_72 : decode cX7_exception 72 = .ok (.goto 14, 3) := by decide +kernel
theorem dX7_exception_75 : decode cX7_exception 75 = .ok (.iload_n 3, 1) := by decide +kernel
theorem dX7_exception_76 : decode cX7_exception 76 = .ok (.iload_n 2, 1) := by decide +kernel
theorem dX7_exception_77 : decode cX7_exception 77 = .ok (.if_icmp .ne 6, 3) := by decide +kernel
theorem dX7_exception_80 : decode cX7_exception 80 = .ok (.iload 4, 2) := by decide +kernel
theorem dX7_exception_82 : decode cX7_exception 82 = .ok (.ireturn, 1) := by decide +kernel
theorem dX7_exception_83 : decode cX7_exception 83 = .ok (.iinc 3 1, 3) := by decide +kernel
theorem dX7_exception_86 : decode cX7_exception 86 = .ok (.iinc 4 1, 3) := by decide +kernel
theorem dX7_exception_89 : decode cX7_exception 89 = .ok (.goto (-47), 3) := by decide +kernel
theorem dX7_exception_92 : decode cX7_exception 92 = .ok (.iload_n 2, 1) := by decide +kernel
theorem dX7_exception_93 : decode cX7_exception 93 = .ok (.iconst (-1), 1) := by decide +kernel
theorem dX7_exception_94 : decode cX7_exception 94 = .ok (.if_icmp .ne 7, 3) := by decide +kernel
theorem dX7_exception_97 : decode cX7_exception 97 = .ok (.iload_n 3, 1) := by decide +kernel
theorem dX7_exception_98 : decode cX7_exception 98 = .ok (.goto 4, 3) := by decide +kernel
theorem dX7_exception_101 : decode cX7_exception 101 = .ok (.iconst (-1), 1) := by decide +kernel
theorem dX7_exception_102 : decode cX7_exception 102 = .ok (.ireturn, 1) := by decide +kernel
theorem dX7_says_0 : decode cX7_says 0 = .ok (.aload_n 0, 1) := by decide +kernel
theorem dX7_says_1 : decode cX7_says 1 = .ok (.getfield 264, 3) := by decide +kernel
theorem dX7_says_4 : decode cX7_says 4 = .ok (.sipush 2000, 3) := by decide +kernel
theorem dX7_says_7 : decode cX7_says 7 = .ok (.if_icmp .ne 5, 3) := by decide +kernel
theorem dX7_says_10 : decode cX7_says 10 = .ok (.iconst 0, 1) := by decide +kernel
theorem dX7_says_11 : decode cX7_says 11 = .ok (.ireturn, 1) := by decide +kernel
theorem dX7_says_12 : decode cX7_says 12 = .ok (.aload_n 0, 1) := by decide +kernel
theorem dX7_says_13 : decode cX7_says 13 = .ok (.getfield 57, 3) := by decide +kernel
theorem dX7_says_16 : decode cX7_says 16 = .ok (.aload_n 0, 1) := by decide +kernel
theorem dX7_says_17 : decode cX7_says 17 = .ok (.getfield 264, 3) := by decide +kernel
theorem dX7_says_20 : decode cX7_says 20 = .ok (.iload_n 1, 1) := by decide +kernel
theorem dX7_says_21 : decode cX7_says 21 = .ok (.iastore, 1) := by decide +kernel
theorem dX7_says_22 : decode cX7_says 22 = .ok (.aload_n 0, 1) := by decide +kernel
theorem dX7_says_23 : decode cX7_says 23 = .ok (.dup, 1) := by decide +kernel
theorem dX7_says_24 : decode cX7_says 24 = .ok (.getfield 264, 3) := by decide +kernel
theorem dX7_says_27 : decode cX7_says 27 = .ok (.iconst 1, 1) := by decide +kernel
theorem dX7_says_28 : decode cX7_says 28 = .ok (.iadd, 1) := by decide +kernel
theorem dX7_says_29 : decode cX7_says 29 = .ok (.putfield 264, 3) := by decide +kernel
theorem dX7_says_32 : decode cX7_says 32 = .ok (.iconst 1, 1) := by decide +kernel
theorem dX7_says_33 : decode cX7_says 33 = .ok (.ireturn, 1) := by decide +kernel
theorem dX7_none_0 : decode cX7_none 0 = .ok (.aload_n 0, 1) := by decide +kernel
theorem dX7_none_1 : decode cX7_none 1 = .ok (.iconst 0, 1) := by decide +kernel
theorem dX7_none_2 : decode cX7_none 2 = .ok (.putfield 264, 3) := by decide +kernel
theorem dX7_none_5 : decode cX7_none 5 = .ok (.aload_n 0, 1) := by decide +kernel
theorem dX7_none_6 : decode cX7_none 6 = .ok (.iconst (-1), 1) := by decide +kernel
theorem dX7_none_7 : decode cX7_none 7 = .ok (.putfield 60, 3) := by decide +kernel
theorem dX7_none_10 : decode cX7_none 10 = .ok (.iconst (-1), 1) := by decide +kernel
theorem dX7_none_11 : decode cX7_none 11 = .ok (.ireturn, 1) := by decide +kernel
theorem dX7_lay_0 : decode cX7_lay 0 = .ok (.aload_n 0, 1) := by decide +kernel
theorem dX7_lay_1 : decode cX7_lay 1 = .ok (.iload_n 1, 1) := by decide +kernel
theorem dX7_lay_2 : decode cX7_lay 2 = .ok (.invokevirtual 216, 3) := by decide +kernel
theorem dX7_lay_5 : decode cX7_lay 5 = .ok (.ifCond .ne 5, 3) := by decide +kernel
theorem dX7_lay_8 : decode cX7_lay 8 = .ok (.iconst 0, 1) := by decide +kernel
theorem dX7_lay_9 : decode cX7_lay 9 = .ok (.ireturn, 1) := by decide +kernel
theorem dX7_lay_10 : decode cX7_lay 10 = .ok (.aload_n 0, 1) := by decide +kernel
theorem dX7_lay_11 : decode cX7_lay 11 = .ok (.invokevirtual 267, 3) := by decide +kernel
theorem dX7_lay_14 : decode cX7_lay 14 = .ok (.pop, 1) := by decide +kernel
theorem dX7_lay_15 : decode cX7_lay 15 = .ok (.aload_n 0, 1) := by decide +kernel
theorem dX7_lay_16 : decode cX7_lay 16 = .ok (.getfield 257, 3) := by decide +kernel
theorem dX7_lay_19 : decode cX7_lay 19 = .ok (.ifCond .ne 5, 3) := by decide +kernel
theorem dX7_lay_22 : decode cX7_lay 22 = .ok (.iconst (-1), 1) := by decide +kernel
theorem dX7_lay_23 : decode cX7_lay 23 = .ok (.ireturn, 1) := by decide +kernel
theorem dX7_lay_24 : decode cX7_lay 24 = .ok (.iconst 1, 1) := by decide +kernel
theorem dX7_lay_25 : decode cX7_lay 25 = .ok (.istore_n 2, 1) := by decide +kernel
theorem dX7_lay_26 : decode cX7_lay 26 = .ok (.iconst 0, 1) := by decide +kernel
theorem dX7_lay_27 : decode cX7_lay 27 = .ok (.istore_n 3, 1) := by decide +kernel
theorem dX7_lay_28 : decode cX7_lay 28 = .ok (.iload_n 3, 1) := by decide +kernel
theorem dX7_lay_29 : decode cX7_lay 29 = .ok (.aload_n 0, 1) := by decide +kernel
theorem dX7_lay_30 : decode cX7_lay 30 = .ok (.getfield 30, 3) := by decide +kernel
theorem dX7_lay_33 : decode cX7_lay 33 = .ok (.iload_n 1, 1) := by decide +kernel
theorem dX7_lay_34 : decode cX7_lay 34 = .ok (.iaload, 1) := by decide +kernel
theorem dX7_lay_35 : decode cX7_lay 35 = .ok (.if_icmp .ge 210, 3) := by decide +kernel
theorem dX7_lay_38 : decode cX7_lay 38 = .ok (.iload_n 2, 1) := by decide +kernel
theorem dX7_lay_39 : decode cX7_lay 39 = .ok (.ifCond .eq 206, 3) := by decide +kernel
theorem dX7_lay_42 : decode cX7_lay 42 = .ok (.iconst 0, 1) := by decide +kernel
theorem dX7_lay_43 : decode cX7_lay 43 = .ok (.istore 4, 2) := by decide +kernel
theorem dX7_lay_45 : decode cX7_lay 45 = .ok (.iload 4, 2) := by decide +kernel
theorem dX7_lay_47 : decode cX7_lay 47 = .ok (.aload_n 0, 1) := by decide +kernel
theorem dX7_lay_48 : decode cX7_lay 48 = .ok (.getfield 39, 3) := by decide +kernel
theorem dX7_lay_51 : decode cX7_lay 51 = .ok (.sipush 201, 3) := by decide +kernel
theorem dX7_lay_54 : decode cX7_lay 54 = .ok (.iload_n 1, 1) := by decide +kernel
theorem dX7_lay_55 : decode cX7_lay 55 = .ok (.imul, 1) := by decide +kernel
theorem dX7_lay_56 : decode cX7_lay 56 = .ok (.iload_n 3, 1) := by decide +kernel
theorem dX7_lay_57 : decode cX7_lay 57 = .ok (.iadd, 1) := by decide +kernel
theorem dX7_lay_58 : decode cX7_lay 58 = .ok (.iaload, 1) := by decide +kernel
theorem dX7_lay_59 : decode cX7_lay 59 = .ok (.if_icmp .ge 52, 3) := by decide +kernel
theorem dX7_lay_62 : decode cX7_lay 62 = .ok (.iload_n 2, 1) := by decide +kernel
theorem dX7_lay_63 : decode cX7_lay 63 = .ok (.ifCond .eq 40, 3) := by decide +kernel
theorem dX7_lay_66 : decode cX7_lay 66 = .ok (.aload_n 0, 1) := by decide +kernel
theorem dX7_lay_67 : decode cX7_lay 67 = .ok (.aload_n 0, 1) := by decide +kernel
theorem dX7_lay_68 : decode cX7_lay 68 = .ok (.getfield 21, 3) := by decide +kernel
theorem dX7_lay_71 : decode cX7_lay 71 = .ok (.sipush 800, 3) := by decide +kernel
theorem dX7_lay_74 : decode cX7_lay 74 = .ok (.iload_n 1, 1) := by decide +kernel
theorem dX7_lay_75 : decode cX7_lay 75 = .ok (.imul, 1) := by decide +kernel
theorem dX7_lay_76 : decode cX7_lay 76 = .ok (.aload_n 0, 1) := by decide +kernel
theorem dX7_lay_77 : decode cX7_lay 77 = .ok (.getfield 36, 3) := by decide +kernel
theorem dX7_lay_80 : decode cX7_lay 80 = .ok (.sipush 201, 3) := by decide +kernel
theorem dX7_lay_83 : decode cX7_lay 83 = .ok (.iload_n 1, 1) := by decide +kernel
theorem dX7_lay_84 : decode cX7_lay 84 = .ok (.imul, 1) := by decide +kernel
theorem dX7_lay_85 : decode cX7_lay 85 = .ok (.iload_n 3, 1) := by decide +kernel
theorem dX7_lay_86 : decode cX7_lay 86 = .ok (.iadd, 1) := by decide +kernel
theorem dX7_lay_87 : decode cX7_lay 87 = .ok (.iaload, 1) := by decide +kernel
theorem dX7_lay_88 : decode cX7_lay 88 = .ok (.iadd, 1) := by decide +kernel
theorem dX7_lay_89 : decode cX7_lay 89 = .ok (.iload 4, 2) := by decide +kernel
theorem dX7_lay_91 : decode cX7_lay 91 = .ok (.iadd, 1) := by decide +kernel
theorem dX7_lay_92 : decode cX7_lay 92 = .ok (.iaload, 1) := by decide +kernel
theorem dX7_lay_93 : decode cX7_lay 93 = .ok (.invokevirtual 270, 3) := by decide +kernel
theorem dX7_lay_96 : decode cX7_lay 96 = .ok (.ifCond .eq 7, 3) := by decide +kernel
theorem dX7_lay_99 : decode cX7_lay 99 = .ok (.iconst 1, 1) := by decide +kernel
theorem dX7_lay_100 : decode cX7_lay 100 = .ok (.goto 4, 3) := by decide +kernel
theorem dX7_lay_103 : decode cX7_lay 103 = .ok (.iconst 0, 1) := by decide +kernel
theorem dX7_lay_104 : decode cX7_lay 104 = .ok (.istore_n 2, 1) := by decide +kernel
theorem dX7_lay_105 : decode cX7_lay 105 = .ok (.iinc 4 1, 3) := by decide +kernel
theorem dX7_lay_108 : decode cX7_lay 108 = .ok (.goto (-63), 3) := by decide +kernel
theorem dX7_lay_111 : decode cX7_lay 111 = .ok (.iload_n 3, 1) := by decide +kernel
theorem dX7_lay_112 : decode cX7_lay 112 = .ok (.iconst 1, 1) := by decide +kernel
theorem dX7_lay_113 : decode cX7_lay 113 = .ok (.iadd, 1) := by decide +kernel
theorem dX7_lay_114 : decode cX7_lay 114 = .ok (.aload_n 0, 1) := by decide +kernel
theorem dX7_lay_115 : decode cX7_lay 115 = .ok (.getfield 30, 3) := by decide +kernel
theorem dX7_lay_118 : decode cX7_lay 118 = .ok (.iload_n 1, 1) := by decide +kernel
theorem dX7_lay_119 : decode cX7_lay 119 = .ok (.iaload, 1) := by decide +kernel
theorem dX7_lay_120 : decode cX7_lay 120 = .ok (.if_icmp .ne 6, 3) := by decide +kernel
theorem dX7_lay_123 : decode cX7_lay 123 = .ok (.goto 116, 3) := by decide +kernel
theorem dX7_lay_126 : decode cX7_lay 126 = .ok (.aload_n 0, 1) := by decide +kernel
theorem dX7_lay_127 : decode cX7_lay 127 = .ok (.iload_n 1, 1) := by decide +kernel
theorem dX7_lay_128 : decode cX7_lay 128 = .ok (.iload_n 3, 1) := by decide +kernel
theorem dX7_lay_129 : decode cX7_lay 129 = .ok (.invokevirtual 261, 3) := by decide +kernel
theorem dX7_lay_132 : decode cX7_lay 132 = .ok (.istore 4, 2) := by decide +kernel
theorem dX7_lay_134 : decode cX7_lay 134 = .ok (.iload 4, 2) := by decide +kernel
theorem dX7_lay_136 : decode cX7_lay 136 = .ok (.iconst 1, 1) := by decide +kernel
theorem dX7_lay_137 : decode cX7_lay 137 = .ok (.if_icmp .ne 22, 3) := by decide +kernel
theorem dX7_lay_140 : decode cX7_lay 140 = .ok (.iload_n 2, 1) := by decide +kernel
theorem dX7_lay_141 : decode cX7_lay 141 = .ok (.ifCond .eq 16, 3) := by decide +kernel
theorem dX7_lay_144 : decode cX7_lay 144 = .ok (.aload_n 0, 1) := by decide +kernel
theorem dX7_lay_145 : decode cX7_lay 145 = .ok (.bipush 32, 2) := by decide +kernel
theorem dX7_lay_147 : decode cX7_lay 147 = .ok (.invokevirtual 270, 3) := by decide +kernel
theorem dX7_lay_150 : decode cX7_lay 150 = .ok (.ifCond .eq 7, 3) := by decide +kernel
theorem dX7_lay_153 : decode cX7_lay 153 = .ok (.iconst 1, 1) := by decide +kernel
theorem dX7_lay_154 : decode cX7_lay 154 = .ok (.goto 4, 3) := by decide +kernel
theorem dX7_lay_157 : decode cX7_lay 157 = .ok (.iconst 0, 1) := by decide +kernel
theorem dX7_lay_158 : decode cX7_lay 158 = .ok (.istore_n 2, 1) := by decide +kernel
theorem dX7_lay_159 : decode cX7_lay 159 = .ok (.iload 4, 2) := by decide +kernel
theorem dX7_lay_161 : decode cX7_lay 161 = .ok (.iconst 2, 1) := by decide +kernel
theorem dX7_lay_162 : decode cX7_lay 162 = .ok (.if_icmp .ne 22, 3) := by decide +kernel
theorem dX7_lay_165 : decode cX7_lay 165 = .ok (.iload_n 2, 1) := by decide +kernel
theorem dX7_lay_166 : decode cX7_lay 166 = .ok (.ifCond .eq 16, 3) := by decide +kernel
theorem dX7_lay_169 : decode cX7_lay 169 = .ok (.aload_n 0, 1) := by decide +kernel
theorem dX7_lay_170 : decode cX7_lay 170 = .ok (.bipush 10, 2) := by decide +kernel
theorem dX7_lay_172 : decode cX7_lay 172 = .ok (.invokevirtual 270, 3) := by decide +kernel
theorem dX7_lay_175 : decode cX7_lay 175 = .ok (.ifCond .eq 7, 3) := by decide +kernel
theorem dX7_lay_178 : decode cX7_lay 178 = .ok (.iconst 1, 1) := by decide +kernel
theorem dX7_lay_179 : decode cX7_lay 179 = .ok (.goto 4, 3) := by decide +kernel
theorem dX7_lay_182 : decode cX7_lay 182 = .ok (.iconst 0, 1) := by decide +kernel
theorem dX7_lay_183 : decode cX7_lay 183 = .ok (.istore_n 2, 1) := by decide +kernel
theorem dX7_lay_184 : decode cX7_lay 184 = .ok (.iconst 0, 1) := by decide +kernel
theorem dX7_lay_185 : decode cX7_lay 185 = .ok (.istore 5, 2) := by decide +kernel
theorem dX7_lay_187 : decode cX7_lay 187 = .ok (.iload 4, 2) := by decide +kernel
theorem dX7_lay_189 : decode cX7_lay 189 = .ok (.iconst 2, 1) := by decide +kernel
theorem dX7_lay_190 : decode cX7_lay 190 = .ok (.if_icmp .ne 49, 3) := by decide +kernel
theorem dX7_lay_193 : decode cX7_lay 193 = .ok (.iload 5, 2) := by decide +kernel
theorem dX7_lay_195 : decode cX7_lay 195 = .ok (.iconst 2, 1) := by decide +kernel
theorem dX7_lay_196 : decode cX7_lay 196 = .ok (.aload_n 0, 1) := by decide +kernel
theorem dX7_lay_197 : decode cX7_lay 197 = .ok (.getfield 45, 3) := by decide +kernel
theorem dX7_lay_200 : decode cX7_lay 200 = .ok (.sipush 201, 3) := by decide +kernel
theorem dX7_lay_203 : decode cX7_lay 203 = .ok (.iload_n 1, 1) := by decide +kernel
theorem dX7_lay_204 : decode cX7_lay 204 = .ok (.imul, 1) := by decide +kernel
theorem dX7_lay_205 : decode cX7_lay 205 = .ok (.iload_n 3, 1) := by decide +kernel
theorem dX7_lay_206 : decode cX7_lay 206 = .ok (.iadd, 1) := by decide +kernel
theorem dX7_lay_207 : decode cX7_lay 207 = .ok (.iconst 1, 1) := by decide +kernel
theorem dX7_lay_208 : decode cX7_lay 208 = .ok (.iadd, 1) := by decide +kernel
theorem dX7_lay_209 : decode cX7_lay 209 = .ok (.iaload, 1) := by decide +kernel
theorem dX7_lay_210 : decode cX7_lay 210 = .ok (.imul, 1) := by decide +kernel
theorem dX7_lay_211 : decode cX7_lay 211 = .ok (.if_icmp .ge 28, 3) := by decide +kernel
theorem dX7_lay_214 : decode cX7_lay 214 = .ok (.iload_n 2, 1) := by decide +kernel
theorem dX7_lay_215 : decode cX7_lay 215 = .ok (.ifCond .eq 16, 3) := by decide +kernel
theorem dX7_lay_218 : decode cX7_lay 218 = .ok (.aload_n 0, 1) := by decide +kernel
theorem dX7_lay_219 : decode cX7_lay 219 = .ok (.bipush 32, 2) := by decide +kernel
theorem dX7_lay_221 : decode cX7_lay 221 = .ok (.invokevirtual 270, 3) := by decide +kernel
theorem dX7_lay_224 : decode cX7_lay 224 = .ok (.ifCond .eq 7, 3) := by decide +kernel
theorem dX7_lay_227 : decode cX7_lay 227 = .ok (.iconst 1, 1) := by decide +kernel
theorem dX7_lay_228 : decode cX7_lay 228 = .ok (.goto 4, 3) := by decide +kernel
theorem dX7_lay_231 : decode cX7_lay 231 = .ok (.iconst 0, 1) := by decide +kernel
theorem dX7_lay_232 : decode cX7_lay 232 = .ok (.istore_n 2, 1) := by decide +kernel
theorem dX7_lay_233 : decode cX7_lay 233 = .ok (.iinc 5 1, 3) := by decide +kernel
theorem dX7_lay_236 : decode cX7_lay 236 = .ok (.goto (-49), 3) := by decide +kernel
theorem dX7_lay_239 : decode cX7_lay 239 = .ok (.iinc 3 1, 3) := by decide +kernel
theorem dX7_lay_242 : decode cX7_lay 242 = .ok (.goto (-214), 3) := by decide +kernel
theorem dX7_lay_245 : decode cX7_lay 245 = .ok (.iload_n 2, 1) := by decide +kernel
theorem dX7_lay_246 : decode cX7_lay 246 = .ok (.ifCond .ne 8, 3) := by decide +kernel
theorem dX7_lay_249 : decode cX7_lay 249 = .ok (.aload_n 0, 1) := by decide +kernel
theorem dX7_lay_250 : decode cX7_lay 250 = .ok (.invokevirtual 267, 3) := by decide +kernel
theorem dX7_lay_253 : decode cX7_lay 253 = .ok (.ireturn, 1) := by decide +kernel
theorem dX7_lay_254 : decode cX7_lay 254 = .ok (.aload_n 0, 1) := by decide +kernel
theorem dX7_lay_255 : decode cX7_lay 255 = .ok (.iload_n 1, 1) := by decide +kernel
theorem dX7_lay_256 : decode cX7_lay 256 = .ok (.putfield 60, 3) := by decide +kernel
theorem dX7_lay_259 : decode cX7_lay 259 = .ok (.aload_n 0, 1) := by decide +kernel
theorem dX7_lay_260 : decode cX7_lay 260 = .ok (.getfield 264, 3) := by decide +kernel
theorem dX7_lay_263 : decode cX7_lay 263 = .ok (.ireturn, 1) := by decide +kernel
theorem dX7_small_0 : decode cX7_small 0 = .ok (.iload_n 0, 1) := by decide +kernel
theorem dX7_small_1 : decode cX7_small 1 = .ok (.bipush 65, 2) := by decide +kernel
theorem dX7_small_3 : decode cX7_small 3 = .ok (.if_icmp .lt 16, 3) := by decide +kernel
theorem dX7_small_6 : decode cX7_small 6 = .ok (.iload_n 0, 1) := by decide +kernel
theorem dX7_small_7 : decode cX7_small 7 = .ok (.bipush 90, 2) := by decide +kernel
theorem dX7_small_9 : decode cX7_small 9 = .ok (.if_icmp .gt 10, 3) := by decide +kernel
theorem dX7_small_12 : decode cX7_small 12 = .ok (.iload_n 0, 1) := by decide +kernel
theorem dX7_small_13 : decode cX7_small 13 = .ok (.bipush 32, 2) := by decide +kernel
theorem dX7_small_15 : decode cX7_small 15 = .ok (.iadd, 1) := by decide +kernel
theorem dX7_small_16 : decode cX7_small 16 = .ok (.goto 4, 3) := by decide +kernel
theorem dX7_small_19 : decode cX7_small 19 = .ok (.iload_n 0, 1) := by decide +kernel
theorem dX7_small_20 : decode cX7_small 20 = .ok (.ireturn, 1) := by decide +kernel
theorem dX7_great_0 : decode cX7_great 0 = .ok (.iload_n 0, 1) := by decide +kernel
theorem dX7_great_1 : decode cX7_great 1 = .ok (.bipush 97, 2) := by decide +kernel
theorem dX7_great_3 : decode cX7_great 3 = .ok (.if_icmp .lt 16, 3) := by decide +kernel
theorem dX7_great_6 : decode cX7_great 6 = .ok (.iload_n 0, 1) := by decide +kernel
theorem dX7_great_7 : decode cX7_great 7 = .ok (.bipush 122, 2) := by decide +kernel
theorem dX7_great_9 : decode cX7_great 9 = .ok (.if_icmp .gt 10, 3) := by decide +kernel
theorem dX7_great_12 : decode cX7_great 12 = .ok (.iload_n 0, 1) := by decide +kernel
theorem dX7_great_13 : decode cX7_great 13 = .ok (.bipush 32, 2) := by decide +kernel
theorem dX7_great_15 : decode cX7_great 15 = .ok (.isub, 1) := by decide +kernel
theorem dX7_great_16 : decode cX7_great 16 = .ok (.goto 4, 3) := by decide +kernel
theorem dX7_great_19 : decode cX7_great 19 = .ok (.iload_n 0, 1) := by decide +kernel
theorem dX7_great_20 : decode cX7_great 20 = .ok (.ireturn, 1) := by decide +kernel
theorem dX7_makes_0 : decode cX7_makes 0 = .ok (.aload_n 0, 1) := by decide +kernel
theorem dX7_makes_1 : decode cX7_makes 1 = .ok (.iconst 0, 1) := by decide +kernel
theorem dX7_makes_2 : decode cX7_makes 2 = .ok (.putfield 273, 3) := by decide +kernel
theorem dX7_makes_5 : decode cX7_makes 5 = .ok (.aload_n 0, 1) := by decide +kernel
theorem dX7_makes_6 : decode cX7_makes 6 = .ok (.iconst 0, 1) := by decide +kernel
theorem dX7_makes_7 : decode cX7_makes 7 = .ok (.putfield 276, 3) := by decide +kernel
theorem dX7_makes_10 : decode cX7_makes 10 = .ok (.iconst 1, 1) := by decide +kernel
theorem dX7_makes_11 : decode cX7_makes 11 = .ok (.istore 4, 2) := by decide +kernel
theorem dX7_makes_13 : decode cX7_makes 13 = .ok (.iconst 0, 1) := by decide +kernel
theorem dX7_makes_14 : decode cX7_makes 14 = .ok (.istore 5, 2) := by decide +kernel
theorem dX7_makes_16 : decode cX7_makes 16 = .ok (.iload 5, 2) := by decide +kernel
theorem dX7_makes_18 : decode cX7_makes 18 = .ok (.aload_n 0, 1) := by decide +kernel
theorem dX7_makes_19 : decode cX7_makes 19 = .ok (.getfield 39, 3) := by decide +kernel
theorem dX7_makes_22 : decode cX7_makes 22 = .ok (.sipush 201, 3) := by decide +kernel
theorem dX7_makes_25 : decode cX7_makes 25 = .ok (.iload_n 1, 1) := by decide +kernel
theorem dX7_makes_26 : decode cX7_makes 26 = .ok (.imul, 1) := by decide +kernel
theorem dX7_makes_27 : decode cX7_makes 27 = .ok (.iload_n 2, 1) := by decide +kernel
theorem dX7_makes_28 : decode cX7_makes 28 = .ok (.iadd, 1) := by decide +kernel
theorem dX7_makes_29 : decode cX7_makes 29 = .ok (.iaload, 1) := by decide +kernel
theorem dX7_makes_30 : decode cX7_makes 30 = .ok (.if_icmp .ge 177, 3) := by decide +kernel
theorem dX7_makes_33 : decode cX7_makes 33 = .ok (.aload_n 0, 1) := by decide +kernel
theorem dX7_makes_34 : decode cX7_makes 34 = .ok (.getfield 21, 3) := by decide +kernel
theorem dX7_makes_37 : decode cX7_makes 37 = .ok (.sipush 800, 3) := by decide +kernel
theorem dX7_makes_40 : decode cX7_makes 40 = .ok (.iload_n 1, 1) := by decide +kernel
theorem dX7_makes_41 : decode cX7_makes 41 = .ok (.imul, 1) := by decide +kernel
theorem dX7_makes_42 : decode cX7_makes 42 = .ok (.aload_n 0, 1) := by decide +kernel
theorem dX7_makes_43 : decode cX7_makes 43 = .ok (.getfield 36, 3) := by decide +kernel
theorem dX7_makes_46 : decode cX7_makes 46 = .ok (.sipush 201, 3) := by decide +kernel
theorem dX7_makes_49 : decode cX7_makes 49 = .ok (.iload_n 1, 1) := by decide +kernel
theorem dX7_makes_50 : decode cX7_makes 50 = .ok (.imul, 1) := by decide +kernel
theorem dX7_makes_51 : decode cX7_makes 51 = .ok (.iload_n 2, 1) := by decide +kernel
theorem dX7_makes_52 : decode cX7_makes 52 = .ok (.iadd, 1) := by decide +kernel
theorem dX7_makes_53 : decode cX7_makes 53 = .ok (.iaload, 1) := by decide +kernel
theorem dX7_makes_54 : decode cX7_makes 54 = .ok (.iadd, 1) := by decide +kernel
theorem dX7_makes_55 : decode cX7_makes 55 = .ok (.iload 5, 2) := by decide +kernel
theorem dX7_makes_57 : decode cX7_makes 57 = .ok (.iadd, 1) := by decide +kernel
theorem dX7_makes_58 : decode cX7_makes 58 = .ok (.iaload, 1) := by decide +kernel
theorem dX7_makes_59 : decode cX7_makes 59 = .ok (.istore 6, 2) := by decide +kernel
theorem dX7_makes_61 : decode cX7_makes 61 = .ok (.iload 6, 2) := by decide +kernel
theorem dX7_makes_63 : decode cX7_makes 63 = .ok (.bipush 95, 2) := by decide +kernel
theorem dX7_makes_65 : decode cX7_makes 65 = .ok (.if_icmp .ne 9, 3) := by decide +kernel
theorem dX7_makes_68 : decode cX7_makes 68 = .ok (.iconst 1, 1) := by decide +kernel
theorem dX7_makes_69 : decode cX7_makes 69 = .ok (.istore 4, 2) := by decide +kernel
theorem dX7_makes_71 : decode cX7_makes 71 = .ok (.goto 130, 3) := by decide +kernel
theorem dX7_makes_74 : decode cX7_makes 74 = .ok (.iload 4, 2) := by decide +kernel
theorem dX7_makes_76 : decode cX7_makes 76 = .ok (.ifCond .ne 17, 3) := by decide +kernel
theorem dX7_makes_79 : decode cX7_makes 79 = .ok (.iload 6, 2) := by decide +kernel
theorem dX7_makes_81 : decode cX7_makes 81 = .ok (.bipush 65, 2) := by decide +kernel
theorem dX7_makes_83 : decode cX7_makes 83 = .ok (.if_icmp .lt 91, 3) := by decide +kernel
theorem dX7_makes_86 : decode cX7_makes 86 = .ok (.iload 6, 2) := by decide +kernel
theorem dX7_makes_88 : decode cX7_makes 88 = .ok (.bipush 90, 2) := by decide +kernel
theorem dX7_makes_90 : decode cX7_makes 90 = .ok (.if_icmp .gt 84, 3) := by decide +kernel
theorem dX7_makes_93 : decode cX7_makes 93 = .ok (.aload_n 0, 1) := by decide +kernel
theorem dX7_makes_94 : decode cX7_makes 94 = .ok (.dup, 1) := by decide +kernel
theorem dX7_makes_95 : decode cX7_makes 95 = .ok (.getfield 276, 3) := by decide +kernel
theorem dX7_makes_98 : decode cX7_makes 98 = .ok (.iconst 1, 1) := by decide +kernel
theorem dX7_makes_99 : decode cX7_makes 99 = .ok (.iadd, 1) := by decide +kernel
theorem dX7_makes_100 : decode cX7_makes 100 = .ok (.putfield 276, 3) := by decide +kernel
theorem dX7_makes_103 : decode cX7_makes 103 = .ok (.iload_n 3, 1) := by decide +kernel
theorem dX7_makes_104 : decode cX7_makes 104 = .ok (.ifCond .ne 32, 3) := by decide +kernel
theorem dX7_makes_107 : decode cX7_makes 107 = .ok (.aload_n 0, 1) := by decide +kernel
theorem dX7_makes_108 : decode cX7_makes 108 = .ok (.getfield 276, 3) := by decide +kernel
theorem dX7_makes_111 : decode cX7_makes 111 = .ok (.iconst 1, 1) := by decide +kernel
theorem dX7_makes_112 : decode cX7_makes 112 = .ok (.if_icmp .le 24, 3) := by decide +kernel
theorem dX7_makes_115 : decode cX7_makes 115 = .ok (.aload_n 0, 1) := by decide +kernel
theorem dX7_makes_116 : decode cX7_makes 116 = .ok (.getfield 72, 3) := by decide +kernel
theorem dX7_makes_119 : decode cX7_makes 119 = .ok (.aload_n 0, 1) := by decide +kernel
theorem dX7_makes_120 : decode cX7_makes 120 = .ok (.getfield 273, 3) := by decide +kernel
theorem dX7_makes_123 : decode cX7_makes 123 = .ok (.bipush 95, 2) := by decide +kernel
theorem dX7_makes_125 : decode cX7_makes 125 = .ok (.iastore, 1) := by decide +kernel
theorem dX7_makes_126 : decode cX7_makes 126 = .ok (.aload_n 0, 1) := by decide +kernel
theorem dX7_makes_127 : decode cX7_makes 127 = .ok (.dup, 1) := by decide +kernel
theorem dX7_makes_128 : decode cX7_makes 128 = .ok (.getfield 273, 3) := by decide +kernel
theorem dX7_makes_131 : decode cX7_makes 131 = .ok (.iconst 1, 1) := by decide +kernel
theorem dX7_makes_132 : decode cX7_makes 132 = .ok (.iadd, 1) := by decide +kernel
theorem dX7_makes_133 : decode cX7_makes 133 = .ok (.putfield 273, 3) := by decide +kernel
theorem dX7_makes_136 : decode cX7_makes 136 = .ok (.aload_n 0, 1) := by decide +kernel
theorem dX7_makes_137 : decode cX7_makes 137 = .ok (.getfield 72, 3) := by decide +kernel
theorem dX7_makes_140 : decode cX7_makes 140 = .ok (.aload_n 0, 1) := by decide +kernel
theorem dX7_makes_141 : decode cX7_makes 141 = .ok (.getfield 273, 3) := by decide +kernel
theorem dX7_makes_144 : decode cX7_makes 144 = .ok (.iload_n 3, 1) := by decide +kernel
theorem dX7_makes_145 : decode cX7_makes 145 = .ok (.iconst 1, 1) := by decide +kernel
theorem dX7_makes_146 : decode cX7_makes 146 = .ok (.if_icmp .ne 19, 3) := by decide +kernel
theorem dX7_makes_149 : decode cX7_makes 149 = .ok (.aload_n 0, 1) := by decide +kernel
theorem dX7_makes_150 : decode cX7_makes 150 = .ok (.getfield 276, 3) := by decide +kernel
theorem dX7_makes_153 : decode cX7_makes 153 = .ok (.iconst 1, 1) := by decide +kernel
theorem dX7_makes_154 : decode cX7_makes 154 = .ok (.if_icmp .le 11, 3) := by decide +kernel
theorem dX7_makes_157 : decode cX7_makes 157 = .ok (.iload 6, 2) := by decide +kernel
theorem dX7_makes_159 : decode cX7_makes 159 = .ok (.invokestatic 279, 3) := by decide +kernel
theorem dX7_makes_162 : decode cX7_makes 162 = .ok (.goto 8, 3) := by decide +kernel
theorem dX7_makes_165 : decode cX7_makes 165 = .ok (.iload 6, 2) := by decide +kernel
theorem dX7_makes_167 : decode cX7_makes 167 = .ok (.invokestatic 282, 3) := by decide +kernel
theorem dX7_makes_170 : decode cX7_makes 170 = .ok (.iastore, 1) := by decide +kernel
theorem dX7_makes_171 : decode cX7_makes 171 = .ok (.goto 17, 3) := by decide +kernel
theorem dX7_makes_174 : decode cX7_makes 174 = .ok (.aload_n 0, 1) := by decide +kernel
theorem dX7_makes_175 : decode cX7_makes 175 = .ok (.getfield 72, 3) := by decide +kernel
theorem dX7_makes_178 : decode cX7_makes 178 = .ok (.aload_n 0, 1) := by decide +kernel
theorem dX7_makes_179 : decode cX7_makes 179 = .ok (.getfield 273, 3) := by decide +kernel
theorem dX7_makes_182 : decode cX7_makes 182 = .ok (.iload 6, 2) := by decide +kernel
theorem dX7_makes_184 : decode cX7_makes 184 = .ok (.invokestatic 282, 3) := by decide +kernel
theorem dX7_makes_187 : decode cX7_makes 187 = .ok (.iastore, 1) := by decide +kernel
theorem dX7_makes_188 : decode cX7_makes 188 = .ok (.aload_n 0, 1) := by decide +kernel
theorem dX7_makes_189 : decode cX7_makes 189 = .ok (.dup, 1) := by decide +kernel
theorem dX7_makes_190 : decode cX7_makes 190 = .ok (.getfield 273, 3) := by decide +kernel
theorem dX7_makes_193 : decode cX7_makes 193 = .ok (.iconst 1, 1) := by decide +kernel
theorem dX7_makes_194 : decode cX7_makes 194 = .ok (.iadd, 1) := by decide +kernel
theorem dX7_makes_195 : decode cX7_makes 195 = .ok (.putfield 273, 3) := by decide +kernel
theorem dX7_makes_198 : decode cX7_makes 198 = .ok (.iconst 0, 1) := by decide +kernel
theorem dX7_makes_199 : decode cX7_makes 199 = .ok (.istore 4, 2) := by decide +kernel
theorem dX7_makes_201 : decode cX7_makes 201 = .ok (.iinc 5 1, 3) := by decide +kernel
theorem dX7_makes_204 : decode cX7_makes 204 = .ok (.goto (-188), 3) := by decide +kernel
theorem dX7_makes_207 : decode cX7_makes 207 = .ok (.return_, 1) := by decide +kernel
theorem dX7_isNameAt_0 : decode cX7_isNameAt 0 = .ok (.aload_n 0, 1) := by decide +kernel
theorem dX7_isNameAt_1 : decode cX7_isNameAt 1 = .ok (.getfield 42, 3) := by decide +kernel
theorem dX7_isNameAt_4 : decode cX7_isNameAt 4 = .ok (.sipush 201, 3) := by decide +kernel
theorem dX7_isNameAt_7 : decode cX7_isNameAt 7 = .ok (.iload_n 1, 1) := by decide +kernel
theorem dX7_isNameAt_8 : decode cX7_isNameAt 8 = .ok (.imul, 1) := by decide +kernel
theorem dX7_isNameAt_9 : decode cX7_isNameAt 9 = .ok (.iload_n 2, 1) := by decide +kernel
theorem dX7_isNameAt_10 : decode cX7_isNameAt 10 = .ok (.iadd, 1) := by decide +kernel
theorem dX7_isNameAt_11 : decode cX7_isNameAt 11 = .ok (.iaload, 1) := by decide +kernel
theorem dX7_isNameAt_12 : decode cX7_isNameAt 12 = .ok (.ifCond .ne 51, 3) := by decide +kernel
theorem dX7_isNameAt_15 : decode cX7_isNameAt 15 = .ok (.aload_n 0, 1) := by decide +kernel
theorem dX7_isNameAt_16 : decode cX7_isNameAt 16 = .ok (.iload_n 1, 1) := by decide +kernel
theorem dX7_isNameAt_17 : decode cX7_isNameAt 17 = .ok (.iload_n 2, 1) := by decide +kernel
theorem dX7_isNameAt_18 : decode cX7_isNameAt 18 = .ok (.ldc 130, 2) := by decide +kernel
theorem dX7_isNameAt_20 : decode cX7_isNameAt 20 = .ok (.invokevirtual 285, 3) := by decide +kernel
theorem dX7_isNameAt_23 : decode cX7_isNameAt 23 = .ok (.ifCond .ne 40, 3) := by decide +kernel
theorem dX7_isNameAt_26 : decode cX7_isNameAt 26 = .ok (.aload_n 0, 1) := by decide +kernel
theorem dX7_isNameAt_27 : decode cX7_isNameAt 27 = .ok (.iload_n 1, 1) := by decide +kernel
theorem dX7_isNameAt_28 : decode cX7_isNameAt 28 = .ok (.iload_n 2, 1) := by decide +kernel
theorem dX7_isNameAt_29 : decode cX7_isNameAt 29 = .ok (.ldc 136, 2) := by decide +kernel
theorem dX7_isNameAt_31 : decode cX7_isNameAt 31 = .ok (.invokevirtual 285, 3) := by decide +kernel
theorem dX7_isNameAt_34 : decode cX7_isNameAt 34 = .ok (.ifCond .ne 29, 3) := by decide +kernel
theorem dX7_isNameAt_37 : decode cX7_isNameAt 37 = .ok (.aload_n 0, 1) := by decide +kernel
theorem dX7_isNameAt_38 : decode cX7_isNameAt 38 = .ok (.iload_n 1, 1) := by decide +kernel
theorem dX7_isNameAt_39 : decode cX7_isNameAt 39 = .ok (.iload_n 2, 1) := by decide +kernel
theorem dX7_isNameAt_40 : decode cX7_isNameAt 40 = .ok (.ldc 138, 2) := by decide +kernel
theorem dX7_isNameAt_42 : decode cX7_isNameAt 42 = .ok (.invokevirtual 285, 3) := by decide +kernel
theorem dX7_isNameAt_45 : decode cX7_isNameAt 45 = .ok (.ifCond .ne 18, 3) := by decide +kernel
theorem dX7_isNameAt_48 : decode cX7_isNameAt 48 = .ok (.aload_n 0, 1) := by decide +kernel
theorem dX7_isNameAt_49 : decode cX7_isNameAt 49 = .ok (.iload_n 1, 1) := by decide +kernel
theorem dX7_isNameAt_50 : decode cX7_isNameAt 50 = .ok (.iload_n 2, 1) := by decide +kernel
theorem dX7_isNameAt_51 : decode cX7_isNameAt 51 = .ok (.ldc 140, 2) := by decide +kernel
theorem dX7_isNameAt_53 : decode cX7_isNameAt 53 = .ok (.invokevirtual 285, 3) := by decide +kernel
theorem dX7_isNameAt_56 : decode cX7_isNameAt 56 = .ok (.ifCond .ne 7, 3) := by decide +kernel
theorem dX7_isNameAt_59 : decode cX7_isNameAt 59 = .ok (.iconst 1, 1) := by decide +kernel
theorem dX7_isNameAt_60 : decode cX7_isNameAt 60 = .ok (.goto 4, 3) := by decide +kernel
theorem dX7_isNameAt_63 : decode cX7_isNameAt 63 = .ok (.iconst 0, 1) := by decide +kernel
theorem dX7_isNameAt_64 : decode cX7_isNameAt 64 = .ok (.ireturn, 1) := by decide +kernel
theorem dX7_isWordAt_0 : decode cX7_isWordAt 0 = .ok (.aload_n 0, 1) := by decide +kernel
theorem dX7_isWordAt_1 : decode cX7_isWordAt 1 = .ok (.getfield 39, 3) := by decide +kernel
theorem dX7_isWordAt_4 : decode cX7_isWordAt 4 = .ok (.sipush 201, 3) := by decide +kernel
theorem dX7_isWordAt_7 : decode cX7_isWordAt 7 = .ok (.iload_n 1, 1) := by decide +kernel
theorem dX7_isWordAt_8 : decode cX7_isWordAt 8 = .ok (.imul, 1) := by decide +kernel
theorem dX7_isWordAt_9 : decode cX7_isWordAt 9 = .ok (.iload_n 2, 1) := by decide +kernel
theorem dX7_isWordAt_10 : decode cX7_isWordAt 10 = .ok (.iadd, 1) := by decide +kernel
theorem dX7_isWordAt_11 : decode cX7_isWordAt 11 = .ok (.iaload, 1) := by decide +kernel
theorem dX7_isWordAt_12 : decode cX7_isWordAt 12 = .ok (.aload_n 3, 1) := by decide +kernel
theorem dX7_isWordAt_13 : decode cX7_isWordAt 13 = .ok (.invokevirtual 122, 3) := by decide +kernel
theorem dX7_isWordAt_16 : decode cX7_isWordAt 16 = .ok (.if_icmp .ne 7, 3) := by decide +kernel
theorem dX7_isWordAt_19 : decode cX7_isWordAt 19 = .ok (.iconst 1, 1) := by decide +kernel
theorem dX7_isWordAt_20 : decode cX7_isWordAt 20 = .ok (.goto 4, 3) := by decide +kernel
theorem dX7_isWordAt_23 : decode cX7_isWordAt 23 = .ok (.iconst 0, 1) := by decide +kernel
theorem dX7_isWordAt_24 : decode cX7_isWordAt 24 = .ok (.istore 4, 2) := by decide +kernel
theorem dX7_isWordAt_26 : decode cX7_isWordAt 26 = .ok (.iconst 0, 1) := by decide +kernel
theorem dX7_isWordAt_27 : decode cX7_isWordAt 27 = .ok (.istore 5, 2) := by decide +kernel
theorem dX7_isWordAt_29 : decode cX7_isWordAt 29 = .ok (.iload 5, 2) := by decide +kernel
theorem dX7_isWordAt_31 : decode cX7_isWordAt 31 = .ok (.aload_n 3, 1) := by decide +kernel
theorem dX7_isWordAt_32 : decode cX7_isWordAt 32 = .ok (.invokevirtual 122, 3) := by decide +kernel
theorem dX7_isWordAt_35 : decode cX7_isWordAt 35 = .ok (.if_icmp .ge 56, 3) := by decide +kernel
theorem dX7_isWordAt_38 : decode cX7_isWordAt 38 = .ok (.iload 4, 2) := by decide +kernel
theorem dX7_isWordAt_40 : decode cX7_isWordAt 40 = .ok (.ifCond .eq 51, 3) := by decide +kernel
theorem dX7_isWordAt_43 : decode cX7_isWordAt 43 = .ok (.aload_n 0, 1) := by decide +kernel
theorem dX7_isWordAt_44 : decode cX7_isWordAt 44 = .ok (.getfield 21, 3) := by decide +kernel
theorem dX7_isWordAt_47 : decode cX7_isWordAt 47 = .ok (.sipush 800, 3) := by decide +kernel
theorem dX7_isWordAt_50 : decode cX7_isWordAt 50 = .ok (.iload_n 1, 1) := by decide +kernel
theorem dX7_isWordAt_51 : decode cX7_isWordAt 51 = .ok (.imul, 1) := by decide +kernel
theorem dX7_isWordAt_52 : decode cX7_isWordAt 52 = .ok (.aload_n 0, 1) := by decide +kernel
theorem dX7_isWordAt_53 : decode cX7_isWordAt 53 = .ok (.getfield 36, 3) := by decide +kernel
theorem dX7_isWordAt_56 : decode cX7_isWordAt 56 = .ok (.sipush 201, 3) := by decide +kernel
theorem dX7_isWordAt_59 : decode cX7_isWordAt 59 = .ok (.iload_n 1, 1) := by decide +kernel
theorem dX7_isWordAt_60 : decode cX7_isWordAt 60 = .ok (.imul, 1) := by decide +kernel
theorem dX7_isWordAt_61 : decode cX7_isWordAt 61 = .ok (.iload_n 2, 1) := by decide +kernel
theorem dX7_isWordAt_62 : decode cX7_isWordAt 62 = .ok (.iadd, 1) := by decide +kernel
theorem dX7_isWordAt_63 : decode cX7_isWordAt 63 = .ok (.iaload, 1) := by decide +kernel
theorem dX7_isWordAt_64 : decode cX7_isWordAt 64 = .ok (.iadd, 1) := by decide +kernel
theorem dX7_isWordAt_65 : decode cX7_isWordAt 65 = .ok (.iload 5, 2) := by decide +kernel
theorem dX7_isWordAt_67 : decode cX7_isWordAt 67 = .ok (.iadd, 1) := by decide +kernel
theorem dX7_isWordAt_68 : decode cX7_isWordAt 68 = .ok (.iaload, 1) := by decide +kernel
theorem dX7_isWordAt_69 : decode cX7_isWordAt 69 = .ok (.aload_n 3, 1) := by decide +kernel
theorem dX7_isWordAt_70 : decode cX7_isWordAt 70 = .ok (.iload 5, 2) := by decide +kernel
theorem dX7_isWordAt_72 : decode cX7_isWordAt 72 = .ok (.invokevirtual 126, 3) := by decide +kernel
theorem dX7_isWordAt_75 : decode cX7_isWordAt 75 = .ok (.if_icmp .ne 7, 3) := by decide +kernel
theorem dX7_isWordAt_78 : decode cX7_isWordAt 78 = .ok (.iconst 1, 1) := by decide +kernel
theorem dX7_isWordAt_79 : decode cX7_isWordAt 79 = .ok (.goto 4, 3) := by decide +kernel
theorem dX7_isWordAt_82 : decode cX7_isWordAt 82 = .ok (.iconst 0, 1) := by decide +kernel
theorem dX7_isWordAt_83 : decode cX7_isWordAt 83 = .ok (.istore 4, 2) := by decide +kernel
theorem dX7_isWordAt_85 : decode cX7_isWordAt 85 = .ok (.iinc 5 1, 3) := by decide +kernel
theorem dX7_isWordAt_88 : decode cX7_isWordAt 88 = .ok (.goto (-59), 3) := by decide +kernel
theorem dX7_isWordAt_91 : decode cX7_isWordAt 91 = .ok (.iload 4, 2) := by decide +kernel
theorem dX7_isWordAt_93 : decode cX7_isWordAt 93 = .ok (.ireturn, 1) := by decide +kernel
theorem dX7_isMade_0 : decode cX7_isMade 0 = .ok (.aload_n 0, 1) := by decide +kernel
theorem dX7_isMade_1 : decode cX7_isMade 1 = .ok (.getfield 273, 3) := by decide +kernel
theorem dX7_isMade_4 : decode cX7_isMade 4 = .ok (.aload_n 1, 1) := by decide +kernel
theorem dX7_isMade_5 : decode cX7_isMade 5 = .ok (.invokevirtual 122, 3) := by decide +kernel
theorem dX7_isMade_8 : decode cX7_isMade 8 = .ok (.if_icmp .ne 7, 3) := by decide +kernel
theorem dX7_isMade_11 : decode cX7_isMade 11 = .ok (.iconst 1, 1) := by decide +kernel
theorem dX7_isMade_12 : decode cX7_isMade 12 = .ok (.goto 4, 3) := by decide +kernel
theorem dX7_isMade_15 : decode cX7_isMade 15 = .ok (.iconst 0, 1) := by decide +kernel
theorem dX7_isMade_16 : decode cX7_isMade 16 = .ok (.istore_n 2, 1) := by decide +kernel
theorem dX7_isMade_17 : decode cX7_isMade 17 = .ok (.iconst 0, 1) := by decide +kernel
theorem dX7_isMade_18 : decode cX7_isMade 18 = .ok (.istore_n 3, 1) := by decide +kernel
theorem dX7_isMade_19 : decode cX7_isMade 19 = .ok (.iload_n 3, 1) := by decide +kernel
theorem dX7_isMade_20 : decode cX7_isMade 20 = .ok (.aload_n 1, 1) := by decide +kernel
theorem dX7_isMade_21 : decode cX7_isMade 21 = .ok (.invokevirtual 122, 3) := by decide +kernel
theorem dX7_isMade_24 : decode cX7_isMade 24 = .ok (.if_icmp .ge 33, 3) := by decide +kernel
theorem dX7_isMade_27 : decode cX7_isMade 27 = .ok (.iload_n 2, 1) := by decide +kernel
theorem dX7_isMade_28 : decode cX7_isMade 28 = .ok (.ifCond .eq 29, 3) := by decide +kernel
theorem dX7_isMade_31 : decode cX7_isMade 31 = .ok (.aload_n 0, 1) := by decide +kernel
theorem dX7_isMade_32 : decode cX7_isMade 32 = .ok (.getfield 72, 3) := by decide +kernel
theorem dX7_isMade_35 : decode cX7_isMade 35 = .ok (.iload_n 3, 1) := by decide +kernel
theorem dX7_isMade_36 : decode cX7_isMade 36 = .ok (.iaload, 1) := by decide +kernel
theorem dX7_isMade_37 : decode cX7_isMade 37 = .ok (.aload_n 1, 1) := by decide +kernel
theorem dX7_isMade_38 : decode cX7_isMade 38 = .ok (.iload_n 3, 1) := by decide +kernel
theorem dX7_isMade_39 : decode cX7_isMade 39 = .ok (.invokevirtual 126, 3) := by decide +kernel
theorem dX7_isMade_42 : decode cX7_isMade 42 = .ok (.if_icmp .ne 7, 3) := by decide +kernel
theorem dX7_isMade_45 : decode cX7_isMade 45 = .ok (.iconst 1, 1) := by decide +kernel
theorem dX7_isMade_46 : decode cX7_isMade 46 = .ok (.goto 4, 3) := by decide +kernel
theorem dX7_isMade_49 : decode cX7_isMade 49 = .ok (.iconst 0, 1) := by decide +kernel
theorem dX7_isMade_50 : decode cX7_isMade 50 = .ok (.istore_n 2, 1) := by decide +kernel
theorem dX7_isMade_51 : decode cX7_isMade 51 = .ok (.iinc 3 1, 3) := by decide +kernel
theorem dX7_isMade_54 : decode cX7_isMade 54 = .ok (.goto (-35), 3) := by decide +kernel
theorem dX7_isMade_57 : decode cX7_isMade 57 = .ok (.iload_n 2, 1) := by decide +kernel
theorem dX7_isMade_58 : decode cX7_isMade 58 = .ok (.ireturn, 1) := by decide +kernel
theorem dX7_isSame_0 : decode cX7_isSame 0 = .ok (.aload_n 0, 1) := by decide +kernel
theorem dX7_isSame_1 : decode cX7_isSame 1 = .ok (.getfield 39, 3) := by decide +kernel
theorem dX7_isSame_4 : decode cX7_isSame 4 = .ok (.sipush 201, 3) := by decide +kernel
theorem dX7_isSame_7 : decode cX7_isSame 7 = .ok (.iload_n 1, 1) := by decide +kernel
theorem dX7_isSame_8 : decode cX7_isSame 8 = .ok (.imul, 1) := by decide +kernel
theorem dX7_isSame_9 : decode cX7_isSame 9 = .ok (.iload_n 2, 1) := by decide +kernel
theorem dX7_isSame_10 : decode cX7_isSame 10 = .ok (.iadd, 1) := by decide +kernel
theorem dX7_isSame_11 : decode cX7_isSame 11 = .ok (.iaload, 1) := by decide +kernel
theorem dX7_isSame_12 : decode cX7_isSame 12 = .ok (.aload_n 0, 1) := by decide +kernel
theorem dX7_isSame_13 : decode cX7_isSame 13 = .ok (.getfield 39, 3) := by decide +kernel
theorem dX7_isSame_16 : decode cX7_isSame 16 = .ok (.sipush 201, 3) := by decide +kernel
theorem dX7_isSame_19 : decode cX7_isSame 19 = .ok (.iload_n 3, 1) := by decide +kernel
theorem dX7_isSame_20 : decode cX7_isSame 20 = .ok (.imul, 1) := by decide +kernel
theorem dX7_isSame_21 : decode cX7_isSame 21 = .ok (.iload 4, 2) := by decide +kernel
theorem dX7_isSame_23 : decode cX7_isSame 23 = .ok (.iadd, 1) := by decide +kernel
theorem dX7_isSame_24 : decode cX7_isSame 24 = .ok (.iaload, 1) := by decide +kernel
theorem dX7_isSame_25 : decode cX7_isSame 25 = .ok (.if_icmp .ne 7, 3) := by decide +kernel
theorem dX7_isSame_28 : decode cX7_isSame 28 = .ok (.iconst 1, 1) := by decide +kernel
theorem dX7_isSame_29 : decode cX7_isSame 29 = .ok (.goto 4, 3) := by decide +kernel
theorem dX7_isSame_32 : decode cX7_isSame 32 = .ok (.iconst 0, 1) := by decide +kernel
theorem dX7_isSame_33 : decode cX7_isSame 33 = .ok (.istore 5, 2) := by decide +kernel
theorem dX7_isSame_35 : decode cX7_isSame 35 = .ok (.iconst 0, 1) := by decide +kernel
theorem dX7_isSame_36 : decode cX7_isSame 36 = .ok (.istore 6, 2) := by decide +kernel
theorem dX7_isSame_38 : decode cX7_isSame 38 = .ok (.iload 6, 2) := by decide +kernel
theorem dX7_isSame_40 : decode cX7_isSame 40 = .ok (.aload_n 0, 1) := by decide +kernel
theorem dX7_isSame_41 : decode cX7_isSame 41 = .ok (.getfield 39, 3) := by decide +kernel
theorem dX7_isSame_44 : decode cX7_isSame 44 = .ok (.sipush 201, 3) := by decide +kernel
theorem dX7_isSame_47 : decode cX7_isSame 47 = .ok (.iload_n 1, 1) := by decide +kernel
theorem dX7_isSame_48 : decode cX7_isSame 48 = .ok (.imul, 1) := by decide +kernel
theorem dX7_isSame_49 : decode cX7_isSame 49 = .ok (.iload_n 2, 1) := by decide +kernel
theorem dX7_isSame_50 : decode cX7_isSame 50 = .ok (.iadd, 1) := by decide +kernel
theorem dX7_isSame_51 : decode cX7_isSame 51 = .ok (.iaload, 1) := by decide +kernel
theorem dX7_isSame_52 : decode cX7_isSame 52 = .ok (.if_icmp .ge 77, 3) := by decide +kernel
theorem dX7_isSame_55 : decode cX7_isSame 55 = .ok (.iload 5, 2) := by decide +kernel
theorem dX7_isSame_57 : decode cX7_isSame 57 = .ok (.ifCond .eq 72, 3) := by decide +kernel
theorem dX7_isSame_60 : decode cX7_isSame 60 = .ok (.aload_n 0, 1) := by decide +kernel
theorem dX7_isSame_61 : decode cX7_isSame 61 = .ok (.getfield 21, 3) := by decide +kernel
theorem dX7_isSame_64 : decode cX7_isSame 64 = .ok (.sipush 800, 3) := by decide +kernel
theorem dX7_isSame_67 : decode cX7_isSame 67 = .ok (.iload_n 1, 1) := by decide +kernel
theorem dX7_isSame_68 : decode cX7_isSame 68 = .ok (.imul, 1) := by decide +kernel
theorem dX7_isSame_69 : decode cX7_isSame 69 = .ok (.aload_n 0, 1) := by decide +kernel
theorem dX7_isSame_70 : decode cX7_isSame 70 = .ok (.getfield 36, 3) := by decide +kernel
theorem dX7_isSame_73 : decode cX7_isSame 73 = .ok (.sipush 201, 3) := by decide +kernel
theorem dX7_isSame_76 : decode cX7_isSame 76 = .ok (.iload_n 1, 1) := by decide +kernel
theorem dX7_isSame_77 : decode cX7_isSame 77 = .ok (.imul, 1) := by decide +kernel
theorem dX7_isSame_78 : decode cX7_isSame 78 = .ok (.iload_n 2, 1) := by decide +kernel
theorem dX7_isSame_79 : decode cX7_isSame 79 = .ok (.iadd, 1) := by decide +kernel
theorem dX7_isSame_80 : decode cX7_isSame 80 = .ok (.iaload, 1) := by decide +kernel
theorem dX7_isSame_81 : decode cX7_isSame 81 = .ok (.iadd, 1) := by decide +kernel
theorem dX7_isSame_82 : decode cX7_isSame 82 = .ok (.iload 6, 2) := by decide +kernel
theorem dX7_isSame_84 : decode cX7_isSame 84 = .ok (.iadd, 1) := by decide +kernel
theorem dX7_isSame_85 : decode cX7_isSame 85 = .ok (.iaload, 1) := by decide +kernel
theorem dX7_isSame_86 : decode cX7_isSame 86 = .ok (.aload_n 0, 1) := by decide +kernel
theorem dX7_isSame_87 : decode cX7_isSame 87 = .ok (.getfield 21, 3) := by decide +kernel
theorem dX7_isSame_90 : decode cX7_isSame 90 = .ok (.sipush 800, 3) := by decide +kernel
theorem dX7_isSame_93 : decode cX7_isSame 93 = .ok (.iload_n 3, 1) := by decide +kernel
theorem dX7_isSame_94 : decode cX7_isSame 94 = .ok (.imul, 1) := by decide +kernel
theorem dX7_isSame_95 : decode cX7_isSame 95 = .ok (.aload_n 0, 1) := by decide +kernel
theorem dX7_isSame_96 : decode cX7_isSame 96 = .ok (.getfield 36, 3) := by decide +kernel
theorem dX7_isSame_99 : decode cX7_isSame 99 = .ok (.sipush 201, 3) := by decide +kernel
theorem dX7_isSame_102 : decode cX7_isSame 102 = .ok (.iload_n 3, 1) := by decide +kernel
theorem dX7_isSame_103 : decode cX7_isSame 103 = .ok (.imul, 1) := by decide +kernel
theorem dX7_isSame_104 : decode cX7_isSame 104 = .ok (.iload 4, 2) := by decide +kernel
theorem dX7_isSame_106 : decode cX7_isSame 106 = .ok (.iadd, 1) := by decide +kernel
theorem dX7_isSame_107 : decode cX7_isSame 107 = .ok (.iaload, 1) := by decide +kernel
theorem dX7_isSame_108 : decode cX7_isSame 108 = .ok (.iadd, 1) := by decide +kernel
theorem dX7_isSame_109 : decode cX7_isSame 109 = .ok (.iload 6, 2) := by decide +kernel
theorem dX7_isSame_111 : decode cX7_isSame 111 = .ok (.iadd, 1) := by decide +kernel
theorem dX7_isSame_112 : decode cX7_isSame 112 = .ok (.iaload, 1) := by decide +kernel
theorem dX7_isSame_113 : decode cX7_isSame 113 = .ok (.if_icmp .ne 7, 3) := by decide +kernel
theorem dX7_isSame_116 : decode cX7_isSame 116 = .ok (.iconst 1, 1) := by decide +kernel
theorem dX7_isSame_117 : decode cX7_isSame 117 = .ok (.goto 4, 3) := by decide +kernel
theorem dX7_isSame_120 : decode cX7_isSame 120 = .ok (.iconst 0, 1) := by decide +kernel
theorem dX7_isSame_121 : decode cX7_isSame 121 = .ok (.istore 5, 2) := by decide +kernel
theorem dX7_isSame_123 : decode cX7_isSame 123 = .ok (.iinc 6 1, 3) := by decide +kernel
theorem dX7_isSame_126 : decode cX7_isSame 126 = .ok (.goto (-88), 3) := by decide +kernel
theorem dX7_isSame_129 : decode cX7_isSame 129 = .ok (.iload 5, 2) := by decide +kernel
theorem dX7_isSame_131 : decode cX7_isSame 131 = .ok (.ireturn, 1) := by decide +kernel
theorem dX7_isTaken_0 : decode cX7_isTaken 0 = .ok (.aload_n 0, 1) := by decide +kernel
theorem dX7_isTaken_1 : decode cX7_isTaken 1 = .ok (.iload_n 1, 1) := by decide +kernel
theorem dX7_isTaken_2 : decode cX7_isTaken 2 = .ok (.iload_n 2, 1) := by decide +kernel
theorem dX7_isTaken_3 : decode cX7_isTaken 3 = .ok (.iload_n 3, 1) := by decide +kernel
theorem dX7_isTaken_4 : decode cX7_isTaken 4 = .ok (.invokevirtual 289, 3) := by decide +kernel
theorem dX7_isTaken_7 : decode cX7_isTaken 7 = .ok (.aload_n 0, 1) := by decide +kernel
theorem dX7_isTaken_8 : decode cX7_isTaken 8 = .ok (.getfield 273, 3) := by decide +kernel
theorem dX7_isTaken_11 : decode cX7_isTaken 11 = .ok (.istore 4, 2) := by decide +kernel
theorem dX7_isTaken_13 : decode cX7_isTaken 13 = .ok (.iconst 0, 1) := by decide +kernel
theorem dX7_isTaken_14 : decode cX7_isTaken 14 = .ok (.istore 5, 2) := by decide +kernel
theorem dX7_isTaken_16 : decode cX7_isTaken 16 = .ok (.iload 5, 2) := by decide +kernel
theorem dX7_isTaken_18 : decode cX7_isTaken 18 = .ok (.iload 4, 2) := by decide +kernel
theorem dX7_isTaken_20 : decode cX7_isTaken 20 = .ok (.if_icmp .ge 23, 3) := by decide +kernel
theorem dX7_isTaken_23 : decode cX7_isTaken 23 = .ok (.aload_n 0, 1) := by decide +kernel
theorem dX7_isTaken_24 : decode cX7_isTaken 24 = .ok (.getfield 75, 3) := by decide +kernel
theorem dX7_isTaken_27 : decode cX7_isTaken 27 = .ok (.iload 5, 2) := by decide +kernel
theorem dX7_isTaken_29 : decode cX7_isTaken 29 = .ok (.aload_n 0, 1) := by decide +kernel
theorem dX7_isTaken_30 : decode cX7_isTaken 30 = .ok (.getfield 72, 3) := by decide +kernel
theorem dX7_isTaken_33 : decode cX7_isTaken 33 = .ok (.iload 5, 2) := by decide +kernel
theorem dX7_isTaken_35 : decode cX7_isTaken 35 = .ok (.iaload, 1) := by decide +kernel
theorem dX7_isTaken_36 : decode cX7_isTaken 36 = .ok (.iastore, 1) := by decide +kernel
theorem dX7_isTaken_37 : decode cX7_isTaken 37 = .ok (.iinc 5 1, 3) := by decide +kernel
theorem dX7_isTaken_40 : decode cX7_isTaken 40 = .ok (.goto (-24), 3) := by decide +kernel
theorem dX7_isTaken_43 : decode cX7_isTaken 43 = .ok (.iconst 0, 1) := by decide +kernel
theorem dX7_isTaken_44 : decode cX7_isTaken 44 = .ok (.istore 5, 2) := by decide +kernel
theorem dX7_isTaken_46 : decode cX7_isTaken 46 = .ok (.iload 5, 2) := by decide +kernel
theorem dX7_isTaken_48 : decode cX7_isTaken 48 = .ok (.iload_n 2, 1) := by decide +kernel
theorem dX7_isTaken_49 : decode cX7_isTaken 49 = .ok (.if_icmp .ge 110, 3) := by decide +kernel
theorem dX7_isTaken_52 : decode cX7_isTaken 52 = .ok (.aload_n 0, 1) := by decide +kernel
theorem dX7_isTaken_53 : decode cX7_isTaken 53 = .ok (.iload_n 1, 1) := by decide +kernel
theorem dX7_isTaken_54 : decode cX7_isTaken 54 = .ok (.iload 5, 2) := by decide +kernel
theorem dX7_isTaken_56 : decode cX7_isTaken 56 = .ok (.invokevirtual 293, 3) := by decide +kernel
theorem dX7_isTaken_59 : decode cX7_isTaken 59 = .ok (.ifCond .eq 94, 3) := by decide +kernel
theorem dX7_isTaken_62 : decode cX7_isTaken 62 = .ok (.aload_n 0, 1) := by decide +kernel
theorem dX7_isTaken_63 : decode cX7_isTaken 63 = .ok (.iload_n 1, 1) := by decide +kernel
theorem dX7_isTaken_64 : decode cX7_isTaken 64 = .ok (.iload_n 2, 1) := by decide +kernel
theorem dX7_isTaken_65 : decode cX7_isTaken 65 = .ok (.iload_n 1, 1) := by decide +kernel
theorem dX7_isTaken_66 : decode cX7_isTaken 66 = .ok (.iload 5, 2) := by decide +kernel
theorem dX7_isTaken_68 : decode cX7_isTaken 68 = .ok (.invokevirtual 296, 3) := by decide +kernel
theorem dX7_isTaken_71 : decode cX7_isTaken 71 = .ok (.ifCond .eq 6, 3) := by decide +kernel
theorem dX7_isTaken_74 : decode cX7_isTaken 74 = .ok (.goto 79, 3) := by decide +kernel
theorem dX7_isTaken_77 : decode cX7_isTaken 77 = .ok (.aload_n 0, 1) := by decide +kernel
theorem dX7_isTaken_78 : decode cX7_isTaken 78 = .ok (.iload_n 1, 1) := by decide +kernel
theorem dX7_isTaken_79 : decode cX7_isTaken 79 = .ok (.iload 5, 2) := by decide +kernel
theorem dX7_isTaken_81 : decode cX7_isTaken 81 = .ok (.iload_n 3, 1) := by decide +kernel
theorem dX7_isTaken_82 : decode cX7_isTaken 82 = .ok (.invokevirtual 289, 3) := by decide +kernel
theorem dX7_isTaken_85 : decode cX7_isTaken 85 = .ok (.aload_n 0, 1) := by decide +kernel
theorem dX7_isTaken_86 : decode cX7_isTaken 86 = .ok (.getfield 273, 3) := by decide +kernel
theorem dX7_isTaken_89 : decode cX7_isTaken 89 = .ok (.iload 4, 2) := by decide +kernel
theorem dX7_isTaken_91 : decode cX7_isTaken 91 = .ok (.if_icmp .ne 7, 3) := by decide +kernel
theorem dX7_isTaken_94 : decode cX7_isTaken 94 = .ok (.iconst 1, 1) := by decide +kernel
theorem dX7_isTaken_95 : decode cX7_isTaken 95 = .ok (.goto 4, 3) := by decide +kernel
theorem dX7_isTaken_98 : decode cX7_isTaken 98 = .ok (.iconst 0, 1) := by decide +kernel
theorem dX7_isTaken_99 : decode cX7_isTaken 99 = .ok (.istore 6, 2) := by decide +kernel
theorem dX7_isTaken_101 : decode cX7_isTaken 101 = .ok (.iconst 0, 1) := by decide +kernel
theorem dX7_isTaken_102 : decode cX7_isTaken 102 = .ok (.istore 7, 2) := by decide +kernel
theorem dX7_isTaken_104 : decode cX7_isTaken 104 = .ok (.iload 7, 2) := by decide +kernel
theorem dX7_isTaken_106 : decode cX7_isTaken 106 = .ok (.iload 4, 2) := by decide +kernel
theorem dX7_isTaken_108 : decode cX7_isTaken 108 = .ok (.if_icmp .ge 38, 3) := by decide +kernel
theorem dX7_isTaken_111 : decode cX7_isTaken 111 = .ok (.iload 6, 2) := by decide +kernel
theorem dX7_isTaken_113 : decode cX7_isTaken 113 = .ok (.ifCond .eq 33, 3) := by decide +kernel
theorem dX7_isTaken_116 : decode cX7_isTaken 116 = .ok (.aload_n 0, 1) := by decide +kernel
theorem dX7_isTaken_117 : decode cX7_isTaken 117 = .ok (.getfield 75, 3) := by decide +kernel
theorem dX7_isTaken_120 : decode cX7_isTaken 120 = .ok (.iload 7, 2) := by decide +kernel
theorem dX7_isTaken_122 : decode cX7_isTaken 122 = .ok (.iaload, 1) := by decide +kernel
theorem dX7_isTaken_123 : decode cX7_isTaken 123 = .ok (.aload_n 0, 1) := by decide +kernel
theorem dX7_isTaken_124 : decode cX7_isTaken 124 = .ok (.getfield 72, 3) := by decide +kernel
theorem dX7_isTaken_127 : decode cX7_isTaken 127 = .ok (.iload 7, 2) := by decide +kernel
theorem dX7_isTaken_129 : decode cX7_isTaken 129 = .ok (.iaload, 1) := by decide +kernel
theorem dX7_isTaken_130 : decode cX7_isTaken 130 = .ok (.if_icmp .ne 7, 3) := by decide +kernel
theorem dX7_isTaken_133 : decode cX7_isTaken 133 = .ok (.iconst 1, 1) := by decide +kernel
theorem dX7_isTaken_134 : decode cX7_isTaken 134 = .ok (.goto 4, 3) := by decide +kernel
theorem dX7_isTaken_137 : decode cX7_isTaken 137 = .ok (.iconst 0, 1) := by decide +kernel
theorem dX7_isTaken_138 : decode cX7_isTaken 138 = .ok (.istore 6, 2) := by decide +kernel
theorem dX7_isTaken_140 : decode cX7_isTaken 140 = .ok (.iinc 7 1, 3) := by decide +kernel
theorem dX7_isTaken_143 : decode cX7_isTaken 143 = .ok (.goto (-39), 3) := by decide +kernel
theorem dX7_isTaken_146 : decode cX7_isTaken 146 = .ok (.iload 6, 2) := by decide +kernel
theorem dX7_isTaken_148 : decode cX7_isTaken 148 = .ok (.ifCond .eq 5, 3) := by decide +kernel
theorem dX7_isTaken_151 : decode cX7_isTaken 151 = .ok (.iconst 1, 1) := by decide +kernel
theorem dX7_isTaken_152 : decode cX7_isTaken 152 = .ok (.ireturn, 1) := by decide +kernel
theorem dX7_isTaken_153 : decode cX7_isTaken 153 = .ok (.iinc 5 1, 3) := by decide +kernel
theorem dX7_isTaken_156 : decode cX7_isTaken 156 = .ok (.goto (-110), 3) := by decide +kernel
theorem dX7_isTaken_159 : decode cX7_isTaken 159 = .ok (.iconst 0, 1) := by decide +kernel
theorem dX7_isTaken_160 : decode cX7_isTaken 160 = .ok (.ireturn, 1) := by decide +kernel
theorem dX7_turn_0 : decode cX7_turn 0 = .ok (.aload_n 0, 1) := by decide +kernel
theorem dX7_turn_1 : decode cX7_turn 1 = .ok (.iload_n 1, 1) := by decide +kernel
theorem dX7_turn_2 : decode cX7_turn 2 = .ok (.invokevirtual 216, 3) := by decide +kernel
theorem dX7_turn_5 : decode cX7_turn 5 = .ok (.ifCond .eq 25, 3) := by decide +kernel
theorem dX7_turn_8 : decode cX7_turn 8 = .ok (.aload_n 0, 1) := by decide +kernel
theorem dX7_turn_9 : decode cX7_turn 9 = .ok (.iload_n 2, 1) := by decide +kernel
theorem dX7_turn_10 : decode cX7_turn 10 = .ok (.ifCond .eq 8, 3) := by decide +kernel
theorem dX7_turn_13 : decode cX7_turn 13 = .ok (.iload_n 2, 1) := by decide +kernel
theorem dX7_turn_14 : decode cX7_turn 14 = .ok (.iconst 1, 1) := by decide +kernel
theorem dX7_turn_15 : decode cX7_turn 15 = .ok (.if_icmp .ne 7, 3) := by decide +kernel
theorem dX7_turn_18 : decode cX7_turn 18 = .ok (.iconst 1, 1) := by decide +kernel
theorem dX7_turn_19 : decode cX7_turn 19 = .ok (.goto 4, 3) := by decide +kernel
theorem dX7_turn_22 : decode cX7_turn 22 = .ok (.iconst 0, 1) := by decide +kernel
theorem dX7_turn_23 : decode cX7_turn 23 = .ok (.iconst 2, 1) := by decide +kernel
theorem dX7_turn_24 : decode cX7_turn 24 = .ok (.invokevirtual 208, 3) := by decide +kernel
theorem dX7_turn_27 : decode cX7_turn 27 = .ok (.ifCond .ne 5, 3) := by decide +kernel
theorem dX7_turn_30 : decode cX7_turn 30 = .ok (.iconst 0, 1) := by decide +kernel
theorem dX7_turn_31 : decode cX7_turn 31 = .ok (.ireturn, 1) := by decide +kernel
theorem dX7_turn_32 : decode cX7_turn 32 = .ok (.aload_n 0, 1) := by decide +kernel
theorem dX7_turn_33 : decode cX7_turn 33 = .ok (.invokevirtual 267, 3) := by decide +kernel
theorem dX7_turn_36 : decode cX7_turn 36 = .ok (.pop, 1) := by decide +kernel
theorem dX7_turn_37 : decode cX7_turn 37 = .ok (.iconst 1, 1) := by decide +kernel
theorem dX7_turn_38 : decode cX7_turn 38 = .ok (.istore_n 3, 1) := by decide +kernel
theorem dX7_turn_39 : decode cX7_turn 39 = .ok (.aload_n 0, 1) := by decide +kernel
theorem dX7_turn_40 : decode cX7_turn 40 = .ok (.getfield 24, 3) := by decide +kernel
theorem dX7_turn_43 : decode cX7_turn 43 = .ok (.iload_n 1, 1) := by decide +kernel
theorem dX7_turn_44 : decode cX7_turn 44 = .ok (.iaload, 1) := by decide +kernel
theorem dX7_turn_45 : decode cX7_turn 45 = .ok (.istore 4, 2) := by decide +kernel
theorem dX7_turn_47 : decode cX7_turn 47 = .ok (.iconst 0, 1) := by decide +kernel
theorem dX7_turn_48 : decode cX7_turn 48 = .ok (.istore 5, 2) := by decide +kernel
theorem dX7_turn_50 : decode cX7_turn 50 = .ok (.iload 5, 2) := by decide +kernel
theorem dX7_turn_52 : decode cX7_turn 52 = .ok (.aload_n 0, 1) := by decide +kernel
theorem dX7_turn_53 : decode cX7_turn 53 = .ok (.getfield 30, 3) := by decide +kernel
theorem dX7_turn_56 : decode cX7_turn 56 = .ok (.iload_n 1, 1) := by decide +kernel
theorem dX7_turn_57 : decode cX7_turn 57 = .ok (.iaload, 1) := by decide +kernel
theorem dX7_turn_58 : decode cX7_turn 58 = .ok (.if_icmp .ge 148, 3) := by decide +kernel
theorem dX7_turn_61 : decode cX7_turn 61 = .ok (.iload_n 3, 1) := by decide +kernel
theorem dX7_turn_62 : decode cX7_turn 62 = .ok (.ifCond .eq 144, 3) := by decide +kernel
theorem dX7_turn_65 : decode cX7_turn 65 = .ok (.aload_n 0, 1) := by decide +kernel
theorem dX7_turn_66 : decode cX7_turn 66 = .ok (.iload_n 1, 1) := by decide +kernel
theorem dX7_turn_67 : decode cX7_turn 67 = .ok (.iload 5, 2) := by decide +kernel
theorem dX7_turn_69 : decode cX7_turn 69 = .ok (.invokevirtual 293, 3) := by decide +kernel
theorem dX7_turn_72 : decode cX7_turn 72 = .ok (.ifCond .ne 6, 3) := by decide +kernel
theorem dX7_turn_75 : decode cX7_turn 75 = .ok (.goto 125, 3) := by decide +kernel
theorem dX7_turn_78 : decode cX7_turn 78 = .ok (.aload_n 0, 1) := by decide +kernel
theorem dX7_turn_79 : decode cX7_turn 79 = .ok (.iload_n 1, 1) := by decide +kernel
theorem dX7_turn_80 : decode cX7_turn 80 = .ok (.iload 5, 2) := by decide +kernel
theorem dX7_turn_82 : decode cX7_turn 82 = .ok (.iload_n 2, 1) := by decide +kernel
theorem dX7_turn_83 : decode cX7_turn 83 = .ok (.invokevirtual 300, 3) := by decide +kernel
theorem dX7_turn_86 : decode cX7_turn 86 = .ok (.ifCond .ne 7, 3) := by decide +kernel
theorem dX7_turn_89 : decode cX7_turn 89 = .ok (.iconst 1, 1) := by decide +kernel
theorem dX7_turn_90 : decode cX7_turn 90 = .ok (.goto 4, 3) := by decide +kernel
theorem dX7_turn_93 : decode cX7_turn 93 = .ok (.iconst 0, 1) := by decide +kernel
theorem dX7_turn_94 : decode cX7_turn 94 = .ok (.istore_n 3, 1) := by decide +kernel
theorem dX7_turn_95 : decode cX7_turn 95 = .ok (.aload_n 0, 1) := by decide +kernel
theorem dX7_turn_96 : decode cX7_turn 96 = .ok (.iload_n 1, 1) := by decide +kernel
theorem dX7_turn_97 : decode cX7_turn 97 = .ok (.iload 5, 2) := by decide +kernel
theorem dX7_turn_99 : decode cX7_turn 99 = .ok (.iload_n 2, 1) := by decide +kernel
theorem dX7_turn_100 : decode cX7_turn 100 = .ok (.invokevirtual 289, 3) := by decide +kernel
theorem dX7_turn_103 : decode cX7_turn 103 = .ok (.iload 4, 2) := by decide +kernel
theorem dX7_turn_105 : decode cX7_turn 105 = .ok (.aload_n 0, 1) := by decide +kernel
theorem dX7_turn_106 : decode cX7_turn 106 = .ok (.getfield 273, 3) := by decide +kernel
theorem dX7_turn_109 : decode cX7_turn 109 = .ok (.aload_n 0, 1) := by decide +kernel
theorem dX7_turn_110 : decode cX7_turn 110 = .ok (.getfield 39, 3) := by decide +kernel
theorem dX7_turn_113 : decode cX7_turn 113 = .ok (.sipush 201, 3) := by decide +kernel
theorem dX7_turn_116 : decode cX7_turn 116 = .ok (.iload_n 1, 1) := by decide +kernel
theorem dX7_turn_117 : decode cX7_turn 117 = .ok (.imul, 1) := by decide +kernel
theorem dX7_turn_118 : decode cX7_turn 118 = .ok (.iload 5, 2) := by decide +kernel
theorem dX7_turn_120 : decode cX7_turn 120 = .ok (.iadd, 1) := by decide +kernel
theorem dX7_turn_121 : decode cX7_turn 121 = .ok (.iaload, 1) := by decide +kernel
theorem dX7_turn_122 : decode cX7_turn 122 = .ok (.isub, 1) := by decide +kernel
theorem dX7_turn_123 : decode cX7_turn 123 = .ok (.iadd, 1) := by decide +kernel
theorem dX7_turn_124 : decode cX7_turn 124 = .ok (.istore 4, 2) := by decide +kernel
theorem dX7_turn_126 : decode cX7_turn 126 = .ok (.iload_n 3, 1) := by decide +kernel
theorem dX7_turn_127 : decode cX7_turn 127 = .ok (.ifCond .eq 71, 3) := by decide +kernel
theorem dX7_turn_130 : decode cX7_turn 130 = .ok (.aload_n 0, 1) := by decide +kernel
theorem dX7_turn_131 : decode cX7_turn 131 = .ok (.getfield 273, 3) := by decide +kernel
theorem dX7_turn_134 : decode cX7_turn 134 = .ok (.bipush 16, 2) := by decide +kernel
theorem dX7_turn_136 : decode cX7_turn 136 = .ok (.if_icmp .gt 62, 3) := by decide +kernel
theorem dX7_turn_139 : decode cX7_turn 139 = .ok (.aload_n 0, 1) := by decide +kernel
theorem dX7_turn_140 : decode cX7_turn 140 = .ok (.getfield 273, 3) := by decide +kernel
theorem dX7_turn_143 : decode cX7_turn 143 = .ok (.ifCond .le 55, 3) := by decide +kernel
theorem dX7_turn_146 : decode cX7_turn 146 = .ok (.aload_n 0, 1) := by decide +kernel
theorem dX7_turn_147 : decode cX7_turn 147 = .ok (.getfield 72, 3) := by decide +kernel
theorem dX7_turn_150 : decode cX7_turn 150 = .ok (.iconst 0, 1) := by decide +kernel
theorem dX7_turn_151 : decode cX7_turn 151 = .ok (.iaload, 1) := by decide +kernel
theorem dX7_turn_152 : decode cX7_turn 152 = .ok (.invokestatic 108, 3) := by decide +kernel
theorem dX7_turn_155 : decode cX7_turn 155 = .ok (.ifCond .ne 43, 3) := by decide +kernel
theorem dX7_turn_158 : decode cX7_turn 158 = .ok (.aload_n 0, 1) := by decide +kernel
theorem dX7_turn_159 : decode cX7_turn 159 = .ok (.ldc 130, 2) := by decide +kernel
theorem dX7_turn_161 : decode cX7_turn 161 = .ok (.invokevirtual 303, 3) := by decide +kernel
theorem dX7_turn_164 : decode cX7_turn 164 = .ok (.ifCond .ne 34, 3) := by decide +kernel
theorem dX7_turn_167 : decode cX7_turn 167 = .ok (.aload_n 0, 1) := by decide +kernel
theorem dX7_turn_168 : decode cX7_turn 168 = .ok (.ldc 136, 2) := by decide +kernel
theorem dX7_turn_170 : decode cX7_turn 170 = .ok (.invokevirtual 303, 3) := by decide +kernel
theorem dX7_turn_173 : decode cX7_turn 173 = .ok (.ifCond .ne 25, 3) := by decide +kernel
theorem dX7_turn_176 : decode cX7_turn 176 = .ok (.aload_n 0, 1) := by decide +kernel
theorem dX7_turn_177 : decode cX7_turn 177 = .ok (.ldc 138, 2) := by decide +kernel
theorem dX7_turn_179 : decode cX7_turn 179 = .ok (.invokevirtual 303, 3) := by decide +kernel
theorem dX7_turn_182 : decode cX7_turn 182 = .ok (.ifCond .ne 16, 3) := by decide +kernel
theorem dX7_turn_185 : decode cX7_turn 185 = .ok (.aload_n 0, 1) := by decide +kernel
theorem dX7_turn_186 : decode cX7_turn 186 = .ok (.ldc 140, 2) := by decide +kernel
theorem dX7_turn_188 : decode cX7_turn 188 = .ok (.invokevirtual 303, 3) := by decide +kernel
theorem dX7_turn_191 : decode cX7_turn 191 = .ok (.ifCond .ne 7, 3) := by decide +kernel
theorem dX7_turn_194 : decode cX7_turn 194 = .ok (.iconst 1, 1) := by decide +kernel
theorem dX7_turn_195 : decode cX7_turn 195 = .ok (.goto 4, 3) := by decide +kernel
theorem dX7_turn_198 : decode cX7_turn 198 = .ok (.iconst 0, 1) := by decide +kernel
theorem dX7_turn_199 : decode cX7_turn 199 = .ok (.istore_n 3, 1) := by decide +kernel
theorem dX7_turn_200 : decode cX7_turn 200 = .ok (.iinc 5 1, 3) := by decide +kernel
theorem dX7_turn_203 : decode cX7_turn 203 = .ok (.goto (-153), 3) := by decide +kernel
theorem dX7_turn_206 : decode cX7_turn 206 = .ok (.iload_n 3, 1) := by decide +kernel
theorem dX7_turn_207 : decode cX7_turn 207 = .ok (.ifCond .eq 11, 3) := by decide +kernel
theorem dX7_turn_210 : decode cX7_turn 210 = .ok (.iload 4, 2) := by decide +kernel
theorem dX7_turn_212 : decode cX7_turn 212 = .ok (.sipush 800, 3) := by decide +kernel
theorem dX7_turn_215 : decode cX7_turn 215 = .ok (.if_icmp .le 5, 3) := by decide +kernel
theorem dX7_turn_218 : decode cX7_turn 218 = .ok (.iconst (-1), 1) := by decide +kernel
theorem dX7_turn_219 : decode cX7_turn 219 = .ok (.ireturn, 1) := by decide +kernel
theorem dX7_turn_220 : decode cX7_turn 220 = .ok (.iconst 0, 1) := by decide +kernel
theorem dX7_turn_221 : decode cX7_turn 221 = .ok (.istore 5, 2) := by decide +kernel
theorem dX7_turn_223 : decode cX7_turn 223 = .ok (.iconst 0, 1) := by decide +kernel
theorem dX7_turn_224 : decode cX7_turn 224 = .ok (.istore 6, 2) := by decide +kernel
theorem dX7_turn_226 : decode cX7_turn 226 = .ok (.iload 6, 2) := by decide +kernel
theorem dX7_turn_228 : decode cX7_turn 228 = .ok (.aload_n 0, 1) := by decide +kernel
theorem dX7_turn_229 : decode cX7_turn 229 = .ok (.getfield 30, 3) := by decide +kernel
theorem dX7_turn_232 : decode cX7_turn 232 = .ok (.iload_n 1, 1) := by decide +kernel
theorem dX7_turn_233 : decode cX7_turn 233 = .ok (.iaload, 1) := by decide +kernel
theorem dX7_turn_234 : decode cX7_turn 234 = .ok (.if_icmp .ge 120, 3) := by decide +kernel
theorem dX7_turn_237 : decode cX7_turn 237 = .ok (.aload_n 0, 1) := by decide +kernel
theorem dX7_turn_238 : decode cX7_turn 238 = .ok (.iload_n 1, 1) := by decide +kernel
theorem dX7_turn_239 : decode cX7_turn 239 = .ok (.iload 6, 2) := by decide +kernel
theorem dX7_turn_241 : decode cX7_turn 241 = .ok (.invokevirtual 293, 3) := by decide +kernel
theorem dX7_turn_244 : decode cX7_turn 244 = .ok (.ifCond .ne 6, 3) := by decide +kernel
theorem dX7_turn_247 : decode cX7_turn 247 = .ok (.goto 101, 3) := by decide +kernel
theorem dX7_turn_250 : decode cX7_turn 250 = .ok (.iload 5, 2) := by decide +kernel
theorem dX7_turn_252 : decode cX7_turn 252 = .ok (.aload_n 0, 1) := by decide +kernel
theorem dX7_turn_253 : decode cX7_turn 253 = .ok (.getfield 36, 3) := by decide +kernel
theorem dX7_turn_256 : decode cX7_turn 256 = .ok (.sipush 201, 3) := by decide +kernel
theorem dX7_turn_259 : decode cX7_turn 259 = .ok (.iload_n 1, 1) := by decide +kernel
theorem dX7_turn_260 : decode cX7_turn 260 = .ok (.imul, 1) := by decide +kernel
theorem dX7_turn_261 : decode cX7_turn 261 = .ok (.iload 6, 2) := by decide +kernel
theorem dX7_turn_263 : decode cX7_turn 263 = .ok (.iadd, 1) := by decide +kernel
theorem dX7_turn_264 : decode cX7_turn 264 = .ok (.iaload, 1) := by decide +kernel
theorem dX7_turn_265 : decode cX7_turn 265 = .ok (.if_icmp .ge 27, 3) := by decide +kernel
theorem dX7_turn_268 : decode cX7_turn 268 = .ok (.aload_n 0, 1) := by decide +kernel
theorem dX7_turn_269 : decode cX7_turn 269 = .ok (.aload_n 0, 1) := by decide +kernel
theorem dX7_turn_270 : decode cX7_turn 270 = .ok (.getfield 21, 3) := by decide +kernel
theorem dX7_turn_273 : decode cX7_turn 273 = .ok (.sipush 800, 3) := by decide +kernel
theorem dX7_turn_276 : decode cX7_turn 276 = .ok (.iload_n 1, 1) := by decide +kernel
theorem dX7_turn_277 : decode cX7_turn 277 = .ok (.imul, 1) := by decide +kernel
theorem dX7_turn_278 : decode cX7_turn 278 = .ok (.iload 5, 2) := by decide +kernel
theorem dX7_turn_280 : decode cX7_turn 280 = .ok (.iadd, 1) := by decide +kernel
theorem dX7_turn_281 : decode cX7_turn 281 = .ok (.iaload, 1) := by decide +kernel
theorem dX7_turn_282 : decode cX7_turn 282 = .ok (.invokevirtual 270, 3) := by decide +kernel
theorem dX7_turn_285 : decode cX7_turn 285 = .ok (.pop, 1) := by decide +kernel
theorem dX7_turn_286 : decode cX7_turn 286 = .ok (.iinc 5 1, 3) := by decide +kernel
theorem dX7_turn_289 : decode cX7_turn 289 = .ok (.goto (-39), 3) := by decide +kernel
theorem dX7_turn_292 : decode cX7_turn 292 = .ok (.aload_n 0, 1) := by decide +kernel
theorem dX7_turn_293 : decode cX7_turn 293 = .ok (.iload_n 1, 1) := by decide +kernel
theorem dX7_turn_294 : decode cX7_turn 294 = .ok (.iload 6, 2) := by decide +kernel
theorem dX7_turn_296 : decode cX7_turn 296 = .ok (.iload_n 2, 1) := by decide +kernel
theorem dX7_turn_297 : decode cX7_turn 297 = .ok (.invokevirtual 289, 3) := by decide +kernel
theorem dX7_turn_300 : decode cX7_turn 300 = .ok (.iconst 0, 1) := by decide +kernel
theorem dX7_turn_301 : decode cX7_turn 301 = .ok (.istore 7, 2) := by decide +kernel
theorem dX7_turn_303 : decode cX7_turn 303 = .ok (.iload 7, 2) := by decide +kernel
theorem dX7_turn_305 : decode cX7_turn 305 = .ok (.aload_n 0, 1) := by decide +kernel
theorem dX7_turn_306 : decode cX7_turn 306 = .ok (.getfield 273, 3) := by decide +kernel
theorem dX7_turn_309 : decode cX7_turn 309 = .ok (.if_icmp .ge 21, 3) := by decide +kernel
theorem dX7_turn_312 : decode cX7_turn 312 = .ok (.aload_n 0, 1) := by decide +kernel
theorem dX7_turn_313 : decode cX7_turn 313 = .ok (.aload_n 0, 1) := by decide +kernel
theorem dX7_turn_314 : decode cX7_turn 314 = .ok (.getfield 72, 3) := by decide +kernel
theorem dX7_turn_317 : decode cX7_turn 317 = .ok (.iload 7, 2) := by decide +kernel
theorem dX7_turn_319 : decode cX7_turn 319 = .ok (.iaload, 1) := by decide +kernel
theorem dX7_turn_320 : decode cX7_turn 320 = .ok (.invokevirtual 270, 3) := by decide +kernel
theorem dX7_turn_323 : decode cX7_turn 323 = .ok (.pop, 1) := by decide +kernel
theorem dX7_turn_324 : decode cX7_turn 324 = .ok (.iinc 7 1, 3) := by decide +kernel
theorem dX7_turn_327 : decode cX7_turn 327 = .ok (.goto (-24), 3) := by decide +kernel
theorem dX7_turn_330 : decode cX7_turn 330 = .ok (.iload 5, 2) := by decide +kernel
theorem dX7_turn_332 : decode cX7_turn 332 = .ok (.aload_n 0, 1) := by decide +kernel
theorem dX7_turn_333 : decode cX7_turn 333 = .ok (.getfield 39, 3) := by decide +kernel
theorem dX7_turn_336 : decode cX7_turn 336 = .ok (.sipush 201, 3) := by decide +kernel
theorem dX7_turn_339 : decode cX7_turn 339 = .ok (.iload_n 1, 1) := by decide +kernel
theorem dX7_turn_340 : decode cX7_turn 340 = .ok (.imul, 1) := by decide +kernel
theorem dX7_turn_341 : decode cX7_turn 341 = .ok (.iload 6, 2) := by decide +kernel
theorem dX7_turn_343 : decode cX7_turn 343 = .ok (.iadd, 1) := by decide +kernel
theorem dX7_turn_344 : decode cX7_turn 344 = .ok (.iaload, 1) := by decide +kernel
theorem dX7_turn_345 : decode cX7_turn 345 = .ok (.iadd, 1) := by decide +kernel
theorem dX7_turn_346 : decode cX7_turn 346 = .ok (.istore 5, 2) := by decide +kernel
theorem dX7_turn_348 : decode cX7_turn 348 = .ok (.iinc 6 1, 3) := by decide +kernel
theorem dX7_turn_351 : decode cX7_turn 351 = .ok (.goto (-125), 3) := by decide +kernel
theorem dX7_turn_354 : decode cX7_turn 354 = .ok (.iload 5, 2) := by decide +kernel
theorem dX7_turn_356 : decode cX7_turn 356 = .ok (.aload_n 0, 1) := by decide +kernel
theorem dX7_turn_357 : decode cX7_turn 357 = .ok (.getfield 24, 3) := by decide +kernel
theorem dX7_turn_360 : decode cX7_turn 360 = .ok (.iload_n 1, 1) := by decide +kernel
theorem dX7_turn_361 : decode cX7_turn 361 = .ok (.iaload, 1) := by decide +kernel
theorem dX7_turn_362 : decode cX7_turn 362 = .ok (.if_icmp .ge 27, 3) := by decide +kernel
theorem dX7_turn_365 : decode cX7_turn 365 = .ok (.aload_n 0, 1) := by decide +kernel
theorem dX7_turn_366 : decode cX7_turn 366 = .ok (.aload_n 0, 1) := by decide +kernel
theorem dX7_turn_367 : decode cX7_turn 367 = .ok (.getfield 21, 3) := by decide +kernel
theorem dX7_turn_370 : decode cX7_turn 370 = .ok (.sipush 800, 3) := by decide +kernel
theorem dX7_turn_373 : decode cX7_turn 373 = .ok (.iload_n 1, 1) := by decide +kernel
theorem dX7_turn_374 : decode cX7_turn 374 = .ok (.imul, 1) := by decide +kernel
theorem dX7_turn_375 : decode cX7_turn 375 = .ok (.iload 5, 2) := by decide +kernel
theorem dX7_turn_377 : decode cX7_turn 377 = .ok (.iadd, 1) := by decide +kernel
theorem dX7_turn_378 : decode cX7_turn 378 = .ok (.iaload, 1) := by decide +kernel
theorem dX7_turn_379 : decode cX7_turn 379 = .ok (.invokevirtual 270, 3) := by decide +kernel
theorem dX7_turn_382 : decode cX7_turn 382 = .ok (.pop, 1) := by decide +kernel
theorem dX7_turn_383 : decode cX7_turn 383 = .ok (.iinc 5 1, 3) := by decide +kernel
theorem dX7_turn_386 : decode cX7_turn 386 = .ok (.goto (-32), 3) := by decide +kernel
theorem dX7_turn_389 : decode cX7_turn 389 = .ok (.aload_n 0, 1) := by decide +kernel
theorem dX7_turn_390 : decode cX7_turn 390 = .ok (.iload_n 1, 1) := by decide +kernel
theorem dX7_turn_391 : decode cX7_turn 391 = .ok (.putfield 60, 3) := by decide +kernel
theorem dX7_turn_394 : decode cX7_turn 394 = .ok (.aload_n 0, 1) := by decide +kernel
theorem dX7_turn_395 : decode cX7_turn 395 = .ok (.getfield 264, 3) := by decide +kernel
theorem dX7_turn_398 : decode cX7_turn 398 = .ok (.ireturn, 1) := by decide +kernel
theorem dX7_isAs_0 : decode cX7_isAs 0 = .ok (.aload_n 0, 1) := by decide +kernel
theorem dX7_isAs_1 : decode cX7_isAs 1 = .ok (.iload_n 1, 1) := by decide +kernel
theorem dX7_isAs_2 : decode cX7_isAs 2 = .ok (.iload_n 2, 1) := by decide +kernel
theorem dX7_isAs_3 : decode cX7_isAs 3 = .ok (.iload_n 3, 1) := by decide +kernel
theorem dX7_isAs_4 : decode cX7_isAs 4 = .ok (.invokevirtual 289, 3) := by decide +kernel
theorem dX7_isAs_7 : decode cX7_isAs 7 = .ok (.aload_n 0, 1) := by decide +kernel
theorem dX7_isAs_8 : decode cX7_isAs 8 = .ok (.getfield 273, 3) := by decide +kernel
theorem dX7_isAs_11 : decode cX7_isAs 11 = .ok (.aload_n 0, 1) := by decide +kernel
theorem dX7_isAs_12 : decode cX7_isAs 12 = .ok (.getfield 39, 3) := by decide +kernel
theorem dX7_isAs_15 : decode cX7_isAs 15 = .ok (.sipush 201, 3) := by decide +kernel
theorem dX7_isAs_18 : decode cX7_isAs 18 = .ok (.iload_n 1, 1) := by decide +kernel
theorem dX7_isAs_19 : decode cX7_isAs 19 = .ok (.imul, 1) := by decide +kernel
theorem dX7_isAs_20 : decode cX7_isAs 20 = .ok (.iload_n 2, 1) := by decide +kernel
theorem dX7_isAs_21 : decode cX7_isAs 21 = .ok (.iadd, 1) := by decide +kernel
theorem dX7_isAs_22 : decode cX7_isAs 22 = .ok (.iaload, 1) := by decide +kernel
theorem dX7_isAs_23 : decode cX7_isAs 23 = .ok (.if_icmp .ne 7, 3) := by decide +kernel
theorem dX7_isAs_26 : decode cX7_isAs 26 = .ok (.iconst 1, 1) := by decide +kernel
theorem dX7_isAs_27 : decode cX7_isAs 27 = .ok (.goto 4, 3) := by decide +kernel
theorem dX7_isAs_30 : decode cX7_isAs 30 = .ok (.iconst 0, 1) := by decide +kernel
theorem dX7_isAs_31 : decode cX7_isAs 31 = .ok (.istore 4, 2) := by decide +kernel
theorem dX7_isAs_33 : decode cX7_isAs 33 = .ok (.iconst 0, 1) := by decide +kernel
theorem dX7_isAs_34 : decode cX7_isAs 34 = .ok (.istore 5, 2) := by decide +kernel
theorem dX7_isAs_36 : decode cX7_isAs 36 = .ok (.iload 5, 2) := by decide +kernel
theorem dX7_isAs_38 : decode cX7_isAs 38 = .ok (.aload_n 0, 1) := by decide +kernel
theorem dX7_isAs_39 : decode cX7_isAs 39 = .ok (.getfield 273, 3) := by decide +kernel
theorem dX7_isAs_42 : decode cX7_isAs 42 = .ok (.if_icmp .ge 57, 3) := by decide +kernel
theorem dX7_isAs_45 : decode cX7_isAs 45 = .ok (.iload 4, 2) := by decide +kernel
theorem dX7_isAs_47 : decode cX7_isAs 47 = .ok (.ifCond .eq 52, 3) := by decide +kernel
theorem dX7_isAs_50 : decode cX7_isAs 50 = .ok (.aload_n 0, 1) := by decide +kernel
theorem dX7_isAs_51 : decode cX7_isAs 51 = .ok (.getfield 72, 3) := by decide +kernel
theorem dX7_isAs_54 : decode cX7_isAs 54 = .ok (.iload 5, 2) := by decide +kernel
theorem dX7_isAs_56 : decode cX7_isAs 56 = .ok (.iaload, 1) := by decide +kernel
theorem dX7_isAs_57 : decode cX7_isAs 57 = .ok (.aload_n 0, 1) := by decide +kernel
theorem dX7_isAs_58 : decode cX7_isAs 58 = .ok (.getfield 21, 3) := by decide +kernel
theorem dX7_isAs_61 : decode cX7_isAs 61 = .ok (.sipush 800, 3) := by decide +kernel
theorem dX7_isAs_64 : decode cX7_isAs 64 = .ok (.iload_n 1, 1) := by decide +kernel
theorem dX7_isAs_65 : decode cX7_isAs 65 = .ok (.imul, 1) := by decide +kernel
theorem dX7_isAs_66 : decode cX7_isAs 66 = .ok (.aload_n 0, 1) := by decide +kernel
theorem dX7_isAs_67 : decode cX7_isAs 67 = .ok (.getfield 36, 3) := by decide +kernel
theorem dX7_isAs_70 : decode cX7_isAs 70 = .ok (.sipush 201, 3) := by decide +kernel
theorem dX7_isAs_73 : decode cX7_isAs 73 = .ok (.iload_n 1, 1) := by decide +kernel
theorem dX7_isAs_74 : decode cX7_isAs 74 = .ok (.imul, 1) := by decide +kernel
theorem dX7_isAs_75 : decode cX7_isAs 75 = .ok (.iload_n 2, 1) := by decide +kernel
theorem dX7_isAs_76 : decode cX7_isAs 76 = .ok (.iadd, 1) := by decide +kernel
theorem dX7_isAs_77 : decode cX7_isAs 77 = .ok (.iaload, 1) := by decide +kernel
theorem dX7_isAs_78 : decode cX7_isAs 78 = .ok (.iadd, 1) := by decide +kernel
theorem dX7_isAs_79 : decode cX7_isAs 79 = .ok (.iload 5, 2) := by decide +kernel
theorem dX7_isAs_81 : decode cX7_isAs 81 = .ok (.iadd, 1) := by decide +kernel
theorem dX7_isAs_82 : decode cX7_isAs 82 = .ok (.iaload, 1) := by decide +kernel
theorem dX7_isAs_83 : decode cX7_isAs 83 = .ok (.if_icmp .ne 7, 3) := by decide +kernel
theorem dX7_isAs_86 : decode cX7_isAs 86 = .ok (.iconst 1, 1) := by decide +kernel
theorem dX7_isAs_87 : decode cX7_isAs 87 = .ok (.goto 4, 3) := by decide +kernel
theorem dX7_isAs_90 : decode cX7_isAs 90 = .ok (.iconst 0, 1) := by decide +kernel
theorem dX7_isAs_91 : decode cX7_isAs 91 = .ok (.istore 4, 2) := by decide +kernel
theorem dX7_isAs_93 : decode cX7_isAs 93 = .ok (.iinc 5 1, 3) := by decide +kernel
theorem dX7_isAs_96 : decode cX7_isAs 96 = .ok (.goto (-60), 3) := by decide +kernel
theorem dX7_isAs_99 : decode cX7_isAs 99 = .ok (.iload 4, 2) := by decide +kernel
theorem dX7_isAs_101 : decode cX7_isAs 101 = .ok (.ifCond .eq 15, 3) := by decide +kernel
theorem dX7_isAs_104 : decode cX7_isAs 104 = .ok (.aload_n 0, 1) := by decide +kernel
theorem dX7_isAs_105 : decode cX7_isAs 105 = .ok (.getfield 276, 3) := by decide +kernel
theorem dX7_isAs_108 : decode cX7_isAs 108 = .ok (.iconst 1, 1) := by decide +kernel
theorem dX7_isAs_109 : decode cX7_isAs 109 = .ok (.if_icmp .le 7, 3) := by decide +kernel
theorem dX7_isAs_112 : decode cX7_isAs 112 = .ok (.iconst 1, 1) := by decide +kernel
theorem dX7_isAs_113 : decode cX7_isAs 113 = .ok (.goto 4, 3) := by decide +kernel
theorem dX7_isAs_116 : decode cX7_isAs 116 = .ok (.iconst 0, 1) := by decide +kernel
theorem dX7_isAs_117 : decode cX7_isAs 117 = .ok (.ireturn, 1) := by decide +kernel
theorem dX7_house_0 : decode cX7_house 0 = .ok (.aload_n 0, 1) := by decide +kernel
theorem dX7_house_1 : decode cX7_house 1 = .ok (.iconst 0, 1) := by decide +kernel
theorem dX7_house_2 : decode cX7_house 2 = .ok (.putfield 78, 3) := by decide +kernel
theorem dX7_house_5 : decode cX7_house 5 = .ok (.iconst 0, 1) := by decide +kernel
theorem dX7_house_6 : decode cX7_house 6 = .ok (.istore_n 1, 1) := by decide +kernel
theorem dX7_house_7 : decode cX7_house 7 = .ok (.iconst 0, 1) := by decide +kernel
theorem dX7_house_8 : decode cX7_house 8 = .ok (.istore_n 2, 1) := by decide +kernel
theorem dX7_house_9 : decode cX7_house 9 = .ok (.iload_n 2, 1) := by decide +kernel
theorem dX7_house_10 : decode cX7_house 10 = .ok (.bipush 12, 2) := by decide +kernel
theorem dX7_house_12 : decode cX7_house 12 = .ok (.if_icmp .ge 74, 3) := by decide +kernel
theorem dX7_house_15 : decode cX7_house 15 = .ok (.iconst 0, 1) := by decide +kernel
theorem dX7_house_16 : decode cX7_house 16 = .ok (.istore_n 3, 1) := by decide +kernel
theorem dX7_house_17 : decode cX7_house 17 = .ok (.aload_n 0, 1) := by decide +kernel
theorem dX7_house_18 : decode cX7_house 18 = .ok (.getfield 17, 3) := by decide +kernel
theorem dX7_house_21 : decode cX7_house 21 = .ok (.iload_n 2, 1) := by decide +kernel
theorem dX7_house_22 : decode cX7_house 22 = .ok (.baload, 1) := by decide +kernel
theorem dX7_house_23 : decode cX7_house 23 = .ok (.ifCond .eq 57, 3) := by decide +kernel
theorem dX7_house_26 : decode cX7_house 26 = .ok (.iload_n 3, 1) := by decide +kernel
theorem dX7_house_27 : decode cX7_house 27 = .ok (.aload_n 0, 1) := by decide +kernel
theorem dX7_house_28 : decode cX7_house 28 = .ok (.getfield 30, 3) := by decide +kernel
theorem dX7_house_31 : decode cX7_house 31 = .ok (.iload_n 2, 1) := by decide +kernel
theorem dX7_house_32 : decode cX7_house 32 = .ok (.iaload, 1) := by decide +kernel
theorem dX7_house_33 : decode cX7_house 33 = .ok (.if_icmp .ge 47, 3) := by decide +kernel
theorem dX7_house_36 : decode cX7_house 36 = .ok (.aload_n 0, 1) := by decide +kernel
theorem dX7_house_37 : decode cX7_house 37 = .ok (.iload_n 2, 1) := by decide +kernel
theorem dX7_house_38 : decode cX7_house 38 = .ok (.iload_n 3, 1) := by decide +kernel
theorem dX7_house_39 : decode cX7_house 39 = .ok (.invokevirtual 293, 3) := by decide +kernel
theorem dX7_house_42 : decode cX7_house 42 = .ok (.ifCond .ne 6, 3) := by decide +kernel
theorem dX7_house_45 : decode cX7_house 45 = .ok (.goto 29, 3) := by decide +kernel
theorem dX7_house_48 : decode cX7_house 48 = .ok (.aload_n 0, 1) := by decide +kernel
theorem dX7_house_49 : decode cX7_house 49 = .ok (.iload_n 2, 1) := by decide +kernel
theorem dX7_house_50 : decode cX7_house 50 = .ok (.iload_n 3, 1) := by decide +kernel
theorem dX7_house_51 : decode cX7_house 51 = .ok (.iconst 0, 1) := by decide +kernel
theorem dX7_house_52 : decode cX7_house 52 = .ok (.invokevirtual 306, 3) := by decide +kernel
theorem dX7_house_55 : decode cX7_house 55 = .ok (.ifCond .eq 6, 3) := by decide +kernel
theorem dX7_house_58 : decode cX7_house 58 = .ok (.iinc 1 1, 3) := by decide +kernel
theorem dX7_house_61 : decode cX7_house 61 = .ok (.aload_n 0, 1) := by decide +kernel
theorem dX7_house_62 : decode cX7_house 62 = .ok (.iload_n 2, 1) := by decide +kernel
theorem dX7_house_63 : decode cX7_house 63 = .ok (.iload_n 3, 1) := by decide +kernel
theorem dX7_house_64 : decode cX7_house 64 = .ok (.iconst 1, 1) := by decide +kernel
theorem dX7_house_65 : decode cX7_house 65 = .ok (.invokevirtual 306, 3) := by decide +kernel
theorem dX7_house_68 : decode cX7_house 68 = .ok (.ifCond .eq 6, 3) := by decide +kernel
theorem dX7_house_71 : decode cX7_house 71 = .ok (.iinc 1 (-1), 3) := by decide +kernel
theorem dX7_house_74 : decode cX7_house 74 = .ok (.iinc 3 1, 3) := by decide +kernel
theorem dX7_house_77 : decode cX7_house 77 = .ok (.goto (-60), 3) := by decide +kernel
theorem dX7_house_80 : decode cX7_house 80 = .ok (.iinc 2 1, 3) := by decide +kernel
theorem dX7_house_83 : decode cX7_house 83 = .ok (.goto (-74), 3) := by decide +kernel
theorem dX7_house_86 : decode cX7_house 86 = .ok (.iload_n 1, 1) := by decide +kernel
theorem dX7_house_87 : decode cX7_house 87 = .ok (.ifCond .ne 7, 3) := by decide +kernel
theorem dX7_house_90 : decode cX7_house 90 = .ok (.iconst (-1), 1) := by decide +kernel
theorem dX7_house_91 : decode cX7_house 91 = .ok (.goto 12, 3) := by decide +kernel
theorem dX7_house_94 : decode cX7_house 94 = .ok (.iload_n 1, 1) := by decide +kernel
theorem dX7_house_95 : decode cX7_house 95 = .ok (.ifCond .le 7, 3) := by decide +kernel
theorem dX7_house_98 : decode cX7_house 98 = .ok (.iconst 0, 1) := by decide +kernel
theorem dX7_house_99 : decode cX7_house 99 = .ok (.goto 4, 3) := by decide +kernel
theorem dX7_house_102 : decode cX7_house 102 = .ok (.iconst 1, 1) := by decide +kernel
theorem dX7_house_103 : decode cX7_house 103 = .ok (.ireturn, 1) := by decide +kernel
theorem dX7_told_0 : decode cX7_told 0 = .ok (.aload_n 0, 1) := by decide +kernel
theorem dX7_told_1 : decode cX7_told 1 = .ok (.iconst 0, 1) := by decide +kernel
theorem dX7_told_2 : decode cX7_told 2 = .ok (.putfield 78, 3) := by decide +kernel
theorem dX7_told_5 : decode cX7_told 5 = .ok (.aload_n 0, 1) := by decide +kernel
theorem dX7_told_6 : decode cX7_told 6 = .ok (.iload_n 1, 1) := by decide +kernel
theorem dX7_told_7 : decode cX7_told 7 = .ok (.iconst (-1), 1) := by decide +kernel
theorem dX7_told_8 : decode cX7_told 8 = .ok (.if_icmp .lt 15, 3) := by decide +kernel
theorem dX7_told_11 : decode cX7_told 11 = .ok (.iload_n 1, 1) := by decide +kernel
theorem dX7_told_12 : decode cX7_told 12 = .ok (.aload_n 0, 1) := by decide +kernel
theorem dX7_told_13 : decode cX7_told 13 = .ok (.getfield 264, 3) := by decide +kernel
theorem dX7_told_16 : decode cX7_told 16 = .ok (.if_icmp .ge 7, 3) := by decide +kernel
theorem dX7_told_19 : decode cX7_told 19 = .ok (.iconst 1, 1) := by decide +kernel
theorem dX7_told_20 : decode cX7_told 20 = .ok (.goto 4, 3) := by decide +kernel
theorem dX7_told_23 : decode cX7_told 23 = .ok (.iconst 0, 1) := by decide +kernel
theorem dX7_told_24 : decode cX7_told 24 = .ok (.iconst 1, 1) := by decide +kernel
theorem dX7_told_25 : decode cX7_told 25 = .ok (.invokevirtual 208, 3) := by decide +kernel
theorem dX7_told_28 : decode cX7_told 28 = .ok (.ifCond .ne 5, 3) := by decide +kernel
theorem dX7_told_31 : decode cX7_told 31 = .ok (.iconst 0, 1) := by decide +kernel
theorem dX7_told_32 : decode cX7_told 32 = .ok (.ireturn, 1) := by decide +kernel
theorem dX7_told_33 : decode cX7_told 33 = .ok (.iload_n 1, 1) := by decide +kernel
theorem dX7_told_34 : decode cX7_told 34 = .ok (.iconst (-1), 1) := by decide +kernel
theorem dX7_told_35 : decode cX7_told 35 = .ok (.if_icmp .ne 10, 3) := by decide +kernel
theorem dX7_told_38 : decode cX7_told 38 = .ok (.aload_n 0, 1) := by decide +kernel
theorem dX7_told_39 : decode cX7_told 39 = .ok (.getfield 264, 3) := by decide +kernel
theorem dX7_told_42 : decode cX7_told 42 = .ok (.goto 9, 3) := by decide +kernel
theorem dX7_told_45 : decode cX7_told 45 = .ok (.aload_n 0, 1) := by decide +kernel
theorem dX7_told_46 : decode cX7_told 46 = .ok (.getfield 57, 3) := by decide +kernel
theorem dX7_told_49 : decode cX7_told 49 = .ok (.iload_n 1, 1) := by decide +kernel
theorem dX7_told_50 : decode cX7_told 50 = .ok (.iaload, 1) := by decide +kernel
theorem dX7_told_51 : decode cX7_told 51 = .ok (.ireturn, 1) := by decide +kernel
theorem dX7_take_0 : decode cX7_take 0 = .ok (.aload_n 0, 1) := by decide +kernel
theorem dX7_take_1 : decode cX7_take 1 = .ok (.iload_n 1, 1) := by decide +kernel
theorem dX7_take_2 : decode cX7_take 2 = .ok (.invokevirtual 216, 3) := by decide +kernel
theorem dX7_take_5 : decode cX7_take 5 = .ok (.ifCond .ne 5, 3) := by decide +kernel
theorem dX7_take_8 : decode cX7_take 8 = .ok (.iconst 0, 1) := by decide +kernel
theorem dX7_take_9 : decode cX7_take 9 = .ok (.ireturn, 1) := by decide +kernel
theorem dX7_take_10 : decode cX7_take 10 = .ok (.aload_n 0, 1) := by decide +kernel
theorem dX7_take_11 : decode cX7_take 11 = .ok (.getfield 60, 3) := by decide +kernel
theorem dX7_take_14 : decode cX7_take 14 = .ok (.iload_n 1, 1) := by decide +kernel
theorem dX7_take_15 : decode cX7_take 15 = .ok (.if_icmp .ne 20, 3) := by decide +kernel
theorem dX7_take_18 : decode cX7_take 18 = .ok (.aload_n 0, 1) := by decide +kernel
theorem dX7_take_19 : decode cX7_take 19 = .ok (.getfield 264, 3) := by decide +kernel
theorem dX7_take_22 : decode cX7_take 22 = .ok (.ifCond .eq 13, 3) := by decide +kernel
theorem dX7_take_25 : decode cX7_take 25 = .ok (.aload_n 0, 1) := by decide +kernel
theorem dX7_take_26 : decode cX7_take 26 = .ok (.getfield 264, 3) := by decide +kernel
theorem dX7_take_29 : decode cX7_take 29 = .ok (.sipush 800, 3) := by decide +kernel
theorem dX7_take_32 : decode cX7_take 32 = .ok (.if_icmp .le 5, 3) := by decide +kernel
theorem dX7_take_35 : decode cX7_take 35 = .ok (.iconst 0, 1) := by decide +kernel
theorem dX7_take_36 : decode cX7_take 36 = .ok (.ireturn, 1) := by decide +kernel
theorem dX7_take_37 : decode cX7_take 37 = .ok (.aload_n 0, 1) := by decide +kernel
theorem dX7_take_38 : decode cX7_take 38 = .ok (.getfield 24, 3) := by decide +kernel
theorem dX7_take_41 : decode cX7_take 41 = .ok (.bipush 12, 2) := by decide +kernel
theorem dX7_take_43 : decode cX7_take 43 = .ok (.aload_n 0, 1) := by decide +kernel
theorem dX7_take_44 : decode cX7_take 44 = .ok (.getfield 264, 3) := by decide +kernel
theorem dX7_take_47 : decode cX7_take 47 = .ok (.iastore, 1) := by decide +kernel
theorem dX7_take_48 : decode cX7_take 48 = .ok (.iconst 0, 1) := by decide +kernel
theorem dX7_take_49 : decode cX7_take 49 = .ok (.istore_n 2, 1) := by decide +kernel
theorem dX7_take_50 : decode cX7_take 50 = .ok (.iload_n 2, 1) := by decide +kernel
theorem dX7_take_51 : decode cX7_take 51 = .ok (.aload_n 0, 1) := by decide +kernel
theorem dX7_take_52 : decode cX7_take 52 = .ok (.getfield 264, 3) := by decide +kernel
theorem dX7_take_55 : decode cX7_take 55 = .ok (.if_icmp .ge 25, 3) := by decide +kernel
theorem dX7_take_58 : decode cX7_take 58 = .ok (.aload_n 0, 1) := by decide +kernel
theorem dX7_take_59 : decode cX7_take 59 = .ok (.getfield 21, 3) := by decide +kernel
theorem dX7_take_62 : decode cX7_take 62 = .ok (.sipush 9600, 3) := by decide +kernel
theorem dX7_take_65 : decode cX7_take 65 = .ok (.iload_n 2, 1) := by decide +kernel
theorem dX7_take_66 : decode cX7_take 66 = .ok (.iadd, 1) := by decide +kernel
theorem dX7_take_67 : decode cX7_take 67 = .ok (.aload_n 0, 1) := by decide +kernel
theorem dX7_take_68 : decode cX7_take 68 = .ok (.getfield 57, 3) := by decide +kernel
theorem dX7_take_71 : decode cX7_take 71 = .ok (.iload_n 2, 1) := by decide +kernel
theorem dX7_take_72 : decode cX7_take 72 = .ok (.iaload, 1) := by decide +kernel
theorem dX7_take_73 : decode cX7_take 73 = .ok (.iastore, 1) := by decide +kernel
theorem dX7_take_74 : decode cX7_take 74 = .ok (.iinc 2 1, 3) := by decide +kernel
theorem dX7_take_77 : decode cX7_take 77 = .ok (.goto (-27), 3) := by decide +kernel
theorem dX7_take_80 : decode cX7_take 80 = .ok (.aload_n 0, 1) := by decide +kernel
theorem dX7_take_81 : decode cX7_take 81 = .ok (.iconst (-1), 1) := by decide +kernel
theorem dX7_take_82 : decode cX7_take 82 = .ok (.putfield 60, 3) := by decide +kernel
theorem dX7_take_85 : decode cX7_take 85 = .ok (.aload_n 0, 1) := by decide +kernel
theorem dX7_take_86 : decode cX7_take 86 = .ok (.getfield 119, 3) := by decide +kernel
theorem dX7_take_89 : decode cX7_take 89 = .ok (.istore_n 2, 1) := by decide +kernel
theorem dX7_take_90 : decode cX7_take 90 = .ok (.aload_n 0, 1) := by decide +kernel
theorem dX7_take_91 : decode cX7_take 91 = .ok (.getfield 13, 3) := by decide +kernel
theorem dX7_take_94 : decode cX7_take 94 = .ok (.istore_n 3, 1) := by decide +kernel
theorem dX7_take_95 : decode cX7_take 95 = .ok (.aload_n 0, 1) := by decide +kernel
theorem dX7_take_96 : decode cX7_take 96 = .ok (.iload_n 1, 1) := by decide +kernel
theorem dX7_take_97 : decode cX7_take 97 = .ok (.aload_n 0, 1) := by decide +kernel
theorem dX7_take_98 : decode cX7_take 98 = .ok (.getfield 27, 3) := by decide +kernel
theorem dX7_take_101 : decode cX7_take 101 = .ok (.iload_n 1, 1) := by decide +kernel
theorem dX7_take_102 : decode cX7_take 102 = .ok (.iaload, 1) := by decide +kernel
theorem dX7_take_103 : decode cX7_take 103 = .ok (.invokevirtual 212, 3) := by decide +kernel
theorem dX7_take_106 : decode cX7_take 106 = .ok (.istore 4, 2) := by decide +kernel
theorem dX7_take_108 : decode cX7_take 108 = .ok (.aload_n 0, 1) := by decide +kernel
theorem dX7_take_109 : decode cX7_take 109 = .ok (.iload_n 2, 1) := by decide +kernel
theorem dX7_take_110 : decode cX7_take 110 = .ok (.putfield 119, 3) := by decide +kernel
theorem dX7_take_113 : decode cX7_take 113 = .ok (.aload_n 0, 1) := by decide +kernel
theorem dX7_take_114 : decode cX7_take 114 = .ok (.iload_n 3, 1) := by decide +kernel
theorem dX7_take_115 : decode cX7_take 115 = .ok (.putfield 13, 3) := by decide +kernel
theorem dX7_take_118 : decode cX7_take 118 = .ok (.iload 4, 2) := by decide +kernel
theorem dX7_take_120 : decode cX7_take 120 = .ok (.ireturn, 1) := by decide +kernel
theorem dX7_alike_0 : decode cX7_alike 0 = .ok (.aload_n 0, 1) := by decide +kernel
theorem dX7_alike_1 : decode cX7_alike 1 = .ok (.iload_n 1, 1) := by decide +kernel
theorem dX7_alike_2 : decode cX7_alike 2 = .ok (.invokevirtual 216, 3) := by decide +kernel
theorem dX7_alike_5 : decode cX7_alike 5 = .ok (.ifCond .eq 11, 3) := by decide +kernel
theorem dX7_alike_8 : decode cX7_alike 8 = .ok (.aload_n 0, 1) := by decide +kernel
theorem dX7_alike_9 : decode cX7_alike 9 = .ok (.iload_n 2, 1) := by decide +kernel
theorem dX7_alike_10 : decode cX7_alike 10 = .ok (.invokevirtual 216, 3) := by decide +kernel
theorem dX7_alike_13 : decode cX7_alike 13 = .ok (.ifCond .ne 5, 3) := by decide +kernel
theorem dX7_alike_16 : decode cX7_alike 16 = .ok (.iconst 0, 1) := by decide +kernel
theorem dX7_alike_17 : decode cX7_alike 17 = .ok (.ireturn, 1) := by decide +kernel
theorem dX7_alike_18 : decode cX7_alike 18 = .ok (.aload_n 0, 1) := by decide +kernel
theorem dX7_alike_19 : decode cX7_alike 19 = .ok (.getfield 30, 3) := by decide +kernel
theorem dX7_alike_22 : decode cX7_alike 22 = .ok (.iload_n 1, 1) := by decide +kernel
theorem dX7_alike_23 : decode cX7_alike 23 = .ok (.iaload, 1) := by decide +kernel
theorem dX7_alike_24 : decode cX7_alike 24 = .ok (.aload_n 0, 1) := by decide +kernel
theorem dX7_alike_25 : decode cX7_alike 25 = .ok (.getfield 30, 3) := by decide +kernel
theorem dX7_alike_28 : decode cX7_alike 28 = .ok (.iload_n 2, 1) := by decide +kernel
theorem dX7_alike_29 : decode cX7_alike 29 = .ok (.iaload, 1) := by decide +kernel
theorem dX7_alike_30 : decode cX7_alike 30 = .ok (.if_icmp .ne 7, 3) := by decide +kernel
theorem dX7_alike_33 : decode cX7_alike 33 = .ok (.iconst 1, 1) := by decide +kernel
theorem dX7_alike_34 : decode cX7_alike 34 = .ok (.goto 4, 3) := by decide +kernel
theorem dX7_alike_37 : decode cX7_alike 37 = .ok (.iconst 0, 1) := by decide +kernel
theorem dX7_alike_38 : decode cX7_alike 38 = .ok (.istore_n 3, 1) := by decide +kernel
theorem dX7_alike_39 : decode cX7_alike 39 = .ok (.iconst 0, 1) := by decide +kernel
theorem dX7_alike_40 : decode cX7_alike 40 = .ok (.istore 4, 2) := by decide +kernel
theorem dX7_alike_42 : decode cX7_alike 42 = .ok (.iload 4, 2) := by decide +kernel
theorem dX7_alike_44 : decode cX7_alike 44 = .ok (.aload_n 0, 1) := by decide +kernel
theorem dX7_alike_45 : decode cX7_alike 45 = .ok (.getfield 30, 3) := by decide +kernel
theorem dX7_alike_48 : decode cX7_alike 48 = .ok (.iload_n 1, 1) := by decide +kernel
theorem dX7_alike_49 : decode cX7_alike 49 = .ok (.iaload, 1) := by decide +kernel
theorem dX7_alike_50 : decode cX7_alike 50 = .ok (.if_icmp .ge 24, 3) := by decide +kernel
theorem dX7_alike_53 : decode cX7_alike 53 = .ok (.iload_n 3, 1) := by decide +kernel
theorem dX7_alike_54 : decode cX7_alike 54 = .ok (.ifCond .eq 20, 3) := by decide +kernel
theorem dX7_alike_57 : decode cX7_alike 57 = .ok (.aload_n 0, 1) := by decide +kernel
theorem dX7_alike_58 : decode cX7_alike 58 = .ok (.iload_n 1, 1) := by decide +kernel
theorem dX7_alike_59 : decode cX7_alike 59 = .ok (.iload 4, 2) := by decide +kernel
theorem dX7_alike_61 : decode cX7_alike 61 = .ok (.iload_n 2, 1) := by decide +kernel
theorem dX7_alike_62 : decode cX7_alike 62 = .ok (.iload 4, 2) := by decide +kernel
theorem dX7_alike_64 : decode cX7_alike 64 = .ok (.invokevirtual 296, 3) := by decide +kernel
theorem dX7_alike_67 : decode cX7_alike 67 = .ok (.istore_n 3, 1) := by decide +kernel
theorem dX7_alike_68 : decode cX7_alike 68 = .ok (.iinc 4 1, 3) := by decide +kernel
theorem dX7_alike_71 : decode cX7_alike 71 = .ok (.goto (-29), 3) := by decide +kernel
theorem dX7_alike_74 : decode cX7_alike 74 = .ok (.iload_n 3, 1) := by decide +kernel
theorem dX7_alike_75 : decode cX7_alike 75 = .ok (.ireturn, 1) := by decide +kernel
end
section
section JW
theorem jW0 : ∀ w ∈ u_ws RX0 TX0 8, w ∈ lw_tbl.filter goodWord := by
  have h : u_ws RX0 TX0 8 = [287, 289, 291, 293, 295, 297, 299, 301].filterMap (fun i => lw_tbl[i]?) := by decide +kernel
  have h2 : (u_ws RX0 TX0 8).all goodWord = true := by decide +kernel
  intro w hw
  refine List.mem_filter.mpr ⟨?_, List.all_eq_true.mp h2 w hw⟩
  rw [h] at hw
  obtain ⟨i, -, hi⟩ := List.mem_filterMap.mp hw
  exact List.mem_of_getElem? hi
theorem jW1 : ∀ w ∈ u_ws RX1 TX1 3, w ∈ lw_tbl.filter goodWord := by
  have h : u_ws RX1 TX1 3 = [247, 249, 251].filterMap (fun i => lw_tbl[i]?) := by decide +kernel
  have h2 : (u_ws RX1 TX1 3).all goodWord = true := by decide +kernel
  intro w hw
  refine List.mem_filter.mpr ⟨?_, List.all_eq_true.mp h2 w hw⟩
  rw [h] at hw
  obtain ⟨i, -, hi⟩ := List.mem_filterMap.mp hw
  exact List.mem_of_getElem? hi
theorem jW2 : ∀ w ∈ u_ws RX2 TX2 3, w ∈ lw_tbl.filter goodWord := by
  have h : u_ws RX2 TX2 3 = [228, 230, 232].filterMap (fun i => lw_tbl[i]?) := by decide +kernel
  have h2 : (u_ws RX2 TX2 3).all goodWord = true := by decide +kernel
  intro w hw
  refine List.mem_filter.mpr ⟨?_, List.all_eq_true.mp h2 w hw⟩
  rw [h] at hw
  obtain ⟨i, -, hi⟩ := List.mem_filterMap.mp hw
  exact List.mem_of_getElem? hi
theorem jW3 : ∀ w ∈ u_ws RX3 TX3 11, w ∈ lw_tbl.filter goodWord := by
  have h : u_ws RX3 TX3 11 = [189, 191, 193, 195, 197, 199, 201, 203, 205, 207, 209].filterMap (fun i => lw_tbl[i]?) := by decide +kernel
  have h2 : (u_ws RX3 TX3 11).all goodWord = true := by decide +kernel
  intro w hw
  refine List.mem_filter.mpr ⟨?_, List.all_eq_true.mp h2 w hw⟩
  rw [h] at hw
  obtain ⟨i, -, hi⟩ := List.mem_filterMap.mp hw
  exact List.mem_of_getElem? hi
theorem jW4 : ∀ w ∈ u_ws RX4 TX4 4, w ∈ lw_tbl.filter goodWord := by
  have h : u_ws RX4 TX4 4 = [263, 265, 267, 269].filterMap (fun i => lw_tbl[i]?) := by decide +kernel
  have h2 : (u_ws RX4 TX4 4).all goodWord = true := by decide +kernel
  intro w hw
  refine List.mem_filter.mpr ⟨?_, List.all_eq_true.mp h2 w hw⟩
  rw [h] at hw
  obtain ⟨i, -, hi⟩ := List.mem_filterMap.mp hw
  exact List.mem_of_getElem? hi
theorem jW5 : ∀ w ∈ u_ws RX5 TX5 13, w ∈ lw_tbl.filter goodWord := by
  have h : u_ws RX5 TX5 13 = [142, 144, 146, 148, 150, 152, 154, 156, 158, 160, 162, 164, 166].filterMap (fun i => lw_tbl[i]?) := by decide +kernel
  have h2 : (u_ws RX5 TX5 13).all goodWord = true := by decide +kernel
  intro w hw
  refine List.mem_filter.mpr ⟨?_, List.all_eq_true.mp h2 w hw⟩
  rw [h] at hw
  obtain ⟨i, -, hi⟩ := List.mem_filterMap.mp hw
  exact List.mem_of_getElem? hi
theorem jW6 : ∀ w ∈ u_ws RX6 TX6 17, w ∈ lw_tbl.filter goodWord := by
  have h : u_ws RX6 TX6 17 = [321, 323, 325, 327, 329, 331, 333, 335, 337, 339, 341, 343, 345, 347, 349, 351, 353].filterMap (fun i => lw_tbl[i]?) := by decide +kernel
  have h2 : (u_ws RX6 TX6 17).all goodWord = true := by decide +kernel
  intro w hw
  refine List.mem_filter.mpr ⟨?_, List.all_eq_true.mp h2 w hw⟩
  rw [h] at hw
  obtain ⟨i, -, hi⟩ := List.mem_filterMap.mp hw
  exact List.mem_of_getElem? hi
theorem jW7 : ∀ w ∈ u_ws RX7 TX7 36, w ∈ lw_tbl.filter goodWord := by
  have h : u_ws RX7 TX7 36 = [959, 961, 963, 965, 967, 969, 971, 973, 975, 977, 979, 981, 983, 985, 987, 989, 991, 993, 995, 997, 999, 1001, 1003, 1005, 1007, 1009, 1011, 1013, 1015, 1017, 1019, 1021, 1023, 1025, 1027, 1029].filterMap (fun i => lw_tbl[i]?) := by decide +kernel
  have h2 : (u_ws RX7 TX7 36).all goodWord = true := by decide +kernel
  intro w hw
  refine List.mem_filter.mpr ⟨?_, List.all_eq_true.mp h2 w hw⟩
  rw [h] at hw
  obtain ⟨i, -, hi⟩ := List.mem_filterMap.mp hw
  exact List.mem_of_getElem? hi
end JW
end
section
/-! The judgement of the proofs: numbers are whole numbers in range, references are addresses, the memory is two functions of (address, place). -/
section JFA
abbrev jV : Type := Int ⊕ (Option Nat ⊕ Int)
abbrev jI : Type := Nat → Nat → Int
abbrev jP : Type := Nat → Nat → Option Nat
abbrev ji (n : Int) : jV := .inl n
abbrev jq (r : Option Nat) : jV := .inr (.inl r)
abbrev jp (a : Nat) : jV := .inr (.inl (some a))
abbrev jlo (n : Int) : jV := .inr (.inr n)
def jc (v : jV) : Value := match v with
  | .inl n => .int (Int32.ofInt n)
  | .inr (.inl r) => va_rf r
  | .inr (.inr n) => .long (Int64.ofInt n)
abbrev jR (n : Int) : Prop := -2147483648 ≤ n ∧ n ≤ 2147483647
def jRv (v : jV) : Prop := match v with
  | .inl n => jR n
  | .inr (.inl _) => True
  | .inr (.inr n) => jR n
def jRs : List jV → Prop
  | [] => True
  | v :: t => jRv v ∧ jRs t
def jRl (ls : List (Option jV)) : Prop := ∀ (i : Nat) (v : jV), ls[i]? = some (some v) → jRv v
def jRI (I : jI) : Prop := ∀ a k, jR (I a k)
def jput (I : jI) (a k : Nat) (v : Int) : jI := fun b j => if b = a ∧ j = k then v else I b j
def jputP (P : jP) (a k : Nat) (v : Option Nat) : jP := fun b j => if b = a ∧ j = k then v else P b j
abbrev jE : Type := Launch × Nat × va_G × (Nat → ClassId) × List Nat × (Nat → Nat) × (Nat → Nat) × (Nat → Nat) × (Nat → Nat)
def eX (E : jE) : Launch := E.1
def eZ (E : jE) : Nat := E.2.1
def eD (E : jE) : va_G := E.2.2.1
def eCy (E : jE) : Nat → ClassId := E.2.2.2.1
def eL (E : jE) : List Nat := E.2.2.2.2.1
def eK (E : jE) : Nat → Nat := E.2.2.2.2.2.1
def eN (E : jE) : Nat → Nat := E.2.2.2.2.2.2.1
def eSk (E : jE) : Nat → Nat := E.2.2.2.2.2.2.2.1
def eSv (E : jE) : Nat → Nat := E.2.2.2.2.2.2.2.2
def jA (E : jE) : Nat → Prop := fun q => eZ E ≤ q
def jTy (ci : Nat) : Nat → FieldType := match ci with
  | 0 => tyX0
  | 1 => tyX1
  | 2 => tyX2
  | 3 => tyX3
  | 4 => tyX4
  | 5 => tyX5
  | 6 => tyX6
  | _ => tyX7
def jIsR (t : FieldType) : Bool := match t with
  | .object _ => true
  | .array _ => true
  | _ => false
def jNF (ci : Nat) : Nat := match ci with
  | 0 => 8
  | 1 => 3
  | 2 => 3
  | 3 => 11
  | 4 => 4
  | 5 => 13
  | 6 => 17
  | _ => 36
def jFv (ci a : Nat) (I : jI) (P : jP) (k : Nat) : Value := if jIsR (jTy ci k) = true then va_rf (P a k) else .int (Int32.ofInt (I a k))
def jFs (ci a : Nat) (I : jI) (P : jP) : List Value := (List.range (jNF ci)).map (jFv ci a I P)
def jCell (E : jE) (I : jI) (P : jP) (a : Nat) : va_E :=
  if eK E a < 8 then .inr (eK E a, jFs (eK E a) a I P)
  else if eK E a < 11 then .inl (eCy E (eK E a), eN E a, .inl (fun j => Int32.ofInt (I a j)))
  else if eK E a < 14 then .inl (eCy E (eK E a), eN E a, .inr (.inr (.inr (.inr (fun j => P a j)))))
  else .inl (eCy E (eK E a), eN E a, .inr (.inl (fun j => Int64.ofInt (I a j))))
def jTys (E : jE) : List (ClassId × FieldType) := [(eCy E 8, .byte), (eCy E 9, .int), (eCy E 10, .boolean), (eCy E 11, .object RX0), (eCy E 12, .object RX4), (eCy E 13, .object RX5), (eCy E 14, .long)]
def jPool (E : jE) (I : jI) (P : jP) : va_W := va_pl (eL E) (jCell E I P)
def jHp (E : jE) (I : jI) (P : jP) (H : Heap) : Prop := va_P (eD E) vwCl (jPool E I P) H ∧ va_D (jA E) (jPool E I P) ∧ jRI I
def jT : List Cond := lw_tbl.filter goodWord
def jNst (w : Cond) : Bool := match w with
  | .fieldLinkNest _ _ _ _ _ _ => true
  | .methodLinkNest _ _ _ _ => true
  | _ => false
/-- the texts of the constants, by their numbers -/
def jTx : List String := ["if", "else", "while", "call", "=+-<(){},;", "{", "(", "}", ")", "+", "-", "<", ",", ";", "="]
def jSLen : List Nat := [2, 4, 5, 4, 10, 1, 1, 1, 1, 1, 1, 1, 1, 1, 1]
def jSB : List (List Int32) := [[105, 102], [101, 108, 115, 101], [119, 104, 105, 108, 101], [99, 97, 108, 108], [61, 43, 45, 60, 40, 41, 123, 125, 44, 59], [123], [40], [125], [41], [43], [45], [60], [44], [59], [61]]
/-- class, entry, number of its text -/
def jSR : List (String × Nat × Nat) := [(RX6, 261, 0), (RX6, 267, 1), (RX6, 269, 2), (RX6, 271, 3), (RX7, 130, 0), (RX7, 136, 1), (RX7, 138, 2), (RX7, 140, 3), (RX7, 111, 4), (RX7, 149, 5), (RX7, 151, 6), (RX7, 156, 7), (RX7, 161, 8), (RX7, 182, 9), (RX7, 184, 10), (RX7, 186, 11), (RX7, 194, 12), (RX7, 196, 13), (RX7, 203, 14)]
/-- what stands beside the pool, and no call changes -/
def jX (E : jE) (U : State) (H : Heap) : Prop :=
  (∀ w ∈ lw_tbl, jNst w = true → va_Nw w U) ∧
  (vk_S 15 jSLen jSB (eSk E) (eSv E) (jA E) U H ∧ ∀ q ∈ jSR, vk_R q.1 q.2.1 (jTx.getD q.2.2 "") (eSk E q.2.2) U) ∧
  va_Z "java/lang/String" "COMPACT_STRINGS" "Z" (.int 1) (jA E) U H ∧
  vx_Zq Bundle.tN "UNASSIGNED_STACK" Bundle.steD (jA E) U H ∧ vx_Zq Bundle.tN "SUPPRESSED_SENTINEL" Bundle.listD (jA E) U H
def jWld (E : jE) (I : jI) (P : jP) (U : State) : Prop := eZ E ≤ U.heap.size ∧ jHp E I P U.heap ∧ va_K (eD E) vwCl (jTys E) U ∧ jX E U U.heap
def jLl (ls : List (Option jV)) : List (Nat × Value) := (List.range ls.length).filterMap (fun i => (ls.getD i none).map (fun v => (i, jc v)))
def jLoc (la : Array Slot) (nL : Nat) (ls : List (Option jV)) : Prop := lv_has la nL (jLl ls) ∧ ls.length = nL ∧ ∀ (i : Nat) (v : jV), ls[i]? = some (some v) → (jc v).category = 1
def jCtx (E : jE) (own : String) (cc : ByteArray) (nL : Nat) (rt : Option FieldType) (p : Program) (s : State) (m : MethodId) (args : Array Value) (meth : Method) (c : Code) : Prop :=
  p.tables.exec = Jvm.exec ∧ c.code = cc ∧ meth.sig.returnType = rt ∧ c.maxLocals = nL ∧ s.vm.findClass own = some m.cls ∧ (∀ w ∈ jT, w.before args s = true) ∧ meth.locks = false ∧ va_K (eD E) vwCl (jTys E) s ∧ jX E s s.heap ∧ eZ E ≤ s.heap.size
/-- the machine, at pc of a method of E's system, with these locals, this stack, this memory, comes to an end that Z names -/
def jJ (E : jE) (own : String) (cc : ByteArray) (nL : Nat) (rt : Option FieldType) (R : Room) (Z : Code → List Frame → Array Value → State → State → Prop) (cells slots pc : Nat) (ls : List (Option jV)) (st : List jV) (I : jI) (P : jP) : Prop :=
  ∀ (p : Program) (e : Env) (s : State) (m : MethodId) (args : Array Value) (below : List Frame) (meth : Method) (c : Code) (H : Heap) (locs : List Loc) (la : Array Slot),
    jCtx E own cc nL rt p s m args meth c → jHp E I P H → va_S (jA E) s.heap H locs → jLoc la nL ls → jRl ls → jRs st →
    W p (eX E) e R s m args below meth c H locs cells slots (Z c below args s) (F0 m pc la (st.map jc))
end JFA
section JFB
theorem j32 {n : Int} (h : jR n) : (Int32.ofInt n).toInt = n := Int32.toInt_ofInt_of_le (by have := h.1; omega) (by have := h.2; omega)
theorem jR32 (x : Int32) : jR x.toInt := ⟨by have := x.le_toInt; omega, by have := x.toInt_lt; omega⟩
theorem j32_lt {a b : Int} (ha : jR a) (hb : jR b) : Int32.ofInt a < Int32.ofInt b ↔ a < b := by rw [Int32.lt_iff_toInt_lt, j32 ha, j32 hb]
theorem j32_le {a b : Int} (ha : jR a) (hb : jR b) : Int32.ofInt a ≤ Int32.ofInt b ↔ a ≤ b := by rw [Int32.le_iff_toInt_le, j32 ha, j32 hb]
theorem j32_eq {a b : Int} (ha : jR a) (hb : jR b) : Int32.ofInt a = Int32.ofInt b ↔ a = b := by rw [← Int32.toInt_inj, j32 ha, j32 hb]
theorem j32_0 : Int32.ofInt 0 = 0 := by decide
theorem jR0 : jR 0 := ⟨by decide, by decide⟩
theorem j32_lt0 {a : Int} (ha : jR a) : Int32.ofInt a < 0 ↔ a < 0 := by rw [← j32_0]; exact j32_lt ha jR0
theorem j32_le0 {a : Int} (ha : jR a) : Int32.ofInt a ≤ 0 ↔ a ≤ 0 := by rw [← j32_0]; exact j32_le ha jR0
theorem j32_0le {a : Int} (ha : jR a) : 0 ≤ Int32.ofInt a ↔ 0 ≤ a := by rw [← j32_0]; exact j32_le jR0 ha
theorem j32_0lt {a : Int} (ha : jR a) : 0 < Int32.ofInt a ↔ 0 < a := by rw [← j32_0]; exact j32_lt jR0 ha
theorem j32_eq0 {a : Int} (ha : jR a) : Int32.ofInt a = 0 ↔ a = 0 := by rw [← j32_0]; exact j32_eq ha jR0
theorem j32_clamp {a : Int} (ha : jR a) (h0 : 0 ≤ a) : (Int32.ofInt a).toNatClampNeg = a.toNat := by
  show (Int32.ofInt a).toInt.toNat = a.toNat
  rw [j32 ha]
theorem jin {a : Int} {n : Nat} (ha : jR a) (h0 : 0 ≤ a) (h1 : a < n) : vp_in (Int32.ofInt a) n := by
  rw [vp_in_iff, j32 ha]; exact ⟨h0, h1⟩
theorem jput_s (I : jI) (a k : Nat) (v : Int) : jput I a k v a k = v := by simp [jput]
theorem jput_a (I : jI) {a b k j : Nat} {v : Int} (h : b ≠ a) : jput I a k v b j = I b j := by simp [jput, h]
theorem jput_k (I : jI) {a b k j : Nat} {v : Int} (h : j ≠ k) : jput I a k v b j = I b j := by simp [jput, h]
theorem jRI_put {I : jI} {a k : Nat} {v : Int} (h : jRI I) (hv : jR v) : jRI (jput I a k v) := by
  intro b j
  unfold jput
  split
  · exact hv
  · exact h b j
theorem jLl_mem {ls : List (Option jV)} {j : Nat} {w : Value} : (j, w) ∈ jLl ls ↔ ∃ v, ls[j]? = some (some v) ∧ w = jc v := by
  unfold jLl
  simp only [List.mem_filterMap, List.mem_range, Option.map_eq_some_iff, List.getD_eq_getElem?_getD]
  constructor
  · rintro ⟨i, hi, v, h1, h2⟩
    cases h2
    refine ⟨v, ?_, rfl⟩
    rw [List.getElem?_eq_getElem hi] at h1 ⊢
    simpa using h1
  · rintro ⟨v, h1, rfl⟩
    have hj := (List.getElem?_eq_some_iff.mp h1).1
    exact ⟨j, hj, v, by rw [h1]; rfl, rfl⟩
theorem jLoc.at {la : Array Slot} {nL : Nat} {ls : List (Option jV)} (h : jLoc la nL ls) {i : Nat} {v : jV} (hi : ls[i]? = some (some v)) : la[i]? = some (.val (jc v)) := h.1.2.2 (i, jc v) (jLl_mem.mpr ⟨v, hi, rfl⟩)
theorem jLoc.size {la : Array Slot} {nL : Nat} {ls : List (Option jV)} (h : jLoc la nL ls) : la.size = nL := h.1.1
theorem jLoc.set {la la' : Array Slot} {nL : Nat} {ls : List (Option jV)} {i : Nat} {v : jV} (h : jLoc la nL ls) (hv : (jc v).category = 1)
    (h2 : lv_has la' nL ((i, jc v) :: (jLl ls).filter (fun q => !(q.1 == i) && !(q.1 + 1 == i && q.2.category == 2)))) : jLoc la' nL (ls.set i (some v)) := by
  refine ⟨⟨h2.1, h2.2.1, ?_⟩, by rw [List.length_set]; exact h.2.1, ?_⟩
  · rintro ⟨j, w⟩ hq
    obtain ⟨u, h3, rfl⟩ := jLl_mem.mp hq
    by_cases hj : i = j
    · subst hj
      have hl := (List.getElem?_eq_some_iff.mp h3).1
      rw [List.length_set] at hl
      rw [List.getElem?_set_self hl] at h3
      cases h3
      exact h2.2.2 _ List.mem_cons_self
    · rw [List.getElem?_set_ne hj] at h3
      refine h2.2.2 _ (List.mem_cons_of_mem _ (List.mem_filter.mpr ⟨jLl_mem.mpr ⟨u, h3, rfl⟩, ?_⟩))
      have hc := h.2.2 j u h3
      simp [hc, Ne.symm hj]
  · intro j u h3
    by_cases hj : i = j
    · subst hj
      have hl := (List.getElem?_eq_some_iff.mp h3).1
      rw [List.length_set] at hl
      rw [List.getElem?_set_self hl] at h3
      cases h3
      exact hv
    · rw [List.getElem?_set_ne hj] at h3
      exact h.2.2 j u h3
theorem jRl.set {ls : List (Option jV)} {i : Nat} {v : jV} (h : jRl ls) (hv : jRv v) : jRl (ls.set i (some v)) := by
  intro j u h3
  by_cases hj : i = j
  · subst hj
    have hl := (List.getElem?_eq_some_iff.mp h3).1
    rw [List.length_set] at hl
    rw [List.getElem?_set_self hl] at h3
    cases h3
    exact hv
  · rw [List.getElem?_set_ne hj] at h3
    exact h j u h3
end JFB
end
section
section JFR
variable {E : jE} {own : String} {cc : ByteArray} {nL : Nat} {rt : Option FieldType} {R : Room} {Z : Code → List Frame → Array Value → State → State → Prop} {cs ss pc : Nat} {ls : List (Option jV)} {st : List jV} {I : jI} {P : jP}
theorem jJ_iconst {n : Int} (hd : decode cc pc = .ok (.iconst n, 1)) (hn : jR n) (k : jJ E own cc nL rt R Z cs ss (pc + 1) (ls) (ji n :: st) (I) (P)) : jJ E own cc nL rt R Z cs ss (pc) (ls) (st) (I) (P) := by
  intro p e s m args below meth c H locs la hc hH hS hl h1 h2
  exact lv_iconst hc.1 hc.2.1 hd rfl (k p e s m args below meth c H locs la hc hH hS hl h1 ⟨hn, h2⟩)
theorem jJ_bipush {n : Int} (hd : decode cc pc = .ok (.bipush n, 2)) (hn : (Int8.ofInt n).toInt32 = Int32.ofInt n ∧ jR n) (k : jJ E own cc nL rt R Z cs ss (pc + 2) (ls) (ji n :: st) (I) (P)) : jJ E own cc nL rt R Z cs ss (pc) (ls) (st) (I) (P) := by
  intro p e s m args below meth c H locs la hc hH hS hl h1 h2
  exact lv_bipush hc.1 hc.2.1 hd hn.1 (k p e s m args below meth c H locs la hc hH hS hl h1 ⟨hn.2, h2⟩)
theorem jJ_sipush {n : Int} (hd : decode cc pc = .ok (.sipush n, 3)) (hn : (Int16.ofInt n).toInt32 = Int32.ofInt n ∧ jR n) (k : jJ E own cc nL rt R Z cs ss (pc + 3) (ls) (ji n :: st) (I) (P)) : jJ E own cc nL rt R Z cs ss (pc) (ls) (st) (I) (P) := by
  intro p e s m args below meth c H locs la hc hH hS hl h1 h2
  exact lv_sipush hc.1 hc.2.1 hd hn.1 (k p e s m args below meth c H locs la hc hH hS hl h1 ⟨hn.2, h2⟩)
theorem jJ_ldc {idx : Nat} {n : Int} (hd : decode cc pc = .ok (.ldc idx, 2)) (hn : Cond.constant own idx (Int32.ofInt n) ∈ jT ∧ jR n) (k : jJ E own cc nL rt R Z cs ss (pc + 2) (ls) (ji n :: st) (I) (P)) : jJ E own cc nL rt R Z cs ss (pc) (ls) (st) (I) (P) := by
  intro p e s m args below meth c H locs la hc hH hS hl h1 h2
  exact lv_ldc hc.1 hc.2.1 hc.2.2.2.2.1 (hc.2.2.2.2.2.1 _ hn.1) hd (k p e s m args below meth c H locs la hc hH hS hl h1 ⟨hn.2, h2⟩)
theorem jJ_ldcS {idx i : Nat} (hd : decode cc pc = .ok (.ldc idx, 2)) (hn : (own, idx, i) ∈ jSR) (k : jJ E own cc nL rt R Z cs ss (pc + 2) (ls) (jp (eSk E i) :: st) (I) (P)) : jJ E own cc nL rt R Z cs ss (pc) (ls) (st) (I) (P) := by
  intro p e s m args below meth c H locs la hc hH hS hl h1 h2
  exact va_ldcS hc.1 hc.2.1 hc.2.2.2.2.1 (hc.2.2.2.2.2.2.2.2.1.2.1.2 _ hn) hd (k p e s m args below meth c H locs la hc hH hS hl h1 ⟨trivial, h2⟩)
theorem jJ_iload_n {k : Fin 4} {x : Int} (hd : decode cc pc = .ok (.iload_n k, 1)) (hx : ls[(k : Nat)]? = some (some (ji x))) (kk : jJ E own cc nL rt R Z cs ss (pc + 1) (ls) (ji x :: st) (I) (P)) : jJ E own cc nL rt R Z cs ss (pc) (ls) (st) (I) (P) := by
  intro p e s m args below meth c H locs la hc hH hS hl h1 h2
  exact lv_iload_n hc.1 hc.2.1 hd rfl (hl.at hx) (kk p e s m args below meth c H locs la hc hH hS hl h1 ⟨h1 _ _ hx, h2⟩)
theorem jJ_iload {k : Nat} {x : Int} (hd : decode cc pc = .ok (.iload k, 2)) (hx : ls[k]? = some (some (ji x))) (kk : jJ E own cc nL rt R Z cs ss (pc + 2) (ls) (ji x :: st) (I) (P)) : jJ E own cc nL rt R Z cs ss (pc) (ls) (st) (I) (P) := by
  intro p e s m args below meth c H locs la hc hH hS hl h1 h2
  exact lv_iload hc.1 hc.2.1 hd (hl.at hx) (kk p e s m args below meth c H locs la hc hH hS hl h1 ⟨h1 _ _ hx, h2⟩)
theorem jJ_aload_n {k : Fin 4} {x : Nat} (hd : decode cc pc = .ok (.aload_n k, 1)) (hx : ls[(k : Nat)]? = some (some (jp x))) (kk : jJ E own cc nL rt R Z cs ss (pc + 1) (ls) (jp x :: st) (I) (P)) : jJ E own cc nL rt R Z cs ss (pc) (ls) (st) (I) (P) := by
  intro p e s m args below meth c H locs la hc hH hS hl h1 h2
  exact lv_aload_n hc.1 hc.2.1 hd rfl (hl.at hx) (kk p e s m args below meth c H locs la hc hH hS hl h1 ⟨h1 _ _ hx, h2⟩)
theorem jJ_aload {k : Nat} {x : Nat} (hd : decode cc pc = .ok (.aload k, 2)) (hx : ls[k]? = some (some (jp x))) (kk : jJ E own cc nL rt R Z cs ss (pc + 2) (ls) (jp x :: st) (I) (P)) : jJ E own cc nL rt R Z cs ss (pc) (ls) (st) (I) (P) := by
  intro p e s m args below meth c H locs la hc hH hS hl h1 h2
  exact lv_aload hc.1 hc.2.1 hd (hl.at hx) (kk p e s m args below meth c H locs la hc hH hS hl h1 ⟨h1 _ _ hx, h2⟩)
theorem jJ_istore_n {k : Fin 4} {x : Int} {ls' : List (Option jV)} (hd : decode cc pc = .ok (.istore_n k, 1)) (hk : (k : Nat) < ls.length) (hx : ls.set (k : Nat) (some (ji x)) = ls') (kk : jJ E own cc nL rt R Z cs ss (pc + 1) (ls') (st) (I) (P)) : jJ E own cc nL rt R Z cs ss (pc) (ls) (ji x :: st) (I) (P) := by
  intro p e s m args below meth c H locs la hc hH hS hl h1 h2
  subst hx
  exact lv_istore_n hc.1 hc.2.1 hd rfl hl.1 (by rw [← hl.2.1]; exact hk) rfl (fun la2 hl2 => kk p e s m args below meth c H locs la2 hc hH hS (hl.set rfl hl2) (h1.set h2.1) h2.2)
theorem jJ_istore {k : Nat} {x : Int} {ls' : List (Option jV)} (hd : decode cc pc = .ok (.istore k, 2)) (hk : k < ls.length) (hx : ls.set k (some (ji x)) = ls') (kk : jJ E own cc nL rt R Z cs ss (pc + 2) (ls') (st) (I) (P)) : jJ E own cc nL rt R Z cs ss (pc) (ls) (ji x :: st) (I) (P) := by
  intro p e s m args below meth c H locs la hc hH hS hl h1 h2
  subst hx
  exact lv_istore hc.1 hc.2.1 hd hl.1 (by rw [← hl.2.1]; exact hk) rfl (fun la2 hl2 => kk p e s m args below meth c H locs la2 hc hH hS (hl.set rfl hl2) (h1.set h2.1) h2.2)
theorem jJ_astore_n {k : Fin 4} {x : Nat} {ls' : List (Option jV)} (hd : decode cc pc = .ok (.astore_n k, 1)) (hk : (k : Nat) < ls.length) (hx : ls.set (k : Nat) (some (jp x)) = ls') (kk : jJ E own cc nL rt R Z cs ss (pc + 1) (ls') (st) (I) (P)) : jJ E own cc nL rt R Z cs ss (pc) (ls) (jp x :: st) (I) (P) := by
  intro p e s m args below meth c H locs la hc hH hS hl h1 h2
  subst hx
  exact lv_astore_n hc.1 hc.2.1 hd rfl hl.1 (by rw [← hl.2.1]; exact hk) rfl (fun la2 hl2 => kk p e s m args below meth c H locs la2 hc hH hS (hl.set rfl hl2) (h1.set h2.1) h2.2)
theorem jJ_astore {k : Nat} {x : Nat} {ls' : List (Option jV)} (hd : decode cc pc = .ok (.astore k, 2)) (hk : k < ls.length) (hx : ls.set k (some (jp x)) = ls') (kk : jJ E own cc nL rt R Z cs ss (pc + 2) (ls') (st) (I) (P)) : jJ E own cc nL rt R Z cs ss (pc) (ls) (jp x :: st) (I) (P) := by
  intro p e s m args below meth c H locs la hc hH hS hl h1 h2
  subst hx
  exact lv_astore hc.1 hc.2.1 hd hl.1 (by rw [← hl.2.1]; exact hk) rfl (fun la2 hl2 => kk p e s m args below meth c H locs la2 hc hH hS (hl.set rfl hl2) (h1.set h2.1) h2.2)
theorem jJ_iinc {k : Nat} {n x : Int} {ls' : List (Option jV)} (hd : decode cc pc = .ok (.iinc k n, 3)) (hx : ls[k]? = some (some (ji x))) (hr : jR (x + n)) (hs : ls.set k (some (ji (x + n))) = ls') (kk : jJ E own cc nL rt R Z cs ss (pc + 3) (ls') (st) (I) (P)) : jJ E own cc nL rt R Z cs ss (pc) (ls) (st) (I) (P) := by
  intro p e s m args below meth c H locs la hc hH hS hl h1 h2
  subst hs
  obtain ⟨j, hj⟩ := List.getElem?_of_mem (jLl_mem.mpr ⟨_, hx, rfl⟩)
  exact lv_iinc hc.1 hc.2.1 hd hl.1 (k := j) hj (Int32.ofInt_add x n).symm (by rw [← hl.2.1]; exact (List.getElem?_eq_some_iff.mp hx).1) rfl (fun la2 hl2 => kk p e s m args below meth c H locs la2 hc hH hS (hl.set (v := ji (x + n)) rfl hl2) (h1.set hr) h2)
theorem jJ_dup {v : jV} (hd : decode cc pc = .ok (.dup, 1)) (hv : (jc v).category = 1) (k : jJ E own cc nL rt R Z cs ss (pc + 1) (ls) (v :: v :: st) (I) (P)) : jJ E own cc nL rt R Z cs ss (pc) (ls) (v :: st) (I) (P) := by
  intro p e s m args below meth c H locs la hc hH hS hl h1 h2
  exact lv_dup hc.1 hc.2.1 hd hv (k p e s m args below meth c H locs la hc hH hS hl h1 ⟨h2.1, h2.1, h2.2⟩)
theorem jJ_dup2 {v w : jV} (hd : decode cc pc = .ok (.dup2, 1)) (hv : (jc v).category = 1) (hw : (jc w).category = 1) (k : jJ E own cc nL rt R Z cs ss (pc + 1) (ls) (v :: w :: v :: w :: st) (I) (P)) : jJ E own cc nL rt R Z cs ss (pc) (ls) (v :: w :: st) (I) (P) := by
  intro p e s m args below meth c H locs la hc hH hS hl h1 h2
  exact lv_dup2_11 hc.1 hc.2.1 hd hv hw (k p e s m args below meth c H locs la hc hH hS hl h1 ⟨h2.1, h2.2.1, h2.1, h2.2.1, h2.2.2⟩)
theorem jJ_pop {v : jV} (hd : decode cc pc = .ok (.pop, 1)) (hv : (jc v).category = 1) (k : jJ E own cc nL rt R Z cs ss (pc + 1) (ls) (st) (I) (P)) : jJ E own cc nL rt R Z cs ss (pc) (ls) (v :: st) (I) (P) := by
  intro p e s m args below meth c H locs la hc hH hS hl h1 h2
  exact lv_pop hc.1 hc.2.1 hd hv (k p e s m args below meth c H locs la hc hH hS hl h1 h2.2)
theorem jJ_iadd {x y : Int} (hd : decode cc pc = .ok (.iadd, 1)) (hr : jR (x + y)) (k : jJ E own cc nL rt R Z cs ss (pc + 1) (ls) (ji (x + y) :: st) (I) (P)) : jJ E own cc nL rt R Z cs ss (pc) (ls) (ji y :: ji x :: st) (I) (P) := by
  intro p e s m args below meth c H locs la hc hH hS hl h1 h2
  refine lv_iadd hc.1 hc.2.1 hd ?_
  rw [← Int32.ofInt_add]
  exact k p e s m args below meth c H locs la hc hH hS hl h1 ⟨hr, h2.2.2⟩
theorem jJ_isub {x y : Int} (hd : decode cc pc = .ok (.isub, 1)) (hr : jR (x - y)) (k : jJ E own cc nL rt R Z cs ss (pc + 1) (ls) (ji (x - y) :: st) (I) (P)) : jJ E own cc nL rt R Z cs ss (pc) (ls) (ji y :: ji x :: st) (I) (P) := by
  intro p e s m args below meth c H locs la hc hH hS hl h1 h2
  refine lv_isub hc.1 hc.2.1 hd ?_
  rw [← Int32.ofInt_sub]
  exact k p e s m args below meth c H locs la hc hH hS hl h1 ⟨hr, h2.2.2⟩
theorem jJ_imul {x y : Int} (hd : decode cc pc = .ok (.imul, 1)) (hr : jR (x * y)) (k : jJ E own cc nL rt R Z cs ss (pc + 1) (ls) (ji (x * y) :: st) (I) (P)) : jJ E own cc nL rt R Z cs ss (pc) (ls) (ji y :: ji x :: st) (I) (P) := by
  intro p e s m args below meth c H locs la hc hH hS hl h1 h2
  refine lv_imul hc.1 hc.2.1 hd ?_
  rw [← Int32.ofInt_mul]
  exact k p e s m args below meth c H locs la hc hH hS hl h1 ⟨hr, h2.2.2⟩
def jAnd (x y : Int) : Int := (Int32.ofInt x &&& Int32.ofInt y).toInt
theorem jJ_iand {x y : Int} (hd : decode cc pc = .ok (.iand, 1)) (k : jJ E own cc nL rt R Z cs ss (pc + 1) (ls) (ji (jAnd x y) :: st) (I) (P)) : jJ E own cc nL rt R Z cs ss (pc) (ls) (ji y :: ji x :: st) (I) (P) := by
  intro p e s m args below meth c H locs la hc hH hS hl h1 h2
  refine lv_iand hc.1 hc.2.1 hd ?_
  have h := k p e s m args below meth c H locs la hc hH hS hl h1 ⟨jR32 _, h2.2.2⟩
  have e1 : jc (ji (jAnd x y)) = .int (Int32.ofInt x &&& Int32.ofInt y) := congrArg Value.int (Int32.ofInt_toInt _)
  rw [List.map_cons, e1] at h
  exact h
def jOr (x y : Int) : Int := (Int32.ofInt x ||| Int32.ofInt y).toInt
theorem jJ_ior {x y : Int} (hd : decode cc pc = .ok (.ior, 1)) (k : jJ E own cc nL rt R Z cs ss (pc + 1) (ls) (ji (jOr x y) :: st) (I) (P)) : jJ E own cc nL rt R Z cs ss (pc) (ls) (ji y :: ji x :: st) (I) (P) := by
  intro p e s m args below meth c H locs la hc hH hS hl h1 h2
  refine lv_ior hc.1 hc.2.1 hd ?_
  have h := k p e s m args below meth c H locs la hc hH hS hl h1 ⟨jR32 _, h2.2.2⟩
  have e1 : jc (ji (jOr x y)) = .int (Int32.ofInt x ||| Int32.ofInt y) := congrArg Value.int (Int32.ofInt_toInt _)
  rw [List.map_cons, e1] at h
  exact h
def jShl (x y : Int) : Int := (Int32.ofInt x <<< (Int32.ofInt y &&& 31)).toInt
theorem jJ_ishl {x y : Int} (hd : decode cc pc = .ok (.ishl, 1)) (k : jJ E own cc nL rt R Z cs ss (pc + 1) (ls) (ji (jShl x y) :: st) (I) (P)) : jJ E own cc nL rt R Z cs ss (pc) (ls) (ji y :: ji x :: st) (I) (P) := by
  intro p e s m args below meth c H locs la hc hH hS hl h1 h2
  refine lv_ishl hc.1 hc.2.1 hd ?_
  have h := k p e s m args below meth c H locs la hc hH hS hl h1 ⟨jR32 _, h2.2.2⟩
  have e1 : jc (ji (jShl x y)) = .int (Int32.ofInt x <<< (Int32.ofInt y &&& 31)) := congrArg Value.int (Int32.ofInt_toInt _)
  rw [List.map_cons, e1] at h
  exact h
def jShr (x y : Int) : Int := (Int32.ofInt x >>> (Int32.ofInt y &&& 31)).toInt
theorem jJ_ishr {x y : Int} (hd : decode cc pc = .ok (.ishr, 1)) (k : jJ E own cc nL rt R Z cs ss (pc + 1) (ls) (ji (jShr x y) :: st) (I) (P)) : jJ E own cc nL rt R Z cs ss (pc) (ls) (ji y :: ji x :: st) (I) (P) := by
  intro p e s m args below meth c H locs la hc hH hS hl h1 h2
  refine lv_ishr hc.1 hc.2.1 hd ?_
  have h := k p e s m args below meth c H locs la hc hH hS hl h1 ⟨jR32 _, h2.2.2⟩
  have e1 : jc (ji (jShr x y)) = .int (Int32.ofInt x >>> (Int32.ofInt y &&& 31)) := congrArg Value.int (Int32.ofInt_toInt _)
  rw [List.map_cons, e1] at h
  exact h
def jB (x : Int) : Int := ((Int32.ofInt x).toInt8.toInt32).toInt
theorem jJ_i2b {x : Int} (hd : decode cc pc = .ok (.i2b, 1)) (k : jJ E own cc nL rt R Z cs ss (pc + 1) (ls) (ji (jB x) :: st) (I) (P)) : jJ E own cc nL rt R Z cs ss (pc) (ls) (ji x :: st) (I) (P) := by
  intro p e s m args below meth c H locs la hc hH hS hl h1 h2
  refine lv_i2b hc.1 hc.2.1 hd rfl ?_
  have h := k p e s m args below meth c H locs la hc hH hS hl h1 ⟨jR32 _, h2.2⟩
  have e1 : jc (ji (jB x)) = .int ((Int32.ofInt x).toInt8.toInt32) := congrArg Value.int (Int32.ofInt_toInt _)
  rw [List.map_cons, e1] at h
  exact h
theorem jJ_if_eq {x : Int} {off : Int} {tgt : Nat} (hd : decode cc pc = .ok (.ifCond .eq off, 3)) (ht : (pc : Int) + off = (tgt : Int)) (kt : x = 0 → jJ E own cc nL rt R Z cs ss (tgt) (ls) (st) (I) (P)) (kf : x ≠ 0 → jJ E own cc nL rt R Z cs ss (pc + 3) (ls) (st) (I) (P)) : jJ E own cc nL rt R Z cs ss (pc) (ls) (ji x :: st) (I) (P) := by
  intro p e s m args below meth c H locs la hc hH hS hl h1 h2
  refine lv_if_eq hc.1 hc.2.1 hd ht (fun h => ?_) (fun h => ?_)
  · exact kt ((j32_eq0 h2.1).mp h) p e s m args below meth c H locs la hc hH hS hl h1 h2.2
  · exact kf (fun q => h ((j32_eq0 h2.1).mpr q)) p e s m args below meth c H locs la hc hH hS hl h1 h2.2
theorem jJ_if_ne {x : Int} {off : Int} {tgt : Nat} (hd : decode cc pc = .ok (.ifCond .ne off, 3)) (ht : (pc : Int) + off = (tgt : Int)) (kt : x ≠ 0 → jJ E own cc nL rt R Z cs ss (tgt) (ls) (st) (I) (P)) (kf : x = 0 → jJ E own cc nL rt R Z cs ss (pc + 3) (ls) (st) (I) (P)) : jJ E own cc nL rt R Z cs ss (pc) (ls) (ji x :: st) (I) (P) := by
  intro p e s m args below meth c H locs la hc hH hS hl h1 h2
  refine lv_if_ne hc.1 hc.2.1 hd ht (fun h => ?_) (fun h => ?_)
  · exact kt (fun q => absurd ((j32_eq0 h2.1).mpr q) (by simpa using h)) p e s m args below meth c H locs la hc hH hS hl h1 h2.2
  · exact kf ((j32_eq0 h2.1).mp (by simpa using h)) p e s m args below meth c H locs la hc hH hS hl h1 h2.2
theorem jJ_if_lt {x : Int} {off : Int} {tgt : Nat} (hd : decode cc pc = .ok (.ifCond .lt off, 3)) (ht : (pc : Int) + off = (tgt : Int)) (kt : x < 0 → jJ E own cc nL rt R Z cs ss (tgt) (ls) (st) (I) (P)) (kf : 0 ≤ x → jJ E own cc nL rt R Z cs ss (pc + 3) (ls) (st) (I) (P)) : jJ E own cc nL rt R Z cs ss (pc) (ls) (ji x :: st) (I) (P) := by
  intro p e s m args below meth c H locs la hc hH hS hl h1 h2
  refine lv_if_lt hc.1 hc.2.1 hd ht (fun h => ?_) (fun h => ?_)
  · exact kt ((j32_lt0 h2.1).mp h) p e s m args below meth c H locs la hc hH hS hl h1 h2.2
  · exact kf (by have q : ¬ (x < 0) := fun z => h ((j32_lt0 h2.1).mpr z); omega) p e s m args below meth c H locs la hc hH hS hl h1 h2.2
theorem jJ_if_ge {x : Int} {off : Int} {tgt : Nat} (hd : decode cc pc = .ok (.ifCond .ge off, 3)) (ht : (pc : Int) + off = (tgt : Int)) (kt : 0 ≤ x → jJ E own cc nL rt R Z cs ss (tgt) (ls) (st) (I) (P)) (kf : x < 0 → jJ E own cc nL rt R Z cs ss (pc + 3) (ls) (st) (I) (P)) : jJ E own cc nL rt R Z cs ss (pc) (ls) (ji x :: st) (I) (P) := by
  intro p e s m args below meth c H locs la hc hH hS hl h1 h2
  refine lv_if_ge hc.1 hc.2.1 hd ht (fun h => ?_) (fun h => ?_)
  · exact kt ((j32_0le h2.1).mp h) p e s m args below meth c H locs la hc hH hS hl h1 h2.2
  · exact kf (by have q : ¬ (0 ≤ x) := fun z => h ((j32_0le h2.1).mpr z); omega) p e s m args below meth c H locs la hc hH hS hl h1 h2.2
theorem jJ_if_gt {x : Int} {off : Int} {tgt : Nat} (hd : decode cc pc = .ok (.ifCond .gt off, 3)) (ht : (pc : Int) + off = (tgt : Int)) (kt : 0 < x → jJ E own cc nL rt R Z cs ss (tgt) (ls) (st) (I) (P)) (kf : x ≤ 0 → jJ E own cc nL rt R Z cs ss (pc + 3) (ls) (st) (I) (P)) : jJ E own cc nL rt R Z cs ss (pc) (ls) (ji x :: st) (I) (P) := by
  intro p e s m args below meth c H locs la hc hH hS hl h1 h2
  refine lv_if_gt hc.1 hc.2.1 hd ht (fun h => ?_) (fun h => ?_)
  · exact kt ((j32_0lt h2.1).mp h) p e s m args below meth c H locs la hc hH hS hl h1 h2.2
  · exact kf (by have q : ¬ (0 < x) := fun z => h ((j32_0lt h2.1).mpr z); omega) p e s m args below meth c H locs la hc hH hS hl h1 h2.2
theorem jJ_if_le {x : Int} {off : Int} {tgt : Nat} (hd : decode cc pc = .ok (.ifCond .le off, 3)) (ht : (pc : Int) + off = (tgt : Int)) (kt : x ≤ 0 → jJ E own cc nL rt R Z cs ss (tgt) (ls) (st) (I) (P)) (kf : 0 < x → jJ E own cc nL rt R Z cs ss (pc + 3) (ls) (st) (I) (P)) : jJ E own cc nL rt R Z cs ss (pc) (ls) (ji x :: st) (I) (P) := by
  intro p e s m args below meth c H locs la hc hH hS hl h1 h2
  refine lv_if_le hc.1 hc.2.1 hd ht (fun h => ?_) (fun h => ?_)
  · exact kt ((j32_le0 h2.1).mp h) p e s m args below meth c H locs la hc hH hS hl h1 h2.2
  · exact kf (by have q : ¬ (x ≤ 0) := fun z => h ((j32_le0 h2.1).mpr z); omega) p e s m args below meth c H locs la hc hH hS hl h1 h2.2
theorem jJ_icmp_eq {x y : Int} {off : Int} {tgt : Nat} (hd : decode cc pc = .ok (.if_icmp .eq off, 3)) (ht : (pc : Int) + off = (tgt : Int)) (kt : x = y → jJ E own cc nL rt R Z cs ss (tgt) (ls) (st) (I) (P)) (kf : x ≠ y → jJ E own cc nL rt R Z cs ss (pc + 3) (ls) (st) (I) (P)) : jJ E own cc nL rt R Z cs ss (pc) (ls) (ji y :: ji x :: st) (I) (P) := by
  intro p e s m args below meth c H locs la hc hH hS hl h1 h2
  refine lv_icmp_eq hc.1 hc.2.1 hd ht (fun h => ?_) (fun h => ?_)
  · exact kt ((j32_eq h2.2.1 h2.1).mp h) p e s m args below meth c H locs la hc hH hS hl h1 h2.2.2
  · exact kf (fun q => h ((j32_eq h2.2.1 h2.1).mpr q)) p e s m args below meth c H locs la hc hH hS hl h1 h2.2.2
theorem jJ_icmp_ne {x y : Int} {off : Int} {tgt : Nat} (hd : decode cc pc = .ok (.if_icmp .ne off, 3)) (ht : (pc : Int) + off = (tgt : Int)) (kt : x ≠ y → jJ E own cc nL rt R Z cs ss (tgt) (ls) (st) (I) (P)) (kf : x = y → jJ E own cc nL rt R Z cs ss (pc + 3) (ls) (st) (I) (P)) : jJ E own cc nL rt R Z cs ss (pc) (ls) (ji y :: ji x :: st) (I) (P) := by
  intro p e s m args below meth c H locs la hc hH hS hl h1 h2
  refine lv_icmp_ne hc.1 hc.2.1 hd ht (fun h => ?_) (fun h => ?_)
  · exact kt (fun q => absurd ((j32_eq h2.2.1 h2.1).mpr q) (by simpa using h)) p e s m args below meth c H locs la hc hH hS hl h1 h2.2.2
  · exact kf ((j32_eq h2.2.1 h2.1).mp (by simpa using h)) p e s m args below meth c H locs la hc hH hS hl h1 h2.2.2
theorem jJ_icmp_lt {x y : Int} {off : Int} {tgt : Nat} (hd : decode cc pc = .ok (.if_icmp .lt off, 3)) (ht : (pc : Int) + off = (tgt : Int)) (kt : x < y → jJ E own cc nL rt R Z cs ss (tgt) (ls) (st) (I) (P)) (kf : y ≤ x → jJ E own cc nL rt R Z cs ss (pc + 3) (ls) (st) (I) (P)) : jJ E own cc nL rt R Z cs ss (pc) (ls) (ji y :: ji x :: st) (I) (P) := by
  intro p e s m args below meth c H locs la hc hH hS hl h1 h2
  refine lv_icmp_lt hc.1 hc.2.1 hd ht (fun h => ?_) (fun h => ?_)
  · exact kt ((j32_lt h2.2.1 h2.1).mp h) p e s m args below meth c H locs la hc hH hS hl h1 h2.2.2
  · exact kf (by have q : ¬ (x < y) := fun z => h ((j32_lt h2.2.1 h2.1).mpr z); omega) p e s m args below meth c H locs la hc hH hS hl h1 h2.2.2
theorem jJ_icmp_ge {x y : Int} {off : Int} {tgt : Nat} (hd : decode cc pc = .ok (.if_icmp .ge off, 3)) (ht : (pc : Int) + off = (tgt : Int)) (kt : y ≤ x → jJ E own cc nL rt R Z cs ss (tgt) (ls) (st) (I) (P)) (kf : x < y → jJ E own cc nL rt R Z cs ss (pc + 3) (ls) (st) (I) (P)) : jJ E own cc nL rt R Z cs ss (pc) (ls) (ji y :: ji x :: st) (I) (P) := by
  intro p e s m args below meth c H locs la hc hH hS hl h1 h2
  refine lv_icmp_ge hc.1 hc.2.1 hd ht (fun h => ?_) (fun h => ?_)
  · exact kt ((j32_le h2.1 h2.2.1).mp h) p e s m args below meth c H locs la hc hH hS hl h1 h2.2.2
  · exact kf (by have q : ¬ (y ≤ x) := fun z => h ((j32_le h2.1 h2.2.1).mpr z); omega) p e s m args below meth c H locs la hc hH hS hl h1 h2.2.2
theorem jJ_icmp_gt {x y : Int} {off : Int} {tgt : Nat} (hd : decode cc pc = .ok (.if_icmp .gt off, 3)) (ht : (pc : Int) + off = (tgt : Int)) (kt : y < x → jJ E own cc nL rt R Z cs ss (tgt) (ls) (st) (I) (P)) (kf : x ≤ y → jJ E own cc nL rt R Z cs ss (pc + 3) (ls) (st) (I) (P)) : jJ E own cc nL rt R Z cs ss (pc) (ls) (ji y :: ji x :: st) (I) (P) := by
  intro p e s m args below meth c H locs la hc hH hS hl h1 h2
  refine lv_icmp_gt hc.1 hc.2.1 hd ht (fun h => ?_) (fun h => ?_)
  · exact kt ((j32_lt h2.1 h2.2.1).mp h) p e s m args below meth c H locs la hc hH hS hl h1 h2.2.2
  · exact kf (by have q : ¬ (y < x) := fun z => h ((j32_lt h2.1 h2.2.1).mpr z); omega) p e s m args below meth c H locs la hc hH hS hl h1 h2.2.2
theorem jJ_icmp_le {x y : Int} {off : Int} {tgt : Nat} (hd : decode cc pc = .ok (.if_icmp .le off, 3)) (ht : (pc : Int) + off = (tgt : Int)) (kt : x ≤ y → jJ E own cc nL rt R Z cs ss (tgt) (ls) (st) (I) (P)) (kf : y < x → jJ E own cc nL rt R Z cs ss (pc + 3) (ls) (st) (I) (P)) : jJ E own cc nL rt R Z cs ss (pc) (ls) (ji y :: ji x :: st) (I) (P) := by
  intro p e s m args below meth c H locs la hc hH hS hl h1 h2
  refine lv_icmp_le hc.1 hc.2.1 hd ht (fun h => ?_) (fun h => ?_)
  · exact kt ((j32_le h2.2.1 h2.1).mp h) p e s m args below meth c H locs la hc hH hS hl h1 h2.2.2
  · exact kf (by have q : ¬ (x ≤ y) := fun z => h ((j32_le h2.2.1 h2.1).mpr z); omega) p e s m args below meth c H locs la hc hH hS hl h1 h2.2.2
theorem jJ_goto {off : Int} {tgt : Nat} (hd : decode cc pc = .ok (.goto off, 3)) (ht : (pc : Int) + off = (tgt : Int)) (k : jJ E own cc nL rt R Z cs ss (tgt) (ls) (st) (I) (P)) : jJ E own cc nL rt R Z cs ss (pc) (ls) (st) (I) (P) := by
  intro p e s m args below meth c H locs la hc hH hS hl h1 h2
  exact lv_goto hc.1 hc.2.1 hd ht (k p e s m args below meth c H locs la hc hH hS hl h1 h2)
theorem jJ_tableIn {dflt lo hi : Int} {offs : Array Int} {len : Nat} {x off : Int} {tgt : Nat} (hd : decode cc pc = .ok (.tableswitch dflt lo hi offs, len)) (hx : lo ≤ x ∧ x ≤ hi) (ho : offs[(x - lo).toNat]? = some off) (ht : (pc : Int) + off = (tgt : Int)) (k : jJ E own cc nL rt R Z cs ss (tgt) (ls) (st) (I) (P)) : jJ E own cc nL rt R Z cs ss (pc) (ls) (ji x :: st) (I) (P) := by
  intro p e s m args below meth c H locs la hc hH hS hl h1 h2
  have e1 := j32 h2.1
  exact lv_tableIn hc.1 hc.2.1 hd (by rw [e1]; omega) (by rw [e1]; omega) (by rw [e1]; exact ho) ht (k p e s m args below meth c H locs la hc hH hS hl h1 h2.2)
theorem jJ_tableOut {dflt lo hi : Int} {offs : Array Int} {len : Nat} {x : Int} {tgt : Nat} (hd : decode cc pc = .ok (.tableswitch dflt lo hi offs, len)) (hx : x < lo ∨ hi < x) (ht : (pc : Int) + dflt = (tgt : Int)) (k : jJ E own cc nL rt R Z cs ss (tgt) (ls) (st) (I) (P)) : jJ E own cc nL rt R Z cs ss (pc) (ls) (ji x :: st) (I) (P) := by
  intro p e s m args below meth c H locs la hc hH hS hl h1 h2
  have e1 := j32 h2.1
  exact lv_tableOut hc.1 hc.2.1 hd (by rw [e1]; exact hx) ht (k p e s m args below meth c H locs la hc hH hS hl h1 h2.2)
theorem jJ_lookup {dflt : Int} {ps : Array (Int × Int)} {len : Nat} {x off : Int} {tgt : Nat} (hd : decode cc pc = .ok (.lookupswitch dflt ps, len)) (hp : (ps.toList.zip (ps.toList.drop 1)).all (fun (a, next) => a.1 < next.1) = true) (ho : Op.lookupswitch.offset ps.toList dflt x = off) (ht : (pc : Int) + off = (tgt : Int)) (k : jJ E own cc nL rt R Z cs ss (tgt) (ls) (st) (I) (P)) : jJ E own cc nL rt R Z cs ss (pc) (ls) (ji x :: st) (I) (P) := by
  intro p e s m args below meth c H locs la hc hH hS hl h1 h2
  have e1 := j32 h2.1
  exact lv_lookup hc.1 hc.2.1 hd hp (by rw [e1]; exact ho) ht (k p e s m args below meth c H locs la hc hH hS hl h1 h2.2)
theorem jJ_rs (k : jRs st → jJ E own cc nL rt R Z cs ss (pc) (ls) (st) (I) (P)) : jJ E own cc nL rt R Z cs ss (pc) (ls) (st) (I) (P) := by
  intro p e s m args below meth c H locs la hc hH hS hl h1 h2
  exact k h2 p e s m args below meth c H locs la hc hH hS hl h1 h2
theorem jJ_rl (k : jRl ls → jJ E own cc nL rt R Z cs ss (pc) (ls) (st) (I) (P)) : jJ E own cc nL rt R Z cs ss (pc) (ls) (st) (I) (P) := by
  intro p e s m args below meth c H locs la hc hH hS hl h1 h2
  exact k h1 p e s m args below meth c H locs la hc hH hS hl h1 h2
theorem jJ_rI (k : jRI I → jJ E own cc nL rt R Z cs ss (pc) (ls) (st) (I) (P)) : jJ E own cc nL rt R Z cs ss (pc) (ls) (st) (I) (P) := by
  intro p e s m args below meth c H locs la hc hH hS hl h1 h2
  exact k hH.2.2 p e s m args below meth c H locs la hc hH hS hl h1 h2
end JFR
end
section
section JFC
theorem jT_mem {w : Cond} (h : w ∈ lw_tbl) (hg : goodWord w = true) : w ∈ jT := List.mem_filter.mpr ⟨h, hg⟩
theorem jT_good {ws : List Cond} (h : ∀ w ∈ ws, w ∈ jT) : GoodIn jT ws := fun w hw => ⟨h w hw, good_of_word (List.mem_filter.mp (h w hw)).2⟩
theorem jcl_in {ci : Nat} {q : vw_C} (h : vwCl[ci]? = some q) : ∀ w ∈ u_ws q.1 q.2.1 q.2.2, w ∈ jT := by
  match ci, h with
  | 0, h => cases h; exact fun w hw => jW0 w hw
  | 1, h => cases h; exact fun w hw => jW1 w hw
  | 2, h => cases h; exact fun w hw => jW2 w hw
  | 3, h => cases h; exact fun w hw => jW3 w hw
  | 4, h => cases h; exact fun w hw => jW4 w hw
  | 5, h => cases h; exact fun w hw => jW5 w hw
  | 6, h => cases h; exact fun w hw => jW6 w hw
  | 7, h => cases h; exact fun w hw => jW7 w hw
  | k + 8, h => simp [vwCl] at h
theorem jcl_ty {ci : Nat} {q : vw_C} (h : vwCl[ci]? = some q) : ∀ k, k < q.2.2 → parseFieldDescriptor (q.2.1 k).2.2.1 = some (jTy ci k) := by
  match ci, h with
  | 0, h => cases h; exact tyX0_ok
  | 1, h => cases h; exact tyX1_ok
  | 2, h => cases h; exact tyX2_ok
  | 3, h => cases h; exact tyX3_ok
  | 4, h => cases h; exact tyX4_ok
  | 5, h => cases h; exact tyX5_ok
  | 6, h => cases h; exact tyX6_ok
  | 7, h => cases h; exact tyX7_ok
  | k + 8, h => simp [vwCl] at h
theorem jcl_nm {ci : Nat} {q : vw_C} (h : vwCl[ci]? = some q) : ∀ a, a < q.2.2 → ∀ b, b < q.2.2 → a ≠ b → (q.2.1 a).2.1 ≠ (q.2.1 b).2.1 := by
  match ci, h with
  | 0, h => cases h; exact nmX0
  | 1, h => cases h; exact nmX1
  | 2, h => cases h; exact nmX2
  | 3, h => cases h; exact nmX3
  | 4, h => cases h; exact nmX4
  | 5, h => cases h; exact nmX5
  | 6, h => cases h; exact nmX6
  | 7, h => cases h; exact nmX7
  | k + 8, h => simp [vwCl] at h
theorem jcl_nf {ci : Nat} {q : vw_C} (h : vwCl[ci]? = some q) : q.2.2 = jNF ci ∧ ci < 8 := by
  match ci, h with
  | 0, h => cases h; exact ⟨rfl, by decide⟩
  | 1, h => cases h; exact ⟨rfl, by decide⟩
  | 2, h => cases h; exact ⟨rfl, by decide⟩
  | 3, h => cases h; exact ⟨rfl, by decide⟩
  | 4, h => cases h; exact ⟨rfl, by decide⟩
  | 5, h => cases h; exact ⟨rfl, by decide⟩
  | 6, h => cases h; exact ⟨rfl, by decide⟩
  | 7, h => cases h; exact ⟨rfl, by decide⟩
  | k + 8, h => simp [vwCl] at h
def jF (own : String) (idx ci k : Nat) : Prop := ∃ q : vw_C, vwCl[ci]? = some q ∧ k < q.2.2 ∧ (q.2.1 k).1 = q.1 ∧ (Cond.fieldLink own idx q.1 (q.2.1 k).2.1 (q.2.1 k).2.2.1 ∈ jT ∨ ∃ host, Cond.fieldLinkNest own idx q.1 (q.2.1 k).2.1 (q.2.1 k).2.2.1 host ∈ lw_tbl)
def jFw (own : String) (idx ci k : Nat) : Prop := jF own idx ci k ∧ ∀ q : vw_C, vwCl[ci]? = some q → (q.2.1 k).2.2.2 = false
def jK (E : jE) (ci a : Nat) : Prop := a ∈ eL E ∧ eK E a = ci
def jAr (E : jE) (kd a n : Nat) : Prop := a ∈ eL E ∧ eK E a = kd ∧ eN E a = n
theorem jCell_obj {E : jE} {I : jI} {P : jP} {ci a : Nat} (h : eK E a = ci) (h8 : ci < 8) : jCell E I P a = .inr (ci, jFs ci a I P) := by
  subst h
  simp only [jCell, if_pos h8]
theorem jCell_congr {E : jE} {I I' : jI} {P P' : jP} {a : Nat} (h1 : ∀ j, I a j = I' a j) (h2 : ∀ j, P a j = P' a j) : jCell E I P a = jCell E I' P' a := by
  have e1 : jFs (eK E a) a I P = jFs (eK E a) a I' P' := by
    unfold jFs
    apply List.map_congr_left
    intro k _
    simp only [jFv, h1, h2]
  simp only [jCell, e1, h1, h2]
theorem jFs_get {ci a k : Nat} {I : jI} {P : jP} (hk : k < jNF ci) : (jFs ci a I P)[k]? = some (jFv ci a I P k) := by
  simp [jFs, List.getElem?_map, List.getElem?_range hk]
theorem jFs_len {ci a : Nat} {I : jI} {P : jP} : (jFs ci a I P).length = jNF ci := by simp [jFs]
theorem jFs_put {ci a k : Nat} {I : jI} {P : jP} {v : Int} (hr : jIsR (jTy ci k) = false) : (jFs ci a I P).set k (.int (Int32.ofInt v)) = jFs ci a (jput I a k v) P := by
  apply List.ext_getElem?
  intro j
  by_cases hj : j < jNF ci
  · rw [jFs_get hj]
    by_cases hk : k = j
    · subst hk
      rw [List.getElem?_set_self (by rw [jFs_len]; exact hj)]
      simp [jFv, hr, jput]
    · rw [List.getElem?_set_ne hk, jFs_get hj]
      simp [jFv, jput, Ne.symm hk]
  · rw [List.getElem?_eq_none (by rw [List.length_set, jFs_len]; omega), List.getElem?_eq_none (by rw [jFs_len]; omega)]
theorem jFs_putP {ci a k : Nat} {I : jI} {P : jP} {v : Option Nat} (hr : jIsR (jTy ci k) = true) : (jFs ci a I P).set k (va_rf v) = jFs ci a I (jputP P a k v) := by
  apply List.ext_getElem?
  intro j
  by_cases hj : j < jNF ci
  · rw [jFs_get hj]
    by_cases hk : k = j
    · subst hk
      rw [List.getElem?_set_self (by rw [jFs_len]; exact hj)]
      simp [jFv, hr, jputP]
    · rw [List.getElem?_set_ne hk, jFs_get hj]
      simp [jFv, jputP, Ne.symm hk]
  · rw [List.getElem?_eq_none (by rw [List.length_set, jFs_len]; omega), List.getElem?_eq_none (by rw [jFs_len]; omega)]
theorem jPool_set {E : jE} {I I' : jI} {P P' : jP} {a i0 : Nat} {v : va_E} (hD : va_D (jA E) (jPool E I P)) (ha : a ∈ eL E) (hi : (jPool E I P)[i0]? = some (a, jCell E I P a)) (hv : v = jCell E I' P' a) (ho1 : ∀ b j, b ≠ a → I b j = I' b j) (ho2 : ∀ b j, b ≠ a → P b j = P' b j) : (jPool E I P).set i0 (a, v) = jPool E I' P' := by
  have h := va_pl_set (X := []) (f := jCell E I P) (e := v) hD ha hi
  refine Eq.trans h (va_pl_congr (fun b => ?_))
  by_cases hb : b = a
  · subst hb
    rw [va_up_self, hv]
  · rw [va_up_ne _ _ hb]
    exact jCell_congr (fun j => ho1 b j hb) (fun j => ho2 b j hb)
theorem jPool_get {E : jE} {I : jI} {P : jP} {a : Nat} (h : a ∈ eL E) : ∃ i0 : Nat, (jPool E I P)[i0]? = some (a, jCell E I P a) := va_pl_get (X := []) (f := jCell E I P) h
variable {E : jE} {own : String} {cc : ByteArray} {nL : Nat} {rt : Option FieldType} {R : Room} {Z : Code → List Frame → Array Value → State → State → Prop} {cs ss pc : Nat} {ls : List (Option jV)} {st : List jV} {I : jI} {P : jP}
theorem jJ_geti {idx ci k a : Nat} (hd : decode cc pc = .ok (.getfield idx, 3)) (hF : jF own idx ci k) (hr : jIsR (jTy ci k) = false) (ha : jK E ci a) (kk : jJ E own cc nL rt R Z cs ss (pc + 3) ls (ji (I a k) :: st) I P) : jJ E own cc nL rt R Z cs ss pc ls (jp a :: st) I P := by
  intro p e s m args below meth c H locs la hc hH hS hl h1 h2
  obtain ⟨q, hq, hk, hq1, hlk⟩ := hF
  obtain ⟨hn, h8⟩ := jcl_nf hq
  obtain ⟨i0, hi0⟩ := jPool_get (I := I) (P := P) ha.1
  rw [jCell_obj ha.2 h8] at hi0
  have hv : (jFs ci a I P)[k]? = some (.int (Int32.ofInt (I a k))) := by rw [jFs_get (by rw [← hn]; exact hk)]; simp [jFv, hr]
  have hw := kk p e s m args below meth c H locs la hc hH hS hl h1 ⟨hH.2.2 a k, h2.2⟩
  rcases hlk with h | ⟨host, h⟩
  · exact va_get (D := eD E) (C := q.1) (T := q.2.1) (N := q.2.2) hc.1 hc.2.1 hc.2.2.2.2.2.1 (jcl_in hq) hc.2.2.2.2.1 hc.2.2.2.2.2.2.2.1 hH.1 i0 hi0 hq k hk (hc.2.2.2.2.2.1 _ h) (fun x hx => by rw [hq1] at hx; exact hx) hv hd hw
  · exact va_getN (D := eD E) (C := q.1) (T := q.2.1) (N := q.2.2) hc.1 hc.2.1 hc.2.2.2.2.2.1 (jcl_in hq) hc.2.2.2.2.1 hc.2.2.2.2.2.2.2.1 hH.1 i0 hi0 hq k hk (va_Nw.use rfl (hc.2.2.2.2.2.2.2.2.1.1 _ h rfl)) (fun x hx => by rw [hq1] at hx; exact hx) hv hd hw
theorem jJ_getr {idx ci k a b : Nat} (hd : decode cc pc = .ok (.getfield idx, 3)) (hF : jF own idx ci k) (hr : jIsR (jTy ci k) = true) (ha : jK E ci a) (hb : P a k = some b) (kk : jJ E own cc nL rt R Z cs ss (pc + 3) ls (jp b :: st) I P) : jJ E own cc nL rt R Z cs ss pc ls (jp a :: st) I P := by
  intro p e s m args below meth c H locs la hc hH hS hl h1 h2
  obtain ⟨q, hq, hk, hq1, hlk⟩ := hF
  obtain ⟨hn, h8⟩ := jcl_nf hq
  obtain ⟨i0, hi0⟩ := jPool_get (I := I) (P := P) ha.1
  rw [jCell_obj ha.2 h8] at hi0
  have hv : (jFs ci a I P)[k]? = some (jc (jp b)) := by rw [jFs_get (by rw [← hn]; exact hk)]; simp [jFv, hr, hb, jc]
  have hw := kk p e s m args below meth c H locs la hc hH hS hl h1 ⟨trivial, h2.2⟩
  rcases hlk with h | ⟨host, h⟩
  · exact va_get (D := eD E) (C := q.1) (T := q.2.1) (N := q.2.2) hc.1 hc.2.1 hc.2.2.2.2.2.1 (jcl_in hq) hc.2.2.2.2.1 hc.2.2.2.2.2.2.2.1 hH.1 i0 hi0 hq k hk (hc.2.2.2.2.2.1 _ h) (fun x hx => by rw [hq1] at hx; exact hx) hv hd hw
  · exact va_getN (D := eD E) (C := q.1) (T := q.2.1) (N := q.2.2) hc.1 hc.2.1 hc.2.2.2.2.2.1 (jcl_in hq) hc.2.2.2.2.1 hc.2.2.2.2.2.2.2.1 hH.1 i0 hi0 hq k hk (va_Nw.use rfl (hc.2.2.2.2.2.2.2.2.1.1 _ h rfl)) (fun x hx => by rw [hq1] at hx; exact hx) hv hd hw
theorem jJ_puti {idx ci k a : Nat} {v : Int} (hd : decode cc pc = .ok (.putfield idx, 3)) (hF : jFw own idx ci k) (hr : jIsR (jTy ci k) = false) (hv : narrow (jTy ci k) (.int (Int32.ofInt v)) = .int (Int32.ofInt v) ∧ fits (jTy ci k) (.int (Int32.ofInt v)) = true) (ha : jK E ci a) (kk : jJ E own cc nL rt R Z cs ss (pc + 3) ls st (jput I a k v) P) : jJ E own cc nL rt R Z cs ss pc ls (ji v :: jp a :: st) I P := by
  intro p e s m args below meth c H locs la hc hH hS hl h1 h2
  obtain ⟨⟨q, hq, hk, hq1, hlk⟩, hfin⟩ := hF
  obtain ⟨hn, h8⟩ := jcl_nf hq
  obtain ⟨i0, hi0⟩ := jPool_get (I := I) (P := P) ha.1
  have hset := jPool_set (I' := jput I a k v) (P' := P) (v := .inr (ci, (jFs ci a I P).set k (.int (Int32.ofInt v)))) hH.2.1 ha.1 hi0 (by rw [jCell_obj ha.2 h8, jFs_put hr]) (fun b j hb => (jput_a I hb).symm) (fun b j hb => rfl)
  rw [jCell_obj ha.2 h8] at hi0
  have hlen : k < (jFs ci a I P).length := by rw [jFs_len, ← hn]; exact hk
  rcases hlk with h | ⟨host, h⟩
  · refine va_put (D := eD E) (C := q.1) (T := q.2.1) (N := q.2.2) hc.1 hc.2.1 hc.2.2.2.2.2.1 (jcl_in hq) (jTy ci) (jcl_ty hq) (jcl_nm hq) hc.2.2.2.2.1 hc.2.2.2.2.2.2.2.1 hH.1 hH.2.1 hS i0 hi0 hq k hk (hc.2.2.2.2.2.1 _ h) (fun x hx => by rw [hq1] at hx; exact hx) (hfin q hq) (jcl_ty hq k hk) hv.1 hv.2 hlen hd (fun H1 locs1 hP1 hD1 hS1 => ?_)
    exact kk p e s m args below meth c H1 locs1 la hc ⟨by rw [← hset]; exact hP1, by rw [← hset]; exact hD1, jRI_put hH.2.2 h2.1⟩ hS1 hl h1 h2.2.2
  · refine va_putN (D := eD E) (C := q.1) (T := q.2.1) (N := q.2.2) hc.1 hc.2.1 hc.2.2.2.2.2.1 (jcl_in hq) (jTy ci) (jcl_ty hq) (jcl_nm hq) hc.2.2.2.2.1 hc.2.2.2.2.2.2.2.1 hH.1 hH.2.1 hS i0 hi0 hq k hk (va_Nw.use rfl (hc.2.2.2.2.2.2.2.2.1.1 _ h rfl)) (fun x hx => by rw [hq1] at hx; exact hx) (hfin q hq) (jcl_ty hq k hk) hv.1 hv.2 hlen hd (fun H1 locs1 hP1 hD1 hS1 => ?_)
    exact kk p e s m args below meth c H1 locs1 la hc ⟨by rw [← hset]; exact hP1, by rw [← hset]; exact hD1, jRI_put hH.2.2 h2.1⟩ hS1 hl h1 h2.2.2
theorem jJ_putr {idx ci k a b : Nat} (hd : decode cc pc = .ok (.putfield idx, 3)) (hF : jFw own idx ci k) (hr : jIsR (jTy ci k) = true) (hv : narrow (jTy ci k) (.ref b) = .ref b ∧ fits (jTy ci k) (.ref b) = true) (ha : jK E ci a) (kk : jJ E own cc nL rt R Z cs ss (pc + 3) ls st I (jputP P a k (some b))) : jJ E own cc nL rt R Z cs ss pc ls (jp b :: jp a :: st) I P := by
  intro p e s m args below meth c H locs la hc hH hS hl h1 h2
  obtain ⟨⟨q, hq, hk, hq1, hlk⟩, hfin⟩ := hF
  obtain ⟨hn, h8⟩ := jcl_nf hq
  obtain ⟨i0, hi0⟩ := jPool_get (I := I) (P := P) ha.1
  have hset := jPool_set (I' := I) (P' := jputP P a k (some b)) (v := .inr (ci, (jFs ci a I P).set k (.ref b))) hH.2.1 ha.1 hi0 (by rw [jCell_obj ha.2 h8, ← jFs_putP hr]; rfl) (fun b j hb => rfl) (fun b j hb => by simp [jputP, hb])
  rw [jCell_obj ha.2 h8] at hi0
  have hlen : k < (jFs ci a I P).length := by rw [jFs_len, ← hn]; exact hk
  rcases hlk with h | ⟨host, h⟩
  · refine va_put (D := eD E) (C := q.1) (T := q.2.1) (N := q.2.2) hc.1 hc.2.1 hc.2.2.2.2.2.1 (jcl_in hq) (jTy ci) (jcl_ty hq) (jcl_nm hq) hc.2.2.2.2.1 hc.2.2.2.2.2.2.2.1 hH.1 hH.2.1 hS i0 hi0 hq k hk (hc.2.2.2.2.2.1 _ h) (fun x hx => by rw [hq1] at hx; exact hx) (hfin q hq) (jcl_ty hq k hk) hv.1 hv.2 hlen hd (fun H1 locs1 hP1 hD1 hS1 => ?_)
    exact kk p e s m args below meth c H1 locs1 la hc ⟨by rw [← hset]; exact hP1, by rw [← hset]; exact hD1, hH.2.2⟩ hS1 hl h1 h2.2.2
  · refine va_putN (D := eD E) (C := q.1) (T := q.2.1) (N := q.2.2) hc.1 hc.2.1 hc.2.2.2.2.2.1 (jcl_in hq) (jTy ci) (jcl_ty hq) (jcl_nm hq) hc.2.2.2.2.1 hc.2.2.2.2.2.2.2.1 hH.1 hH.2.1 hS i0 hi0 hq k hk (va_Nw.use rfl (hc.2.2.2.2.2.2.2.2.1.1 _ h rfl)) (fun x hx => by rw [hq1] at hx; exact hx) (hfin q hq) (jcl_ty hq k hk) hv.1 hv.2 hlen hd (fun H1 locs1 hP1 hD1 hS1 => ?_)
    exact kk p e s m args below meth c H1 locs1 la hc ⟨by rw [← hset]; exact hP1, by rw [← hset]; exact hD1, hH.2.2⟩ hS1 hl h1 h2.2.2
end JFC
end
section
section JFD
theorem jCell_arr {E : jE} {I : jI} {P : jP} {kd a n : Nat} (h : jAr E kd a n) (h8 : 8 ≤ kd) (h11 : kd < 11) : jCell E I P a = .inl (eCy E kd, n, .inl (fun j => Int32.ofInt (I a j))) := by
  obtain ⟨-, rfl, rfl⟩ := h
  simp only [jCell, if_neg (Nat.not_lt.mpr h8), if_pos h11]
theorem jCell_arq {E : jE} {I : jI} {P : jP} {kd a n : Nat} (h : jAr E kd a n) (h8 : 11 ≤ kd) (h11 : kd < 14) : jCell E I P a = .inl (eCy E kd, n, .inr (.inr (.inr (.inr (fun j => P a j))))) := by
  obtain ⟨-, rfl, rfl⟩ := h
  simp only [jCell, if_neg (show ¬ eK E a < 8 by omega), if_neg (show ¬ eK E a < 11 by omega), if_pos h11]
theorem jCell_arl {E : jE} {I : jI} {P : jP} {a n : Nat} (h : jAr E 14 a n) : jCell E I P a = .inl (eCy E 14, n, .inr (.inl (fun j => Int64.ofInt (I a j)))) := by
  obtain ⟨-, h2, rfl⟩ := h
  simp [jCell, h2]
theorem jupd {I : jI} {a i : Nat} {v : Int} : upd (fun j => Int32.ofInt (I a j)) i (Int32.ofInt v) = fun j => Int32.ofInt (jput I a i v a j) := by
  funext j
  by_cases h : j = i
  · subst h; rw [pk_us, jput_s]
  · rw [pk_un h, jput_k I h]
theorem jupdl {I : jI} {a i : Nat} {v : Int} : vp_updL (fun j => Int64.ofInt (I a j)) i (Int64.ofInt v) = fun j => Int64.ofInt (jput I a i v a j) := by
  funext j
  by_cases h : j = i
  · subst h; rw [pk_uLs, jput_s]
  · rw [pk_uLn h, jput_k I h]
theorem jPool_arr {E : jE} {I : jI} {P : jP} {kd a n i i0 : Nat} {v : Int} (h : jAr E kd a n) (h8 : 8 ≤ kd) (h11 : kd < 11) (hD : va_D (jA E) (jPool E I P)) (hi : (jPool E I P)[i0]? = some (a, jCell E I P a)) : (jPool E I P).set i0 (a, .inl (eCy E kd, n, .inl (upd (fun j => Int32.ofInt (I a j)) i (Int32.ofInt v)))) = jPool E (jput I a i v) P :=
  jPool_set hD h.1 hi (by rw [jCell_arr h h8 h11, jupd]) (fun b j hb => (jput_a I hb).symm) (fun b j hb => rfl)
variable {E : jE} {own : String} {cc : ByteArray} {nL : Nat} {rt : Option FieldType} {R : Room} {Z : Code → List Frame → Array Value → State → State → Prop} {cs ss pc : Nat} {ls : List (Option jV)} {st : List jV} {I : jI} {P : jP}
theorem jJ_alen {kd t0 a n : Nat} {ty : FieldType} (hd : decode cc pc = .ok (.arraylength, 1)) (ha : jAr E kd a n) (ht : (jTys E)[t0]? = some (eCy E kd, ty)) (h8 : 8 ≤ kd) (h15 : kd < 15) (hn : jR (n : Int)) (kk : jJ E own cc nL rt R Z cs ss (pc + 1) ls (ji (n : Int) :: st) I P) : jJ E own cc nL rt R Z cs ss pc ls (jp a :: st) I P := by
  intro p e s m args below meth c H locs la hc hH hS hl h1 h2
  obtain ⟨i0, hi0⟩ := jPool_get (I := I) (P := P) ha.1
  have hw := kk p e s m args below meth c H locs la hc hH hS hl h1 ⟨hn, h2.2⟩
  have hcell : ∃ x : vp_A, x.1 = n ∧ jCell E I P a = .inl (eCy E kd, x) := by
    by_cases q1 : kd < 11
    · exact ⟨_, rfl, jCell_arr ha h8 q1⟩
    · by_cases q2 : kd < 14
      · exact ⟨_, rfl, jCell_arq ha (by omega) q2⟩
      · have : kd = 14 := by omega
        subst this
        exact ⟨_, rfl, jCell_arl ha⟩
  obtain ⟨x, hx, hx2⟩ := hcell
  rw [hx2] at hi0
  exact va_alen hc.1 hc.2.1 hc.2.2.2.2.2.2.2.1 hH.1 i0 t0 hi0 ht (by rw [hx, ← Int32.ofInt_eq_ofNat]) hd hw
theorem jJ_iald {a n : Nat} {i : Int} (hd : decode cc pc = .ok (.iaload, 1)) (ha : jAr E 9 a n) (hi : 0 ≤ i ∧ i < n) (kk : jJ E own cc nL rt R Z cs ss (pc + 1) ls (ji (I a i.toNat) :: st) I P) : jJ E own cc nL rt R Z cs ss pc ls (ji i :: jp a :: st) I P := by
  intro p e s m args below meth c H locs la hc hH hS hl h1 h2
  obtain ⟨i0, hi0⟩ := jPool_get (I := I) (P := P) ha.1
  rw [jCell_arr ha (by decide) (by decide)] at hi0
  have hw := kk p e s m args below meth c H locs la hc hH hS hl h1 ⟨hH.2.2 a i.toNat, h2.2.2⟩
  refine va_iald hc.1 hc.2.1 hc.2.2.2.2.2.2.2.1 hH.1 i0 1 hi0 rfl (jin h2.1 hi.1 hi.2) hd ?_
  rw [j32_clamp h2.1 hi.1]
  exact hw
theorem jJ_bald {a n : Nat} {i : Int} (hd : decode cc pc = .ok (.baload, 1)) (ha : jAr E 8 a n) (hi : 0 ≤ i ∧ i < n) (kk : jJ E own cc nL rt R Z cs ss (pc + 1) ls (ji (I a i.toNat) :: st) I P) : jJ E own cc nL rt R Z cs ss pc ls (ji i :: jp a :: st) I P := by
  intro p e s m args below meth c H locs la hc hH hS hl h1 h2
  obtain ⟨i0, hi0⟩ := jPool_get (I := I) (P := P) ha.1
  rw [jCell_arr ha (by decide) (by decide)] at hi0
  have hw := kk p e s m args below meth c H locs la hc hH hS hl h1 ⟨hH.2.2 a i.toNat, h2.2.2⟩
  refine va_bald hc.1 hc.2.1 hc.2.2.2.2.2.2.2.1 hH.1 i0 0 hi0 rfl (jin h2.1 hi.1 hi.2) hd ?_
  rw [j32_clamp h2.1 hi.1]
  exact hw
theorem jJ_zald {a n : Nat} {i : Int} (hd : decode cc pc = .ok (.baload, 1)) (ha : jAr E 10 a n) (hi : 0 ≤ i ∧ i < n) (kk : jJ E own cc nL rt R Z cs ss (pc + 1) ls (ji (I a i.toNat) :: st) I P) : jJ E own cc nL rt R Z cs ss pc ls (ji i :: jp a :: st) I P := by
  intro p e s m args below meth c H locs la hc hH hS hl h1 h2
  obtain ⟨i0, hi0⟩ := jPool_get (I := I) (P := P) ha.1
  rw [jCell_arr ha (by decide) (by decide)] at hi0
  have hw := kk p e s m args below meth c H locs la hc hH hS hl h1 ⟨hH.2.2 a i.toNat, h2.2.2⟩
  refine va_zald hc.1 hc.2.1 hc.2.2.2.2.2.2.2.1 hH.1 i0 2 hi0 rfl (jin h2.1 hi.1 hi.2) hd ?_
  rw [j32_clamp h2.1 hi.1]
  exact hw
theorem jJ_iast {a n : Nat} {i v : Int} (hd : decode cc pc = .ok (.iastore, 1)) (ha : jAr E 9 a n) (hi : 0 ≤ i ∧ i < n) (kk : jJ E own cc nL rt R Z cs ss (pc + 1) ls st (jput I a i.toNat v) P) : jJ E own cc nL rt R Z cs ss pc ls (ji v :: ji i :: jp a :: st) I P := by
  intro p e s m args below meth c H locs la hc hH hS hl h1 h2
  obtain ⟨i0, hi0⟩ := jPool_get (I := I) (P := P) ha.1
  have hset := jPool_arr (i := i.toNat) (v := v) ha (by decide) (by decide) hH.2.1 hi0
  rw [jCell_arr ha (by decide) (by decide)] at hi0
  refine va_iast hc.1 hc.2.1 hc.2.2.2.2.2.2.2.1 hH.1 hH.2.1 hS i0 1 hi0 rfl (x := Int32.ofInt v) (jin h2.2.1 hi.1 hi.2) hd (fun H1 locs1 hP1 hD1 hS1 => ?_)
  rw [j32_clamp h2.2.1 hi.1] at hP1 hD1
  exact kk p e s m args below meth c H1 locs1 la hc ⟨by rw [← hset]; exact hP1, by rw [← hset]; exact hD1, jRI_put hH.2.2 h2.1⟩ hS1 hl h1 h2.2.2.2
theorem jB_R (x : Int) : jR (jB x) := jR32 _
theorem jB_of (x : Int) : Int32.ofInt (jB x) = vp_nar .byte (Int32.ofInt x) := by rw [vp_nar_byte]; exact Int32.ofInt_toInt _
theorem jJ_bast {a n : Nat} {i v : Int} (hd : decode cc pc = .ok (.bastore, 1)) (ha : jAr E 8 a n) (hi : 0 ≤ i ∧ i < n) (kk : jJ E own cc nL rt R Z cs ss (pc + 1) ls st (jput I a i.toNat (jB v)) P) : jJ E own cc nL rt R Z cs ss pc ls (ji v :: ji i :: jp a :: st) I P := by
  intro p e s m args below meth c H locs la hc hH hS hl h1 h2
  obtain ⟨i0, hi0⟩ := jPool_get (I := I) (P := P) ha.1
  have hset := jPool_arr (i := i.toNat) (v := jB v) ha (by decide) (by decide) hH.2.1 hi0
  rw [jB_of] at hset
  rw [jCell_arr ha (by decide) (by decide)] at hi0
  refine va_bast hc.1 hc.2.1 hc.2.2.2.2.2.2.2.1 hH.1 hH.2.1 hS i0 0 hi0 rfl (x := Int32.ofInt v) (jin h2.2.1 hi.1 hi.2) hd (fun H1 locs1 hP1 hD1 hS1 => ?_)
  rw [j32_clamp h2.2.1 hi.1] at hP1 hD1
  exact kk p e s m args below meth c H1 locs1 la hc ⟨by rw [← hset]; exact hP1, by rw [← hset]; exact hD1, jRI_put hH.2.2 (jB_R v)⟩ hS1 hl h1 h2.2.2.2
theorem jJ_zast {a n : Nat} {i v : Int} (hd : decode cc pc = .ok (.bastore, 1)) (ha : jAr E 10 a n) (hi : 0 ≤ i ∧ i < n) (hv : v = 0 ∨ v = 1) (kk : jJ E own cc nL rt R Z cs ss (pc + 1) ls st (jput I a i.toNat v) P) : jJ E own cc nL rt R Z cs ss pc ls (ji v :: ji i :: jp a :: st) I P := by
  intro p e s m args below meth c H locs la hc hH hS hl h1 h2
  obtain ⟨i0, hi0⟩ := jPool_get (I := I) (P := P) ha.1
  have hset := jPool_arr (i := i.toNat) (v := v) ha (by decide) (by decide) hH.2.1 hi0
  have hn : vp_nar .boolean (Int32.ofInt v) = Int32.ofInt v := by rcases hv with rfl | rfl <;> decide
  rw [jCell_arr ha (by decide) (by decide)] at hi0
  refine va_zast hc.1 hc.2.1 hc.2.2.2.2.2.2.2.1 hH.1 hH.2.1 hS i0 2 hi0 rfl (x := Int32.ofInt v) (jin h2.2.1 hi.1 hi.2) hd (fun H1 locs1 hP1 hD1 hS1 => ?_)
  rw [j32_clamp h2.2.1 hi.1] at hP1 hD1
  try rw [hn] at hP1 hD1
  exact kk p e s m args below meth c H1 locs1 la hc ⟨by rw [← hset]; exact hP1, by rw [← hset]; exact hD1, jRI_put hH.2.2 h2.1⟩ hS1 hl h1 h2.2.2.2
theorem jJ_aald {kd t0 a n b : Nat} {C : String} {i : Int} (hd : decode cc pc = .ok (.aaload, 1)) (ha : jAr E kd a n) (ht : (jTys E)[t0]? = some (eCy E kd, .object C)) (h8 : 11 ≤ kd ∧ kd < 14) (hi : 0 ≤ i ∧ i < n) (hb : P a i.toNat = some b) (kk : jJ E own cc nL rt R Z cs ss (pc + 1) ls (jp b :: st) I P) : jJ E own cc nL rt R Z cs ss pc ls (ji i :: jp a :: st) I P := by
  intro p e s m args below meth c H locs la hc hH hS hl h1 h2
  obtain ⟨i0, hi0⟩ := jPool_get (I := I) (P := P) ha.1
  rw [jCell_arq ha h8.1 h8.2] at hi0
  have hw := kk p e s m args below meth c H locs la hc hH hS hl h1 ⟨trivial, h2.2.2⟩
  refine va_aldq hc.1 hc.2.1 hc.2.2.2.2.2.2.2.1 hH.1 i0 t0 hi0 ht (jin h2.1 hi.1 hi.2) hd ?_
  rw [j32_clamp h2.1 hi.1, hb]
  exact hw
theorem jJ_aast {kd t0 a n b ci : Nat} {r : vw_C} {i : Int} (hd : decode cc pc = .ok (.aastore, 1)) (ha : jAr E kd a n) (hr : vwCl[ci]? = some r) (ht : (jTys E)[t0]? = some (eCy E kd, .object r.1)) (h8 : 11 ≤ kd ∧ kd < 14) (hi : 0 ≤ i ∧ i < n) (hb : jK E ci b) (kk : jJ E own cc nL rt R Z cs ss (pc + 1) ls st I (jputP P a i.toNat (some b))) : jJ E own cc nL rt R Z cs ss pc ls (jp b :: ji i :: jp a :: st) I P := by
  intro p e s m args below meth c H locs la hc hH hS hl h1 h2
  obtain ⟨i0, hi0⟩ := jPool_get (I := I) (P := P) ha.1
  obtain ⟨i1, hi1⟩ := jPool_get (I := I) (P := P) hb.1
  obtain ⟨hn, hc8⟩ := jcl_nf hr
  have hset := jPool_set (I' := I) (P' := jputP P a i.toNat (some b)) (v := .inl (eCy E kd, n, .inr (.inr (.inr (.inr (va_up (fun j => P a j) i.toNat (some b))))))) hH.2.1 ha.1 hi0 (by
    rw [jCell_arq ha h8.1 h8.2]
    have : va_up (fun j => P a j) i.toNat (some b) = fun j => jputP P a i.toNat (some b) a j := by
      funext j
      simp [va_up, jputP]
    rw [this]) (fun b j hb => rfl) (fun b j hb => by simp [jputP, hb])
  rw [jCell_arq ha h8.1 h8.2] at hi0
  rw [jCell_obj hb.2 hc8] at hi1
  refine va_astq hc.1 hc.2.1 hc.2.2.2.2.2.2.2.1 hH.1 hH.2.1 hS i0 t0 i1 ci hi0 ht hi1 hr (jin h2.2.1 hi.1 hi.2) hd (fun H1 locs1 hP1 hD1 hS1 => ?_)
  rw [j32_clamp h2.2.1 hi.1] at hP1 hD1
  exact kk p e s m args below meth c H1 locs1 la hc ⟨by rw [← hset]; exact hP1, by rw [← hset]; exact hD1, hH.2.2⟩ hS1 hl h1 h2.2.2.2
end JFD
end
section
section JFF
theorem jX_moved {E : jE} {s t : State} {H : Heap} {locs : List Loc} (h : jX E s s.heap) (hS : va_S (jA E) s.heap H locs) (hW : s.WarmedH t.vm) (ht : t.heap = H) : jX E t t.heap := by
  obtain ⟨h1, ⟨h2, h3⟩, h4, h5, h6⟩ := h
  rw [ht]
  refine ⟨fun w hw hn => ?_, ⟨vk_S.kept (vk_S.moved hW.alike h2) hS.2.1, fun q hq => vk_R.warm hW (h3 q hq)⟩, va_Z.kept (va_Z.moved hW.alike h4) hS.2.1, vx_Zq.kept (vx_Zq.moved hW.alike h5) hS.2.1, vx_Zq.kept (vx_Zq.moved hW.alike h6) hS.2.1⟩
  have h7 := h1 w hw hn
  cases w <;> simp only [jNst] at hn <;> first | exact va_Nw.warmF hW h7 | exact va_Nw.warmM hW h7 | cases hn
theorem jX_same {E : jE} {u U : State} (hv : u.vm = U.vm) (hh : U.heap = u.heap) (h : jX E u u.heap) : jX E U U.heap := by
  obtain ⟨h1, ⟨h2, h3⟩, h4, h5, h6⟩ := h
  rw [hh]
  have ha : u.vm.Alike U.vm := by rw [hv]; exact Vm.Alike.refl _
  refine ⟨fun w hw hn => ?_, ⟨vk_S.moved ha h2, fun q hq => vk_R.same hv.symm (h3 q hq)⟩, va_Z.moved ha h4, vx_Zq.moved ha h5, vx_Zq.moved ha h6⟩
  have h7 := h1 w hw hn
  cases w <;> simp only [jNst] at hn <;> first | exact va_Nw.same rfl hv h7 | cases hn
theorem jWld_of {E : jE} {I : jI} {P : jP} {s t : State} {H : Heap} {locs : List Loc} (hz : eZ E ≤ s.heap.size) (hH : jHp E I P H) (hS : va_S (jA E) s.heap H locs) (hK : va_K (eD E) vwCl (jTys E) s) (hX : jX E s s.heap) (hW : s.WarmedH t.vm) (ht : t.heap = H) : jWld E I P t :=
  ⟨by rw [ht]; exact Nat.le_trans hz hS.1, by rw [ht]; exact hH, va_K.moved hW.alike hK, jX_moved hX hS hW ht⟩
theorem jWld_blind {E : jE} {I : jI} {P : jP} {av : List Value} : FrameBlind (va_Pc av (jWld E I P)) := by
  intro a U g mk q
  obtain ⟨q0, q1, q2, q3, q4⟩ := q
  exact ⟨q0, q1, q2, va_K.moved (u := U) (U := U.calling g mk a) (Vm.Alike.refl U.vm) q3, jX_same (u := U) (U := U.calling g mk a) rfl rfl q4⟩
def jQ (E : jE) (Q : Option jV → jI → jP → Prop) : Array Value → State → Outcome → State → Prop := fun _ st oc t => (∃ (r : Option jV) (I : jI) (P : jP), oc = .returned (r.map jc) ∧ (∀ v, r = some v → jRv v) ∧ Q r I P ∧ jWld E I P t) ∧ va_F (jA E) st t
def jZ (E : jE) (Q : Option jV → jI → jP → Prop) : Code → List Frame → Array Value → State → State → Prop := fun _ below args s => MQ below (jQ E Q) args s 0 0 (jA E)
def jRm (d : Nat) : Room := { frames := d, cells := 0, slots := 0, locals := 60 * d }
def jws (y : MethodName) (cc : ByteArray) (n : Nat) (rt : Option FieldType) : List Cond := Cond.code y cc n rt :: jT
/-- the contract of a method that throws nothing: with these arguments, in this memory, it comes back with Q -/
def jC (E : jE) (y : MethodName) (cc : ByteArray) (n : Nat) (rt : Option FieldType) (d : Nat) (as : List jV) (I : jI) (P : jP) (Q : Option jV → jI → jP → Prop) : Prop :=
  jRs as → Met (eX E) y (jws y cc n rt) (jRm d) (va_Pc (as.map jc) (jWld E I P)) (jQ E Q) 0 0 (jA E)
theorem jRs_app {a b : List jV} : jRs (a ++ b) ↔ jRs a ∧ jRs b := by
  induction a with
  | nil => simp [jRs]
  | cons v t ih => simp [jRs, ih, and_assoc]
theorem jRs_rev {a : List jV} : jRs a.reverse ↔ jRs a := by
  induction a with
  | nil => simp [jRs]
  | cons v t ih => rw [List.reverse_cons, jRs_app, ih]; simp [jRs, and_comm]
theorem jRs_get {as : List jV} (h : jRs as) {i : Nat} {v : jV} (hi : as[i]? = some v) : jRv v := by
  induction as generalizing i with
  | nil => simp at hi
  | cons w t ih =>
    cases i with
    | zero => cases hi; exact h.1
    | succ k => exact ih h.2 (by simpa using hi)
theorem lv_args_mem1 : ∀ (vs : List Value) (i : Nat), (∀ v ∈ vs, v.category = 1) → ∀ (j : Nat) (v : Value), vs[j]? = some v → (i + j, v) ∈ lv_args i vs
  | [], i, _, j, v, hj => by simp at hj
  | w :: t, i, h, 0, v, hj => by cases hj; exact List.mem_cons_self
  | w :: t, i, h, j + 1, v, hj => by
    have h1 : w.category = 1 := h w List.mem_cons_self
    refine List.mem_cons_of_mem _ ?_
    rw [h1, if_neg (by decide)]
    have h2 := lv_args_mem1 t (i + 1) (fun u hu => h u (List.mem_cons_of_mem _ hu)) j v (by simpa using hj)
    rw [show i + (j + 1) = i + 1 + j by omega]
    exact h2
theorem lg_sl_len : ∀ (vs : List Value), (∀ v ∈ vs, v.category = 1) → (lg_sl vs).length = vs.length
  | [], _ => rfl
  | w :: t, h => by
    have h1 : w.category = 1 := h w List.mem_cons_self
    have h2 := lg_sl_len t (fun u hu => h u (List.mem_cons_of_mem _ hu))
    simp only [lg_sl, List.flatMap_cons, h1] at h2 ⊢
    simp only [List.length_append, List.length_cons]
    simp only [show ¬ (1 : Nat) = 2 by decide, if_false, List.length_cons, List.length_nil]
    omega
def jEnt (as : List jV) (n : Nat) : List (Option jV) := as.map some ++ List.replicate (n - as.length) none
theorem jEnt_at {as : List jV} {n i : Nat} {v : jV} (h : (jEnt as n)[i]? = some (some v)) : as[i]? = some v := by
  unfold jEnt at h
  by_cases hi : i < as.length
  · rw [List.getElem?_append_left (by simpa using hi), List.getElem?_map] at h
    cases hq : as[i]? with
    | none => rw [hq] at h; cases h
    | some w => rw [hq] at h; cases h; rfl
  · rw [List.getElem?_append_right (by simpa using hi), List.getElem?_replicate] at h
    split at h <;> cases h
theorem jC_intro {E : jE} {y : MethodName} {cc : ByteArray} {n d : Nat} {rt : Option FieldType} {as : List jV} {I : jI} {P : jP} {Q : Option jV → jI → jP → Prop} (hy : plainName y.cls = true) (hcat : ∀ v ∈ as, (jc v).category = 1) (hn : as.length ≤ n)
    (h : jJ E y.cls cc n rt (jRm d) (jZ E Q) 0 0 0 (jEnt as n) [] I P) : jC E y cc n rt d as I P Q := by
  intro hr
  refine Met.ofW (cc := cc) (maxL := n) (ret := rt) hy rfl ?_
  intro p e s m args below meth c s₁ B hml hv
  obtain ⟨rfl, hz, hH, hK, hX⟩ := hv
  have hcat2 : ∀ v ∈ as.map jc, v.category = 1 := by
    intro v hv
    obtain ⟨w, hw, rfl⟩ := List.mem_map.mp hv
    exact hcat w hw
  have hll := lg_sl_len (as.map jc) hcat2
  rw [lg_entry_eq]
  have hl := lv_entry (as.map jc) (n := n) (by rw [hll, List.length_map]; exact hn)
  refine h p e s m _ below meth c s.heap [] _ ⟨B.exec, B.bytes, B.returns, hml, findClass_of_methodNamed B.named, fun w hw => atoms_spec (ws := jws y cc n rt) B.pre w (List.mem_cons_of_mem _ hw), B.notSynchronized, hK, hX, hz⟩ hH va_S.rf ⟨⟨hl.1, hl.2.1, ?_⟩, ?_, ?_⟩ ?_ trivial
  · rintro ⟨j, w⟩ hq
    obtain ⟨v, h1, rfl⟩ := jLl_mem.mp hq
    have h2 := lv_args_mem1 (as.map jc) 0 hcat2 j (jc v) (by rw [List.getElem?_map, jEnt_at h1]; rfl)
    rw [Nat.zero_add] at h2
    exact hl.2.2 _ h2
  · simp [jEnt]; omega
  · intro i v h1
    exact hcat v (List.mem_of_getElem? (jEnt_at h1))
  · intro i v h1
    exact jRs_get hr (jEnt_at h1)
variable {E : jE} {own : String} {cc : ByteArray} {nL : Nat} {rt : Option FieldType} {R : Room} {Z : Code → List Frame → Array Value → State → State → Prop} {cs ss pc : Nat} {ls : List (Option jV)} {st : List jV} {I : jI} {P : jP} {Q : Option jV → jI → jP → Prop}
theorem jJ_iret {x : Int} (hd : decode cc pc = .ok (.ireturn, 1)) (hrt : rt = some .int) (hq : Q (some (ji x)) I P) : jJ E own cc nL rt R (jZ E Q) 0 0 pc ls [ji x] I P := by
  intro p e s m args below meth c H locs la hc hH hS hl h1 h2
  exact W.iret hc.1 hc.2.1 (hc.2.2.1.trans hrt) (fun t ht hW => ⟨⟨some (ji x), I, P, rfl, fun v hv => by cases hv; exact h2.1, hq, jWld_of hc.2.2.2.2.2.2.2.2.2 hH hS hc.2.2.2.2.2.2.2.1 hc.2.2.2.2.2.2.2.2.1 hW ht⟩, hS.F ht⟩) hS.2.2 hd hc.2.2.2.2.2.2.1
theorem jJ_zret {x : Int} (hd : decode cc pc = .ok (.ireturn, 1)) (hrt : rt = some .boolean) (hx : x = 0 ∨ x = 1) (hq : Q (some (ji x)) I P) : jJ E own cc nL rt R (jZ E Q) 0 0 pc ls [ji x] I P := by
  intro p e s m args below meth c H locs la hc hH hS hl h1 h2
  exact W.zret (ty := .boolean) hc.1 hc.2.1 (hc.2.2.1.trans hrt) (by rcases hx with rfl | rfl <;> decide) (fun t ht hW => ⟨⟨some (ji x), I, P, rfl, fun v hv => by cases hv; exact h2.1, hq, jWld_of hc.2.2.2.2.2.2.2.2.2 hH hS hc.2.2.2.2.2.2.2.1 hc.2.2.2.2.2.2.2.2.1 hW ht⟩, hS.F ht⟩) hS.2.2 hd hc.2.2.2.2.2.2.1
theorem jJ_vret (hd : decode cc pc = .ok (.return_, 1)) (hrt : rt = none) (hq : Q none I P) : jJ E own cc nL rt R (jZ E Q) 0 0 pc ls [] I P := by
  intro p e s m args below meth c H locs la hc hH hS hl h1 h2
  exact W.vret hc.1 hc.2.1 (hc.2.2.1.trans hrt) (fun t ht hW => ⟨⟨none, I, P, rfl, fun v hv => (by cases hv), hq, jWld_of hc.2.2.2.2.2.2.2.2.2 hH hS hc.2.2.2.2.2.2.2.1 hc.2.2.2.2.2.2.2.2.1 hW ht⟩, hS.F ht⟩) hS.2.2 hd hc.2.2.2.2.2.2.1
/-- the receiver is an object of the class C -/
def jRcv (E : jE) (C : String) (b : Nat) : Prop := (b ∈ eL E ∧ ∃ q : vw_C, vwCl[eK E b]? = some q ∧ q.1 = C) ∨ (C = "java/lang/String" ∧ ∃ i : Nat, i < 15 ∧ b = eSk E i)
theorem jRcv_of {C : String} {ci b : Nat} {q : vw_C} (hb : jK E ci b) (hq : vwCl[ci]? = some q) (hC : q.1 = C) : jRcv E C b := Or.inl ⟨hb.1, q, by rw [hb.2]; exact hq, hC⟩
def jPn (y : MethodName) (n : Nat) : Prop := y.cls ≠ "java/lang/invoke/MethodHandle" ∧ y.cls ≠ "java/lang/invoke/VarHandle" ∧ (parseMethodDescriptor y.desc).map (fun d => d.parameters.length) = some n
def jMv (own : String) (idx : Nat) (C : String) (y : MethodName) (c2 : ByteArray) (n2 : Nat) (rt2 : Option FieldType) (n : Nat) : Prop :=
  Cond.methodLink own idx y ∈ jT ∧ Cond.instanceMethod y ∈ jT ∧ Cond.selects C y y ∈ jT ∧ Cond.initialized C ∈ jT ∧ Cond.code y c2 n2 rt2 ∈ jT ∧ y.cls = C ∧ jPn y n
def jMs (own : String) (idx : Nat) (y : MethodName) (c2 : ByteArray) (n2 : Nat) (rt2 : Option FieldType) (n : Nat) : Prop :=
  (Cond.methodLink own idx y ∈ jT ∧ y.cls = own ∨ ∃ host, Cond.methodLinkNest own idx y host ∈ lw_tbl) ∧ Cond.static y ∈ jT ∧ Cond.initialized y.cls ∈ jT ∧ Cond.code y c2 n2 rt2 ∈ jT ∧ jPn y n
theorem jJ_goon {p : Program} {e : Env} {s : State} {m : MethodId} {args : Array Value} {below : List Frame} {meth : Method} {c : Code} {H : Heap} {locs : List Loc} {la : Array Slot} {st0 : List Value} {ag : Array Value} (hc : jCtx E own cc nL rt p s m args meth c) (hS : va_S (jA E) s.heap H locs) (hl : jLoc la nL ls) (h1 : jRl ls) (h2 : jRs st)
    (hrun : va_Run p (eX E) e R s m args below meth c H locs cs ss 0 0 (F0 m pc la st0) (st.map jc) (jQ E Q ag) (jA E)) (kk : ∀ r I' P', Q r I' P' → jJ E own cc nL rt R Z cs ss (pc + 3) ls (r.toList ++ st) I' P') : W p (eX E) e R s m args below meth c H locs cs ss (Z c below args s) (F0 m pc la st0) := by
  intro T hT X
  obtain ⟨v, st₀, t, T', L, h0, X', hL, e1, e2, ⟨⟨r, I', P', hv, hrv, hq, hwld⟩, hz, hk⟩, stp⟩ := hrun T hT X
  cases hv
  rw [h0] at hz hk
  have hS' : va_S (jA E) s.heap T'.heap (locs ++ L) := ⟨Nat.le_trans hS.1 (by rw [e1]; exact hz), fun q h1 h2 => by rw [e1, hk q (Nat.lt_of_lt_of_le h1 hS.1) h2]; exact hS.2.1 q h1 h2, fun q hq => by
      rcases List.mem_append.mp hq with h | h
      · exact hS.2.2 q h
      · exact hL q h⟩
  obtain ⟨t2, a1, b1⟩ := kk r I' P' hq p e s m args below meth c T'.heap (locs ++ L) la hc (by rw [e1]; exact hwld.2.1) hS' hl h1 (jRs_app.mpr ⟨by
    cases r with
    | none => trivial
    | some v => exact ⟨hrv v rfl, trivial⟩, h2⟩) T' rfl X'
  refine ⟨t2, stp t2 ?_, b1⟩
  have e3 : (r.map jc).toList ++ st.map jc = (r.toList ++ st).map jc := by cases r <;> simp
  rw [e3]
  exact a1
theorem jJ_callV {idx n2 d b : Nat} {C : String} {y : MethodName} {c2 : ByteArray} {rt2 : Option FieldType} {as : List jV} (hd : decode cc pc = .ok (.invokevirtual idx, 3)) (hM : jMv own idx C y c2 n2 rt2 as.length) (hrc : jRcv E C b) (hst : (st.map (fun v => (jc v).category)).sum ≤ 8) (hR : d + 1 ≤ R.frames ∧ 8 + (n2 + 11) + 60 * d ≤ R.locals ∧ cs ≤ R.cells ∧ ss ≤ R.slots)
    (hC : jC E y c2 n2 rt2 d (jp b :: as) I P Q) (kk : ∀ r I' P', Q r I' P' → jJ E own cc nL rt R Z cs ss (pc + 3) ls (r.toList ++ st) I' P') : jJ E own cc nL rt R Z cs ss pc ls (as.reverse ++ jp b :: st) I P := by
  intro p e s m args below meth c H locs la hc hH hS hl h1 h2
  obtain ⟨m1, m2, m3, m4, m5, m6, m7⟩ := hM
  obtain ⟨r1, r2⟩ := jRs_app.mp h2
  have hMet := hC ⟨trivial, jRs_rev.mp r1⟩
  have hgood : GoodIn jT (wsV own idx C y (jws y c2 n2 rt2)) := jT_good (fun w hw => by
    rcases List.mem_append.mp hw with h | h
    · simp only [List.mem_cons, List.not_mem_nil, or_false] at h
      rcases h with rfl | rfl | rfl | rfl
      · exact m1
      · exact m2
      · exact m3
      · exact m4
    · rcases List.mem_cons.mp h with rfl | h
      · exact m5
      · exact h)
  have hrecv : ∃ cellB : Cell, H[b]? = some cellB ∧ cellB.vm.isStatics = false ∧ s.vm.findClass C = some cellB.cls := by
    rcases hrc with ⟨hb, q, hq, rfl⟩ | ⟨rfl, i, hi, rfl⟩
    · obtain ⟨i0, hi0⟩ := jPool_get (I := I) (P := P) hb
      rw [jCell_obj rfl (jcl_nf hq).2] at hi0
      exact va_recv hc.2.2.2.2.2.2.2.1 hH.1 hq hi0
    · exact vk_recv hc.2.2.2.2.2.2.2.2.1.2.1.1 hi hS
  refine jJ_goon hc hS hl h1 r2.2 (va_runV (As := as.map jc) (b := b) ⟨hc.1, hc.2.1, hc.2.2.2.1, hc.2.2.2.2.1, hc.2.2.2.2.2.1⟩ hMet (cwV as.length hc.2.2.2.2.2.1 hgood rfl rfl rfl ⟨m6, m7⟩ ⟨hR.1, hR.2.1⟩) ⟨jWld_blind, hrecv, fun U hU hW => ⟨rfl, jWld_of hc.2.2.2.2.2.2.2.2.2 hH hS hc.2.2.2.2.2.2.2.1 hc.2.2.2.2.2.2.2.2.1 hW hU⟩⟩ rfl (by simp) hl.size ?_ ?_ hd ⟨hR.2.2.1, hR.2.2.2⟩) kk
  · simp [jc, va_rf, List.map_reverse]
  · refine lv_room ?_
    rw [List.map_map]
    exact hst
theorem jJ_callS {idx n2 d : Nat} {y : MethodName} {c2 : ByteArray} {rt2 : Option FieldType} {as : List jV} (hd : decode cc pc = .ok (.invokestatic idx, 3)) (hM : jMs own idx y c2 n2 rt2 as.length) (hst : (st.map (fun v => (jc v).category)).sum ≤ 8) (hR : d + 1 ≤ R.frames ∧ 8 + (n2 + 11) + 60 * d ≤ R.locals ∧ cs ≤ R.cells ∧ ss ≤ R.slots)
    (hC : jC E y c2 n2 rt2 d as I P Q) (kk : ∀ r I' P', Q r I' P' → jJ E own cc nL rt R Z cs ss (pc + 3) ls (r.toList ++ st) I' P') : jJ E own cc nL rt R Z cs ss pc ls (as.reverse ++ st) I P := by
  intro p e s m args below meth c H locs la hc hH hS hl h1 h2
  obtain ⟨m1, m2, m3, m4, m5⟩ := hM
  obtain ⟨r1, r2⟩ := jRs_app.mp h2
  have hMet := hC (jRs_rev.mp r1)
  have hws : ∀ w ∈ jws y c2 n2 rt2, w ∈ jT := fun w hw => by
    rcases List.mem_cons.mp hw with rfl | h
    · exact m4
    · exact h
  have hpre : PreS s H (va_Pc (as.map jc) (jWld E I P)) (as.map jc) := ⟨jWld_blind, fun U hU hW => ⟨rfl, jWld_of hc.2.2.2.2.2.2.2.2.2 hH hS hc.2.2.2.2.2.2.2.1 hc.2.2.2.2.2.2.2.2.1 hW hU⟩⟩
  have hstk : (F0 m pc la ((as.reverse ++ st).map jc)).stack = (as.map jc).reverse ++ st.map jc := by simp [List.map_reverse]
  have hroom : 2 * (F0 m pc la ((as.reverse ++ st).map jc)).monitorRoom + ((st.map jc).map fun v => v.category).sum ≤ 8 := by
    refine lv_room ?_
    rw [List.map_map]
    exact hst
  rcases m1 with ⟨m1, m6⟩ | ⟨host, m1⟩
  · have hgood : GoodIn jT (wsS own idx y (jws y c2 n2 rt2)) := jT_good (fun w hw => by
      rcases List.mem_append.mp hw with h | h
      · simp only [List.mem_cons, List.not_mem_nil, or_false] at h
        rcases h with rfl | rfl | rfl
        · exact m1
        · exact m2
        · rw [← m6]; exact m3
      · exact hws w h)
    exact jJ_goon hc hS hl h1 r2 (va_runS (As := as.map jc) ⟨hc.1, hc.2.1, hc.2.2.2.1, hc.2.2.2.2.1, hc.2.2.2.2.2.1⟩ hMet (cwS as.length hc.2.2.2.2.2.1 hgood rfl rfl rfl ⟨m6, m5⟩ ⟨hR.1, hR.2.1⟩) hpre rfl (by simp) hl.size hstk hroom hd ⟨hR.2.2.1, hR.2.2.2⟩) kk
  · exact jJ_goon hc hS hl h1 r2 (va_runSN (host := host) (As := as.map jc) ⟨hc.1, hc.2.1, hc.2.2.2.1, hc.2.2.2.2.1, hc.2.2.2.2.2.1⟩ hMet ⟨va_cnB as.length hc.2.2.2.2.2.1 (jT_good hws) rfl rfl rfl (hc.2.2.2.2.2.2.2.2.1.1 _ m1 rfl) (hc.2.2.2.2.2.1 _ m3) m5 ⟨hR.1, hR.2.1⟩, hc.2.2.2.2.2.1 _ m2, trivial⟩ hpre rfl (by simp) hl.size hstk hroom hd ⟨hR.2.2.1, hR.2.2.2⟩) kk
end JFF
end
