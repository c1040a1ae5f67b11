section
-- ===== PART A: goes FIRST, ahead of the names: the tables' words, and 'selects' of the private methods out of them =====
/-- a private method of a class that the tables say can be made, by its rows of tables_1 -/
def lw_okq (q : MethodName × Nat) : Prop := (q.1.cls ≠ "java/lang/invoke/MethodHandle" ∧ q.1.cls ≠ "java/lang/invoke/VarHandle") ∧ Cond.instantiable q.1.cls q.2 ∈ tables_1 ∧ Cond.privateMethod q.1 ∈ tables_1 ∧ Cond.instanceMethod q.1 ∈ tables_1
theorem lw_p0 : lw_okq (⟨"StringToll", "refuseBad", "()I"⟩, 15) := ⟨⟨by decide +kernel, by decide +kernel⟩, List.mem_of_getElem? (i := 17) (by decide +kernel), List.mem_of_getElem? (i := 241) (by decide +kernel), List.mem_of_getElem? (i := 242) (by decide +kernel)⟩
theorem lw_p1 : lw_okq (⟨"StringToll", "refuseFull", "()I"⟩, 15) := ⟨⟨by decide +kernel, by decide +kernel⟩, List.mem_of_getElem? (i := 17) (by decide +kernel), List.mem_of_getElem? (i := 278) (by decide +kernel), List.mem_of_getElem? (i := 279) (by decide +kernel)⟩
theorem lw_p2 : lw_okq (⟨"StringToll$Text", "readFirst", "(LStringToll$Province;)Z"⟩, 6) := ⟨⟨by decide +kernel, by decide +kernel⟩, List.mem_of_getElem? (i := 111) (by decide +kernel), List.mem_of_getElem? (i := 308) (by decide +kernel), List.mem_of_getElem? (i := 309) (by decide +kernel)⟩
theorem lw_p3 : lw_okq (⟨"StringToll$Text", "advance", "()V"⟩, 6) := ⟨⟨by decide +kernel, by decide +kernel⟩, List.mem_of_getElem? (i := 111) (by decide +kernel), List.mem_of_getElem? (i := 312) (by decide +kernel), List.mem_of_getElem? (i := 313) (by decide +kernel)⟩
theorem lw_p4 : lw_okq (⟨"StringToll$Text", "tokenAt", "(I)I"⟩, 6) := ⟨⟨by decide +kernel, by decide +kernel⟩, List.mem_of_getElem? (i := 111) (by decide +kernel), List.mem_of_getElem? (i := 316) (by decide +kernel), List.mem_of_getElem? (i := 317) (by decide +kernel)⟩
theorem lw_p5 : lw_okq (⟨"StringToll$Text", "takeFigures", "()V"⟩, 6) := ⟨⟨by decide +kernel, by decide +kernel⟩, List.mem_of_getElem? (i := 111) (by decide +kernel), List.mem_of_getElem? (i := 321) (by decide +kernel), List.mem_of_getElem? (i := 322) (by decide +kernel)⟩
theorem lw_p6 : lw_okq (⟨"StringToll$Text", "isWord", "(Ljava/lang/String;)Z"⟩, 6) := ⟨⟨by decide +kernel, by decide +kernel⟩, List.mem_of_getElem? (i := 111) (by decide +kernel), List.mem_of_getElem? (i := 326) (by decide +kernel), List.mem_of_getElem? (i := 327) (by decide +kernel)⟩
theorem lw_p7 : lw_okq (⟨"StringToll$Text", "takeNumber", "(II)Z"⟩, 6) := ⟨⟨by decide +kernel, by decide +kernel⟩, List.mem_of_getElem? (i := 111) (by decide +kernel), List.mem_of_getElem? (i := 378) (by decide +kernel), List.mem_of_getElem? (i := 379) (by decide +kernel)⟩
theorem lw_p8 : lw_okq (⟨"StringToll$Text", "stops", "()Z"⟩, 6) := ⟨⟨by decide +kernel, by decide +kernel⟩, List.mem_of_getElem? (i := 111) (by decide +kernel), List.mem_of_getElem? (i := 383) (by decide +kernel), List.mem_of_getElem? (i := 384) (by decide +kernel)⟩
theorem lw_p9 : lw_okq (⟨"StringToll$Text", "readItem", "(LStringToll$Province;)Z"⟩, 6) := ⟨⟨by decide +kernel, by decide +kernel⟩, List.mem_of_getElem? (i := 111) (by decide +kernel), List.mem_of_getElem? (i := 387) (by decide +kernel), List.mem_of_getElem? (i := 388) (by decide +kernel)⟩
theorem lw_p10 : lw_okq (⟨"StringToll$Text", "readHouse", "(LStringToll$Province;)Z"⟩, 6) := ⟨⟨by decide +kernel, by decide +kernel⟩, List.mem_of_getElem? (i := 111) (by decide +kernel), List.mem_of_getElem? (i := 392) (by decide +kernel), List.mem_of_getElem? (i := 393) (by decide +kernel)⟩
theorem lw_p11 : lw_okq (⟨"StringToll$Text", "readString", "(LStringToll$Province;)Z"⟩, 6) := ⟨⟨by decide +kernel, by decide +kernel⟩, List.mem_of_getElem? (i := 111) (by decide +kernel), List.mem_of_getElem? (i := 399) (by decide +kernel), List.mem_of_getElem? (i := 400) (by decide +kernel)⟩
theorem lw_p12 : lw_okq (⟨"StringToll$Text", "readPurse", "(LStringToll$Province;)Z"⟩, 6) := ⟨⟨by decide +kernel, by decide +kernel⟩, List.mem_of_getElem? (i := 111) (by decide +kernel), List.mem_of_getElem? (i := 405) (by decide +kernel), List.mem_of_getElem? (i := 406) (by decide +kernel)⟩
theorem lw_p13 : lw_okq (⟨"StringToll$Province", "tollOn", "(II)I"⟩, 12) := ⟨⟨by decide +kernel, by decide +kernel⟩, List.mem_of_getElem? (i := 25) (by decide +kernel), List.mem_of_getElem? (i := 434) (by decide +kernel), List.mem_of_getElem? (i := 435) (by decide +kernel)⟩
theorem lw_p14 : lw_okq (⟨"StringToll$Text", "readWait", "(LStringToll$Province;)Z"⟩, 6) := ⟨⟨by decide +kernel, by decide +kernel⟩, List.mem_of_getElem? (i := 111) (by decide +kernel), List.mem_of_getElem? (i := 449) (by decide +kernel), List.mem_of_getElem? (i := 450) (by decide +kernel)⟩
theorem lw_p15 : lw_okq (⟨"StringToll", "refuseNo", "()I"⟩, 15) := ⟨⟨by decide +kernel, by decide +kernel⟩, List.mem_of_getElem? (i := 17) (by decide +kernel), List.mem_of_getElem? (i := 471) (by decide +kernel), List.mem_of_getElem? (i := 472) (by decide +kernel)⟩
def lw_privs_1 : List (MethodName × Nat) := [(⟨"StringToll", "refuseBad", "()I"⟩, 15), (⟨"StringToll", "refuseFull", "()I"⟩, 15), (⟨"StringToll$Text", "readFirst", "(LStringToll$Province;)Z"⟩, 6), (⟨"StringToll$Text", "advance", "()V"⟩, 6), (⟨"StringToll$Text", "tokenAt", "(I)I"⟩, 6), (⟨"StringToll$Text", "takeFigures", "()V"⟩, 6), (⟨"StringToll$Text", "isWord", "(Ljava/lang/String;)Z"⟩, 6), (⟨"StringToll$Text", "takeNumber", "(II)Z"⟩, 6), (⟨"StringToll$Text", "stops", "()Z"⟩, 6), (⟨"StringToll$Text", "readItem", "(LStringToll$Province;)Z"⟩, 6), (⟨"StringToll$Text", "readHouse", "(LStringToll$Province;)Z"⟩, 6), (⟨"StringToll$Text", "readString", "(LStringToll$Province;)Z"⟩, 6), (⟨"StringToll$Text", "readPurse", "(LStringToll$Province;)Z"⟩, 6), (⟨"StringToll$Province", "tollOn", "(II)I"⟩, 12), (⟨"StringToll$Text", "readWait", "(LStringToll$Province;)Z"⟩, 6), (⟨"StringToll", "refuseNo", "()I"⟩, 15)]
theorem lw_r1 : ∀ q ∈ lw_privs_1, lw_okq q := List.forall_mem_cons.mpr ⟨lw_p0, List.forall_mem_cons.mpr ⟨lw_p1, List.forall_mem_cons.mpr ⟨lw_p2, List.forall_mem_cons.mpr ⟨lw_p3, List.forall_mem_cons.mpr ⟨lw_p4, List.forall_mem_cons.mpr ⟨lw_p5, List.forall_mem_cons.mpr ⟨lw_p6, List.forall_mem_cons.mpr ⟨lw_p7, List.forall_mem_cons.mpr ⟨lw_p8, List.forall_mem_cons.mpr ⟨lw_p9, List.forall_mem_cons.mpr ⟨lw_p10, List.forall_mem_cons.mpr ⟨lw_p11, List.forall_mem_cons.mpr ⟨lw_p12, List.forall_mem_cons.mpr ⟨lw_p13, List.forall_mem_cons.mpr ⟨lw_p14, List.forall_mem_cons.mpr ⟨lw_p15, fun _ h => absurd h List.not_mem_nil⟩⟩⟩⟩⟩⟩⟩⟩⟩⟩⟩⟩⟩⟩⟩⟩
theorem lw_p16 : lw_okq (⟨"StringToll$RowSearch", "keepPath", "(II)V"⟩, 5) := ⟨⟨by decide +kernel, by decide +kernel⟩, List.mem_of_getElem? (i := 138) (by decide +kernel), List.mem_of_getElem? (i := 547) (by decide +kernel), List.mem_of_getElem? (i := 548) (by decide +kernel)⟩
theorem lw_p17 : lw_okq (⟨"StringToll$RowSearch", "isOnPath", "(II)Z"⟩, 5) := ⟨⟨by decide +kernel, by decide +kernel⟩, List.mem_of_getElem? (i := 138) (by decide +kernel), List.mem_of_getElem? (i := 552) (by decide +kernel), List.mem_of_getElem? (i := 553) (by decide +kernel)⟩
theorem lw_p18 : lw_okq (⟨"StringToll", "keep", "(LStringToll$Records;IIII)I"⟩, 15) := ⟨⟨by decide +kernel, by decide +kernel⟩, List.mem_of_getElem? (i := 17) (by decide +kernel), List.mem_of_getElem? (i := 571) (by decide +kernel), List.mem_of_getElem? (i := 572) (by decide +kernel)⟩
theorem lw_p19 : lw_okq (⟨"StringToll$Guess", "fits", "(LStringToll$Province;I)Z"⟩, 2) := ⟨⟨by decide +kernel, by decide +kernel⟩, List.mem_of_getElem? (i := 162) (by decide +kernel), List.mem_of_getElem? (i := 583) (by decide +kernel), List.mem_of_getElem? (i := 584) (by decide +kernel)⟩
theorem lw_p20 : lw_okq (⟨"StringToll$Guess", "notesFit", "(LStringToll$Province;II)Z"⟩, 2) := ⟨⟨by decide +kernel, by decide +kernel⟩, List.mem_of_getElem? (i := 162) (by decide +kernel), List.mem_of_getElem? (i := 629) (by decide +kernel), List.mem_of_getElem? (i := 630) (by decide +kernel)⟩
theorem lw_p21 : lw_okq (⟨"StringToll$Guess", "putAnswer", "(I)V"⟩, 2) := ⟨⟨by decide +kernel, by decide +kernel⟩, List.mem_of_getElem? (i := 162) (by decide +kernel), List.mem_of_getElem? (i := 644) (by decide +kernel), List.mem_of_getElem? (i := 645) (by decide +kernel)⟩
theorem lw_p22 : lw_okq (⟨"StringToll$Guess", "mostAlike", "()I"⟩, 2) := ⟨⟨by decide +kernel, by decide +kernel⟩, List.mem_of_getElem? (i := 162) (by decide +kernel), List.mem_of_getElem? (i := 649) (by decide +kernel), List.mem_of_getElem? (i := 650) (by decide +kernel)⟩
theorem lw_p23 : lw_okq (⟨"StringToll$Guess", "marksFit", "(LStringToll$Province;II)Z"⟩, 2) := ⟨⟨by decide +kernel, by decide +kernel⟩, List.mem_of_getElem? (i := 162) (by decide +kernel), List.mem_of_getElem? (i := 661) (by decide +kernel), List.mem_of_getElem? (i := 662) (by decide +kernel)⟩
theorem lw_p24 : lw_okq (⟨"StringToll$TwoEnds", "reckonPair", "(LStringToll$Province;II)V"⟩, 2) := ⟨⟨by decide +kernel, by decide +kernel⟩, List.mem_of_getElem? (i := 175) (by decide +kernel), List.mem_of_getElem? (i := 683) (by decide +kernel), List.mem_of_getElem? (i := 684) (by decide +kernel)⟩
theorem lw_p25 : lw_okq (⟨"StringToll$TwoEnds", "rests", "(II)Z"⟩, 2) := ⟨⟨by decide +kernel, by decide +kernel⟩, List.mem_of_getElem? (i := 175) (by decide +kernel), List.mem_of_getElem? (i := 695) (by decide +kernel), List.mem_of_getElem? (i := 696) (by decide +kernel)⟩
theorem lw_p26 : lw_okq (⟨"StringToll", "setFraction", "(I)V"⟩, 15) := ⟨⟨by decide +kernel, by decide +kernel⟩, List.mem_of_getElem? (i := 17) (by decide +kernel), List.mem_of_getElem? (i := 708) (by decide +kernel), List.mem_of_getElem? (i := 709) (by decide +kernel)⟩
theorem lw_p27 : lw_okq (⟨"StringToll", "howMany", "(I)I"⟩, 15) := ⟨⟨by decide +kernel, by decide +kernel⟩, List.mem_of_getElem? (i := 17) (by decide +kernel), List.mem_of_getElem? (i := 753) (by decide +kernel), List.mem_of_getElem? (i := 754) (by decide +kernel)⟩
theorem lw_p28 : lw_okq (⟨"StringTollModel", "begins", "(III)V"⟩, 18) := ⟨⟨by decide +kernel, by decide +kernel⟩, List.mem_of_getElem? (i := 769) (by decide +kernel), List.mem_of_getElem? (i := 775) (by decide +kernel), List.mem_of_getElem? (i := 776) (by decide +kernel)⟩
theorem lw_p29 : lw_okq (⟨"StringTollModel", "bad", "(I)I"⟩, 18) := ⟨⟨by decide +kernel, by decide +kernel⟩, List.mem_of_getElem? (i := 769) (by decide +kernel), List.mem_of_getElem? (i := 844) (by decide +kernel), List.mem_of_getElem? (i := 845) (by decide +kernel)⟩
theorem lw_p30 : lw_okq (⟨"StringTollModel", "full", "()I"⟩, 18) := ⟨⟨by decide +kernel, by decide +kernel⟩, List.mem_of_getElem? (i := 769) (by decide +kernel), List.mem_of_getElem? (i := 860) (by decide +kernel), List.mem_of_getElem? (i := 861) (by decide +kernel)⟩
theorem lw_p31 : lw_okq (⟨"StringTollModel", "adds", "(III)V"⟩, 18) := ⟨⟨by decide +kernel, by decide +kernel⟩, List.mem_of_getElem? (i := 769) (by decide +kernel), List.mem_of_getElem? (i := 864) (by decide +kernel), List.mem_of_getElem? (i := 865) (by decide +kernel)⟩
def lw_privs_2 : List (MethodName × Nat) := [(⟨"StringToll$RowSearch", "keepPath", "(II)V"⟩, 5), (⟨"StringToll$RowSearch", "isOnPath", "(II)Z"⟩, 5), (⟨"StringToll", "keep", "(LStringToll$Records;IIII)I"⟩, 15), (⟨"StringToll$Guess", "fits", "(LStringToll$Province;I)Z"⟩, 2), (⟨"StringToll$Guess", "notesFit", "(LStringToll$Province;II)Z"⟩, 2), (⟨"StringToll$Guess", "putAnswer", "(I)V"⟩, 2), (⟨"StringToll$Guess", "mostAlike", "()I"⟩, 2), (⟨"StringToll$Guess", "marksFit", "(LStringToll$Province;II)Z"⟩, 2), (⟨"StringToll$TwoEnds", "reckonPair", "(LStringToll$Province;II)V"⟩, 2), (⟨"StringToll$TwoEnds", "rests", "(II)Z"⟩, 2), (⟨"StringToll", "setFraction", "(I)V"⟩, 15), (⟨"StringToll", "howMany", "(I)I"⟩, 15), (⟨"StringTollModel", "begins", "(III)V"⟩, 18), (⟨"StringTollModel", "bad", "(I)I"⟩, 18), (⟨"StringTollModel", "full", "()I"⟩, 18), (⟨"StringTollModel", "adds", "(III)V"⟩, 18)]
theorem lw_r2 : ∀ q ∈ lw_privs_2, lw_okq q := List.forall_mem_cons.mpr ⟨lw_p16, List.forall_mem_cons.mpr ⟨lw_p17, List.forall_mem_cons.mpr ⟨lw_p18, List.forall_mem_cons.mpr ⟨lw_p19, List.forall_mem_cons.mpr ⟨lw_p20, List.forall_mem_cons.mpr ⟨lw_p21, List.forall_mem_cons.mpr ⟨lw_p22, List.forall_mem_cons.mpr ⟨lw_p23, List.forall_mem_cons.mpr ⟨lw_p24, List.forall_mem_cons.mpr ⟨lw_p25, List.forall_mem_cons.mpr ⟨lw_p26, List.forall_mem_cons.mpr ⟨lw_p27, List.forall_mem_cons.mpr ⟨lw_p28, List.forall_mem_cons.mpr ⟨lw_p29, List.forall_mem_cons.mpr ⟨lw_p30, List.forall_mem_cons.mpr ⟨lw_p31, fun _ h => absurd h List.not_mem_nil⟩⟩⟩⟩⟩⟩⟩⟩⟩⟩⟩⟩⟩⟩⟩⟩
theorem lw_p32 : lw_okq (⟨"StringTollModel", "blanks", "()V"⟩, 18) := ⟨⟨by decide +kernel, by decide +kernel⟩, List.mem_of_getElem? (i := 769) (by decide +kernel), List.mem_of_getElem? (i := 881) (by decide +kernel), List.mem_of_getElem? (i := 882) (by decide +kernel)⟩
theorem lw_p33 : lw_okq (⟨"StringTollModel", "byteAt", "(I)I"⟩, 18) := ⟨⟨by decide +kernel, by decide +kernel⟩, List.mem_of_getElem? (i := 769) (by decide +kernel), List.mem_of_getElem? (i := 885) (by decide +kernel), List.mem_of_getElem? (i := 886) (by decide +kernel)⟩
theorem lw_p34 : lw_okq (⟨"StringTollModel", "readsItem", "(Z)Z"⟩, 18) := ⟨⟨by decide +kernel, by decide +kernel⟩, List.mem_of_getElem? (i := 769) (by decide +kernel), List.mem_of_getElem? (i := 889) (by decide +kernel), List.mem_of_getElem? (i := 890) (by decide +kernel)⟩
theorem lw_p35 : lw_okq (⟨"StringTollModel", "takesWord", "()V"⟩, 18) := ⟨⟨by decide +kernel, by decide +kernel⟩, List.mem_of_getElem? (i := 769) (by decide +kernel), List.mem_of_getElem? (i := 893) (by decide +kernel), List.mem_of_getElem? (i := 894) (by decide +kernel)⟩
theorem lw_p36 : lw_okq (⟨"StringTollModel", "wordOf", "()I"⟩, 18) := ⟨⟨by decide +kernel, by decide +kernel⟩, List.mem_of_getElem? (i := 769) (by decide +kernel), List.mem_of_getElem? (i := 899) (by decide +kernel), List.mem_of_getElem? (i := 900) (by decide +kernel)⟩
theorem lw_p37 : lw_okq (⟨"StringTollModel", "isWord", "(IIIIIII)Z"⟩, 18) := ⟨⟨by decide +kernel, by decide +kernel⟩, List.mem_of_getElem? (i := 769) (by decide +kernel), List.mem_of_getElem? (i := 903) (by decide +kernel), List.mem_of_getElem? (i := 904) (by decide +kernel)⟩
theorem lw_p38 : lw_okq (⟨"StringTollModel", "isLetter", "(III)Z"⟩, 18) := ⟨⟨by decide +kernel, by decide +kernel⟩, List.mem_of_getElem? (i := 769) (by decide +kernel), List.mem_of_getElem? (i := 907) (by decide +kernel), List.mem_of_getElem? (i := 908) (by decide +kernel)⟩
theorem lw_p39 : lw_okq (⟨"StringTollModel", "isProvince", "()Z"⟩, 18) := ⟨⟨by decide +kernel, by decide +kernel⟩, List.mem_of_getElem? (i := 769) (by decide +kernel), List.mem_of_getElem? (i := 911) (by decide +kernel), List.mem_of_getElem? (i := 912) (by decide +kernel)⟩
theorem lw_p40 : lw_okq (⟨"StringTollModel", "readsProvince", "()Z"⟩, 18) := ⟨⟨by decide +kernel, by decide +kernel⟩, List.mem_of_getElem? (i := 769) (by decide +kernel), List.mem_of_getElem? (i := 915) (by decide +kernel), List.mem_of_getElem? (i := 916) (by decide +kernel)⟩
theorem lw_p41 : lw_okq (⟨"StringTollModel", "takesNumber", "(II)Z"⟩, 18) := ⟨⟨by decide +kernel, by decide +kernel⟩, List.mem_of_getElem? (i := 769) (by decide +kernel), List.mem_of_getElem? (i := 919) (by decide +kernel), List.mem_of_getElem? (i := 920) (by decide +kernel)⟩
theorem lw_p42 : lw_okq (⟨"StringTollModel", "readsHouse", "()Z"⟩, 18) := ⟨⟨by decide +kernel, by decide +kernel⟩, List.mem_of_getElem? (i := 769) (by decide +kernel), List.mem_of_getElem? (i := 926) (by decide +kernel), List.mem_of_getElem? (i := 927) (by decide +kernel)⟩
theorem lw_p43 : lw_okq (⟨"StringTollModel", "readsString", "()Z"⟩, 18) := ⟨⟨by decide +kernel, by decide +kernel⟩, List.mem_of_getElem? (i := 769) (by decide +kernel), List.mem_of_getElem? (i := 930) (by decide +kernel), List.mem_of_getElem? (i := 931) (by decide +kernel)⟩
theorem lw_p44 : lw_okq (⟨"StringTollModel", "readsPurse", "()Z"⟩, 18) := ⟨⟨by decide +kernel, by decide +kernel⟩, List.mem_of_getElem? (i := 769) (by decide +kernel), List.mem_of_getElem? (i := 934) (by decide +kernel), List.mem_of_getElem? (i := 935) (by decide +kernel)⟩
theorem lw_p45 : lw_okq (⟨"StringTollModel", "readsSend", "()Z"⟩, 18) := ⟨⟨by decide +kernel, by decide +kernel⟩, List.mem_of_getElem? (i := 769) (by decide +kernel), List.mem_of_getElem? (i := 938) (by decide +kernel), List.mem_of_getElem? (i := 939) (by decide +kernel)⟩
theorem lw_p46 : lw_okq (⟨"StringTollModel", "canSend", "(II)Z"⟩, 18) := ⟨⟨by decide +kernel, by decide +kernel⟩, List.mem_of_getElem? (i := 769) (by decide +kernel), List.mem_of_getElem? (i := 942) (by decide +kernel), List.mem_of_getElem? (i := 943) (by decide +kernel)⟩
theorem lw_p47 : lw_okq (⟨"StringTollModel", "costIn", "(III)I"⟩, 18) := ⟨⟨by decide +kernel, by decide +kernel⟩, List.mem_of_getElem? (i := 769) (by decide +kernel), List.mem_of_getElem? (i := 946) (by decide +kernel), List.mem_of_getElem? (i := 947) (by decide +kernel)⟩
def lw_privs_3 : List (MethodName × Nat) := [(⟨"StringTollModel", "blanks", "()V"⟩, 18), (⟨"StringTollModel", "byteAt", "(I)I"⟩, 18), (⟨"StringTollModel", "readsItem", "(Z)Z"⟩, 18), (⟨"StringTollModel", "takesWord", "()V"⟩, 18), (⟨"StringTollModel", "wordOf", "()I"⟩, 18), (⟨"StringTollModel", "isWord", "(IIIIIII)Z"⟩, 18), (⟨"StringTollModel", "isLetter", "(III)Z"⟩, 18), (⟨"StringTollModel", "isProvince", "()Z"⟩, 18), (⟨"StringTollModel", "readsProvince", "()Z"⟩, 18), (⟨"StringTollModel", "takesNumber", "(II)Z"⟩, 18), (⟨"StringTollModel", "readsHouse", "()Z"⟩, 18), (⟨"StringTollModel", "readsString", "()Z"⟩, 18), (⟨"StringTollModel", "readsPurse", "()Z"⟩, 18), (⟨"StringTollModel", "readsSend", "()Z"⟩, 18), (⟨"StringTollModel", "canSend", "(II)Z"⟩, 18), (⟨"StringTollModel", "costIn", "(III)I"⟩, 18)]
theorem lw_r3 : ∀ q ∈ lw_privs_3, lw_okq q := List.forall_mem_cons.mpr ⟨lw_p32, List.forall_mem_cons.mpr ⟨lw_p33, List.forall_mem_cons.mpr ⟨lw_p34, List.forall_mem_cons.mpr ⟨lw_p35, List.forall_mem_cons.mpr ⟨lw_p36, List.forall_mem_cons.mpr ⟨lw_p37, List.forall_mem_cons.mpr ⟨lw_p38, List.forall_mem_cons.mpr ⟨lw_p39, List.forall_mem_cons.mpr ⟨lw_p40, List.forall_mem_cons.mpr ⟨lw_p41, List.forall_mem_cons.mpr ⟨lw_p42, List.forall_mem_cons.mpr ⟨lw_p43, List.forall_mem_cons.mpr ⟨lw_p44, List.forall_mem_cons.mpr ⟨lw_p45, List.forall_mem_cons.mpr ⟨lw_p46, List.forall_mem_cons.mpr ⟨lw_p47, fun _ h => absurd h List.not_mem_nil⟩⟩⟩⟩⟩⟩⟩⟩⟩⟩⟩⟩⟩⟩⟩⟩
theorem lw_p48 : lw_okq (⟨"StringTollModel", "showsIn", "(III)I"⟩, 18) := ⟨⟨by decide +kernel, by decide +kernel⟩, List.mem_of_getElem? (i := 769) (by decide +kernel), List.mem_of_getElem? (i := 950) (by decide +kernel), List.mem_of_getElem? (i := 951) (by decide +kernel)⟩
theorem lw_p49 : lw_okq (⟨"StringTollModel", "isSent", "(II)V"⟩, 18) := ⟨⟨by decide +kernel, by decide +kernel⟩, List.mem_of_getElem? (i := 769) (by decide +kernel), List.mem_of_getElem? (i := 972) (by decide +kernel), List.mem_of_getElem? (i := 973) (by decide +kernel)⟩
theorem lw_p50 : lw_okq (⟨"StringTollModel", "bringsIn", "(II)I"⟩, 18) := ⟨⟨by decide +kernel, by decide +kernel⟩, List.mem_of_getElem? (i := 769) (by decide +kernel), List.mem_of_getElem? (i := 976) (by decide +kernel), List.mem_of_getElem? (i := 977) (by decide +kernel)⟩
theorem lw_p51 : lw_okq (⟨"StringTollModel", "readsWait", "()Z"⟩, 18) := ⟨⟨by decide +kernel, by decide +kernel⟩, List.mem_of_getElem? (i := 769) (by decide +kernel), List.mem_of_getElem? (i := 983) (by decide +kernel), List.mem_of_getElem? (i := 984) (by decide +kernel)⟩
theorem lw_p52 : lw_okq (⟨"StringTollModel", "takesEnd", "()Z"⟩, 18) := ⟨⟨by decide +kernel, by decide +kernel⟩, List.mem_of_getElem? (i := 769) (by decide +kernel), List.mem_of_getElem? (i := 987) (by decide +kernel), List.mem_of_getElem? (i := 988) (by decide +kernel)⟩
theorem lw_p53 : lw_okq (⟨"StringTollModel", "copy", "(II)V"⟩, 18) := ⟨⟨by decide +kernel, by decide +kernel⟩, List.mem_of_getElem? (i := 769) (by decide +kernel), List.mem_of_getElem? (i := 991) (by decide +kernel), List.mem_of_getElem? (i := 992) (by decide +kernel)⟩
theorem lw_p54 : lw_okq (⟨"StringTollModel", "isString", "(I)Z"⟩, 18) := ⟨⟨by decide +kernel, by decide +kernel⟩, List.mem_of_getElem? (i := 769) (by decide +kernel), List.mem_of_getElem? (i := 999) (by decide +kernel), List.mem_of_getElem? (i := 1000) (by decide +kernel)⟩
theorem lw_p55 : lw_okq (⟨"StringTollModel", "no", "()I"⟩, 18) := ⟨⟨by decide +kernel, by decide +kernel⟩, List.mem_of_getElem? (i := 769) (by decide +kernel), List.mem_of_getElem? (i := 1003) (by decide +kernel), List.mem_of_getElem? (i := 1004) (by decide +kernel)⟩
theorem lw_p56 : lw_okq (⟨"StringTollModel", "minds", "()V"⟩, 18) := ⟨⟨by decide +kernel, by decide +kernel⟩, List.mem_of_getElem? (i := 769) (by decide +kernel), List.mem_of_getElem? (i := 1007) (by decide +kernel), List.mem_of_getElem? (i := 1008) (by decide +kernel)⟩
theorem lw_p57 : lw_okq (⟨"StringTollModel", "costOf", "(II)I"⟩, 18) := ⟨⟨by decide +kernel, by decide +kernel⟩, List.mem_of_getElem? (i := 769) (by decide +kernel), List.mem_of_getElem? (i := 1043) (by decide +kernel), List.mem_of_getElem? (i := 1044) (by decide +kernel)⟩
theorem lw_p58 : lw_okq (⟨"StringTollModel", "bestHaul", "()I"⟩, 18) := ⟨⟨by decide +kernel, by decide +kernel⟩, List.mem_of_getElem? (i := 769) (by decide +kernel), List.mem_of_getElem? (i := 1051) (by decide +kernel), List.mem_of_getElem? (i := 1052) (by decide +kernel)⟩
theorem lw_p59 : lw_okq (⟨"StringTollModel", "fits", "(I)Z"⟩, 18) := ⟨⟨by decide +kernel, by decide +kernel⟩, List.mem_of_getElem? (i := 769) (by decide +kernel), List.mem_of_getElem? (i := 1066) (by decide +kernel), List.mem_of_getElem? (i := 1067) (by decide +kernel)⟩
theorem lw_p60 : lw_okq (⟨"StringTollModel", "kindsOf", "(I)I"⟩, 18) := ⟨⟨by decide +kernel, by decide +kernel⟩, List.mem_of_getElem? (i := 769) (by decide +kernel), List.mem_of_getElem? (i := 1092) (by decide +kernel), List.mem_of_getElem? (i := 1093) (by decide +kernel)⟩
theorem lw_p61 : lw_okq (⟨"StringTollModel", "greatest", "(I)I"⟩, 18) := ⟨⟨by decide +kernel, by decide +kernel⟩, List.mem_of_getElem? (i := 769) (by decide +kernel), List.mem_of_getElem? (i := 1100) (by decide +kernel), List.mem_of_getElem? (i := 1101) (by decide +kernel)⟩
theorem lw_p62 : lw_okq (⟨"StringTollModel", "housesOf", "(I)I"⟩, 18) := ⟨⟨by decide +kernel, by decide +kernel⟩, List.mem_of_getElem? (i := 769) (by decide +kernel), List.mem_of_getElem? (i := 1108) (by decide +kernel), List.mem_of_getElem? (i := 1109) (by decide +kernel)⟩
theorem lw_p63 : lw_okq (⟨"StringTollModel", "rests", "(II)Z"⟩, 18) := ⟨⟨by decide +kernel, by decide +kernel⟩, List.mem_of_getElem? (i := 769) (by decide +kernel), List.mem_of_getElem? (i := 1120) (by decide +kernel), List.mem_of_getElem? (i := 1121) (by decide +kernel)⟩
def lw_privs_4 : List (MethodName × Nat) := [(⟨"StringTollModel", "showsIn", "(III)I"⟩, 18), (⟨"StringTollModel", "isSent", "(II)V"⟩, 18), (⟨"StringTollModel", "bringsIn", "(II)I"⟩, 18), (⟨"StringTollModel", "readsWait", "()Z"⟩, 18), (⟨"StringTollModel", "takesEnd", "()Z"⟩, 18), (⟨"StringTollModel", "copy", "(II)V"⟩, 18), (⟨"StringTollModel", "isString", "(I)Z"⟩, 18), (⟨"StringTollModel", "no", "()I"⟩, 18), (⟨"StringTollModel", "minds", "()V"⟩, 18), (⟨"StringTollModel", "costOf", "(II)I"⟩, 18), (⟨"StringTollModel", "bestHaul", "()I"⟩, 18), (⟨"StringTollModel", "fits", "(I)Z"⟩, 18), (⟨"StringTollModel", "kindsOf", "(I)I"⟩, 18), (⟨"StringTollModel", "greatest", "(I)I"⟩, 18), (⟨"StringTollModel", "housesOf", "(I)I"⟩, 18), (⟨"StringTollModel", "rests", "(II)Z"⟩, 18)]
theorem lw_r4 : ∀ q ∈ lw_privs_4, lw_okq q := List.forall_mem_cons.mpr ⟨lw_p48, List.forall_mem_cons.mpr ⟨lw_p49, List.forall_mem_cons.mpr ⟨lw_p50, List.forall_mem_cons.mpr ⟨lw_p51, List.forall_mem_cons.mpr ⟨lw_p52, List.forall_mem_cons.mpr ⟨lw_p53, List.forall_mem_cons.mpr ⟨lw_p54, List.forall_mem_cons.mpr ⟨lw_p55, List.forall_mem_cons.mpr ⟨lw_p56, List.forall_mem_cons.mpr ⟨lw_p57, List.forall_mem_cons.mpr ⟨lw_p58, List.forall_mem_cons.mpr ⟨lw_p59, List.forall_mem_cons.mpr ⟨lw_p60, List.forall_mem_cons.mpr ⟨lw_p61, List.forall_mem_cons.mpr ⟨lw_p62, List.forall_mem_cons.mpr ⟨lw_p63, fun _ h => absurd h List.not_mem_nil⟩⟩⟩⟩⟩⟩⟩⟩⟩⟩⟩⟩⟩⟩⟩⟩
theorem lw_p64 : lw_okq (⟨"StringTollModel", "getsBy", "(III)I"⟩, 18) := ⟨⟨by decide +kernel, by decide +kernel⟩, List.mem_of_getElem? (i := 769) (by decide +kernel), List.mem_of_getElem? (i := 1124) (by decide +kernel), List.mem_of_getElem? (i := 1125) (by decide +kernel)⟩
theorem lw_p65 : lw_okq (⟨"StringTollModel", "countOf", "(I)I"⟩, 18) := ⟨⟨by decide +kernel, by decide +kernel⟩, List.mem_of_getElem? (i := 769) (by decide +kernel), List.mem_of_getElem? (i := 1162) (by decide +kernel), List.mem_of_getElem? (i := 1163) (by decide +kernel)⟩
theorem lw_p66 : lw_okq (⟨"StringTollModel", "mix", "(J)V"⟩, 18) := ⟨⟨by decide +kernel, by decide +kernel⟩, List.mem_of_getElem? (i := 769) (by decide +kernel), List.mem_of_getElem? (i := 1171) (by decide +kernel), List.mem_of_getElem? (i := 1172) (by decide +kernel)⟩
def lw_privs_5 : List (MethodName × Nat) := [(⟨"StringTollModel", "getsBy", "(III)I"⟩, 18), (⟨"StringTollModel", "countOf", "(I)I"⟩, 18), (⟨"StringTollModel", "mix", "(J)V"⟩, 18)]
theorem lw_r5 : ∀ q ∈ lw_privs_5, lw_okq q := List.forall_mem_cons.mpr ⟨lw_p64, List.forall_mem_cons.mpr ⟨lw_p65, List.forall_mem_cons.mpr ⟨lw_p66, fun _ h => absurd h List.not_mem_nil⟩⟩⟩
def lw_privs : List (MethodName × Nat) := lw_privs_1 ++ (lw_privs_2 ++ (lw_privs_3 ++ (lw_privs_4 ++ (lw_privs_5))))
def lw_tbl : List Cond := k2_sels lw_privs ++ tables_1
theorem lw_privs_ok : ∀ q ∈ lw_privs, lw_okq q := by
  show ∀ q ∈ lw_privs_1 ++ (lw_privs_2 ++ (lw_privs_3 ++ (lw_privs_4 ++ (lw_privs_5)))), lw_okq q
  exact List.forall_mem_append.mpr ⟨lw_r1, List.forall_mem_append.mpr ⟨lw_r2, List.forall_mem_append.mpr ⟨lw_r3, List.forall_mem_append.mpr ⟨lw_r4, lw_r5⟩⟩⟩⟩
def RX0 : String := "StringToll$Guess"
def TX0 : u_T := fun k => match k with
  | 0 => ("StringToll$Guess", "answers", "[I", true)
  | _ => ("StringToll$Guess", "answered", "I", false)
def tyX0 : Nat → FieldType := fun k => match k with
  | 0 => .array .int
  | _ => .int
abbrev wsX00 : List Cond := u_ws RX0 TX0 2
theorem nmX0 : ∀ a, a < 2 → ∀ b, b < 2 → a ≠ b → (TX0 a).2.1 ≠ (TX0 b).2.1 := by decide +kernel
theorem tyX0_ok : ∀ k, k < 2 → parseFieldDescriptor (TX0 k).2.2.1 = some (tyX0 k) := by decide +kernel
abbrev cX0_init : ByteArray := prog_2_method_1_code
def yX0_init : MethodName := ⟨RX0, "<init>", "()V"⟩
abbrev cX0_linesThatFit : ByteArray := prog_2_method_2_code
def yX0_linesThatFit : MethodName := ⟨RX0, "linesThatFit", "(LStringToll$Province;)I"⟩
abbrev cX0_leastLine : ByteArray := prog_2_method_3_code
def yX0_leastLine : MethodName := ⟨RX0, "leastLine", "(LStringToll$Province;)I"⟩
abbrev cX0_greatestLine : ByteArray := prog_2_method_4_code
def yX0_greatestLine : MethodName := ⟨RX0, "greatestLine", "(LStringToll$Province;)I"⟩
abbrev cX0_nextLength : ByteArray := prog_2_method_5_code
def yX0_nextLength : MethodName := ⟨RX0, "nextLength", "(LStringToll$Province;)I"⟩
abbrev cX0_stringKinds : ByteArray := prog_2_method_6_code
def yX0_stringKinds : MethodName := ⟨RX0, "stringKinds", "(LStringToll$Province;I)I"⟩
abbrev cX0_nextHour : ByteArray := prog_2_method_7_code
def yX0_nextHour : MethodName := ⟨RX0, "nextHour", "(LStringToll$Province;I)I"⟩
abbrev cX0_houseKinds : ByteArray := prog_2_method_8_code
def yX0_houseKinds : MethodName := ⟨RX0, "houseKinds", "(LStringToll$Province;I)I"⟩
abbrev cX0_nextQuestion : ByteArray := prog_2_method_9_code
def yX0_nextQuestion : MethodName := ⟨RX0, "nextQuestion", "(LStringToll$Province;I)I"⟩
abbrev cX0_fits : ByteArray := prog_2_method_10_code
def yX0_fits : MethodName := ⟨RX0, "fits", "(LStringToll$Province;I)Z"⟩
abbrev cX0_notesFit : ByteArray := prog_2_method_11_code
def yX0_notesFit : MethodName := ⟨RX0, "notesFit", "(LStringToll$Province;II)Z"⟩
abbrev cX0_marksFit : ByteArray := prog_2_method_12_code
def yX0_marksFit : MethodName := ⟨RX0, "marksFit", "(LStringToll$Province;II)Z"⟩
abbrev cX0_putAnswer : ByteArray := prog_2_method_13_code
def yX0_putAnswer : MethodName := ⟨RX0, "putAnswer", "(I)V"⟩
abbrev cX0_mostAlike : ByteArray := prog_2_method_14_code
def yX0_mostAlike : MethodName := ⟨RX0, "mostAlike", "()I"⟩
def RX1 : String := "StringToll$Kinds"
def TX1 : u_T := fun k => match k with
  | _ => ("", "", "", false)
def tyX1 : Nat → FieldType := fun k => match k with
  | _ => .int
abbrev wsX10 : List Cond := u_ws RX1 TX1 0
theorem nmX1 : ∀ a, a < 0 → ∀ b, b < 0 → a ≠ b → (TX1 a).2.1 ≠ (TX1 b).2.1 := by decide +kernel
theorem tyX1_ok : ∀ k, k < 0 → parseFieldDescriptor (TX1 k).2.2.1 = some (tyX1 k) := by decide +kernel
abbrev cX1_known : ByteArray := prog_3_method_2_code
def yX1_known : MethodName := ⟨RX1, "known", "(I)Z"⟩
abbrev cX1_shown : ByteArray := prog_3_method_3_code
def yX1_shown : MethodName := ⟨RX1, "shown", "(III)I"⟩
abbrev cX1_charged : ByteArray := prog_3_method_4_code
def yX1_charged : MethodName := ⟨RX1, "charged", "(III)I"⟩
abbrev cX1_brought : ByteArray := prog_3_method_5_code
def yX1_brought : MethodName := ⟨RX1, "brought", "(II)I"⟩
def RX2 : String := "StringToll$Province"
def TX2 : u_T := fun k => match k with
  | 0 => ("StringToll$Province", "line", "I", false)
  | 1 => ("StringToll$Province", "houseBelow", "I", false)
  | 2 => ("StringToll$Province", "houseAbove", "I", false)
  | 3 => ("StringToll$Province", "purse", "I", false)
  | 4 => ("StringToll$Province", "haul", "I", false)
  | 5 => ("StringToll$Province", "stamps", "I", false)
  | 6 => ("StringToll$Province", "hour", "I", false)
  | 7 => ("StringToll$Province", "strings", "LStringToll$Records;", true)
  | 8 => ("StringToll$Province", "came", "LStringToll$Records;", true)
  | 9 => ("StringToll$Province", "notes", "LStringToll$Records;", true)
  | 10 => ("StringToll$Province", "marks", "LStringToll$Records;", true)
  | _ => ("StringToll$Province", "past", "LStringToll$Records;", true)
def tyX2 : Nat → FieldType := fun k => match k with
  | 0 => .int
  | 1 => .int
  | 2 => .int
  | 3 => .int
  | 4 => .int
  | 5 => .int
  | 6 => .int
  | 7 => .object "StringToll$Records"
  | 8 => .object "StringToll$Records"
  | 9 => .object "StringToll$Records"
  | 10 => .object "StringToll$Records"
  | _ => .object "StringToll$Records"
abbrev wsX20 : List Cond := u_ws RX2 TX2 12
theorem nmX2 : ∀ a, a < 12 → ∀ b, b < 12 → a ≠ b → (TX2 a).2.1 ≠ (TX2 b).2.1 := by decide +kernel
theorem tyX2_ok : ∀ k, k < 12 → parseFieldDescriptor (TX2 k).2.2.1 = some (tyX2 k) := by decide +kernel
abbrev cX2_init : ByteArray := prog_4_method_1_code
def yX2_init : MethodName := ⟨RX2, "<init>", "()V"⟩
abbrev cX2_start : ByteArray := prog_4_method_2_code
def yX2_start : MethodName := ⟨RX2, "start", "(II)V"⟩
abbrev cX2_copyFrom : ByteArray := prog_4_method_3_code
def yX2_copyFrom : MethodName := ⟨RX2, "copyFrom", "(LStringToll$Province;)V"⟩
abbrev cX2_figure : ByteArray := prog_4_method_4_code
def yX2_figure : MethodName := ⟨RX2, "figure", "(I)I"⟩
abbrev cX2_houseKind : ByteArray := prog_4_method_5_code
def yX2_houseKind : MethodName := ⟨RX2, "houseKind", "(I)I"⟩
abbrev cX2_setHouse : ByteArray := prog_4_method_6_code
def yX2_setHouse : MethodName := ⟨RX2, "setHouse", "(II)V"⟩
abbrev cX2_has : ByteArray := prog_4_method_7_code
def yX2_has : MethodName := ⟨RX2, "has", "(I)Z"⟩
abbrev cX2_kindOf : ByteArray := prog_4_method_8_code
def yX2_kindOf : MethodName := ⟨RX2, "kindOf", "(I)I"⟩
abbrev cX2_lengthOf : ByteArray := prog_4_method_9_code
def yX2_lengthOf : MethodName := ⟨RX2, "lengthOf", "(I)I"⟩
abbrev cX2_shownIn : ByteArray := prog_4_method_10_code
def yX2_shownIn : MethodName := ⟨RX2, "shownIn", "(II)I"⟩
abbrev cX2_costIn : ByteArray := prog_4_method_11_code
def yX2_costIn : MethodName := ⟨RX2, "costIn", "(II)I"⟩
abbrev cX2_costOfCut : ByteArray := prog_4_method_12_code
def yX2_costOfCut : MethodName := ⟨RX2, "costOfCut", "(III)I"⟩
abbrev cX2_bringing : ByteArray := prog_4_method_13_code
def yX2_bringing : MethodName := ⟨RX2, "bringing", "(I)I"⟩
abbrev cX2_sendString : ByteArray := prog_4_method_14_code
def yX2_sendString : MethodName := ⟨RX2, "sendString", "(I)Z"⟩
abbrev cX2_waitHours : ByteArray := prog_4_method_15_code
def yX2_waitHours : MethodName := ⟨RX2, "waitHours", "(I)V"⟩
abbrev cX2_remember : ByteArray := prog_4_method_16_code
def yX2_remember : MethodName := ⟨RX2, "remember", "()V"⟩
abbrev cX2_stepBack : ByteArray := prog_4_method_17_code
def yX2_stepBack : MethodName := ⟨RX2, "stepBack", "()Z"⟩
abbrev cX2_tollOn : ByteArray := prog_4_method_18_code
def yX2_tollOn : MethodName := ⟨RX2, "tollOn", "(II)I"⟩
def RX3 : String := "StringToll$Records"
def TX3 : u_T := fun k => match k with
  | 0 => ("StringToll$Records", "cells", "[I", true)
  | 1 => ("StringToll$Records", "most", "I", true)
  | _ => ("StringToll$Records", "size", "I", false)
def tyX3 : Nat → FieldType := fun k => match k with
  | 0 => .array .int
  | 1 => .int
  | _ => .int
abbrev wsX30 : List Cond := u_ws RX3 TX3 3
theorem nmX3 : ∀ a, a < 3 → ∀ b, b < 3 → a ≠ b → (TX3 a).2.1 ≠ (TX3 b).2.1 := by decide +kernel
theorem tyX3_ok : ∀ k, k < 3 → parseFieldDescriptor (TX3 k).2.2.1 = some (tyX3 k) := by decide +kernel
abbrev cX3_init : ByteArray := prog_5_method_1_code
def yX3_init : MethodName := ⟨RX3, "<init>", "(I)V"⟩
abbrev cX3_isFull : ByteArray := prog_5_method_2_code
def yX3_isFull : MethodName := ⟨RX3, "isFull", "()Z"⟩
abbrev cX3_wipe : ByteArray := prog_5_method_3_code
def yX3_wipe : MethodName := ⟨RX3, "wipe", "()V"⟩
abbrev cX3_put : ByteArray := prog_5_method_4_code
def yX3_put : MethodName := ⟨RX3, "put", "(IIII)V"⟩
abbrev cX3_cell : ByteArray := prog_5_method_5_code
def yX3_cell : MethodName := ⟨RX3, "cell", "(II)I"⟩
abbrev cX3_dropFirst : ByteArray := prog_5_method_6_code
def yX3_dropFirst : MethodName := ⟨RX3, "dropFirst", "()V"⟩
abbrev cX3_dropLast : ByteArray := prog_5_method_7_code
def yX3_dropLast : MethodName := ⟨RX3, "dropLast", "()V"⟩
abbrev cX3_copyFrom : ByteArray := prog_5_method_8_code
def yX3_copyFrom : MethodName := ⟨RX3, "copyFrom", "(LStringToll$Records;)V"⟩
abbrev cX3_digestOn : ByteArray := prog_5_method_9_code
def yX3_digestOn : MethodName := ⟨RX3, "digestOn", "(JI)J"⟩
def RX4 : String := "StringToll$RowSearch"
def TX4 : u_T := fun k => match k with
  | 0 => ("StringToll$RowSearch", "costs", "[I", true)
  | 1 => ("StringToll$RowSearch", "path", "[I", true)
  | 2 => ("StringToll$RowSearch", "best", "[I", true)
  | 3 => ("StringToll$RowSearch", "bestLength", "I", false)
  | _ => ("StringToll$RowSearch", "bestHaul", "I", false)
def tyX4 : Nat → FieldType := fun k => match k with
  | 0 => .array .int
  | 1 => .array .int
  | 2 => .array .int
  | 3 => .int
  | _ => .int
abbrev wsX40 : List Cond := u_ws RX4 TX4 5
theorem nmX4 : ∀ a, a < 5 → ∀ b, b < 5 → a ≠ b → (TX4 a).2.1 ≠ (TX4 b).2.1 := by decide +kernel
theorem tyX4_ok : ∀ k, k < 5 → parseFieldDescriptor (TX4 k).2.2.1 = some (tyX4 k) := by decide +kernel
abbrev cX4_init : ByteArray := prog_6_method_1_code
def yX4_init : MethodName := ⟨RX4, "<init>", "()V"⟩
abbrev cX4_search : ByteArray := prog_6_method_2_code
def yX4_search : MethodName := ⟨RX4, "search", "(LStringToll$Province;)V"⟩
abbrev cX4_isSent : ByteArray := prog_6_method_3_code
def yX4_isSent : MethodName := ⟨RX4, "isSent", "(I)Z"⟩
abbrev cX4_sent : ByteArray := prog_6_method_4_code
def yX4_sent : MethodName := ⟨RX4, "sent", "(I)I"⟩
abbrev cX4_extend : ByteArray := prog_6_method_5_code
def yX4_extend : MethodName := ⟨RX4, "extend", "(LStringToll$RowSearch;LStringToll$Province;III)V"⟩
abbrev cX4_keepPath : ByteArray := prog_6_method_6_code
def yX4_keepPath : MethodName := ⟨RX4, "keepPath", "(II)V"⟩
abbrev cX4_isOnPath : ByteArray := prog_6_method_7_code
def yX4_isOnPath : MethodName := ⟨RX4, "isOnPath", "(II)Z"⟩
def RX5 : String := "StringToll$Text"
def TX5 : u_T := fun k => match k with
  | 0 => ("StringToll$Text", "bytes", "[B", true)
  | 1 => ("StringToll$Text", "length", "I", false)
  | 2 => ("StringToll$Text", "start", "I", false)
  | 3 => ("StringToll$Text", "next", "I", false)
  | 4 => ("StringToll$Text", "token", "I", false)
  | _ => ("StringToll$Text", "number", "I", false)
def tyX5 : Nat → FieldType := fun k => match k with
  | 0 => .array .byte
  | 1 => .int
  | 2 => .int
  | 3 => .int
  | 4 => .int
  | _ => .int
abbrev wsX50 : List Cond := u_ws RX5 TX5 6
theorem nmX5 : ∀ a, a < 6 → ∀ b, b < 6 → a ≠ b → (TX5 a).2.1 ≠ (TX5 b).2.1 := by decide +kernel
theorem tyX5_ok : ∀ k, k < 6 → parseFieldDescriptor (TX5 k).2.2.1 = some (tyX5 k) := by decide +kernel
abbrev cX5_init : ByteArray := prog_7_method_1_code
def yX5_init : MethodName := ⟨RX5, "<init>", "()V"⟩
abbrev cX5_put : ByteArray := prog_7_method_2_code
def yX5_put : MethodName := ⟨RX5, "put", "(I)Z"⟩
abbrev cX5_readInto : ByteArray := prog_7_method_3_code
def yX5_readInto : MethodName := ⟨RX5, "readInto", "(LStringToll$Province;)I"⟩
abbrev cX5_readFirst : ByteArray := prog_7_method_4_code
def yX5_readFirst : MethodName := ⟨RX5, "readFirst", "(LStringToll$Province;)Z"⟩
abbrev cX5_readItem : ByteArray := prog_7_method_5_code
def yX5_readItem : MethodName := ⟨RX5, "readItem", "(LStringToll$Province;)Z"⟩
abbrev cX5_readHouse : ByteArray := prog_7_method_6_code
def yX5_readHouse : MethodName := ⟨RX5, "readHouse", "(LStringToll$Province;)Z"⟩
abbrev cX5_readString : ByteArray := prog_7_method_7_code
def yX5_readString : MethodName := ⟨RX5, "readString", "(LStringToll$Province;)Z"⟩
abbrev cX5_readPurse : ByteArray := prog_7_method_8_code
def yX5_readPurse : MethodName := ⟨RX5, "readPurse", "(LStringToll$Province;)Z"⟩
abbrev cX5_readWait : ByteArray := prog_7_method_9_code
def yX5_readWait : MethodName := ⟨RX5, "readWait", "(LStringToll$Province;)Z"⟩
abbrev cX5_takeNumber : ByteArray := prog_7_method_10_code
def yX5_takeNumber : MethodName := ⟨RX5, "takeNumber", "(II)Z"⟩
abbrev cX5_stops : ByteArray := prog_7_method_11_code
def yX5_stops : MethodName := ⟨RX5, "stops", "()Z"⟩
abbrev cX5_isWord : ByteArray := prog_7_method_12_code
def yX5_isWord : MethodName := ⟨RX5, "isWord", "(Ljava/lang/String;)Z"⟩
abbrev cX5_advance : ByteArray := prog_7_method_13_code
def yX5_advance : MethodName := ⟨RX5, "advance", "()V"⟩
abbrev cX5_takeFigures : ByteArray := prog_7_method_14_code
def yX5_takeFigures : MethodName := ⟨RX5, "takeFigures", "()V"⟩
abbrev cX5_tokenAt : ByteArray := prog_7_method_15_code
def yX5_tokenAt : MethodName := ⟨RX5, "tokenAt", "(I)I"⟩
def RX6 : String := "StringToll$TwoEnds"
def TX6 : u_T := fun k => match k with
  | 0 => ("StringToll$TwoEnds", "toBelow", "[I", true)
  | _ => ("StringToll$TwoEnds", "toAbove", "[I", true)
def tyX6 : Nat → FieldType := fun k => match k with
  | 0 => .array .int
  | _ => .array .int
abbrev wsX60 : List Cond := u_ws RX6 TX6 2
theorem nmX6 : ∀ a, a < 2 → ∀ b, b < 2 → a ≠ b → (TX6 a).2.1 ≠ (TX6 b).2.1 := by decide +kernel
theorem tyX6_ok : ∀ k, k < 2 → parseFieldDescriptor (TX6 k).2.2.1 = some (tyX6 k) := by decide +kernel
abbrev cX6_init : ByteArray := prog_8_method_1_code
def yX6_init : MethodName := ⟨RX6, "<init>", "()V"⟩
abbrev cX6_reckon : ByteArray := prog_8_method_2_code
def yX6_reckon : MethodName := ⟨RX6, "reckon", "(LStringToll$Province;)V"⟩
abbrev cX6_pairs : ByteArray := prog_8_method_3_code
def yX6_pairs : MethodName := ⟨RX6, "pairs", "()I"⟩
abbrev cX6_pair : ByteArray := prog_8_method_4_code
def yX6_pair : MethodName := ⟨RX6, "pair", "(I)I"⟩
abbrev cX6_reckonPair : ByteArray := prog_8_method_5_code
def yX6_reckonPair : MethodName := ⟨RX6, "reckonPair", "(LStringToll$Province;II)V"⟩
abbrev cX6_rests : ByteArray := prog_8_method_6_code
def yX6_rests : MethodName := ⟨RX6, "rests", "(II)Z"⟩
def RX7 : String := "StringToll"
def TX7 : u_T := fun k => match k with
  | 0 => ("StringToll", "here", "LStringToll$Province;", false)
  | 1 => ("StringToll", "draft", "LStringToll$Province;", false)
  | 2 => ("StringToll", "image0", "LStringToll$Province;", true)
  | 3 => ("StringToll", "image1", "LStringToll$Province;", true)
  | 4 => ("StringToll", "kept0", "Z", false)
  | 5 => ("StringToll", "kept1", "Z", false)
  | 6 => ("StringToll", "text", "LStringToll$Text;", true)
  | 7 => ("StringToll", "rows", "LStringToll$RowSearch;", true)
  | 8 => ("StringToll", "guess", "LStringToll$Guess;", true)
  | 9 => ("StringToll", "twoEnds", "LStringToll$TwoEnds;", true)
  | 10 => ("StringToll", "above", "J", false)
  | 11 => ("StringToll", "below", "J", false)
  | 12 => ("StringToll", "refusedBad", "I", false)
  | 13 => ("StringToll", "refusedNo", "I", false)
  | _ => ("StringToll", "refusedFull", "I", false)
def tyX7 : Nat → FieldType := fun k => match k with
  | 0 => .object "StringToll$Province"
  | 1 => .object "StringToll$Province"
  | 2 => .object "StringToll$Province"
  | 3 => .object "StringToll$Province"
  | 4 => .boolean
  | 5 => .boolean
  | 6 => .object "StringToll$Text"
  | 7 => .object "StringToll$RowSearch"
  | 8 => .object "StringToll$Guess"
  | 9 => .object "StringToll$TwoEnds"
  | 10 => .long
  | 11 => .long
  | 12 => .int
  | 13 => .int
  | _ => .int
abbrev wsX70 : List Cond := u_ws RX7 TX7 15
theorem nmX7 : ∀ a, a < 15 → ∀ b, b < 15 → a ≠ b → (TX7 a).2.1 ≠ (TX7 b).2.1 := by decide +kernel
theorem tyX7_ok : ∀ k, k < 15 → parseFieldDescriptor (TX7 k).2.2.1 = some (tyX7 k) := by decide +kernel
abbrev cX7_init : ByteArray := prog_1_method_1_code
def yX7_init : MethodName := ⟨RX7, "<init>", "()V"⟩
abbrev cX7_province : ByteArray := prog_1_method_2_code
def yX7_province : MethodName := ⟨RX7, "province", "(II)I"⟩
abbrev cX7_house : ByteArray := prog_1_method_3_code
def yX7_house : MethodName := ⟨RX7, "house", "(II)I"⟩
abbrev cX7_string : ByteArray := prog_1_method_4_code
def yX7_string : MethodName := ⟨RX7, "string", "(II)I"⟩
abbrev cX7_type : ByteArray := prog_1_method_5_code
def yX7_type : MethodName := ⟨RX7, "type", "(I)I"⟩
abbrev cX7_clear : ByteArray := prog_1_method_6_code
def yX7_clear : MethodName := ⟨RX7, "clear", "()I"⟩
abbrev cX7_read : ByteArray := prog_1_method_7_code
def yX7_read : MethodName := ⟨RX7, "read", "()I"⟩
abbrev cX7_sends : ByteArray := prog_1_method_8_code
def yX7_sends : MethodName := ⟨RX7, "sends", "(I)I"⟩
abbrev cX7_waits : ByteArray := prog_1_method_9_code
def yX7_waits : MethodName := ⟨RX7, "waits", "(I)I"⟩
abbrev cX7_undo : ByteArray := prog_1_method_10_code
def yX7_undo : MethodName := ⟨RX7, "undo", "()I"⟩
abbrev cX7_of : ByteArray := prog_1_method_11_code
def yX7_of : MethodName := ⟨RX7, "of", "(II)I"⟩
abbrev cX7_now : ByteArray := prog_1_method_12_code
def yX7_now : MethodName := ⟨RX7, "now", "(I)I"⟩
abbrev cX7_asks : ByteArray := prog_1_method_13_code
def yX7_asks : MethodName := ⟨RX7, "asks", "(III)I"⟩
abbrev cX7_cheapest : ByteArray := prog_1_method_14_code
def yX7_cheapest : MethodName := ⟨RX7, "cheapest", "(II)I"⟩
abbrev cX7_cuts : ByteArray := prog_1_method_15_code
def yX7_cuts : MethodName := ⟨RX7, "cuts", "(III)I"⟩
abbrev cX7_row : ByteArray := prog_1_method_16_code
def yX7_row : MethodName := ⟨RX7, "row", "(I)I"⟩
abbrev cX7_came : ByteArray := prog_1_method_17_code
def yX7_came : MethodName := ⟨RX7, "came", "(II)I"⟩
abbrev cX7_lines : ByteArray := prog_1_method_18_code
def yX7_lines : MethodName := ⟨RX7, "lines", "(I)I"⟩
abbrev cX7_tries : ByteArray := prog_1_method_19_code
def yX7_tries : MethodName := ⟨RX7, "tries", "()I"⟩
abbrev cX7_note : ByteArray := prog_1_method_20_code
def yX7_note : MethodName := ⟨RX7, "note", "(IIII)I"⟩
abbrev cX7_mark : ByteArray := prog_1_method_21_code
def yX7_mark : MethodName := ⟨RX7, "mark", "(IIII)I"⟩
abbrev cX7_forget : ByteArray := prog_1_method_22_code
def yX7_forget : MethodName := ⟨RX7, "forget", "(I)I"⟩
abbrev cX7_is : ByteArray := prog_1_method_23_code
def yX7_is : MethodName := ⟨RX7, "is", "(I)I"⟩
abbrev cX7_look : ByteArray := prog_1_method_24_code
def yX7_look : MethodName := ⟨RX7, "look", "(I)I"⟩
abbrev cX7_kinds : ByteArray := prog_1_method_25_code
def yX7_kinds : MethodName := ⟨RX7, "kinds", "(I)I"⟩
abbrev cX7_ask : ByteArray := prog_1_method_26_code
def yX7_ask : MethodName := ⟨RX7, "ask", "(I)I"⟩
abbrev cX7_ends : ByteArray := prog_1_method_27_code
def yX7_ends : MethodName := ⟨RX7, "ends", "(I)I"⟩
abbrev cX7_scissors : ByteArray := prog_1_method_28_code
def yX7_scissors : MethodName := ⟨RX7, "scissors", "(I)I"⟩
abbrev cX7_nights : ByteArray := prog_1_method_29_code
def yX7_nights : MethodName := ⟨RX7, "nights", "(II)I"⟩
abbrev cX7_part : ByteArray := prog_1_method_30_code
def yX7_part : MethodName := ⟨RX7, "part", "(I)J"⟩
abbrev cX7_image : ByteArray := prog_1_method_31_code
def yX7_image : MethodName := ⟨RX7, "image", "(I)I"⟩
abbrev cX7_from : ByteArray := prog_1_method_32_code
def yX7_from : MethodName := ⟨RX7, "from", "(I)I"⟩
abbrev cX7_status : ByteArray := prog_1_method_33_code
def yX7_status : MethodName := ⟨RX7, "status", "(I)I"⟩
abbrev cX7_count : ByteArray := prog_1_method_34_code
def yX7_count : MethodName := ⟨RX7, "count", "(I)I"⟩
abbrev cX7_digest : ByteArray := prog_1_method_35_code
def yX7_digest : MethodName := ⟨RX7, "digest", "()J"⟩
abbrev cX7_within : ByteArray := prog_1_method_36_code
def yX7_within : MethodName := ⟨RX7, "within", "(III)Z"⟩
abbrev cX7_refuseBad : ByteArray := prog_1_method_37_code
def yX7_refuseBad : MethodName := ⟨RX7, "refuseBad", "()I"⟩
abbrev cX7_refuseNo : ByteArray := prog_1_method_38_code
def yX7_refuseNo : MethodName := ⟨RX7, "refuseNo", "()I"⟩
abbrev cX7_refuseFull : ByteArray := prog_1_method_39_code
def yX7_refuseFull : MethodName := ⟨RX7, "refuseFull", "()I"⟩
abbrev cX7_keep : ByteArray := prog_1_method_40_code
def yX7_keep : MethodName := ⟨RX7, "keep", "(LStringToll$Records;IIII)I"⟩
abbrev cX7_howMany : ByteArray := prog_1_method_41_code
def yX7_howMany : MethodName := ⟨RX7, "howMany", "(I)I"⟩
abbrev cX7_setFraction : ByteArray := prog_1_method_42_code
def yX7_setFraction : MethodName := ⟨RX7, "setFraction", "(I)V"⟩
def RX8 : String := "StringTollModel"
def TX8 : u_T := fun k => match k with
  | 0 => ("StringTollModel", "w", "[I", true)
  | 1 => ("StringTollModel", "isKept", "[Z", true)
  | 2 => ("StringTollModel", "text", "[I", true)
  | 3 => ("StringTollModel", "texted", "I", false)
  | 4 => ("StringTollModel", "above", "J", false)
  | 5 => ("StringTollModel", "below", "J", false)
  | 6 => ("StringTollModel", "statuses", "[I", true)
  | 7 => ("StringTollModel", "at", "I", false)
  | 8 => ("StringTollModel", "start", "I", false)
  | 9 => ("StringTollModel", "number", "I", false)
  | 10 => ("StringTollModel", "tried", "[I", true)
  | 11 => ("StringTollModel", "purses", "[I", true)
  | 12 => ("StringTollModel", "hauls", "[I", true)
  | 13 => ("StringTollModel", "bestRow", "[I", true)
  | 14 => ("StringTollModel", "bestMany", "I", false)
  | 15 => ("StringTollModel", "alike", "[I", true)
  | 16 => ("StringTollModel", "sixOf", "[I", true)
  | _ => ("StringTollModel", "h", "J", false)
def tyX8 : Nat → FieldType := fun k => match k with
  | 0 => .array .int
  | 1 => .array .boolean
  | 2 => .array .int
  | 3 => .int
  | 4 => .long
  | 5 => .long
  | 6 => .array .int
  | 7 => .int
  | 8 => .int
  | 9 => .int
  | 10 => .array .int
  | 11 => .array .int
  | 12 => .array .int
  | 13 => .array .int
  | 14 => .int
  | 15 => .array .int
  | 16 => .array .int
  | _ => .long
abbrev wsX80 : List Cond := u_ws RX8 TX8 18
theorem nmX8 : ∀ a, a < 18 → ∀ b, b < 18 → a ≠ b → (TX8 a).2.1 ≠ (TX8 b).2.1 := by decide +kernel
theorem tyX8_ok : ∀ k, k < 18 → parseFieldDescriptor (TX8 k).2.2.1 = some (tyX8 k) := by decide +kernel
abbrev cX8_init : ByteArray := prog_10_method_1_code
def yX8_init : MethodName := ⟨RX8, "<init>", "()V"⟩
abbrev cX8_in : ByteArray := prog_10_method_3_code
def yX8_in : MethodName := ⟨RX8, "in", "(JJJ)Z"⟩
abbrev cX8_has : ByteArray := prog_10_method_4_code
def yX8_has : MethodName := ⟨RX8, "has", "(II)Z"⟩
abbrev cX8_bad : ByteArray := prog_10_method_5_code
def yX8_bad : MethodName := ⟨RX8, "bad", "(I)I"⟩
abbrev cX8_no : ByteArray := prog_10_method_6_code
def yX8_no : MethodName := ⟨RX8, "no", "()I"⟩
abbrev cX8_full : ByteArray := prog_10_method_7_code
def yX8_full : MethodName := ⟨RX8, "full", "()I"⟩
abbrev cX8_copy : ByteArray := prog_10_method_8_code
def yX8_copy : MethodName := ⟨RX8, "copy", "(II)V"⟩
abbrev cX8_begins : ByteArray := prog_10_method_9_code
def yX8_begins : MethodName := ⟨RX8, "begins", "(III)V"⟩
abbrev cX8_isString : ByteArray := prog_10_method_10_code
def yX8_isString : MethodName := ⟨RX8, "isString", "(I)Z"⟩
abbrev cX8_isHouse : ByteArray := prog_10_method_11_code
def yX8_isHouse : MethodName := ⟨RX8, "isHouse", "(I)Z"⟩
abbrev cX8_silk : ByteArray := prog_10_method_12_code
def yX8_silk : MethodName := ⟨RX8, "silk", "(II)I"⟩
abbrev cX8_showOf : ByteArray := prog_10_method_13_code
def yX8_showOf : MethodName := ⟨RX8, "showOf", "(III)I"⟩
abbrev cX8_plain : ByteArray := prog_10_method_14_code
def yX8_plain : MethodName := ⟨RX8, "plain", "(I)I"⟩
abbrev cX8_steep : ByteArray := prog_10_method_15_code
def yX8_steep : MethodName := ⟨RX8, "steep", "(I)I"⟩
abbrev cX8_greedy : ByteArray := prog_10_method_16_code
def yX8_greedy : MethodName := ⟨RX8, "greedy", "(I)I"⟩
abbrev cX8_chargeOf : ByteArray := prog_10_method_17_code
def yX8_chargeOf : MethodName := ⟨RX8, "chargeOf", "(III)I"⟩
abbrev cX8_bringsBy : ByteArray := prog_10_method_18_code
def yX8_bringsBy : MethodName := ⟨RX8, "bringsBy", "(II)I"⟩
abbrev cX8_province : ByteArray := prog_10_method_19_code
def yX8_province : MethodName := ⟨RX8, "province", "(II)I"⟩
abbrev cX8_house : ByteArray := prog_10_method_20_code
def yX8_house : MethodName := ⟨RX8, "house", "(II)I"⟩
abbrev cX8_adds : ByteArray := prog_10_method_21_code
def yX8_adds : MethodName := ⟨RX8, "adds", "(III)V"⟩
abbrev cX8_string : ByteArray := prog_10_method_22_code
def yX8_string : MethodName := ⟨RX8, "string", "(II)I"⟩
abbrev cX8_type : ByteArray := prog_10_method_23_code
def yX8_type : MethodName := ⟨RX8, "type", "(I)I"⟩
abbrev cX8_clear : ByteArray := prog_10_method_24_code
def yX8_clear : MethodName := ⟨RX8, "clear", "()I"⟩
abbrev cX8_byteAt : ByteArray := prog_10_method_25_code
def yX8_byteAt : MethodName := ⟨RX8, "byteAt", "(I)I"⟩
abbrev cX8_blanks : ByteArray := prog_10_method_26_code
def yX8_blanks : MethodName := ⟨RX8, "blanks", "()V"⟩
abbrev cX8_takesWord : ByteArray := prog_10_method_27_code
def yX8_takesWord : MethodName := ⟨RX8, "takesWord", "()V"⟩
abbrev cX8_isWord : ByteArray := prog_10_method_28_code
def yX8_isWord : MethodName := ⟨RX8, "isWord", "(IIIIIII)Z"⟩
abbrev cX8_isLetter : ByteArray := prog_10_method_29_code
def yX8_isLetter : MethodName := ⟨RX8, "isLetter", "(III)Z"⟩
abbrev cX8_wordOf : ByteArray := prog_10_method_30_code
def yX8_wordOf : MethodName := ⟨RX8, "wordOf", "()I"⟩
abbrev cX8_isProvince : ByteArray := prog_10_method_31_code
def yX8_isProvince : MethodName := ⟨RX8, "isProvince", "()Z"⟩
abbrev cX8_takesNumber : ByteArray := prog_10_method_32_code
def yX8_takesNumber : MethodName := ⟨RX8, "takesNumber", "(II)Z"⟩
abbrev cX8_takesEnd : ByteArray := prog_10_method_33_code
def yX8_takesEnd : MethodName := ⟨RX8, "takesEnd", "()Z"⟩
abbrev cX8_readsHouse : ByteArray := prog_10_method_34_code
def yX8_readsHouse : MethodName := ⟨RX8, "readsHouse", "()Z"⟩
abbrev cX8_readsString : ByteArray := prog_10_method_35_code
def yX8_readsString : MethodName := ⟨RX8, "readsString", "()Z"⟩
abbrev cX8_readsPurse : ByteArray := prog_10_method_36_code
def yX8_readsPurse : MethodName := ⟨RX8, "readsPurse", "()Z"⟩
abbrev cX8_readsSend : ByteArray := prog_10_method_37_code
def yX8_readsSend : MethodName := ⟨RX8, "readsSend", "()Z"⟩
abbrev cX8_readsWait : ByteArray := prog_10_method_38_code
def yX8_readsWait : MethodName := ⟨RX8, "readsWait", "()Z"⟩
abbrev cX8_readsProvince : ByteArray := prog_10_method_39_code
def yX8_readsProvince : MethodName := ⟨RX8, "readsProvince", "()Z"⟩
abbrev cX8_readsItem : ByteArray := prog_10_method_40_code
def yX8_readsItem : MethodName := ⟨RX8, "readsItem", "(Z)Z"⟩
abbrev cX8_read : ByteArray := prog_10_method_41_code
def yX8_read : MethodName := ⟨RX8, "read", "()I"⟩
abbrev cX8_showsIn : ByteArray := prog_10_method_42_code
def yX8_showsIn : MethodName := ⟨RX8, "showsIn", "(III)I"⟩
abbrev cX8_costIn : ByteArray := prog_10_method_43_code
def yX8_costIn : MethodName := ⟨RX8, "costIn", "(III)I"⟩
abbrev cX8_bringsIn : ByteArray := prog_10_method_44_code
def yX8_bringsIn : MethodName := ⟨RX8, "bringsIn", "(II)I"⟩
abbrev cX8_canSend : ByteArray := prog_10_method_45_code
def yX8_canSend : MethodName := ⟨RX8, "canSend", "(II)Z"⟩
abbrev cX8_isSent : ByteArray := prog_10_method_46_code
def yX8_isSent : MethodName := ⟨RX8, "isSent", "(II)V"⟩
abbrev cX8_minds : ByteArray := prog_10_method_47_code
def yX8_minds : MethodName := ⟨RX8, "minds", "()V"⟩
abbrev cX8_sends : ByteArray := prog_10_method_48_code
def yX8_sends : MethodName := ⟨RX8, "sends", "(I)I"⟩
abbrev cX8_waits : ByteArray := prog_10_method_49_code
def yX8_waits : MethodName := ⟨RX8, "waits", "(I)I"⟩
abbrev cX8_undo : ByteArray := prog_10_method_50_code
def yX8_undo : MethodName := ⟨RX8, "undo", "()I"⟩
abbrev cX8_of : ByteArray := prog_10_method_51_code
def yX8_of : MethodName := ⟨RX8, "of", "(II)I"⟩
abbrev cX8_now : ByteArray := prog_10_method_52_code
def yX8_now : MethodName := ⟨RX8, "now", "(I)I"⟩
abbrev cX8_asks : ByteArray := prog_10_method_53_code
def yX8_asks : MethodName := ⟨RX8, "asks", "(III)I"⟩
abbrev cX8_cheapest : ByteArray := prog_10_method_54_code
def yX8_cheapest : MethodName := ⟨RX8, "cheapest", "(II)I"⟩
abbrev cX8_costOf : ByteArray := prog_10_method_55_code
def yX8_costOf : MethodName := ⟨RX8, "costOf", "(II)I"⟩
abbrev cX8_cuts : ByteArray := prog_10_method_56_code
def yX8_cuts : MethodName := ⟨RX8, "cuts", "(III)I"⟩
abbrev cX8_bestHaul : ByteArray := prog_10_method_57_code
def yX8_bestHaul : MethodName := ⟨RX8, "bestHaul", "()I"⟩
abbrev cX8_row : ByteArray := prog_10_method_58_code
def yX8_row : MethodName := ⟨RX8, "row", "(I)I"⟩
abbrev cX8_came : ByteArray := prog_10_method_59_code
def yX8_came : MethodName := ⟨RX8, "came", "(II)I"⟩
abbrev cX8_fits : ByteArray := prog_10_method_60_code
def yX8_fits : MethodName := ⟨RX8, "fits", "(I)Z"⟩
abbrev cX8_lines : ByteArray := prog_10_method_61_code
def yX8_lines : MethodName := ⟨RX8, "lines", "(I)I"⟩
abbrev cX8_tries : ByteArray := prog_10_method_62_code
def yX8_tries : MethodName := ⟨RX8, "tries", "()I"⟩
abbrev cX8_note : ByteArray := prog_10_method_63_code
def yX8_note : MethodName := ⟨RX8, "note", "(IIII)I"⟩
abbrev cX8_mark : ByteArray := prog_10_method_64_code
def yX8_mark : MethodName := ⟨RX8, "mark", "(IIII)I"⟩
abbrev cX8_forget : ByteArray := prog_10_method_65_code
def yX8_forget : MethodName := ⟨RX8, "forget", "(I)I"⟩
abbrev cX8_kindsOf : ByteArray := prog_10_method_66_code
def yX8_kindsOf : MethodName := ⟨RX8, "kindsOf", "(I)I"⟩
abbrev cX8_is : ByteArray := prog_10_method_67_code
def yX8_is : MethodName := ⟨RX8, "is", "(I)I"⟩
abbrev cX8_greatest : ByteArray := prog_10_method_68_code
def yX8_greatest : MethodName := ⟨RX8, "greatest", "(I)I"⟩
abbrev cX8_look : ByteArray := prog_10_method_69_code
def yX8_look : MethodName := ⟨RX8, "look", "(I)I"⟩
abbrev cX8_housesOf : ByteArray := prog_10_method_70_code
def yX8_housesOf : MethodName := ⟨RX8, "housesOf", "(I)I"⟩
abbrev cX8_kinds : ByteArray := prog_10_method_71_code
def yX8_kinds : MethodName := ⟨RX8, "kinds", "(I)I"⟩
abbrev cX8_ask : ByteArray := prog_10_method_72_code
def yX8_ask : MethodName := ⟨RX8, "ask", "(I)I"⟩
abbrev cX8_getsBy : ByteArray := prog_10_method_73_code
def yX8_getsBy : MethodName := ⟨RX8, "getsBy", "(III)I"⟩
abbrev cX8_rests : ByteArray := prog_10_method_74_code
def yX8_rests : MethodName := ⟨RX8, "rests", "(II)Z"⟩
abbrev cX8_ends : ByteArray := prog_10_method_75_code
def yX8_ends : MethodName := ⟨RX8, "ends", "(I)I"⟩
abbrev cX8_scissors : ByteArray := prog_10_method_76_code
def yX8_scissors : MethodName := ⟨RX8, "scissors", "(I)I"⟩
abbrev cX8_nights : ByteArray := prog_10_method_77_code
def yX8_nights : MethodName := ⟨RX8, "nights", "(II)I"⟩
abbrev cX8_part : ByteArray := prog_10_method_78_code
def yX8_part : MethodName := ⟨RX8, "part", "(I)J"⟩
abbrev cX8_image : ByteArray := prog_10_method_79_code
def yX8_image : MethodName := ⟨RX8, "image", "(I)I"⟩
abbrev cX8_from : ByteArray := prog_10_method_80_code
def yX8_from : MethodName := ⟨RX8, "from", "(I)I"⟩
abbrev cX8_status : ByteArray := prog_10_method_81_code
def yX8_status : MethodName := ⟨RX8, "status", "(I)I"⟩
abbrev cX8_countOf : ByteArray := prog_10_method_82_code
def yX8_countOf : MethodName := ⟨RX8, "countOf", "(I)I"⟩
abbrev cX8_count : ByteArray := prog_10_method_83_code
def yX8_count : MethodName := ⟨RX8, "count", "(I)I"⟩
abbrev cX8_mix : ByteArray := prog_10_method_84_code
def yX8_mix : MethodName := ⟨RX8, "mix", "(J)V"⟩
abbrev cX8_digest : ByteArray := prog_10_method_85_code
def yX8_digest : MethodName := ⟨RX8, "digest", "()J"⟩
def RJ9 : String := "java/lang/Math"
def TJ9 : u_T := fun k => match k with
  | _ => ("", "", "", false)
def tyJ9 : Nat → FieldType := fun k => match k with
  | _ => .int
abbrev wsJ90 : List Cond := u_ws RJ9 TJ9 0
theorem nmJ9 : ∀ a, a < 0 → ∀ b, b < 0 → a ≠ b → (TJ9 a).2.1 ≠ (TJ9 b).2.1 := by decide +kernel
theorem tyJ9_ok : ∀ k, k < 0 → parseFieldDescriptor (TJ9 k).2.2.1 = some (tyJ9 k) := by decide +kernel
abbrev cJ9_max_7cf53 : ByteArray := prog_11_method_65_code
def yJ9_max_7cf53 : MethodName := ⟨RJ9, "max", "(II)I"⟩
abbrev cJ9_min_7cf53 : ByteArray := prog_11_method_69_code
def yJ9_min_7cf53 : MethodName := ⟨RJ9, "min", "(II)I"⟩
def RJ0 : String := "java/lang/String"
def TJ0 : u_T := fun k => match k with
  | _ => ("", "", "", false)
def tyJ0 : Nat → FieldType := fun k => match k with
  | _ => .int
abbrev wsJ00 : List Cond := u_ws RJ0 TJ0 0
theorem nmJ0 : ∀ a, a < 0 → ∀ b, b < 0 → a ≠ b → (TJ0 a).2.1 ≠ (TJ0 b).2.1 := by decide +kernel
theorem tyJ0_ok : ∀ k, k < 0 → parseFieldDescriptor (TJ0 k).2.2.1 = some (tyJ0 k) := by decide +kernel
abbrev cJ0_length_8abf5 : ByteArray := prog_12_method_54_code
def yJ0_length_8abf5 : MethodName := ⟨RJ0, "length", "()I"⟩
abbrev cJ0_charAt_5068e : ByteArray := prog_12_method_56_code
def yJ0_charAt_5068e : MethodName := ⟨RJ0, "charAt", "(I)C"⟩
abbrev cJ0_coder_7d493 : ByteArray := prog_12_method_152_code
def yJ0_coder_7d493 : MethodName := ⟨RJ0, "coder", "()B"⟩
abbrev cJ0_isLatin1_aae02 : ByteArray := prog_12_method_154_code
def yJ0_isLatin1_aae02 : MethodName := ⟨RJ0, "isLatin1", "()Z"⟩
abbrev cJ0_checkIndex_df160 : ByteArray := prog_12_method_155_code
def yJ0_checkIndex_df160 : MethodName := ⟨RJ0, "checkIndex", "(II)V"⟩
def RJ1 : String := "java/lang/StringLatin1"
def TJ1 : u_T := fun k => match k with
  | _ => ("", "", "", false)
def tyJ1 : Nat → FieldType := fun k => match k with
  | _ => .int
abbrev wsJ10 : List Cond := u_ws RJ1 TJ1 0
theorem nmJ1 : ∀ a, a < 0 → ∀ b, b < 0 → a ≠ b → (TJ1 a).2.1 ≠ (TJ1 b).2.1 := by decide +kernel
theorem tyJ1_ok : ∀ k, k < 0 → parseFieldDescriptor (TJ1 k).2.2.1 = some (tyJ1 k) := by decide +kernel
abbrev cJ1_charAt_3b067 : ByteArray := prog_13_method_2_code
def yJ1_charAt_3b067 : MethodName := ⟨RJ1, "charAt", "([BI)C"⟩
def RJ2 : String := "java/lang/StringUTF16"
def TJ2 : u_T := fun k => match k with
  | _ => ("", "", "", false)
def tyJ2 : Nat → FieldType := fun k => match k with
  | _ => .int
abbrev wsJ20 : List Cond := u_ws RJ2 TJ2 0
theorem nmJ2 : ∀ a, a < 0 → ∀ b, b < 0 → a ≠ b → (TJ2 a).2.1 ≠ (TJ2 b).2.1 := by decide +kernel
theorem tyJ2_ok : ∀ k, k < 0 → parseFieldDescriptor (TJ2 k).2.2.1 = some (tyJ2 k) := by decide +kernel
abbrev cJ2_getChar_3b067 : ByteArray := prog_14_method_5_code
def yJ2_getChar_3b067 : MethodName := ⟨RJ2, "getChar", "([BI)C"⟩
abbrev cJ2_length_9d52b : ByteArray := prog_14_method_6_code
def yJ2_length_9d52b : MethodName := ⟨RJ2, "length", "([B)I"⟩
abbrev cJ2_charAt_3b067 : ByteArray := prog_14_method_83_code
def yJ2_charAt_3b067 : MethodName := ⟨RJ2, "charAt", "([BI)C"⟩
abbrev cJ2_checkIndex_2214a : ByteArray := prog_14_method_91_code
def yJ2_checkIndex_2214a : MethodName := ⟨RJ2, "checkIndex", "(I[B)V"⟩
def RJ10 : String := "java/lang/System"
def TJ10 : u_T := fun k => match k with
  | _ => ("", "", "", false)
def tyJ10 : Nat → FieldType := fun k => match k with
  | _ => .int
abbrev wsJ100 : List Cond := u_ws RJ10 TJ10 0
theorem nmJ10 : ∀ a, a < 0 → ∀ b, b < 0 → a ≠ b → (TJ10 a).2.1 ≠ (TJ10 b).2.1 := by decide +kernel
theorem tyJ10_ok : ∀ k, k < 0 → parseFieldDescriptor (TJ10 k).2.2.1 = some (tyJ10 k) := by decide +kernel
def RJ3 : String := "jdk/internal/util/Preconditions"
def TJ3 : u_T := fun k => match k with
  | _ => ("", "", "", false)
def tyJ3 : Nat → FieldType := fun k => match k with
  | _ => .int
abbrev wsJ30 : List Cond := u_ws RJ3 TJ3 0
theorem nmJ3 : ∀ a, a < 0 → ∀ b, b < 0 → a ≠ b → (TJ3 a).2.1 ≠ (TJ3 b).2.1 := by decide +kernel
theorem tyJ3_ok : ∀ k, k < 0 → parseFieldDescriptor (TJ3 k).2.2.1 = some (tyJ3 k) := by decide +kernel
abbrev cJ3_checkIndex_8e157 : ByteArray := prog_16_method_11_code
def yJ3_checkIndex_8e157 : MethodName := ⟨RJ3, "checkIndex", "(IILjava/util/function/BiFunction;)I"⟩
def RL : String := "StringTollLaw"
abbrev cL_law : ByteArray := code
def yL_law : MethodName := ⟨RL, "law", "([I)Z"⟩
end
section
theorem dX0_init_0 : decode cX0_init 0 = .ok (.aload_n 0, 1) := by decide +kernel
theorem dX0_init_1 : decode cX0_init 1 = .ok (.invokespecial 3, 3) := by decide +kernel
theorem dX0_init_4 : decode cX0_init 4 = .ok (.aload_n 0, 1) := by decide +kernel
theorem dX0_init_5 : decode cX0_init 5 = .ok (.bipush 6, 2) := by decide +kernel
theorem dX0_init_7 : decode cX0_init 7 = .ok (.newarray .int, 2) := by decide +kernel
theorem dX0_init_9 : decode cX0_init 9 = .ok (.putfield 11, 3) := by decide +kernel
theorem dX0_init_12 : decode cX0_init 12 = .ok (.return_, 1) := by decide +kernel
theorem dX0_linesThatFit_0 : decode cX0_linesThatFit 0 = .ok (.iconst 0, 1) := by decide +kernel
theorem dX0_linesThatFit_1 : decode cX0_linesThatFit 1 = .ok (.istore_n 2, 1) := by decide +kernel
theorem dX0_linesThatFit_2 : decode cX0_linesThatFit 2 = .ok (.iconst 1, 1) := by decide +kernel
theorem dX0_linesThatFit_3 : decode cX0_linesThatFit 3 = .ok (.istore_n 3, 1) := by decide +kernel
theorem dX0_linesThatFit_4 : decode cX0_linesThatFit 4 = .ok (.iload_n 3, 1) := by decide +kernel
theorem dX0_linesThatFit_5 : decode cX0_linesThatFit 5 = .ok (.bipush 60, 2) := by decide +kernel
theorem dX0_linesThatFit_7 : decode cX0_linesThatFit 7 = .ok (.if_icmp .gt 21, 3) := by decide +kernel
theorem dX0_linesThatFit_10 : decode cX0_linesThatFit 10 = .ok (.aload_n 0, 1) := by decide +kernel
theorem dX0_linesThatFit_11 : decode cX0_linesThatFit 11 = .ok (.aload_n 1, 1) := by decide +kernel
theorem dX0_linesThatFit_12 : decode cX0_linesThatFit 12 = .ok (.iload_n 3, 1) := by decide +kernel
theorem dX0_linesThatFit_13 : decode cX0_linesThatFit 13 = .ok (.invokevirtual 17, 3) := by decide +kernel
theorem dX0_linesThatFit_16 : decode cX0_linesThatFit 16 = .ok (.ifCond .eq 6, 3) := by decide +kernel
theorem dX0_linesThatFit_19 : decode cX0_linesThatFit 19 = .ok (.iinc 2 1, 3) := by decide +kernel
theorem dX0_linesThatFit_22 : decode cX0_linesThatFit 22 = .ok (.iinc 3 1, 3) := by decide +kernel
theorem dX0_linesThatFit_25 : decode cX0_linesThatFit 25 = .ok (.goto (-21), 3) := by decide +kernel
theorem dX0_linesThatFit_28 : decode cX0_linesThatFit 28 = .ok (.iload_n 2, 1) := by decide +kernel
theorem dX0_linesThatFit_29 : decode cX0_linesThatFit 29 = .ok (.ireturn, 1) := by decide +kernel
theorem dX0_leastLine_0 : decode cX0_leastLine 0 = .ok (.iconst 1, 1) := by decide +kernel
theorem dX0_leastLine_1 : decode cX0_leastLine 1 = .ok (.istore_n 2, 1) := by decide +kernel
theorem dX0_leastLine_2 : decode cX0_leastLine 2 = .ok (.iload_n 2, 1) := by decide +kernel
theorem dX0_leastLine_3 : decode cX0_leastLine 3 = .ok (.bipush 60, 2) := by decide +kernel
theorem dX0_leastLine_5 : decode cX0_leastLine 5 = .ok (.if_icmp .gt 20, 3) := by decide +kernel
theorem dX0_leastLine_8 : decode cX0_leastLine 8 = .ok (.aload_n 0, 1) := by decide +kernel
theorem dX0_leastLine_9 : decode cX0_leastLine 9 = .ok (.aload_n 1, 1) := by decide +kernel
theorem dX0_leastLine_10 : decode cX0_leastLine 10 = .ok (.iload_n 2, 1) := by decide +kernel
theorem dX0_leastLine_11 : decode cX0_leastLine 11 = .ok (.invokevirtual 17, 3) := by decide +kernel
theorem dX0_leastLine_14 : decode cX0_leastLine 14 = .ok (.ifCond .eq 5, 3) := by decide +kernel
theorem dX0_leastLine_17 : decode cX0_leastLine 17 = .ok (.iload_n 2, 1) := by decide +kernel
theorem dX0_leastLine_18 : decode cX0_leastLine 18 = .ok (.ireturn, 1) := by decide +kernel
theorem dX0_leastLine_19 : decode cX0_leastLine 19 = .ok (.iinc 2 1, 3) := by decide +kernel
theorem dX0_leastLine_22 : decode cX0_leastLine 22 = .ok (.goto (-20), 3) := by decide +kernel
theorem dX0_leastLine_25 : decode cX0_leastLine 25 = .ok (.iconst (-1), 1) := by decide +kernel
theorem dX0_leastLine_26 : decode cX0_leastLine 26 = .ok (.ireturn, 1) := by decide +kernel
theorem dX0_greatestLine_0 : decode cX0_greatestLine 0 = .ok (.bipush 60, 2) := by decide +kernel
theorem dX0_greatestLine_2 : decode cX0_greatestLine 2 = .ok (.istore_n 2, 1) := by decide +kernel
theorem dX0_greatestLine_3 : decode cX0_greatestLine 3 = .ok (.iload_n 2, 1) := by decide +kernel
theorem dX0_greatestLine_4 : decode cX0_greatestLine 4 = .ok (.iconst 1, 1) := by decide +kernel
theorem dX0_greatestLine_5 : decode cX0_greatestLine 5 = .ok (.if_icmp .lt 20, 3) := by decide +kernel
theorem dX0_greatestLine_8 : decode cX0_greatestLine 8 = .ok (.aload_n 0, 1) := by decide +kernel
theorem dX0_greatestLine_9 : decode cX0_greatestLine 9 = .ok (.aload_n 1, 1) := by decide +kernel
theorem dX0_greatestLine_10 : decode cX0_greatestLine 10 = .ok (.iload_n 2, 1) := by decide +kernel
theorem dX0_greatestLine_11 : decode cX0_greatestLine 11 = .ok (.invokevirtual 17, 3) := by decide +kernel
theorem dX0_greatestLine_14 : decode cX0_greatestLine 14 = .ok (.ifCond .eq 5, 3) := by decide +kernel
theorem dX0_greatestLine_17 : decode cX0_greatestLine 17 = .ok (.iload_n 2, 1) := by decide +kernel
theorem dX0_greatestLine_18 : decode cX0_greatestLine 18 = .ok (.ireturn, 1) := by decide +kernel
theorem dX0_greatestLine_19 : decode cX0_greatestLine 19 = .ok (.iinc 2 (-1), 3) := by decide +kernel
theorem dX0_greatestLine_22 : decode cX0_greatestLine 22 = .ok (.goto (-19), 3) := by decide +kernel
theorem dX0_greatestLine_25 : decode cX0_greatestLine 25 = .ok (.iconst (-1), 1) := by decide +kernel
theorem dX0_greatestLine_26 : decode cX0_greatestLine 26 = .ok (.ireturn, 1) := by decide +kernel
theorem dX0_nextLength_0 : decode cX0_nextLength 0 = .ok (.aload_n 0, 1) := by decide +kernel
theorem dX0_nextLength_1 : decode cX0_nextLength 1 = .ok (.aload_n 1, 1) := by decide +kernel
theorem dX0_nextLength_2 : decode cX0_nextLength 2 = .ok (.invokevirtual 21, 3) := by decide +kernel
theorem dX0_nextLength_5 : decode cX0_nextLength 5 = .ok (.istore_n 2, 1) := by decide +kernel
theorem dX0_nextLength_6 : decode cX0_nextLength 6 = .ok (.iconst (-1), 1) := by decide +kernel
theorem dX0_nextLength_7 : decode cX0_nextLength 7 = .ok (.istore_n 3, 1) := by decide +kernel
theorem dX0_nextLength_8 : decode cX0_nextLength 8 = .ok (.iload_n 2, 1) := by decide +kernel
theorem dX0_nextLength_9 : decode cX0_nextLength 9 = .ok (.iconst 1, 1) := by decide +kernel
theorem dX0_nextLength_10 : decode cX0_nextLength 10 = .ok (.iadd, 1) := by decide +kernel
theorem dX0_nextLength_11 : decode cX0_nextLength 11 = .ok (.istore 4, 2) := by decide +kernel
theorem dX0_nextLength_13 : decode cX0_nextLength 13 = .ok (.iconst 1, 1) := by decide +kernel
theorem dX0_nextLength_14 : decode cX0_nextLength 14 = .ok (.istore 5, 2) := by decide +kernel
theorem dX0_nextLength_16 : decode cX0_nextLength 16 = .ok (.iload 5, 2) := by decide +kernel
theorem dX0_nextLength_18 : decode cX0_nextLength 18 = .ok (.bipush 60, 2) := by decide +kernel
theorem dX0_nextLength_20 : decode cX0_nextLength 20 = .ok (.if_icmp .gt 49, 3) := by decide +kernel
theorem dX0_nextLength_23 : decode cX0_nextLength 23 = .ok (.iload 4, 2) := by decide +kernel
theorem dX0_nextLength_25 : decode cX0_nextLength 25 = .ok (.iconst 1, 1) := by decide +kernel
theorem dX0_nextLength_26 : decode cX0_nextLength 26 = .ok (.if_icmp .le 43, 3) := by decide +kernel
theorem dX0_nextLength_29 : decode cX0_nextLength 29 = .ok (.aload_n 0, 1) := by decide +kernel
theorem dX0_nextLength_30 : decode cX0_nextLength 30 = .ok (.aload_n 1, 1) := by decide +kernel
theorem dX0_nextLength_31 : decode cX0_nextLength 31 = .ok (.iload 5, 2) := by decide +kernel
theorem dX0_nextLength_33 : decode cX0_nextLength 33 = .ok (.invokevirtual 17, 3) := by decide +kernel
theorem dX0_nextLength_36 : decode cX0_nextLength 36 = .ok (.ifCond .eq 6, 3) := by decide +kernel
theorem dX0_nextLength_39 : decode cX0_nextLength 39 = .ok (.iinc 2 (-1), 3) := by decide +kernel
theorem dX0_nextLength_42 : decode cX0_nextLength 42 = .ok (.iload_n 2, 1) := by decide +kernel
theorem dX0_nextLength_43 : decode cX0_nextLength 43 = .ok (.iconst 1, 1) := by decide +kernel
theorem dX0_nextLength_44 : decode cX0_nextLength 44 = .ok (.invokestatic 25, 3) := by decide +kernel
theorem dX0_nextLength_47 : decode cX0_nextLength 47 = .ok (.istore 6, 2) := by decide +kernel
theorem dX0_nextLength_49 : decode cX0_nextLength 49 = .ok (.iload 6, 2) := by decide +kernel
theorem dX0_nextLength_51 : decode cX0_nextLength 51 = .ok (.iload 4, 2) := by decide +kernel
theorem dX0_nextLength_53 : decode cX0_nextLength 53 = .ok (.if_icmp .ge 10, 3) := by decide +kernel
theorem dX0_nextLength_56 : decode cX0_nextLength 56 = .ok (.iload 6, 2) := by decide +kernel
theorem dX0_nextLength_58 : decode cX0_nextLength 58 = .ok (.istore 4, 2) := by decide +kernel
theorem dX0_nextLength_60 : decode cX0_nextLength 60 = .ok (.iload 5, 2) := by decide +kernel
theorem dX0_nextLength_62 : decode cX0_nextLength 62 = .ok (.istore_n 3, 1) := by decide +kernel
theorem dX0_nextLength_63 : decode cX0_nextLength 63 = .ok (.iinc 5 1, 3) := by decide +kernel
theorem dX0_nextLength_66 : decode cX0_nextLength 66 = .ok (.goto (-50), 3) := by decide +kernel
theorem dX0_nextLength_69 : decode cX0_nextLength 69 = .ok (.iload_n 3, 1) := by decide +kernel
theorem dX0_nextLength_70 : decode cX0_nextLength 70 = .ok (.ireturn, 1) := by decide +kernel
theorem dX0_stringKinds_0 : decode cX0_stringKinds 0 = .ok (.iconst 0, 1) := by decide +kernel
theorem dX0_stringKinds_1 : decode cX0_stringKinds 1 = .ok (.istore_n 3, 1) := by decide +kernel
theorem dX0_stringKinds_2 : decode cX0_stringKinds 2 = .ok (.iconst 0, 1) := by decide +kernel
theorem dX0_stringKinds_3 : decode cX0_stringKinds 3 = .ok (.istore 4, 2) := by decide +kernel
theorem dX0_stringKinds_5 : decode cX0_stringKinds 5 = .ok (.iload 4, 2) := by decide +kernel
theorem dX0_stringKinds_7 : decode cX0_stringKinds 7 = .ok (.bipush 6, 2) := by decide +kernel
theorem dX0_stringKinds_9 : decode cX0_stringKinds 9 = .ok (.if_icmp .ge 27, 3) := by decide +kernel
theorem dX0_stringKinds_12 : decode cX0_stringKinds 12 = .ok (.aload_n 0, 1) := by decide +kernel
theorem dX0_stringKinds_13 : decode cX0_stringKinds 13 = .ok (.aload_n 1, 1) := by decide +kernel
theorem dX0_stringKinds_14 : decode cX0_stringKinds 14 = .ok (.iload_n 2, 1) := by decide +kernel
theorem dX0_stringKinds_15 : decode cX0_stringKinds 15 = .ok (.iload 4, 2) := by decide +kernel
theorem dX0_stringKinds_17 : decode cX0_stringKinds 17 = .ok (.invokevirtual 31, 3) := by decide +kernel
theorem dX0_stringKinds_20 : decode cX0_stringKinds 20 = .ok (.ifCond .eq 10, 3) := by decide +kernel
theorem dX0_stringKinds_23 : decode cX0_stringKinds 23 = .ok (.iload_n 3, 1) := by decide +kernel
theorem dX0_stringKinds_24 : decode cX0_stringKinds 24 = .ok (.iconst 1, 1) := by decide +kernel
theorem dX0_stringKinds_25 : decode cX0_stringKinds 25 = .ok (.iload 4, 2) := by decide +kernel
theorem dX0_stringKinds_27 : decode cX0_stringKinds 27 = .ok (.ishl, 1) := by decide +kernel
theorem dX0_stringKinds_28 : decode cX0_stringKinds 28 = .ok (.ior, 1) := by decide +kernel
theorem dX0_stringKinds_29 : decode cX0_stringKinds 29 = .ok (.istore_n 3, 1) := by decide +kernel
theorem dX0_stringKinds_30 : decode cX0_stringKinds 30 = .ok (.iinc 4 1, 3) := by decide +kernel
theorem dX0_stringKinds_33 : decode cX0_stringKinds 33 = .ok (.goto (-28), 3) := by decide +kernel
theorem dX0_stringKinds_36 : decode cX0_stringKinds 36 = .ok (.iload_n 3, 1) := by decide +kernel
theorem dX0_stringKinds_37 : decode cX0_stringKinds 37 = .ok (.ireturn, 1) := by decide +kernel
theorem dX0_nextHour_0 : decode cX0_nextHour 0 = .ok (.aload_n 0, 1) := by decide +kernel
theorem dX0_nextHour_1 : decode cX0_nextHour 1 = .ok (.aload_n 1, 1) := by decide +kernel
theorem dX0_nextHour_2 : decode cX0_nextHour 2 = .ok (.iload_n 2, 1) := by decide +kernel
theorem dX0_nextHour_3 : decode cX0_nextHour 3 = .ok (.invokevirtual 35, 3) := by decide +kernel
theorem dX0_nextHour_6 : decode cX0_nextHour 6 = .ok (.istore_n 3, 1) := by decide +kernel
theorem dX0_nextHour_7 : decode cX0_nextHour 7 = .ok (.iconst (-1), 1) := by decide +kernel
theorem dX0_nextHour_8 : decode cX0_nextHour 8 = .ok (.istore 4, 2) := by decide +kernel
theorem dX0_nextHour_10 : decode cX0_nextHour 10 = .ok (.bipush 7, 2) := by decide +kernel
theorem dX0_nextHour_12 : decode cX0_nextHour 12 = .ok (.istore 5, 2) := by decide +kernel
theorem dX0_nextHour_14 : decode cX0_nextHour 14 = .ok (.iconst 0, 1) := by decide +kernel
theorem dX0_nextHour_15 : decode cX0_nextHour 15 = .ok (.istore 6, 2) := by decide +kernel
theorem dX0_nextHour_17 : decode cX0_nextHour 17 = .ok (.iload 6, 2) := by decide +kernel
theorem dX0_nextHour_19 : decode cX0_nextHour 19 = .ok (.bipush 24, 2) := by decide +kernel
theorem dX0_nextHour_21 : decode cX0_nextHour 21 = .ok (.if_icmp .ge 81, 3) := by decide +kernel
theorem dX0_nextHour_24 : decode cX0_nextHour 24 = .ok (.iload_n 3, 1) := by decide +kernel
theorem dX0_nextHour_25 : decode cX0_nextHour 25 = .ok (.ifCond .eq 77, 3) := by decide +kernel
theorem dX0_nextHour_28 : decode cX0_nextHour 28 = .ok (.aload_n 0, 1) := by decide +kernel
theorem dX0_nextHour_29 : decode cX0_nextHour 29 = .ok (.iconst 0, 1) := by decide +kernel
theorem dX0_nextHour_30 : decode cX0_nextHour 30 = .ok (.putfield 39, 3) := by decide +kernel
theorem dX0_nextHour_33 : decode cX0_nextHour 33 = .ok (.iconst 0, 1) := by decide +kernel
theorem dX0_nextHour_34 : decode cX0_nextHour 34 = .ok (.istore 7, 2) := by decide +kernel
theorem dX0_nextHour_36 : decode cX0_nextHour 36 = .ok (.iload 7, 2) := by decide +kernel
theorem dX0_nextHour_38 : decode cX0_nextHour 38 = .ok (.bipush 6, 2) := by decide +kernel
theorem dX0_nextHour_40 : decode cX0_nextHour 40 = .ok (.if_icmp .ge 35, 3) := by decide +kernel
theorem dX0_nextHour_43 : decode cX0_nextHour 43 = .ok (.iload_n 3, 1) := by decide +kernel
theorem dX0_nextHour_44 : decode cX0_nextHour 44 = .ok (.iload 7, 2) := by decide +kernel
theorem dX0_nextHour_46 : decode cX0_nextHour 46 = .ok (.ishr, 1) := by decide +kernel
theorem dX0_nextHour_47 : decode cX0_nextHour 47 = .ok (.iconst 1, 1) := by decide +kernel
theorem dX0_nextHour_48 : decode cX0_nextHour 48 = .ok (.iand, 1) := by decide +kernel
theorem dX0_nextHour_49 : decode cX0_nextHour 49 = .ok (.iconst 1, 1) := by decide +kernel
theorem dX0_nextHour_50 : decode cX0_nextHour 50 = .ok (.if_icmp .ne 19, 3) := by decide +kernel
theorem dX0_nextHour_53 : decode cX0_nextHour 53 = .ok (.aload_n 0, 1) := by decide +kernel
theorem dX0_nextHour_54 : decode cX0_nextHour 54 = .ok (.iload 7, 2) := by decide +kernel
theorem dX0_nextHour_56 : decode cX0_nextHour 56 = .ok (.aload_n 1, 1) := by decide +kernel
theorem dX0_nextHour_57 : decode cX0_nextHour 57 = .ok (.iload_n 2, 1) := by decide +kernel
theorem dX0_nextHour_58 : decode cX0_nextHour 58 = .ok (.invokevirtual 43, 3) := by decide +kernel
theorem dX0_nextHour_61 : decode cX0_nextHour 61 = .ok (.iload 6, 2) := by decide +kernel
theorem dX0_nextHour_63 : decode cX0_nextHour 63 = .ok (.invokestatic 49, 3) := by decide +kernel
theorem dX0_nextHour_66 : decode cX0_nextHour 66 = .ok (.invokevirtual 53, 3) := by decide +kernel
theorem dX0_nextHour_69 : decode cX0_nextHour 69 = .ok (.iinc 7 1, 3) := by decide +kernel
theorem dX0_nextHour_72 : decode cX0_nextHour 72 = .ok (.goto (-36), 3) := by decide +kernel
theorem dX0_nextHour_75 : decode cX0_nextHour 75 = .ok (.aload_n 0, 1) := by decide +kernel
theorem dX0_nextHour_76 : decode cX0_nextHour 76 = .ok (.invokevirtual 57, 3) := by decide +kernel
theorem dX0_nextHour_79 : decode cX0_nextHour 79 = .ok (.istore 7, 2) := by decide +kernel
theorem dX0_nextHour_81 : decode cX0_nextHour 81 = .ok (.iload 7, 2) := by decide +kernel
theorem dX0_nextHour_83 : decode cX0_nextHour 83 = .ok (.iload 5, 2) := by decide +kernel
theorem dX0_nextHour_85 : decode cX0_nextHour 85 = .ok (.if_icmp .ge 11, 3) := by decide +kernel
theorem dX0_nextHour_88 : decode cX0_nextHour 88 = .ok (.iload 7, 2) := by decide +kernel
theorem dX0_nextHour_90 : decode cX0_nextHour 90 = .ok (.istore 5, 2) := by decide +kernel
theorem dX0_nextHour_92 : decode cX0_nextHour 92 = .ok (.iload 6, 2) := by decide +kernel
theorem dX0_nextHour_94 : decode cX0_nextHour 94 = .ok (.istore 4, 2) := by decide +kernel
theorem dX0_nextHour_96 : decode cX0_nextHour 96 = .ok (.iinc 6 1, 3) := by decide +kernel
theorem dX0_nextHour_99 : decode cX0_nextHour 99 = .ok (.goto (-82), 3) := by decide +kernel
theorem dX0_nextHour_102 : decode cX0_nextHour 102 = .ok (.iload 4, 2) := by decide +kernel
theorem dX0_nextHour_104 : decode cX0_nextHour 104 = .ok (.ireturn, 1) := by decide +kernel
theorem dX0_houseKinds_0 : decode cX0_houseKinds 0 = .ok (.iconst 0, 1) := by decide +kernel
theorem dX0_houseKinds_1 : decode cX0_houseKinds 1 = .ok (.istore_n 3, 1) := by decide +kernel
theorem dX0_houseKinds_2 : decode cX0_houseKinds 2 = .ok (.iconst 0, 1) := by decide +kernel
theorem dX0_houseKinds_3 : decode cX0_houseKinds 3 = .ok (.istore 4, 2) := by decide +kernel
theorem dX0_houseKinds_5 : decode cX0_houseKinds 5 = .ok (.iload 4, 2) := by decide +kernel
theorem dX0_houseKinds_7 : decode cX0_houseKinds 7 = .ok (.bipush 6, 2) := by decide +kernel
theorem dX0_houseKinds_9 : decode cX0_houseKinds 9 = .ok (.if_icmp .ge 27, 3) := by decide +kernel
theorem dX0_houseKinds_12 : decode cX0_houseKinds 12 = .ok (.aload_n 0, 1) := by decide +kernel
theorem dX0_houseKinds_13 : decode cX0_houseKinds 13 = .ok (.aload_n 1, 1) := by decide +kernel
theorem dX0_houseKinds_14 : decode cX0_houseKinds 14 = .ok (.iload_n 2, 1) := by decide +kernel
theorem dX0_houseKinds_15 : decode cX0_houseKinds 15 = .ok (.iload 4, 2) := by decide +kernel
theorem dX0_houseKinds_17 : decode cX0_houseKinds 17 = .ok (.invokevirtual 61, 3) := by decide +kernel
theorem dX0_houseKinds_20 : decode cX0_houseKinds 20 = .ok (.ifCond .eq 10, 3) := by decide +kernel
theorem dX0_houseKinds_23 : decode cX0_houseKinds 23 = .ok (.iload_n 3, 1) := by decide +kernel
theorem dX0_houseKinds_24 : decode cX0_houseKinds 24 = .ok (.iconst 1, 1) := by decide +kernel
theorem dX0_houseKinds_25 : decode cX0_houseKinds 25 = .ok (.iload 4, 2) := by decide +kernel
theorem dX0_houseKinds_27 : decode cX0_houseKinds 27 = .ok (.ishl, 1) := by decide +kernel
theorem dX0_houseKinds_28 : decode cX0_houseKinds 28 = .ok (.ior, 1) := by decide +kernel
theorem dX0_houseKinds_29 : decode cX0_houseKinds 29 = .ok (.istore_n 3, 1) := by decide +kernel
theorem dX0_houseKinds_30 : decode cX0_houseKinds 30 = .ok (.iinc 4 1, 3) := by decide +kernel
theorem dX0_houseKinds_33 : decode cX0_houseKinds 33 = .ok (.goto (-28), 3) := by decide +kernel
theorem dX0_houseKinds_36 : decode cX0_houseKinds 36 = .ok (.iload_n 3, 1) := by decide +kernel
theorem dX0_houseKinds_37 : decode cX0_houseKinds 37 = .ok (.ireturn, 1) := by decide +kernel
theorem dX0_nextQuestion_0 : decode cX0_nextQuestion 0 = .ok (.aload_n 0, 1) := by decide +kernel
theorem dX0_nextQuestion_1 : decode cX0_nextQuestion 1 = .ok (.aload_n 1, 1) := by decide +kernel
theorem dX0_nextQuestion_2 : decode cX0_nextQuestion 2 = .ok (.iload_n 2, 1) := by decide +kernel
theorem dX0_nextQuestion_3 : decode cX0_nextQuestion 3 = .ok (.invokevirtual 64, 3) := by decide +kernel
theorem dX0_nextQuestion_6 : decode cX0_nextQuestion 6 = .ok (.istore_n 3, 1) := by decide +kernel
theorem dX0_nextQuestion_7 : decode cX0_nextQuestion 7 = .ok (.iconst (-1), 1) := by decide +kernel
theorem dX0_nextQuestion_8 : decode cX0_nextQuestion 8 = .ok (.istore 4, 2) := by decide +kernel
theorem dX0_nextQuestion_10 : decode cX0_nextQuestion 10 = .ok (.bipush 7, 2) := by decide +kernel
theorem dX0_nextQuestion_12 : decode cX0_nextQuestion 12 = .ok (.istore 5, 2) := by decide +kernel
theorem dX0_nextQuestion_14 : decode cX0_nextQuestion 14 = .ok (.iconst 0, 1) := by decide +kernel
theorem dX0_nextQuestion_15 : decode cX0_nextQuestion 15 = .ok (.istore 6, 2) := by decide +kernel
theorem dX0_nextQuestion_17 : decode cX0_nextQuestion 17 = .ok (.iload 6, 2) := by decide +kernel
theorem dX0_nextQuestion_19 : decode cX0_nextQuestion 19 = .ok (.sipush 199, 3) := by decide +kernel
theorem dX0_nextQuestion_22 : decode cX0_nextQuestion 22 = .ok (.if_icmp .gt 84, 3) := by decide +kernel
theorem dX0_nextQuestion_25 : decode cX0_nextQuestion 25 = .ok (.iload_n 3, 1) := by decide +kernel
theorem dX0_nextQuestion_26 : decode cX0_nextQuestion 26 = .ok (.ifCond .eq 80, 3) := by decide +kernel
theorem dX0_nextQuestion_29 : decode cX0_nextQuestion 29 = .ok (.aload_n 0, 1) := by decide +kernel
theorem dX0_nextQuestion_30 : decode cX0_nextQuestion 30 = .ok (.iconst 0, 1) := by decide +kernel
theorem dX0_nextQuestion_31 : decode cX0_nextQuestion 31 = .ok (.putfield 39, 3) := by decide +kernel
theorem dX0_nextQuestion_34 : decode cX0_nextQuestion 34 = .ok (.iconst 0, 1) := by decide +kernel
theorem dX0_nextQuestion_35 : decode cX0_nextQuestion 35 = .ok (.istore 7, 2) := by decide +kernel
theorem dX0_nextQuestion_37 : decode cX0_nextQuestion 37 = .ok (.iload 7, 2) := by decide +kernel
theorem dX0_nextQuestion_39 : decode cX0_nextQuestion 39 = .ok (.bipush 6, 2) := by decide +kernel
theorem dX0_nextQuestion_41 : decode cX0_nextQuestion 41 = .ok (.if_icmp .ge 38, 3) := by decide +kernel
theorem dX0_nextQuestion_44 : decode cX0_nextQuestion 44 = .ok (.iload_n 3, 1) := by decide +kernel
theorem dX0_nextQuestion_45 : decode cX0_nextQuestion 45 = .ok (.iload 7, 2) := by decide +kernel
theorem dX0_nextQuestion_47 : decode cX0_nextQuestion 47 = .ok (.ishr, 1) := by decide +kernel
theorem dX0_nextQuestion_48 : decode cX0_nextQuestion 48 = .ok (.iconst 1, 1) := by decide +kernel
theorem dX0_nextQuestion_49 : decode cX0_nextQuestion 49 = .ok (.iand, 1) := by decide +kernel
theorem dX0_nextQuestion_50 : decode cX0_nextQuestion 50 = .ok (.iconst 1, 1) := by decide +kernel
theorem dX0_nextQuestion_51 : decode cX0_nextQuestion 51 = .ok (.if_icmp .ne 22, 3) := by decide +kernel
theorem dX0_nextQuestion_54 : decode cX0_nextQuestion 54 = .ok (.aload_n 0, 1) := by decide +kernel
theorem dX0_nextQuestion_55 : decode cX0_nextQuestion 55 = .ok (.iload 7, 2) := by decide +kernel
theorem dX0_nextQuestion_57 : decode cX0_nextQuestion 57 = .ok (.iload 6, 2) := by decide +kernel
theorem dX0_nextQuestion_59 : decode cX0_nextQuestion 59 = .ok (.bipush 100, 2) := by decide +kernel
theorem dX0_nextQuestion_61 : decode cX0_nextQuestion 61 = .ok (.irem, 1) := by decide +kernel
theorem dX0_nextQuestion_62 : decode cX0_nextQuestion 62 = .ok (.iload 6, 2) := by decide +kernel
theorem dX0_nextQuestion_64 : decode cX0_nextQuestion 64 = .ok (.bipush 100, 2) := by decide +kernel
theorem dX0_nextQuestion_66 : decode cX0_nextQuestion 66 = .ok (.idiv, 1) := by decide +kernel
theorem dX0_nextQuestion_67 : decode cX0_nextQuestion 67 = .ok (.invokestatic 67, 3) := by decide +kernel
theorem dX0_nextQuestion_70 : decode cX0_nextQuestion 70 = .ok (.invokevirtual 53, 3) := by decide +kernel
theorem dX0_nextQuestion_73 : decode cX0_nextQuestion 73 = .ok (.iinc 7 1, 3) := by decide +kernel
theorem dX0_nextQuestion_76 : decode cX0_nextQuestion 76 = .ok (.goto (-39), 3) := by decide +kernel
theorem dX0_nextQuestion_79 : decode cX0_nextQuestion 79 = .ok (.aload_n 0, 1) := by decide +kernel
theorem dX0_nextQuestion_80 : decode cX0_nextQuestion 80 = .ok (.invokevirtual 57, 3) := by decide +kernel
theorem dX0_nextQuestion_83 : decode cX0_nextQuestion 83 = .ok (.istore 7, 2) := by decide +kernel
theorem dX0_nextQuestion_85 : decode cX0_nextQuestion 85 = .ok (.iload 7, 2) := by decide +kernel
theorem dX0_nextQuestion_87 : decode cX0_nextQuestion 87 = .ok (.iload 5, 2) := by decide +kernel
theorem dX0_nextQuestion_89 : decode cX0_nextQuestion 89 = .ok (.if_icmp .ge 11, 3) := by decide +kernel
theorem dX0_nextQuestion_92 : decode cX0_nextQuestion 92 = .ok (.iload 7, 2) := by decide +kernel
theorem dX0_nextQuestion_94 : decode cX0_nextQuestion 94 = .ok (.istore 5, 2) := by decide +kernel
theorem dX0_nextQuestion_96 : decode cX0_nextQuestion 96 = .ok (.iload 6, 2) := by decide +kernel
theorem dX0_nextQuestion_98 : decode cX0_nextQuestion 98 = .ok (.istore 4, 2) := by decide +kernel
theorem dX0_nextQuestion_100 : decode cX0_nextQuestion 100 = .ok (.iinc 6 1, 3) := by decide +kernel
theorem dX0_nextQuestion_103 : decode cX0_nextQuestion 103 = .ok (.goto (-86), 3) := by decide +kernel
theorem dX0_nextQuestion_106 : decode cX0_nextQuestion 106 = .ok (.iload 4, 2) := by decide +kernel
theorem dX0_nextQuestion_108 : decode cX0_nextQuestion 108 = .ok (.ireturn, 1) := by decide +kernel
theorem dX0_fits_0 : decode cX0_fits 0 = .ok (.iconst 0, 1) := by decide +kernel
theorem dX0_fits_1 : decode cX0_fits 1 = .ok (.istore_n 3, 1) := by decide +kernel
theorem dX0_fits_2 : decode cX0_fits 2 = .ok (.iload_n 3, 1) := by decide +kernel
theorem dX0_fits_3 : decode cX0_fits 3 = .ok (.aload_n 1, 1) := by decide +kernel
theorem dX0_fits_4 : decode cX0_fits 4 = .ok (.getfield 70, 3) := by decide +kernel
theorem dX0_fits_7 : decode cX0_fits 7 = .ok (.getfield 74, 3) := by decide +kernel
theorem dX0_fits_10 : decode cX0_fits 10 = .ok (.if_icmp .ge 36, 3) := by decide +kernel
theorem dX0_fits_13 : decode cX0_fits 13 = .ok (.aload_n 1, 1) := by decide +kernel
theorem dX0_fits_14 : decode cX0_fits 14 = .ok (.getfield 70, 3) := by decide +kernel
theorem dX0_fits_17 : decode cX0_fits 17 = .ok (.iload_n 3, 1) := by decide +kernel
theorem dX0_fits_18 : decode cX0_fits 18 = .ok (.iconst 0, 1) := by decide +kernel
theorem dX0_fits_19 : decode cX0_fits 19 = .ok (.invokevirtual 79, 3) := by decide +kernel
theorem dX0_fits_22 : decode cX0_fits 22 = .ok (.iload_n 2, 1) := by decide +kernel
theorem dX0_fits_23 : decode cX0_fits 23 = .ok (.invokestatic 82, 3) := by decide +kernel
theorem dX0_fits_26 : decode cX0_fits 26 = .ok (.aload_n 1, 1) := by decide +kernel
theorem dX0_fits_27 : decode cX0_fits 27 = .ok (.getfield 70, 3) := by decide +kernel
theorem dX0_fits_30 : decode cX0_fits 30 = .ok (.iload_n 3, 1) := by decide +kernel
theorem dX0_fits_31 : decode cX0_fits 31 = .ok (.iconst 1, 1) := by decide +kernel
theorem dX0_fits_32 : decode cX0_fits 32 = .ok (.invokevirtual 79, 3) := by decide +kernel
theorem dX0_fits_35 : decode cX0_fits 35 = .ok (.if_icmp .eq 5, 3) := by decide +kernel
theorem dX0_fits_38 : decode cX0_fits 38 = .ok (.iconst 0, 1) := by decide +kernel
theorem dX0_fits_39 : decode cX0_fits 39 = .ok (.ireturn, 1) := by decide +kernel
theorem dX0_fits_40 : decode cX0_fits 40 = .ok (.iinc 3 1, 3) := by decide +kernel
theorem dX0_fits_43 : decode cX0_fits 43 = .ok (.goto (-41), 3) := by decide +kernel
theorem dX0_fits_46 : decode cX0_fits 46 = .ok (.iconst 1, 1) := by decide +kernel
theorem dX0_fits_47 : decode cX0_fits 47 = .ok (.ireturn, 1) := by decide +kernel
theorem dX0_notesFit_0 : decode cX0_notesFit 0 = .ok (.iconst 0, 1) := by decide +kernel
theorem dX0_notesFit_1 : decode cX0_notesFit 1 = .ok (.istore 4, 2) := by decide +kernel
theorem dX0_notesFit_3 : decode cX0_notesFit 3 = .ok (.iload 4, 2) := by decide +kernel
theorem dX0_notesFit_5 : decode cX0_notesFit 5 = .ok (.aload_n 1, 1) := by decide +kernel
theorem dX0_notesFit_6 : decode cX0_notesFit 6 = .ok (.getfield 85, 3) := by decide +kernel
theorem dX0_notesFit_9 : decode cX0_notesFit 9 = .ok (.getfield 74, 3) := by decide +kernel
theorem dX0_notesFit_12 : decode cX0_notesFit 12 = .ok (.if_icmp .ge 62, 3) := by decide +kernel
theorem dX0_notesFit_15 : decode cX0_notesFit 15 = .ok (.aload_n 1, 1) := by decide +kernel
theorem dX0_notesFit_16 : decode cX0_notesFit 16 = .ok (.getfield 85, 3) := by decide +kernel
theorem dX0_notesFit_19 : decode cX0_notesFit 19 = .ok (.iload 4, 2) := by decide +kernel
theorem dX0_notesFit_21 : decode cX0_notesFit 21 = .ok (.iconst 0, 1) := by decide +kernel
theorem dX0_notesFit_22 : decode cX0_notesFit 22 = .ok (.invokevirtual 79, 3) := by decide +kernel
theorem dX0_notesFit_25 : decode cX0_notesFit 25 = .ok (.iload_n 2, 1) := by decide +kernel
theorem dX0_notesFit_26 : decode cX0_notesFit 26 = .ok (.if_icmp .ne 42, 3) := by decide +kernel
theorem dX0_notesFit_29 : decode cX0_notesFit 29 = .ok (.iload_n 3, 1) := by decide +kernel
theorem dX0_notesFit_30 : decode cX0_notesFit 30 = .ok (.aload_n 1, 1) := by decide +kernel
theorem dX0_notesFit_31 : decode cX0_notesFit 31 = .ok (.getfield 85, 3) := by decide +kernel
theorem dX0_notesFit_34 : decode cX0_notesFit 34 = .ok (.iload 4, 2) := by decide +kernel
theorem dX0_notesFit_36 : decode cX0_notesFit 36 = .ok (.iconst 1, 1) := by decide +kernel
theorem dX0_notesFit_37 : decode cX0_notesFit 37 = .ok (.invokevirtual 79, 3) := by decide +kernel
theorem dX0_notesFit_40 : decode cX0_notesFit 40 = .ok (.aload_n 1, 1) := by decide +kernel
theorem dX0_notesFit_41 : decode cX0_notesFit 41 = .ok (.getfield 85, 3) := by decide +kernel
theorem dX0_notesFit_44 : decode cX0_notesFit 44 = .ok (.iload 4, 2) := by decide +kernel
theorem dX0_notesFit_46 : decode cX0_notesFit 46 = .ok (.iconst 2, 1) := by decide +kernel
theorem dX0_notesFit_47 : decode cX0_notesFit 47 = .ok (.invokevirtual 79, 3) := by decide +kernel
theorem dX0_notesFit_50 : decode cX0_notesFit 50 = .ok (.invokestatic 49, 3) := by decide +kernel
theorem dX0_notesFit_53 : decode cX0_notesFit 53 = .ok (.aload_n 1, 1) := by decide +kernel
theorem dX0_notesFit_54 : decode cX0_notesFit 54 = .ok (.getfield 85, 3) := by decide +kernel
theorem dX0_notesFit_57 : decode cX0_notesFit 57 = .ok (.iload 4, 2) := by decide +kernel
theorem dX0_notesFit_59 : decode cX0_notesFit 59 = .ok (.iconst 3, 1) := by decide +kernel
theorem dX0_notesFit_60 : decode cX0_notesFit 60 = .ok (.invokevirtual 79, 3) := by decide +kernel
theorem dX0_notesFit_63 : decode cX0_notesFit 63 = .ok (.if_icmp .eq 5, 3) := by decide +kernel
theorem dX0_notesFit_66 : decode cX0_notesFit 66 = .ok (.iconst 0, 1) := by decide +kernel
theorem dX0_notesFit_67 : decode cX0_notesFit 67 = .ok (.ireturn, 1) := by decide +kernel
theorem dX0_notesFit_68 : decode cX0_notesFit 68 = .ok (.iinc 4 1, 3) := by decide +kernel
theorem dX0_notesFit_71 : decode cX0_notesFit 71 = .ok (.goto (-68), 3) := by decide +kernel
theorem dX0_notesFit_74 : decode cX0_notesFit 74 = .ok (.iconst 1, 1) := by decide +kernel
theorem dX0_notesFit_75 : decode cX0_notesFit 75 = .ok (.ireturn, 1) := by decide +kernel
theorem dX0_marksFit_0 : decode cX0_marksFit 0 = .ok (.iconst 0, 1) := by decide +kernel
theorem dX0_marksFit_1 : decode cX0_marksFit 1 = .ok (.istore 4, 2) := by decide +kernel
theorem dX0_marksFit_3 : decode cX0_marksFit 3 = .ok (.iload 4, 2) := by decide +kernel
theorem dX0_marksFit_5 : decode cX0_marksFit 5 = .ok (.aload_n 1, 1) := by decide +kernel
theorem dX0_marksFit_6 : decode cX0_marksFit 6 = .ok (.getfield 88, 3) := by decide +kernel
theorem dX0_marksFit_9 : decode cX0_marksFit 9 = .ok (.getfield 74, 3) := by decide +kernel
theorem dX0_marksFit_12 : decode cX0_marksFit 12 = .ok (.if_icmp .ge 62, 3) := by decide +kernel
theorem dX0_marksFit_15 : decode cX0_marksFit 15 = .ok (.aload_n 1, 1) := by decide +kernel
theorem dX0_marksFit_16 : decode cX0_marksFit 16 = .ok (.getfield 88, 3) := by decide +kernel
theorem dX0_marksFit_19 : decode cX0_marksFit 19 = .ok (.iload 4, 2) := by decide +kernel
theorem dX0_marksFit_21 : decode cX0_marksFit 21 = .ok (.iconst 0, 1) := by decide +kernel
theorem dX0_marksFit_22 : decode cX0_marksFit 22 = .ok (.invokevirtual 79, 3) := by decide +kernel
theorem dX0_marksFit_25 : decode cX0_marksFit 25 = .ok (.iload_n 2, 1) := by decide +kernel
theorem dX0_marksFit_26 : decode cX0_marksFit 26 = .ok (.if_icmp .ne 42, 3) := by decide +kernel
theorem dX0_marksFit_29 : decode cX0_marksFit 29 = .ok (.iload_n 3, 1) := by decide +kernel
theorem dX0_marksFit_30 : decode cX0_marksFit 30 = .ok (.aload_n 1, 1) := by decide +kernel
theorem dX0_marksFit_31 : decode cX0_marksFit 31 = .ok (.getfield 88, 3) := by decide +kernel
theorem dX0_marksFit_34 : decode cX0_marksFit 34 = .ok (.iload 4, 2) := by decide +kernel
theorem dX0_marksFit_36 : decode cX0_marksFit 36 = .ok (.iconst 1, 1) := by decide +kernel
theorem dX0_marksFit_37 : decode cX0_marksFit 37 = .ok (.invokevirtual 79, 3) := by decide +kernel
theorem dX0_marksFit_40 : decode cX0_marksFit 40 = .ok (.aload_n 1, 1) := by decide +kernel
theorem dX0_marksFit_41 : decode cX0_marksFit 41 = .ok (.getfield 88, 3) := by decide +kernel
theorem dX0_marksFit_44 : decode cX0_marksFit 44 = .ok (.iload 4, 2) := by decide +kernel
theorem dX0_marksFit_46 : decode cX0_marksFit 46 = .ok (.iconst 2, 1) := by decide +kernel
theorem dX0_marksFit_47 : decode cX0_marksFit 47 = .ok (.invokevirtual 79, 3) := by decide +kernel
theorem dX0_marksFit_50 : decode cX0_marksFit 50 = .ok (.invokestatic 67, 3) := by decide +kernel
theorem dX0_marksFit_53 : decode cX0_marksFit 53 = .ok (.aload_n 1, 1) := by decide +kernel
theorem dX0_marksFit_54 : decode cX0_marksFit 54 = .ok (.getfield 88, 3) := by decide +kernel
theorem dX0_marksFit_57 : decode cX0_marksFit 57 = .ok (.iload 4, 2) := by decide +kernel
theorem dX0_marksFit_59 : decode cX0_marksFit 59 = .ok (.iconst 3, 1) := by decide +kernel
theorem dX0_marksFit_60 : decode cX0_marksFit 60 = .ok (.invokevirtual 79, 3) := by decide +kernel
theorem dX0_marksFit_63 : decode cX0_marksFit 63 = .ok (.if_icmp .eq 5, 3) := by decide +kernel
theorem dX0_marksFit_66 : decode cX0_marksFit 66 = .ok (.iconst 0, 1) := by decide +kernel
theorem dX0_marksFit_67 : decode cX0_marksFit 67 = .ok (.ireturn, 1) := by decide +kernel
theorem dX0_marksFit_68 : decode cX0_marksFit 68 = .ok (.iinc 4 1, 3) := by decide +kernel
theorem dX0_marksFit_71 : decode cX0_marksFit 71 = .ok (.goto (-68), 3) := by decide +kernel
theorem dX0_marksFit_74 : decode cX0_marksFit 74 = .ok (.iconst 1, 1) := by decide +kernel
theorem dX0_marksFit_75 : decode cX0_marksFit 75 = .ok (.ireturn, 1) := by decide +kernel
theorem dX0_putAnswer_0 : decode cX0_putAnswer 0 = .ok (.aload_n 0, 1) := by decide +kernel
theorem dX0_putAnswer_1 : decode cX0_putAnswer 1 = .ok (.getfield 39, 3) := by decide +kernel
theorem dX0_putAnswer_4 : decode cX0_putAnswer 4 = .ok (.iconst 0, 1) := by decide +kernel
theorem dX0_putAnswer_5 : decode cX0_putAnswer 5 = .ok (.iconst 5, 1) := by decide +kernel
theorem dX0_putAnswer_6 : decode cX0_putAnswer 6 = .ok (.invokestatic 91, 3) := by decide +kernel
theorem dX0_putAnswer_9 : decode cX0_putAnswer 9 = .ok (.ifCond .eq 23, 3) := by decide +kernel
theorem dX0_putAnswer_12 : decode cX0_putAnswer 12 = .ok (.aload_n 0, 1) := by decide +kernel
theorem dX0_putAnswer_13 : decode cX0_putAnswer 13 = .ok (.getfield 11, 3) := by decide +kernel
theorem dX0_putAnswer_16 : decode cX0_putAnswer 16 = .ok (.aload_n 0, 1) := by decide +kernel
theorem dX0_putAnswer_17 : decode cX0_putAnswer 17 = .ok (.getfield 39, 3) := by decide +kernel
theorem dX0_putAnswer_20 : decode cX0_putAnswer 20 = .ok (.iload_n 1, 1) := by decide +kernel
theorem dX0_putAnswer_21 : decode cX0_putAnswer 21 = .ok (.iastore, 1) := by decide +kernel
theorem dX0_putAnswer_22 : decode cX0_putAnswer 22 = .ok (.aload_n 0, 1) := by decide +kernel
theorem dX0_putAnswer_23 : decode cX0_putAnswer 23 = .ok (.dup, 1) := by decide +kernel
theorem dX0_putAnswer_24 : decode cX0_putAnswer 24 = .ok (.getfield 39, 3) := by decide +kernel
theorem dX0_putAnswer_27 : decode cX0_putAnswer 27 = .ok (.iconst 1, 1) := by decide +kernel
theorem dX0_putAnswer_28 : decode cX0_putAnswer 28 = .ok (.iadd, 1) := by decide +kernel
theorem dX0_putAnswer_29 : decode cX0_putAnswer 29 = .ok (.putfield 39, 3) := by decide +kernel
theorem dX0_putAnswer_32 : decode cX0_putAnswer 32 = .ok (.return_, 1) := by decide +kernel
theorem dX0_mostAlike_0 : decode cX0_mostAlike 0 = .ok (.iconst 0, 1) := by decide +kernel
theorem dX0_mostAlike_1 : decode cX0_mostAlike 1 = .ok (.istore_n 1, 1) := by decide +kernel
theorem dX0_mostAlike_2 : decode cX0_mostAlike 2 = .ok (.iconst 0, 1) := by decide +kernel
theorem dX0_mostAlike_3 : decode cX0_mostAlike 3 = .ok (.istore_n 2, 1) := by decide +kernel
theorem dX0_mostAlike_4 : decode cX0_mostAlike 4 = .ok (.iload_n 2, 1) := by decide +kernel
theorem dX0_mostAlike_5 : decode cX0_mostAlike 5 = .ok (.aload_n 0, 1) := by decide +kernel
theorem dX0_mostAlike_6 : decode cX0_mostAlike 6 = .ok (.getfield 39, 3) := by decide +kernel
theorem dX0_mostAlike_9 : decode cX0_mostAlike 9 = .ok (.if_icmp .ge 57, 3) := by decide +kernel
theorem dX0_mostAlike_12 : decode cX0_mostAlike 12 = .ok (.iload_n 2, 1) := by decide +kernel
theorem dX0_mostAlike_13 : decode cX0_mostAlike 13 = .ok (.bipush 6, 2) := by decide +kernel
theorem dX0_mostAlike_15 : decode cX0_mostAlike 15 = .ok (.if_icmp .ge 51, 3) := by decide +kernel
theorem dX0_mostAlike_18 : decode cX0_mostAlike 18 = .ok (.iconst 1, 1) := by decide +kernel
theorem dX0_mostAlike_19 : decode cX0_mostAlike 19 = .ok (.istore_n 3, 1) := by decide +kernel
theorem dX0_mostAlike_20 : decode cX0_mostAlike 20 = .ok (.iconst 0, 1) := by decide +kernel
theorem dX0_mostAlike_21 : decode cX0_mostAlike 21 = .ok (.istore 4, 2) := by decide +kernel
theorem dX0_mostAlike_23 : decode cX0_mostAlike 23 = .ok (.iload 4, 2) := by decide +kernel
theorem dX0_mostAlike_25 : decode cX0_mostAlike 25 = .ok (.iload_n 2, 1) := by decide +kernel
theorem dX0_mostAlike_26 : decode cX0_mostAlike 26 = .ok (.if_icmp .ge 28, 3) := by decide +kernel
theorem dX0_mostAlike_29 : decode cX0_mostAlike 29 = .ok (.aload_n 0, 1) := by decide +kernel
theorem dX0_mostAlike_30 : decode cX0_mostAlike 30 = .ok (.getfield 11, 3) := by decide +kernel
theorem dX0_mostAlike_33 : decode cX0_mostAlike 33 = .ok (.iload 4, 2) := by decide +kernel
theorem dX0_mostAlike_35 : decode cX0_mostAlike 35 = .ok (.iaload, 1) := by decide +kernel
theorem dX0_mostAlike_36 : decode cX0_mostAlike 36 = .ok (.aload_n 0, 1) := by decide +kernel
theorem dX0_mostAlike_37 : decode cX0_mostAlike 37 = .ok (.getfield 11, 3) := by decide +kernel
theorem dX0_mostAlike_40 : decode cX0_mostAlike 40 = .ok (.iload_n 2, 1) := by decide +kernel
theorem dX0_mostAlike_41 : decode cX0_mostAlike 41 = .ok (.iaload, 1) := by decide +kernel
theorem dX0_mostAlike_42 : decode cX0_mostAlike 42 = .ok (.if_icmp .ne 6, 3) := by decide +kernel
theorem dX0_mostAlike_45 : decode cX0_mostAlike 45 = .ok (.iinc 3 1, 3) := by decide +kernel
theorem dX0_mostAlike_48 : decode cX0_mostAlike 48 = .ok (.iinc 4 1, 3) := by decide +kernel
theorem dX0_mostAlike_51 : decode cX0_mostAlike 51 = .ok (.goto (-28), 3) := by decide +kernel
theorem dX0_mostAlike_54 : decode cX0_mostAlike 54 = .ok (.iload_n 1, 1) := by decide +kernel
theorem dX0_mostAlike_55 : decode cX0_mostAlike 55 = .ok (.iload_n 3, 1) := by decide +kernel
theorem dX0_mostAlike_56 : decode cX0_mostAlike 56 = .ok (.invokestatic 25, 3) := by decide +kernel
theorem dX0_mostAlike_59 : decode cX0_mostAlike 59 = .ok (.istore_n 1, 1) := by decide +kernel
theorem dX0_mostAlike_60 : decode cX0_mostAlike 60 = .ok (.iinc 2 1, 3) := by decide +kernel
theorem dX0_mostAlike_63 : decode cX0_mostAlike 63 = .ok (.goto (-59), 3) := by decide +kernel
theorem dX0_mostAlike_66 : decode cX0_mostAlike 66 = .ok (.iload_n 1, 1) := by decide +kernel
theorem dX0_mostAlike_67 : decode cX0_mostAlike 67 = .ok (.ireturn, 1) := by decide +kernel
theorem dX1_known_0 : decode cX1_known 0 = .ok (.iload_n 0, 1) := by decide +kernel
theorem dX1_known_1 : decode cX1_known 1 = .ok (.iconst 0, 1) := by decide +kernel
theorem dX1_known_2 : decode cX1_known 2 = .ok (.iconst 5, 1) := by decide +kernel
theorem dX1_known_3 : decode cX1_known 3 = .ok (.invokestatic 11, 3) := by decide +kernel
theorem dX1_known_6 : decode cX1_known 6 = .ok (.ireturn, 1) := by decide +kernel
theorem dX1_shown_0 : decode cX1_shown 0 = .ok (.iload_n 2, 1) := by decide +kernel
theorem dX1_shown_1 : decode cX1_shown 1 = .ok (.bipush 24, 2) := by decide +kernel
theorem dX1_shown_3 : decode cX1_shown 3 = .ok (.irem, 1) := by decide +kernel
theorem dX1_shown_4 : decode cX1_shown 4 = .ok (.istore_n 3, 1) := by decide +kernel
theorem dX1_shown_5 : decode cX1_shown 5 = .ok (.iload_n 3, 1) := by decide +kernel
theorem dX1_shown_6 : decode cX1_shown 6 = .ok (.bipush 6, 2) := by decide +kernel
theorem dX1_shown_8 : decode cX1_shown 8 = .ok (.if_icmp .lt 9, 3) := by decide +kernel
theorem dX1_shown_11 : decode cX1_shown 11 = .ok (.iload_n 3, 1) := by decide +kernel
theorem dX1_shown_12 : decode cX1_shown 12 = .ok (.bipush 18, 2) := by decide +kernel
theorem dX1_shown_14 : decode cX1_shown 14 = .ok (.if_icmp .lt 7, 3) := by decide +kernel
theorem dX1_shown_17 : decode cX1_shown 17 = .ok (.iconst 0, 1) := by decide +kernel
theorem dX1_shown_18 : decode cX1_shown 18 = .ok (.goto 4, 3) := by decide +kernel
theorem dX1_shown_21 : decode cX1_shown 21 = .ok (.iload_n 1, 1) := by decide +kernel
theorem dX1_shown_22 : decode cX1_shown 22 = .ok (.istore 4, 2) := by decide +kernel
theorem dX1_shown_24 : decode cX1_shown 24 = .ok (.iload_n 1, 1) := by decide +kernel
theorem dX1_shown_25 : decode cX1_shown 25 = .ok (.iconst 5, 1) := by decide +kernel
theorem dX1_shown_26 : decode cX1_shown 26 = .ok (.iadd, 1) := by decide +kernel
theorem dX1_shown_27 : decode cX1_shown 27 = .ok (.istore 5, 2) := by decide +kernel
theorem dX1_shown_29 : decode cX1_shown 29 = .ok (.iload_n 0, 1) := by decide +kernel
theorem dX1_shown_30 : decode cX1_shown 30 = .ok (.tableswitch 64 1 5 #[34, 37, 44, 47, 54], 34) := by decide +kernel
theorem dX1_shown_64 : decode cX1_shown 64 = .ok (.iload 4, 2) := by decide +kernel
theorem dX1_shown_66 : decode cX1_shown 66 = .ok (.ireturn, 1) := by decide +kernel
theorem dX1_shown_67 : decode cX1_shown 67 = .ok (.iload_n 1, 1) := by decide +kernel
theorem dX1_shown_68 : decode cX1_shown 68 = .ok (.bipush 10, 2) := by decide +kernel
theorem dX1_shown_70 : decode cX1_shown 70 = .ok (.invokestatic 15, 3) := by decide +kernel
theorem dX1_shown_73 : decode cX1_shown 73 = .ok (.ireturn, 1) := by decide +kernel
theorem dX1_shown_74 : decode cX1_shown 74 = .ok (.iload 5, 2) := by decide +kernel
theorem dX1_shown_76 : decode cX1_shown 76 = .ok (.ireturn, 1) := by decide +kernel
theorem dX1_shown_77 : decode cX1_shown 77 = .ok (.iload 4, 2) := by decide +kernel
theorem dX1_shown_79 : decode cX1_shown 79 = .ok (.iconst 1, 1) := by decide +kernel
theorem dX1_shown_80 : decode cX1_shown 80 = .ok (.iadd, 1) := by decide +kernel
theorem dX1_shown_81 : decode cX1_shown 81 = .ok (.iconst 2, 1) := by decide +kernel
theorem dX1_shown_82 : decode cX1_shown 82 = .ok (.idiv, 1) := by decide +kernel
theorem dX1_shown_83 : decode cX1_shown 83 = .ok (.ireturn, 1) := by decide +kernel
theorem dX1_shown_84 : decode cX1_shown 84 = .ok (.iconst 2, 1) := by decide +kernel
theorem dX1_shown_85 : decode cX1_shown 85 = .ok (.iload 5, 2) := by decide +kernel
theorem dX1_shown_87 : decode cX1_shown 87 = .ok (.imul, 1) := by decide +kernel
theorem dX1_shown_88 : decode cX1_shown 88 = .ok (.bipush 99, 2) := by decide +kernel
theorem dX1_shown_90 : decode cX1_shown 90 = .ok (.invokestatic 15, 3) := by decide +kernel
theorem dX1_shown_93 : decode cX1_shown 93 = .ok (.ireturn, 1) := by decide +kernel
theorem dX1_shown_94 : decode cX1_shown 94 = .ok (.iload_n 1, 1) := by decide +kernel
theorem dX1_shown_95 : decode cX1_shown 95 = .ok (.ireturn, 1) := by decide +kernel
theorem dX1_charged_0 : decode cX1_charged 0 = .ok (.iload_n 1, 1) := by decide +kernel
theorem dX1_charged_1 : decode cX1_charged 1 = .ok (.iconst 1, 1) := by decide +kernel
theorem dX1_charged_2 : decode cX1_charged 2 = .ok (.iadd, 1) := by decide +kernel
theorem dX1_charged_3 : decode cX1_charged 3 = .ok (.iconst 2, 1) := by decide +kernel
theorem dX1_charged_4 : decode cX1_charged 4 = .ok (.idiv, 1) := by decide +kernel
theorem dX1_charged_5 : decode cX1_charged 5 = .ok (.istore_n 3, 1) := by decide +kernel
theorem dX1_charged_6 : decode cX1_charged 6 = .ok (.iload_n 3, 1) := by decide +kernel
theorem dX1_charged_7 : decode cX1_charged 7 = .ok (.iload_n 1, 1) := by decide +kernel
theorem dX1_charged_8 : decode cX1_charged 8 = .ok (.bipush 10, 2) := by decide +kernel
theorem dX1_charged_10 : decode cX1_charged 10 = .ok (.idiv, 1) := by decide +kernel
theorem dX1_charged_11 : decode cX1_charged 11 = .ok (.iadd, 1) := by decide +kernel
theorem dX1_charged_12 : decode cX1_charged 12 = .ok (.istore 4, 2) := by decide +kernel
theorem dX1_charged_14 : decode cX1_charged 14 = .ok (.iload_n 1, 1) := by decide +kernel
theorem dX1_charged_15 : decode cX1_charged 15 = .ok (.iconst 1, 1) := by decide +kernel
theorem dX1_charged_16 : decode cX1_charged 16 = .ok (.if_icmp .lt 9, 3) := by decide +kernel
theorem dX1_charged_19 : decode cX1_charged 19 = .ok (.iload_n 3, 1) := by decide +kernel
theorem dX1_charged_20 : decode cX1_charged 20 = .ok (.iconst 3, 1) := by decide +kernel
theorem dX1_charged_21 : decode cX1_charged 21 = .ok (.iadd, 1) := by decide +kernel
theorem dX1_charged_22 : decode cX1_charged 22 = .ok (.goto 4, 3) := by decide +kernel
theorem dX1_charged_25 : decode cX1_charged 25 = .ok (.iload_n 3, 1) := by decide +kernel
theorem dX1_charged_26 : decode cX1_charged 26 = .ok (.istore 5, 2) := by decide +kernel
theorem dX1_charged_28 : decode cX1_charged 28 = .ok (.iload_n 0, 1) := by decide +kernel
theorem dX1_charged_29 : decode cX1_charged 29 = .ok (.tableswitch 71 1 5 #[35, 38, 51, 54, 62], 35) := by decide +kernel
theorem dX1_charged_64 : decode cX1_charged 64 = .ok (.iload 4, 2) := by decide +kernel
theorem dX1_charged_66 : decode cX1_charged 66 = .ok (.ireturn, 1) := by decide +kernel
theorem dX1_charged_67 : decode cX1_charged 67 = .ok (.iload_n 2, 1) := by decide +kernel
theorem dX1_charged_68 : decode cX1_charged 68 = .ok (.bipush 7, 2) := by decide +kernel
theorem dX1_charged_70 : decode cX1_charged 70 = .ok (.irem, 1) := by decide +kernel
theorem dX1_charged_71 : decode cX1_charged 71 = .ok (.ifCond .ne 7, 3) := by decide +kernel
theorem dX1_charged_74 : decode cX1_charged 74 = .ok (.iconst 0, 1) := by decide +kernel
theorem dX1_charged_75 : decode cX1_charged 75 = .ok (.goto 4, 3) := by decide +kernel
theorem dX1_charged_78 : decode cX1_charged 78 = .ok (.iload_n 3, 1) := by decide +kernel
theorem dX1_charged_79 : decode cX1_charged 79 = .ok (.ireturn, 1) := by decide +kernel
theorem dX1_charged_80 : decode cX1_charged 80 = .ok (.iload 5, 2) := by decide +kernel
theorem dX1_charged_82 : decode cX1_charged 82 = .ok (.ireturn, 1) := by decide +kernel
theorem dX1_charged_83 : decode cX1_charged 83 = .ok (.iload 4, 2) := by decide +kernel
theorem dX1_charged_85 : decode cX1_charged 85 = .ok (.bipush 25, 2) := by decide +kernel
theorem dX1_charged_87 : decode cX1_charged 87 = .ok (.invokestatic 15, 3) := by decide +kernel
theorem dX1_charged_90 : decode cX1_charged 90 = .ok (.ireturn, 1) := by decide +kernel
theorem dX1_charged_91 : decode cX1_charged 91 = .ok (.iload 5, 2) := by decide +kernel
theorem dX1_charged_93 : decode cX1_charged 93 = .ok (.iconst 4, 1) := by decide +kernel
theorem dX1_charged_94 : decode cX1_charged 94 = .ok (.iadd, 1) := by decide +kernel
theorem dX1_charged_95 : decode cX1_charged 95 = .ok (.iconst 5, 1) := by decide +kernel
theorem dX1_charged_96 : decode cX1_charged 96 = .ok (.idiv, 1) := by decide +kernel
theorem dX1_charged_97 : decode cX1_charged 97 = .ok (.iconst 5, 1) := by decide +kernel
theorem dX1_charged_98 : decode cX1_charged 98 = .ok (.imul, 1) := by decide +kernel
theorem dX1_charged_99 : decode cX1_charged 99 = .ok (.ireturn, 1) := by decide +kernel
theorem dX1_charged_100 : decode cX1_charged 100 = .ok (.iload_n 3, 1) := by decide +kernel
theorem dX1_charged_101 : decode cX1_charged 101 = .ok (.ireturn, 1) := by decide +kernel
theorem dX1_brought_0 : decode cX1_brought 0 = .ok (.iload_n 0, 1) := by decide +kernel
theorem dX1_brought_1 : decode cX1_brought 1 = .ok (.iload_n 1, 1) := by decide +kernel
theorem dX1_brought_2 : decode cX1_brought 2 = .ok (.if_icmp .lt 11, 3) := by decide +kernel
theorem dX1_brought_5 : decode cX1_brought 5 = .ok (.iload_n 0, 1) := by decide +kernel
theorem dX1_brought_6 : decode cX1_brought 6 = .ok (.iconst 1, 1) := by decide +kernel
theorem dX1_brought_7 : decode cX1_brought 7 = .ok (.iadd, 1) := by decide +kernel
theorem dX1_brought_8 : decode cX1_brought 8 = .ok (.iload_n 1, 1) := by decide +kernel
theorem dX1_brought_9 : decode cX1_brought 9 = .ok (.isub, 1) := by decide +kernel
theorem dX1_brought_10 : decode cX1_brought 10 = .ok (.goto 4, 3) := by decide +kernel
theorem dX1_brought_13 : decode cX1_brought 13 = .ok (.iconst 0, 1) := by decide +kernel
theorem dX1_brought_14 : decode cX1_brought 14 = .ok (.ireturn, 1) := by decide +kernel
theorem dX2_init_0 : decode cX2_init 0 = .ok (.aload_n 0, 1) := by decide +kernel
theorem dX2_init_1 : decode cX2_init 1 = .ok (.invokespecial 3, 3) := by decide +kernel
theorem dX2_init_4 : decode cX2_init 4 = .ok (.aload_n 0, 1) := by decide +kernel
theorem dX2_init_5 : decode cX2_init 5 = .ok (.bipush 20, 2) := by decide +kernel
theorem dX2_init_7 : decode cX2_init 7 = .ok (.putfield 9, 3) := by decide +kernel
theorem dX2_init_10 : decode cX2_init 10 = .ok (.aload_n 0, 1) := by decide +kernel
theorem dX2_init_11 : decode cX2_init 11 = .ok (.bipush 100, 2) := by decide +kernel
theorem dX2_init_13 : decode cX2_init 13 = .ok (.putfield 15, 3) := by decide +kernel
theorem dX2_init_16 : decode cX2_init 16 = .ok (.aload_n 0, 1) := by decide +kernel
theorem dX2_init_17 : decode cX2_init 17 = .ok (.new 18, 3) := by decide +kernel
theorem dX2_init_20 : decode cX2_init 20 = .ok (.dup, 1) := by decide +kernel
theorem dX2_init_21 : decode cX2_init 21 = .ok (.iconst 5, 1) := by decide +kernel
theorem dX2_init_22 : decode cX2_init 22 = .ok (.invokespecial 20, 3) := by decide +kernel
theorem dX2_init_25 : decode cX2_init 25 = .ok (.putfield 23, 3) := by decide +kernel
theorem dX2_init_28 : decode cX2_init 28 = .ok (.aload_n 0, 1) := by decide +kernel
theorem dX2_init_29 : decode cX2_init 29 = .ok (.new 18, 3) := by decide +kernel
theorem dX2_init_32 : decode cX2_init 32 = .ok (.dup, 1) := by decide +kernel
theorem dX2_init_33 : decode cX2_init 33 = .ok (.bipush 6, 2) := by decide +kernel
theorem dX2_init_35 : decode cX2_init 35 = .ok (.invokespecial 20, 3) := by decide +kernel
theorem dX2_init_38 : decode cX2_init 38 = .ok (.putfield 27, 3) := by decide +kernel
theorem dX2_init_41 : decode cX2_init 41 = .ok (.aload_n 0, 1) := by decide +kernel
theorem dX2_init_42 : decode cX2_init 42 = .ok (.new 18, 3) := by decide +kernel
theorem dX2_init_45 : decode cX2_init 45 = .ok (.dup, 1) := by decide +kernel
theorem dX2_init_46 : decode cX2_init 46 = .ok (.bipush 6, 2) := by decide +kernel
theorem dX2_init_48 : decode cX2_init 48 = .ok (.invokespecial 20, 3) := by decide +kernel
theorem dX2_init_51 : decode cX2_init 51 = .ok (.putfield 30, 3) := by decide +kernel
theorem dX2_init_54 : decode cX2_init 54 = .ok (.aload_n 0, 1) := by decide +kernel
theorem dX2_init_55 : decode cX2_init 55 = .ok (.new 18, 3) := by decide +kernel
theorem dX2_init_58 : decode cX2_init 58 = .ok (.dup, 1) := by decide +kernel
theorem dX2_init_59 : decode cX2_init 59 = .ok (.bipush 6, 2) := by decide +kernel
theorem dX2_init_61 : decode cX2_init 61 = .ok (.invokespecial 20, 3) := by decide +kernel
theorem dX2_init_64 : decode cX2_init 64 = .ok (.putfield 33, 3) := by decide +kernel
theorem dX2_init_67 : decode cX2_init 67 = .ok (.aload_n 0, 1) := by decide +kernel
theorem dX2_init_68 : decode cX2_init 68 = .ok (.new 18, 3) := by decide +kernel
theorem dX2_init_71 : decode cX2_init 71 = .ok (.dup, 1) := by decide +kernel
theorem dX2_init_72 : decode cX2_init 72 = .ok (.bipush 8, 2) := by decide +kernel
theorem dX2_init_74 : decode cX2_init 74 = .ok (.invokespecial 20, 3) := by decide +kernel
theorem dX2_init_77 : decode cX2_init 77 = .ok (.putfield 36, 3) := by decide +kernel
theorem dX2_init_80 : decode cX2_init 80 = .ok (.return_, 1) := by decide +kernel
theorem dX2_start_0 : decode cX2_start 0 = .ok (.aload_n 0, 1) := by decide +kernel
theorem dX2_start_1 : decode cX2_start 1 = .ok (.iload_n 1, 1) := by decide +kernel
theorem dX2_start_2 : decode cX2_start 2 = .ok (.putfield 9, 3) := by decide +kernel
theorem dX2_start_5 : decode cX2_start 5 = .ok (.aload_n 0, 1) := by decide +kernel
theorem dX2_start_6 : decode cX2_start 6 = .ok (.iload_n 2, 1) := by decide +kernel
theorem dX2_start_7 : decode cX2_start 7 = .ok (.putfield 15, 3) := by decide +kernel
theorem dX2_start_10 : decode cX2_start 10 = .ok (.aload_n 0, 1) := by decide +kernel
theorem dX2_start_11 : decode cX2_start 11 = .ok (.iconst 0, 1) := by decide +kernel
theorem dX2_start_12 : decode cX2_start 12 = .ok (.putfield 39, 3) := by decide +kernel
theorem dX2_start_15 : decode cX2_start 15 = .ok (.aload_n 0, 1) := by decide +kernel
theorem dX2_start_16 : decode cX2_start 16 = .ok (.iconst 0, 1) := by decide +kernel
theorem dX2_start_17 : decode cX2_start 17 = .ok (.putfield 42, 3) := by decide +kernel
theorem dX2_start_20 : decode cX2_start 20 = .ok (.aload_n 0, 1) := by decide +kernel
theorem dX2_start_21 : decode cX2_start 21 = .ok (.iconst 0, 1) := by decide +kernel
theorem dX2_start_22 : decode cX2_start 22 = .ok (.putfield 45, 3) := by decide +kernel
theorem dX2_start_25 : decode cX2_start 25 = .ok (.aload_n 0, 1) := by decide +kernel
theorem dX2_start_26 : decode cX2_start 26 = .ok (.iconst 0, 1) := by decide +kernel
theorem dX2_start_27 : decode cX2_start 27 = .ok (.putfield 48, 3) := by decide +kernel
theorem dX2_start_30 : decode cX2_start 30 = .ok (.aload_n 0, 1) := by decide +kernel
theorem dX2_start_31 : decode cX2_start 31 = .ok (.iconst 0, 1) := by decide +kernel
theorem dX2_start_32 : decode cX2_start 32 = .ok (.putfield 51, 3) := by decide +kernel
theorem dX2_start_35 : decode cX2_start 35 = .ok (.aload_n 0, 1) := by decide +kernel
theorem dX2_start_36 : decode cX2_start 36 = .ok (.getfield 23, 3) := by decide +kernel
theorem dX2_start_39 : decode cX2_start 39 = .ok (.invokevirtual 54, 3) := by decide +kernel
theorem dX2_start_42 : decode cX2_start 42 = .ok (.aload_n 0, 1) := by decide +kernel
theorem dX2_start_43 : decode cX2_start 43 = .ok (.getfield 27, 3) := by decide +kernel
theorem dX2_start_46 : decode cX2_start 46 = .ok (.invokevirtual 54, 3) := by decide +kernel
theorem dX2_start_49 : decode cX2_start 49 = .ok (.aload_n 0, 1) := by decide +kernel
theorem dX2_start_50 : decode cX2_start 50 = .ok (.getfield 30, 3) := by decide +kernel
theorem dX2_start_53 : decode cX2_start 53 = .ok (.invokevirtual 54, 3) := by decide +kernel
theorem dX2_start_56 : decode cX2_start 56 = .ok (.aload_n 0, 1) := by decide +kernel
theorem dX2_start_57 : decode cX2_start 57 = .ok (.getfield 33, 3) := by decide +kernel
theorem dX2_start_60 : decode cX2_start 60 = .ok (.invokevirtual 54, 3) := by decide +kernel
theorem dX2_start_63 : decode cX2_start 63 = .ok (.aload_n 0, 1) := by decide +kernel
theorem dX2_start_64 : decode cX2_start 64 = .ok (.getfield 36, 3) := by decide +kernel
theorem dX2_start_67 : decode cX2_start 67 = .ok (.invokevirtual 54, 3) := by decide +kernel
theorem dX2_start_70 : decode cX2_start 70 = .ok (.return_, 1) := by decide +kernel
theorem dX2_copyFrom_0 : decode cX2_copyFrom 0 = .ok (.aload_n 0, 1) := by decide +kernel
theorem dX2_copyFrom_1 : decode cX2_copyFrom 1 = .ok (.aload_n 1, 1) := by decide +kernel
theorem dX2_copyFrom_2 : decode cX2_copyFrom 2 = .ok (.getfield 9, 3) := by decide +kernel
theorem dX2_copyFrom_5 : decode cX2_copyFrom 5 = .ok (.putfield 9, 3) := by decide +kernel
theorem dX2_copyFrom_8 : decode cX2_copyFrom 8 = .ok (.aload_n 0, 1) := by decide +kernel
theorem dX2_copyFrom_9 : decode cX2_copyFrom 9 = .ok (.aload_n 1, 1) := by decide +kernel
theorem dX2_copyFrom_10 : decode cX2_copyFrom 10 = .ok (.getfield 39, 3) := by decide +kernel
theorem dX2_copyFrom_13 : decode cX2_copyFrom 13 = .ok (.putfield 39, 3) := by decide +kernel
theorem dX2_copyFrom_16 : decode cX2_copyFrom 16 = .ok (.aload_n 0, 1) := by decide +kernel
theorem dX2_copyFrom_17 : decode cX2_copyFrom 17 = .ok (.aload_n 1, 1) := by decide +kernel
theorem dX2_copyFrom_18 : decode cX2_copyFrom 18 = .ok (.getfield 42, 3) := by decide +kernel
theorem dX2_copyFrom_21 : decode cX2_copyFrom 21 = .ok (.putfield 42, 3) := by decide +kernel
theorem dX2_copyFrom_24 : decode cX2_copyFrom 24 = .ok (.aload_n 0, 1) := by decide +kernel
theorem dX2_copyFrom_25 : decode cX2_copyFrom 25 = .ok (.aload_n 1, 1) := by decide +kernel
theorem dX2_copyFrom_26 : decode cX2_copyFrom 26 = .ok (.getfield 15, 3) := by decide +kernel
theorem dX2_copyFrom_29 : decode cX2_copyFrom 29 = .ok (.putfield 15, 3) := by decide +kernel
theorem dX2_copyFrom_32 : decode cX2_copyFrom 32 = .ok (.aload_n 0, 1) := by decide +kernel
theorem dX2_copyFrom_33 : decode cX2_copyFrom 33 = .ok (.aload_n 1, 1) := by decide +kernel
theorem dX2_copyFrom_34 : decode cX2_copyFrom 34 = .ok (.getfield 45, 3) := by decide +kernel
theorem dX2_copyFrom_37 : decode cX2_copyFrom 37 = .ok (.putfield 45, 3) := by decide +kernel
theorem dX2_copyFrom_40 : decode cX2_copyFrom 40 = .ok (.aload_n 0, 1) := by decide +kernel
theorem dX2_copyFrom_41 : decode cX2_copyFrom 41 = .ok (.aload_n 1, 1) := by decide +kernel
theorem dX2_copyFrom_42 : decode cX2_copyFrom 42 = .ok (.getfield 48, 3) := by decide +kernel
theorem dX2_copyFrom_45 : decode cX2_copyFrom 45 = .ok (.putfield 48, 3) := by decide +kernel
theorem dX2_copyFrom_48 : decode cX2_copyFrom 48 = .ok (.aload_n 0, 1) := by decide +kernel
theorem dX2_copyFrom_49 : decode cX2_copyFrom 49 = .ok (.aload_n 1, 1) := by decide +kernel
theorem dX2_copyFrom_50 : decode cX2_copyFrom 50 = .ok (.getfield 51, 3) := by decide +kernel
theorem dX2_copyFrom_53 : decode cX2_copyFrom 53 = .ok (.putfield 51, 3) := by decide +kernel
theorem dX2_copyFrom_56 : decode cX2_copyFrom 56 = .ok (.aload_n 0, 1) := by decide +kernel
theorem dX2_copyFrom_57 : decode cX2_copyFrom 57 = .ok (.getfield 23, 3) := by decide +kernel
theorem dX2_copyFrom_60 : decode cX2_copyFrom 60 = .ok (.aload_n 1, 1) := by decide +kernel
theorem dX2_copyFrom_61 : decode cX2_copyFrom 61 = .ok (.getfield 23, 3) := by decide +kernel
theorem dX2_copyFrom_64 : decode cX2_copyFrom 64 = .ok (.invokevirtual 57, 3) := by decide +kernel
theorem dX2_copyFrom_67 : decode cX2_copyFrom 67 = .ok (.aload_n 0, 1) := by decide +kernel
theorem dX2_copyFrom_68 : decode cX2_copyFrom 68 = .ok (.getfield 27, 3) := by decide +kernel
theorem dX2_copyFrom_71 : decode cX2_copyFrom 71 = .ok (.aload_n 1, 1) := by decide +kernel
theorem dX2_copyFrom_72 : decode cX2_copyFrom 72 = .ok (.getfield 27, 3) := by decide +kernel
theorem dX2_copyFrom_75 : decode cX2_copyFrom 75 = .ok (.invokevirtual 57, 3) := by decide +kernel
theorem dX2_copyFrom_78 : decode cX2_copyFrom 78 = .ok (.aload_n 0, 1) := by decide +kernel
theorem dX2_copyFrom_79 : decode cX2_copyFrom 79 = .ok (.getfield 30, 3) := by decide +kernel
theorem dX2_copyFrom_82 : decode cX2_copyFrom 82 = .ok (.aload_n 1, 1) := by decide +kernel
theorem dX2_copyFrom_83 : decode cX2_copyFrom 83 = .ok (.getfield 30, 3) := by decide +kernel
theorem dX2_copyFrom_86 : decode cX2_copyFrom 86 = .ok (.invokevirtual 57, 3) := by decide +kernel
theorem dX2_copyFrom_89 : decode cX2_copyFrom 89 = .ok (.aload_n 0, 1) := by decide +kernel
theorem dX2_copyFrom_90 : decode cX2_copyFrom 90 = .ok (.getfield 33, 3) := by decide +kernel
theorem dX2_copyFrom_93 : decode cX2_copyFrom 93 = .ok (.aload_n 1, 1) := by decide +kernel
theorem dX2_copyFrom_94 : decode cX2_copyFrom 94 = .ok (.getfield 33, 3) := by decide +kernel
theorem dX2_copyFrom_97 : decode cX2_copyFrom 97 = .ok (.invokevirtual 57, 3) := by decide +kernel
theorem dX2_copyFrom_100 : decode cX2_copyFrom 100 = .ok (.aload_n 0, 1) := by decide +kernel
theorem dX2_copyFrom_101 : decode cX2_copyFrom 101 = .ok (.getfield 36, 3) := by decide +kernel
theorem dX2_copyFrom_104 : decode cX2_copyFrom 104 = .ok (.aload_n 1, 1) := by decide +kernel
theorem dX2_copyFrom_105 : decode cX2_copyFrom 105 = .ok (.getfield 36, 3) := by decide +kernel
theorem dX2_copyFrom_108 : decode cX2_copyFrom 108 = .ok (.invokevirtual 57, 3) := by decide +kernel
theorem dX2_copyFrom_111 : decode cX2_copyFrom 111 = .ok (.return_, 1) := by decide +kernel
theorem dX2_figure_0 : decode cX2_figure 0 = .ok (.iload_n 1, 1) := by decide +kernel
theorem dX2_figure_1 : decode cX2_figure 1 = .ok (.tableswitch 69 0 5 #[39, 44, 49, 54, 59, 64], 39) := by decide +kernel
theorem dX2_figure_40 : decode cX2_figure 40 = .ok (.aload_n 0, 1) := by decide +kernel
theorem dX2_figure_41 : decode cX2_figure 41 = .ok (.getfield 9, 3) := by decide +kernel
theorem dX2_figure_44 : decode cX2_figure 44 = .ok (.ireturn, 1) := by decide +kernel
theorem dX2_figure_45 : decode cX2_figure 45 = .ok (.aload_n 0, 1) := by decide +kernel
theorem dX2_figure_46 : decode cX2_figure 46 = .ok (.getfield 39, 3) := by decide +kernel
theorem dX2_figure_49 : decode cX2_figure 49 = .ok (.ireturn, 1) := by decide +kernel
theorem dX2_figure_50 : decode cX2_figure 50 = .ok (.aload_n 0, 1) := by decide +kernel
theorem dX2_figure_51 : decode cX2_figure 51 = .ok (.getfield 42, 3) := by decide +kernel
theorem dX2_figure_54 : decode cX2_figure 54 = .ok (.ireturn, 1) := by decide +kernel
theorem dX2_figure_55 : decode cX2_figure 55 = .ok (.aload_n 0, 1) := by decide +kernel
theorem dX2_figure_56 : decode cX2_figure 56 = .ok (.getfield 15, 3) := by decide +kernel
theorem dX2_figure_59 : decode cX2_figure 59 = .ok (.ireturn, 1) := by decide +kernel
theorem dX2_figure_60 : decode cX2_figure 60 = .ok (.aload_n 0, 1) := by decide +kernel
theorem dX2_figure_61 : decode cX2_figure 61 = .ok (.getfield 45, 3) := by decide +kernel
theorem dX2_figure_64 : decode cX2_figure 64 = .ok (.ireturn, 1) := by decide +kernel
theorem dX2_figure_65 : decode cX2_figure 65 = .ok (.aload_n 0, 1) := by decide +kernel
theorem dX2_figure_66 : decode cX2_figure 66 = .ok (.getfield 48, 3) := by decide +kernel
theorem dX2_figure_69 : decode cX2_figure 69 = .ok (.ireturn, 1) := by decide +kernel
theorem dX2_figure_70 : decode cX2_figure 70 = .ok (.aload_n 0, 1) := by decide +kernel
theorem dX2_figure_71 : decode cX2_figure 71 = .ok (.getfield 51, 3) := by decide +kernel
theorem dX2_figure_74 : decode cX2_figure 74 = .ok (.ireturn, 1) := by decide +kernel
theorem dX2_houseKind_0 : decode cX2_houseKind 0 = .ok (.iload_n 1, 1) := by decide +kernel
theorem dX2_houseKind_1 : decode cX2_houseKind 1 = .ok (.ifCond .ne 10, 3) := by decide +kernel
theorem dX2_houseKind_4 : decode cX2_houseKind 4 = .ok (.aload_n 0, 1) := by decide +kernel
theorem dX2_houseKind_5 : decode cX2_houseKind 5 = .ok (.getfield 39, 3) := by decide +kernel
theorem dX2_houseKind_8 : decode cX2_houseKind 8 = .ok (.goto 7, 3) := by decide +kernel
theorem dX2_houseKind_11 : decode cX2_houseKind 11 = .ok (.aload_n 0, 1) := by decide +kernel
theorem dX2_houseKind_12 : decode cX2_houseKind 12 = .ok (.getfield 42, 3) := by decide +kernel
theorem dX2_houseKind_15 : decode cX2_houseKind 15 = .ok (.ireturn, 1) := by decide +kernel
theorem dX2_setHouse_0 : decode cX2_setHouse 0 = .ok (.iload_n 1, 1) := by decide +kernel
theorem dX2_setHouse_1 : decode cX2_setHouse 1 = .ok (.ifCond .ne 11, 3) := by decide +kernel
theorem dX2_setHouse_4 : decode cX2_setHouse 4 = .ok (.aload_n 0, 1) := by decide +kernel
theorem dX2_setHouse_5 : decode cX2_setHouse 5 = .ok (.iload_n 2, 1) := by decide +kernel
theorem dX2_setHouse_6 : decode cX2_setHouse 6 = .ok (.putfield 39, 3) := by decide +kernel
theorem dX2_setHouse_9 : decode cX2_setHouse 9 = .ok (.goto 8, 3) := by decide +kernel
theorem dX2_setHouse_12 : decode cX2_setHouse 12 = .ok (.aload_n 0, 1) := by decide +kernel
theorem dX2_setHouse_13 : decode cX2_setHouse 13 = .ok (.iload_n 2, 1) := by decide +kernel
theorem dX2_setHouse_14 : decode cX2_setHouse 14 = .ok (.putfield 42, 3) := by decide +kernel
theorem dX2_setHouse_17 : decode cX2_setHouse 17 = .ok (.return_, 1) := by decide +kernel
theorem dX2_has_0 : decode cX2_has 0 = .ok (.iload_n 1, 1) := by decide +kernel
theorem dX2_has_1 : decode cX2_has 1 = .ok (.iconst 0, 1) := by decide +kernel
theorem dX2_has_2 : decode cX2_has 2 = .ok (.aload_n 0, 1) := by decide +kernel
theorem dX2_has_3 : decode cX2_has 3 = .ok (.getfield 23, 3) := by decide +kernel
theorem dX2_has_6 : decode cX2_has 6 = .ok (.getfield 61, 3) := by decide +kernel
theorem dX2_has_9 : decode cX2_has 9 = .ok (.iconst 1, 1) := by decide +kernel
theorem dX2_has_10 : decode cX2_has 10 = .ok (.isub, 1) := by decide +kernel
theorem dX2_has_11 : decode cX2_has 11 = .ok (.invokestatic 64, 3) := by decide +kernel
theorem dX2_has_14 : decode cX2_has 14 = .ok (.ireturn, 1) := by decide +kernel
theorem dX2_kindOf_0 : decode cX2_kindOf 0 = .ok (.aload_n 0, 1) := by decide +kernel
theorem dX2_kindOf_1 : decode cX2_kindOf 1 = .ok (.getfield 23, 3) := by decide +kernel
theorem dX2_kindOf_4 : decode cX2_kindOf 4 = .ok (.iload_n 1, 1) := by decide +kernel
theorem dX2_kindOf_5 : decode cX2_kindOf 5 = .ok (.iconst 0, 1) := by decide +kernel
theorem dX2_kindOf_6 : decode cX2_kindOf 6 = .ok (.invokevirtual 68, 3) := by decide +kernel
theorem dX2_kindOf_9 : decode cX2_kindOf 9 = .ok (.ireturn, 1) := by decide +kernel
theorem dX2_lengthOf_0 : decode cX2_lengthOf 0 = .ok (.aload_n 0, 1) := by decide +kernel
theorem dX2_lengthOf_1 : decode cX2_lengthOf 1 = .ok (.getfield 23, 3) := by decide +kernel
theorem dX2_lengthOf_4 : decode cX2_lengthOf 4 = .ok (.iload_n 1, 1) := by decide +kernel
theorem dX2_lengthOf_5 : decode cX2_lengthOf 5 = .ok (.iconst 1, 1) := by decide +kernel
theorem dX2_lengthOf_6 : decode cX2_lengthOf 6 = .ok (.invokevirtual 68, 3) := by decide +kernel
theorem dX2_lengthOf_9 : decode cX2_lengthOf 9 = .ok (.ireturn, 1) := by decide +kernel
theorem dX2_shownIn_0 : decode cX2_shownIn 0 = .ok (.aload_n 0, 1) := by decide +kernel
theorem dX2_shownIn_1 : decode cX2_shownIn 1 = .ok (.iload_n 1, 1) := by decide +kernel
theorem dX2_shownIn_2 : decode cX2_shownIn 2 = .ok (.invokevirtual 72, 3) := by decide +kernel
theorem dX2_shownIn_5 : decode cX2_shownIn 5 = .ok (.aload_n 0, 1) := by decide +kernel
theorem dX2_shownIn_6 : decode cX2_shownIn 6 = .ok (.iload_n 1, 1) := by decide +kernel
theorem dX2_shownIn_7 : decode cX2_shownIn 7 = .ok (.invokevirtual 76, 3) := by decide +kernel
theorem dX2_shownIn_10 : decode cX2_shownIn 10 = .ok (.aload_n 0, 1) := by decide +kernel
theorem dX2_shownIn_11 : decode cX2_shownIn 11 = .ok (.getfield 51, 3) := by decide +kernel
theorem dX2_shownIn_14 : decode cX2_shownIn 14 = .ok (.iload_n 2, 1) := by decide +kernel
theorem dX2_shownIn_15 : decode cX2_shownIn 15 = .ok (.iadd, 1) := by decide +kernel
theorem dX2_shownIn_16 : decode cX2_shownIn 16 = .ok (.invokestatic 79, 3) := by decide +kernel
theorem dX2_shownIn_19 : decode cX2_shownIn 19 = .ok (.ireturn, 1) := by decide +kernel
theorem dX2_costIn_0 : decode cX2_costIn 0 = .ok (.aload_n 0, 1) := by decide +kernel
theorem dX2_costIn_1 : decode cX2_costIn 1 = .ok (.aload_n 0, 1) := by decide +kernel
theorem dX2_costIn_2 : decode cX2_costIn 2 = .ok (.iload_n 1, 1) := by decide +kernel
theorem dX2_costIn_3 : decode cX2_costIn 3 = .ok (.iload_n 2, 1) := by decide +kernel
theorem dX2_costIn_4 : decode cX2_costIn 4 = .ok (.invokevirtual 85, 3) := by decide +kernel
theorem dX2_costIn_7 : decode cX2_costIn 7 = .ok (.aload_n 0, 1) := by decide +kernel
theorem dX2_costIn_8 : decode cX2_costIn 8 = .ok (.getfield 51, 3) := by decide +kernel
theorem dX2_costIn_11 : decode cX2_costIn 11 = .ok (.iload_n 2, 1) := by decide +kernel
theorem dX2_costIn_12 : decode cX2_costIn 12 = .ok (.iadd, 1) := by decide +kernel
theorem dX2_costIn_13 : decode cX2_costIn 13 = .ok (.invokevirtual 88, 3) := by decide +kernel
theorem dX2_costIn_16 : decode cX2_costIn 16 = .ok (.ireturn, 1) := by decide +kernel
theorem dX2_costOfCut_0 : decode cX2_costOfCut 0 = .ok (.aload_n 0, 1) := by decide +kernel
theorem dX2_costOfCut_1 : decode cX2_costOfCut 1 = .ok (.iload_n 1, 1) := by decide +kernel
theorem dX2_costOfCut_2 : decode cX2_costOfCut 2 = .ok (.iload_n 2, 1) := by decide +kernel
theorem dX2_costOfCut_3 : decode cX2_costOfCut 3 = .ok (.aload_n 0, 1) := by decide +kernel
theorem dX2_costOfCut_4 : decode cX2_costOfCut 4 = .ok (.getfield 51, 3) := by decide +kernel
theorem dX2_costOfCut_7 : decode cX2_costOfCut 7 = .ok (.invokestatic 79, 3) := by decide +kernel
theorem dX2_costOfCut_10 : decode cX2_costOfCut 10 = .ok (.aload_n 0, 1) := by decide +kernel
theorem dX2_costOfCut_11 : decode cX2_costOfCut 11 = .ok (.getfield 51, 3) := by decide +kernel
theorem dX2_costOfCut_14 : decode cX2_costOfCut 14 = .ok (.invokevirtual 88, 3) := by decide +kernel
theorem dX2_costOfCut_17 : decode cX2_costOfCut 17 = .ok (.aload_n 0, 1) := by decide +kernel
theorem dX2_costOfCut_18 : decode cX2_costOfCut 18 = .ok (.iload_n 1, 1) := by decide +kernel
theorem dX2_costOfCut_19 : decode cX2_costOfCut 19 = .ok (.iload_n 3, 1) := by decide +kernel
theorem dX2_costOfCut_20 : decode cX2_costOfCut 20 = .ok (.aload_n 0, 1) := by decide +kernel
theorem dX2_costOfCut_21 : decode cX2_costOfCut 21 = .ok (.getfield 51, 3) := by decide +kernel
theorem dX2_costOfCut_24 : decode cX2_costOfCut 24 = .ok (.invokestatic 79, 3) := by decide +kernel
theorem dX2_costOfCut_27 : decode cX2_costOfCut 27 = .ok (.aload_n 0, 1) := by decide +kernel
theorem dX2_costOfCut_28 : decode cX2_costOfCut 28 = .ok (.getfield 51, 3) := by decide +kernel
theorem dX2_costOfCut_31 : decode cX2_costOfCut 31 = .ok (.invokevirtual 88, 3) := by decide +kernel
theorem dX2_costOfCut_34 : decode cX2_costOfCut 34 = .ok (.iadd, 1) := by decide +kernel
theorem dX2_costOfCut_35 : decode cX2_costOfCut 35 = .ok (.ireturn, 1) := by decide +kernel
theorem dX2_bringing_0 : decode cX2_bringing 0 = .ok (.aload_n 0, 1) := by decide +kernel
theorem dX2_bringing_1 : decode cX2_bringing 1 = .ok (.iload_n 1, 1) := by decide +kernel
theorem dX2_bringing_2 : decode cX2_bringing 2 = .ok (.invokevirtual 76, 3) := by decide +kernel
theorem dX2_bringing_5 : decode cX2_bringing 5 = .ok (.aload_n 0, 1) := by decide +kernel
theorem dX2_bringing_6 : decode cX2_bringing 6 = .ok (.getfield 9, 3) := by decide +kernel
theorem dX2_bringing_9 : decode cX2_bringing 9 = .ok (.invokestatic 91, 3) := by decide +kernel
theorem dX2_bringing_12 : decode cX2_bringing 12 = .ok (.ireturn, 1) := by decide +kernel
theorem dX2_sendString_0 : decode cX2_sendString 0 = .ok (.aload_n 0, 1) := by decide +kernel
theorem dX2_sendString_1 : decode cX2_sendString 1 = .ok (.iload_n 1, 1) := by decide +kernel
theorem dX2_sendString_2 : decode cX2_sendString 2 = .ok (.iconst 0, 1) := by decide +kernel
theorem dX2_sendString_3 : decode cX2_sendString 3 = .ok (.invokevirtual 85, 3) := by decide +kernel
theorem dX2_sendString_6 : decode cX2_sendString 6 = .ok (.istore_n 2, 1) := by decide +kernel
theorem dX2_sendString_7 : decode cX2_sendString 7 = .ok (.aload_n 0, 1) := by decide +kernel
theorem dX2_sendString_8 : decode cX2_sendString 8 = .ok (.iload_n 2, 1) := by decide +kernel
theorem dX2_sendString_9 : decode cX2_sendString 9 = .ok (.aload_n 0, 1) := by decide +kernel
theorem dX2_sendString_10 : decode cX2_sendString 10 = .ok (.getfield 51, 3) := by decide +kernel
theorem dX2_sendString_13 : decode cX2_sendString 13 = .ok (.invokevirtual 88, 3) := by decide +kernel
theorem dX2_sendString_16 : decode cX2_sendString 16 = .ok (.istore_n 3, 1) := by decide +kernel
theorem dX2_sendString_17 : decode cX2_sendString 17 = .ok (.iload_n 3, 1) := by decide +kernel
theorem dX2_sendString_18 : decode cX2_sendString 18 = .ok (.aload_n 0, 1) := by decide +kernel
theorem dX2_sendString_19 : decode cX2_sendString 19 = .ok (.getfield 15, 3) := by decide +kernel
theorem dX2_sendString_22 : decode cX2_sendString 22 = .ok (.if_icmp .le 5, 3) := by decide +kernel
theorem dX2_sendString_25 : decode cX2_sendString 25 = .ok (.iconst 0, 1) := by decide +kernel
theorem dX2_sendString_26 : decode cX2_sendString 26 = .ok (.ireturn, 1) := by decide +kernel
theorem dX2_sendString_27 : decode cX2_sendString 27 = .ok (.aload_n 0, 1) := by decide +kernel
theorem dX2_sendString_28 : decode cX2_sendString 28 = .ok (.getfield 42, 3) := by decide +kernel
theorem dX2_sendString_31 : decode cX2_sendString 31 = .ok (.iload_n 2, 1) := by decide +kernel
theorem dX2_sendString_32 : decode cX2_sendString 32 = .ok (.aload_n 0, 1) := by decide +kernel
theorem dX2_sendString_33 : decode cX2_sendString 33 = .ok (.getfield 51, 3) := by decide +kernel
theorem dX2_sendString_36 : decode cX2_sendString 36 = .ok (.bipush 24, 2) := by decide +kernel
theorem dX2_sendString_38 : decode cX2_sendString 38 = .ok (.idiv, 1) := by decide +kernel
theorem dX2_sendString_39 : decode cX2_sendString 39 = .ok (.invokestatic 94, 3) := by decide +kernel
theorem dX2_sendString_42 : decode cX2_sendString 42 = .ok (.ifCond .le 13, 3) := by decide +kernel
theorem dX2_sendString_45 : decode cX2_sendString 45 = .ok (.aload_n 0, 1) := by decide +kernel
theorem dX2_sendString_46 : decode cX2_sendString 46 = .ok (.dup, 1) := by decide +kernel
theorem dX2_sendString_47 : decode cX2_sendString 47 = .ok (.getfield 48, 3) := by decide +kernel
theorem dX2_sendString_50 : decode cX2_sendString 50 = .ok (.iconst 1, 1) := by decide +kernel
theorem dX2_sendString_51 : decode cX2_sendString 51 = .ok (.iadd, 1) := by decide +kernel
theorem dX2_sendString_52 : decode cX2_sendString 52 = .ok (.putfield 48, 3) := by decide +kernel
theorem dX2_sendString_55 : decode cX2_sendString 55 = .ok (.aload_n 0, 1) := by decide +kernel
theorem dX2_sendString_56 : decode cX2_sendString 56 = .ok (.dup, 1) := by decide +kernel
theorem dX2_sendString_57 : decode cX2_sendString 57 = .ok (.getfield 15, 3) := by decide +kernel
theorem dX2_sendString_60 : decode cX2_sendString 60 = .ok (.iload_n 3, 1) := by decide +kernel
theorem dX2_sendString_61 : decode cX2_sendString 61 = .ok (.isub, 1) := by decide +kernel
theorem dX2_sendString_62 : decode cX2_sendString 62 = .ok (.putfield 15, 3) := by decide +kernel
theorem dX2_sendString_65 : decode cX2_sendString 65 = .ok (.aload_n 0, 1) := by decide +kernel
theorem dX2_sendString_66 : decode cX2_sendString 66 = .ok (.dup, 1) := by decide +kernel
theorem dX2_sendString_67 : decode cX2_sendString 67 = .ok (.getfield 45, 3) := by decide +kernel
theorem dX2_sendString_70 : decode cX2_sendString 70 = .ok (.aload_n 0, 1) := by decide +kernel
theorem dX2_sendString_71 : decode cX2_sendString 71 = .ok (.iload_n 1, 1) := by decide +kernel
theorem dX2_sendString_72 : decode cX2_sendString 72 = .ok (.invokevirtual 97, 3) := by decide +kernel
theorem dX2_sendString_75 : decode cX2_sendString 75 = .ok (.iadd, 1) := by decide +kernel
theorem dX2_sendString_76 : decode cX2_sendString 76 = .ok (.putfield 45, 3) := by decide +kernel
theorem dX2_sendString_79 : decode cX2_sendString 79 = .ok (.aload_n 0, 1) := by decide +kernel
theorem dX2_sendString_80 : decode cX2_sendString 80 = .ok (.dup, 1) := by decide +kernel
theorem dX2_sendString_81 : decode cX2_sendString 81 = .ok (.getfield 51, 3) := by decide +kernel
theorem dX2_sendString_84 : decode cX2_sendString 84 = .ok (.iconst 1, 1) := by decide +kernel
theorem dX2_sendString_85 : decode cX2_sendString 85 = .ok (.iadd, 1) := by decide +kernel
theorem dX2_sendString_86 : decode cX2_sendString 86 = .ok (.putfield 51, 3) := by decide +kernel
theorem dX2_sendString_89 : decode cX2_sendString 89 = .ok (.iconst 1, 1) := by decide +kernel
theorem dX2_sendString_90 : decode cX2_sendString 90 = .ok (.ireturn, 1) := by decide +kernel
theorem dX2_waitHours_0 : decode cX2_waitHours 0 = .ok (.aload_n 0, 1) := by decide +kernel
theorem dX2_waitHours_1 : decode cX2_waitHours 1 = .ok (.aload_n 0, 1) := by decide +kernel
theorem dX2_waitHours_2 : decode cX2_waitHours 2 = .ok (.getfield 51, 3) := by decide +kernel
theorem dX2_waitHours_5 : decode cX2_waitHours 5 = .ok (.iload_n 1, 1) := by decide +kernel
theorem dX2_waitHours_6 : decode cX2_waitHours 6 = .ok (.iadd, 1) := by decide +kernel
theorem dX2_waitHours_7 : decode cX2_waitHours 7 = .ok (.sipush 9999, 3) := by decide +kernel
theorem dX2_waitHours_10 : decode cX2_waitHours 10 = .ok (.invokestatic 100, 3) := by decide +kernel
theorem dX2_waitHours_13 : decode cX2_waitHours 13 = .ok (.putfield 51, 3) := by decide +kernel
theorem dX2_waitHours_16 : decode cX2_waitHours 16 = .ok (.return_, 1) := by decide +kernel
theorem dX2_remember_0 : decode cX2_remember 0 = .ok (.aload_n 0, 1) := by decide +kernel
theorem dX2_remember_1 : decode cX2_remember 1 = .ok (.getfield 36, 3) := by decide +kernel
theorem dX2_remember_4 : decode cX2_remember 4 = .ok (.invokevirtual 105, 3) := by decide +kernel
theorem dX2_remember_7 : decode cX2_remember 7 = .ok (.ifCond .eq 10, 3) := by decide +kernel
theorem dX2_remember_10 : decode cX2_remember 10 = .ok (.aload_n 0, 1) := by decide +kernel
theorem dX2_remember_11 : decode cX2_remember 11 = .ok (.getfield 36, 3) := by decide +kernel
theorem dX2_remember_14 : decode cX2_remember 14 = .ok (.invokevirtual 109, 3) := by decide +kernel
theorem dX2_remember_17 : decode cX2_remember 17 = .ok (.aload_n 0, 1) := by decide +kernel
theorem dX2_remember_18 : decode cX2_remember 18 = .ok (.getfield 36, 3) := by decide +kernel
theorem dX2_remember_21 : decode cX2_remember 21 = .ok (.aload_n 0, 1) := by decide +kernel
theorem dX2_remember_22 : decode cX2_remember 22 = .ok (.getfield 15, 3) := by decide +kernel
theorem dX2_remember_25 : decode cX2_remember 25 = .ok (.aload_n 0, 1) := by decide +kernel
theorem dX2_remember_26 : decode cX2_remember 26 = .ok (.getfield 45, 3) := by decide +kernel
theorem dX2_remember_29 : decode cX2_remember 29 = .ok (.aload_n 0, 1) := by decide +kernel
theorem dX2_remember_30 : decode cX2_remember 30 = .ok (.getfield 48, 3) := by decide +kernel
theorem dX2_remember_33 : decode cX2_remember 33 = .ok (.aload_n 0, 1) := by decide +kernel
theorem dX2_remember_34 : decode cX2_remember 34 = .ok (.getfield 51, 3) := by decide +kernel
theorem dX2_remember_37 : decode cX2_remember 37 = .ok (.invokevirtual 112, 3) := by decide +kernel
theorem dX2_remember_40 : decode cX2_remember 40 = .ok (.return_, 1) := by decide +kernel
theorem dX2_stepBack_0 : decode cX2_stepBack 0 = .ok (.aload_n 0, 1) := by decide +kernel
theorem dX2_stepBack_1 : decode cX2_stepBack 1 = .ok (.getfield 36, 3) := by decide +kernel
theorem dX2_stepBack_4 : decode cX2_stepBack 4 = .ok (.getfield 61, 3) := by decide +kernel
theorem dX2_stepBack_7 : decode cX2_stepBack 7 = .ok (.iconst 1, 1) := by decide +kernel
theorem dX2_stepBack_8 : decode cX2_stepBack 8 = .ok (.isub, 1) := by decide +kernel
theorem dX2_stepBack_9 : decode cX2_stepBack 9 = .ok (.istore_n 1, 1) := by decide +kernel
theorem dX2_stepBack_10 : decode cX2_stepBack 10 = .ok (.iload_n 1, 1) := by decide +kernel
theorem dX2_stepBack_11 : decode cX2_stepBack 11 = .ok (.ifCond .ge 5, 3) := by decide +kernel
theorem dX2_stepBack_14 : decode cX2_stepBack 14 = .ok (.iconst 0, 1) := by decide +kernel
theorem dX2_stepBack_15 : decode cX2_stepBack 15 = .ok (.ireturn, 1) := by decide +kernel
theorem dX2_stepBack_16 : decode cX2_stepBack 16 = .ok (.aload_n 0, 1) := by decide +kernel
theorem dX2_stepBack_17 : decode cX2_stepBack 17 = .ok (.aload_n 0, 1) := by decide +kernel
theorem dX2_stepBack_18 : decode cX2_stepBack 18 = .ok (.getfield 36, 3) := by decide +kernel
theorem dX2_stepBack_21 : decode cX2_stepBack 21 = .ok (.iload_n 1, 1) := by decide +kernel
theorem dX2_stepBack_22 : decode cX2_stepBack 22 = .ok (.iconst 0, 1) := by decide +kernel
theorem dX2_stepBack_23 : decode cX2_stepBack 23 = .ok (.invokevirtual 68, 3) := by decide +kernel
theorem dX2_stepBack_26 : decode cX2_stepBack 26 = .ok (.putfield 15, 3) := by decide +kernel
theorem dX2_stepBack_29 : decode cX2_stepBack 29 = .ok (.aload_n 0, 1) := by decide +kernel
theorem dX2_stepBack_30 : decode cX2_stepBack 30 = .ok (.aload_n 0, 1) := by decide +kernel
theorem dX2_stepBack_31 : decode cX2_stepBack 31 = .ok (.getfield 36, 3) := by decide +kernel
theorem dX2_stepBack_34 : decode cX2_stepBack 34 = .ok (.iload_n 1, 1) := by decide +kernel
theorem dX2_stepBack_35 : decode cX2_stepBack 35 = .ok (.iconst 1, 1) := by decide +kernel
theorem dX2_stepBack_36 : decode cX2_stepBack 36 = .ok (.invokevirtual 68, 3) := by decide +kernel
theorem dX2_stepBack_39 : decode cX2_stepBack 39 = .ok (.putfield 45, 3) := by decide +kernel
theorem dX2_stepBack_42 : decode cX2_stepBack 42 = .ok (.aload_n 0, 1) := by decide +kernel
theorem dX2_stepBack_43 : decode cX2_stepBack 43 = .ok (.aload_n 0, 1) := by decide +kernel
theorem dX2_stepBack_44 : decode cX2_stepBack 44 = .ok (.getfield 36, 3) := by decide +kernel
theorem dX2_stepBack_47 : decode cX2_stepBack 47 = .ok (.iload_n 1, 1) := by decide +kernel
theorem dX2_stepBack_48 : decode cX2_stepBack 48 = .ok (.iconst 2, 1) := by decide +kernel
theorem dX2_stepBack_49 : decode cX2_stepBack 49 = .ok (.invokevirtual 68, 3) := by decide +kernel
theorem dX2_stepBack_52 : decode cX2_stepBack 52 = .ok (.putfield 48, 3) := by decide +kernel
theorem dX2_stepBack_55 : decode cX2_stepBack 55 = .ok (.aload_n 0, 1) := by decide +kernel
theorem dX2_stepBack_56 : decode cX2_stepBack 56 = .ok (.aload_n 0, 1) := by decide +kernel
theorem dX2_stepBack_57 : decode cX2_stepBack 57 = .ok (.getfield 36, 3) := by decide +kernel
theorem dX2_stepBack_60 : decode cX2_stepBack 60 = .ok (.iload_n 1, 1) := by decide +kernel
theorem dX2_stepBack_61 : decode cX2_stepBack 61 = .ok (.iconst 3, 1) := by decide +kernel
theorem dX2_stepBack_62 : decode cX2_stepBack 62 = .ok (.invokevirtual 68, 3) := by decide +kernel
theorem dX2_stepBack_65 : decode cX2_stepBack 65 = .ok (.putfield 51, 3) := by decide +kernel
theorem dX2_stepBack_68 : decode cX2_stepBack 68 = .ok (.aload_n 0, 1) := by decide +kernel
theorem dX2_stepBack_69 : decode cX2_stepBack 69 = .ok (.getfield 36, 3) := by decide +kernel
theorem dX2_stepBack_72 : decode cX2_stepBack 72 = .ok (.invokevirtual 116, 3) := by decide +kernel
theorem dX2_stepBack_75 : decode cX2_stepBack 75 = .ok (.iconst 1, 1) := by decide +kernel
theorem dX2_stepBack_76 : decode cX2_stepBack 76 = .ok (.ireturn, 1) := by decide +kernel
theorem dX2_tollOn_0 : decode cX2_tollOn 0 = .ok (.iload_n 2, 1) := by decide +kernel
theorem dX2_tollOn_1 : decode cX2_tollOn 1 = .ok (.bipush 24, 2) := by decide +kernel
theorem dX2_tollOn_3 : decode cX2_tollOn 3 = .ok (.idiv, 1) := by decide +kernel
theorem dX2_tollOn_4 : decode cX2_tollOn 4 = .ok (.istore_n 3, 1) := by decide +kernel
theorem dX2_tollOn_5 : decode cX2_tollOn 5 = .ok (.aload_n 0, 1) := by decide +kernel
theorem dX2_tollOn_6 : decode cX2_tollOn 6 = .ok (.getfield 39, 3) := by decide +kernel
theorem dX2_tollOn_9 : decode cX2_tollOn 9 = .ok (.iload_n 1, 1) := by decide +kernel
theorem dX2_tollOn_10 : decode cX2_tollOn 10 = .ok (.iload_n 3, 1) := by decide +kernel
theorem dX2_tollOn_11 : decode cX2_tollOn 11 = .ok (.invokestatic 94, 3) := by decide +kernel
theorem dX2_tollOn_14 : decode cX2_tollOn 14 = .ok (.aload_n 0, 1) := by decide +kernel
theorem dX2_tollOn_15 : decode cX2_tollOn 15 = .ok (.getfield 42, 3) := by decide +kernel
theorem dX2_tollOn_18 : decode cX2_tollOn 18 = .ok (.iload_n 1, 1) := by decide +kernel
theorem dX2_tollOn_19 : decode cX2_tollOn 19 = .ok (.iload_n 3, 1) := by decide +kernel
theorem dX2_tollOn_20 : decode cX2_tollOn 20 = .ok (.invokestatic 94, 3) := by decide +kernel
theorem dX2_tollOn_23 : decode cX2_tollOn 23 = .ok (.iadd, 1) := by decide +kernel
theorem dX2_tollOn_24 : decode cX2_tollOn 24 = .ok (.ireturn, 1) := by decide +kernel
theorem dX3_init_0 : decode cX3_init 0 = .ok (.aload_n 0, 1) := by decide +kernel
theorem dX3_init_1 : decode cX3_init 1 = .ok (.invokespecial 1, 3) := by decide +kernel
theorem dX3_init_4 : decode cX3_init 4 = .ok (.aload_n 0, 1) := by decide +kernel
theorem dX3_init_5 : decode cX3_init 5 = .ok (.bipush 32, 2) := by decide +kernel
theorem dX3_init_7 : decode cX3_init 7 = .ok (.newarray .int, 2) := by decide +kernel
theorem dX3_init_9 : decode cX3_init 9 = .ok (.putfield 9, 3) := by decide +kernel
theorem dX3_init_12 : decode cX3_init 12 = .ok (.aload_n 0, 1) := by decide +kernel
theorem dX3_init_13 : decode cX3_init 13 = .ok (.iload_n 1, 1) := by decide +kernel
theorem dX3_init_14 : decode cX3_init 14 = .ok (.bipush 8, 2) := by decide +kernel
theorem dX3_init_16 : decode cX3_init 16 = .ok (.invokestatic 13, 3) := by decide +kernel
theorem dX3_init_19 : decode cX3_init 19 = .ok (.putfield 19, 3) := by decide +kernel
theorem dX3_init_22 : decode cX3_init 22 = .ok (.return_, 1) := by decide +kernel
theorem dX3_isFull_0 : decode cX3_isFull 0 = .ok (.aload_n 0, 1) := by decide +kernel
theorem dX3_isFull_1 : decode cX3_isFull 1 = .ok (.getfield 23, 3) := by decide +kernel
theorem dX3_isFull_4 : decode cX3_isFull 4 = .ok (.aload_n 0, 1) := by decide +kernel
theorem dX3_isFull_5 : decode cX3_isFull 5 = .ok (.getfield 19, 3) := by decide +kernel
theorem dX3_isFull_8 : decode cX3_isFull 8 = .ok (.if_icmp .lt 7, 3) := by decide +kernel
theorem dX3_isFull_11 : decode cX3_isFull 11 = .ok (.iconst 1, 1) := by decide +kernel
theorem dX3_isFull_12 : decode cX3_isFull 12 = .ok (.goto 4, 3) := by decide +kernel
theorem dX3_isFull_15 : decode cX3_isFull 15 = .ok (.iconst 0, 1) := by decide +kernel
theorem dX3_isFull_16 : decode cX3_isFull 16 = .ok (.ireturn, 1) := by decide +kernel
theorem dX3_wipe_0 : decode cX3_wipe 0 = .ok (.aload_n 0, 1) := by decide +kernel
theorem dX3_wipe_1 : decode cX3_wipe 1 = .ok (.iconst 0, 1) := by decide +kernel
theorem dX3_wipe_2 : decode cX3_wipe 2 = .ok (.putfield 23, 3) := by decide +kernel
theorem dX3_wipe_5 : decode cX3_wipe 5 = .ok (.return_, 1) := by decide +kernel
theorem dX3_put_0 : decode cX3_put 0 = .ok (.aload_n 0, 1) := by decide +kernel
theorem dX3_put_1 : decode cX3_put 1 = .ok (.invokevirtual 26, 3) := by decide +kernel
theorem dX3_put_4 : decode cX3_put 4 = .ok (.ifCond .eq 4, 3) := by decide +kernel
theorem dX3_put_7 : decode cX3_put 7 = .ok (.return_, 1) := by decide +kernel
theorem dX3_put_8 : decode cX3_put 8 = .ok (.aload_n 0, 1) := by decide +kernel
theorem dX3_put_9 : decode cX3_put 9 = .ok (.getfield 23, 3) := by decide +kernel
theorem dX3_put_12 : decode cX3_put 12 = .ok (.iconst 4, 1) := by decide +kernel
theorem dX3_put_13 : decode cX3_put 13 = .ok (.imul, 1) := by decide +kernel
theorem dX3_put_14 : decode cX3_put 14 = .ok (.istore 5, 2) := by decide +kernel
theorem dX3_put_16 : decode cX3_put 16 = .ok (.aload_n 0, 1) := by decide +kernel
theorem dX3_put_17 : decode cX3_put 17 = .ok (.getfield 9, 3) := by decide +kernel
theorem dX3_put_20 : decode cX3_put 20 = .ok (.iload 5, 2) := by decide +kernel
theorem dX3_put_22 : decode cX3_put 22 = .ok (.iload_n 1, 1) := by decide +kernel
theorem dX3_put_23 : decode cX3_put 23 = .ok (.iastore, 1) := by decide +kernel
theorem dX3_put_24 : decode cX3_put 24 = .ok (.aload_n 0, 1) := by decide +kernel
theorem dX3_put_25 : decode cX3_put 25 = .ok (.getfield 9, 3) := by decide +kernel
theorem dX3_put_28 : decode cX3_put 28 = .ok (.iload 5, 2) := by decide +kernel
theorem dX3_put_30 : decode cX3_put 30 = .ok (.iconst 1, 1) := by decide +kernel
theorem dX3_put_31 : decode cX3_put 31 = .ok (.iadd, 1) := by decide +kernel
theorem dX3_put_32 : decode cX3_put 32 = .ok (.iload_n 2, 1) := by decide +kernel
theorem dX3_put_33 : decode cX3_put 33 = .ok (.iastore, 1) := by decide +kernel
theorem dX3_put_34 : decode cX3_put 34 = .ok (.aload_n 0, 1) := by decide +kernel
theorem dX3_put_35 : decode cX3_put 35 = .ok (.getfield 9, 3) := by decide +kernel
theorem dX3_put_38 : decode cX3_put 38 = .ok (.iload 5, 2) := by decide +kernel
theorem dX3_put_40 : decode cX3_put 40 = .ok (.iconst 2, 1) := by decide +kernel
theorem dX3_put_41 : decode cX3_put 41 = .ok (.iadd, 1) := by decide +kernel
theorem dX3_put_42 : decode cX3_put 42 = .ok (.iload_n 3, 1) := by decide +kernel
theorem dX3_put_43 : decode cX3_put 43 = .ok (.iastore, 1) := by decide +kernel
theorem dX3_put_44 : decode cX3_put 44 = .ok (.aload_n 0, 1) := by decide +kernel
theorem dX3_put_45 : decode cX3_put 45 = .ok (.getfield 9, 3) := by decide +kernel
theorem dX3_put_48 : decode cX3_put 48 = .ok (.iload 5, 2) := by decide +kernel
theorem dX3_put_50 : decode cX3_put 50 = .ok (.iconst 3, 1) := by decide +kernel
theorem dX3_put_51 : decode cX3_put 51 = .ok (.iadd, 1) := by decide +kernel
theorem dX3_put_52 : decode cX3_put 52 = .ok (.iload 4, 2) := by decide +kernel
theorem dX3_put_54 : decode cX3_put 54 = .ok (.iastore, 1) := by decide +kernel
theorem dX3_put_55 : decode cX3_put 55 = .ok (.aload_n 0, 1) := by decide +kernel
theorem dX3_put_56 : decode cX3_put 56 = .ok (.dup, 1) := by decide +kernel
theorem dX3_put_57 : decode cX3_put 57 = .ok (.getfield 23, 3) := by decide +kernel
theorem dX3_put_60 : decode cX3_put 60 = .ok (.iconst 1, 1) := by decide +kernel
theorem dX3_put_61 : decode cX3_put 61 = .ok (.iadd, 1) := by decide +kernel
theorem dX3_put_62 : decode cX3_put 62 = .ok (.putfield 23, 3) := by decide +kernel
theorem dX3_put_65 : decode cX3_put 65 = .ok (.return_, 1) := by decide +kernel
theorem dX3_cell_0 : decode cX3_cell 0 = .ok (.iload_n 1, 1) := by decide +kernel
theorem dX3_cell_1 : decode cX3_cell 1 = .ok (.ifCond .lt 20, 3) := by decide +kernel
theorem dX3_cell_4 : decode cX3_cell 4 = .ok (.iload_n 1, 1) := by decide +kernel
theorem dX3_cell_5 : decode cX3_cell 5 = .ok (.aload_n 0, 1) := by decide +kernel
theorem dX3_cell_6 : decode cX3_cell 6 = .ok (.getfield 23, 3) := by decide +kernel
theorem dX3_cell_9 : decode cX3_cell 9 = .ok (.if_icmp .ge 12, 3) := by decide +kernel
theorem dX3_cell_12 : decode cX3_cell 12 = .ok (.iload_n 2, 1) := by decide +kernel
theorem dX3_cell_13 : decode cX3_cell 13 = .ok (.ifCond .lt 8, 3) := by decide +kernel
theorem dX3_cell_16 : decode cX3_cell 16 = .ok (.iload_n 2, 1) := by decide +kernel
theorem dX3_cell_17 : decode cX3_cell 17 = .ok (.iconst 4, 1) := by decide +kernel
theorem dX3_cell_18 : decode cX3_cell 18 = .ok (.if_icmp .lt 5, 3) := by decide +kernel
theorem dX3_cell_21 : decode cX3_cell 21 = .ok (.iconst 0, 1) := by decide +kernel
theorem dX3_cell_22 : decode cX3_cell 22 = .ok (.ireturn, 1) := by decide +kernel
theorem dX3_cell_23 : decode cX3_cell 23 = .ok (.aload_n 0, 1) := by decide +kernel
theorem dX3_cell_24 : decode cX3_cell 24 = .ok (.getfield 9, 3) := by decide +kernel
theorem dX3_cell_27 : decode cX3_cell 27 = .ok (.iload_n 1, 1) := by decide +kernel
theorem dX3_cell_28 : decode cX3_cell 28 = .ok (.iconst 4, 1) := by decide +kernel
theorem dX3_cell_29 : decode cX3_cell 29 = .ok (.imul, 1) := by decide +kernel
theorem dX3_cell_30 : decode cX3_cell 30 = .ok (.iload_n 2, 1) := by decide +kernel
theorem dX3_cell_31 : decode cX3_cell 31 = .ok (.iadd, 1) := by decide +kernel
theorem dX3_cell_32 : decode cX3_cell 32 = .ok (.iaload, 1) := by decide +kernel
theorem dX3_cell_33 : decode cX3_cell 33 = .ok (.ireturn, 1) := by decide +kernel
theorem dX3_dropFirst_0 : decode cX3_dropFirst 0 = .ok (.aload_n 0, 1) := by decide +kernel
theorem dX3_dropFirst_1 : decode cX3_dropFirst 1 = .ok (.getfield 23, 3) := by decide +kernel
theorem dX3_dropFirst_4 : decode cX3_dropFirst 4 = .ok (.ifCond .ne 4, 3) := by decide +kernel
theorem dX3_dropFirst_7 : decode cX3_dropFirst 7 = .ok (.return_, 1) := by decide +kernel
theorem dX3_dropFirst_8 : decode cX3_dropFirst 8 = .ok (.iconst 4, 1) := by decide +kernel
theorem dX3_dropFirst_9 : decode cX3_dropFirst 9 = .ok (.istore_n 1, 1) := by decide +kernel
theorem dX3_dropFirst_10 : decode cX3_dropFirst 10 = .ok (.iload_n 1, 1) := by decide +kernel
theorem dX3_dropFirst_11 : decode cX3_dropFirst 11 = .ok (.aload_n 0, 1) := by decide +kernel
theorem dX3_dropFirst_12 : decode cX3_dropFirst 12 = .ok (.getfield 23, 3) := by decide +kernel
theorem dX3_dropFirst_15 : decode cX3_dropFirst 15 = .ok (.iconst 4, 1) := by decide +kernel
theorem dX3_dropFirst_16 : decode cX3_dropFirst 16 = .ok (.imul, 1) := by decide +kernel
theorem dX3_dropFirst_17 : decode cX3_dropFirst 17 = .ok (.if_icmp .ge 23, 3) := by decide +kernel
theorem dX3_dropFirst_20 : decode cX3_dropFirst 20 = .ok (.aload_n 0, 1) := by decide +kernel
theorem dX3_dropFirst_21 : decode cX3_dropFirst 21 = .ok (.getfield 9, 3) := by decide +kernel
theorem dX3_dropFirst_24 : decode cX3_dropFirst 24 = .ok (.iload_n 1, 1) := by decide +kernel
theorem dX3_dropFirst_25 : decode cX3_dropFirst 25 = .ok (.iconst 4, 1) := by decide +kernel
theorem dX3_dropFirst_26 : decode cX3_dropFirst 26 = .ok (.isub, 1) := by decide +kernel
theorem dX3_dropFirst_27 : decode cX3_dropFirst 27 = .ok (.aload_n 0, 1) := by decide +kernel
theorem dX3_dropFirst_28 : decode cX3_dropFirst 28 = .ok (.getfield 9, 3) := by decide +kernel
theorem dX3_dropFirst_31 : decode cX3_dropFirst 31 = .ok (.iload_n 1, 1) := by decide +kernel
theorem dX3_dropFirst_32 : decode cX3_dropFirst 32 = .ok (.iaload, 1) := by decide +kernel
theorem dX3_dropFirst_33 : decode cX3_dropFirst 33 = .ok (.iastore, 1) := by decide +kernel
theorem dX3_dropFirst_34 : decode cX3_dropFirst 34 = .ok (.iinc 1 1, 3) := by decide +kernel
theorem dX3_dropFirst_37 : decode cX3_dropFirst 37 = .ok (.goto (-27), 3) := by decide +kernel
theorem dX3_dropFirst_40 : decode cX3_dropFirst 40 = .ok (.aload_n 0, 1) := by decide +kernel
theorem dX3_dropFirst_41 : decode cX3_dropFirst 41 = .ok (.dup, 1) := by decide +kernel
theorem dX3_dropFirst_42 : decode cX3_dropFirst 42 = .ok (.getfield 23, 3) := by decide +kernel
theorem dX3_dropFirst_45 : decode cX3_dropFirst 45 = .ok (.iconst 1, 1) := by decide +kernel
theorem dX3_dropFirst_46 : decode cX3_dropFirst 46 = .ok (.isub, 1) := by decide +kernel
theorem dX3_dropFirst_47 : decode cX3_dropFirst 47 = .ok (.putfield 23, 3) := by decide +kernel
theorem dX3_dropFirst_50 : decode cX3_dropFirst 50 = .ok (.return_, 1) := by decide +kernel
theorem dX3_dropLast_0 : decode cX3_dropLast 0 = .ok (.aload_n 0, 1) := by decide +kernel
theorem dX3_dropLast_1 : decode cX3_dropLast 1 = .ok (.getfield 23, 3) := by decide +kernel
theorem dX3_dropLast_4 : decode cX3_dropLast 4 = .ok (.ifCond .le 13, 3) := by decide +kernel
theorem dX3_dropLast_7 : decode cX3_dropLast 7 = .ok (.aload_n 0, 1) := by decide +kernel
theorem dX3_dropLast_8 : decode cX3_dropLast 8 = .ok (.dup, 1) := by decide +kernel
theorem dX3_dropLast_9 : decode cX3_dropLast 9 = .ok (.getfield 23, 3) := by decide +kernel
theorem dX3_dropLast_12 : decode cX3_dropLast 12 = .ok (.iconst 1, 1) := by decide +kernel
theorem dX3_dropLast_13 : decode cX3_dropLast 13 = .ok (.isub, 1) := by decide +kernel
theorem dX3_dropLast_14 : decode cX3_dropLast 14 = .ok (.putfield 23, 3) := by decide +kernel
theorem dX3_dropLast_17 : decode cX3_dropLast 17 = .ok (.return_, 1) := by decide +kernel
theorem dX3_copyFrom_0 : decode cX3_copyFrom 0 = .ok (.aload_n 1, 1) := by decide +kernel
theorem dX3_copyFrom_1 : decode cX3_copyFrom 1 = .ok (.getfield 9, 3) := by decide +kernel
theorem dX3_copyFrom_4 : decode cX3_copyFrom 4 = .ok (.iconst 0, 1) := by decide +kernel
theorem dX3_copyFrom_5 : decode cX3_copyFrom 5 = .ok (.aload_n 0, 1) := by decide +kernel
theorem dX3_copyFrom_6 : decode cX3_copyFrom 6 = .ok (.getfield 9, 3) := by decide +kernel
theorem dX3_copyFrom_9 : decode cX3_copyFrom 9 = .ok (.iconst 0, 1) := by decide +kernel
theorem dX3_copyFrom_10 : decode cX3_copyFrom 10 = .ok (.bipush 32, 2) := by decide +kernel
theorem dX3_copyFrom_12 : decode cX3_copyFrom 12 = .ok (.invokestatic 30, 3) := by decide +kernel
theorem dX3_copyFrom_15 : decode cX3_copyFrom 15 = .ok (.aload_n 0, 1) := by decide +kernel
theorem dX3_copyFrom_16 : decode cX3_copyFrom 16 = .ok (.aload_n 1, 1) := by decide +kernel
theorem dX3_copyFrom_17 : decode cX3_copyFrom 17 = .ok (.getfield 23, 3) := by decide +kernel
theorem dX3_copyFrom_20 : decode cX3_copyFrom 20 = .ok (.putfield 23, 3) := by decide +kernel
theorem dX3_copyFrom_23 : decode cX3_copyFrom 23 = .ok (.return_, 1) := by decide +kernel
theorem dX3_digestOn_0 : decode cX3_digestOn 0 = .ok (.lload_n 1, 1) := by decide +kernel
theorem dX3_digestOn_1 : decode cX3_digestOn 1 = .ok (.lstore 4, 2) := by decide +kernel
theorem dX3_digestOn_3 : decode cX3_digestOn 3 = .ok (.iconst 0, 1) := by decide +kernel
theorem dX3_digestOn_4 : decode cX3_digestOn 4 = .ok (.istore 6, 2) := by decide +kernel
theorem dX3_digestOn_6 : decode cX3_digestOn 6 = .ok (.iload 6, 2) := by decide +kernel
theorem dX3_digestOn_8 : decode cX3_digestOn 8 = .ok (.aload_n 0, 1) := by decide +kernel
theorem dX3_digestOn_9 : decode cX3_digestOn 9 = .ok (.getfield 23, 3) := by decide +kernel
theorem dX3_digestOn_12 : decode cX3_digestOn 12 = .ok (.if_icmp .ge 42, 3) := by decide +kernel
theorem dX3_digestOn_15 : decode cX3_digestOn 15 = .ok (.iconst 0, 1) := by decide +kernel
theorem dX3_digestOn_16 : decode cX3_digestOn 16 = .ok (.istore 7, 2) := by decide +kernel
theorem dX3_digestOn_18 : decode cX3_digestOn 18 = .ok (.iload 7, 2) := by decide +kernel
theorem dX3_digestOn_20 : decode cX3_digestOn 20 = .ok (.iload_n 3, 1) := by decide +kernel
theorem dX3_digestOn_21 : decode cX3_digestOn 21 = .ok (.if_icmp .ge 27, 3) := by decide +kernel
theorem dX3_digestOn_24 : decode cX3_digestOn 24 = .ok (.ldc2_w 36, 3) := by decide +kernel
theorem dX3_digestOn_27 : decode cX3_digestOn 27 = .ok (.lload 4, 2) := by decide +kernel
theorem dX3_digestOn_29 : decode cX3_digestOn 29 = .ok (.lmul, 1) := by decide +kernel
theorem dX3_digestOn_30 : decode cX3_digestOn 30 = .ok (.aload_n 0, 1) := by decide +kernel
theorem dX3_digestOn_31 : decode cX3_digestOn 31 = .ok (.iload 6, 2) := by decide +kernel
theorem dX3_digestOn_33 : decode cX3_digestOn 33 = .ok (.iload 7, 2) := by decide +kernel
theorem dX3_digestOn_35 : decode cX3_digestOn 35 = .ok (.invokevirtual 38, 3) := by decide +kernel
theorem dX3_digestOn_38 : decode cX3_digestOn 38 = .ok (.i2l, 1) := by decide +kernel
theorem dX3_digestOn_39 : decode cX3_digestOn 39 = .ok (.ladd, 1) := by decide +kernel
theorem dX3_digestOn_40 : decode cX3_digestOn 40 = .ok (.lstore 4, 2) := by decide +kernel
theorem dX3_digestOn_42 : decode cX3_digestOn 42 = .ok (.iinc 7 1, 3) := by decide +kernel
theorem dX3_digestOn_45 : decode cX3_digestOn 45 = .ok (.goto (-27), 3) := by decide +kernel
theorem dX3_digestOn_48 : decode cX3_digestOn 48 = .ok (.iinc 6 1, 3) := by decide +kernel
theorem dX3_digestOn_51 : decode cX3_digestOn 51 = .ok (.goto (-45), 3) := by decide +kernel
theorem dX3_digestOn_54 : decode cX3_digestOn 54 = .ok (.lload 4, 2) := by decide +kernel
theorem dX3_digestOn_56 : decode cX3_digestOn 56 = .ok (.lreturn, 1) := by decide +kernel
theorem dX4_init_0 : decode cX4_init 0 = .ok (.aload_n 0, 1) := by decide +kernel
theorem dX4_init_1 : decode cX4_init 1 = .ok (.invokespecial 3, 3) := by decide +kernel
theorem dX4_init_4 : decode cX4_init 4 = .ok (.aload_n 0, 1) := by decide +kernel
theorem dX4_init_5 : decode cX4_init 5 = .ok (.bipush 25, 2) := by decide +kernel
theorem dX4_init_7 : decode cX4_init 7 = .ok (.newarray .int, 2) := by decide +kernel
theorem dX4_init_9 : decode cX4_init 9 = .ok (.putfield 9, 3) := by decide +kernel
theorem dX4_init_12 : decode cX4_init 12 = .ok (.aload_n 0, 1) := by decide +kernel
theorem dX4_init_13 : decode cX4_init 13 = .ok (.iconst 5, 1) := by decide +kernel
theorem dX4_init_14 : decode cX4_init 14 = .ok (.newarray .int, 2) := by decide +kernel
theorem dX4_init_16 : decode cX4_init 16 = .ok (.putfield 15, 3) := by decide +kernel
theorem dX4_init_19 : decode cX4_init 19 = .ok (.aload_n 0, 1) := by decide +kernel
theorem dX4_init_20 : decode cX4_init 20 = .ok (.iconst 5, 1) := by decide +kernel
theorem dX4_init_21 : decode cX4_init 21 = .ok (.newarray .int, 2) := by decide +kernel
theorem dX4_init_23 : decode cX4_init 23 = .ok (.putfield 18, 3) := by decide +kernel
theorem dX4_init_26 : decode cX4_init 26 = .ok (.return_, 1) := by decide +kernel
theorem dX4_search_0 : decode cX4_search 0 = .ok (.iconst 0, 1) := by decide +kernel
theorem dX4_search_1 : decode cX4_search 1 = .ok (.istore_n 2, 1) := by decide +kernel
theorem dX4_search_2 : decode cX4_search 2 = .ok (.iload_n 2, 1) := by decide +kernel
theorem dX4_search_3 : decode cX4_search 3 = .ok (.iconst 5, 1) := by decide +kernel
theorem dX4_search_4 : decode cX4_search 4 = .ok (.if_icmp .ge 49, 3) := by decide +kernel
theorem dX4_search_7 : decode cX4_search 7 = .ok (.iconst 0, 1) := by decide +kernel
theorem dX4_search_8 : decode cX4_search 8 = .ok (.istore_n 3, 1) := by decide +kernel
theorem dX4_search_9 : decode cX4_search 9 = .ok (.iload_n 3, 1) := by decide +kernel
theorem dX4_search_10 : decode cX4_search 10 = .ok (.aload_n 1, 1) := by decide +kernel
theorem dX4_search_11 : decode cX4_search 11 = .ok (.getfield 21, 3) := by decide +kernel
theorem dX4_search_14 : decode cX4_search 14 = .ok (.getfield 27, 3) := by decide +kernel
theorem dX4_search_17 : decode cX4_search 17 = .ok (.if_icmp .ge 30, 3) := by decide +kernel
theorem dX4_search_20 : decode cX4_search 20 = .ok (.iload_n 3, 1) := by decide +kernel
theorem dX4_search_21 : decode cX4_search 21 = .ok (.iconst 5, 1) := by decide +kernel
theorem dX4_search_22 : decode cX4_search 22 = .ok (.if_icmp .ge 25, 3) := by decide +kernel
theorem dX4_search_25 : decode cX4_search 25 = .ok (.aload_n 0, 1) := by decide +kernel
theorem dX4_search_26 : decode cX4_search 26 = .ok (.getfield 9, 3) := by decide +kernel
theorem dX4_search_29 : decode cX4_search 29 = .ok (.iload_n 2, 1) := by decide +kernel
theorem dX4_search_30 : decode cX4_search 30 = .ok (.iconst 5, 1) := by decide +kernel
theorem dX4_search_31 : decode cX4_search 31 = .ok (.imul, 1) := by decide +kernel
theorem dX4_search_32 : decode cX4_search 32 = .ok (.iload_n 3, 1) := by decide +kernel
theorem dX4_search_33 : decode cX4_search 33 = .ok (.iadd, 1) := by decide +kernel
theorem dX4_search_34 : decode cX4_search 34 = .ok (.aload_n 1, 1) := by decide +kernel
theorem dX4_search_35 : decode cX4_search 35 = .ok (.iload_n 3, 1) := by decide +kernel
theorem dX4_search_36 : decode cX4_search 36 = .ok (.iload_n 2, 1) := by decide +kernel
theorem dX4_search_37 : decode cX4_search 37 = .ok (.invokevirtual 33, 3) := by decide +kernel
theorem dX4_search_40 : decode cX4_search 40 = .ok (.iastore, 1) := by decide +kernel
theorem dX4_search_41 : decode cX4_search 41 = .ok (.iinc 3 1, 3) := by decide +kernel
theorem dX4_search_44 : decode cX4_search 44 = .ok (.goto (-35), 3) := by decide +kernel
theorem dX4_search_47 : decode cX4_search 47 = .ok (.iinc 2 1, 3) := by decide +kernel
theorem dX4_search_50 : decode cX4_search 50 = .ok (.goto (-48), 3) := by decide +kernel
theorem dX4_search_53 : decode cX4_search 53 = .ok (.aload_n 0, 1) := by decide +kernel
theorem dX4_search_54 : decode cX4_search 54 = .ok (.iconst 0, 1) := by decide +kernel
theorem dX4_search_55 : decode cX4_search 55 = .ok (.putfield 37, 3) := by decide +kernel
theorem dX4_search_58 : decode cX4_search 58 = .ok (.aload_n 0, 1) := by decide +kernel
theorem dX4_search_59 : decode cX4_search 59 = .ok (.iconst 0, 1) := by decide +kernel
theorem dX4_search_60 : decode cX4_search 60 = .ok (.putfield 40, 3) := by decide +kernel
theorem dX4_search_63 : decode cX4_search 63 = .ok (.aload_n 0, 1) := by decide +kernel
theorem dX4_search_64 : decode cX4_search 64 = .ok (.aload_n 1, 1) := by decide +kernel
theorem dX4_search_65 : decode cX4_search 65 = .ok (.iconst 0, 1) := by decide +kernel
theorem dX4_search_66 : decode cX4_search 66 = .ok (.aload_n 1, 1) := by decide +kernel
theorem dX4_search_67 : decode cX4_search 67 = .ok (.getfield 43, 3) := by decide +kernel
theorem dX4_search_70 : decode cX4_search 70 = .ok (.iconst 0, 1) := by decide +kernel
theorem dX4_search_71 : decode cX4_search 71 = .ok (.invokestatic 46, 3) := by decide +kernel
theorem dX4_search_74 : decode cX4_search 74 = .ok (.return_, 1) := by decide +kernel
theorem dX4_isSent_0 : decode cX4_isSent 0 = .ok (.iload_n 1, 1) := by decide +kernel
theorem dX4_isSent_1 : decode cX4_isSent 1 = .ok (.iconst 0, 1) := by decide +kernel
theorem dX4_isSent_2 : decode cX4_isSent 2 = .ok (.aload_n 0, 1) := by decide +kernel
theorem dX4_isSent_3 : decode cX4_isSent 3 = .ok (.getfield 37, 3) := by decide +kernel
theorem dX4_isSent_6 : decode cX4_isSent 6 = .ok (.iconst 5, 1) := by decide +kernel
theorem dX4_isSent_7 : decode cX4_isSent 7 = .ok (.invokestatic 50, 3) := by decide +kernel
theorem dX4_isSent_10 : decode cX4_isSent 10 = .ok (.iconst 1, 1) := by decide +kernel
theorem dX4_isSent_11 : decode cX4_isSent 11 = .ok (.isub, 1) := by decide +kernel
theorem dX4_isSent_12 : decode cX4_isSent 12 = .ok (.invokestatic 55, 3) := by decide +kernel
theorem dX4_isSent_15 : decode cX4_isSent 15 = .ok (.ireturn, 1) := by decide +kernel
theorem dX4_sent_0 : decode cX4_sent 0 = .ok (.aload_n 0, 1) := by decide +kernel
theorem dX4_sent_1 : decode cX4_sent 1 = .ok (.iload_n 1, 1) := by decide +kernel
theorem dX4_sent_2 : decode cX4_sent 2 = .ok (.invokevirtual 59, 3) := by decide +kernel
theorem dX4_sent_5 : decode cX4_sent 5 = .ok (.ifCond .eq 12, 3) := by decide +kernel
theorem dX4_sent_8 : decode cX4_sent 8 = .ok (.aload_n 0, 1) := by decide +kernel
theorem dX4_sent_9 : decode cX4_sent 9 = .ok (.getfield 18, 3) := by decide +kernel
theorem dX4_sent_12 : decode cX4_sent 12 = .ok (.iload_n 1, 1) := by decide +kernel
theorem dX4_sent_13 : decode cX4_sent 13 = .ok (.iaload, 1) := by decide +kernel
theorem dX4_sent_14 : decode cX4_sent 14 = .ok (.goto 4, 3) := by decide +kernel
theorem dX4_sent_17 : decode cX4_sent 17 = .ok (.iconst (-1), 1) := by decide +kernel
theorem dX4_sent_18 : decode cX4_sent 18 = .ok (.ireturn, 1) := by decide +kernel
theorem dX4_extend_0 : decode cX4_extend 0 = .ok (.iload 4, 2) := by decide +kernel
theorem dX4_extend_2 : decode cX4_extend 2 = .ok (.aload_n 0, 1) := by decide +kernel
theorem dX4_extend_3 : decode cX4_extend 3 = .ok (.getfield 40, 3) := by decide +kernel
theorem dX4_extend_6 : decode cX4_extend 6 = .ok (.if_icmp .le 10, 3) := by decide +kernel
theorem dX4_extend_9 : decode cX4_extend 9 = .ok (.aload_n 0, 1) := by decide +kernel
theorem dX4_extend_10 : decode cX4_extend 10 = .ok (.iload_n 2, 1) := by decide +kernel
theorem dX4_extend_11 : decode cX4_extend 11 = .ok (.iload 4, 2) := by decide +kernel
theorem dX4_extend_13 : decode cX4_extend 13 = .ok (.invokevirtual 63, 3) := by decide +kernel
theorem dX4_extend_16 : decode cX4_extend 16 = .ok (.iload_n 2, 1) := by decide +kernel
theorem dX4_extend_17 : decode cX4_extend 17 = .ok (.iconst 0, 1) := by decide +kernel
theorem dX4_extend_18 : decode cX4_extend 18 = .ok (.iconst 4, 1) := by decide +kernel
theorem dX4_extend_19 : decode cX4_extend 19 = .ok (.invokestatic 55, 3) := by decide +kernel
theorem dX4_extend_22 : decode cX4_extend 22 = .ok (.ifCond .ne 4, 3) := by decide +kernel
theorem dX4_extend_25 : decode cX4_extend 25 = .ok (.return_, 1) := by decide +kernel
theorem dX4_extend_26 : decode cX4_extend 26 = .ok (.iconst 0, 1) := by decide +kernel
theorem dX4_extend_27 : decode cX4_extend 27 = .ok (.istore 5, 2) := by decide +kernel
theorem dX4_extend_29 : decode cX4_extend 29 = .ok (.iload 5, 2) := by decide +kernel
theorem dX4_extend_31 : decode cX4_extend 31 = .ok (.aload_n 1, 1) := by decide +kernel
theorem dX4_extend_32 : decode cX4_extend 32 = .ok (.getfield 21, 3) := by decide +kernel
theorem dX4_extend_35 : decode cX4_extend 35 = .ok (.getfield 27, 3) := by decide +kernel
theorem dX4_extend_38 : decode cX4_extend 38 = .ok (.if_icmp .ge 73, 3) := by decide +kernel
theorem dX4_extend_41 : decode cX4_extend 41 = .ok (.iload 5, 2) := by decide +kernel
theorem dX4_extend_43 : decode cX4_extend 43 = .ok (.iconst 5, 1) := by decide +kernel
theorem dX4_extend_44 : decode cX4_extend 44 = .ok (.if_icmp .ge 67, 3) := by decide +kernel
theorem dX4_extend_47 : decode cX4_extend 47 = .ok (.aload_n 0, 1) := by decide +kernel
theorem dX4_extend_48 : decode cX4_extend 48 = .ok (.getfield 9, 3) := by decide +kernel
theorem dX4_extend_51 : decode cX4_extend 51 = .ok (.iload_n 2, 1) := by decide +kernel
theorem dX4_extend_52 : decode cX4_extend 52 = .ok (.iconst 5, 1) := by decide +kernel
theorem dX4_extend_53 : decode cX4_extend 53 = .ok (.imul, 1) := by decide +kernel
theorem dX4_extend_54 : decode cX4_extend 54 = .ok (.iload 5, 2) := by decide +kernel
theorem dX4_extend_56 : decode cX4_extend 56 = .ok (.iadd, 1) := by decide +kernel
theorem dX4_extend_57 : decode cX4_extend 57 = .ok (.iaload, 1) := by decide +kernel
theorem dX4_extend_58 : decode cX4_extend 58 = .ok (.istore 6, 2) := by decide +kernel
theorem dX4_extend_60 : decode cX4_extend 60 = .ok (.iload 6, 2) := by decide +kernel
theorem dX4_extend_62 : decode cX4_extend 62 = .ok (.iload_n 3, 1) := by decide +kernel
theorem dX4_extend_63 : decode cX4_extend 63 = .ok (.if_icmp .gt 42, 3) := by decide +kernel
theorem dX4_extend_66 : decode cX4_extend 66 = .ok (.aload_n 0, 1) := by decide +kernel
theorem dX4_extend_67 : decode cX4_extend 67 = .ok (.iload 5, 2) := by decide +kernel
theorem dX4_extend_69 : decode cX4_extend 69 = .ok (.iload_n 2, 1) := by decide +kernel
theorem dX4_extend_70 : decode cX4_extend 70 = .ok (.invokevirtual 67, 3) := by decide +kernel
theorem dX4_extend_73 : decode cX4_extend 73 = .ok (.ifCond .ne 32, 3) := by decide +kernel
theorem dX4_extend_76 : decode cX4_extend 76 = .ok (.aload_n 0, 1) := by decide +kernel
theorem dX4_extend_77 : decode cX4_extend 77 = .ok (.getfield 15, 3) := by decide +kernel
theorem dX4_extend_80 : decode cX4_extend 80 = .ok (.iload_n 2, 1) := by decide +kernel
theorem dX4_extend_81 : decode cX4_extend 81 = .ok (.iload 5, 2) := by decide +kernel
theorem dX4_extend_83 : decode cX4_extend 83 = .ok (.iastore, 1) := by decide +kernel
theorem dX4_extend_84 : decode cX4_extend 84 = .ok (.aload_n 0, 1) := by decide +kernel
theorem dX4_extend_85 : decode cX4_extend 85 = .ok (.aload_n 1, 1) := by decide +kernel
theorem dX4_extend_86 : decode cX4_extend 86 = .ok (.iload_n 2, 1) := by decide +kernel
theorem dX4_extend_87 : decode cX4_extend 87 = .ok (.iconst 1, 1) := by decide +kernel
theorem dX4_extend_88 : decode cX4_extend 88 = .ok (.iadd, 1) := by decide +kernel
theorem dX4_extend_89 : decode cX4_extend 89 = .ok (.iload_n 3, 1) := by decide +kernel
theorem dX4_extend_90 : decode cX4_extend 90 = .ok (.iload 6, 2) := by decide +kernel
theorem dX4_extend_92 : decode cX4_extend 92 = .ok (.isub, 1) := by decide +kernel
theorem dX4_extend_93 : decode cX4_extend 93 = .ok (.iload 4, 2) := by decide +kernel
theorem dX4_extend_95 : decode cX4_extend 95 = .ok (.aload_n 1, 1) := by decide +kernel
theorem dX4_extend_96 : decode cX4_extend 96 = .ok (.iload 5, 2) := by decide +kernel
theorem dX4_extend_98 : decode cX4_extend 98 = .ok (.invokevirtual 71, 3) := by decide +kernel
theorem dX4_extend_101 : decode cX4_extend 101 = .ok (.iadd, 1) := by decide +kernel
theorem dX4_extend_102 : decode cX4_extend 102 = .ok (.invokestatic 46, 3) := by decide +kernel
theorem dX4_extend_105 : decode cX4_extend 105 = .ok (.iinc 5 1, 3) := by decide +kernel
theorem dX4_extend_108 : decode cX4_extend 108 = .ok (.goto (-79), 3) := by decide +kernel
theorem dX4_extend_111 : decode cX4_extend 111 = .ok (.return_, 1) := by decide +kernel
theorem dX4_keepPath_0 : decode cX4_keepPath 0 = .ok (.aload_n 0, 1) := by decide +kernel
theorem dX4_keepPath_1 : decode cX4_keepPath 1 = .ok (.iload_n 2, 1) := by decide +kernel
theorem dX4_keepPath_2 : decode cX4_keepPath 2 = .ok (.putfield 40, 3) := by decide +kernel
theorem dX4_keepPath_5 : decode cX4_keepPath 5 = .ok (.aload_n 0, 1) := by decide +kernel
theorem dX4_keepPath_6 : decode cX4_keepPath 6 = .ok (.iload_n 1, 1) := by decide +kernel
theorem dX4_keepPath_7 : decode cX4_keepPath 7 = .ok (.putfield 37, 3) := by decide +kernel
theorem dX4_keepPath_10 : decode cX4_keepPath 10 = .ok (.iconst 0, 1) := by decide +kernel
theorem dX4_keepPath_11 : decode cX4_keepPath 11 = .ok (.istore_n 3, 1) := by decide +kernel
theorem dX4_keepPath_12 : decode cX4_keepPath 12 = .ok (.iload_n 3, 1) := by decide +kernel
theorem dX4_keepPath_13 : decode cX4_keepPath 13 = .ok (.iload_n 1, 1) := by decide +kernel
theorem dX4_keepPath_14 : decode cX4_keepPath 14 = .ok (.if_icmp .ge 26, 3) := by decide +kernel
theorem dX4_keepPath_17 : decode cX4_keepPath 17 = .ok (.iload_n 3, 1) := by decide +kernel
theorem dX4_keepPath_18 : decode cX4_keepPath 18 = .ok (.iconst 5, 1) := by decide +kernel
theorem dX4_keepPath_19 : decode cX4_keepPath 19 = .ok (.if_icmp .ge 21, 3) := by decide +kernel
theorem dX4_keepPath_22 : decode cX4_keepPath 22 = .ok (.aload_n 0, 1) := by decide +kernel
theorem dX4_keepPath_23 : decode cX4_keepPath 23 = .ok (.getfield 18, 3) := by decide +kernel
theorem dX4_keepPath_26 : decode cX4_keepPath 26 = .ok (.iload_n 3, 1) := by decide +kernel
theorem dX4_keepPath_27 : decode cX4_keepPath 27 = .ok (.aload_n 0, 1) := by decide +kernel
theorem dX4_keepPath_28 : decode cX4_keepPath 28 = .ok (.getfield 15, 3) := by decide +kernel
theorem dX4_keepPath_31 : decode cX4_keepPath 31 = .ok (.iload_n 3, 1) := by decide +kernel
theorem dX4_keepPath_32 : decode cX4_keepPath 32 = .ok (.iaload, 1) := by decide +kernel
theorem dX4_keepPath_33 : decode cX4_keepPath 33 = .ok (.iastore, 1) := by decide +kernel
theorem dX4_keepPath_34 : decode cX4_keepPath 34 = .ok (.iinc 3 1, 3) := by decide +kernel
theorem dX4_keepPath_37 : decode cX4_keepPath 37 = .ok (.goto (-25), 3) := by decide +kernel
theorem dX4_keepPath_40 : decode cX4_keepPath 40 = .ok (.return_, 1) := by decide +kernel
theorem dX4_isOnPath_0 : decode cX4_isOnPath 0 = .ok (.iconst 0, 1) := by decide +kernel
theorem dX4_isOnPath_1 : decode cX4_isOnPath 1 = .ok (.istore_n 3, 1) := by decide +kernel
theorem dX4_isOnPath_2 : decode cX4_isOnPath 2 = .ok (.iload_n 3, 1) := by decide +kernel
theorem dX4_isOnPath_3 : decode cX4_isOnPath 3 = .ok (.iload_n 2, 1) := by decide +kernel
theorem dX4_isOnPath_4 : decode cX4_isOnPath 4 = .ok (.if_icmp .ge 26, 3) := by decide +kernel
theorem dX4_isOnPath_7 : decode cX4_isOnPath 7 = .ok (.iload_n 3, 1) := by decide +kernel
theorem dX4_isOnPath_8 : decode cX4_isOnPath 8 = .ok (.iconst 5, 1) := by decide +kernel
theorem dX4_isOnPath_9 : decode cX4_isOnPath 9 = .ok (.if_icmp .ge 21, 3) := by decide +kernel
theorem dX4_isOnPath_12 : decode cX4_isOnPath 12 = .ok (.aload_n 0, 1) := by decide +kernel
theorem dX4_isOnPath_13 : decode cX4_isOnPath 13 = .ok (.getfield 15, 3) := by decide +kernel
theorem dX4_isOnPath_16 : decode cX4_isOnPath 16 = .ok (.iload_n 3, 1) := by decide +kernel
theorem dX4_isOnPath_17 : decode cX4_isOnPath 17 = .ok (.iaload, 1) := by decide +kernel
theorem dX4_isOnPath_18 : decode cX4_isOnPath 18 = .ok (.iload_n 1, 1) := by decide +kernel
theorem dX4_isOnPath_19 : decode cX4_isOnPath 19 = .ok (.if_icmp .ne 5, 3) := by decide +kernel
theorem dX4_isOnPath_22 : decode cX4_isOnPath 22 = .ok (.iconst 1, 1) := by decide +kernel
theorem dX4_isOnPath_23 : decode cX4_isOnPath 23 = .ok (.ireturn, 1) := by decide +kernel
theorem dX4_isOnPath_24 : decode cX4_isOnPath 24 = .ok (.iinc 3 1, 3) := by decide +kernel
theorem dX4_isOnPath_27 : decode cX4_isOnPath 27 = .ok (.goto (-25), 3) := by decide +kernel
theorem dX4_isOnPath_30 : decode cX4_isOnPath 30 = .ok (.iconst 0, 1) := by decide +kernel
theorem dX4_isOnPath_31 : decode cX4_isOnPath 31 = .ok (.ireturn, 1) := by decide +kernel
theorem dX5_init_0 : decode cX5_init 0 = .ok (.aload_n 0, 1) := by decide +kernel
theorem dX5_init_1 : decode cX5_init 1 = .ok (.invokespecial 3, 3) := by decide +kernel
theorem dX5_init_4 : decode cX5_init 4 = .ok (.aload_n 0, 1) := by decide +kernel
theorem dX5_init_5 : decode cX5_init 5 = .ok (.sipush 150, 3) := by decide +kernel
theorem dX5_init_8 : decode cX5_init 8 = .ok (.newarray .byte, 2) := by decide +kernel
theorem dX5_init_10 : decode cX5_init 10 = .ok (.putfield 11, 3) := by decide +kernel
theorem dX5_init_13 : decode cX5_init 13 = .ok (.return_, 1) := by decide +kernel
theorem dX5_put_0 : decode cX5_put 0 = .ok (.aload_n 0, 1) := by decide +kernel
theorem dX5_put_1 : decode cX5_put 1 = .ok (.getfield 15, 3) := by decide +kernel
theorem dX5_put_4 : decode cX5_put 4 = .ok (.iconst 0, 1) := by decide +kernel
theorem dX5_put_5 : decode cX5_put 5 = .ok (.sipush 149, 3) := by decide +kernel
theorem dX5_put_8 : decode cX5_put 8 = .ok (.invokestatic 19, 3) := by decide +kernel
theorem dX5_put_11 : decode cX5_put 11 = .ok (.ifCond .ne 5, 3) := by decide +kernel
theorem dX5_put_14 : decode cX5_put 14 = .ok (.iconst 0, 1) := by decide +kernel
theorem dX5_put_15 : decode cX5_put 15 = .ok (.ireturn, 1) := by decide +kernel
theorem dX5_put_16 : decode cX5_put 16 = .ok (.aload_n 0, 1) := by decide +kernel
theorem dX5_put_17 : decode cX5_put 17 = .ok (.getfield 11, 3) := by decide +kernel
theorem dX5_put_20 : decode cX5_put 20 = .ok (.aload_n 0, 1) := by decide +kernel
theorem dX5_put_21 : decode cX5_put 21 = .ok (.getfield 15, 3) := by decide +kernel
theorem dX5_put_24 : decode cX5_put 24 = .ok (.iload_n 1, 1) := by decide +kernel
theorem dX5_put_25 : decode cX5_put 25 = .ok (.i2b, 1) := by decide +kernel
theorem dX5_put_26 : decode cX5_put 26 = .ok (.bastore, 1) := by decide +kernel
theorem dX5_put_27 : decode cX5_put 27 = .ok (.aload_n 0, 1) := by decide +kernel
theorem dX5_put_28 : decode cX5_put 28 = .ok (.dup, 1) := by decide +kernel
theorem dX5_put_29 : decode cX5_put 29 = .ok (.getfield 15, 3) := by decide +kernel
theorem dX5_put_32 : decode cX5_put 32 = .ok (.iconst 1, 1) := by decide +kernel
theorem dX5_put_33 : decode cX5_put 33 = .ok (.iadd, 1) := by decide +kernel
theorem dX5_put_34 : decode cX5_put 34 = .ok (.putfield 15, 3) := by decide +kernel
theorem dX5_put_37 : decode cX5_put 37 = .ok (.iconst 1, 1) := by decide +kernel
theorem dX5_put_38 : decode cX5_put 38 = .ok (.ireturn, 1) := by decide +kernel
theorem dX5_readInto_0 : decode cX5_readInto 0 = .ok (.aload_n 0, 1) := by decide +kernel
theorem dX5_readInto_1 : decode cX5_readInto 1 = .ok (.iconst 0, 1) := by decide +kernel
theorem dX5_readInto_2 : decode cX5_readInto 2 = .ok (.putfield 23, 3) := by decide +kernel
theorem dX5_readInto_5 : decode cX5_readInto 5 = .ok (.aload_n 0, 1) := by decide +kernel
theorem dX5_readInto_6 : decode cX5_readInto 6 = .ok (.aload_n 1, 1) := by decide +kernel
theorem dX5_readInto_7 : decode cX5_readInto 7 = .ok (.invokevirtual 26, 3) := by decide +kernel
theorem dX5_readInto_10 : decode cX5_readInto 10 = .ok (.ifCond .ne 11, 3) := by decide +kernel
theorem dX5_readInto_13 : decode cX5_readInto 13 = .ok (.bipush (-10), 2) := by decide +kernel
theorem dX5_readInto_15 : decode cX5_readInto 15 = .ok (.aload_n 0, 1) := by decide +kernel
theorem dX5_readInto_16 : decode cX5_readInto 16 = .ok (.getfield 30, 3) := by decide +kernel
theorem dX5_readInto_19 : decode cX5_readInto 19 = .ok (.isub, 1) := by decide +kernel
theorem dX5_readInto_20 : decode cX5_readInto 20 = .ok (.ireturn, 1) := by decide +kernel
theorem dX5_readInto_21 : decode cX5_readInto 21 = .ok (.iconst 1, 1) := by decide +kernel
theorem dX5_readInto_22 : decode cX5_readInto 22 = .ok (.istore_n 2, 1) := by decide +kernel
theorem dX5_readInto_23 : decode cX5_readInto 23 = .ok (.aload_n 0, 1) := by decide +kernel
theorem dX5_readInto_24 : decode cX5_readInto 24 = .ok (.invokevirtual 33, 3) := by decide +kernel
theorem dX5_readInto_27 : decode cX5_readInto 27 = .ok (.aload_n 0, 1) := by decide +kernel
theorem dX5_readInto_28 : decode cX5_readInto 28 = .ok (.getfield 36, 3) := by decide +kernel
theorem dX5_readInto_31 : decode cX5_readInto 31 = .ok (.ifCond .eq 43, 3) := by decide +kernel
theorem dX5_readInto_34 : decode cX5_readInto 34 = .ok (.iload_n 2, 1) := by decide +kernel
theorem dX5_readInto_35 : decode cX5_readInto 35 = .ok (.sipush 150, 3) := by decide +kernel
theorem dX5_readInto_38 : decode cX5_readInto 38 = .ok (.if_icmp .gt 36, 3) := by decide +kernel
theorem dX5_readInto_41 : decode cX5_readInto 41 = .ok (.aload_n 0, 1) := by decide +kernel
theorem dX5_readInto_42 : decode cX5_readInto 42 = .ok (.aload_n 1, 1) := by decide +kernel
theorem dX5_readInto_43 : decode cX5_readInto 43 = .ok (.invokevirtual 39, 3) := by decide +kernel
theorem dX5_readInto_46 : decode cX5_readInto 46 = .ok (.ifCond .eq 10, 3) := by decide +kernel
theorem dX5_readInto_49 : decode cX5_readInto 49 = .ok (.aload_n 0, 1) := by decide +kernel
theorem dX5_readInto_50 : decode cX5_readInto 50 = .ok (.invokevirtual 42, 3) := by decide +kernel
theorem dX5_readInto_53 : decode cX5_readInto 53 = .ok (.ifCond .ne 11, 3) := by decide +kernel
theorem dX5_readInto_56 : decode cX5_readInto 56 = .ok (.bipush (-10), 2) := by decide +kernel
theorem dX5_readInto_58 : decode cX5_readInto 58 = .ok (.aload_n 0, 1) := by decide +kernel
theorem dX5_readInto_59 : decode cX5_readInto 59 = .ok (.getfield 30, 3) := by decide +kernel
theorem dX5_readInto_62 : decode cX5_readInto 62 = .ok (.isub, 1) := by decide +kernel
theorem dX5_readInto_63 : decode cX5_readInto 63 = .ok (.ireturn, 1) := by decide +kernel
theorem dX5_readInto_64 : decode cX5_readInto 64 = .ok (.iinc 2 1, 3) := by decide +kernel
theorem dX5_readInto_67 : decode cX5_readInto 67 = .ok (.aload_n 0, 1) := by decide +kernel
theorem dX5_readInto_68 : decode cX5_readInto 68 = .ok (.invokevirtual 33, 3) := by decide +kernel
theorem dX5_readInto_71 : decode cX5_readInto 71 = .ok (.goto (-44), 3) := by decide +kernel
theorem dX5_readInto_74 : decode cX5_readInto 74 = .ok (.iload_n 2, 1) := by decide +kernel
theorem dX5_readInto_75 : decode cX5_readInto 75 = .ok (.ireturn, 1) := by decide +kernel
theorem dX5_readFirst_0 : decode cX5_readFirst 0 = .ok (.aload_n 0, 1) := by decide +kernel
theorem dX5_readFirst_1 : decode cX5_readFirst 1 = .ok (.invokevirtual 33, 3) := by decide +kernel
theorem dX5_readFirst_4 : decode cX5_readFirst 4 = .ok (.aload_n 0, 1) := by decide +kernel
theorem dX5_readFirst_5 : decode cX5_readFirst 5 = .ok (.ldc 46, 2) := by decide +kernel
theorem dX5_readFirst_7 : decode cX5_readFirst 7 = .ok (.invokevirtual 48, 3) := by decide +kernel
theorem dX5_readFirst_10 : decode cX5_readFirst 10 = .ok (.ifCond .eq 13, 3) := by decide +kernel
theorem dX5_readFirst_13 : decode cX5_readFirst 13 = .ok (.aload_n 0, 1) := by decide +kernel
theorem dX5_readFirst_14 : decode cX5_readFirst 14 = .ok (.iconst 1, 1) := by decide +kernel
theorem dX5_readFirst_15 : decode cX5_readFirst 15 = .ok (.bipush 60, 2) := by decide +kernel
theorem dX5_readFirst_17 : decode cX5_readFirst 17 = .ok (.invokevirtual 52, 3) := by decide +kernel
theorem dX5_readFirst_20 : decode cX5_readFirst 20 = .ok (.ifCond .ne 5, 3) := by decide +kernel
theorem dX5_readFirst_23 : decode cX5_readFirst 23 = .ok (.iconst 0, 1) := by decide +kernel
theorem dX5_readFirst_24 : decode cX5_readFirst 24 = .ok (.ireturn, 1) := by decide +kernel
theorem dX5_readFirst_25 : decode cX5_readFirst 25 = .ok (.aload_n 1, 1) := by decide +kernel
theorem dX5_readFirst_26 : decode cX5_readFirst 26 = .ok (.aload_n 0, 1) := by decide +kernel
theorem dX5_readFirst_27 : decode cX5_readFirst 27 = .ok (.getfield 56, 3) := by decide +kernel
theorem dX5_readFirst_30 : decode cX5_readFirst 30 = .ok (.bipush 100, 2) := by decide +kernel
theorem dX5_readFirst_32 : decode cX5_readFirst 32 = .ok (.invokevirtual 59, 3) := by decide +kernel
theorem dX5_readFirst_35 : decode cX5_readFirst 35 = .ok (.aload_n 0, 1) := by decide +kernel
theorem dX5_readFirst_36 : decode cX5_readFirst 36 = .ok (.invokevirtual 42, 3) := by decide +kernel
theorem dX5_readFirst_39 : decode cX5_readFirst 39 = .ok (.ireturn, 1) := by decide +kernel
theorem dX5_readItem_0 : decode cX5_readItem 0 = .ok (.aload_n 0, 1) := by decide +kernel
theorem dX5_readItem_1 : decode cX5_readItem 1 = .ok (.ldc 64, 2) := by decide +kernel
theorem dX5_readItem_3 : decode cX5_readItem 3 = .ok (.invokevirtual 48, 3) := by decide +kernel
theorem dX5_readItem_6 : decode cX5_readItem 6 = .ok (.ifCond .eq 9, 3) := by decide +kernel
theorem dX5_readItem_9 : decode cX5_readItem 9 = .ok (.aload_n 0, 1) := by decide +kernel
theorem dX5_readItem_10 : decode cX5_readItem 10 = .ok (.aload_n 1, 1) := by decide +kernel
theorem dX5_readItem_11 : decode cX5_readItem 11 = .ok (.invokevirtual 66, 3) := by decide +kernel
theorem dX5_readItem_14 : decode cX5_readItem 14 = .ok (.ireturn, 1) := by decide +kernel
theorem dX5_readItem_15 : decode cX5_readItem 15 = .ok (.aload_n 0, 1) := by decide +kernel
theorem dX5_readItem_16 : decode cX5_readItem 16 = .ok (.ldc 69, 2) := by decide +kernel
theorem dX5_readItem_18 : decode cX5_readItem 18 = .ok (.invokevirtual 48, 3) := by decide +kernel
theorem dX5_readItem_21 : decode cX5_readItem 21 = .ok (.ifCond .eq 27, 3) := by decide +kernel
theorem dX5_readItem_24 : decode cX5_readItem 24 = .ok (.aload_n 1, 1) := by decide +kernel
theorem dX5_readItem_25 : decode cX5_readItem 25 = .ok (.getfield 71, 3) := by decide +kernel
theorem dX5_readItem_28 : decode cX5_readItem 28 = .ok (.invokevirtual 75, 3) := by decide +kernel
theorem dX5_readItem_31 : decode cX5_readItem 31 = .ok (.ifCond .ne 15, 3) := by decide +kernel
theorem dX5_readItem_34 : decode cX5_readItem 34 = .ok (.aload_n 0, 1) := by decide +kernel
theorem dX5_readItem_35 : decode cX5_readItem 35 = .ok (.aload_n 1, 1) := by decide +kernel
theorem dX5_readItem_36 : decode cX5_readItem 36 = .ok (.invokevirtual 80, 3) := by decide +kernel
theorem dX5_readItem_39 : decode cX5_readItem 39 = .ok (.ifCond .eq 7, 3) := by decide +kernel
theorem dX5_readItem_42 : decode cX5_readItem 42 = .ok (.iconst 1, 1) := by decide +kernel
theorem dX5_readItem_43 : decode cX5_readItem 43 = .ok (.goto 4, 3) := by decide +kernel
theorem dX5_readItem_46 : decode cX5_readItem 46 = .ok (.iconst 0, 1) := by decide +kernel
theorem dX5_readItem_47 : decode cX5_readItem 47 = .ok (.ireturn, 1) := by decide +kernel
theorem dX5_readItem_48 : decode cX5_readItem 48 = .ok (.aload_n 0, 1) := by decide +kernel
theorem dX5_readItem_49 : decode cX5_readItem 49 = .ok (.ldc 83, 2) := by decide +kernel
theorem dX5_readItem_51 : decode cX5_readItem 51 = .ok (.invokevirtual 48, 3) := by decide +kernel
theorem dX5_readItem_54 : decode cX5_readItem 54 = .ok (.ifCond .eq 9, 3) := by decide +kernel
theorem dX5_readItem_57 : decode cX5_readItem 57 = .ok (.aload_n 0, 1) := by decide +kernel
theorem dX5_readItem_58 : decode cX5_readItem 58 = .ok (.aload_n 1, 1) := by decide +kernel
theorem dX5_readItem_59 : decode cX5_readItem 59 = .ok (.invokevirtual 85, 3) := by decide +kernel
theorem dX5_readItem_62 : decode cX5_readItem 62 = .ok (.ireturn, 1) := by decide +kernel
theorem dX5_readItem_63 : decode cX5_readItem 63 = .ok (.aload_n 0, 1) := by decide +kernel
theorem dX5_readItem_64 : decode cX5_readItem 64 = .ok (.ldc 88, 2) := by decide +kernel
theorem dX5_readItem_66 : decode cX5_readItem 66 = .ok (.invokevirtual 48, 3) := by decide +kernel
theorem dX5_readItem_69 : decode cX5_readItem 69 = .ok (.ifCond .eq 37, 3) := by decide +kernel
theorem dX5_readItem_72 : decode cX5_readItem 72 = .ok (.aload_n 0, 1) := by decide +kernel
theorem dX5_readItem_73 : decode cX5_readItem 73 = .ok (.iconst 0, 1) := by decide +kernel
theorem dX5_readItem_74 : decode cX5_readItem 74 = .ok (.aload_n 1, 1) := by decide +kernel
theorem dX5_readItem_75 : decode cX5_readItem 75 = .ok (.getfield 71, 3) := by decide +kernel
theorem dX5_readItem_78 : decode cX5_readItem 78 = .ok (.getfield 90, 3) := by decide +kernel
theorem dX5_readItem_81 : decode cX5_readItem 81 = .ok (.iconst 1, 1) := by decide +kernel
theorem dX5_readItem_82 : decode cX5_readItem 82 = .ok (.isub, 1) := by decide +kernel
theorem dX5_readItem_83 : decode cX5_readItem 83 = .ok (.invokevirtual 52, 3) := by decide +kernel
theorem dX5_readItem_86 : decode cX5_readItem 86 = .ok (.ifCond .eq 18, 3) := by decide +kernel
theorem dX5_readItem_89 : decode cX5_readItem 89 = .ok (.aload_n 1, 1) := by decide +kernel
theorem dX5_readItem_90 : decode cX5_readItem 90 = .ok (.aload_n 0, 1) := by decide +kernel
theorem dX5_readItem_91 : decode cX5_readItem 91 = .ok (.getfield 56, 3) := by decide +kernel
theorem dX5_readItem_94 : decode cX5_readItem 94 = .ok (.invokevirtual 93, 3) := by decide +kernel
theorem dX5_readItem_97 : decode cX5_readItem 97 = .ok (.ifCond .eq 7, 3) := by decide +kernel
theorem dX5_readItem_100 : decode cX5_readItem 100 = .ok (.iconst 1, 1) := by decide +kernel
theorem dX5_readItem_101 : decode cX5_readItem 101 = .ok (.goto 4, 3) := by decide +kernel
theorem dX5_readItem_104 : decode cX5_readItem 104 = .ok (.iconst 0, 1) := by decide +kernel
theorem dX5_readItem_105 : decode cX5_readItem 105 = .ok (.ireturn, 1) := by decide +kernel
theorem dX5_readItem_106 : decode cX5_readItem 106 = .ok (.aload_n 0, 1) := by decide +kernel
theorem dX5_readItem_107 : decode cX5_readItem 107 = .ok (.ldc 97, 2) := by decide +kernel
theorem dX5_readItem_109 : decode cX5_readItem 109 = .ok (.invokevirtual 48, 3) := by decide +kernel
theorem dX5_readItem_112 : decode cX5_readItem 112 = .ok (.ifCond .eq 15, 3) := by decide +kernel
theorem dX5_readItem_115 : decode cX5_readItem 115 = .ok (.aload_n 0, 1) := by decide +kernel
theorem dX5_readItem_116 : decode cX5_readItem 116 = .ok (.aload_n 1, 1) := by decide +kernel
theorem dX5_readItem_117 : decode cX5_readItem 117 = .ok (.invokevirtual 99, 3) := by decide +kernel
theorem dX5_readItem_120 : decode cX5_readItem 120 = .ok (.ifCond .eq 7, 3) := by decide +kernel
theorem dX5_readItem_123 : decode cX5_readItem 123 = .ok (.iconst 1, 1) := by decide +kernel
theorem dX5_readItem_124 : decode cX5_readItem 124 = .ok (.goto 4, 3) := by decide +kernel
theorem dX5_readItem_127 : decode cX5_readItem 127 = .ok (.iconst 0, 1) := by decide +kernel
theorem dX5_readItem_128 : decode cX5_readItem 128 = .ok (.ireturn, 1) := by decide +kernel
theorem dX5_readHouse_0 : decode cX5_readHouse 0 = .ok (.aload_n 0, 1) := by decide +kernel
theorem dX5_readHouse_1 : decode cX5_readHouse 1 = .ok (.iconst 0, 1) := by decide +kernel
theorem dX5_readHouse_2 : decode cX5_readHouse 2 = .ok (.iconst 1, 1) := by decide +kernel
theorem dX5_readHouse_3 : decode cX5_readHouse 3 = .ok (.invokevirtual 52, 3) := by decide +kernel
theorem dX5_readHouse_6 : decode cX5_readHouse 6 = .ok (.ifCond .ne 5, 3) := by decide +kernel
theorem dX5_readHouse_9 : decode cX5_readHouse 9 = .ok (.iconst 0, 1) := by decide +kernel
theorem dX5_readHouse_10 : decode cX5_readHouse 10 = .ok (.ireturn, 1) := by decide +kernel
theorem dX5_readHouse_11 : decode cX5_readHouse 11 = .ok (.aload_n 0, 1) := by decide +kernel
theorem dX5_readHouse_12 : decode cX5_readHouse 12 = .ok (.getfield 56, 3) := by decide +kernel
theorem dX5_readHouse_15 : decode cX5_readHouse 15 = .ok (.istore_n 2, 1) := by decide +kernel
theorem dX5_readHouse_16 : decode cX5_readHouse 16 = .ok (.aload_n 0, 1) := by decide +kernel
theorem dX5_readHouse_17 : decode cX5_readHouse 17 = .ok (.iconst 0, 1) := by decide +kernel
theorem dX5_readHouse_18 : decode cX5_readHouse 18 = .ok (.iconst 5, 1) := by decide +kernel
theorem dX5_readHouse_19 : decode cX5_readHouse 19 = .ok (.invokevirtual 52, 3) := by decide +kernel
theorem dX5_readHouse_22 : decode cX5_readHouse 22 = .ok (.ifCond .ne 5, 3) := by decide +kernel
theorem dX5_readHouse_25 : decode cX5_readHouse 25 = .ok (.iconst 0, 1) := by decide +kernel
theorem dX5_readHouse_26 : decode cX5_readHouse 26 = .ok (.ireturn, 1) := by decide +kernel
theorem dX5_readHouse_27 : decode cX5_readHouse 27 = .ok (.aload_n 1, 1) := by decide +kernel
theorem dX5_readHouse_28 : decode cX5_readHouse 28 = .ok (.iload_n 2, 1) := by decide +kernel
theorem dX5_readHouse_29 : decode cX5_readHouse 29 = .ok (.aload_n 0, 1) := by decide +kernel
theorem dX5_readHouse_30 : decode cX5_readHouse 30 = .ok (.getfield 56, 3) := by decide +kernel
theorem dX5_readHouse_33 : decode cX5_readHouse 33 = .ok (.invokevirtual 104, 3) := by decide +kernel
theorem dX5_readHouse_36 : decode cX5_readHouse 36 = .ok (.iconst 1, 1) := by decide +kernel
theorem dX5_readHouse_37 : decode cX5_readHouse 37 = .ok (.ireturn, 1) := by decide +kernel
theorem dX5_readString_0 : decode cX5_readString 0 = .ok (.aload_n 0, 1) := by decide +kernel
theorem dX5_readString_1 : decode cX5_readString 1 = .ok (.iconst 0, 1) := by decide +kernel
theorem dX5_readString_2 : decode cX5_readString 2 = .ok (.iconst 5, 1) := by decide +kernel
theorem dX5_readString_3 : decode cX5_readString 3 = .ok (.invokevirtual 52, 3) := by decide +kernel
theorem dX5_readString_6 : decode cX5_readString 6 = .ok (.ifCond .ne 5, 3) := by decide +kernel
theorem dX5_readString_9 : decode cX5_readString 9 = .ok (.iconst 0, 1) := by decide +kernel
theorem dX5_readString_10 : decode cX5_readString 10 = .ok (.ireturn, 1) := by decide +kernel
theorem dX5_readString_11 : decode cX5_readString 11 = .ok (.aload_n 0, 1) := by decide +kernel
theorem dX5_readString_12 : decode cX5_readString 12 = .ok (.getfield 56, 3) := by decide +kernel
theorem dX5_readString_15 : decode cX5_readString 15 = .ok (.istore_n 2, 1) := by decide +kernel
theorem dX5_readString_16 : decode cX5_readString 16 = .ok (.aload_n 0, 1) := by decide +kernel
theorem dX5_readString_17 : decode cX5_readString 17 = .ok (.iconst 1, 1) := by decide +kernel
theorem dX5_readString_18 : decode cX5_readString 18 = .ok (.bipush 60, 2) := by decide +kernel
theorem dX5_readString_20 : decode cX5_readString 20 = .ok (.invokevirtual 52, 3) := by decide +kernel
theorem dX5_readString_23 : decode cX5_readString 23 = .ok (.ifCond .ne 5, 3) := by decide +kernel
theorem dX5_readString_26 : decode cX5_readString 26 = .ok (.iconst 0, 1) := by decide +kernel
theorem dX5_readString_27 : decode cX5_readString 27 = .ok (.ireturn, 1) := by decide +kernel
theorem dX5_readString_28 : decode cX5_readString 28 = .ok (.aload_n 1, 1) := by decide +kernel
theorem dX5_readString_29 : decode cX5_readString 29 = .ok (.getfield 71, 3) := by decide +kernel
theorem dX5_readString_32 : decode cX5_readString 32 = .ok (.iload_n 2, 1) := by decide +kernel
theorem dX5_readString_33 : decode cX5_readString 33 = .ok (.aload_n 0, 1) := by decide +kernel
theorem dX5_readString_34 : decode cX5_readString 34 = .ok (.getfield 56, 3) := by decide +kernel
theorem dX5_readString_37 : decode cX5_readString 37 = .ok (.iconst 0, 1) := by decide +kernel
theorem dX5_readString_38 : decode cX5_readString 38 = .ok (.iconst 0, 1) := by decide +kernel
theorem dX5_readString_39 : decode cX5_readString 39 = .ok (.invokevirtual 107, 3) := by decide +kernel
theorem dX5_readString_42 : decode cX5_readString 42 = .ok (.iconst 1, 1) := by decide +kernel
theorem dX5_readString_43 : decode cX5_readString 43 = .ok (.ireturn, 1) := by decide +kernel
theorem dX5_readPurse_0 : decode cX5_readPurse 0 = .ok (.aload_n 0, 1) := by decide +kernel
theorem dX5_readPurse_1 : decode cX5_readPurse 1 = .ok (.iconst 0, 1) := by decide +kernel
theorem dX5_readPurse_2 : decode cX5_readPurse 2 = .ok (.bipush 99, 2) := by decide +kernel
theorem dX5_readPurse_4 : decode cX5_readPurse 4 = .ok (.invokevirtual 52, 3) := by decide +kernel
theorem dX5_readPurse_7 : decode cX5_readPurse 7 = .ok (.ifCond .ne 5, 3) := by decide +kernel
theorem dX5_readPurse_10 : decode cX5_readPurse 10 = .ok (.iconst 0, 1) := by decide +kernel
theorem dX5_readPurse_11 : decode cX5_readPurse 11 = .ok (.ireturn, 1) := by decide +kernel
theorem dX5_readPurse_12 : decode cX5_readPurse 12 = .ok (.aload_n 1, 1) := by decide +kernel
theorem dX5_readPurse_13 : decode cX5_readPurse 13 = .ok (.bipush 100, 2) := by decide +kernel
theorem dX5_readPurse_15 : decode cX5_readPurse 15 = .ok (.aload_n 0, 1) := by decide +kernel
theorem dX5_readPurse_16 : decode cX5_readPurse 16 = .ok (.getfield 56, 3) := by decide +kernel
theorem dX5_readPurse_19 : decode cX5_readPurse 19 = .ok (.imul, 1) := by decide +kernel
theorem dX5_readPurse_20 : decode cX5_readPurse 20 = .ok (.putfield 111, 3) := by decide +kernel
theorem dX5_readPurse_23 : decode cX5_readPurse 23 = .ok (.iconst 1, 1) := by decide +kernel
theorem dX5_readPurse_24 : decode cX5_readPurse 24 = .ok (.ireturn, 1) := by decide +kernel
theorem dX5_readWait_0 : decode cX5_readWait 0 = .ok (.aload_n 0, 1) := by decide +kernel
theorem dX5_readWait_1 : decode cX5_readWait 1 = .ok (.iconst 1, 1) := by decide +kernel
theorem dX5_readWait_2 : decode cX5_readWait 2 = .ok (.bipush 99, 2) := by decide +kernel
theorem dX5_readWait_4 : decode cX5_readWait 4 = .ok (.invokevirtual 52, 3) := by decide +kernel
theorem dX5_readWait_7 : decode cX5_readWait 7 = .ok (.ifCond .ne 5, 3) := by decide +kernel
theorem dX5_readWait_10 : decode cX5_readWait 10 = .ok (.iconst 0, 1) := by decide +kernel
theorem dX5_readWait_11 : decode cX5_readWait 11 = .ok (.ireturn, 1) := by decide +kernel
theorem dX5_readWait_12 : decode cX5_readWait 12 = .ok (.aload_n 1, 1) := by decide +kernel
theorem dX5_readWait_13 : decode cX5_readWait 13 = .ok (.aload_n 0, 1) := by decide +kernel
theorem dX5_readWait_14 : decode cX5_readWait 14 = .ok (.getfield 56, 3) := by decide +kernel
theorem dX5_readWait_17 : decode cX5_readWait 17 = .ok (.invokevirtual 113, 3) := by decide +kernel
theorem dX5_readWait_20 : decode cX5_readWait 20 = .ok (.iconst 1, 1) := by decide +kernel
theorem dX5_readWait_21 : decode cX5_readWait 21 = .ok (.ireturn, 1) := by decide +kernel
theorem dX5_takeNumber_0 : decode cX5_takeNumber 0 = .ok (.aload_n 0, 1) := by decide +kernel
theorem dX5_takeNumber_1 : decode cX5_takeNumber 1 = .ok (.invokevirtual 33, 3) := by decide +kernel
theorem dX5_takeNumber_4 : decode cX5_takeNumber 4 = .ok (.aload_n 0, 1) := by decide +kernel
theorem dX5_takeNumber_5 : decode cX5_takeNumber 5 = .ok (.getfield 36, 3) := by decide +kernel
theorem dX5_takeNumber_8 : decode cX5_takeNumber 8 = .ok (.iconst 2, 1) := by decide +kernel
theorem dX5_takeNumber_9 : decode cX5_takeNumber 9 = .ok (.if_icmp .ne 19, 3) := by decide +kernel
theorem dX5_takeNumber_12 : decode cX5_takeNumber 12 = .ok (.aload_n 0, 1) := by decide +kernel
theorem dX5_takeNumber_13 : decode cX5_takeNumber 13 = .ok (.getfield 56, 3) := by decide +kernel
theorem dX5_takeNumber_16 : decode cX5_takeNumber 16 = .ok (.iload_n 1, 1) := by decide +kernel
theorem dX5_takeNumber_17 : decode cX5_takeNumber 17 = .ok (.iload_n 2, 1) := by decide +kernel
theorem dX5_takeNumber_18 : decode cX5_takeNumber 18 = .ok (.invokestatic 19, 3) := by decide +kernel
theorem dX5_takeNumber_21 : decode cX5_takeNumber 21 = .ok (.ifCond .eq 7, 3) := by decide +kernel
theorem dX5_takeNumber_24 : decode cX5_takeNumber 24 = .ok (.iconst 1, 1) := by decide +kernel
theorem dX5_takeNumber_25 : decode cX5_takeNumber 25 = .ok (.goto 4, 3) := by decide +kernel
theorem dX5_takeNumber_28 : decode cX5_takeNumber 28 = .ok (.iconst 0, 1) := by decide +kernel
theorem dX5_takeNumber_29 : decode cX5_takeNumber 29 = .ok (.ireturn, 1) := by decide +kernel
theorem dX5_stops_0 : decode cX5_stops 0 = .ok (.aload_n 0, 1) := by decide +kernel
theorem dX5_stops_1 : decode cX5_stops 1 = .ok (.invokevirtual 33, 3) := by decide +kernel
theorem dX5_stops_4 : decode cX5_stops 4 = .ok (.aload_n 0, 1) := by decide +kernel
theorem dX5_stops_5 : decode cX5_stops 5 = .ok (.getfield 36, 3) := by decide +kernel
theorem dX5_stops_8 : decode cX5_stops 8 = .ok (.iconst 3, 1) := by decide +kernel
theorem dX5_stops_9 : decode cX5_stops 9 = .ok (.if_icmp .ne 7, 3) := by decide +kernel
theorem dX5_stops_12 : decode cX5_stops 12 = .ok (.iconst 1, 1) := by decide +kernel
theorem dX5_stops_13 : decode cX5_stops 13 = .ok (.goto 4, 3) := by decide +kernel
theorem dX5_stops_16 : decode cX5_stops 16 = .ok (.iconst 0, 1) := by decide +kernel
theorem dX5_stops_17 : decode cX5_stops 17 = .ok (.ireturn, 1) := by decide +kernel
theorem dX5_isWord_0 : decode cX5_isWord 0 = .ok (.aload_n 0, 1) := by decide +kernel
theorem dX5_isWord_1 : decode cX5_isWord 1 = .ok (.getfield 36, 3) := by decide +kernel
theorem dX5_isWord_4 : decode cX5_isWord 4 = .ok (.iconst 1, 1) := by decide +kernel
theorem dX5_isWord_5 : decode cX5_isWord 5 = .ok (.if_icmp .ne 29, 3) := by decide +kernel
theorem dX5_isWord_8 : decode cX5_isWord 8 = .ok (.aload_n 0, 1) := by decide +kernel
theorem dX5_isWord_9 : decode cX5_isWord 9 = .ok (.getfield 23, 3) := by decide +kernel
theorem dX5_isWord_12 : decode cX5_isWord 12 = .ok (.aload_n 0, 1) := by decide +kernel
theorem dX5_isWord_13 : decode cX5_isWord 13 = .ok (.getfield 30, 3) := by decide +kernel
theorem dX5_isWord_16 : decode cX5_isWord 16 = .ok (.isub, 1) := by decide +kernel
theorem dX5_isWord_17 : decode cX5_isWord 17 = .ok (.aload_n 1, 1) := by decide +kernel
theorem dX5_isWord_18 : decode cX5_isWord 18 = .ok (.invokevirtual 117, 3) := by decide +kernel
theorem dX5_isWord_21 : decode cX5_isWord 21 = .ok (.if_icmp .ne 13, 3) := by decide +kernel
theorem dX5_isWord_24 : decode cX5_isWord 24 = .ok (.aload_n 0, 1) := by decide +kernel
theorem dX5_isWord_25 : decode cX5_isWord 25 = .ok (.getfield 23, 3) := by decide +kernel
theorem dX5_isWord_28 : decode cX5_isWord 28 = .ok (.sipush 150, 3) := by decide +kernel
theorem dX5_isWord_31 : decode cX5_isWord 31 = .ok (.if_icmp .le 5, 3) := by decide +kernel
theorem dX5_isWord_34 : decode cX5_isWord 34 = .ok (.iconst 0, 1) := by decide +kernel
theorem dX5_isWord_35 : decode cX5_isWord 35 = .ok (.ireturn, 1) := by decide +kernel
theorem dX5_isWord_36 : decode cX5_isWord 36 = .ok (.iconst 0, 1) := by decide +kernel
theorem dX5_isWord_37 : decode cX5_isWord 37 = .ok (.istore_n 2, 1) := by decide +kernel
theorem dX5_isWord_38 : decode cX5_isWord 38 = .ok (.iload_n 2, 1) := by decide +kernel
theorem dX5_isWord_39 : decode cX5_isWord 39 = .ok (.aload_n 1, 1) := by decide +kernel
theorem dX5_isWord_40 : decode cX5_isWord 40 = .ok (.invokevirtual 117, 3) := by decide +kernel
theorem dX5_isWord_43 : decode cX5_isWord 43 = .ok (.if_icmp .ge 30, 3) := by decide +kernel
theorem dX5_isWord_46 : decode cX5_isWord 46 = .ok (.aload_n 0, 1) := by decide +kernel
theorem dX5_isWord_47 : decode cX5_isWord 47 = .ok (.getfield 11, 3) := by decide +kernel
theorem dX5_isWord_50 : decode cX5_isWord 50 = .ok (.aload_n 0, 1) := by decide +kernel
theorem dX5_isWord_51 : decode cX5_isWord 51 = .ok (.getfield 30, 3) := by decide +kernel
theorem dX5_isWord_54 : decode cX5_isWord 54 = .ok (.iload_n 2, 1) := by decide +kernel
theorem dX5_isWord_55 : decode cX5_isWord 55 = .ok (.iadd, 1) := by decide +kernel
theorem dX5_isWord_56 : decode cX5_isWord 56 = .ok (.baload, 1) := by decide +kernel
theorem dX5_isWord_57 : decode cX5_isWord 57 = .ok (.aload_n 1, 1) := by decide +kernel
theorem dX5_isWord_58 : decode cX5_isWord 58 = .ok (.iload_n 2, 1) := by decide +kernel
theorem dX5_isWord_59 : decode cX5_isWord 59 = .ok (.invokevirtual 122, 3) := by decide +kernel
theorem dX5_isWord_62 : decode cX5_isWord 62 = .ok (.if_icmp .eq 5, 3) := by decide +kernel
theorem dX5_isWord_65 : decode cX5_isWord 65 = .ok (.iconst 0, 1) := by decide +kernel
theorem dX5_isWord_66 : decode cX5_isWord 66 = .ok (.ireturn, 1) := by decide +kernel
theorem dX5_isWord_67 : decode cX5_isWord 67 = .ok (.iinc 2 1, 3) := by decide +kernel
theorem dX5_isWord_70 : decode cX5_isWord 70 = .ok (.goto (-32), 3) := by decide +kernel
theorem dX5_isWord_73 : decode cX5_isWord 73 = .ok (.iconst 1, 1) := by decide +kernel
theorem dX5_isWord_74 : decode cX5_isWord 74 = .ok (.ireturn, 1) := by decide +kernel
theorem dX5_advance_0 : decode cX5_advance 0 = .ok (.aload_n 0, 1) := by decide +kernel
theorem dX5_advance_1 : decode cX5_advance 1 = .ok (.getfield 23, 3) := by decide +kernel
theorem dX5_advance_4 : decode cX5_advance 4 = .ok (.aload_n 0, 1) := by decide +kernel
theorem dX5_advance_5 : decode cX5_advance 5 = .ok (.getfield 15, 3) := by decide +kernel
theorem dX5_advance_8 : decode cX5_advance 8 = .ok (.if_icmp .ge 28, 3) := by decide +kernel
theorem dX5_advance_11 : decode cX5_advance 11 = .ok (.aload_n 0, 1) := by decide +kernel
theorem dX5_advance_12 : decode cX5_advance 12 = .ok (.aload_n 0, 1) := by decide +kernel
theorem dX5_advance_13 : decode cX5_advance 13 = .ok (.getfield 23, 3) := by decide +kernel
theorem dX5_advance_16 : decode cX5_advance 16 = .ok (.invokevirtual 126, 3) := by decide +kernel
theorem dX5_advance_19 : decode cX5_advance 19 = .ok (.iconst 4, 1) := by decide +kernel
theorem dX5_advance_20 : decode cX5_advance 20 = .ok (.if_icmp .ne 16, 3) := by decide +kernel
theorem dX5_advance_23 : decode cX5_advance 23 = .ok (.aload_n 0, 1) := by decide +kernel
theorem dX5_advance_24 : decode cX5_advance 24 = .ok (.dup, 1) := by decide +kernel
theorem dX5_advance_25 : decode cX5_advance 25 = .ok (.getfield 23, 3) := by decide +kernel
theorem dX5_advance_28 : decode cX5_advance 28 = .ok (.iconst 1, 1) := by decide +kernel
theorem dX5_advance_29 : decode cX5_advance 29 = .ok (.iadd, 1) := by decide +kernel
theorem dX5_advance_30 : decode cX5_advance 30 = .ok (.putfield 23, 3) := by decide +kernel
theorem dX5_advance_33 : decode cX5_advance 33 = .ok (.goto (-33), 3) := by decide +kernel
theorem dX5_advance_36 : decode cX5_advance 36 = .ok (.aload_n 0, 1) := by decide +kernel
theorem dX5_advance_37 : decode cX5_advance 37 = .ok (.aload_n 0, 1) := by decide +kernel
theorem dX5_advance_38 : decode cX5_advance 38 = .ok (.getfield 23, 3) := by decide +kernel
theorem dX5_advance_41 : decode cX5_advance 41 = .ok (.putfield 30, 3) := by decide +kernel
theorem dX5_advance_44 : decode cX5_advance 44 = .ok (.aload_n 0, 1) := by decide +kernel
theorem dX5_advance_45 : decode cX5_advance 45 = .ok (.aload_n 0, 1) := by decide +kernel
theorem dX5_advance_46 : decode cX5_advance 46 = .ok (.aload_n 0, 1) := by decide +kernel
theorem dX5_advance_47 : decode cX5_advance 47 = .ok (.getfield 30, 3) := by decide +kernel
theorem dX5_advance_50 : decode cX5_advance 50 = .ok (.invokevirtual 126, 3) := by decide +kernel
theorem dX5_advance_53 : decode cX5_advance 53 = .ok (.putfield 36, 3) := by decide +kernel
theorem dX5_advance_56 : decode cX5_advance 56 = .ok (.aload_n 0, 1) := by decide +kernel
theorem dX5_advance_57 : decode cX5_advance 57 = .ok (.getfield 36, 3) := by decide +kernel
theorem dX5_advance_60 : decode cX5_advance 60 = .ok (.iconst 1, 1) := by decide +kernel
theorem dX5_advance_61 : decode cX5_advance 61 = .ok (.if_icmp .eq 11, 3) := by decide +kernel
theorem dX5_advance_64 : decode cX5_advance 64 = .ok (.aload_n 0, 1) := by decide +kernel
theorem dX5_advance_65 : decode cX5_advance 65 = .ok (.getfield 36, 3) := by decide +kernel
theorem dX5_advance_68 : decode cX5_advance 68 = .ok (.iconst 2, 1) := by decide +kernel
theorem dX5_advance_69 : decode cX5_advance 69 = .ok (.if_icmp .ne 7, 3) := by decide +kernel
theorem dX5_advance_72 : decode cX5_advance 72 = .ok (.iconst 1, 1) := by decide +kernel
theorem dX5_advance_73 : decode cX5_advance 73 = .ok (.goto 4, 3) := by decide +kernel
theorem dX5_advance_76 : decode cX5_advance 76 = .ok (.iconst 0, 1) := by decide +kernel
theorem dX5_advance_77 : decode cX5_advance 77 = .ok (.istore_n 1, 1) := by decide +kernel
theorem dX5_advance_78 : decode cX5_advance 78 = .ok (.aload_n 0, 1) := by decide +kernel
theorem dX5_advance_79 : decode cX5_advance 79 = .ok (.aload_n 0, 1) := by decide +kernel
theorem dX5_advance_80 : decode cX5_advance 80 = .ok (.getfield 23, 3) := by decide +kernel
theorem dX5_advance_83 : decode cX5_advance 83 = .ok (.iconst 1, 1) := by decide +kernel
theorem dX5_advance_84 : decode cX5_advance 84 = .ok (.iadd, 1) := by decide +kernel
theorem dX5_advance_85 : decode cX5_advance 85 = .ok (.aload_n 0, 1) := by decide +kernel
theorem dX5_advance_86 : decode cX5_advance 86 = .ok (.getfield 15, 3) := by decide +kernel
theorem dX5_advance_89 : decode cX5_advance 89 = .ok (.invokestatic 130, 3) := by decide +kernel
theorem dX5_advance_92 : decode cX5_advance 92 = .ok (.putfield 23, 3) := by decide +kernel
theorem dX5_advance_95 : decode cX5_advance 95 = .ok (.iload_n 1, 1) := by decide +kernel
theorem dX5_advance_96 : decode cX5_advance 96 = .ok (.ifCond .eq 42, 3) := by decide +kernel
theorem dX5_advance_99 : decode cX5_advance 99 = .ok (.aload_n 0, 1) := by decide +kernel
theorem dX5_advance_100 : decode cX5_advance 100 = .ok (.getfield 23, 3) := by decide +kernel
theorem dX5_advance_103 : decode cX5_advance 103 = .ok (.aload_n 0, 1) := by decide +kernel
theorem dX5_advance_104 : decode cX5_advance 104 = .ok (.getfield 15, 3) := by decide +kernel
theorem dX5_advance_107 : decode cX5_advance 107 = .ok (.if_icmp .ge 31, 3) := by decide +kernel
theorem dX5_advance_110 : decode cX5_advance 110 = .ok (.aload_n 0, 1) := by decide +kernel
theorem dX5_advance_111 : decode cX5_advance 111 = .ok (.aload_n 0, 1) := by decide +kernel
theorem dX5_advance_112 : decode cX5_advance 112 = .ok (.getfield 23, 3) := by decide +kernel
theorem dX5_advance_115 : decode cX5_advance 115 = .ok (.invokevirtual 126, 3) := by decide +kernel
theorem dX5_advance_118 : decode cX5_advance 118 = .ok (.aload_n 0, 1) := by decide +kernel
theorem dX5_advance_119 : decode cX5_advance 119 = .ok (.getfield 36, 3) := by decide +kernel
theorem dX5_advance_122 : decode cX5_advance 122 = .ok (.if_icmp .ne 16, 3) := by decide +kernel
theorem dX5_advance_125 : decode cX5_advance 125 = .ok (.aload_n 0, 1) := by decide +kernel
theorem dX5_advance_126 : decode cX5_advance 126 = .ok (.dup, 1) := by decide +kernel
theorem dX5_advance_127 : decode cX5_advance 127 = .ok (.getfield 23, 3) := by decide +kernel
theorem dX5_advance_130 : decode cX5_advance 130 = .ok (.iconst 1, 1) := by decide +kernel
theorem dX5_advance_131 : decode cX5_advance 131 = .ok (.iadd, 1) := by decide +kernel
theorem dX5_advance_132 : decode cX5_advance 132 = .ok (.putfield 23, 3) := by decide +kernel
theorem dX5_advance_135 : decode cX5_advance 135 = .ok (.goto (-40), 3) := by decide +kernel
theorem dX5_advance_138 : decode cX5_advance 138 = .ok (.aload_n 0, 1) := by decide +kernel
theorem dX5_advance_139 : decode cX5_advance 139 = .ok (.getfield 36, 3) := by decide +kernel
theorem dX5_advance_142 : decode cX5_advance 142 = .ok (.iconst 2, 1) := by decide +kernel
theorem dX5_advance_143 : decode cX5_advance 143 = .ok (.if_icmp .ne 7, 3) := by decide +kernel
theorem dX5_advance_146 : decode cX5_advance 146 = .ok (.aload_n 0, 1) := by decide +kernel
theorem dX5_advance_147 : decode cX5_advance 147 = .ok (.invokevirtual 136, 3) := by decide +kernel
theorem dX5_advance_150 : decode cX5_advance 150 = .ok (.return_, 1) := by decide +kernel
theorem dX5_takeFigures_0 : decode cX5_takeFigures 0 = .ok (.aload_n 0, 1) := by decide +kernel
theorem dX5_takeFigures_1 : decode cX5_takeFigures 1 = .ok (.iconst 0, 1) := by decide +kernel
theorem dX5_takeFigures_2 : decode cX5_takeFigures 2 = .ok (.putfield 56, 3) := by decide +kernel
theorem dX5_takeFigures_5 : decode cX5_takeFigures 5 = .ok (.aload_n 0, 1) := by decide +kernel
theorem dX5_takeFigures_6 : decode cX5_takeFigures 6 = .ok (.getfield 23, 3) := by decide +kernel
theorem dX5_takeFigures_9 : decode cX5_takeFigures 9 = .ok (.aload_n 0, 1) := by decide +kernel
theorem dX5_takeFigures_10 : decode cX5_takeFigures 10 = .ok (.getfield 30, 3) := by decide +kernel
theorem dX5_takeFigures_13 : decode cX5_takeFigures 13 = .ok (.isub, 1) := by decide +kernel
theorem dX5_takeFigures_14 : decode cX5_takeFigures 14 = .ok (.iconst 2, 1) := by decide +kernel
theorem dX5_takeFigures_15 : decode cX5_takeFigures 15 = .ok (.if_icmp .le 9, 3) := by decide +kernel
theorem dX5_takeFigures_18 : decode cX5_takeFigures 18 = .ok (.aload_n 0, 1) := by decide +kernel
theorem dX5_takeFigures_19 : decode cX5_takeFigures 19 = .ok (.iconst 5, 1) := by decide +kernel
theorem dX5_takeFigures_20 : decode cX5_takeFigures 20 = .ok (.putfield 36, 3) := by decide +kernel
theorem dX5_takeFigures_23 : decode cX5_takeFigures 23 = .ok (.return_, 1) := by decide +kernel
theorem dX5_takeFigures_24 : decode cX5_takeFigures 24 = .ok (.aload_n 0, 1) := by decide +kernel
theorem dX5_takeFigures_25 : decode cX5_takeFigures 25 = .ok (.getfield 30, 3) := by decide +kernel
theorem dX5_takeFigures_28 : decode cX5_takeFigures 28 = .ok (.istore_n 1, 1) := by decide +kernel
theorem dX5_takeFigures_29 : decode cX5_takeFigures 29 = .ok (.iload_n 1, 1) := by decide +kernel
theorem dX5_takeFigures_30 : decode cX5_takeFigures 30 = .ok (.aload_n 0, 1) := by decide +kernel
theorem dX5_takeFigures_31 : decode cX5_takeFigures 31 = .ok (.getfield 23, 3) := by decide +kernel
theorem dX5_takeFigures_34 : decode cX5_takeFigures 34 = .ok (.if_icmp .ge 37, 3) := by decide +kernel
theorem dX5_takeFigures_37 : decode cX5_takeFigures 37 = .ok (.iload_n 1, 1) := by decide +kernel
theorem dX5_takeFigures_38 : decode cX5_takeFigures 38 = .ok (.sipush 150, 3) := by decide +kernel
theorem dX5_takeFigures_41 : decode cX5_takeFigures 41 = .ok (.if_icmp .ge 30, 3) := by decide +kernel
theorem dX5_takeFigures_44 : decode cX5_takeFigures 44 = .ok (.aload_n 0, 1) := by decide +kernel
theorem dX5_takeFigures_45 : decode cX5_takeFigures 45 = .ok (.bipush 10, 2) := by decide +kernel
theorem dX5_takeFigures_47 : decode cX5_takeFigures 47 = .ok (.aload_n 0, 1) := by decide +kernel
theorem dX5_takeFigures_48 : decode cX5_takeFigures 48 = .ok (.getfield 56, 3) := by decide +kernel
theorem dX5_takeFigures_51 : decode cX5_takeFigures 51 = .ok (.imul, 1) := by decide +kernel
theorem dX5_takeFigures_52 : decode cX5_takeFigures 52 = .ok (.aload_n 0, 1) := by decide +kernel
theorem dX5_takeFigures_53 : decode cX5_takeFigures 53 = .ok (.getfield 11, 3) := by decide +kernel
theorem dX5_takeFigures_56 : decode cX5_takeFigures 56 = .ok (.iload_n 1, 1) := by decide +kernel
theorem dX5_takeFigures_57 : decode cX5_takeFigures 57 = .ok (.baload, 1) := by decide +kernel
theorem dX5_takeFigures_58 : decode cX5_takeFigures 58 = .ok (.iadd, 1) := by decide +kernel
theorem dX5_takeFigures_59 : decode cX5_takeFigures 59 = .ok (.bipush 48, 2) := by decide +kernel
theorem dX5_takeFigures_61 : decode cX5_takeFigures 61 = .ok (.isub, 1) := by decide +kernel
theorem dX5_takeFigures_62 : decode cX5_takeFigures 62 = .ok (.putfield 56, 3) := by decide +kernel
theorem dX5_takeFigures_65 : decode cX5_takeFigures 65 = .ok (.iinc 1 1, 3) := by decide +kernel
theorem dX5_takeFigures_68 : decode cX5_takeFigures 68 = .ok (.goto (-39), 3) := by decide +kernel
theorem dX5_takeFigures_71 : decode cX5_takeFigures 71 = .ok (.return_, 1) := by decide +kernel
theorem dX5_tokenAt_0 : decode cX5_tokenAt 0 = .ok (.iload_n 1, 1) := by decide +kernel
theorem dX5_tokenAt_1 : decode cX5_tokenAt 1 = .ok (.ifCond .lt 18, 3) := by decide +kernel
theorem dX5_tokenAt_4 : decode cX5_tokenAt 4 = .ok (.iload_n 1, 1) := by decide +kernel
theorem dX5_tokenAt_5 : decode cX5_tokenAt 5 = .ok (.aload_n 0, 1) := by decide +kernel
theorem dX5_tokenAt_6 : decode cX5_tokenAt 6 = .ok (.getfield 15, 3) := by decide +kernel
theorem dX5_tokenAt_9 : decode cX5_tokenAt 9 = .ok (.if_icmp .ge 10, 3) := by decide +kernel
theorem dX5_tokenAt_12 : decode cX5_tokenAt 12 = .ok (.iload_n 1, 1) := by decide +kernel
theorem dX5_tokenAt_13 : decode cX5_tokenAt 13 = .ok (.sipush 150, 3) := by decide +kernel
theorem dX5_tokenAt_16 : decode cX5_tokenAt 16 = .ok (.if_icmp .lt 5, 3) := by decide +kernel
theorem dX5_tokenAt_19 : decode cX5_tokenAt 19 = .ok (.iconst 0, 1) := by decide +kernel
theorem dX5_tokenAt_20 : decode cX5_tokenAt 20 = .ok (.ireturn, 1) := by decide +kernel
theorem dX5_tokenAt_21 : decode cX5_tokenAt 21 = .ok (.aload_n 0, 1) := by decide +kernel
theorem dX5_tokenAt_22 : decode cX5_tokenAt 22 = .ok (.getfield 11, 3) := by decide +kernel
theorem dX5_tokenAt_25 : decode cX5_tokenAt 25 = .ok (.iload_n 1, 1) := by decide +kernel
theorem dX5_tokenAt_26 : decode cX5_tokenAt 26 = .ok (.baload, 1) := by decide +kernel
theorem dX5_tokenAt_27 : decode cX5_tokenAt 27 = .ok (.istore_n 2, 1) := by decide +kernel
theorem dX5_tokenAt_28 : decode cX5_tokenAt 28 = .ok (.iload_n 2, 1) := by decide +kernel
theorem dX5_tokenAt_29 : decode cX5_tokenAt 29 = .ok (.bipush 97, 2) := by decide +kernel
theorem dX5_tokenAt_31 : decode cX5_tokenAt 31 = .ok (.if_icmp .lt 11, 3) := by decide +kernel
theorem dX5_tokenAt_34 : decode cX5_tokenAt 34 = .ok (.iload_n 2, 1) := by decide +kernel
theorem dX5_tokenAt_35 : decode cX5_tokenAt 35 = .ok (.bipush 122, 2) := by decide +kernel
theorem dX5_tokenAt_37 : decode cX5_tokenAt 37 = .ok (.if_icmp .gt 5, 3) := by decide +kernel
theorem dX5_tokenAt_40 : decode cX5_tokenAt 40 = .ok (.iconst 1, 1) := by decide +kernel
theorem dX5_tokenAt_41 : decode cX5_tokenAt 41 = .ok (.ireturn, 1) := by decide +kernel
theorem dX5_tokenAt_42 : decode cX5_tokenAt 42 = .ok (.iload_n 2, 1) := by decide +kernel
theorem dX5_tokenAt_43 : decode cX5_tokenAt 43 = .ok (.bipush 48, 2) := by decide +kernel
theorem dX5_tokenAt_45 : decode cX5_tokenAt 45 = .ok (.if_icmp .lt 11, 3) := by decide +kernel
theorem dX5_tokenAt_48 : decode cX5_tokenAt 48 = .ok (.iload_n 2, 1) := by decide +kernel
theorem dX5_tokenAt_49 : decode cX5_tokenAt 49 = .ok (.bipush 57, 2) := by decide +kernel
theorem dX5_tokenAt_51 : decode cX5_tokenAt 51 = .ok (.if_icmp .gt 5, 3) := by decide +kernel
theorem dX5_tokenAt_54 : decode cX5_tokenAt 54 = .ok (.iconst 2, 1) := by decide +kernel
theorem dX5_tokenAt_55 : decode cX5_tokenAt 55 = .ok (.ireturn, 1) := by decide +kernel
theorem dX5_tokenAt_56 : decode cX5_tokenAt 56 = .ok (.iload_n 2, 1) := by decide +kernel
theorem dX5_tokenAt_57 : decode cX5_tokenAt 57 = .ok (.bipush 59, 2) := by decide +kernel
theorem dX5_tokenAt_59 : decode cX5_tokenAt 59 = .ok (.if_icmp .ne 7, 3) := by decide +kernel
theorem dX5_tokenAt_62 : decode cX5_tokenAt 62 = .ok (.iconst 3, 1) := by decide +kernel
theorem dX5_tokenAt_63 : decode cX5_tokenAt 63 = .ok (.goto 14, 3) := by decide +kernel
theorem dX5_tokenAt_66 : decode cX5_tokenAt 66 = .ok (.iload_n 2, 1) := by decide +kernel
theorem dX5_tokenAt_67 : decode cX5_tokenAt 67 = .ok (.bipush 32, 2) := by decide +kernel
theorem dX5_tokenAt_69 : decode cX5_tokenAt 69 = .ok (.if_icmp .ne 7, 3) := by decide +kernel
theorem dX5_tokenAt_72 : decode cX5_tokenAt 72 = .ok (.iconst 4, 1) := by decide +kernel
theorem dX5_tokenAt_73 : decode cX5_tokenAt 73 = .ok (.goto 4, 3) := by decide +kernel
theorem dX5_tokenAt_76 : decode cX5_tokenAt 76 = .ok (.iconst 5, 1) := by decide +kernel
theorem dX5_tokenAt_77 : decode cX5_tokenAt 77 = .ok (.ireturn, 1) := by decide +kernel
theorem dX6_init_0 : decode cX6_init 0 = .ok (.aload_n 0, 1) := by decide +kernel
theorem dX6_init_1 : decode cX6_init 1 = .ok (.invokespecial 3, 3) := by decide +kernel
theorem dX6_init_4 : decode cX6_init 4 = .ok (.aload_n 0, 1) := by decide +kernel
theorem dX6_init_5 : decode cX6_init 5 = .ok (.bipush 36, 2) := by decide +kernel
theorem dX6_init_7 : decode cX6_init 7 = .ok (.newarray .int, 2) := by decide +kernel
theorem dX6_init_9 : decode cX6_init 9 = .ok (.putfield 11, 3) := by decide +kernel
theorem dX6_init_12 : decode cX6_init 12 = .ok (.aload_n 0, 1) := by decide +kernel
theorem dX6_init_13 : decode cX6_init 13 = .ok (.bipush 36, 2) := by decide +kernel
theorem dX6_init_15 : decode cX6_init 15 = .ok (.newarray .int, 2) := by decide +kernel
theorem dX6_init_17 : decode cX6_init 17 = .ok (.putfield 17, 3) := by decide +kernel
theorem dX6_init_20 : decode cX6_init 20 = .ok (.return_, 1) := by decide +kernel
theorem dX6_reckon_0 : decode cX6_reckon 0 = .ok (.iconst 0, 1) := by decide +kernel
theorem dX6_reckon_1 : decode cX6_reckon 1 = .ok (.istore_n 2, 1) := by decide +kernel
theorem dX6_reckon_2 : decode cX6_reckon 2 = .ok (.iload_n 2, 1) := by decide +kernel
theorem dX6_reckon_3 : decode cX6_reckon 3 = .ok (.bipush 6, 2) := by decide +kernel
theorem dX6_reckon_5 : decode cX6_reckon 5 = .ok (.if_icmp .ge 30, 3) := by decide +kernel
theorem dX6_reckon_8 : decode cX6_reckon 8 = .ok (.iconst 0, 1) := by decide +kernel
theorem dX6_reckon_9 : decode cX6_reckon 9 = .ok (.istore_n 3, 1) := by decide +kernel
theorem dX6_reckon_10 : decode cX6_reckon 10 = .ok (.iload_n 3, 1) := by decide +kernel
theorem dX6_reckon_11 : decode cX6_reckon 11 = .ok (.bipush 6, 2) := by decide +kernel
theorem dX6_reckon_13 : decode cX6_reckon 13 = .ok (.if_icmp .ge 16, 3) := by decide +kernel
theorem dX6_reckon_16 : decode cX6_reckon 16 = .ok (.aload_n 0, 1) := by decide +kernel
theorem dX6_reckon_17 : decode cX6_reckon 17 = .ok (.aload_n 1, 1) := by decide +kernel
theorem dX6_reckon_18 : decode cX6_reckon 18 = .ok (.iload_n 2, 1) := by decide +kernel
theorem dX6_reckon_19 : decode cX6_reckon 19 = .ok (.iload_n 3, 1) := by decide +kernel
theorem dX6_reckon_20 : decode cX6_reckon 20 = .ok (.invokevirtual 20, 3) := by decide +kernel
theorem dX6_reckon_23 : decode cX6_reckon 23 = .ok (.iinc 3 1, 3) := by decide +kernel
theorem dX6_reckon_26 : decode cX6_reckon 26 = .ok (.goto (-16), 3) := by decide +kernel
theorem dX6_reckon_29 : decode cX6_reckon 29 = .ok (.iinc 2 1, 3) := by decide +kernel
theorem dX6_reckon_32 : decode cX6_reckon 32 = .ok (.goto (-30), 3) := by decide +kernel
theorem dX6_reckon_35 : decode cX6_reckon 35 = .ok (.return_, 1) := by decide +kernel
theorem dX6_pairs_0 : decode cX6_pairs 0 = .ok (.iconst 0, 1) := by decide +kernel
theorem dX6_pairs_1 : decode cX6_pairs 1 = .ok (.istore_n 1, 1) := by decide +kernel
theorem dX6_pairs_2 : decode cX6_pairs 2 = .ok (.iconst 0, 1) := by decide +kernel
theorem dX6_pairs_3 : decode cX6_pairs 3 = .ok (.istore_n 2, 1) := by decide +kernel
theorem dX6_pairs_4 : decode cX6_pairs 4 = .ok (.iload_n 2, 1) := by decide +kernel
theorem dX6_pairs_5 : decode cX6_pairs 5 = .ok (.bipush 6, 2) := by decide +kernel
theorem dX6_pairs_7 : decode cX6_pairs 7 = .ok (.if_icmp .ge 35, 3) := by decide +kernel
theorem dX6_pairs_10 : decode cX6_pairs 10 = .ok (.iconst 0, 1) := by decide +kernel
theorem dX6_pairs_11 : decode cX6_pairs 11 = .ok (.istore_n 3, 1) := by decide +kernel
theorem dX6_pairs_12 : decode cX6_pairs 12 = .ok (.iload_n 3, 1) := by decide +kernel
theorem dX6_pairs_13 : decode cX6_pairs 13 = .ok (.bipush 6, 2) := by decide +kernel
theorem dX6_pairs_15 : decode cX6_pairs 15 = .ok (.if_icmp .ge 21, 3) := by decide +kernel
theorem dX6_pairs_18 : decode cX6_pairs 18 = .ok (.aload_n 0, 1) := by decide +kernel
theorem dX6_pairs_19 : decode cX6_pairs 19 = .ok (.iload_n 2, 1) := by decide +kernel
theorem dX6_pairs_20 : decode cX6_pairs 20 = .ok (.iload_n 3, 1) := by decide +kernel
theorem dX6_pairs_21 : decode cX6_pairs 21 = .ok (.invokevirtual 24, 3) := by decide +kernel
theorem dX6_pairs_24 : decode cX6_pairs 24 = .ok (.ifCond .eq 6, 3) := by decide +kernel
theorem dX6_pairs_27 : decode cX6_pairs 27 = .ok (.iinc 1 1, 3) := by decide +kernel
theorem dX6_pairs_30 : decode cX6_pairs 30 = .ok (.iinc 3 1, 3) := by decide +kernel
theorem dX6_pairs_33 : decode cX6_pairs 33 = .ok (.goto (-21), 3) := by decide +kernel
theorem dX6_pairs_36 : decode cX6_pairs 36 = .ok (.iinc 2 1, 3) := by decide +kernel
theorem dX6_pairs_39 : decode cX6_pairs 39 = .ok (.goto (-35), 3) := by decide +kernel
theorem dX6_pairs_42 : decode cX6_pairs 42 = .ok (.iload_n 1, 1) := by decide +kernel
theorem dX6_pairs_43 : decode cX6_pairs 43 = .ok (.ireturn, 1) := by decide +kernel
theorem dX6_pair_0 : decode cX6_pair 0 = .ok (.iconst 0, 1) := by decide +kernel
theorem dX6_pair_1 : decode cX6_pair 1 = .ok (.istore_n 2, 1) := by decide +kernel
theorem dX6_pair_2 : decode cX6_pair 2 = .ok (.iconst 0, 1) := by decide +kernel
theorem dX6_pair_3 : decode cX6_pair 3 = .ok (.istore_n 3, 1) := by decide +kernel
theorem dX6_pair_4 : decode cX6_pair 4 = .ok (.iload_n 3, 1) := by decide +kernel
theorem dX6_pair_5 : decode cX6_pair 5 = .ok (.bipush 6, 2) := by decide +kernel
theorem dX6_pair_7 : decode cX6_pair 7 = .ok (.if_icmp .ge 51, 3) := by decide +kernel
theorem dX6_pair_10 : decode cX6_pair 10 = .ok (.iconst 0, 1) := by decide +kernel
theorem dX6_pair_11 : decode cX6_pair 11 = .ok (.istore 4, 2) := by decide +kernel
theorem dX6_pair_13 : decode cX6_pair 13 = .ok (.iload 4, 2) := by decide +kernel
theorem dX6_pair_15 : decode cX6_pair 15 = .ok (.bipush 6, 2) := by decide +kernel
theorem dX6_pair_17 : decode cX6_pair 17 = .ok (.if_icmp .ge 35, 3) := by decide +kernel
theorem dX6_pair_20 : decode cX6_pair 20 = .ok (.aload_n 0, 1) := by decide +kernel
theorem dX6_pair_21 : decode cX6_pair 21 = .ok (.iload_n 3, 1) := by decide +kernel
theorem dX6_pair_22 : decode cX6_pair 22 = .ok (.iload 4, 2) := by decide +kernel
theorem dX6_pair_24 : decode cX6_pair 24 = .ok (.invokevirtual 24, 3) := by decide +kernel
theorem dX6_pair_27 : decode cX6_pair 27 = .ok (.ifCond .eq 19, 3) := by decide +kernel
theorem dX6_pair_30 : decode cX6_pair 30 = .ok (.iload_n 2, 1) := by decide +kernel
theorem dX6_pair_31 : decode cX6_pair 31 = .ok (.iload_n 1, 1) := by decide +kernel
theorem dX6_pair_32 : decode cX6_pair 32 = .ok (.if_icmp .ne 11, 3) := by decide +kernel
theorem dX6_pair_35 : decode cX6_pair 35 = .ok (.bipush 10, 2) := by decide +kernel
theorem dX6_pair_37 : decode cX6_pair 37 = .ok (.iload_n 3, 1) := by decide +kernel
theorem dX6_pair_38 : decode cX6_pair 38 = .ok (.imul, 1) := by decide +kernel
theorem dX6_pair_39 : decode cX6_pair 39 = .ok (.iload 4, 2) := by decide +kernel
theorem dX6_pair_41 : decode cX6_pair 41 = .ok (.iadd, 1) := by decide +kernel
theorem dX6_pair_42 : decode cX6_pair 42 = .ok (.ireturn, 1) := by decide +kernel
theorem dX6_pair_43 : decode cX6_pair 43 = .ok (.iinc 2 1, 3) := by decide +kernel
theorem dX6_pair_46 : decode cX6_pair 46 = .ok (.iinc 4 1, 3) := by decide +kernel
theorem dX6_pair_49 : decode cX6_pair 49 = .ok (.goto (-36), 3) := by decide +kernel
theorem dX6_pair_52 : decode cX6_pair 52 = .ok (.iinc 3 1, 3) := by decide +kernel
theorem dX6_pair_55 : decode cX6_pair 55 = .ok (.goto (-51), 3) := by decide +kernel
theorem dX6_pair_58 : decode cX6_pair 58 = .ok (.iconst (-1), 1) := by decide +kernel
theorem dX6_pair_59 : decode cX6_pair 59 = .ok (.ireturn, 1) := by decide +kernel
theorem dX6_reckonPair_0 : decode cX6_reckonPair 0 = .ok (.aload_n 1, 1) := by decide +kernel
theorem dX6_reckonPair_1 : decode cX6_reckonPair 1 = .ok (.getfield 28, 3) := by decide +kernel
theorem dX6_reckonPair_4 : decode cX6_reckonPair 4 = .ok (.bipush 24, 2) := by decide +kernel
theorem dX6_reckonPair_6 : decode cX6_reckonPair 6 = .ok (.idiv, 1) := by decide +kernel
theorem dX6_reckonPair_7 : decode cX6_reckonPair 7 = .ok (.istore 4, 2) := by decide +kernel
theorem dX6_reckonPair_9 : decode cX6_reckonPair 9 = .ok (.iconst 0, 1) := by decide +kernel
theorem dX6_reckonPair_10 : decode cX6_reckonPair 10 = .ok (.istore 5, 2) := by decide +kernel
theorem dX6_reckonPair_12 : decode cX6_reckonPair 12 = .ok (.iconst 0, 1) := by decide +kernel
theorem dX6_reckonPair_13 : decode cX6_reckonPair 13 = .ok (.istore 6, 2) := by decide +kernel
theorem dX6_reckonPair_15 : decode cX6_reckonPair 15 = .ok (.iconst 0, 1) := by decide +kernel
theorem dX6_reckonPair_16 : decode cX6_reckonPair 16 = .ok (.istore 7, 2) := by decide +kernel
theorem dX6_reckonPair_18 : decode cX6_reckonPair 18 = .ok (.iload 7, 2) := by decide +kernel
theorem dX6_reckonPair_20 : decode cX6_reckonPair 20 = .ok (.aload_n 1, 1) := by decide +kernel
theorem dX6_reckonPair_21 : decode cX6_reckonPair 21 = .ok (.getfield 34, 3) := by decide +kernel
theorem dX6_reckonPair_24 : decode cX6_reckonPair 24 = .ok (.getfield 38, 3) := by decide +kernel
theorem dX6_reckonPair_27 : decode cX6_reckonPair 27 = .ok (.if_icmp .ge 68, 3) := by decide +kernel
theorem dX6_reckonPair_30 : decode cX6_reckonPair 30 = .ok (.aload_n 1, 1) := by decide +kernel
theorem dX6_reckonPair_31 : decode cX6_reckonPair 31 = .ok (.iload 7, 2) := by decide +kernel
theorem dX6_reckonPair_33 : decode cX6_reckonPair 33 = .ok (.iconst 0, 1) := by decide +kernel
theorem dX6_reckonPair_34 : decode cX6_reckonPair 34 = .ok (.invokevirtual 43, 3) := by decide +kernel
theorem dX6_reckonPair_37 : decode cX6_reckonPair 37 = .ok (.istore 8, 2) := by decide +kernel
theorem dX6_reckonPair_39 : decode cX6_reckonPair 39 = .ok (.iload_n 2, 1) := by decide +kernel
theorem dX6_reckonPair_40 : decode cX6_reckonPair 40 = .ok (.iload 8, 2) := by decide +kernel
theorem dX6_reckonPair_42 : decode cX6_reckonPair 42 = .ok (.iload 4, 2) := by decide +kernel
theorem dX6_reckonPair_44 : decode cX6_reckonPair 44 = .ok (.invokestatic 47, 3) := by decide +kernel
theorem dX6_reckonPair_47 : decode cX6_reckonPair 47 = .ok (.istore 9, 2) := by decide +kernel
theorem dX6_reckonPair_49 : decode cX6_reckonPair 49 = .ok (.iload_n 3, 1) := by decide +kernel
theorem dX6_reckonPair_50 : decode cX6_reckonPair 50 = .ok (.iload 8, 2) := by decide +kernel
theorem dX6_reckonPair_52 : decode cX6_reckonPair 52 = .ok (.iload 4, 2) := by decide +kernel
theorem dX6_reckonPair_54 : decode cX6_reckonPair 54 = .ok (.invokestatic 47, 3) := by decide +kernel
theorem dX6_reckonPair_57 : decode cX6_reckonPair 57 = .ok (.istore 10, 2) := by decide +kernel
theorem dX6_reckonPair_59 : decode cX6_reckonPair 59 = .ok (.iload 9, 2) := by decide +kernel
theorem dX6_reckonPair_61 : decode cX6_reckonPair 61 = .ok (.iload 10, 2) := by decide +kernel
theorem dX6_reckonPair_63 : decode cX6_reckonPair 63 = .ok (.iadd, 1) := by decide +kernel
theorem dX6_reckonPair_64 : decode cX6_reckonPair 64 = .ok (.iconst 2, 1) := by decide +kernel
theorem dX6_reckonPair_65 : decode cX6_reckonPair 65 = .ok (.aload_n 1, 1) := by decide +kernel
theorem dX6_reckonPair_66 : decode cX6_reckonPair 66 = .ok (.iload 7, 2) := by decide +kernel
theorem dX6_reckonPair_68 : decode cX6_reckonPair 68 = .ok (.invokevirtual 51, 3) := by decide +kernel
theorem dX6_reckonPair_71 : decode cX6_reckonPair 71 = .ok (.imul, 1) := by decide +kernel
theorem dX6_reckonPair_72 : decode cX6_reckonPair 72 = .ok (.if_icmp .gt 17, 3) := by decide +kernel
theorem dX6_reckonPair_75 : decode cX6_reckonPair 75 = .ok (.iload 5, 2) := by decide +kernel
theorem dX6_reckonPair_77 : decode cX6_reckonPair 77 = .ok (.iload 9, 2) := by decide +kernel
theorem dX6_reckonPair_79 : decode cX6_reckonPair 79 = .ok (.iadd, 1) := by decide +kernel
theorem dX6_reckonPair_80 : decode cX6_reckonPair 80 = .ok (.istore 5, 2) := by decide +kernel
theorem dX6_reckonPair_82 : decode cX6_reckonPair 82 = .ok (.iload 6, 2) := by decide +kernel
theorem dX6_reckonPair_84 : decode cX6_reckonPair 84 = .ok (.iload 10, 2) := by decide +kernel
theorem dX6_reckonPair_86 : decode cX6_reckonPair 86 = .ok (.iadd, 1) := by decide +kernel
theorem dX6_reckonPair_87 : decode cX6_reckonPair 87 = .ok (.istore 6, 2) := by decide +kernel
theorem dX6_reckonPair_89 : decode cX6_reckonPair 89 = .ok (.iinc 7 1, 3) := by decide +kernel
theorem dX6_reckonPair_92 : decode cX6_reckonPair 92 = .ok (.goto (-74), 3) := by decide +kernel
theorem dX6_reckonPair_95 : decode cX6_reckonPair 95 = .ok (.iload_n 2, 1) := by decide +kernel
theorem dX6_reckonPair_96 : decode cX6_reckonPair 96 = .ok (.invokestatic 55, 3) := by decide +kernel
theorem dX6_reckonPair_99 : decode cX6_reckonPair 99 = .ok (.ifCond .eq 36, 3) := by decide +kernel
theorem dX6_reckonPair_102 : decode cX6_reckonPair 102 = .ok (.iload_n 3, 1) := by decide +kernel
theorem dX6_reckonPair_103 : decode cX6_reckonPair 103 = .ok (.invokestatic 55, 3) := by decide +kernel
theorem dX6_reckonPair_106 : decode cX6_reckonPair 106 = .ok (.ifCond .eq 29, 3) := by decide +kernel
theorem dX6_reckonPair_109 : decode cX6_reckonPair 109 = .ok (.aload_n 0, 1) := by decide +kernel
theorem dX6_reckonPair_110 : decode cX6_reckonPair 110 = .ok (.getfield 11, 3) := by decide +kernel
theorem dX6_reckonPair_113 : decode cX6_reckonPair 113 = .ok (.iload_n 2, 1) := by decide +kernel
theorem dX6_reckonPair_114 : decode cX6_reckonPair 114 = .ok (.bipush 6, 2) := by decide +kernel
theorem dX6_reckonPair_116 : decode cX6_reckonPair 116 = .ok (.imul, 1) := by decide +kernel
theorem dX6_reckonPair_117 : decode cX6_reckonPair 117 = .ok (.iload_n 3, 1) := by decide +kernel
theorem dX6_reckonPair_118 : decode cX6_reckonPair 118 = .ok (.iadd, 1) := by decide +kernel
theorem dX6_reckonPair_119 : decode cX6_reckonPair 119 = .ok (.iload 5, 2) := by decide +kernel
theorem dX6_reckonPair_121 : decode cX6_reckonPair 121 = .ok (.iastore, 1) := by decide +kernel
theorem dX6_reckonPair_122 : decode cX6_reckonPair 122 = .ok (.aload_n 0, 1) := by decide +kernel
theorem dX6_reckonPair_123 : decode cX6_reckonPair 123 = .ok (.getfield 17, 3) := by decide +kernel
theorem dX6_reckonPair_126 : decode cX6_reckonPair 126 = .ok (.iload_n 2, 1) := by decide +kernel
theorem dX6_reckonPair_127 : decode cX6_reckonPair 127 = .ok (.bipush 6, 2) := by decide +kernel
theorem dX6_reckonPair_129 : decode cX6_reckonPair 129 = .ok (.imul, 1) := by decide +kernel
theorem dX6_reckonPair_130 : decode cX6_reckonPair 130 = .ok (.iload_n 3, 1) := by decide +kernel
theorem dX6_reckonPair_131 : decode cX6_reckonPair 131 = .ok (.iadd, 1) := by decide +kernel
theorem dX6_reckonPair_132 : decode cX6_reckonPair 132 = .ok (.iload 6, 2) := by decide +kernel
theorem dX6_reckonPair_134 : decode cX6_reckonPair 134 = .ok (.iastore, 1) := by decide +kernel
theorem dX6_reckonPair_135 : decode cX6_reckonPair 135 = .ok (.return_, 1) := by decide +kernel
theorem dX6_rests_0 : decode cX6_rests 0 = .ok (.iload_n 1, 1) := by decide +kernel
theorem dX6_rests_1 : decode cX6_rests 1 = .ok (.invokestatic 55, 3) := by decide +kernel
theorem dX6_rests_4 : decode cX6_rests 4 = .ok (.ifCond .eq 10, 3) := by decide +kernel
theorem dX6_rests_7 : decode cX6_rests 7 = .ok (.iload_n 2, 1) := by decide +kernel
theorem dX6_rests_8 : decode cX6_rests 8 = .ok (.invokestatic 55, 3) := by decide +kernel
theorem dX6_rests_11 : decode cX6_rests 11 = .ok (.ifCond .ne 5, 3) := by decide +kernel
theorem dX6_rests_14 : decode cX6_rests 14 = .ok (.iconst 0, 1) := by decide +kernel
theorem dX6_rests_15 : decode cX6_rests 15 = .ok (.ireturn, 1) := by decide +kernel
theorem dX6_rests_16 : decode cX6_rests 16 = .ok (.iload_n 1, 1) := by decide +kernel
theorem dX6_rests_17 : decode cX6_rests 17 = .ok (.bipush 6, 2) := by decide +kernel
theorem dX6_rests_19 : decode cX6_rests 19 = .ok (.imul, 1) := by decide +kernel
theorem dX6_rests_20 : decode cX6_rests 20 = .ok (.iload_n 2, 1) := by decide +kernel
theorem dX6_rests_21 : decode cX6_rests 21 = .ok (.iadd, 1) := by decide +kernel
theorem dX6_rests_22 : decode cX6_rests 22 = .ok (.istore_n 3, 1) := by decide +kernel
theorem dX6_rests_23 : decode cX6_rests 23 = .ok (.iconst 0, 1) := by decide +kernel
theorem dX6_rests_24 : decode cX6_rests 24 = .ok (.istore 4, 2) := by decide +kernel
theorem dX6_rests_26 : decode cX6_rests 26 = .ok (.iload 4, 2) := by decide +kernel
theorem dX6_rests_28 : decode cX6_rests 28 = .ok (.bipush 6, 2) := by decide +kernel
theorem dX6_rests_30 : decode cX6_rests 30 = .ok (.if_icmp .ge 53, 3) := by decide +kernel
theorem dX6_rests_33 : decode cX6_rests 33 = .ok (.aload_n 0, 1) := by decide +kernel
theorem dX6_rests_34 : decode cX6_rests 34 = .ok (.getfield 11, 3) := by decide +kernel
theorem dX6_rests_37 : decode cX6_rests 37 = .ok (.iload 4, 2) := by decide +kernel
theorem dX6_rests_39 : decode cX6_rests 39 = .ok (.bipush 6, 2) := by decide +kernel
theorem dX6_rests_41 : decode cX6_rests 41 = .ok (.imul, 1) := by decide +kernel
theorem dX6_rests_42 : decode cX6_rests 42 = .ok (.iload_n 2, 1) := by decide +kernel
theorem dX6_rests_43 : decode cX6_rests 43 = .ok (.iadd, 1) := by decide +kernel
theorem dX6_rests_44 : decode cX6_rests 44 = .ok (.iaload, 1) := by decide +kernel
theorem dX6_rests_45 : decode cX6_rests 45 = .ok (.aload_n 0, 1) := by decide +kernel
theorem dX6_rests_46 : decode cX6_rests 46 = .ok (.getfield 11, 3) := by decide +kernel
theorem dX6_rests_49 : decode cX6_rests 49 = .ok (.iload_n 3, 1) := by decide +kernel
theorem dX6_rests_50 : decode cX6_rests 50 = .ok (.iaload, 1) := by decide +kernel
theorem dX6_rests_51 : decode cX6_rests 51 = .ok (.if_icmp .gt 24, 3) := by decide +kernel
theorem dX6_rests_54 : decode cX6_rests 54 = .ok (.aload_n 0, 1) := by decide +kernel
theorem dX6_rests_55 : decode cX6_rests 55 = .ok (.getfield 17, 3) := by decide +kernel
theorem dX6_rests_58 : decode cX6_rests 58 = .ok (.iload_n 1, 1) := by decide +kernel
theorem dX6_rests_59 : decode cX6_rests 59 = .ok (.bipush 6, 2) := by decide +kernel
theorem dX6_rests_61 : decode cX6_rests 61 = .ok (.imul, 1) := by decide +kernel
theorem dX6_rests_62 : decode cX6_rests 62 = .ok (.iload 4, 2) := by decide +kernel
theorem dX6_rests_64 : decode cX6_rests 64 = .ok (.iadd, 1) := by decide +kernel
theorem dX6_rests_65 : decode cX6_rests 65 = .ok (.iaload, 1) := by decide +kernel
theorem dX6_rests_66 : decode cX6_rests 66 = .ok (.aload_n 0, 1) := by decide +kernel
theorem dX6_rests_67 : decode cX6_rests 67 = .ok (.getfield 17, 3) := by decide +kernel
theorem dX6_rests_70 : decode cX6_rests 70 = .ok (.iload_n 3, 1) := by decide +kernel
theorem dX6_rests_71 : decode cX6_rests 71 = .ok (.iaload, 1) := by decide +kernel
theorem dX6_rests_72 : decode cX6_rests 72 = .ok (.if_icmp .le 5, 3) := by decide +kernel
theorem dX6_rests_75 : decode cX6_rests 75 = .ok (.iconst 0, 1) := by decide +kernel
theorem dX6_rests_76 : decode cX6_rests 76 = .ok (.ireturn, 1) := by decide +kernel
theorem dX6_rests_77 : decode cX6_rests 77 = .ok (.iinc 4 1, 3) := by decide +kernel
theorem dX6_rests_80 : decode cX6_rests 80 = .ok (.goto (-54), 3) := by decide +kernel
theorem dX6_rests_83 : decode cX6_rests 83 = .ok (.iconst 1, 1) := by decide +kernel
theorem dX6_rests_84 : decode cX6_rests 84 = .ok (.ireturn, 1) := by decide +kernel
theorem dJ9_max_7cf53_0 : decode cJ9_max_7cf53 0 = .ok (.iload_n 0, 1) := by decide +kernel
theorem dJ9_max_7cf53_1 : decode cJ9_max_7cf53 1 = .ok (.iload_n 1, 1) := by decide +kernel
theorem dJ9_max_7cf53_2 : decode cJ9_max_7cf53 2 = .ok (.if_icmp .lt 7, 3) := by decide +kernel
theorem dJ9_max_7cf53_5 : decode cJ9_max_7cf53 5 = .ok (.iload_n 0, 1) := by decide +kernel
theorem dJ9_max_7cf53_6 : decode cJ9_max_7cf53 6 = .ok (.goto 4, 3) := by decide +kernel
theorem dJ9_max_7cf53_9 : decode cJ9_max_7cf53 9 = .ok (.iload_n 1, 1) := by decide +kernel
theorem dJ9_max_7cf53_10 : decode cJ9_max_7cf53 10 = .ok (.ireturn, 1) := by decide +kernel
theorem dJ9_min_7cf53_0 : decode cJ9_min_7cf53 0 = .ok (.iload_n 0, 1) := by decide +kernel
theorem dJ9_min_7cf53_1 : decode cJ9_min_7cf53 1 = .ok (.iload_n 1, 1) := by decide +kernel
theorem dJ9_min_7cf53_2 : decode cJ9_min_7cf53 2 = .ok (.if_icmp .gt 7, 3) := by decide +kernel
theorem dJ9_min_7cf53_5 : decode cJ9_min_7cf53 5 = .ok (.iload_n 0, 1) := by decide +kernel
theorem dJ9_min_7cf53_6 : decode cJ9_min_7cf53 6 = .ok (.goto 4, 3) := by decide +kernel
theorem dJ9_min_7cf53_9 : decode cJ9_min_7cf53 9 = .ok (.iload_n 1, 1) := by decide +kernel
theorem dJ9_min_7cf53_10 : decode cJ9_min_7cf53 10 = .ok (.ireturn, 1) := by decide +kernel
theorem dJ0_length_8abf5_0 : decode cJ0_length_8abf5 0 = .ok (.aload_n 0, 1) := by decide +kernel
theorem dJ0_length_8abf5_1 : decode cJ0_length_8abf5 1 = .ok (.getfield 9, 3) := by decide +kernel
theorem dJ0_length_8abf5_4 : decode cJ0_length_8abf5 4 = .ok (.arraylength, 1) := by decide +kernel
theorem dJ0_length_8abf5_5 : decode cJ0_length_8abf5 5 = .ok (.aload_n 0, 1) := by decide +kernel
theorem dJ0_length_8abf5_6 : decode cJ0_length_8abf5 6 = .ok (.invokevirtual 335, 3) := by decide +kernel
theorem dJ0_length_8abf5_9 : decode cJ0_length_8abf5 9 = .ok (.ishr, 1) := by decide +kernel
theorem dJ0_length_8abf5_10 : decode cJ0_length_8abf5 10 = .ok (.ireturn, 1) := by decide +kernel
theorem dJ0_charAt_5068e_0 : decode cJ0_charAt_5068e 0 = .ok (.aload_n 0, 1) := by decide +kernel
theorem dJ0_charAt_5068e_1 : decode cJ0_charAt_5068e 1 = .ok (.invokevirtual 492, 3) := by decide +kernel
theorem dJ0_charAt_5068e_4 : decode cJ0_charAt_5068e 4 = .ok (.ifCond .eq 12, 3) := by decide +kernel
theorem dJ0_charAt_5068e_7 : decode cJ0_charAt_5068e 7 = .ok (.aload_n 0, 1) := by decide +kernel
theorem dJ0_charAt_5068e_8 : decode cJ0_charAt_5068e 8 = .ok (.getfield 9, 3) := by decide +kernel
theorem dJ0_charAt_5068e_11 : decode cJ0_charAt_5068e 11 = .ok (.iload_n 1, 1) := by decide +kernel
theorem dJ0_charAt_5068e_12 : decode cJ0_charAt_5068e 12 = .ok (.invokestatic 495, 3) := by decide +kernel
theorem dJ0_charAt_5068e_15 : decode cJ0_charAt_5068e 15 = .ok (.ireturn, 1) := by decide +kernel
theorem dJ0_charAt_5068e_16 : decode cJ0_charAt_5068e 16 = .ok (.aload_n 0, 1) := by decide +kernel
theorem dJ0_charAt_5068e_17 : decode cJ0_charAt_5068e 17 = .ok (.getfield 9, 3) := by decide +kernel
theorem dJ0_charAt_5068e_20 : decode cJ0_charAt_5068e 20 = .ok (.iload_n 1, 1) := by decide +kernel
theorem dJ0_charAt_5068e_21 : decode cJ0_charAt_5068e 21 = .ok (.invokestatic 498, 3) := by decide +kernel
theorem dJ0_charAt_5068e_24 : decode cJ0_charAt_5068e 24 = .ok (.ireturn, 1) := by decide +kernel
theorem dJ0_coder_7d493_0 : decode cJ0_coder_7d493 0 = .ok (.getstatic 38, 3) := by decide +kernel
theorem dJ0_coder_7d493_3 : decode cJ0_coder_7d493 3 = .ok (.ifCond .eq 10, 3) := by decide +kernel
theorem dJ0_coder_7d493_6 : decode cJ0_coder_7d493 6 = .ok (.aload_n 0, 1) := by decide +kernel
theorem dJ0_coder_7d493_7 : decode cJ0_coder_7d493 7 = .ok (.getfield 15, 3) := by decide +kernel
theorem dJ0_coder_7d493_10 : decode cJ0_coder_7d493 10 = .ok (.goto 4, 3) := by decide +kernel
theorem dJ0_coder_7d493_13 : decode cJ0_coder_7d493 13 = .ok (.iconst 1, 1) := by decide +kernel
theorem dJ0_coder_7d493_14 : decode cJ0_coder_7d493 14 = .ok (.ireturn, 1) := by decide +kernel
theorem dJ0_isLatin1_aae02_0 : decode cJ0_isLatin1_aae02 0 = .ok (.getstatic 38, 3) := by decide +kernel
theorem dJ0_isLatin1_aae02_3 : decode cJ0_isLatin1_aae02 3 = .ok (.ifCond .eq 14, 3) := by decide +kernel
theorem dJ0_isLatin1_aae02_6 : decode cJ0_isLatin1_aae02 6 = .ok (.aload_n 0, 1) := by decide +kernel
theorem dJ0_isLatin1_aae02_7 : decode cJ0_isLatin1_aae02 7 = .ok (.getfield 15, 3) := by decide +kernel
theorem dJ0_isLatin1_aae02_10 : decode cJ0_isLatin1_aae02 10 = .ok (.ifCond .ne 7, 3) := by decide +kernel
theorem dJ0_isLatin1_aae02_13 : decode cJ0_isLatin1_aae02 13 = .ok (.iconst 1, 1) := by decide +kernel
theorem dJ0_isLatin1_aae02_14 : decode cJ0_isLatin1_aae02 14 = .ok (.goto 4, 3) := by decide +kernel
theorem dJ0_isLatin1_aae02_17 : decode cJ0_isLatin1_aae02 17 = .ok (.iconst 0, 1) := by decide +kernel
theorem dJ0_isLatin1_aae02_18 : decode cJ0_isLatin1_aae02 18 = .ok (.ireturn, 1) := by decide +kernel
theorem dJ0_checkIndex_df160_0 : decode cJ0_checkIndex_df160 0 = .ok (.iload_n 0, 1) := by decide +kernel
theorem dJ0_checkIndex_df160_1 : decode cJ0_checkIndex_df160 1 = .ok (.iload_n 1, 1) := by decide +kernel
theorem dJ0_checkIndex_df160_2 : decode cJ0_checkIndex_df160 2 = .ok (.getstatic 1053, 3) := by decide +kernel
theorem dJ0_checkIndex_df160_5 : decode cJ0_checkIndex_df160 5 = .ok (.invokestatic 1059, 3) := by decide +kernel
theorem dJ0_checkIndex_df160_8 : decode cJ0_checkIndex_df160 8 = .ok (.pop, 1) := by decide +kernel
theorem dJ0_checkIndex_df160_9 : decode cJ0_checkIndex_df160 9 = .ok (.return_, 1) := by decide +kernel
theorem dJ1_charAt_3b067_0 : decode cJ1_charAt_3b067 0 = .ok (.iload_n 1, 1) := by decide +kernel
theorem dJ1_charAt_3b067_1 : decode cJ1_charAt_3b067 1 = .ok (.aload_n 0, 1) := by decide +kernel
theorem dJ1_charAt_3b067_2 : decode cJ1_charAt_3b067 2 = .ok (.arraylength, 1) := by decide +kernel
theorem dJ1_charAt_3b067_3 : decode cJ1_charAt_3b067 3 = .ok (.invokestatic 9, 3) := by decide +kernel
theorem dJ1_charAt_3b067_6 : decode cJ1_charAt_3b067 6 = .ok (.aload_n 0, 1) := by decide +kernel
theorem dJ1_charAt_3b067_7 : decode cJ1_charAt_3b067 7 = .ok (.iload_n 1, 1) := by decide +kernel
theorem dJ1_charAt_3b067_8 : decode cJ1_charAt_3b067 8 = .ok (.baload, 1) := by decide +kernel
theorem dJ1_charAt_3b067_9 : decode cJ1_charAt_3b067 9 = .ok (.sipush 255, 3) := by decide +kernel
theorem dJ1_charAt_3b067_12 : decode cJ1_charAt_3b067 12 = .ok (.iand, 1) := by decide +kernel
theorem dJ1_charAt_3b067_13 : decode cJ1_charAt_3b067 13 = .ok (.i2c, 1) := by decide +kernel
theorem dJ1_charAt_3b067_14 : decode cJ1_charAt_3b067 14 = .ok (.ireturn, 1) := by decide +kernel
theorem dJ2_getChar_3b067_0 : decode cJ2_getChar_3b067 0 = .ok (.getstatic 44, 3) := by decide +kernel
theorem dJ2_getChar_3b067_3 : decode cJ2_getChar_3b067 3 = .ok (.ifCond .ne 25, 3) := by decide +kernel
theorem dJ2_getChar_3b067_6 : decode cJ2_getChar_3b067 6 = .ok (.iload_n 1, 1) := by decide +kernel
theorem dJ2_getChar_3b067_7 : decode cJ2_getChar_3b067 7 = .ok (.ifCond .lt 11, 3) := by decide +kernel
theorem dJ2_getChar_3b067_10 : decode cJ2_getChar_3b067 10 = .ok (.iload_n 1, 1) := by decide +kernel
theorem dJ2_getChar_3b067_11 : decode cJ2_getChar_3b067 11 = .ok (.aload_n 0, 1) := by decide +kernel
theorem dJ2_getChar_3b067_12 : decode cJ2_getChar_3b067 12 = .ok (.invokestatic 48, 3) := by decide +kernel
theorem dJ2_getChar_3b067_15 : decode cJ2_getChar_3b067 15 = .ok (.if_icmp .lt 13, 3) := by decide +kernel
theorem dJ2_getChar_3b067_18 : decode cJ2_getChar_3b067 18 = .ok (.new 52, 3) := by decide +kernel
theorem dJ2_getChar_3b067_21 : decode cJ2_getChar_3b067 21 = .ok (.dup, 1) := by decide +kernel
theorem dJ2_getChar_3b067_22 : decode cJ2_getChar_3b067 22 = .ok (.ldc 54, 2) := by decide +kernel
theorem dJ2_getChar_3b067_24 : decode cJ2_getChar_3b067 24 = .ok (.invokespecial 56, 3) := by decide +kernel
theorem dJ2_getChar_3b067_27 : decode cJ2_getChar_3b067 27 = .ok (.athrow, 1) := by decide +kernel
theorem dJ2_getChar_3b067_28 : decode cJ2_getChar_3b067 28 = .ok (.iload_n 1, 1) := by decide +kernel
theorem dJ2_getChar_3b067_29 : decode cJ2_getChar_3b067 29 = .ok (.iconst 1, 1) := by decide +kernel
theorem dJ2_getChar_3b067_30 : decode cJ2_getChar_3b067 30 = .ok (.ishl, 1) := by decide +kernel
theorem dJ2_getChar_3b067_31 : decode cJ2_getChar_3b067 31 = .ok (.istore_n 1, 1) := by decide +kernel
theorem dJ2_getChar_3b067_32 : decode cJ2_getChar_3b067 32 = .ok (.aload_n 0, 1) := by decide +kernel
theorem dJ2_getChar_3b067_33 : decode cJ2_getChar_3b067 33 = .ok (.iload_n 1, 1) := by decide +kernel
theorem dJ2_getChar_3b067_34 : decode cJ2_getChar_3b067 34 = .ok (.iinc 1 1, 3) := by decide +kernel
theorem dJ2_getChar_3b067_37 : decode cJ2_getChar_3b067 37 = .ok (.baload, 1) := by decide +kernel
theorem dJ2_getChar_3b067_38 : decode cJ2_getChar_3b067 38 = .ok (.sipush 255, 3) := by decide +kernel
theorem dJ2_getChar_3b067_41 : decode cJ2_getChar_3b067 41 = .ok (.iand, 1) := by decide +kernel
theorem dJ2_getChar_3b067_42 : decode cJ2_getChar_3b067 42 = .ok (.getstatic 59, 3) := by decide +kernel
theorem dJ2_getChar_3b067_45 : decode cJ2_getChar_3b067 45 = .ok (.ishl, 1) := by decide +kernel
theorem dJ2_getChar_3b067_46 : decode cJ2_getChar_3b067 46 = .ok (.aload_n 0, 1) := by decide +kernel
theorem dJ2_getChar_3b067_47 : decode cJ2_getChar_3b067 47 = .ok (.iload_n 1, 1) := by decide +kernel
theorem dJ2_getChar_3b067_48 : decode cJ2_getChar_3b067 48 = .ok (.baload, 1) := by decide +kernel
theorem dJ2_getChar_3b067_49 : decode cJ2_getChar_3b067 49 = .ok (.sipush 255, 3) := by decide +kernel
theorem dJ2_getChar_3b067_52 : decode cJ2_getChar_3b067 52 = .ok (.iand, 1) := by decide +kernel
theorem dJ2_getChar_3b067_53 : decode cJ2_getChar_3b067 53 = .ok (.getstatic 63, 3) := by decide +kernel
theorem dJ2_getChar_3b067_56 : decode cJ2_getChar_3b067 56 = .ok (.ishl, 1) := by decide +kernel
theorem dJ2_getChar_3b067_57 : decode cJ2_getChar_3b067 57 = .ok (.ior, 1) := by decide +kernel
theorem dJ2_getChar_3b067_58 : decode cJ2_getChar_3b067 58 = .ok (.i2c, 1) := by decide +kernel
theorem dJ2_getChar_3b067_59 : decode cJ2_getChar_3b067 59 = .ok (.ireturn, 1) := by decide +kernel
theorem dJ2_length_9d52b_0 : decode cJ2_length_9d52b 0 = .ok (.aload_n 0, 1) := by decide +kernel
theorem dJ2_length_9d52b_1 : decode cJ2_length_9d52b 1 = .ok (.arraylength, 1) := by decide +kernel
theorem dJ2_length_9d52b_2 : decode cJ2_length_9d52b 2 = .ok (.iconst 1, 1) := by decide +kernel
theorem dJ2_length_9d52b_3 : decode cJ2_length_9d52b 3 = .ok (.ishr, 1) := by decide +kernel
theorem dJ2_length_9d52b_4 : decode cJ2_length_9d52b 4 = .ok (.ireturn, 1) := by decide +kernel
theorem dJ2_charAt_3b067_0 : decode cJ2_charAt_3b067 0 = .ok (.iload_n 1, 1) := by decide +kernel
theorem dJ2_charAt_3b067_1 : decode cJ2_charAt_3b067 1 = .ok (.aload_n 0, 1) := by decide +kernel
theorem dJ2_charAt_3b067_2 : decode cJ2_charAt_3b067 2 = .ok (.invokestatic 67, 3) := by decide +kernel
theorem dJ2_charAt_3b067_5 : decode cJ2_charAt_3b067 5 = .ok (.aload_n 0, 1) := by decide +kernel
theorem dJ2_charAt_3b067_6 : decode cJ2_charAt_3b067 6 = .ok (.iload_n 1, 1) := by decide +kernel
theorem dJ2_charAt_3b067_7 : decode cJ2_charAt_3b067 7 = .ok (.invokestatic 71, 3) := by decide +kernel
theorem dJ2_charAt_3b067_10 : decode cJ2_charAt_3b067 10 = .ok (.ireturn, 1) := by decide +kernel
theorem dJ2_checkIndex_2214a_0 : decode cJ2_checkIndex_2214a 0 = .ok (.iload_n 0, 1) := by decide +kernel
theorem dJ2_checkIndex_2214a_1 : decode cJ2_checkIndex_2214a 1 = .ok (.aload_n 1, 1) := by decide +kernel
theorem dJ2_checkIndex_2214a_2 : decode cJ2_checkIndex_2214a 2 = .ok (.invokestatic 48, 3) := by decide +kernel
theorem dJ2_checkIndex_2214a_5 : decode cJ2_checkIndex_2214a 5 = .ok (.invokestatic 414, 3) := by decide +kernel
theorem dJ2_checkIndex_2214a_8 : decode cJ2_checkIndex_2214a 8 = .ok (.return_, 1) := by decide +kernel
theorem dJ3_checkIndex_8e157_0 : decode cJ3_checkIndex_8e157 0 = .ok (.iload_n 0, 1) := by decide +kernel
theorem dJ3_checkIndex_8e157_1 : decode cJ3_checkIndex_8e157 1 = .ok (.ifCond .lt 8, 3) := by decide +kernel
theorem dJ3_checkIndex_8e157_4 : decode cJ3_checkIndex_8e157 4 = .ok (.iload_n 0, 1) := by decide +kernel
theorem dJ3_checkIndex_8e157_5 : decode cJ3_checkIndex_8e157 5 = .ok (.iload_n 1, 1) := by decide +kernel
theorem dJ3_checkIndex_8e157_6 : decode cJ3_checkIndex_8e157 6 = .ok (.if_icmp .lt 10, 3) := by decide +kernel
theorem dJ3_checkIndex_8e157_9 : decode cJ3_checkIndex_8e157 9 = .ok (.aload_n 2, 1) := by decide +kernel
theorem dJ3_checkIndex_8e157_10 : decode cJ3_checkIndex_8e157 10 = .ok (.iload_n 0, 1) := by decide +kernel
theorem dJ3_checkIndex_8e157_11 : decode cJ3_checkIndex_8e157 11 = .ok (.iload_n 1, 1) := by decide +kernel
theorem dJ3_checkIndex_8e157_12 : decode cJ3_checkIndex_8e157 12 = .ok (.invokestatic 95, 3) := by decide +kernel
theorem dJ3_checkIndex_8e157_15 : decode cJ3_checkIndex_8e157 15 = .ok (.athrow, 1) := by decide +kernel
theorem dJ3_checkIndex_8e157_16 : decode cJ3_checkIndex_8e157 16 = .ok (.iload_n 0, 1) := by decide +kernel
theorem dJ3_checkIndex_8e157_17 : decode cJ3_checkIndex_8e157 17 = .ok (.ireturn, 1) := by decide +kernel
end
section
theorem dX7_init_0 : decode cX7_init 0 = .ok (.aload_n 0, 1) := by decide +kernel
theorem dX7_init_1 : decode cX7_init 1 = .ok (.invokespecial 1, 3) := by decide +kernel
theorem dX7_init_4 : decode cX7_init 4 = .ok (.aload_n 0, 1) := by decide +kernel
theorem dX7_init_5 : decode cX7_init 5 = .ok (.new 7, 3) := by decide +kernel
theorem dX7_init_8 : decode cX7_init 8 = .ok (.dup, 1) := by decide +kernel
theorem dX7_init_9 : decode cX7_init 9 = .ok (.invokespecial 9, 3) := by decide +kernel
theorem dX7_init_12 : decode cX7_init 12 = .ok (.putfield 10, 3) := by decide +kernel
theorem dX7_init_15 : decode cX7_init 15 = .ok (.aload_n 0, 1) := by decide +kernel
theorem dX7_init_16 : decode cX7_init 16 = .ok (.new 7, 3) := by decide +kernel
theorem dX7_init_19 : decode cX7_init 19 = .ok (.dup, 1) := by decide +kernel
theorem dX7_init_20 : decode cX7_init 20 = .ok (.invokespecial 9, 3) := by decide +kernel
theorem dX7_init_23 : decode cX7_init 23 = .ok (.putfield 16, 3) := by decide +kernel
theorem dX7_init_26 : decode cX7_init 26 = .ok (.aload_n 0, 1) := by decide +kernel
theorem dX7_init_27 : decode cX7_init 27 = .ok (.new 7, 3) := by decide +kernel
theorem dX7_init_30 : decode cX7_init 30 = .ok (.dup, 1) := by decide +kernel
theorem dX7_init_31 : decode cX7_init 31 = .ok (.invokespecial 9, 3) := by decide +kernel
theorem dX7_init_34 : decode cX7_init 34 = .ok (.putfield 19, 3) := by decide +kernel
theorem dX7_init_37 : decode cX7_init 37 = .ok (.aload_n 0, 1) := by decide +kernel
theorem dX7_init_38 : decode cX7_init 38 = .ok (.new 7, 3) := by decide +kernel
theorem dX7_init_41 : decode cX7_init 41 = .ok (.dup, 1) := by decide +kernel
theorem dX7_init_42 : decode cX7_init 42 = .ok (.invokespecial 9, 3) := by decide +kernel
theorem dX7_init_45 : decode cX7_init 45 = .ok (.putfield 22, 3) := by decide +kernel
theorem dX7_init_48 : decode cX7_init 48 = .ok (.aload_n 0, 1) := by decide +kernel
theorem dX7_init_49 : decode cX7_init 49 = .ok (.new 25, 3) := by decide +kernel
theorem dX7_init_52 : decode cX7_init 52 = .ok (.dup, 1) := by decide +kernel
theorem dX7_init_53 : decode cX7_init 53 = .ok (.invokespecial 27, 3) := by decide +kernel
theorem dX7_init_56 : decode cX7_init 56 = .ok (.putfield 28, 3) := by decide +kernel
theorem dX7_init_59 : decode cX7_init 59 = .ok (.aload_n 0, 1) := by decide +kernel
theorem dX7_init_60 : decode cX7_init 60 = .ok (.new 32, 3) := by decide +kernel
theorem dX7_init_63 : decode cX7_init 63 = .ok (.dup, 1) := by decide +kernel
theorem dX7_init_64 : decode cX7_init 64 = .ok (.invokespecial 34, 3) := by decide +kernel
theorem dX7_init_67 : decode cX7_init 67 = .ok (.putfield 35, 3) := by decide +kernel
theorem dX7_init_70 : decode cX7_init 70 = .ok (.aload_n 0, 1) := by decide +kernel
theorem dX7_init_71 : decode cX7_init 71 = .ok (.new 39, 3) := by decide +kernel
theorem dX7_init_74 : decode cX7_init 74 = .ok (.dup, 1) := by decide +kernel
theorem dX7_init_75 : decode cX7_init 75 = .ok (.invokespecial 41, 3) := by decide +kernel
theorem dX7_init_78 : decode cX7_init 78 = .ok (.putfield 42, 3) := by decide +kernel
theorem dX7_init_81 : decode cX7_init 81 = .ok (.aload_n 0, 1) := by decide +kernel
theorem dX7_init_82 : decode cX7_init 82 = .ok (.new 46, 3) := by decide +kernel
theorem dX7_init_85 : decode cX7_init 85 = .ok (.dup, 1) := by decide +kernel
theorem dX7_init_86 : decode cX7_init 86 = .ok (.invokespecial 48, 3) := by decide +kernel
theorem dX7_init_89 : decode cX7_init 89 = .ok (.putfield 49, 3) := by decide +kernel
theorem dX7_init_92 : decode cX7_init 92 = .ok (.aload_n 0, 1) := by decide +kernel
theorem dX7_init_93 : decode cX7_init 93 = .ok (.lconst 0, 1) := by decide +kernel
theorem dX7_init_94 : decode cX7_init 94 = .ok (.putfield 53, 3) := by decide +kernel
theorem dX7_init_97 : decode cX7_init 97 = .ok (.aload_n 0, 1) := by decide +kernel
theorem dX7_init_98 : decode cX7_init 98 = .ok (.lconst 1, 1) := by decide +kernel
theorem dX7_init_99 : decode cX7_init 99 = .ok (.putfield 57, 3) := by decide +kernel
theorem dX7_init_102 : decode cX7_init 102 = .ok (.return_, 1) := by decide +kernel
theorem dX7_province_0 : decode cX7_province 0 = .ok (.iload_n 1, 1) := by decide +kernel
theorem dX7_province_1 : decode cX7_province 1 = .ok (.iconst 1, 1) := by decide +kernel
theorem dX7_province_2 : decode cX7_province 2 = .ok (.bipush 60, 2) := by decide +kernel
theorem dX7_province_4 : decode cX7_province 4 = .ok (.invokestatic 60, 3) := by decide +kernel
theorem dX7_province_7 : decode cX7_province 7 = .ok (.ifCond .eq 14, 3) := by decide +kernel
theorem dX7_province_10 : decode cX7_province 10 = .ok (.iload_n 2, 1) := by decide +kernel
theorem dX7_province_11 : decode cX7_province 11 = .ok (.iconst 0, 1) := by decide +kernel
theorem dX7_province_12 : decode cX7_province 12 = .ok (.sipush 9999, 3) := by decide +kernel
theorem dX7_province_15 : decode cX7_province 15 = .ok (.invokestatic 60, 3) := by decide +kernel
theorem dX7_province_18 : decode cX7_province 18 = .ok (.ifCond .ne 8, 3) := by decide +kernel
theorem dX7_province_21 : decode cX7_province 21 = .ok (.aload_n 0, 1) := by decide +kernel
theorem dX7_province_22 : decode cX7_province 22 = .ok (.invokevirtual 64, 3) := by decide +kernel
theorem dX7_province_25 : decode cX7_province 25 = .ok (.ireturn, 1) := by decide +kernel
theorem dX7_province_26 : decode cX7_province 26 = .ok (.aload_n 0, 1) := by decide +kernel
theorem dX7_province_27 : decode cX7_province 27 = .ok (.getfield 10, 3) := by decide +kernel
theorem dX7_province_30 : decode cX7_province 30 = .ok (.getfield 68, 3) := by decide +kernel
theorem dX7_province_33 : decode cX7_province 33 = .ok (.getfield 72, 3) := by decide +kernel
theorem dX7_province_36 : decode cX7_province 36 = .ok (.istore_n 3, 1) := by decide +kernel
theorem dX7_province_37 : decode cX7_province 37 = .ok (.aload_n 0, 1) := by decide +kernel
theorem dX7_province_38 : decode cX7_province 38 = .ok (.getfield 10, 3) := by decide +kernel
theorem dX7_province_41 : decode cX7_province 41 = .ok (.iload_n 1, 1) := by decide +kernel
theorem dX7_province_42 : decode cX7_province 42 = .ok (.iload_n 2, 1) := by decide +kernel
theorem dX7_province_43 : decode cX7_province 43 = .ok (.invokevirtual 78, 3) := by decide +kernel
theorem dX7_province_46 : decode cX7_province 46 = .ok (.iload_n 3, 1) := by decide +kernel
theorem dX7_province_47 : decode cX7_province 47 = .ok (.ireturn, 1) := by decide +kernel
theorem dX7_house_0 : decode cX7_house 0 = .ok (.iload_n 1, 1) := by decide +kernel
theorem dX7_house_1 : decode cX7_house 1 = .ok (.iconst 0, 1) := by decide +kernel
theorem dX7_house_2 : decode cX7_house 2 = .ok (.iconst 1, 1) := by decide +kernel
theorem dX7_house_3 : decode cX7_house 3 = .ok (.invokestatic 60, 3) := by decide +kernel
theorem dX7_house_6 : decode cX7_house 6 = .ok (.ifCond .eq 10, 3) := by decide +kernel
theorem dX7_house_9 : decode cX7_house 9 = .ok (.iload_n 2, 1) := by decide +kernel
theorem dX7_house_10 : decode cX7_house 10 = .ok (.invokestatic 82, 3) := by decide +kernel
theorem dX7_house_13 : decode cX7_house 13 = .ok (.ifCond .ne 8, 3) := by decide +kernel
theorem dX7_house_16 : decode cX7_house 16 = .ok (.aload_n 0, 1) := by decide +kernel
theorem dX7_house_17 : decode cX7_house 17 = .ok (.invokevirtual 64, 3) := by decide +kernel
theorem dX7_house_20 : decode cX7_house 20 = .ok (.ireturn, 1) := by decide +kernel
theorem dX7_house_21 : decode cX7_house 21 = .ok (.aload_n 0, 1) := by decide +kernel
theorem dX7_house_22 : decode cX7_house 22 = .ok (.getfield 10, 3) := by decide +kernel
theorem dX7_house_25 : decode cX7_house 25 = .ok (.iload_n 1, 1) := by decide +kernel
theorem dX7_house_26 : decode cX7_house 26 = .ok (.invokevirtual 88, 3) := by decide +kernel
theorem dX7_house_29 : decode cX7_house 29 = .ok (.istore_n 3, 1) := by decide +kernel
theorem dX7_house_30 : decode cX7_house 30 = .ok (.aload_n 0, 1) := by decide +kernel
theorem dX7_house_31 : decode cX7_house 31 = .ok (.getfield 10, 3) := by decide +kernel
theorem dX7_house_34 : decode cX7_house 34 = .ok (.iload_n 1, 1) := by decide +kernel
theorem dX7_house_35 : decode cX7_house 35 = .ok (.iload_n 2, 1) := by decide +kernel
theorem dX7_house_36 : decode cX7_house 36 = .ok (.invokevirtual 92, 3) := by decide +kernel
theorem dX7_house_39 : decode cX7_house 39 = .ok (.aload_n 0, 1) := by decide +kernel
theorem dX7_house_40 : decode cX7_house 40 = .ok (.getfield 10, 3) := by decide +kernel
theorem dX7_house_43 : decode cX7_house 43 = .ok (.getfield 95, 3) := by decide +kernel
theorem dX7_house_46 : decode cX7_house 46 = .ok (.invokevirtual 98, 3) := by decide +kernel
theorem dX7_house_49 : decode cX7_house 49 = .ok (.iload_n 3, 1) := by decide +kernel
theorem dX7_house_50 : decode cX7_house 50 = .ok (.ireturn, 1) := by decide +kernel
theorem dX7_string_0 : decode cX7_string 0 = .ok (.iload_n 1, 1) := by decide +kernel
theorem dX7_string_1 : decode cX7_string 1 = .ok (.invokestatic 82, 3) := by decide +kernel
theorem dX7_string_4 : decode cX7_string 4 = .ok (.ifCond .eq 13, 3) := by decide +kernel
theorem dX7_string_7 : decode cX7_string 7 = .ok (.iload_n 2, 1) := by decide +kernel
theorem dX7_string_8 : decode cX7_string 8 = .ok (.iconst 1, 1) := by decide +kernel
theorem dX7_string_9 : decode cX7_string 9 = .ok (.bipush 60, 2) := by decide +kernel
theorem dX7_string_11 : decode cX7_string 11 = .ok (.invokestatic 60, 3) := by decide +kernel
theorem dX7_string_14 : decode cX7_string 14 = .ok (.ifCond .ne 8, 3) := by decide +kernel
theorem dX7_string_17 : decode cX7_string 17 = .ok (.aload_n 0, 1) := by decide +kernel
theorem dX7_string_18 : decode cX7_string 18 = .ok (.invokevirtual 64, 3) := by decide +kernel
theorem dX7_string_21 : decode cX7_string 21 = .ok (.ireturn, 1) := by decide +kernel
theorem dX7_string_22 : decode cX7_string 22 = .ok (.aload_n 0, 1) := by decide +kernel
theorem dX7_string_23 : decode cX7_string 23 = .ok (.getfield 10, 3) := by decide +kernel
theorem dX7_string_26 : decode cX7_string 26 = .ok (.getfield 68, 3) := by decide +kernel
theorem dX7_string_29 : decode cX7_string 29 = .ok (.invokevirtual 101, 3) := by decide +kernel
theorem dX7_string_32 : decode cX7_string 32 = .ok (.ifCond .eq 8, 3) := by decide +kernel
theorem dX7_string_35 : decode cX7_string 35 = .ok (.aload_n 0, 1) := by decide +kernel
theorem dX7_string_36 : decode cX7_string 36 = .ok (.invokevirtual 105, 3) := by decide +kernel
theorem dX7_string_39 : decode cX7_string 39 = .ok (.ireturn, 1) := by decide +kernel
theorem dX7_string_40 : decode cX7_string 40 = .ok (.aload_n 0, 1) := by decide +kernel
theorem dX7_string_41 : decode cX7_string 41 = .ok (.getfield 10, 3) := by decide +kernel
theorem dX7_string_44 : decode cX7_string 44 = .ok (.getfield 68, 3) := by decide +kernel
theorem dX7_string_47 : decode cX7_string 47 = .ok (.iload_n 1, 1) := by decide +kernel
theorem dX7_string_48 : decode cX7_string 48 = .ok (.iload_n 2, 1) := by decide +kernel
theorem dX7_string_49 : decode cX7_string 49 = .ok (.iconst 0, 1) := by decide +kernel
theorem dX7_string_50 : decode cX7_string 50 = .ok (.iconst 0, 1) := by decide +kernel
theorem dX7_string_51 : decode cX7_string 51 = .ok (.invokevirtual 108, 3) := by decide +kernel
theorem dX7_string_54 : decode cX7_string 54 = .ok (.aload_n 0, 1) := by decide +kernel
theorem dX7_string_55 : decode cX7_string 55 = .ok (.getfield 10, 3) := by decide +kernel
theorem dX7_string_58 : decode cX7_string 58 = .ok (.getfield 95, 3) := by decide +kernel
theorem dX7_string_61 : decode cX7_string 61 = .ok (.invokevirtual 98, 3) := by decide +kernel
theorem dX7_string_64 : decode cX7_string 64 = .ok (.aload_n 0, 1) := by decide +kernel
theorem dX7_string_65 : decode cX7_string 65 = .ok (.getfield 10, 3) := by decide +kernel
theorem dX7_string_68 : decode cX7_string 68 = .ok (.getfield 68, 3) := by decide +kernel
theorem dX7_string_71 : decode cX7_string 71 = .ok (.getfield 72, 3) := by decide +kernel
theorem dX7_string_74 : decode cX7_string 74 = .ok (.iconst 1, 1) := by decide +kernel
theorem dX7_string_75 : decode cX7_string 75 = .ok (.isub, 1) := by decide +kernel
theorem dX7_string_76 : decode cX7_string 76 = .ok (.ireturn, 1) := by decide +kernel
theorem dX7_type_0 : decode cX7_type 0 = .ok (.iload_n 1, 1) := by decide +kernel
theorem dX7_type_1 : decode cX7_type 1 = .ok (.iconst 0, 1) := by decide +kernel
theorem dX7_type_2 : decode cX7_type 2 = .ok (.bipush 127, 2) := by decide +kernel
theorem dX7_type_4 : decode cX7_type 4 = .ok (.invokestatic 60, 3) := by decide +kernel
theorem dX7_type_7 : decode cX7_type 7 = .ok (.ifCond .ne 8, 3) := by decide +kernel
theorem dX7_type_10 : decode cX7_type 10 = .ok (.aload_n 0, 1) := by decide +kernel
theorem dX7_type_11 : decode cX7_type 11 = .ok (.invokevirtual 64, 3) := by decide +kernel
theorem dX7_type_14 : decode cX7_type 14 = .ok (.ireturn, 1) := by decide +kernel
theorem dX7_type_15 : decode cX7_type 15 = .ok (.aload_n 0, 1) := by decide +kernel
theorem dX7_type_16 : decode cX7_type 16 = .ok (.getfield 28, 3) := by decide +kernel
theorem dX7_type_19 : decode cX7_type 19 = .ok (.iload_n 1, 1) := by decide +kernel
theorem dX7_type_20 : decode cX7_type 20 = .ok (.invokevirtual 112, 3) := by decide +kernel
theorem dX7_type_23 : decode cX7_type 23 = .ok (.ifCond .ne 8, 3) := by decide +kernel
theorem dX7_type_26 : decode cX7_type 26 = .ok (.aload_n 0, 1) := by decide +kernel
theorem dX7_type_27 : decode cX7_type 27 = .ok (.invokevirtual 105, 3) := by decide +kernel
theorem dX7_type_30 : decode cX7_type 30 = .ok (.ireturn, 1) := by decide +kernel
theorem dX7_type_31 : decode cX7_type 31 = .ok (.aload_n 0, 1) := by decide +kernel
theorem dX7_type_32 : decode cX7_type 32 = .ok (.getfield 28, 3) := by decide +kernel
theorem dX7_type_35 : decode cX7_type 35 = .ok (.getfield 114, 3) := by decide +kernel
theorem dX7_type_38 : decode cX7_type 38 = .ok (.ireturn, 1) := by decide +kernel
theorem dX7_clear_0 : decode cX7_clear 0 = .ok (.aload_n 0, 1) := by decide +kernel
theorem dX7_clear_1 : decode cX7_clear 1 = .ok (.getfield 28, 3) := by decide +kernel
theorem dX7_clear_4 : decode cX7_clear 4 = .ok (.getfield 114, 3) := by decide +kernel
theorem dX7_clear_7 : decode cX7_clear 7 = .ok (.istore_n 1, 1) := by decide +kernel
theorem dX7_clear_8 : decode cX7_clear 8 = .ok (.aload_n 0, 1) := by decide +kernel
theorem dX7_clear_9 : decode cX7_clear 9 = .ok (.getfield 28, 3) := by decide +kernel
theorem dX7_clear_12 : decode cX7_clear 12 = .ok (.iconst 0, 1) := by decide +kernel
theorem dX7_clear_13 : decode cX7_clear 13 = .ok (.putfield 114, 3) := by decide +kernel
theorem dX7_clear_16 : decode cX7_clear 16 = .ok (.iload_n 1, 1) := by decide +kernel
theorem dX7_clear_17 : decode cX7_clear 17 = .ok (.ireturn, 1) := by decide +kernel
theorem dX7_read_0 : decode cX7_read 0 = .ok (.aload_n 0, 1) := by decide +kernel
theorem dX7_read_1 : decode cX7_read 1 = .ok (.getfield 28, 3) := by decide +kernel
theorem dX7_read_4 : decode cX7_read 4 = .ok (.aload_n 0, 1) := by decide +kernel
theorem dX7_read_5 : decode cX7_read 5 = .ok (.getfield 16, 3) := by decide +kernel
theorem dX7_read_8 : decode cX7_read 8 = .ok (.invokevirtual 117, 3) := by decide +kernel
theorem dX7_read_11 : decode cX7_read 11 = .ok (.istore_n 1, 1) := by decide +kernel
theorem dX7_read_12 : decode cX7_read 12 = .ok (.iload_n 1, 1) := by decide +kernel
theorem dX7_read_13 : decode cX7_read 13 = .ok (.ifCond .lt 21, 3) := by decide +kernel
theorem dX7_read_16 : decode cX7_read 16 = .ok (.aload_n 0, 1) := by decide +kernel
theorem dX7_read_17 : decode cX7_read 17 = .ok (.getfield 10, 3) := by decide +kernel
theorem dX7_read_20 : decode cX7_read 20 = .ok (.astore_n 2, 1) := by decide +kernel
theorem dX7_read_21 : decode cX7_read 21 = .ok (.aload_n 0, 1) := by decide +kernel
theorem dX7_read_22 : decode cX7_read 22 = .ok (.aload_n 0, 1) := by decide +kernel
theorem dX7_read_23 : decode cX7_read 23 = .ok (.getfield 16, 3) := by decide +kernel
theorem dX7_read_26 : decode cX7_read 26 = .ok (.putfield 10, 3) := by decide +kernel
theorem dX7_read_29 : decode cX7_read 29 = .ok (.aload_n 0, 1) := by decide +kernel
theorem dX7_read_30 : decode cX7_read 30 = .ok (.aload_n 2, 1) := by decide +kernel
theorem dX7_read_31 : decode cX7_read 31 = .ok (.putfield 16, 3) := by decide +kernel
theorem dX7_read_34 : decode cX7_read 34 = .ok (.iload_n 1, 1) := by decide +kernel
theorem dX7_read_35 : decode cX7_read 35 = .ok (.ireturn, 1) := by decide +kernel
theorem dX7_sends_0 : decode cX7_sends 0 = .ok (.aload_n 0, 1) := by decide +kernel
theorem dX7_sends_1 : decode cX7_sends 1 = .ok (.getfield 10, 3) := by decide +kernel
theorem dX7_sends_4 : decode cX7_sends 4 = .ok (.iload_n 1, 1) := by decide +kernel
theorem dX7_sends_5 : decode cX7_sends 5 = .ok (.invokevirtual 121, 3) := by decide +kernel
theorem dX7_sends_8 : decode cX7_sends 8 = .ok (.ifCond .ne 8, 3) := by decide +kernel
theorem dX7_sends_11 : decode cX7_sends 11 = .ok (.aload_n 0, 1) := by decide +kernel
theorem dX7_sends_12 : decode cX7_sends 12 = .ok (.invokevirtual 64, 3) := by decide +kernel
theorem dX7_sends_15 : decode cX7_sends 15 = .ok (.ireturn, 1) := by decide +kernel
theorem dX7_sends_16 : decode cX7_sends 16 = .ok (.aload_n 0, 1) := by decide +kernel
theorem dX7_sends_17 : decode cX7_sends 17 = .ok (.getfield 10, 3) := by decide +kernel
theorem dX7_sends_20 : decode cX7_sends 20 = .ok (.getfield 124, 3) := by decide +kernel
theorem dX7_sends_23 : decode cX7_sends 23 = .ok (.sipush 9999, 3) := by decide +kernel
theorem dX7_sends_26 : decode cX7_sends 26 = .ok (.if_icmp .ge 22, 3) := by decide +kernel
theorem dX7_sends_29 : decode cX7_sends 29 = .ok (.aload_n 0, 1) := by decide +kernel
theorem dX7_sends_30 : decode cX7_sends 30 = .ok (.getfield 10, 3) := by decide +kernel
theorem dX7_sends_33 : decode cX7_sends 33 = .ok (.iload_n 1, 1) := by decide +kernel
theorem dX7_sends_34 : decode cX7_sends 34 = .ok (.iconst 0, 1) := by decide +kernel
theorem dX7_sends_35 : decode cX7_sends 35 = .ok (.invokevirtual 127, 3) := by decide +kernel
theorem dX7_sends_38 : decode cX7_sends 38 = .ok (.aload_n 0, 1) := by decide +kernel
theorem dX7_sends_39 : decode cX7_sends 39 = .ok (.getfield 10, 3) := by decide +kernel
theorem dX7_sends_42 : decode cX7_sends 42 = .ok (.getfield 131, 3) := by decide +kernel
theorem dX7_sends_45 : decode cX7_sends 45 = .ok (.if_icmp .le 8, 3) := by decide +kernel
theorem dX7_sends_48 : decode cX7_sends 48 = .ok (.aload_n 0, 1) := by decide +kernel
theorem dX7_sends_49 : decode cX7_sends 49 = .ok (.invokevirtual 134, 3) := by decide +kernel
theorem dX7_sends_52 : decode cX7_sends 52 = .ok (.ireturn, 1) := by decide +kernel
theorem dX7_sends_53 : decode cX7_sends 53 = .ok (.aload_n 0, 1) := by decide +kernel
theorem dX7_sends_54 : decode cX7_sends 54 = .ok (.getfield 10, 3) := by decide +kernel
theorem dX7_sends_57 : decode cX7_sends 57 = .ok (.invokevirtual 137, 3) := by decide +kernel
theorem dX7_sends_60 : decode cX7_sends 60 = .ok (.aload_n 0, 1) := by decide +kernel
theorem dX7_sends_61 : decode cX7_sends 61 = .ok (.getfield 10, 3) := by decide +kernel
theorem dX7_sends_64 : decode cX7_sends 64 = .ok (.iload_n 1, 1) := by decide +kernel
theorem dX7_sends_65 : decode cX7_sends 65 = .ok (.invokevirtual 140, 3) := by decide +kernel
theorem dX7_sends_68 : decode cX7_sends 68 = .ok (.pop, 1) := by decide +kernel
theorem dX7_sends_69 : decode cX7_sends 69 = .ok (.aload_n 0, 1) := by decide +kernel
theorem dX7_sends_70 : decode cX7_sends 70 = .ok (.getfield 10, 3) := by decide +kernel
theorem dX7_sends_73 : decode cX7_sends 73 = .ok (.iload_n 1, 1) := by decide +kernel
theorem dX7_sends_74 : decode cX7_sends 74 = .ok (.invokevirtual 143, 3) := by decide +kernel
theorem dX7_sends_77 : decode cX7_sends 77 = .ok (.ireturn, 1) := by decide +kernel
theorem dX7_waits_0 : decode cX7_waits 0 = .ok (.iload_n 1, 1) := by decide +kernel
theorem dX7_waits_1 : decode cX7_waits 1 = .ok (.iconst 1, 1) := by decide +kernel
theorem dX7_waits_2 : decode cX7_waits 2 = .ok (.bipush 99, 2) := by decide +kernel
theorem dX7_waits_4 : decode cX7_waits 4 = .ok (.invokestatic 60, 3) := by decide +kernel
theorem dX7_waits_7 : decode cX7_waits 7 = .ok (.ifCond .ne 8, 3) := by decide +kernel
theorem dX7_waits_10 : decode cX7_waits 10 = .ok (.aload_n 0, 1) := by decide +kernel
theorem dX7_waits_11 : decode cX7_waits 11 = .ok (.invokevirtual 64, 3) := by decide +kernel
theorem dX7_waits_14 : decode cX7_waits 14 = .ok (.ireturn, 1) := by decide +kernel
theorem dX7_waits_15 : decode cX7_waits 15 = .ok (.aload_n 0, 1) := by decide +kernel
theorem dX7_waits_16 : decode cX7_waits 16 = .ok (.getfield 10, 3) := by decide +kernel
theorem dX7_waits_19 : decode cX7_waits 19 = .ok (.invokevirtual 137, 3) := by decide +kernel
theorem dX7_waits_22 : decode cX7_waits 22 = .ok (.aload_n 0, 1) := by decide +kernel
theorem dX7_waits_23 : decode cX7_waits 23 = .ok (.getfield 10, 3) := by decide +kernel
theorem dX7_waits_26 : decode cX7_waits 26 = .ok (.iload_n 1, 1) := by decide +kernel
theorem dX7_waits_27 : decode cX7_waits 27 = .ok (.invokevirtual 146, 3) := by decide +kernel
theorem dX7_waits_30 : decode cX7_waits 30 = .ok (.aload_n 0, 1) := by decide +kernel
theorem dX7_waits_31 : decode cX7_waits 31 = .ok (.getfield 10, 3) := by decide +kernel
theorem dX7_waits_34 : decode cX7_waits 34 = .ok (.getfield 124, 3) := by decide +kernel
theorem dX7_waits_37 : decode cX7_waits 37 = .ok (.ireturn, 1) := by decide +kernel
theorem dX7_undo_0 : decode cX7_undo 0 = .ok (.aload_n 0, 1) := by decide +kernel
theorem dX7_undo_1 : decode cX7_undo 1 = .ok (.getfield 10, 3) := by decide +kernel
theorem dX7_undo_4 : decode cX7_undo 4 = .ok (.invokevirtual 150, 3) := by decide +kernel
theorem dX7_undo_7 : decode cX7_undo 7 = .ok (.ifCond .ne 8, 3) := by decide +kernel
theorem dX7_undo_10 : decode cX7_undo 10 = .ok (.aload_n 0, 1) := by decide +kernel
theorem dX7_undo_11 : decode cX7_undo 11 = .ok (.invokevirtual 134, 3) := by decide +kernel
theorem dX7_undo_14 : decode cX7_undo 14 = .ok (.ireturn, 1) := by decide +kernel
theorem dX7_undo_15 : decode cX7_undo 15 = .ok (.aload_n 0, 1) := by decide +kernel
theorem dX7_undo_16 : decode cX7_undo 16 = .ok (.getfield 10, 3) := by decide +kernel
theorem dX7_undo_19 : decode cX7_undo 19 = .ok (.getfield 124, 3) := by decide +kernel
theorem dX7_undo_22 : decode cX7_undo 22 = .ok (.ireturn, 1) := by decide +kernel
theorem dX7_of_0 : decode cX7_of 0 = .ok (.aload_n 0, 1) := by decide +kernel
theorem dX7_of_1 : decode cX7_of 1 = .ok (.getfield 10, 3) := by decide +kernel
theorem dX7_of_4 : decode cX7_of 4 = .ok (.iload_n 1, 1) := by decide +kernel
theorem dX7_of_5 : decode cX7_of 5 = .ok (.invokevirtual 121, 3) := by decide +kernel
theorem dX7_of_8 : decode cX7_of 8 = .ok (.ifCond .eq 12, 3) := by decide +kernel
theorem dX7_of_11 : decode cX7_of 11 = .ok (.iload_n 2, 1) := by decide +kernel
theorem dX7_of_12 : decode cX7_of 12 = .ok (.iconst 0, 1) := by decide +kernel
theorem dX7_of_13 : decode cX7_of 13 = .ok (.iconst 1, 1) := by decide +kernel
theorem dX7_of_14 : decode cX7_of 14 = .ok (.invokestatic 60, 3) := by decide +kernel
theorem dX7_of_17 : decode cX7_of 17 = .ok (.ifCond .ne 8, 3) := by decide +kernel
theorem dX7_of_20 : decode cX7_of 20 = .ok (.aload_n 0, 1) := by decide +kernel
theorem dX7_of_21 : decode cX7_of 21 = .ok (.invokevirtual 64, 3) := by decide +kernel
theorem dX7_of_24 : decode cX7_of 24 = .ok (.ireturn, 1) := by decide +kernel
theorem dX7_of_25 : decode cX7_of 25 = .ok (.iload_n 2, 1) := by decide +kernel
theorem dX7_of_26 : decode cX7_of 26 = .ok (.ifCond .ne 14, 3) := by decide +kernel
theorem dX7_of_29 : decode cX7_of 29 = .ok (.aload_n 0, 1) := by decide +kernel
theorem dX7_of_30 : decode cX7_of 30 = .ok (.getfield 10, 3) := by decide +kernel
theorem dX7_of_33 : decode cX7_of 33 = .ok (.iload_n 1, 1) := by decide +kernel
theorem dX7_of_34 : decode cX7_of 34 = .ok (.invokevirtual 153, 3) := by decide +kernel
theorem dX7_of_37 : decode cX7_of 37 = .ok (.goto 11, 3) := by decide +kernel
theorem dX7_of_40 : decode cX7_of 40 = .ok (.aload_n 0, 1) := by decide +kernel
theorem dX7_of_41 : decode cX7_of 41 = .ok (.getfield 10, 3) := by decide +kernel
theorem dX7_of_44 : decode cX7_of 44 = .ok (.iload_n 1, 1) := by decide +kernel
theorem dX7_of_45 : decode cX7_of 45 = .ok (.invokevirtual 156, 3) := by decide +kernel
theorem dX7_of_48 : decode cX7_of 48 = .ok (.ireturn, 1) := by decide +kernel
theorem dX7_now_0 : decode cX7_now 0 = .ok (.iload_n 1, 1) := by decide +kernel
theorem dX7_now_1 : decode cX7_now 1 = .ok (.iconst 0, 1) := by decide +kernel
theorem dX7_now_2 : decode cX7_now 2 = .ok (.bipush 6, 2) := by decide +kernel
theorem dX7_now_4 : decode cX7_now 4 = .ok (.invokestatic 60, 3) := by decide +kernel
theorem dX7_now_7 : decode cX7_now 7 = .ok (.ifCond .ne 8, 3) := by decide +kernel
theorem dX7_now_10 : decode cX7_now 10 = .ok (.aload_n 0, 1) := by decide +kernel
theorem dX7_now_11 : decode cX7_now 11 = .ok (.invokevirtual 64, 3) := by decide +kernel
theorem dX7_now_14 : decode cX7_now 14 = .ok (.ireturn, 1) := by decide +kernel
theorem dX7_now_15 : decode cX7_now 15 = .ok (.aload_n 0, 1) := by decide +kernel
theorem dX7_now_16 : decode cX7_now 16 = .ok (.getfield 10, 3) := by decide +kernel
theorem dX7_now_19 : decode cX7_now 19 = .ok (.iload_n 1, 1) := by decide +kernel
theorem dX7_now_20 : decode cX7_now 20 = .ok (.invokevirtual 159, 3) := by decide +kernel
theorem dX7_now_23 : decode cX7_now 23 = .ok (.ireturn, 1) := by decide +kernel
theorem dX7_asks_0 : decode cX7_asks 0 = .ok (.aload_n 0, 1) := by decide +kernel
theorem dX7_asks_1 : decode cX7_asks 1 = .ok (.getfield 10, 3) := by decide +kernel
theorem dX7_asks_4 : decode cX7_asks 4 = .ok (.iload_n 1, 1) := by decide +kernel
theorem dX7_asks_5 : decode cX7_asks 5 = .ok (.invokevirtual 121, 3) := by decide +kernel
theorem dX7_asks_8 : decode cX7_asks 8 = .ok (.ifCond .eq 22, 3) := by decide +kernel
theorem dX7_asks_11 : decode cX7_asks 11 = .ok (.iload_n 2, 1) := by decide +kernel
theorem dX7_asks_12 : decode cX7_asks 12 = .ok (.iconst 0, 1) := by decide +kernel
theorem dX7_asks_13 : decode cX7_asks 13 = .ok (.bipush 47, 2) := by decide +kernel
theorem dX7_asks_15 : decode cX7_asks 15 = .ok (.invokestatic 60, 3) := by decide +kernel
theorem dX7_asks_18 : decode cX7_asks 18 = .ok (.ifCond .eq 12, 3) := by decide +kernel
theorem dX7_asks_21 : decode cX7_asks 21 = .ok (.iload_n 3, 1) := by decide +kernel
theorem dX7_asks_22 : decode cX7_asks 22 = .ok (.iconst 0, 1) := by decide +kernel
theorem dX7_asks_23 : decode cX7_asks 23 = .ok (.iconst 2, 1) := by decide +kernel
theorem dX7_asks_24 : decode cX7_asks 24 = .ok (.invokestatic 60, 3) := by decide +kernel
theorem dX7_asks_27 : decode cX7_asks 27 = .ok (.ifCond .ne 8, 3) := by decide +kernel
theorem dX7_asks_30 : decode cX7_asks 30 = .ok (.aload_n 0, 1) := by decide +kernel
theorem dX7_asks_31 : decode cX7_asks 31 = .ok (.invokevirtual 64, 3) := by decide +kernel
theorem dX7_asks_34 : decode cX7_asks 34 = .ok (.ireturn, 1) := by decide +kernel
theorem dX7_asks_35 : decode cX7_asks 35 = .ok (.iload_n 3, 1) := by decide +kernel
theorem dX7_asks_36 : decode cX7_asks 36 = .ok (.ifCond .ne 13, 3) := by decide +kernel
theorem dX7_asks_39 : decode cX7_asks 39 = .ok (.aload_n 0, 1) := by decide +kernel
theorem dX7_asks_40 : decode cX7_asks 40 = .ok (.getfield 10, 3) := by decide +kernel
theorem dX7_asks_43 : decode cX7_asks 43 = .ok (.iload_n 1, 1) := by decide +kernel
theorem dX7_asks_44 : decode cX7_asks 44 = .ok (.iload_n 2, 1) := by decide +kernel
theorem dX7_asks_45 : decode cX7_asks 45 = .ok (.invokevirtual 162, 3) := by decide +kernel
theorem dX7_asks_48 : decode cX7_asks 48 = .ok (.ireturn, 1) := by decide +kernel
theorem dX7_asks_49 : decode cX7_asks 49 = .ok (.iload_n 3, 1) := by decide +kernel
theorem dX7_asks_50 : decode cX7_asks 50 = .ok (.iconst 1, 1) := by decide +kernel
theorem dX7_asks_51 : decode cX7_asks 51 = .ok (.if_icmp .ne 15, 3) := by decide +kernel
theorem dX7_asks_54 : decode cX7_asks 54 = .ok (.aload_n 0, 1) := by decide +kernel
theorem dX7_asks_55 : decode cX7_asks 55 = .ok (.getfield 10, 3) := by decide +kernel
theorem dX7_asks_58 : decode cX7_asks 58 = .ok (.iload_n 1, 1) := by decide +kernel
theorem dX7_asks_59 : decode cX7_asks 59 = .ok (.iload_n 2, 1) := by decide +kernel
theorem dX7_asks_60 : decode cX7_asks 60 = .ok (.invokevirtual 127, 3) := by decide +kernel
theorem dX7_asks_63 : decode cX7_asks 63 = .ok (.goto 11, 3) := by decide +kernel
theorem dX7_asks_66 : decode cX7_asks 66 = .ok (.aload_n 0, 1) := by decide +kernel
theorem dX7_asks_67 : decode cX7_asks 67 = .ok (.getfield 10, 3) := by decide +kernel
theorem dX7_asks_70 : decode cX7_asks 70 = .ok (.iload_n 1, 1) := by decide +kernel
theorem dX7_asks_71 : decode cX7_asks 71 = .ok (.invokevirtual 143, 3) := by decide +kernel
theorem dX7_asks_74 : decode cX7_asks 74 = .ok (.ireturn, 1) := by decide +kernel
theorem dX7_cheapest_0 : decode cX7_cheapest 0 = .ok (.aload_n 0, 1) := by decide +kernel
theorem dX7_cheapest_1 : decode cX7_cheapest 1 = .ok (.getfield 10, 3) := by decide +kernel
theorem dX7_cheapest_4 : decode cX7_cheapest 4 = .ok (.iload_n 1, 1) := by decide +kernel
theorem dX7_cheapest_5 : decode cX7_cheapest 5 = .ok (.invokevirtual 121, 3) := by decide +kernel
theorem dX7_cheapest_8 : decode cX7_cheapest 8 = .ok (.ifCond .eq 12, 3) := by decide +kernel
theorem dX7_cheapest_11 : decode cX7_cheapest 11 = .ok (.iload_n 2, 1) := by decide +kernel
theorem dX7_cheapest_12 : decode cX7_cheapest 12 = .ok (.iconst 0, 1) := by decide +kernel
theorem dX7_cheapest_13 : decode cX7_cheapest 13 = .ok (.iconst 1, 1) := by decide +kernel
theorem dX7_cheapest_14 : decode cX7_cheapest 14 = .ok (.invokestatic 60, 3) := by decide +kernel
theorem dX7_cheapest_17 : decode cX7_cheapest 17 = .ok (.ifCond .ne 8, 3) := by decide +kernel
theorem dX7_cheapest_20 : decode cX7_cheapest 20 = .ok (.aload_n 0, 1) := by decide +kernel
theorem dX7_cheapest_21 : decode cX7_cheapest 21 = .ok (.invokevirtual 64, 3) := by decide +kernel
theorem dX7_cheapest_24 : decode cX7_cheapest 24 = .ok (.ireturn, 1) := by decide +kernel
theorem dX7_cheapest_25 : decode cX7_cheapest 25 = .ok (.iconst 0, 1) := by decide +kernel
theorem dX7_cheapest_26 : decode cX7_cheapest 26 = .ok (.istore_n 3, 1) := by decide +kernel
theorem dX7_cheapest_27 : decode cX7_cheapest 27 = .ok (.aload_n 0, 1) := by decide +kernel
theorem dX7_cheapest_28 : decode cX7_cheapest 28 = .ok (.getfield 10, 3) := by decide +kernel
theorem dX7_cheapest_31 : decode cX7_cheapest 31 = .ok (.iload_n 1, 1) := by decide +kernel
theorem dX7_cheapest_32 : decode cX7_cheapest 32 = .ok (.iconst 0, 1) := by decide +kernel
theorem dX7_cheapest_33 : decode cX7_cheapest 33 = .ok (.invokevirtual 127, 3) := by decide +kernel
theorem dX7_cheapest_36 : decode cX7_cheapest 36 = .ok (.istore 4, 2) := by decide +kernel
theorem dX7_cheapest_38 : decode cX7_cheapest 38 = .ok (.iconst 1, 1) := by decide +kernel
theorem dX7_cheapest_39 : decode cX7_cheapest 39 = .ok (.istore 5, 2) := by decide +kernel
theorem dX7_cheapest_41 : decode cX7_cheapest 41 = .ok (.iload 5, 2) := by decide +kernel
theorem dX7_cheapest_43 : decode cX7_cheapest 43 = .ok (.bipush 47, 2) := by decide +kernel
theorem dX7_cheapest_45 : decode cX7_cheapest 45 = .ok (.if_icmp .gt 35, 3) := by decide +kernel
theorem dX7_cheapest_48 : decode cX7_cheapest 48 = .ok (.aload_n 0, 1) := by decide +kernel
theorem dX7_cheapest_49 : decode cX7_cheapest 49 = .ok (.getfield 10, 3) := by decide +kernel
theorem dX7_cheapest_52 : decode cX7_cheapest 52 = .ok (.iload_n 1, 1) := by decide +kernel
theorem dX7_cheapest_53 : decode cX7_cheapest 53 = .ok (.iload 5, 2) := by decide +kernel
theorem dX7_cheapest_55 : decode cX7_cheapest 55 = .ok (.invokevirtual 127, 3) := by decide +kernel
theorem dX7_cheapest_58 : decode cX7_cheapest 58 = .ok (.istore 6, 2) := by decide +kernel
theorem dX7_cheapest_60 : decode cX7_cheapest 60 = .ok (.iload 6, 2) := by decide +kernel
theorem dX7_cheapest_62 : decode cX7_cheapest 62 = .ok (.iload 4, 2) := by decide +kernel
theorem dX7_cheapest_64 : decode cX7_cheapest 64 = .ok (.if_icmp .ge 10, 3) := by decide +kernel
theorem dX7_cheapest_67 : decode cX7_cheapest 67 = .ok (.iload 6, 2) := by decide +kernel
theorem dX7_cheapest_69 : decode cX7_cheapest 69 = .ok (.istore 4, 2) := by decide +kernel
theorem dX7_cheapest_71 : decode cX7_cheapest 71 = .ok (.iload 5, 2) := by decide +kernel
theorem dX7_cheapest_73 : decode cX7_cheapest 73 = .ok (.istore_n 3, 1) := by decide +kernel
theorem dX7_cheapest_74 : decode cX7_cheapest 74 = .ok (.iinc 5 1, 3) := by decide +kernel
theorem dX7_cheapest_77 : decode cX7_cheapest 77 = .ok (.goto (-36), 3) := by decide +kernel
theorem dX7_cheapest_80 : decode cX7_cheapest 80 = .ok (.iload_n 2, 1) := by decide +kernel
theorem dX7_cheapest_81 : decode cX7_cheapest 81 = .ok (.ifCond .ne 7, 3) := by decide +kernel
theorem dX7_cheapest_84 : decode cX7_cheapest 84 = .ok (.iload_n 3, 1) := by decide +kernel
theorem dX7_cheapest_85 : decode cX7_cheapest 85 = .ok (.goto 5, 3) := by decide +kernel
theorem dX7_cheapest_88 : decode cX7_cheapest 88 = .ok (.iload 4, 2) := by decide +kernel
theorem dX7_cheapest_90 : decode cX7_cheapest 90 = .ok (.ireturn, 1) := by decide +kernel
theorem dX7_cuts_0 : decode cX7_cuts 0 = .ok (.iload_n 1, 1) := by decide +kernel
theorem dX7_cuts_1 : decode cX7_cuts 1 = .ok (.invokestatic 82, 3) := by decide +kernel
theorem dX7_cuts_4 : decode cX7_cuts 4 = .ok (.ifCond .eq 22, 3) := by decide +kernel
theorem dX7_cuts_7 : decode cX7_cuts 7 = .ok (.iload_n 2, 1) := by decide +kernel
theorem dX7_cuts_8 : decode cX7_cuts 8 = .ok (.iconst 2, 1) := by decide +kernel
theorem dX7_cuts_9 : decode cX7_cuts 9 = .ok (.bipush 60, 2) := by decide +kernel
theorem dX7_cuts_11 : decode cX7_cuts 11 = .ok (.invokestatic 60, 3) := by decide +kernel
theorem dX7_cuts_14 : decode cX7_cuts 14 = .ok (.ifCond .eq 12, 3) := by decide +kernel
theorem dX7_cuts_17 : decode cX7_cuts 17 = .ok (.iload_n 3, 1) := by decide +kernel
theorem dX7_cuts_18 : decode cX7_cuts 18 = .ok (.iconst 0, 1) := by decide +kernel
theorem dX7_cuts_19 : decode cX7_cuts 19 = .ok (.iconst 1, 1) := by decide +kernel
theorem dX7_cuts_20 : decode cX7_cuts 20 = .ok (.invokestatic 60, 3) := by decide +kernel
theorem dX7_cuts_23 : decode cX7_cuts 23 = .ok (.ifCond .ne 8, 3) := by decide +kernel
theorem dX7_cuts_26 : decode cX7_cuts 26 = .ok (.aload_n 0, 1) := by decide +kernel
theorem dX7_cuts_27 : decode cX7_cuts 27 = .ok (.invokevirtual 64, 3) := by decide +kernel
theorem dX7_cuts_30 : decode cX7_cuts 30 = .ok (.ireturn, 1) := by decide +kernel
theorem dX7_cuts_31 : decode cX7_cuts 31 = .ok (.iconst 1, 1) := by decide +kernel
theorem dX7_cuts_32 : decode cX7_cuts 32 = .ok (.istore 4, 2) := by decide +kernel
theorem dX7_cuts_34 : decode cX7_cuts 34 = .ok (.aload_n 0, 1) := by decide +kernel
theorem dX7_cuts_35 : decode cX7_cuts 35 = .ok (.getfield 10, 3) := by decide +kernel
theorem dX7_cuts_38 : decode cX7_cuts 38 = .ok (.iload_n 1, 1) := by decide +kernel
theorem dX7_cuts_39 : decode cX7_cuts 39 = .ok (.iconst 1, 1) := by decide +kernel
theorem dX7_cuts_40 : decode cX7_cuts 40 = .ok (.iload_n 2, 1) := by decide +kernel
theorem dX7_cuts_41 : decode cX7_cuts 41 = .ok (.iconst 1, 1) := by decide +kernel
theorem dX7_cuts_42 : decode cX7_cuts 42 = .ok (.isub, 1) := by decide +kernel
theorem dX7_cuts_43 : decode cX7_cuts 43 = .ok (.invokevirtual 165, 3) := by decide +kernel
theorem dX7_cuts_46 : decode cX7_cuts 46 = .ok (.istore 5, 2) := by decide +kernel
theorem dX7_cuts_48 : decode cX7_cuts 48 = .ok (.iconst 2, 1) := by decide +kernel
theorem dX7_cuts_49 : decode cX7_cuts 49 = .ok (.istore 6, 2) := by decide +kernel
theorem dX7_cuts_51 : decode cX7_cuts 51 = .ok (.iload 6, 2) := by decide +kernel
theorem dX7_cuts_53 : decode cX7_cuts 53 = .ok (.iload_n 2, 1) := by decide +kernel
theorem dX7_cuts_54 : decode cX7_cuts 54 = .ok (.if_icmp .ge 40, 3) := by decide +kernel
theorem dX7_cuts_57 : decode cX7_cuts 57 = .ok (.aload_n 0, 1) := by decide +kernel
theorem dX7_cuts_58 : decode cX7_cuts 58 = .ok (.getfield 10, 3) := by decide +kernel
theorem dX7_cuts_61 : decode cX7_cuts 61 = .ok (.iload_n 1, 1) := by decide +kernel
theorem dX7_cuts_62 : decode cX7_cuts 62 = .ok (.iload 6, 2) := by decide +kernel
theorem dX7_cuts_64 : decode cX7_cuts 64 = .ok (.iload_n 2, 1) := by decide +kernel
theorem dX7_cuts_65 : decode cX7_cuts 65 = .ok (.iload 6, 2) := by decide +kernel
theorem dX7_cuts_67 : decode cX7_cuts 67 = .ok (.isub, 1) := by decide +kernel
theorem dX7_cuts_68 : decode cX7_cuts 68 = .ok (.invokevirtual 165, 3) := by decide +kernel
theorem dX7_cuts_71 : decode cX7_cuts 71 = .ok (.istore 7, 2) := by decide +kernel
theorem dX7_cuts_73 : decode cX7_cuts 73 = .ok (.iload 7, 2) := by decide +kernel
theorem dX7_cuts_75 : decode cX7_cuts 75 = .ok (.iload 5, 2) := by decide +kernel
theorem dX7_cuts_77 : decode cX7_cuts 77 = .ok (.if_icmp .ge 11, 3) := by decide +kernel
theorem dX7_cuts_80 : decode cX7_cuts 80 = .ok (.iload 7, 2) := by decide +kernel
theorem dX7_cuts_82 : decode cX7_cuts 82 = .ok (.istore 5, 2) := by decide +kernel
theorem dX7_cuts_84 : decode cX7_cuts 84 = .ok (.iload 6, 2) := by decide +kernel
theorem dX7_cuts_86 : decode cX7_cuts 86 = .ok (.istore 4, 2) := by decide +kernel
theorem dX7_cuts_88 : decode cX7_cuts 88 = .ok (.iinc 6 1, 3) := by decide +kernel
theorem dX7_cuts_91 : decode cX7_cuts 91 = .ok (.goto (-40), 3) := by decide +kernel
theorem dX7_cuts_94 : decode cX7_cuts 94 = .ok (.iload_n 3, 1) := by decide +kernel
theorem dX7_cuts_95 : decode cX7_cuts 95 = .ok (.ifCond .ne 8, 3) := by decide +kernel
theorem dX7_cuts_98 : decode cX7_cuts 98 = .ok (.iload 5, 2) := by decide +kernel
theorem dX7_cuts_100 : decode cX7_cuts 100 = .ok (.goto 5, 3) := by decide +kernel
theorem dX7_cuts_103 : decode cX7_cuts 103 = .ok (.iload 4, 2) := by decide +kernel
theorem dX7_cuts_105 : decode cX7_cuts 105 = .ok (.ireturn, 1) := by decide +kernel
theorem dX7_row_0 : decode cX7_row 0 = .ok (.iload_n 1, 1) := by decide +kernel
theorem dX7_row_1 : decode cX7_row 1 = .ok (.bipush (-2), 2) := by decide +kernel
theorem dX7_row_3 : decode cX7_row 3 = .ok (.if_icmp .ge 11, 3) := by decide +kernel
theorem dX7_row_6 : decode cX7_row 6 = .ok (.aload_n 0, 1) := by decide +kernel
theorem dX7_row_7 : decode cX7_row 7 = .ok (.invokevirtual 64, 3) := by decide +kernel
theorem dX7_row_10 : decode cX7_row 10 = .ok (.pop, 1) := by decide +kernel
theorem dX7_row_11 : decode cX7_row 11 = .ok (.bipush (-10), 2) := by decide +kernel
theorem dX7_row_13 : decode cX7_row 13 = .ok (.ireturn, 1) := by decide +kernel
theorem dX7_row_14 : decode cX7_row 14 = .ok (.aload_n 0, 1) := by decide +kernel
theorem dX7_row_15 : decode cX7_row 15 = .ok (.getfield 35, 3) := by decide +kernel
theorem dX7_row_18 : decode cX7_row 18 = .ok (.aload_n 0, 1) := by decide +kernel
theorem dX7_row_19 : decode cX7_row 19 = .ok (.getfield 10, 3) := by decide +kernel
theorem dX7_row_22 : decode cX7_row 22 = .ok (.invokevirtual 169, 3) := by decide +kernel
theorem dX7_row_25 : decode cX7_row 25 = .ok (.iload_n 1, 1) := by decide +kernel
theorem dX7_row_26 : decode cX7_row 26 = .ok (.bipush (-2), 2) := by decide +kernel
theorem dX7_row_28 : decode cX7_row 28 = .ok (.if_icmp .ne 11, 3) := by decide +kernel
theorem dX7_row_31 : decode cX7_row 31 = .ok (.aload_n 0, 1) := by decide +kernel
theorem dX7_row_32 : decode cX7_row 32 = .ok (.getfield 35, 3) := by decide +kernel
theorem dX7_row_35 : decode cX7_row 35 = .ok (.getfield 173, 3) := by decide +kernel
theorem dX7_row_38 : decode cX7_row 38 = .ok (.ireturn, 1) := by decide +kernel
theorem dX7_row_39 : decode cX7_row 39 = .ok (.iload_n 1, 1) := by decide +kernel
theorem dX7_row_40 : decode cX7_row 40 = .ok (.iconst (-1), 1) := by decide +kernel
theorem dX7_row_41 : decode cX7_row 41 = .ok (.if_icmp .ne 11, 3) := by decide +kernel
theorem dX7_row_44 : decode cX7_row 44 = .ok (.aload_n 0, 1) := by decide +kernel
theorem dX7_row_45 : decode cX7_row 45 = .ok (.getfield 35, 3) := by decide +kernel
theorem dX7_row_48 : decode cX7_row 48 = .ok (.getfield 176, 3) := by decide +kernel
theorem dX7_row_51 : decode cX7_row 51 = .ok (.ireturn, 1) := by decide +kernel
theorem dX7_row_52 : decode cX7_row 52 = .ok (.aload_n 0, 1) := by decide +kernel
theorem dX7_row_53 : decode cX7_row 53 = .ok (.getfield 35, 3) := by decide +kernel
theorem dX7_row_56 : decode cX7_row 56 = .ok (.iload_n 1, 1) := by decide +kernel
theorem dX7_row_57 : decode cX7_row 57 = .ok (.invokevirtual 179, 3) := by decide +kernel
theorem dX7_row_60 : decode cX7_row 60 = .ok (.ifCond .eq 14, 3) := by decide +kernel
theorem dX7_row_63 : decode cX7_row 63 = .ok (.aload_n 0, 1) := by decide +kernel
theorem dX7_row_64 : decode cX7_row 64 = .ok (.getfield 35, 3) := by decide +kernel
theorem dX7_row_67 : decode cX7_row 67 = .ok (.iload_n 1, 1) := by decide +kernel
theorem dX7_row_68 : decode cX7_row 68 = .ok (.invokevirtual 182, 3) := by decide +kernel
theorem dX7_row_71 : decode cX7_row 71 = .ok (.goto 5, 3) := by decide +kernel
theorem dX7_row_74 : decode cX7_row 74 = .ok (.bipush (-5), 2) := by decide +kernel
theorem dX7_row_76 : decode cX7_row 76 = .ok (.ireturn, 1) := by decide +kernel
theorem dX7_came_0 : decode cX7_came 0 = .ok (.iload_n 1, 1) := by decide +kernel
theorem dX7_came_1 : decode cX7_came 1 = .ok (.iconst 1, 1) := by decide +kernel
theorem dX7_came_2 : decode cX7_came 2 = .ok (.bipush 60, 2) := by decide +kernel
theorem dX7_came_4 : decode cX7_came 4 = .ok (.invokestatic 60, 3) := by decide +kernel
theorem dX7_came_7 : decode cX7_came 7 = .ok (.ifCond .eq 13, 3) := by decide +kernel
theorem dX7_came_10 : decode cX7_came 10 = .ok (.iload_n 2, 1) := by decide +kernel
theorem dX7_came_11 : decode cX7_came 11 = .ok (.iconst 0, 1) := by decide +kernel
theorem dX7_came_12 : decode cX7_came 12 = .ok (.bipush 60, 2) := by decide +kernel
theorem dX7_came_14 : decode cX7_came 14 = .ok (.invokestatic 60, 3) := by decide +kernel
theorem dX7_came_17 : decode cX7_came 17 = .ok (.ifCond .ne 8, 3) := by decide +kernel
theorem dX7_came_20 : decode cX7_came 20 = .ok (.aload_n 0, 1) := by decide +kernel
theorem dX7_came_21 : decode cX7_came 21 = .ok (.invokevirtual 64, 3) := by decide +kernel
theorem dX7_came_24 : decode cX7_came 24 = .ok (.ireturn, 1) := by decide +kernel
theorem dX7_came_25 : decode cX7_came 25 = .ok (.aload_n 0, 1) := by decide +kernel
theorem dX7_came_26 : decode cX7_came 26 = .ok (.aload_n 0, 1) := by decide +kernel
theorem dX7_came_27 : decode cX7_came 27 = .ok (.getfield 10, 3) := by decide +kernel
theorem dX7_came_30 : decode cX7_came 30 = .ok (.getfield 185, 3) := by decide +kernel
theorem dX7_came_33 : decode cX7_came 33 = .ok (.iload_n 1, 1) := by decide +kernel
theorem dX7_came_34 : decode cX7_came 34 = .ok (.iload_n 2, 1) := by decide +kernel
theorem dX7_came_35 : decode cX7_came 35 = .ok (.iconst 0, 1) := by decide +kernel
theorem dX7_came_36 : decode cX7_came 36 = .ok (.iconst 0, 1) := by decide +kernel
theorem dX7_came_37 : decode cX7_came 37 = .ok (.invokevirtual 188, 3) := by decide +kernel
theorem dX7_came_40 : decode cX7_came 40 = .ok (.ireturn, 1) := by decide +kernel
theorem dX7_lines_0 : decode cX7_lines 0 = .ok (.iload_n 1, 1) := by decide +kernel
theorem dX7_lines_1 : decode cX7_lines 1 = .ok (.iconst 0, 1) := by decide +kernel
theorem dX7_lines_2 : decode cX7_lines 2 = .ok (.iconst 2, 1) := by decide +kernel
theorem dX7_lines_3 : decode cX7_lines 3 = .ok (.invokestatic 60, 3) := by decide +kernel
theorem dX7_lines_6 : decode cX7_lines 6 = .ok (.ifCond .ne 8, 3) := by decide +kernel
theorem dX7_lines_9 : decode cX7_lines 9 = .ok (.aload_n 0, 1) := by decide +kernel
theorem dX7_lines_10 : decode cX7_lines 10 = .ok (.invokevirtual 64, 3) := by decide +kernel
theorem dX7_lines_13 : decode cX7_lines 13 = .ok (.ireturn, 1) := by decide +kernel
theorem dX7_lines_14 : decode cX7_lines 14 = .ok (.iload_n 1, 1) := by decide +kernel
theorem dX7_lines_15 : decode cX7_lines 15 = .ok (.ifCond .ne 15, 3) := by decide +kernel
theorem dX7_lines_18 : decode cX7_lines 18 = .ok (.aload_n 0, 1) := by decide +kernel
theorem dX7_lines_19 : decode cX7_lines 19 = .ok (.getfield 42, 3) := by decide +kernel
theorem dX7_lines_22 : decode cX7_lines 22 = .ok (.aload_n 0, 1) := by decide +kernel
theorem dX7_lines_23 : decode cX7_lines 23 = .ok (.getfield 10, 3) := by decide +kernel
theorem dX7_lines_26 : decode cX7_lines 26 = .ok (.invokevirtual 192, 3) := by decide +kernel
theorem dX7_lines_29 : decode cX7_lines 29 = .ok (.ireturn, 1) := by decide +kernel
theorem dX7_lines_30 : decode cX7_lines 30 = .ok (.iload_n 1, 1) := by decide +kernel
theorem dX7_lines_31 : decode cX7_lines 31 = .ok (.iconst 1, 1) := by decide +kernel
theorem dX7_lines_32 : decode cX7_lines 32 = .ok (.if_icmp .ne 17, 3) := by decide +kernel
theorem dX7_lines_35 : decode cX7_lines 35 = .ok (.aload_n 0, 1) := by decide +kernel
theorem dX7_lines_36 : decode cX7_lines 36 = .ok (.getfield 42, 3) := by decide +kernel
theorem dX7_lines_39 : decode cX7_lines 39 = .ok (.aload_n 0, 1) := by decide +kernel
theorem dX7_lines_40 : decode cX7_lines 40 = .ok (.getfield 10, 3) := by decide +kernel
theorem dX7_lines_43 : decode cX7_lines 43 = .ok (.invokevirtual 195, 3) := by decide +kernel
theorem dX7_lines_46 : decode cX7_lines 46 = .ok (.goto 14, 3) := by decide +kernel
theorem dX7_lines_49 : decode cX7_lines 49 = .ok (.aload_n 0, 1) := by decide +kernel
theorem dX7_lines_50 : decode cX7_lines 50 = .ok (.getfield 42, 3) := by decide +kernel
theorem dX7_lines_53 : decode cX7_lines 53 = .ok (.aload_n 0, 1) := by decide +kernel
theorem dX7_lines_54 : decode cX7_lines 54 = .ok (.getfield 10, 3) := by decide +kernel
theorem dX7_lines_57 : decode cX7_lines 57 = .ok (.invokevirtual 198, 3) := by decide +kernel
theorem dX7_lines_60 : decode cX7_lines 60 = .ok (.ireturn, 1) := by decide +kernel
theorem dX7_tries_0 : decode cX7_tries 0 = .ok (.aload_n 0, 1) := by decide +kernel
theorem dX7_tries_1 : decode cX7_tries 1 = .ok (.getfield 42, 3) := by decide +kernel
theorem dX7_tries_4 : decode cX7_tries 4 = .ok (.aload_n 0, 1) := by decide +kernel
theorem dX7_tries_5 : decode cX7_tries 5 = .ok (.getfield 10, 3) := by decide +kernel
theorem dX7_tries_8 : decode cX7_tries 8 = .ok (.invokevirtual 201, 3) := by decide +kernel
theorem dX7_tries_11 : decode cX7_tries 11 = .ok (.ireturn, 1) := by decide +kernel
theorem dX7_note_0 : decode cX7_note 0 = .ok (.aload_n 0, 1) := by decide +kernel
theorem dX7_note_1 : decode cX7_note 1 = .ok (.getfield 10, 3) := by decide +kernel
theorem dX7_note_4 : decode cX7_note 4 = .ok (.iload_n 1, 1) := by decide +kernel
theorem dX7_note_5 : decode cX7_note 5 = .ok (.invokevirtual 121, 3) := by decide +kernel
theorem dX7_note_8 : decode cX7_note 8 = .ok (.ifCond .eq 35, 3) := by decide +kernel
theorem dX7_note_11 : decode cX7_note 11 = .ok (.iload_n 2, 1) := by decide +kernel
theorem dX7_note_12 : decode cX7_note 12 = .ok (.iconst 1, 1) := by decide +kernel
theorem dX7_note_13 : decode cX7_note 13 = .ok (.bipush 60, 2) := by decide +kernel
theorem dX7_note_15 : decode cX7_note 15 = .ok (.invokestatic 60, 3) := by decide +kernel
theorem dX7_note_18 : decode cX7_note 18 = .ok (.ifCond .eq 25, 3) := by decide +kernel
theorem dX7_note_21 : decode cX7_note 21 = .ok (.iload_n 3, 1) := by decide +kernel
theorem dX7_note_22 : decode cX7_note 22 = .ok (.iconst 0, 1) := by decide +kernel
theorem dX7_note_23 : decode cX7_note 23 = .ok (.bipush 23, 2) := by decide +kernel
theorem dX7_note_25 : decode cX7_note 25 = .ok (.invokestatic 60, 3) := by decide +kernel
theorem dX7_note_28 : decode cX7_note 28 = .ok (.ifCond .eq 15, 3) := by decide +kernel
theorem dX7_note_31 : decode cX7_note 31 = .ok (.iload 4, 2) := by decide +kernel
theorem dX7_note_33 : decode cX7_note 33 = .ok (.iconst 0, 1) := by decide +kernel
theorem dX7_note_34 : decode cX7_note 34 = .ok (.sipush 200, 3) := by decide +kernel
theorem dX7_note_37 : decode cX7_note 37 = .ok (.invokestatic 60, 3) := by decide +kernel
theorem dX7_note_40 : decode cX7_note 40 = .ok (.ifCond .ne 8, 3) := by decide +kernel
theorem dX7_note_43 : decode cX7_note 43 = .ok (.aload_n 0, 1) := by decide +kernel
theorem dX7_note_44 : decode cX7_note 44 = .ok (.invokevirtual 64, 3) := by decide +kernel
theorem dX7_note_47 : decode cX7_note 47 = .ok (.ireturn, 1) := by decide +kernel
theorem dX7_note_48 : decode cX7_note 48 = .ok (.aload_n 0, 1) := by decide +kernel
theorem dX7_note_49 : decode cX7_note 49 = .ok (.aload_n 0, 1) := by decide +kernel
theorem dX7_note_50 : decode cX7_note 50 = .ok (.getfield 10, 3) := by decide +kernel
theorem dX7_note_53 : decode cX7_note 53 = .ok (.getfield 204, 3) := by decide +kernel
theorem dX7_note_56 : decode cX7_note 56 = .ok (.iload_n 1, 1) := by decide +kernel
theorem dX7_note_57 : decode cX7_note 57 = .ok (.iload_n 2, 1) := by decide +kernel
theorem dX7_note_58 : decode cX7_note 58 = .ok (.iload_n 3, 1) := by decide +kernel
theorem dX7_note_59 : decode cX7_note 59 = .ok (.iload 4, 2) := by decide +kernel
theorem dX7_note_61 : decode cX7_note 61 = .ok (.invokevirtual 188, 3) := by decide +kernel
theorem dX7_note_64 : decode cX7_note 64 = .ok (.ireturn, 1) := by decide +kernel
theorem dX7_mark_0 : decode cX7_mark 0 = .ok (.iload_n 1, 1) := by decide +kernel
theorem dX7_mark_1 : decode cX7_mark 1 = .ok (.iconst 0, 1) := by decide +kernel
theorem dX7_mark_2 : decode cX7_mark 2 = .ok (.iconst 1, 1) := by decide +kernel
theorem dX7_mark_3 : decode cX7_mark 3 = .ok (.invokestatic 60, 3) := by decide +kernel
theorem dX7_mark_6 : decode cX7_mark 6 = .ok (.ifCond .eq 35, 3) := by decide +kernel
theorem dX7_mark_9 : decode cX7_mark 9 = .ok (.iload_n 2, 1) := by decide +kernel
theorem dX7_mark_10 : decode cX7_mark 10 = .ok (.iconst 0, 1) := by decide +kernel
theorem dX7_mark_11 : decode cX7_mark 11 = .ok (.bipush 99, 2) := by decide +kernel
theorem dX7_mark_13 : decode cX7_mark 13 = .ok (.invokestatic 60, 3) := by decide +kernel
theorem dX7_mark_16 : decode cX7_mark 16 = .ok (.ifCond .eq 25, 3) := by decide +kernel
theorem dX7_mark_19 : decode cX7_mark 19 = .ok (.iload_n 3, 1) := by decide +kernel
theorem dX7_mark_20 : decode cX7_mark 20 = .ok (.iconst 0, 1) := by decide +kernel
theorem dX7_mark_21 : decode cX7_mark 21 = .ok (.bipush 99, 2) := by decide +kernel
theorem dX7_mark_23 : decode cX7_mark 23 = .ok (.invokestatic 60, 3) := by decide +kernel
theorem dX7_mark_26 : decode cX7_mark 26 = .ok (.ifCond .eq 15, 3) := by decide +kernel
theorem dX7_mark_29 : decode cX7_mark 29 = .ok (.iload 4, 2) := by decide +kernel
theorem dX7_mark_31 : decode cX7_mark 31 = .ok (.iconst 0, 1) := by decide +kernel
theorem dX7_mark_32 : decode cX7_mark 32 = .ok (.sipush 200, 3) := by decide +kernel
theorem dX7_mark_35 : decode cX7_mark 35 = .ok (.invokestatic 60, 3) := by decide +kernel
theorem dX7_mark_38 : decode cX7_mark 38 = .ok (.ifCond .ne 8, 3) := by decide +kernel
theorem dX7_mark_41 : decode cX7_mark 41 = .ok (.aload_n 0, 1) := by decide +kernel
theorem dX7_mark_42 : decode cX7_mark 42 = .ok (.invokevirtual 64, 3) := by decide +kernel
theorem dX7_mark_45 : decode cX7_mark 45 = .ok (.ireturn, 1) := by decide +kernel
theorem dX7_mark_46 : decode cX7_mark 46 = .ok (.aload_n 0, 1) := by decide +kernel
theorem dX7_mark_47 : decode cX7_mark 47 = .ok (.aload_n 0, 1) := by decide +kernel
theorem dX7_mark_48 : decode cX7_mark 48 = .ok (.getfield 10, 3) := by decide +kernel
theorem dX7_mark_51 : decode cX7_mark 51 = .ok (.getfield 207, 3) := by decide +kernel
theorem dX7_mark_54 : decode cX7_mark 54 = .ok (.iload_n 1, 1) := by decide +kernel
theorem dX7_mark_55 : decode cX7_mark 55 = .ok (.iload_n 2, 1) := by decide +kernel
theorem dX7_mark_56 : decode cX7_mark 56 = .ok (.iload_n 3, 1) := by decide +kernel
theorem dX7_mark_57 : decode cX7_mark 57 = .ok (.iload 4, 2) := by decide +kernel
theorem dX7_mark_59 : decode cX7_mark 59 = .ok (.invokevirtual 188, 3) := by decide +kernel
theorem dX7_mark_62 : decode cX7_mark 62 = .ok (.ireturn, 1) := by decide +kernel
theorem dX7_forget_0 : decode cX7_forget 0 = .ok (.iload_n 1, 1) := by decide +kernel
theorem dX7_forget_1 : decode cX7_forget 1 = .ok (.iconst 0, 1) := by decide +kernel
theorem dX7_forget_2 : decode cX7_forget 2 = .ok (.iconst 2, 1) := by decide +kernel
theorem dX7_forget_3 : decode cX7_forget 3 = .ok (.invokestatic 60, 3) := by decide +kernel
theorem dX7_forget_6 : decode cX7_forget 6 = .ok (.ifCond .ne 8, 3) := by decide +kernel
theorem dX7_forget_9 : decode cX7_forget 9 = .ok (.aload_n 0, 1) := by decide +kernel
theorem dX7_forget_10 : decode cX7_forget 10 = .ok (.invokevirtual 64, 3) := by decide +kernel
theorem dX7_forget_13 : decode cX7_forget 13 = .ok (.ireturn, 1) := by decide +kernel
theorem dX7_forget_14 : decode cX7_forget 14 = .ok (.iload_n 1, 1) := by decide +kernel
theorem dX7_forget_15 : decode cX7_forget 15 = .ok (.ifCond .ne 13, 3) := by decide +kernel
theorem dX7_forget_18 : decode cX7_forget 18 = .ok (.aload_n 0, 1) := by decide +kernel
theorem dX7_forget_19 : decode cX7_forget 19 = .ok (.getfield 10, 3) := by decide +kernel
theorem dX7_forget_22 : decode cX7_forget 22 = .ok (.getfield 185, 3) := by decide +kernel
theorem dX7_forget_25 : decode cX7_forget 25 = .ok (.goto 25, 3) := by decide +kernel
theorem dX7_forget_28 : decode cX7_forget 28 = .ok (.iload_n 1, 1) := by decide +kernel
theorem dX7_forget_29 : decode cX7_forget 29 = .ok (.iconst 1, 1) := by decide +kernel
theorem dX7_forget_30 : decode cX7_forget 30 = .ok (.if_icmp .ne 13, 3) := by decide +kernel
theorem dX7_forget_33 : decode cX7_forget 33 = .ok (.aload_n 0, 1) := by decide +kernel
theorem dX7_forget_34 : decode cX7_forget 34 = .ok (.getfield 10, 3) := by decide +kernel
theorem dX7_forget_37 : decode cX7_forget 37 = .ok (.getfield 204, 3) := by decide +kernel
theorem dX7_forget_40 : decode cX7_forget 40 = .ok (.goto 10, 3) := by decide +kernel
theorem dX7_forget_43 : decode cX7_forget 43 = .ok (.aload_n 0, 1) := by decide +kernel
theorem dX7_forget_44 : decode cX7_forget 44 = .ok (.getfield 10, 3) := by decide +kernel
theorem dX7_forget_47 : decode cX7_forget 47 = .ok (.getfield 207, 3) := by decide +kernel
theorem dX7_forget_50 : decode cX7_forget 50 = .ok (.astore_n 2, 1) := by decide +kernel
theorem dX7_forget_51 : decode cX7_forget 51 = .ok (.aload_n 2, 1) := by decide +kernel
theorem dX7_forget_52 : decode cX7_forget 52 = .ok (.getfield 72, 3) := by decide +kernel
theorem dX7_forget_55 : decode cX7_forget 55 = .ok (.istore_n 3, 1) := by decide +kernel
theorem dX7_forget_56 : decode cX7_forget 56 = .ok (.aload_n 2, 1) := by decide +kernel
theorem dX7_forget_57 : decode cX7_forget 57 = .ok (.invokevirtual 98, 3) := by decide +kernel
theorem dX7_forget_60 : decode cX7_forget 60 = .ok (.iload_n 3, 1) := by decide +kernel
theorem dX7_forget_61 : decode cX7_forget 61 = .ok (.ireturn, 1) := by decide +kernel
theorem dX7_is_0 : decode cX7_is 0 = .ok (.aload_n 0, 1) := by decide +kernel
theorem dX7_is_1 : decode cX7_is 1 = .ok (.getfield 10, 3) := by decide +kernel
theorem dX7_is_4 : decode cX7_is 4 = .ok (.iload_n 1, 1) := by decide +kernel
theorem dX7_is_5 : decode cX7_is 5 = .ok (.invokevirtual 121, 3) := by decide +kernel
theorem dX7_is_8 : decode cX7_is 8 = .ok (.ifCond .ne 8, 3) := by decide +kernel
theorem dX7_is_11 : decode cX7_is 11 = .ok (.aload_n 0, 1) := by decide +kernel
theorem dX7_is_12 : decode cX7_is 12 = .ok (.invokevirtual 64, 3) := by decide +kernel
theorem dX7_is_15 : decode cX7_is 15 = .ok (.ireturn, 1) := by decide +kernel
theorem dX7_is_16 : decode cX7_is 16 = .ok (.aload_n 0, 1) := by decide +kernel
theorem dX7_is_17 : decode cX7_is 17 = .ok (.getfield 42, 3) := by decide +kernel
theorem dX7_is_20 : decode cX7_is 20 = .ok (.aload_n 0, 1) := by decide +kernel
theorem dX7_is_21 : decode cX7_is 21 = .ok (.getfield 10, 3) := by decide +kernel
theorem dX7_is_24 : decode cX7_is 24 = .ok (.iload_n 1, 1) := by decide +kernel
theorem dX7_is_25 : decode cX7_is 25 = .ok (.invokevirtual 210, 3) := by decide +kernel
theorem dX7_is_28 : decode cX7_is 28 = .ok (.ireturn, 1) := by decide +kernel
theorem dX7_look_0 : decode cX7_look 0 = .ok (.aload_n 0, 1) := by decide +kernel
theorem dX7_look_1 : decode cX7_look 1 = .ok (.getfield 10, 3) := by decide +kernel
theorem dX7_look_4 : decode cX7_look 4 = .ok (.iload_n 1, 1) := by decide +kernel
theorem dX7_look_5 : decode cX7_look 5 = .ok (.invokevirtual 121, 3) := by decide +kernel
theorem dX7_look_8 : decode cX7_look 8 = .ok (.ifCond .ne 8, 3) := by decide +kernel
theorem dX7_look_11 : decode cX7_look 11 = .ok (.aload_n 0, 1) := by decide +kernel
theorem dX7_look_12 : decode cX7_look 12 = .ok (.invokevirtual 64, 3) := by decide +kernel
theorem dX7_look_15 : decode cX7_look 15 = .ok (.ireturn, 1) := by decide +kernel
theorem dX7_look_16 : decode cX7_look 16 = .ok (.aload_n 0, 1) := by decide +kernel
theorem dX7_look_17 : decode cX7_look 17 = .ok (.getfield 42, 3) := by decide +kernel
theorem dX7_look_20 : decode cX7_look 20 = .ok (.aload_n 0, 1) := by decide +kernel
theorem dX7_look_21 : decode cX7_look 21 = .ok (.getfield 10, 3) := by decide +kernel
theorem dX7_look_24 : decode cX7_look 24 = .ok (.iload_n 1, 1) := by decide +kernel
theorem dX7_look_25 : decode cX7_look 25 = .ok (.invokevirtual 214, 3) := by decide +kernel
theorem dX7_look_28 : decode cX7_look 28 = .ok (.ireturn, 1) := by decide +kernel
theorem dX7_kinds_0 : decode cX7_kinds 0 = .ok (.iload_n 1, 1) := by decide +kernel
theorem dX7_kinds_1 : decode cX7_kinds 1 = .ok (.iconst 0, 1) := by decide +kernel
theorem dX7_kinds_2 : decode cX7_kinds 2 = .ok (.iconst 1, 1) := by decide +kernel
theorem dX7_kinds_3 : decode cX7_kinds 3 = .ok (.invokestatic 60, 3) := by decide +kernel
theorem dX7_kinds_6 : decode cX7_kinds 6 = .ok (.ifCond .ne 8, 3) := by decide +kernel
theorem dX7_kinds_9 : decode cX7_kinds 9 = .ok (.aload_n 0, 1) := by decide +kernel
theorem dX7_kinds_10 : decode cX7_kinds 10 = .ok (.invokevirtual 64, 3) := by decide +kernel
theorem dX7_kinds_13 : decode cX7_kinds 13 = .ok (.ireturn, 1) := by decide +kernel
theorem dX7_kinds_14 : decode cX7_kinds 14 = .ok (.aload_n 0, 1) := by decide +kernel
theorem dX7_kinds_15 : decode cX7_kinds 15 = .ok (.getfield 42, 3) := by decide +kernel
theorem dX7_kinds_18 : decode cX7_kinds 18 = .ok (.aload_n 0, 1) := by decide +kernel
theorem dX7_kinds_19 : decode cX7_kinds 19 = .ok (.getfield 10, 3) := by decide +kernel
theorem dX7_kinds_22 : decode cX7_kinds 22 = .ok (.iload_n 1, 1) := by decide +kernel
theorem dX7_kinds_23 : decode cX7_kinds 23 = .ok (.invokevirtual 217, 3) := by decide +kernel
theorem dX7_kinds_26 : decode cX7_kinds 26 = .ok (.ireturn, 1) := by decide +kernel
theorem dX7_ask_0 : decode cX7_ask 0 = .ok (.iload_n 1, 1) := by decide +kernel
theorem dX7_ask_1 : decode cX7_ask 1 = .ok (.iconst 0, 1) := by decide +kernel
theorem dX7_ask_2 : decode cX7_ask 2 = .ok (.iconst 1, 1) := by decide +kernel
theorem dX7_ask_3 : decode cX7_ask 3 = .ok (.invokestatic 60, 3) := by decide +kernel
theorem dX7_ask_6 : decode cX7_ask 6 = .ok (.ifCond .ne 8, 3) := by decide +kernel
theorem dX7_ask_9 : decode cX7_ask 9 = .ok (.aload_n 0, 1) := by decide +kernel
theorem dX7_ask_10 : decode cX7_ask 10 = .ok (.invokevirtual 64, 3) := by decide +kernel
theorem dX7_ask_13 : decode cX7_ask 13 = .ok (.ireturn, 1) := by decide +kernel
theorem dX7_ask_14 : decode cX7_ask 14 = .ok (.aload_n 0, 1) := by decide +kernel
theorem dX7_ask_15 : decode cX7_ask 15 = .ok (.getfield 42, 3) := by decide +kernel
theorem dX7_ask_18 : decode cX7_ask 18 = .ok (.aload_n 0, 1) := by decide +kernel
theorem dX7_ask_19 : decode cX7_ask 19 = .ok (.getfield 10, 3) := by decide +kernel
theorem dX7_ask_22 : decode cX7_ask 22 = .ok (.iload_n 1, 1) := by decide +kernel
theorem dX7_ask_23 : decode cX7_ask 23 = .ok (.invokevirtual 220, 3) := by decide +kernel
theorem dX7_ask_26 : decode cX7_ask 26 = .ok (.ireturn, 1) := by decide +kernel
theorem dX7_ends_0 : decode cX7_ends 0 = .ok (.iload_n 1, 1) := by decide +kernel
theorem dX7_ends_1 : decode cX7_ends 1 = .ok (.iconst (-1), 1) := by decide +kernel
theorem dX7_ends_2 : decode cX7_ends 2 = .ok (.if_icmp .ge 11, 3) := by decide +kernel
theorem dX7_ends_5 : decode cX7_ends 5 = .ok (.aload_n 0, 1) := by decide +kernel
theorem dX7_ends_6 : decode cX7_ends 6 = .ok (.invokevirtual 64, 3) := by decide +kernel
theorem dX7_ends_9 : decode cX7_ends 9 = .ok (.pop, 1) := by decide +kernel
theorem dX7_ends_10 : decode cX7_ends 10 = .ok (.bipush (-10), 2) := by decide +kernel
theorem dX7_ends_12 : decode cX7_ends 12 = .ok (.ireturn, 1) := by decide +kernel
theorem dX7_ends_13 : decode cX7_ends 13 = .ok (.aload_n 0, 1) := by decide +kernel
theorem dX7_ends_14 : decode cX7_ends 14 = .ok (.getfield 49, 3) := by decide +kernel
theorem dX7_ends_17 : decode cX7_ends 17 = .ok (.aload_n 0, 1) := by decide +kernel
theorem dX7_ends_18 : decode cX7_ends 18 = .ok (.getfield 10, 3) := by decide +kernel
theorem dX7_ends_21 : decode cX7_ends 21 = .ok (.invokevirtual 223, 3) := by decide +kernel
theorem dX7_ends_24 : decode cX7_ends 24 = .ok (.iload_n 1, 1) := by decide +kernel
theorem dX7_ends_25 : decode cX7_ends 25 = .ok (.iconst (-1), 1) := by decide +kernel
theorem dX7_ends_26 : decode cX7_ends 26 = .ok (.if_icmp .ne 11, 3) := by decide +kernel
theorem dX7_ends_29 : decode cX7_ends 29 = .ok (.aload_n 0, 1) := by decide +kernel
theorem dX7_ends_30 : decode cX7_ends 30 = .ok (.getfield 49, 3) := by decide +kernel
theorem dX7_ends_33 : decode cX7_ends 33 = .ok (.invokevirtual 226, 3) := by decide +kernel
theorem dX7_ends_36 : decode cX7_ends 36 = .ok (.ireturn, 1) := by decide +kernel
theorem dX7_ends_37 : decode cX7_ends 37 = .ok (.aload_n 0, 1) := by decide +kernel
theorem dX7_ends_38 : decode cX7_ends 38 = .ok (.getfield 49, 3) := by decide +kernel
theorem dX7_ends_41 : decode cX7_ends 41 = .ok (.iload_n 1, 1) := by decide +kernel
theorem dX7_ends_42 : decode cX7_ends 42 = .ok (.invokevirtual 229, 3) := by decide +kernel
theorem dX7_ends_45 : decode cX7_ends 45 = .ok (.istore_n 2, 1) := by decide +kernel
theorem dX7_ends_46 : decode cX7_ends 46 = .ok (.iload_n 2, 1) := by decide +kernel
theorem dX7_ends_47 : decode cX7_ends 47 = .ok (.iconst (-1), 1) := by decide +kernel
theorem dX7_ends_48 : decode cX7_ends 48 = .ok (.if_icmp .ne 8, 3) := by decide +kernel
theorem dX7_ends_51 : decode cX7_ends 51 = .ok (.bipush (-5), 2) := by decide +kernel
theorem dX7_ends_53 : decode cX7_ends 53 = .ok (.goto 4, 3) := by decide +kernel
theorem dX7_ends_56 : decode cX7_ends 56 = .ok (.iload_n 2, 1) := by decide +kernel
theorem dX7_ends_57 : decode cX7_ends 57 = .ok (.ireturn, 1) := by decide +kernel
theorem dX7_scissors_0 : decode cX7_scissors 0 = .ok (.iload_n 1, 1) := by decide +kernel
theorem dX7_scissors_1 : decode cX7_scissors 1 = .ok (.iconst 0, 1) := by decide +kernel
theorem dX7_scissors_2 : decode cX7_scissors 2 = .ok (.bipush 10, 2) := by decide +kernel
theorem dX7_scissors_4 : decode cX7_scissors 4 = .ok (.invokestatic 60, 3) := by decide +kernel
theorem dX7_scissors_7 : decode cX7_scissors 7 = .ok (.ifCond .ne 8, 3) := by decide +kernel
theorem dX7_scissors_10 : decode cX7_scissors 10 = .ok (.aload_n 0, 1) := by decide +kernel
theorem dX7_scissors_11 : decode cX7_scissors 11 = .ok (.invokevirtual 64, 3) := by decide +kernel
theorem dX7_scissors_14 : decode cX7_scissors 14 = .ok (.ireturn, 1) := by decide +kernel
theorem dX7_scissors_15 : decode cX7_scissors 15 = .ok (.iconst 0, 1) := by decide +kernel
theorem dX7_scissors_16 : decode cX7_scissors 16 = .ok (.istore_n 2, 1) := by decide +kernel
theorem dX7_scissors_17 : decode cX7_scissors 17 = .ok (.iconst 0, 1) := by decide +kernel
theorem dX7_scissors_18 : decode cX7_scissors 18 = .ok (.istore_n 3, 1) := by decide +kernel
theorem dX7_scissors_19 : decode cX7_scissors 19 = .ok (.iload_n 3, 1) := by decide +kernel
theorem dX7_scissors_20 : decode cX7_scissors 20 = .ok (.aload_n 0, 1) := by decide +kernel
theorem dX7_scissors_21 : decode cX7_scissors 21 = .ok (.getfield 10, 3) := by decide +kernel
theorem dX7_scissors_24 : decode cX7_scissors 24 = .ok (.getfield 68, 3) := by decide +kernel
theorem dX7_scissors_27 : decode cX7_scissors 27 = .ok (.getfield 72, 3) := by decide +kernel
theorem dX7_scissors_30 : decode cX7_scissors 30 = .ok (.if_icmp .ge 52, 3) := by decide +kernel
theorem dX7_scissors_33 : decode cX7_scissors 33 = .ok (.aload_n 0, 1) := by decide +kernel
theorem dX7_scissors_34 : decode cX7_scissors 34 = .ok (.getfield 10, 3) := by decide +kernel
theorem dX7_scissors_37 : decode cX7_scissors 37 = .ok (.iload_n 3, 1) := by decide +kernel
theorem dX7_scissors_38 : decode cX7_scissors 38 = .ok (.invokevirtual 156, 3) := by decide +kernel
theorem dX7_scissors_41 : decode cX7_scissors 41 = .ok (.iconst 2, 1) := by decide +kernel
theorem dX7_scissors_42 : decode cX7_scissors 42 = .ok (.idiv, 1) := by decide +kernel
theorem dX7_scissors_43 : decode cX7_scissors 43 = .ok (.aload_n 0, 1) := by decide +kernel
theorem dX7_scissors_44 : decode cX7_scissors 44 = .ok (.getfield 10, 3) := by decide +kernel
theorem dX7_scissors_47 : decode cX7_scissors 47 = .ok (.getfield 232, 3) := by decide +kernel
theorem dX7_scissors_50 : decode cX7_scissors 50 = .ok (.invokestatic 235, 3) := by decide +kernel
theorem dX7_scissors_53 : decode cX7_scissors 53 = .ok (.istore 4, 2) := by decide +kernel
theorem dX7_scissors_55 : decode cX7_scissors 55 = .ok (.iload_n 2, 1) := by decide +kernel
theorem dX7_scissors_56 : decode cX7_scissors 56 = .ok (.iload_n 1, 1) := by decide +kernel
theorem dX7_scissors_57 : decode cX7_scissors 57 = .ok (.iload 4, 2) := by decide +kernel
theorem dX7_scissors_59 : decode cX7_scissors 59 = .ok (.imul, 1) := by decide +kernel
theorem dX7_scissors_60 : decode cX7_scissors 60 = .ok (.bipush 10, 2) := by decide +kernel
theorem dX7_scissors_62 : decode cX7_scissors 62 = .ok (.iload_n 1, 1) := by decide +kernel
theorem dX7_scissors_63 : decode cX7_scissors 63 = .ok (.isub, 1) := by decide +kernel
theorem dX7_scissors_64 : decode cX7_scissors 64 = .ok (.aload_n 0, 1) := by decide +kernel
theorem dX7_scissors_65 : decode cX7_scissors 65 = .ok (.getfield 10, 3) := by decide +kernel
theorem dX7_scissors_68 : decode cX7_scissors 68 = .ok (.iload_n 3, 1) := by decide +kernel
theorem dX7_scissors_69 : decode cX7_scissors 69 = .ok (.invokevirtual 143, 3) := by decide +kernel
theorem dX7_scissors_72 : decode cX7_scissors 72 = .ok (.imul, 1) := by decide +kernel
theorem dX7_scissors_73 : decode cX7_scissors 73 = .ok (.iadd, 1) := by decide +kernel
theorem dX7_scissors_74 : decode cX7_scissors 74 = .ok (.iadd, 1) := by decide +kernel
theorem dX7_scissors_75 : decode cX7_scissors 75 = .ok (.istore_n 2, 1) := by decide +kernel
theorem dX7_scissors_76 : decode cX7_scissors 76 = .ok (.iinc 3 1, 3) := by decide +kernel
theorem dX7_scissors_79 : decode cX7_scissors 79 = .ok (.goto (-60), 3) := by decide +kernel
theorem dX7_scissors_82 : decode cX7_scissors 82 = .ok (.aload_n 0, 1) := by decide +kernel
theorem dX7_scissors_83 : decode cX7_scissors 83 = .ok (.iload_n 2, 1) := by decide +kernel
theorem dX7_scissors_84 : decode cX7_scissors 84 = .ok (.invokevirtual 238, 3) := by decide +kernel
theorem dX7_scissors_87 : decode cX7_scissors 87 = .ok (.iconst 1, 1) := by decide +kernel
theorem dX7_scissors_88 : decode cX7_scissors 88 = .ok (.ireturn, 1) := by decide +kernel
theorem dX7_nights_0 : decode cX7_nights 0 = .ok (.iload_n 1, 1) := by decide +kernel
theorem dX7_nights_1 : decode cX7_nights 1 = .ok (.iconst 0, 1) := by decide +kernel
theorem dX7_nights_2 : decode cX7_nights 2 = .ok (.ldc 241, 2) := by decide +kernel
theorem dX7_nights_4 : decode cX7_nights 4 = .ok (.invokestatic 60, 3) := by decide +kernel
theorem dX7_nights_7 : decode cX7_nights 7 = .ok (.ifCond .eq 13, 3) := by decide +kernel
theorem dX7_nights_10 : decode cX7_nights 10 = .ok (.iload_n 2, 1) := by decide +kernel
theorem dX7_nights_11 : decode cX7_nights 11 = .ok (.iconst 0, 1) := by decide +kernel
theorem dX7_nights_12 : decode cX7_nights 12 = .ok (.bipush 60, 2) := by decide +kernel
theorem dX7_nights_14 : decode cX7_nights 14 = .ok (.invokestatic 60, 3) := by decide +kernel
theorem dX7_nights_17 : decode cX7_nights 17 = .ok (.ifCond .ne 8, 3) := by decide +kernel
theorem dX7_nights_20 : decode cX7_nights 20 = .ok (.aload_n 0, 1) := by decide +kernel
theorem dX7_nights_21 : decode cX7_nights 21 = .ok (.invokevirtual 64, 3) := by decide +kernel
theorem dX7_nights_24 : decode cX7_nights 24 = .ok (.ireturn, 1) := by decide +kernel
theorem dX7_nights_25 : decode cX7_nights 25 = .ok (.iload_n 1, 1) := by decide +kernel
theorem dX7_nights_26 : decode cX7_nights 26 = .ok (.i2l, 1) := by decide +kernel
theorem dX7_nights_27 : decode cX7_nights 27 = .ok (.lstore_n 3, 1) := by decide +kernel
theorem dX7_nights_28 : decode cX7_nights 28 = .ok (.aload_n 0, 1) := by decide +kernel
theorem dX7_nights_29 : decode cX7_nights 29 = .ok (.getfield 10, 3) := by decide +kernel
theorem dX7_nights_32 : decode cX7_nights 32 = .ok (.getfield 131, 3) := by decide +kernel
theorem dX7_nights_35 : decode cX7_nights 35 = .ok (.istore 5, 2) := by decide +kernel
theorem dX7_nights_37 : decode cX7_nights 37 = .ok (.iconst 0, 1) := by decide +kernel
theorem dX7_nights_38 : decode cX7_nights 38 = .ok (.istore 6, 2) := by decide +kernel
theorem dX7_nights_40 : decode cX7_nights 40 = .ok (.iconst 0, 1) := by decide +kernel
theorem dX7_nights_41 : decode cX7_nights 41 = .ok (.istore 7, 2) := by decide +kernel
theorem dX7_nights_43 : decode cX7_nights 43 = .ok (.iload 7, 2) := by decide +kernel
theorem dX7_nights_45 : decode cX7_nights 45 = .ok (.iload_n 2, 1) := by decide +kernel
theorem dX7_nights_46 : decode cX7_nights 46 = .ok (.if_icmp .ge 93, 3) := by decide +kernel
theorem dX7_nights_49 : decode cX7_nights 49 = .ok (.lload_n 3, 1) := by decide +kernel
theorem dX7_nights_50 : decode cX7_nights 50 = .ok (.ldc2_w 242, 3) := by decide +kernel
theorem dX7_nights_53 : decode cX7_nights 53 = .ok (.lmul, 1) := by decide +kernel
theorem dX7_nights_54 : decode cX7_nights 54 = .ok (.ldc2_w 244, 3) := by decide +kernel
theorem dX7_nights_57 : decode cX7_nights 57 = .ok (.ladd, 1) := by decide +kernel
theorem dX7_nights_58 : decode cX7_nights 58 = .ok (.ldc2_w 246, 3) := by decide +kernel
theorem dX7_nights_61 : decode cX7_nights 61 = .ok (.lrem, 1) := by decide +kernel
theorem dX7_nights_62 : decode cX7_nights 62 = .ok (.lstore_n 3, 1) := by decide +kernel
theorem dX7_nights_63 : decode cX7_nights 63 = .ok (.lload_n 3, 1) := by decide +kernel
theorem dX7_nights_64 : decode cX7_nights 64 = .ok (.ldc2_w 248, 3) := by decide +kernel
theorem dX7_nights_67 : decode cX7_nights 67 = .ok (.ldiv, 1) := by decide +kernel
theorem dX7_nights_68 : decode cX7_nights 68 = .ok (.ldc2_w 250, 3) := by decide +kernel
theorem dX7_nights_71 : decode cX7_nights 71 = .ok (.lrem, 1) := by decide +kernel
theorem dX7_nights_72 : decode cX7_nights 72 = .ok (.l2i, 1) := by decide +kernel
theorem dX7_nights_73 : decode cX7_nights 73 = .ok (.istore 8, 2) := by decide +kernel
theorem dX7_nights_75 : decode cX7_nights 75 = .ok (.aload_n 0, 1) := by decide +kernel
theorem dX7_nights_76 : decode cX7_nights 76 = .ok (.getfield 10, 3) := by decide +kernel
theorem dX7_nights_79 : decode cX7_nights 79 = .ok (.iload 8, 2) := by decide +kernel
theorem dX7_nights_81 : decode cX7_nights 81 = .ok (.invokevirtual 121, 3) := by decide +kernel
theorem dX7_nights_84 : decode cX7_nights 84 = .ok (.ifCond .eq 49, 3) := by decide +kernel
theorem dX7_nights_87 : decode cX7_nights 87 = .ok (.aload_n 0, 1) := by decide +kernel
theorem dX7_nights_88 : decode cX7_nights 88 = .ok (.getfield 10, 3) := by decide +kernel
theorem dX7_nights_91 : decode cX7_nights 91 = .ok (.iload 8, 2) := by decide +kernel
theorem dX7_nights_93 : decode cX7_nights 93 = .ok (.iload 7, 2) := by decide +kernel
theorem dX7_nights_95 : decode cX7_nights 95 = .ok (.invokevirtual 127, 3) := by decide +kernel
theorem dX7_nights_98 : decode cX7_nights 98 = .ok (.iload 5, 2) := by decide +kernel
theorem dX7_nights_100 : decode cX7_nights 100 = .ok (.if_icmp .gt 33, 3) := by decide +kernel
theorem dX7_nights_103 : decode cX7_nights 103 = .ok (.iload 5, 2) := by decide +kernel
theorem dX7_nights_105 : decode cX7_nights 105 = .ok (.aload_n 0, 1) := by decide +kernel
theorem dX7_nights_106 : decode cX7_nights 106 = .ok (.getfield 10, 3) := by decide +kernel
theorem dX7_nights_109 : decode cX7_nights 109 = .ok (.iload 8, 2) := by decide +kernel
theorem dX7_nights_111 : decode cX7_nights 111 = .ok (.iload 7, 2) := by decide +kernel
theorem dX7_nights_113 : decode cX7_nights 113 = .ok (.invokevirtual 127, 3) := by decide +kernel
theorem dX7_nights_116 : decode cX7_nights 116 = .ok (.isub, 1) := by decide +kernel
theorem dX7_nights_117 : decode cX7_nights 117 = .ok (.istore 5, 2) := by decide +kernel
theorem dX7_nights_119 : decode cX7_nights 119 = .ok (.iload 6, 2) := by decide +kernel
theorem dX7_nights_121 : decode cX7_nights 121 = .ok (.aload_n 0, 1) := by decide +kernel
theorem dX7_nights_122 : decode cX7_nights 122 = .ok (.getfield 10, 3) := by decide +kernel
theorem dX7_nights_125 : decode cX7_nights 125 = .ok (.iload 8, 2) := by decide +kernel
theorem dX7_nights_127 : decode cX7_nights 127 = .ok (.invokevirtual 143, 3) := by decide +kernel
theorem dX7_nights_130 : decode cX7_nights 130 = .ok (.iadd, 1) := by decide +kernel
theorem dX7_nights_131 : decode cX7_nights 131 = .ok (.istore 6, 2) := by decide +kernel
theorem dX7_nights_133 : decode cX7_nights 133 = .ok (.iinc 7 1, 3) := by decide +kernel
theorem dX7_nights_136 : decode cX7_nights 136 = .ok (.goto (-93), 3) := by decide +kernel
theorem dX7_nights_139 : decode cX7_nights 139 = .ok (.iload 6, 2) := by decide +kernel
theorem dX7_nights_141 : decode cX7_nights 141 = .ok (.ireturn, 1) := by decide +kernel
theorem dX7_part_0 : decode cX7_part 0 = .ok (.iload_n 1, 1) := by decide +kernel
theorem dX7_part_1 : decode cX7_part 1 = .ok (.iconst 0, 1) := by decide +kernel
theorem dX7_part_2 : decode cX7_part 2 = .ok (.iconst 1, 1) := by decide +kernel
theorem dX7_part_3 : decode cX7_part 3 = .ok (.invokestatic 60, 3) := by decide +kernel
theorem dX7_part_6 : decode cX7_part 6 = .ok (.ifCond .ne 9, 3) := by decide +kernel
theorem dX7_part_9 : decode cX7_part 9 = .ok (.aload_n 0, 1) := by decide +kernel
theorem dX7_part_10 : decode cX7_part 10 = .ok (.invokevirtual 64, 3) := by decide +kernel
theorem dX7_part_13 : decode cX7_part 13 = .ok (.i2l, 1) := by decide +kernel
theorem dX7_part_14 : decode cX7_part 14 = .ok (.lreturn, 1) := by decide +kernel
theorem dX7_part_15 : decode cX7_part 15 = .ok (.iload_n 1, 1) := by decide +kernel
theorem dX7_part_16 : decode cX7_part 16 = .ok (.ifCond .ne 10, 3) := by decide +kernel
theorem dX7_part_19 : decode cX7_part 19 = .ok (.aload_n 0, 1) := by decide +kernel
theorem dX7_part_20 : decode cX7_part 20 = .ok (.getfield 53, 3) := by decide +kernel
theorem dX7_part_23 : decode cX7_part 23 = .ok (.goto 7, 3) := by decide +kernel
theorem dX7_part_26 : decode cX7_part 26 = .ok (.aload_n 0, 1) := by decide +kernel
theorem dX7_part_27 : decode cX7_part 27 = .ok (.getfield 57, 3) := by decide +kernel
theorem dX7_part_30 : decode cX7_part 30 = .ok (.lreturn, 1) := by decide +kernel
theorem dX7_image_0 : decode cX7_image 0 = .ok (.iload_n 1, 1) := by decide +kernel
theorem dX7_image_1 : decode cX7_image 1 = .ok (.iconst 0, 1) := by decide +kernel
theorem dX7_image_2 : decode cX7_image 2 = .ok (.iconst 1, 1) := by decide +kernel
theorem dX7_image_3 : decode cX7_image 3 = .ok (.invokestatic 60, 3) := by decide +kernel
theorem dX7_image_6 : decode cX7_image 6 = .ok (.ifCond .ne 8, 3) := by decide +kernel
theorem dX7_image_9 : decode cX7_image 9 = .ok (.aload_n 0, 1) := by decide +kernel
theorem dX7_image_10 : decode cX7_image 10 = .ok (.invokevirtual 64, 3) := by decide +kernel
theorem dX7_image_13 : decode cX7_image 13 = .ok (.ireturn, 1) := by decide +kernel
theorem dX7_image_14 : decode cX7_image 14 = .ok (.iload_n 1, 1) := by decide +kernel
theorem dX7_image_15 : decode cX7_image 15 = .ok (.ifCond .ne 22, 3) := by decide +kernel
theorem dX7_image_18 : decode cX7_image 18 = .ok (.aload_n 0, 1) := by decide +kernel
theorem dX7_image_19 : decode cX7_image 19 = .ok (.getfield 19, 3) := by decide +kernel
theorem dX7_image_22 : decode cX7_image 22 = .ok (.aload_n 0, 1) := by decide +kernel
theorem dX7_image_23 : decode cX7_image 23 = .ok (.getfield 10, 3) := by decide +kernel
theorem dX7_image_26 : decode cX7_image 26 = .ok (.invokevirtual 252, 3) := by decide +kernel
theorem dX7_image_29 : decode cX7_image 29 = .ok (.aload_n 0, 1) := by decide +kernel
theorem dX7_image_30 : decode cX7_image 30 = .ok (.iconst 1, 1) := by decide +kernel
theorem dX7_image_31 : decode cX7_image 31 = .ok (.putfield 255, 3) := by decide +kernel
theorem dX7_image_34 : decode cX7_image 34 = .ok (.goto 19, 3) := by decide +kernel
theorem dX7_image_37 : decode cX7_image 37 = .ok (.aload_n 0, 1) := by decide +kernel
theorem dX7_image_38 : decode cX7_image 38 = .ok (.getfield 22, 3) := by decide +kernel
theorem dX7_image_41 : decode cX7_image 41 = .ok (.aload_n 0, 1) := by decide +kernel
theorem dX7_image_42 : decode cX7_image 42 = .ok (.getfield 10, 3) := by decide +kernel
theorem dX7_image_45 : decode cX7_image 45 = .ok (.invokevirtual 252, 3) := by decide +kernel
theorem dX7_image_48 : decode cX7_image 48 = .ok (.aload_n 0, 1) := by decide +kernel
theorem dX7_image_49 : decode cX7_image 49 = .ok (.iconst 1, 1) := by decide +kernel
theorem dX7_image_50 : decode cX7_image 50 = .ok (.putfield 259, 3) := by decide +kernel
theorem dX7_image_53 : decode cX7_image 53 = .ok (.iconst 1, 1) := by decide +kernel
theorem dX7_image_54 : decode cX7_image 54 = .ok (.ireturn, 1) := by decide +kernel
theorem dX7_from_0 : decode cX7_from 0 = .ok (.iload_n 1, 1) := by decide +kernel
theorem dX7_from_1 : decode cX7_from 1 = .ok (.iconst 0, 1) := by decide +kernel
theorem dX7_from_2 : decode cX7_from 2 = .ok (.iconst 1, 1) := by decide +kernel
theorem dX7_from_3 : decode cX7_from 3 = .ok (.invokestatic 60, 3) := by decide +kernel
theorem dX7_from_6 : decode cX7_from 6 = .ok (.ifCond .ne 8, 3) := by decide +kernel
theorem dX7_from_9 : decode cX7_from 9 = .ok (.aload_n 0, 1) := by decide +kernel
theorem dX7_from_10 : decode cX7_from 10 = .ok (.invokevirtual 64, 3) := by decide +kernel
theorem dX7_from_13 : decode cX7_from 13 = .ok (.ireturn, 1) := by decide +kernel
theorem dX7_from_14 : decode cX7_from 14 = .ok (.iload_n 1, 1) := by decide +kernel
theorem dX7_from_15 : decode cX7_from 15 = .ok (.ifCond .ne 13, 3) := by decide +kernel
theorem dX7_from_18 : decode cX7_from 18 = .ok (.aload_n 0, 1) := by decide +kernel
theorem dX7_from_19 : decode cX7_from 19 = .ok (.getfield 255, 3) := by decide +kernel
theorem dX7_from_22 : decode cX7_from 22 = .ok (.ifCond .ne 18, 3) := by decide +kernel
theorem dX7_from_25 : decode cX7_from 25 = .ok (.goto 10, 3) := by decide +kernel
theorem dX7_from_28 : decode cX7_from 28 = .ok (.aload_n 0, 1) := by decide +kernel
theorem dX7_from_29 : decode cX7_from 29 = .ok (.getfield 259, 3) := by decide +kernel
theorem dX7_from_32 : decode cX7_from 32 = .ok (.ifCond .ne 8, 3) := by decide +kernel
theorem dX7_from_35 : decode cX7_from 35 = .ok (.aload_n 0, 1) := by decide +kernel
theorem dX7_from_36 : decode cX7_from 36 = .ok (.invokevirtual 134, 3) := by decide +kernel
theorem dX7_from_39 : decode cX7_from 39 = .ok (.ireturn, 1) := by decide +kernel
theorem dX7_from_40 : decode cX7_from 40 = .ok (.aload_n 0, 1) := by decide +kernel
theorem dX7_from_41 : decode cX7_from 41 = .ok (.getfield 10, 3) := by decide +kernel
theorem dX7_from_44 : decode cX7_from 44 = .ok (.iload_n 1, 1) := by decide +kernel
theorem dX7_from_45 : decode cX7_from 45 = .ok (.ifCond .ne 10, 3) := by decide +kernel
theorem dX7_from_48 : decode cX7_from 48 = .ok (.aload_n 0, 1) := by decide +kernel
theorem dX7_from_49 : decode cX7_from 49 = .ok (.getfield 19, 3) := by decide +kernel
theorem dX7_from_52 : decode cX7_from 52 = .ok (.goto 7, 3) := by decide +kernel
theorem dX7_from_55 : decode cX7_from 55 = .ok (.aload_n 0, 1) := by decide +kernel
theorem dX7_from_56 : decode cX7_from 56 = .ok (.getfield 22, 3) := by decide +kernel
theorem dX7_from_59 : decode cX7_from 59 = .ok (.invokevirtual 252, 3) := by decide +kernel
theorem dX7_from_62 : decode cX7_from 62 = .ok (.iconst 1, 1) := by decide +kernel
theorem dX7_from_63 : decode cX7_from 63 = .ok (.ireturn, 1) := by decide +kernel
theorem dX7_status_0 : decode cX7_status 0 = .ok (.iload_n 1, 1) := by decide +kernel
theorem dX7_status_1 : decode cX7_status 1 = .ok (.tableswitch 42 0 2 #[27, 32, 37], 27) := by decide +kernel
theorem dX7_status_28 : decode cX7_status 28 = .ok (.aload_n 0, 1) := by decide +kernel
theorem dX7_status_29 : decode cX7_status 29 = .ok (.getfield 262, 3) := by decide +kernel
theorem dX7_status_32 : decode cX7_status 32 = .ok (.ireturn, 1) := by decide +kernel
theorem dX7_status_33 : decode cX7_status 33 = .ok (.aload_n 0, 1) := by decide +kernel
theorem dX7_status_34 : decode cX7_status 34 = .ok (.getfield 265, 3) := by decide +kernel
theorem dX7_status_37 : decode cX7_status 37 = .ok (.ireturn, 1) := by decide +kernel
theorem dX7_status_38 : decode cX7_status 38 = .ok (.aload_n 0, 1) := by decide +kernel
theorem dX7_status_39 : decode cX7_status 39 = .ok (.getfield 268, 3) := by decide +kernel
theorem dX7_status_42 : decode cX7_status 42 = .ok (.ireturn, 1) := by decide +kernel
theorem dX7_status_43 : decode cX7_status 43 = .ok (.aload_n 0, 1) := by decide +kernel
theorem dX7_status_44 : decode cX7_status 44 = .ok (.invokevirtual 64, 3) := by decide +kernel
theorem dX7_status_47 : decode cX7_status 47 = .ok (.pop, 1) := by decide +kernel
theorem dX7_status_48 : decode cX7_status 48 = .ok (.iconst (-1), 1) := by decide +kernel
theorem dX7_status_49 : decode cX7_status 49 = .ok (.ireturn, 1) := by decide +kernel
theorem dX7_count_0 : decode cX7_count 0 = .ok (.iload_n 1, 1) := by decide +kernel
theorem dX7_count_1 : decode cX7_count 1 = .ok (.iconst 0, 1) := by decide +kernel
theorem dX7_count_2 : decode cX7_count 2 = .ok (.iconst 5, 1) := by decide +kernel
theorem dX7_count_3 : decode cX7_count 3 = .ok (.invokestatic 60, 3) := by decide +kernel
theorem dX7_count_6 : decode cX7_count 6 = .ok (.ifCond .ne 8, 3) := by decide +kernel
theorem dX7_count_9 : decode cX7_count 9 = .ok (.aload_n 0, 1) := by decide +kernel
theorem dX7_count_10 : decode cX7_count 10 = .ok (.invokevirtual 64, 3) := by decide +kernel
theorem dX7_count_13 : decode cX7_count 13 = .ok (.ireturn, 1) := by decide +kernel
theorem dX7_count_14 : decode cX7_count 14 = .ok (.aload_n 0, 1) := by decide +kernel
theorem dX7_count_15 : decode cX7_count 15 = .ok (.iload_n 1, 1) := by decide +kernel
theorem dX7_count_16 : decode cX7_count 16 = .ok (.invokevirtual 271, 3) := by decide +kernel
theorem dX7_count_19 : decode cX7_count 19 = .ok (.ireturn, 1) := by decide +kernel
theorem dX7_digest_0 : decode cX7_digest 0 = .ok (.ldc2_w 274, 3) := by decide +kernel
theorem dX7_digest_3 : decode cX7_digest 3 = .ok (.lstore_n 1, 1) := by decide +kernel
theorem dX7_digest_4 : decode cX7_digest 4 = .ok (.iconst 0, 1) := by decide +kernel
theorem dX7_digest_5 : decode cX7_digest 5 = .ok (.istore_n 3, 1) := by decide +kernel
theorem dX7_digest_6 : decode cX7_digest 6 = .ok (.iload_n 3, 1) := by decide +kernel
theorem dX7_digest_7 : decode cX7_digest 7 = .ok (.iconst 5, 1) := by decide +kernel
theorem dX7_digest_8 : decode cX7_digest 8 = .ok (.if_icmp .gt 22, 3) := by decide +kernel
theorem dX7_digest_11 : decode cX7_digest 11 = .ok (.ldc2_w 276, 3) := by decide +kernel
theorem dX7_digest_14 : decode cX7_digest 14 = .ok (.lload_n 1, 1) := by decide +kernel
theorem dX7_digest_15 : decode cX7_digest 15 = .ok (.lmul, 1) := by decide +kernel
theorem dX7_digest_16 : decode cX7_digest 16 = .ok (.aload_n 0, 1) := by decide +kernel
theorem dX7_digest_17 : decode cX7_digest 17 = .ok (.iload_n 3, 1) := by decide +kernel
theorem dX7_digest_18 : decode cX7_digest 18 = .ok (.invokevirtual 271, 3) := by decide +kernel
theorem dX7_digest_21 : decode cX7_digest 21 = .ok (.i2l, 1) := by decide +kernel
theorem dX7_digest_22 : decode cX7_digest 22 = .ok (.ladd, 1) := by decide +kernel
theorem dX7_digest_23 : decode cX7_digest 23 = .ok (.lstore_n 1, 1) := by decide +kernel
theorem dX7_digest_24 : decode cX7_digest 24 = .ok (.iinc 3 1, 3) := by decide +kernel
theorem dX7_digest_27 : decode cX7_digest 27 = .ok (.goto (-21), 3) := by decide +kernel
theorem dX7_digest_30 : decode cX7_digest 30 = .ok (.iconst 0, 1) := by decide +kernel
theorem dX7_digest_31 : decode cX7_digest 31 = .ok (.istore_n 3, 1) := by decide +kernel
theorem dX7_digest_32 : decode cX7_digest 32 = .ok (.iload_n 3, 1) := by decide +kernel
theorem dX7_digest_33 : decode cX7_digest 33 = .ok (.bipush 6, 2) := by decide +kernel
theorem dX7_digest_35 : decode cX7_digest 35 = .ok (.if_icmp .gt 25, 3) := by decide +kernel
theorem dX7_digest_38 : decode cX7_digest 38 = .ok (.ldc2_w 276, 3) := by decide +kernel
theorem dX7_digest_41 : decode cX7_digest 41 = .ok (.lload_n 1, 1) := by decide +kernel
theorem dX7_digest_42 : decode cX7_digest 42 = .ok (.lmul, 1) := by decide +kernel
theorem dX7_digest_43 : decode cX7_digest 43 = .ok (.aload_n 0, 1) := by decide +kernel
theorem dX7_digest_44 : decode cX7_digest 44 = .ok (.getfield 10, 3) := by decide +kernel
theorem dX7_digest_47 : decode cX7_digest 47 = .ok (.iload_n 3, 1) := by decide +kernel
theorem dX7_digest_48 : decode cX7_digest 48 = .ok (.invokevirtual 159, 3) := by decide +kernel
theorem dX7_digest_51 : decode cX7_digest 51 = .ok (.i2l, 1) := by decide +kernel
theorem dX7_digest_52 : decode cX7_digest 52 = .ok (.ladd, 1) := by decide +kernel
theorem dX7_digest_53 : decode cX7_digest 53 = .ok (.lstore_n 1, 1) := by decide +kernel
theorem dX7_digest_54 : decode cX7_digest 54 = .ok (.iinc 3 1, 3) := by decide +kernel
theorem dX7_digest_57 : decode cX7_digest 57 = .ok (.goto (-25), 3) := by decide +kernel
theorem dX7_digest_60 : decode cX7_digest 60 = .ok (.aload_n 0, 1) := by decide +kernel
theorem dX7_digest_61 : decode cX7_digest 61 = .ok (.getfield 10, 3) := by decide +kernel
theorem dX7_digest_64 : decode cX7_digest 64 = .ok (.getfield 68, 3) := by decide +kernel
theorem dX7_digest_67 : decode cX7_digest 67 = .ok (.lload_n 1, 1) := by decide +kernel
theorem dX7_digest_68 : decode cX7_digest 68 = .ok (.iconst 2, 1) := by decide +kernel
theorem dX7_digest_69 : decode cX7_digest 69 = .ok (.invokevirtual 278, 3) := by decide +kernel
theorem dX7_digest_72 : decode cX7_digest 72 = .ok (.lstore_n 1, 1) := by decide +kernel
theorem dX7_digest_73 : decode cX7_digest 73 = .ok (.aload_n 0, 1) := by decide +kernel
theorem dX7_digest_74 : decode cX7_digest 74 = .ok (.getfield 10, 3) := by decide +kernel
theorem dX7_digest_77 : decode cX7_digest 77 = .ok (.getfield 185, 3) := by decide +kernel
theorem dX7_digest_80 : decode cX7_digest 80 = .ok (.lload_n 1, 1) := by decide +kernel
theorem dX7_digest_81 : decode cX7_digest 81 = .ok (.iconst 2, 1) := by decide +kernel
theorem dX7_digest_82 : decode cX7_digest 82 = .ok (.invokevirtual 278, 3) := by decide +kernel
theorem dX7_digest_85 : decode cX7_digest 85 = .ok (.lstore_n 1, 1) := by decide +kernel
theorem dX7_digest_86 : decode cX7_digest 86 = .ok (.aload_n 0, 1) := by decide +kernel
theorem dX7_digest_87 : decode cX7_digest 87 = .ok (.getfield 10, 3) := by decide +kernel
theorem dX7_digest_90 : decode cX7_digest 90 = .ok (.getfield 204, 3) := by decide +kernel
theorem dX7_digest_93 : decode cX7_digest 93 = .ok (.lload_n 1, 1) := by decide +kernel
theorem dX7_digest_94 : decode cX7_digest 94 = .ok (.iconst 4, 1) := by decide +kernel
theorem dX7_digest_95 : decode cX7_digest 95 = .ok (.invokevirtual 278, 3) := by decide +kernel
theorem dX7_digest_98 : decode cX7_digest 98 = .ok (.lstore_n 1, 1) := by decide +kernel
theorem dX7_digest_99 : decode cX7_digest 99 = .ok (.aload_n 0, 1) := by decide +kernel
theorem dX7_digest_100 : decode cX7_digest 100 = .ok (.getfield 10, 3) := by decide +kernel
theorem dX7_digest_103 : decode cX7_digest 103 = .ok (.getfield 207, 3) := by decide +kernel
theorem dX7_digest_106 : decode cX7_digest 106 = .ok (.lload_n 1, 1) := by decide +kernel
theorem dX7_digest_107 : decode cX7_digest 107 = .ok (.iconst 4, 1) := by decide +kernel
theorem dX7_digest_108 : decode cX7_digest 108 = .ok (.invokevirtual 278, 3) := by decide +kernel
theorem dX7_digest_111 : decode cX7_digest 111 = .ok (.lstore_n 1, 1) := by decide +kernel
theorem dX7_digest_112 : decode cX7_digest 112 = .ok (.ldc2_w 276, 3) := by decide +kernel
theorem dX7_digest_115 : decode cX7_digest 115 = .ok (.lload_n 1, 1) := by decide +kernel
theorem dX7_digest_116 : decode cX7_digest 116 = .ok (.lmul, 1) := by decide +kernel
theorem dX7_digest_117 : decode cX7_digest 117 = .ok (.aload_n 0, 1) := by decide +kernel
theorem dX7_digest_118 : decode cX7_digest 118 = .ok (.getfield 53, 3) := by decide +kernel
theorem dX7_digest_121 : decode cX7_digest 121 = .ok (.ladd, 1) := by decide +kernel
theorem dX7_digest_122 : decode cX7_digest 122 = .ok (.lstore_n 1, 1) := by decide +kernel
theorem dX7_digest_123 : decode cX7_digest 123 = .ok (.ldc2_w 276, 3) := by decide +kernel
theorem dX7_digest_126 : decode cX7_digest 126 = .ok (.lload_n 1, 1) := by decide +kernel
theorem dX7_digest_127 : decode cX7_digest 127 = .ok (.lmul, 1) := by decide +kernel
theorem dX7_digest_128 : decode cX7_digest 128 = .ok (.aload_n 0, 1) := by decide +kernel
theorem dX7_digest_129 : decode cX7_digest 129 = .ok (.getfield 57, 3) := by decide +kernel
theorem dX7_digest_132 : decode cX7_digest 132 = .ok (.ladd, 1) := by decide +kernel
theorem dX7_digest_133 : decode cX7_digest 133 = .ok (.lreturn, 1) := by decide +kernel
theorem dX7_within_0 : decode cX7_within 0 = .ok (.iload_n 0, 1) := by decide +kernel
theorem dX7_within_1 : decode cX7_within 1 = .ok (.iload_n 1, 1) := by decide +kernel
theorem dX7_within_2 : decode cX7_within 2 = .ok (.if_icmp .lt 12, 3) := by decide +kernel
theorem dX7_within_5 : decode cX7_within 5 = .ok (.iload_n 0, 1) := by decide +kernel
theorem dX7_within_6 : decode cX7_within 6 = .ok (.iload_n 2, 1) := by decide +kernel
theorem dX7_within_7 : decode cX7_within 7 = .ok (.if_icmp .gt 7, 3) := by decide +kernel
theorem dX7_within_10 : decode cX7_within 10 = .ok (.iconst 1, 1) := by decide +kernel
theorem dX7_within_11 : decode cX7_within 11 = .ok (.goto 4, 3) := by decide +kernel
theorem dX7_within_14 : decode cX7_within 14 = .ok (.iconst 0, 1) := by decide +kernel
theorem dX7_within_15 : decode cX7_within 15 = .ok (.ireturn, 1) := by decide +kernel
theorem dX7_refuseBad_0 : decode cX7_refuseBad 0 = .ok (.aload_n 0, 1) := by decide +kernel
theorem dX7_refuseBad_1 : decode cX7_refuseBad 1 = .ok (.dup, 1) := by decide +kernel
theorem dX7_refuseBad_2 : decode cX7_refuseBad 2 = .ok (.getfield 262, 3) := by decide +kernel
theorem dX7_refuseBad_5 : decode cX7_refuseBad 5 = .ok (.iconst 1, 1) := by decide +kernel
theorem dX7_refuseBad_6 : decode cX7_refuseBad 6 = .ok (.iadd, 1) := by decide +kernel
theorem dX7_refuseBad_7 : decode cX7_refuseBad 7 = .ok (.putfield 262, 3) := by decide +kernel
theorem dX7_refuseBad_10 : decode cX7_refuseBad 10 = .ok (.bipush (-2), 2) := by decide +kernel
theorem dX7_refuseBad_12 : decode cX7_refuseBad 12 = .ok (.ireturn, 1) := by decide +kernel
theorem dX7_refuseNo_0 : decode cX7_refuseNo 0 = .ok (.aload_n 0, 1) := by decide +kernel
theorem dX7_refuseNo_1 : decode cX7_refuseNo 1 = .ok (.dup, 1) := by decide +kernel
theorem dX7_refuseNo_2 : decode cX7_refuseNo 2 = .ok (.getfield 265, 3) := by decide +kernel
theorem dX7_refuseNo_5 : decode cX7_refuseNo 5 = .ok (.iconst 1, 1) := by decide +kernel
theorem dX7_refuseNo_6 : decode cX7_refuseNo 6 = .ok (.iadd, 1) := by decide +kernel
theorem dX7_refuseNo_7 : decode cX7_refuseNo 7 = .ok (.putfield 265, 3) := by decide +kernel
theorem dX7_refuseNo_10 : decode cX7_refuseNo 10 = .ok (.bipush (-3), 2) := by decide +kernel
theorem dX7_refuseNo_12 : decode cX7_refuseNo 12 = .ok (.ireturn, 1) := by decide +kernel
theorem dX7_refuseFull_0 : decode cX7_refuseFull 0 = .ok (.aload_n 0, 1) := by decide +kernel
theorem dX7_refuseFull_1 : decode cX7_refuseFull 1 = .ok (.dup, 1) := by decide +kernel
theorem dX7_refuseFull_2 : decode cX7_refuseFull 2 = .ok (.getfield 268, 3) := by decide +kernel
theorem dX7_refuseFull_5 : decode cX7_refuseFull 5 = .ok (.iconst 1, 1) := by decide +kernel
theorem dX7_refuseFull_6 : decode cX7_refuseFull 6 = .ok (.iadd, 1) := by decide +kernel
theorem dX7_refuseFull_7 : decode cX7_refuseFull 7 = .ok (.putfield 268, 3) := by decide +kernel
theorem dX7_refuseFull_10 : decode cX7_refuseFull 10 = .ok (.bipush (-4), 2) := by decide +kernel
theorem dX7_refuseFull_12 : decode cX7_refuseFull 12 = .ok (.ireturn, 1) := by decide +kernel
theorem dX7_keep_0 : decode cX7_keep 0 = .ok (.aload_n 1, 1) := by decide +kernel
theorem dX7_keep_1 : decode cX7_keep 1 = .ok (.invokevirtual 101, 3) := by decide +kernel
theorem dX7_keep_4 : decode cX7_keep 4 = .ok (.ifCond .eq 8, 3) := by decide +kernel
theorem dX7_keep_7 : decode cX7_keep 7 = .ok (.aload_n 0, 1) := by decide +kernel
theorem dX7_keep_8 : decode cX7_keep 8 = .ok (.invokevirtual 105, 3) := by decide +kernel
theorem dX7_keep_11 : decode cX7_keep 11 = .ok (.ireturn, 1) := by decide +kernel
theorem dX7_keep_12 : decode cX7_keep 12 = .ok (.aload_n 1, 1) := by decide +kernel
theorem dX7_keep_13 : decode cX7_keep 13 = .ok (.iload_n 2, 1) := by decide +kernel
theorem dX7_keep_14 : decode cX7_keep 14 = .ok (.iload_n 3, 1) := by decide +kernel
theorem dX7_keep_15 : decode cX7_keep 15 = .ok (.iload 4, 2) := by decide +kernel
theorem dX7_keep_17 : decode cX7_keep 17 = .ok (.iload 5, 2) := by decide +kernel
theorem dX7_keep_19 : decode cX7_keep 19 = .ok (.invokevirtual 108, 3) := by decide +kernel
theorem dX7_keep_22 : decode cX7_keep 22 = .ok (.aload_n 1, 1) := by decide +kernel
theorem dX7_keep_23 : decode cX7_keep 23 = .ok (.getfield 72, 3) := by decide +kernel
theorem dX7_keep_26 : decode cX7_keep 26 = .ok (.ireturn, 1) := by decide +kernel
theorem dX7_howMany_0 : decode cX7_howMany 0 = .ok (.iload_n 1, 1) := by decide +kernel
theorem dX7_howMany_1 : decode cX7_howMany 1 = .ok (.tableswitch 90 0 4 #[35, 46, 57, 68, 79], 35) := by decide +kernel
theorem dX7_howMany_36 : decode cX7_howMany 36 = .ok (.aload_n 0, 1) := by decide +kernel
theorem dX7_howMany_37 : decode cX7_howMany 37 = .ok (.getfield 10, 3) := by decide +kernel
theorem dX7_howMany_40 : decode cX7_howMany 40 = .ok (.getfield 68, 3) := by decide +kernel
theorem dX7_howMany_43 : decode cX7_howMany 43 = .ok (.getfield 72, 3) := by decide +kernel
theorem dX7_howMany_46 : decode cX7_howMany 46 = .ok (.ireturn, 1) := by decide +kernel
theorem dX7_howMany_47 : decode cX7_howMany 47 = .ok (.aload_n 0, 1) := by decide +kernel
theorem dX7_howMany_48 : decode cX7_howMany 48 = .ok (.getfield 10, 3) := by decide +kernel
theorem dX7_howMany_51 : decode cX7_howMany 51 = .ok (.getfield 185, 3) := by decide +kernel
theorem dX7_howMany_54 : decode cX7_howMany 54 = .ok (.getfield 72, 3) := by decide +kernel
theorem dX7_howMany_57 : decode cX7_howMany 57 = .ok (.ireturn, 1) := by decide +kernel
theorem dX7_howMany_58 : decode cX7_howMany 58 = .ok (.aload_n 0, 1) := by decide +kernel
theorem dX7_howMany_59 : decode cX7_howMany 59 = .ok (.getfield 10, 3) := by decide +kernel
theorem dX7_howMany_62 : decode cX7_howMany 62 = .ok (.getfield 204, 3) := by decide +kernel
theorem dX7_howMany_65 : decode cX7_howMany 65 = .ok (.getfield 72, 3) := by decide +kernel
theorem dX7_howMany_68 : decode cX7_howMany 68 = .ok (.ireturn, 1) := by decide +kernel
theorem dX7_howMany_69 : decode cX7_howMany 69 = .ok (.aload_n 0, 1) := by decide +kernel
theorem dX7_howMany_70 : decode cX7_howMany 70 = .ok (.getfield 10, 3) := by decide +kernel
theorem dX7_howMany_73 : decode cX7_howMany 73 = .ok (.getfield 207, 3) := by decide +kernel
theorem dX7_howMany_76 : decode cX7_howMany 76 = .ok (.getfield 72, 3) := by decide +kernel
theorem dX7_howMany_79 : decode cX7_howMany 79 = .ok (.ireturn, 1) := by decide +kernel
theorem dX7_howMany_80 : decode cX7_howMany 80 = .ok (.aload_n 0, 1) := by decide +kernel
theorem dX7_howMany_81 : decode cX7_howMany 81 = .ok (.getfield 10, 3) := by decide +kernel
theorem dX7_howMany_84 : decode cX7_howMany 84 = .ok (.getfield 95, 3) := by decide +kernel
theorem dX7_howMany_87 : decode cX7_howMany 87 = .ok (.getfield 72, 3) := by decide +kernel
theorem dX7_howMany_90 : decode cX7_howMany 90 = .ok (.ireturn, 1) := by decide +kernel
theorem dX7_howMany_91 : decode cX7_howMany 91 = .ok (.aload_n 0, 1) := by decide +kernel
theorem dX7_howMany_92 : decode cX7_howMany 92 = .ok (.getfield 28, 3) := by decide +kernel
theorem dX7_howMany_95 : decode cX7_howMany 95 = .ok (.getfield 114, 3) := by decide +kernel
theorem dX7_howMany_98 : decode cX7_howMany 98 = .ok (.ireturn, 1) := by decide +kernel
theorem dX7_setFraction_0 : decode cX7_setFraction 0 = .ok (.iconst 1, 1) := by decide +kernel
theorem dX7_setFraction_1 : decode cX7_setFraction 1 = .ok (.istore_n 2, 1) := by decide +kernel
theorem dX7_setFraction_2 : decode cX7_setFraction 2 = .ok (.iconst 2, 1) := by decide +kernel
theorem dX7_setFraction_3 : decode cX7_setFraction 3 = .ok (.istore_n 3, 1) := by decide +kernel
theorem dX7_setFraction_4 : decode cX7_setFraction 4 = .ok (.iload_n 3, 1) := by decide +kernel
theorem dX7_setFraction_5 : decode cX7_setFraction 5 = .ok (.bipush 10, 2) := by decide +kernel
theorem dX7_setFraction_7 : decode cX7_setFraction 7 = .ok (.if_icmp .gt 24, 3) := by decide +kernel
theorem dX7_setFraction_10 : decode cX7_setFraction 10 = .ok (.iload_n 1, 1) := by decide +kernel
theorem dX7_setFraction_11 : decode cX7_setFraction 11 = .ok (.iload_n 3, 1) := by decide +kernel
theorem dX7_setFraction_12 : decode cX7_setFraction 12 = .ok (.irem, 1) := by decide +kernel
theorem dX7_setFraction_13 : decode cX7_setFraction 13 = .ok (.ifCond .ne 12, 3) := by decide +kernel
theorem dX7_setFraction_16 : decode cX7_setFraction 16 = .ok (.bipush 10, 2) := by decide +kernel
theorem dX7_setFraction_18 : decode cX7_setFraction 18 = .ok (.iload_n 3, 1) := by decide +kernel
theorem dX7_setFraction_19 : decode cX7_setFraction 19 = .ok (.irem, 1) := by decide +kernel
theorem dX7_setFraction_20 : decode cX7_setFraction 20 = .ok (.ifCond .ne 5, 3) := by decide +kernel
theorem dX7_setFraction_23 : decode cX7_setFraction 23 = .ok (.iload_n 3, 1) := by decide +kernel
theorem dX7_setFraction_24 : decode cX7_setFraction 24 = .ok (.istore_n 2, 1) := by decide +kernel
theorem dX7_setFraction_25 : decode cX7_setFraction 25 = .ok (.iinc 3 1, 3) := by decide +kernel
theorem dX7_setFraction_28 : decode cX7_setFraction 28 = .ok (.goto (-24), 3) := by decide +kernel
theorem dX7_setFraction_31 : decode cX7_setFraction 31 = .ok (.aload_n 0, 1) := by decide +kernel
theorem dX7_setFraction_32 : decode cX7_setFraction 32 = .ok (.iload_n 1, 1) := by decide +kernel
theorem dX7_setFraction_33 : decode cX7_setFraction 33 = .ok (.iload_n 2, 1) := by decide +kernel
theorem dX7_setFraction_34 : decode cX7_setFraction 34 = .ok (.idiv, 1) := by decide +kernel
theorem dX7_setFraction_35 : decode cX7_setFraction 35 = .ok (.i2l, 1) := by decide +kernel
theorem dX7_setFraction_36 : decode cX7_setFraction 36 = .ok (.putfield 53, 3) := by decide +kernel
theorem dX7_setFraction_39 : decode cX7_setFraction 39 = .ok (.aload_n 0, 1) := by decide +kernel
theorem dX7_setFraction_40 : decode cX7_setFraction 40 = .ok (.bipush 10, 2) := by decide +kernel
theorem dX7_setFraction_42 : decode cX7_setFraction 42 = .ok (.iload_n 2, 1) := by decide +kernel
theorem dX7_setFraction_43 : decode cX7_setFraction 43 = .ok (.idiv, 1) := by decide +kernel
theorem dX7_setFraction_44 : decode cX7_setFraction 44 = .ok (.i2l, 1) := by decide +kernel
theorem dX7_setFraction_45 : decode cX7_setFraction 45 = .ok (.putfield 57, 3) := by decide +kernel
theorem dX7_setFraction_48 : decode cX7_setFraction 48 = .ok (.return_, 1) := by decide +kernel
end
section
theorem dX8_init_0 : decode cX8_init 0 = .ok (.aload_n 0, 1) := by decide +kernel
theorem dX8_init_1 : decode cX8_init 1 = .ok (.invokespecial 1, 3) := by decide +kernel
theorem dX8_init_4 : decode cX8_init 4 = .ok (.aload_n 0, 1) := by decide +kernel
theorem dX8_init_5 : decode cX8_init 5 = .ok (.sipush 456, 3) := by decide +kernel
theorem dX8_init_8 : decode cX8_init 8 = .ok (.newarray .int, 2) := by decide +kernel
theorem dX8_init_10 : decode cX8_init 10 = .ok (.putfield 7, 3) := by decide +kernel
theorem dX8_init_13 : decode cX8_init 13 = .ok (.aload_n 0, 1) := by decide +kernel
theorem dX8_init_14 : decode cX8_init 14 = .ok (.iconst 2, 1) := by decide +kernel
theorem dX8_init_15 : decode cX8_init 15 = .ok (.newarray .boolean, 2) := by decide +kernel
theorem dX8_init_17 : decode cX8_init 17 = .ok (.putfield 13, 3) := by decide +kernel
theorem dX8_init_20 : decode cX8_init 20 = .ok (.aload_n 0, 1) := by decide +kernel
theorem dX8_init_21 : decode cX8_init 21 = .ok (.sipush 150, 3) := by decide +kernel
theorem dX8_init_24 : decode cX8_init 24 = .ok (.newarray .int, 2) := by decide +kernel
theorem dX8_init_26 : decode cX8_init 26 = .ok (.putfield 17, 3) := by decide +kernel
theorem dX8_init_29 : decode cX8_init 29 = .ok (.aload_n 0, 1) := by decide +kernel
theorem dX8_init_30 : decode cX8_init 30 = .ok (.lconst 0, 1) := by decide +kernel
theorem dX8_init_31 : decode cX8_init 31 = .ok (.putfield 20, 3) := by decide +kernel
theorem dX8_init_34 : decode cX8_init 34 = .ok (.aload_n 0, 1) := by decide +kernel
theorem dX8_init_35 : decode cX8_init 35 = .ok (.lconst 1, 1) := by decide +kernel
theorem dX8_init_36 : decode cX8_init 36 = .ok (.putfield 24, 3) := by decide +kernel
theorem dX8_init_39 : decode cX8_init 39 = .ok (.aload_n 0, 1) := by decide +kernel
theorem dX8_init_40 : decode cX8_init 40 = .ok (.iconst 3, 1) := by decide +kernel
theorem dX8_init_41 : decode cX8_init 41 = .ok (.newarray .int, 2) := by decide +kernel
theorem dX8_init_43 : decode cX8_init 43 = .ok (.putfield 27, 3) := by decide +kernel
theorem dX8_init_46 : decode cX8_init 46 = .ok (.aload_n 0, 1) := by decide +kernel
theorem dX8_init_47 : decode cX8_init 47 = .ok (.bipush 6, 2) := by decide +kernel
theorem dX8_init_49 : decode cX8_init 49 = .ok (.newarray .int, 2) := by decide +kernel
theorem dX8_init_51 : decode cX8_init 51 = .ok (.putfield 30, 3) := by decide +kernel
theorem dX8_init_54 : decode cX8_init 54 = .ok (.aload_n 0, 1) := by decide +kernel
theorem dX8_init_55 : decode cX8_init 55 = .ok (.bipush 6, 2) := by decide +kernel
theorem dX8_init_57 : decode cX8_init 57 = .ok (.newarray .int, 2) := by decide +kernel
theorem dX8_init_59 : decode cX8_init 59 = .ok (.putfield 33, 3) := by decide +kernel
theorem dX8_init_62 : decode cX8_init 62 = .ok (.aload_n 0, 1) := by decide +kernel
theorem dX8_init_63 : decode cX8_init 63 = .ok (.bipush 6, 2) := by decide +kernel
theorem dX8_init_65 : decode cX8_init 65 = .ok (.newarray .int, 2) := by decide +kernel
theorem dX8_init_67 : decode cX8_init 67 = .ok (.putfield 36, 3) := by decide +kernel
theorem dX8_init_70 : decode cX8_init 70 = .ok (.aload_n 0, 1) := by decide +kernel
theorem dX8_init_71 : decode cX8_init 71 = .ok (.iconst 5, 1) := by decide +kernel
theorem dX8_init_72 : decode cX8_init 72 = .ok (.newarray .int, 2) := by decide +kernel
theorem dX8_init_74 : decode cX8_init 74 = .ok (.putfield 39, 3) := by decide +kernel
theorem dX8_init_77 : decode cX8_init 77 = .ok (.aload_n 0, 1) := by decide +kernel
theorem dX8_init_78 : decode cX8_init 78 = .ok (.bipush 62, 2) := by decide +kernel
theorem dX8_init_80 : decode cX8_init 80 = .ok (.newarray .int, 2) := by decide +kernel
theorem dX8_init_82 : decode cX8_init 82 = .ok (.putfield 42, 3) := by decide +kernel
theorem dX8_init_85 : decode cX8_init 85 = .ok (.aload_n 0, 1) := by decide +kernel
theorem dX8_init_86 : decode cX8_init 86 = .ok (.bipush 6, 2) := by decide +kernel
theorem dX8_init_88 : decode cX8_init 88 = .ok (.newarray .int, 2) := by decide +kernel
theorem dX8_init_90 : decode cX8_init 90 = .ok (.putfield 45, 3) := by decide +kernel
theorem dX8_init_93 : decode cX8_init 93 = .ok (.aload_n 0, 1) := by decide +kernel
theorem dX8_init_94 : decode cX8_init 94 = .ok (.iconst 0, 1) := by decide +kernel
theorem dX8_init_95 : decode cX8_init 95 = .ok (.putfield 48, 3) := by decide +kernel
theorem dX8_init_98 : decode cX8_init 98 = .ok (.aload_n 0, 1) := by decide +kernel
theorem dX8_init_99 : decode cX8_init 99 = .ok (.iconst 0, 1) := by decide +kernel
theorem dX8_init_100 : decode cX8_init 100 = .ok (.bipush 20, 2) := by decide +kernel
theorem dX8_init_102 : decode cX8_init 102 = .ok (.bipush 100, 2) := by decide +kernel
theorem dX8_init_104 : decode cX8_init 104 = .ok (.invokevirtual 52, 3) := by decide +kernel
theorem dX8_init_107 : decode cX8_init 107 = .ok (.return_, 1) := by decide +kernel
theorem dX8_in_0 : decode cX8_in 0 = .ok (.lload_n 0, 1) := by decide +kernel
theorem dX8_in_1 : decode cX8_in 1 = .ok (.lload_n 2, 1) := by decide +kernel
theorem dX8_in_2 : decode cX8_in 2 = .ok (.lcmp, 1) := by decide +kernel
theorem dX8_in_3 : decode cX8_in 3 = .ok (.ifCond .lt 14, 3) := by decide +kernel
theorem dX8_in_6 : decode cX8_in 6 = .ok (.lload_n 0, 1) := by decide +kernel
theorem dX8_in_7 : decode cX8_in 7 = .ok (.lload 4, 2) := by decide +kernel
theorem dX8_in_9 : decode cX8_in 9 = .ok (.lcmp, 1) := by decide +kernel
theorem dX8_in_10 : decode cX8_in 10 = .ok (.ifCond .gt 7, 3) := by decide +kernel
theorem dX8_in_13 : decode cX8_in 13 = .ok (.iconst 1, 1) := by decide +kernel
theorem dX8_in_14 : decode cX8_in 14 = .ok (.goto 4, 3) := by decide +kernel
theorem dX8_in_17 : decode cX8_in 17 = .ok (.iconst 0, 1) := by decide +kernel
theorem dX8_in_18 : decode cX8_in 18 = .ok (.ireturn, 1) := by decide +kernel
theorem dX8_has_0 : decode cX8_has 0 = .ok (.iload_n 0, 1) := by decide +kernel
theorem dX8_has_1 : decode cX8_has 1 = .ok (.iload_n 1, 1) := by decide +kernel
theorem dX8_has_2 : decode cX8_has 2 = .ok (.ishr, 1) := by decide +kernel
theorem dX8_has_3 : decode cX8_has 3 = .ok (.iconst 1, 1) := by decide +kernel
theorem dX8_has_4 : decode cX8_has 4 = .ok (.iand, 1) := by decide +kernel
theorem dX8_has_5 : decode cX8_has 5 = .ok (.iconst 1, 1) := by decide +kernel
theorem dX8_has_6 : decode cX8_has 6 = .ok (.if_icmp .ne 7, 3) := by decide +kernel
theorem dX8_has_9 : decode cX8_has 9 = .ok (.iconst 1, 1) := by decide +kernel
theorem dX8_has_10 : decode cX8_has 10 = .ok (.goto 4, 3) := by decide +kernel
theorem dX8_has_13 : decode cX8_has 13 = .ok (.iconst 0, 1) := by decide +kernel
theorem dX8_has_14 : decode cX8_has 14 = .ok (.ireturn, 1) := by decide +kernel
theorem dX8_bad_0 : decode cX8_bad 0 = .ok (.aload_n 0, 1) := by decide +kernel
theorem dX8_bad_1 : decode cX8_bad 1 = .ok (.getfield 27, 3) := by decide +kernel
theorem dX8_bad_4 : decode cX8_bad 4 = .ok (.iconst 0, 1) := by decide +kernel
theorem dX8_bad_5 : decode cX8_bad 5 = .ok (.dup2, 1) := by decide +kernel
theorem dX8_bad_6 : decode cX8_bad 6 = .ok (.iaload, 1) := by decide +kernel
theorem dX8_bad_7 : decode cX8_bad 7 = .ok (.iconst 1, 1) := by decide +kernel
theorem dX8_bad_8 : decode cX8_bad 8 = .ok (.iadd, 1) := by decide +kernel
theorem dX8_bad_9 : decode cX8_bad 9 = .ok (.iastore, 1) := by decide +kernel
theorem dX8_bad_10 : decode cX8_bad 10 = .ok (.iload_n 1, 1) := by decide +kernel
theorem dX8_bad_11 : decode cX8_bad 11 = .ok (.ireturn, 1) := by decide +kernel
theorem dX8_no_0 : decode cX8_no 0 = .ok (.aload_n 0, 1) := by decide +kernel
theorem dX8_no_1 : decode cX8_no 1 = .ok (.getfield 27, 3) := by decide +kernel
theorem dX8_no_4 : decode cX8_no 4 = .ok (.iconst 1, 1) := by decide +kernel
theorem dX8_no_5 : decode cX8_no 5 = .ok (.dup2, 1) := by decide +kernel
theorem dX8_no_6 : decode cX8_no 6 = .ok (.iaload, 1) := by decide +kernel
theorem dX8_no_7 : decode cX8_no 7 = .ok (.iconst 1, 1) := by decide +kernel
theorem dX8_no_8 : decode cX8_no 8 = .ok (.iadd, 1) := by decide +kernel
theorem dX8_no_9 : decode cX8_no 9 = .ok (.iastore, 1) := by decide +kernel
theorem dX8_no_10 : decode cX8_no 10 = .ok (.bipush (-3), 2) := by decide +kernel
theorem dX8_no_12 : decode cX8_no 12 = .ok (.ireturn, 1) := by decide +kernel
theorem dX8_full_0 : decode cX8_full 0 = .ok (.aload_n 0, 1) := by decide +kernel
theorem dX8_full_1 : decode cX8_full 1 = .ok (.getfield 27, 3) := by decide +kernel
theorem dX8_full_4 : decode cX8_full 4 = .ok (.iconst 2, 1) := by decide +kernel
theorem dX8_full_5 : decode cX8_full 5 = .ok (.dup2, 1) := by decide +kernel
theorem dX8_full_6 : decode cX8_full 6 = .ok (.iaload, 1) := by decide +kernel
theorem dX8_full_7 : decode cX8_full 7 = .ok (.iconst 1, 1) := by decide +kernel
theorem dX8_full_8 : decode cX8_full 8 = .ok (.iadd, 1) := by decide +kernel
theorem dX8_full_9 : decode cX8_full 9 = .ok (.iastore, 1) := by decide +kernel
theorem dX8_full_10 : decode cX8_full 10 = .ok (.bipush (-4), 2) := by decide +kernel
theorem dX8_full_12 : decode cX8_full 12 = .ok (.ireturn, 1) := by decide +kernel
theorem dX8_copy_0 : decode cX8_copy 0 = .ok (.iconst 0, 1) := by decide +kernel
theorem dX8_copy_1 : decode cX8_copy 1 = .ok (.istore_n 3, 1) := by decide +kernel
theorem dX8_copy_2 : decode cX8_copy 2 = .ok (.iload_n 3, 1) := by decide +kernel
theorem dX8_copy_3 : decode cX8_copy 3 = .ok (.bipush 114, 2) := by decide +kernel
theorem dX8_copy_5 : decode cX8_copy 5 = .ok (.if_icmp .ge 25, 3) := by decide +kernel
theorem dX8_copy_8 : decode cX8_copy 8 = .ok (.aload_n 0, 1) := by decide +kernel
theorem dX8_copy_9 : decode cX8_copy 9 = .ok (.getfield 7, 3) := by decide +kernel
theorem dX8_copy_12 : decode cX8_copy 12 = .ok (.iload_n 2, 1) := by decide +kernel
theorem dX8_copy_13 : decode cX8_copy 13 = .ok (.iload_n 3, 1) := by decide +kernel
theorem dX8_copy_14 : decode cX8_copy 14 = .ok (.iadd, 1) := by decide +kernel
theorem dX8_copy_15 : decode cX8_copy 15 = .ok (.aload_n 0, 1) := by decide +kernel
theorem dX8_copy_16 : decode cX8_copy 16 = .ok (.getfield 7, 3) := by decide +kernel
theorem dX8_copy_19 : decode cX8_copy 19 = .ok (.iload_n 1, 1) := by decide +kernel
theorem dX8_copy_20 : decode cX8_copy 20 = .ok (.iload_n 3, 1) := by decide +kernel
theorem dX8_copy_21 : decode cX8_copy 21 = .ok (.iadd, 1) := by decide +kernel
theorem dX8_copy_22 : decode cX8_copy 22 = .ok (.iaload, 1) := by decide +kernel
theorem dX8_copy_23 : decode cX8_copy 23 = .ok (.iastore, 1) := by decide +kernel
theorem dX8_copy_24 : decode cX8_copy 24 = .ok (.iinc 3 1, 3) := by decide +kernel
theorem dX8_copy_27 : decode cX8_copy 27 = .ok (.goto (-25), 3) := by decide +kernel
theorem dX8_copy_30 : decode cX8_copy 30 = .ok (.return_, 1) := by decide +kernel
theorem dX8_begins_0 : decode cX8_begins 0 = .ok (.iconst 0, 1) := by decide +kernel
theorem dX8_begins_1 : decode cX8_begins 1 = .ok (.istore 4, 2) := by decide +kernel
theorem dX8_begins_3 : decode cX8_begins 3 = .ok (.iload 4, 2) := by decide +kernel
theorem dX8_begins_5 : decode cX8_begins 5 = .ok (.bipush 114, 2) := by decide +kernel
theorem dX8_begins_7 : decode cX8_begins 7 = .ok (.if_icmp .ge 19, 3) := by decide +kernel
theorem dX8_begins_10 : decode cX8_begins 10 = .ok (.aload_n 0, 1) := by decide +kernel
theorem dX8_begins_11 : decode cX8_begins 11 = .ok (.getfield 7, 3) := by decide +kernel
theorem dX8_begins_14 : decode cX8_begins 14 = .ok (.iload_n 1, 1) := by decide +kernel
theorem dX8_begins_15 : decode cX8_begins 15 = .ok (.iload 4, 2) := by decide +kernel
theorem dX8_begins_17 : decode cX8_begins 17 = .ok (.iadd, 1) := by decide +kernel
theorem dX8_begins_18 : decode cX8_begins 18 = .ok (.iconst 0, 1) := by decide +kernel
theorem dX8_begins_19 : decode cX8_begins 19 = .ok (.iastore, 1) := by decide +kernel
theorem dX8_begins_20 : decode cX8_begins 20 = .ok (.iinc 4 1, 3) := by decide +kernel
theorem dX8_begins_23 : decode cX8_begins 23 = .ok (.goto (-20), 3) := by decide +kernel
theorem dX8_begins_26 : decode cX8_begins 26 = .ok (.aload_n 0, 1) := by decide +kernel
theorem dX8_begins_27 : decode cX8_begins 27 = .ok (.getfield 7, 3) := by decide +kernel
theorem dX8_begins_30 : decode cX8_begins 30 = .ok (.iload_n 1, 1) := by decide +kernel
theorem dX8_begins_31 : decode cX8_begins 31 = .ok (.bipush 11, 2) := by decide +kernel
theorem dX8_begins_33 : decode cX8_begins 33 = .ok (.iadd, 1) := by decide +kernel
theorem dX8_begins_34 : decode cX8_begins 34 = .ok (.iload_n 2, 1) := by decide +kernel
theorem dX8_begins_35 : decode cX8_begins 35 = .ok (.iastore, 1) := by decide +kernel
theorem dX8_begins_36 : decode cX8_begins 36 = .ok (.aload_n 0, 1) := by decide +kernel
theorem dX8_begins_37 : decode cX8_begins 37 = .ok (.getfield 7, 3) := by decide +kernel
theorem dX8_begins_40 : decode cX8_begins 40 = .ok (.iload_n 1, 1) := by decide +kernel
theorem dX8_begins_41 : decode cX8_begins 41 = .ok (.bipush 14, 2) := by decide +kernel
theorem dX8_begins_43 : decode cX8_begins 43 = .ok (.iadd, 1) := by decide +kernel
theorem dX8_begins_44 : decode cX8_begins 44 = .ok (.iload_n 3, 1) := by decide +kernel
theorem dX8_begins_45 : decode cX8_begins 45 = .ok (.iastore, 1) := by decide +kernel
theorem dX8_begins_46 : decode cX8_begins 46 = .ok (.return_, 1) := by decide +kernel
theorem dX8_isString_0 : decode cX8_isString 0 = .ok (.iload_n 1, 1) := by decide +kernel
theorem dX8_isString_1 : decode cX8_isString 1 = .ok (.i2l, 1) := by decide +kernel
theorem dX8_isString_2 : decode cX8_isString 2 = .ok (.lconst 0, 1) := by decide +kernel
theorem dX8_isString_3 : decode cX8_isString 3 = .ok (.aload_n 0, 1) := by decide +kernel
theorem dX8_isString_4 : decode cX8_isString 4 = .ok (.getfield 7, 3) := by decide +kernel
theorem dX8_isString_7 : decode cX8_isString 7 = .ok (.iconst 0, 1) := by decide +kernel
theorem dX8_isString_8 : decode cX8_isString 8 = .ok (.iaload, 1) := by decide +kernel
theorem dX8_isString_9 : decode cX8_isString 9 = .ok (.iconst 1, 1) := by decide +kernel
theorem dX8_isString_10 : decode cX8_isString 10 = .ok (.isub, 1) := by decide +kernel
theorem dX8_isString_11 : decode cX8_isString 11 = .ok (.i2l, 1) := by decide +kernel
theorem dX8_isString_12 : decode cX8_isString 12 = .ok (.invokestatic 56, 3) := by decide +kernel
theorem dX8_isString_15 : decode cX8_isString 15 = .ok (.ireturn, 1) := by decide +kernel
theorem dX8_isHouse_0 : decode cX8_isHouse 0 = .ok (.iload_n 0, 1) := by decide +kernel
theorem dX8_isHouse_1 : decode cX8_isHouse 1 = .ok (.i2l, 1) := by decide +kernel
theorem dX8_isHouse_2 : decode cX8_isHouse 2 = .ok (.lconst 0, 1) := by decide +kernel
theorem dX8_isHouse_3 : decode cX8_isHouse 3 = .ok (.lconst 1, 1) := by decide +kernel
theorem dX8_isHouse_4 : decode cX8_isHouse 4 = .ok (.invokestatic 56, 3) := by decide +kernel
theorem dX8_isHouse_7 : decode cX8_isHouse 7 = .ok (.ireturn, 1) := by decide +kernel
theorem dX8_silk_0 : decode cX8_silk 0 = .ok (.iload_n 1, 1) := by decide +kernel
theorem dX8_silk_1 : decode cX8_silk 1 = .ok (.bipush 6, 2) := by decide +kernel
theorem dX8_silk_3 : decode cX8_silk 3 = .ok (.if_icmp .lt 9, 3) := by decide +kernel
theorem dX8_silk_6 : decode cX8_silk 6 = .ok (.iload_n 1, 1) := by decide +kernel
theorem dX8_silk_7 : decode cX8_silk 7 = .ok (.bipush 18, 2) := by decide +kernel
theorem dX8_silk_9 : decode cX8_silk 9 = .ok (.if_icmp .lt 7, 3) := by decide +kernel
theorem dX8_silk_12 : decode cX8_silk 12 = .ok (.iconst 0, 1) := by decide +kernel
theorem dX8_silk_13 : decode cX8_silk 13 = .ok (.goto 4, 3) := by decide +kernel
theorem dX8_silk_16 : decode cX8_silk 16 = .ok (.iload_n 0, 1) := by decide +kernel
theorem dX8_silk_17 : decode cX8_silk 17 = .ok (.ireturn, 1) := by decide +kernel
theorem dX8_showOf_0 : decode cX8_showOf 0 = .ok (.iload_n 0, 1) := by decide +kernel
theorem dX8_showOf_1 : decode cX8_showOf 1 = .ok (.tableswitch 89 1 5 #[35, 41, 54, 58, 68], 35) := by decide +kernel
theorem dX8_showOf_36 : decode cX8_showOf 36 = .ok (.iload_n 1, 1) := by decide +kernel
theorem dX8_showOf_37 : decode cX8_showOf 37 = .ok (.iload_n 2, 1) := by decide +kernel
theorem dX8_showOf_38 : decode cX8_showOf 38 = .ok (.invokestatic 60, 3) := by decide +kernel
theorem dX8_showOf_41 : decode cX8_showOf 41 = .ok (.ireturn, 1) := by decide +kernel
theorem dX8_showOf_42 : decode cX8_showOf 42 = .ok (.iload_n 1, 1) := by decide +kernel
theorem dX8_showOf_43 : decode cX8_showOf 43 = .ok (.bipush 10, 2) := by decide +kernel
theorem dX8_showOf_45 : decode cX8_showOf 45 = .ok (.if_icmp .le 8, 3) := by decide +kernel
theorem dX8_showOf_48 : decode cX8_showOf 48 = .ok (.bipush 10, 2) := by decide +kernel
theorem dX8_showOf_50 : decode cX8_showOf 50 = .ok (.goto 4, 3) := by decide +kernel
theorem dX8_showOf_53 : decode cX8_showOf 53 = .ok (.iload_n 1, 1) := by decide +kernel
theorem dX8_showOf_54 : decode cX8_showOf 54 = .ok (.ireturn, 1) := by decide +kernel
theorem dX8_showOf_55 : decode cX8_showOf 55 = .ok (.iload_n 1, 1) := by decide +kernel
theorem dX8_showOf_56 : decode cX8_showOf 56 = .ok (.iconst 5, 1) := by decide +kernel
theorem dX8_showOf_57 : decode cX8_showOf 57 = .ok (.iadd, 1) := by decide +kernel
theorem dX8_showOf_58 : decode cX8_showOf 58 = .ok (.ireturn, 1) := by decide +kernel
theorem dX8_showOf_59 : decode cX8_showOf 59 = .ok (.iload_n 1, 1) := by decide +kernel
theorem dX8_showOf_60 : decode cX8_showOf 60 = .ok (.iload_n 2, 1) := by decide +kernel
theorem dX8_showOf_61 : decode cX8_showOf 61 = .ok (.invokestatic 60, 3) := by decide +kernel
theorem dX8_showOf_64 : decode cX8_showOf 64 = .ok (.iconst 1, 1) := by decide +kernel
theorem dX8_showOf_65 : decode cX8_showOf 65 = .ok (.iadd, 1) := by decide +kernel
theorem dX8_showOf_66 : decode cX8_showOf 66 = .ok (.iconst 2, 1) := by decide +kernel
theorem dX8_showOf_67 : decode cX8_showOf 67 = .ok (.idiv, 1) := by decide +kernel
theorem dX8_showOf_68 : decode cX8_showOf 68 = .ok (.ireturn, 1) := by decide +kernel
theorem dX8_showOf_69 : decode cX8_showOf 69 = .ok (.iconst 2, 1) := by decide +kernel
theorem dX8_showOf_70 : decode cX8_showOf 70 = .ok (.iload_n 1, 1) := by decide +kernel
theorem dX8_showOf_71 : decode cX8_showOf 71 = .ok (.iconst 5, 1) := by decide +kernel
theorem dX8_showOf_72 : decode cX8_showOf 72 = .ok (.iadd, 1) := by decide +kernel
theorem dX8_showOf_73 : decode cX8_showOf 73 = .ok (.imul, 1) := by decide +kernel
theorem dX8_showOf_74 : decode cX8_showOf 74 = .ok (.bipush 99, 2) := by decide +kernel
theorem dX8_showOf_76 : decode cX8_showOf 76 = .ok (.if_icmp .le 8, 3) := by decide +kernel
theorem dX8_showOf_79 : decode cX8_showOf 79 = .ok (.bipush 99, 2) := by decide +kernel
theorem dX8_showOf_81 : decode cX8_showOf 81 = .ok (.goto 8, 3) := by decide +kernel
theorem dX8_showOf_84 : decode cX8_showOf 84 = .ok (.iconst 2, 1) := by decide +kernel
theorem dX8_showOf_85 : decode cX8_showOf 85 = .ok (.iload_n 1, 1) := by decide +kernel
theorem dX8_showOf_86 : decode cX8_showOf 86 = .ok (.iconst 5, 1) := by decide +kernel
theorem dX8_showOf_87 : decode cX8_showOf 87 = .ok (.iadd, 1) := by decide +kernel
theorem dX8_showOf_88 : decode cX8_showOf 88 = .ok (.imul, 1) := by decide +kernel
theorem dX8_showOf_89 : decode cX8_showOf 89 = .ok (.ireturn, 1) := by decide +kernel
theorem dX8_showOf_90 : decode cX8_showOf 90 = .ok (.iload_n 1, 1) := by decide +kernel
theorem dX8_showOf_91 : decode cX8_showOf 91 = .ok (.ireturn, 1) := by decide +kernel
theorem dX8_plain_0 : decode cX8_plain 0 = .ok (.iload_n 0, 1) := by decide +kernel
theorem dX8_plain_1 : decode cX8_plain 1 = .ok (.iconst 1, 1) := by decide +kernel
theorem dX8_plain_2 : decode cX8_plain 2 = .ok (.iadd, 1) := by decide +kernel
theorem dX8_plain_3 : decode cX8_plain 3 = .ok (.iconst 2, 1) := by decide +kernel
theorem dX8_plain_4 : decode cX8_plain 4 = .ok (.idiv, 1) := by decide +kernel
theorem dX8_plain_5 : decode cX8_plain 5 = .ok (.ireturn, 1) := by decide +kernel
theorem dX8_steep_0 : decode cX8_steep 0 = .ok (.iload_n 0, 1) := by decide +kernel
theorem dX8_steep_1 : decode cX8_steep 1 = .ok (.invokestatic 64, 3) := by decide +kernel
theorem dX8_steep_4 : decode cX8_steep 4 = .ok (.iload_n 0, 1) := by decide +kernel
theorem dX8_steep_5 : decode cX8_steep 5 = .ok (.bipush 10, 2) := by decide +kernel
theorem dX8_steep_7 : decode cX8_steep 7 = .ok (.idiv, 1) := by decide +kernel
theorem dX8_steep_8 : decode cX8_steep 8 = .ok (.iadd, 1) := by decide +kernel
theorem dX8_steep_9 : decode cX8_steep 9 = .ok (.ireturn, 1) := by decide +kernel
theorem dX8_greedy_0 : decode cX8_greedy 0 = .ok (.iload_n 0, 1) := by decide +kernel
theorem dX8_greedy_1 : decode cX8_greedy 1 = .ok (.iconst 1, 1) := by decide +kernel
theorem dX8_greedy_2 : decode cX8_greedy 2 = .ok (.if_icmp .lt 12, 3) := by decide +kernel
theorem dX8_greedy_5 : decode cX8_greedy 5 = .ok (.iload_n 0, 1) := by decide +kernel
theorem dX8_greedy_6 : decode cX8_greedy 6 = .ok (.invokestatic 64, 3) := by decide +kernel
theorem dX8_greedy_9 : decode cX8_greedy 9 = .ok (.iconst 3, 1) := by decide +kernel
theorem dX8_greedy_10 : decode cX8_greedy 10 = .ok (.iadd, 1) := by decide +kernel
theorem dX8_greedy_11 : decode cX8_greedy 11 = .ok (.goto 7, 3) := by decide +kernel
theorem dX8_greedy_14 : decode cX8_greedy 14 = .ok (.iload_n 0, 1) := by decide +kernel
theorem dX8_greedy_15 : decode cX8_greedy 15 = .ok (.invokestatic 64, 3) := by decide +kernel
theorem dX8_greedy_18 : decode cX8_greedy 18 = .ok (.ireturn, 1) := by decide +kernel
theorem dX8_chargeOf_0 : decode cX8_chargeOf 0 = .ok (.iload_n 0, 1) := by decide +kernel
theorem dX8_chargeOf_1 : decode cX8_chargeOf 1 = .ok (.tableswitch 91 1 5 #[35, 40, 56, 61, 80], 35) := by decide +kernel
theorem dX8_chargeOf_36 : decode cX8_chargeOf 36 = .ok (.iload_n 1, 1) := by decide +kernel
theorem dX8_chargeOf_37 : decode cX8_chargeOf 37 = .ok (.invokestatic 68, 3) := by decide +kernel
theorem dX8_chargeOf_40 : decode cX8_chargeOf 40 = .ok (.ireturn, 1) := by decide +kernel
theorem dX8_chargeOf_41 : decode cX8_chargeOf 41 = .ok (.iload_n 2, 1) := by decide +kernel
theorem dX8_chargeOf_42 : decode cX8_chargeOf 42 = .ok (.bipush 7, 2) := by decide +kernel
theorem dX8_chargeOf_44 : decode cX8_chargeOf 44 = .ok (.irem, 1) := by decide +kernel
theorem dX8_chargeOf_45 : decode cX8_chargeOf 45 = .ok (.ifCond .ne 7, 3) := by decide +kernel
theorem dX8_chargeOf_48 : decode cX8_chargeOf 48 = .ok (.iconst 0, 1) := by decide +kernel
theorem dX8_chargeOf_49 : decode cX8_chargeOf 49 = .ok (.goto 7, 3) := by decide +kernel
theorem dX8_chargeOf_52 : decode cX8_chargeOf 52 = .ok (.iload_n 1, 1) := by decide +kernel
theorem dX8_chargeOf_53 : decode cX8_chargeOf 53 = .ok (.invokestatic 64, 3) := by decide +kernel
theorem dX8_chargeOf_56 : decode cX8_chargeOf 56 = .ok (.ireturn, 1) := by decide +kernel
theorem dX8_chargeOf_57 : decode cX8_chargeOf 57 = .ok (.iload_n 1, 1) := by decide +kernel
theorem dX8_chargeOf_58 : decode cX8_chargeOf 58 = .ok (.invokestatic 71, 3) := by decide +kernel
theorem dX8_chargeOf_61 : decode cX8_chargeOf 61 = .ok (.ireturn, 1) := by decide +kernel
theorem dX8_chargeOf_62 : decode cX8_chargeOf 62 = .ok (.iload_n 1, 1) := by decide +kernel
theorem dX8_chargeOf_63 : decode cX8_chargeOf 63 = .ok (.invokestatic 68, 3) := by decide +kernel
theorem dX8_chargeOf_66 : decode cX8_chargeOf 66 = .ok (.bipush 25, 2) := by decide +kernel
theorem dX8_chargeOf_68 : decode cX8_chargeOf 68 = .ok (.if_icmp .le 8, 3) := by decide +kernel
theorem dX8_chargeOf_71 : decode cX8_chargeOf 71 = .ok (.bipush 25, 2) := by decide +kernel
theorem dX8_chargeOf_73 : decode cX8_chargeOf 73 = .ok (.goto 7, 3) := by decide +kernel
theorem dX8_chargeOf_76 : decode cX8_chargeOf 76 = .ok (.iload_n 1, 1) := by decide +kernel
theorem dX8_chargeOf_77 : decode cX8_chargeOf 77 = .ok (.invokestatic 68, 3) := by decide +kernel
theorem dX8_chargeOf_80 : decode cX8_chargeOf 80 = .ok (.ireturn, 1) := by decide +kernel
theorem dX8_chargeOf_81 : decode cX8_chargeOf 81 = .ok (.iload_n 1, 1) := by decide +kernel
theorem dX8_chargeOf_82 : decode cX8_chargeOf 82 = .ok (.invokestatic 71, 3) := by decide +kernel
theorem dX8_chargeOf_85 : decode cX8_chargeOf 85 = .ok (.iconst 4, 1) := by decide +kernel
theorem dX8_chargeOf_86 : decode cX8_chargeOf 86 = .ok (.iadd, 1) := by decide +kernel
theorem dX8_chargeOf_87 : decode cX8_chargeOf 87 = .ok (.iconst 5, 1) := by decide +kernel
theorem dX8_chargeOf_88 : decode cX8_chargeOf 88 = .ok (.idiv, 1) := by decide +kernel
theorem dX8_chargeOf_89 : decode cX8_chargeOf 89 = .ok (.iconst 5, 1) := by decide +kernel
theorem dX8_chargeOf_90 : decode cX8_chargeOf 90 = .ok (.imul, 1) := by decide +kernel
theorem dX8_chargeOf_91 : decode cX8_chargeOf 91 = .ok (.ireturn, 1) := by decide +kernel
theorem dX8_chargeOf_92 : decode cX8_chargeOf 92 = .ok (.iload_n 1, 1) := by decide +kernel
theorem dX8_chargeOf_93 : decode cX8_chargeOf 93 = .ok (.invokestatic 64, 3) := by decide +kernel
theorem dX8_chargeOf_96 : decode cX8_chargeOf 96 = .ok (.ireturn, 1) := by decide +kernel
theorem dX8_bringsBy_0 : decode cX8_bringsBy 0 = .ok (.iload_n 0, 1) := by decide +kernel
theorem dX8_bringsBy_1 : decode cX8_bringsBy 1 = .ok (.iload_n 1, 1) := by decide +kernel
theorem dX8_bringsBy_2 : decode cX8_bringsBy 2 = .ok (.if_icmp .lt 11, 3) := by decide +kernel
theorem dX8_bringsBy_5 : decode cX8_bringsBy 5 = .ok (.iload_n 0, 1) := by decide +kernel
theorem dX8_bringsBy_6 : decode cX8_bringsBy 6 = .ok (.iconst 1, 1) := by decide +kernel
theorem dX8_bringsBy_7 : decode cX8_bringsBy 7 = .ok (.iadd, 1) := by decide +kernel
theorem dX8_bringsBy_8 : decode cX8_bringsBy 8 = .ok (.iload_n 1, 1) := by decide +kernel
theorem dX8_bringsBy_9 : decode cX8_bringsBy 9 = .ok (.isub, 1) := by decide +kernel
theorem dX8_bringsBy_10 : decode cX8_bringsBy 10 = .ok (.goto 4, 3) := by decide +kernel
theorem dX8_bringsBy_13 : decode cX8_bringsBy 13 = .ok (.iconst 0, 1) := by decide +kernel
theorem dX8_bringsBy_14 : decode cX8_bringsBy 14 = .ok (.ireturn, 1) := by decide +kernel
theorem dX8_province_0 : decode cX8_province 0 = .ok (.iload_n 1, 1) := by decide +kernel
theorem dX8_province_1 : decode cX8_province 1 = .ok (.i2l, 1) := by decide +kernel
theorem dX8_province_2 : decode cX8_province 2 = .ok (.lconst 1, 1) := by decide +kernel
theorem dX8_province_3 : decode cX8_province 3 = .ok (.ldc2_w 74, 3) := by decide +kernel
theorem dX8_province_6 : decode cX8_province 6 = .ok (.invokestatic 56, 3) := by decide +kernel
theorem dX8_province_9 : decode cX8_province 9 = .ok (.ifCond .eq 15, 3) := by decide +kernel
theorem dX8_province_12 : decode cX8_province 12 = .ok (.iload_n 2, 1) := by decide +kernel
theorem dX8_province_13 : decode cX8_province 13 = .ok (.i2l, 1) := by decide +kernel
theorem dX8_province_14 : decode cX8_province 14 = .ok (.lconst 0, 1) := by decide +kernel
theorem dX8_province_15 : decode cX8_province 15 = .ok (.ldc2_w 76, 3) := by decide +kernel
theorem dX8_province_18 : decode cX8_province 18 = .ok (.invokestatic 56, 3) := by decide +kernel
theorem dX8_province_21 : decode cX8_province 21 = .ok (.ifCond .ne 10, 3) := by decide +kernel
theorem dX8_province_24 : decode cX8_province 24 = .ok (.aload_n 0, 1) := by decide +kernel
theorem dX8_province_25 : decode cX8_province 25 = .ok (.bipush (-2), 2) := by decide +kernel
theorem dX8_province_27 : decode cX8_province 27 = .ok (.invokevirtual 78, 3) := by decide +kernel
theorem dX8_province_30 : decode cX8_province 30 = .ok (.ireturn, 1) := by decide +kernel
theorem dX8_province_31 : decode cX8_province 31 = .ok (.aload_n 0, 1) := by decide +kernel
theorem dX8_province_32 : decode cX8_province 32 = .ok (.getfield 7, 3) := by decide +kernel
theorem dX8_province_35 : decode cX8_province 35 = .ok (.iconst 0, 1) := by decide +kernel
theorem dX8_province_36 : decode cX8_province 36 = .ok (.iaload, 1) := by decide +kernel
theorem dX8_province_37 : decode cX8_province 37 = .ok (.istore_n 3, 1) := by decide +kernel
theorem dX8_province_38 : decode cX8_province 38 = .ok (.aload_n 0, 1) := by decide +kernel
theorem dX8_province_39 : decode cX8_province 39 = .ok (.iconst 0, 1) := by decide +kernel
theorem dX8_province_40 : decode cX8_province 40 = .ok (.iload_n 1, 1) := by decide +kernel
theorem dX8_province_41 : decode cX8_province 41 = .ok (.iload_n 2, 1) := by decide +kernel
theorem dX8_province_42 : decode cX8_province 42 = .ok (.invokevirtual 52, 3) := by decide +kernel
theorem dX8_province_45 : decode cX8_province 45 = .ok (.iload_n 3, 1) := by decide +kernel
theorem dX8_province_46 : decode cX8_province 46 = .ok (.ireturn, 1) := by decide +kernel
theorem dX8_house_0 : decode cX8_house 0 = .ok (.iload_n 1, 1) := by decide +kernel
theorem dX8_house_1 : decode cX8_house 1 = .ok (.invokestatic 81, 3) := by decide +kernel
theorem dX8_house_4 : decode cX8_house 4 = .ok (.ifCond .eq 15, 3) := by decide +kernel
theorem dX8_house_7 : decode cX8_house 7 = .ok (.iload_n 2, 1) := by decide +kernel
theorem dX8_house_8 : decode cX8_house 8 = .ok (.i2l, 1) := by decide +kernel
theorem dX8_house_9 : decode cX8_house 9 = .ok (.lconst 0, 1) := by decide +kernel
theorem dX8_house_10 : decode cX8_house 10 = .ok (.ldc2_w 85, 3) := by decide +kernel
theorem dX8_house_13 : decode cX8_house 13 = .ok (.invokestatic 56, 3) := by decide +kernel
theorem dX8_house_16 : decode cX8_house 16 = .ok (.ifCond .ne 10, 3) := by decide +kernel
theorem dX8_house_19 : decode cX8_house 19 = .ok (.aload_n 0, 1) := by decide +kernel
theorem dX8_house_20 : decode cX8_house 20 = .ok (.bipush (-2), 2) := by decide +kernel
theorem dX8_house_22 : decode cX8_house 22 = .ok (.invokevirtual 78, 3) := by decide +kernel
theorem dX8_house_25 : decode cX8_house 25 = .ok (.ireturn, 1) := by decide +kernel
theorem dX8_house_26 : decode cX8_house 26 = .ok (.aload_n 0, 1) := by decide +kernel
theorem dX8_house_27 : decode cX8_house 27 = .ok (.getfield 7, 3) := by decide +kernel
theorem dX8_house_30 : decode cX8_house 30 = .ok (.bipush 12, 2) := by decide +kernel
theorem dX8_house_32 : decode cX8_house 32 = .ok (.iload_n 1, 1) := by decide +kernel
theorem dX8_house_33 : decode cX8_house 33 = .ok (.iadd, 1) := by decide +kernel
theorem dX8_house_34 : decode cX8_house 34 = .ok (.iaload, 1) := by decide +kernel
theorem dX8_house_35 : decode cX8_house 35 = .ok (.istore_n 3, 1) := by decide +kernel
theorem dX8_house_36 : decode cX8_house 36 = .ok (.aload_n 0, 1) := by decide +kernel
theorem dX8_house_37 : decode cX8_house 37 = .ok (.getfield 7, 3) := by decide +kernel
theorem dX8_house_40 : decode cX8_house 40 = .ok (.bipush 12, 2) := by decide +kernel
theorem dX8_house_42 : decode cX8_house 42 = .ok (.iload_n 1, 1) := by decide +kernel
theorem dX8_house_43 : decode cX8_house 43 = .ok (.iadd, 1) := by decide +kernel
theorem dX8_house_44 : decode cX8_house 44 = .ok (.iload_n 2, 1) := by decide +kernel
theorem dX8_house_45 : decode cX8_house 45 = .ok (.iastore, 1) := by decide +kernel
theorem dX8_house_46 : decode cX8_house 46 = .ok (.aload_n 0, 1) := by decide +kernel
theorem dX8_house_47 : decode cX8_house 47 = .ok (.getfield 7, 3) := by decide +kernel
theorem dX8_house_50 : decode cX8_house 50 = .ok (.bipush 81, 2) := by decide +kernel
theorem dX8_house_52 : decode cX8_house 52 = .ok (.iconst 0, 1) := by decide +kernel
theorem dX8_house_53 : decode cX8_house 53 = .ok (.iastore, 1) := by decide +kernel
theorem dX8_house_54 : decode cX8_house 54 = .ok (.iload_n 3, 1) := by decide +kernel
theorem dX8_house_55 : decode cX8_house 55 = .ok (.ireturn, 1) := by decide +kernel
theorem dX8_adds_0 : decode cX8_adds 0 = .ok (.aload_n 0, 1) := by decide +kernel
theorem dX8_adds_1 : decode cX8_adds 1 = .ok (.getfield 7, 3) := by decide +kernel
theorem dX8_adds_4 : decode cX8_adds 4 = .ok (.iload_n 1, 1) := by decide +kernel
theorem dX8_adds_5 : decode cX8_adds 5 = .ok (.iconst 1, 1) := by decide +kernel
theorem dX8_adds_6 : decode cX8_adds 6 = .ok (.iadd, 1) := by decide +kernel
theorem dX8_adds_7 : decode cX8_adds 7 = .ok (.aload_n 0, 1) := by decide +kernel
theorem dX8_adds_8 : decode cX8_adds 8 = .ok (.getfield 7, 3) := by decide +kernel
theorem dX8_adds_11 : decode cX8_adds 11 = .ok (.iload_n 1, 1) := by decide +kernel
theorem dX8_adds_12 : decode cX8_adds 12 = .ok (.iconst 0, 1) := by decide +kernel
theorem dX8_adds_13 : decode cX8_adds 13 = .ok (.iadd, 1) := by decide +kernel
theorem dX8_adds_14 : decode cX8_adds 14 = .ok (.iaload, 1) := by decide +kernel
theorem dX8_adds_15 : decode cX8_adds 15 = .ok (.iadd, 1) := by decide +kernel
theorem dX8_adds_16 : decode cX8_adds 16 = .ok (.iload_n 2, 1) := by decide +kernel
theorem dX8_adds_17 : decode cX8_adds 17 = .ok (.iastore, 1) := by decide +kernel
theorem dX8_adds_18 : decode cX8_adds 18 = .ok (.aload_n 0, 1) := by decide +kernel
theorem dX8_adds_19 : decode cX8_adds 19 = .ok (.getfield 7, 3) := by decide +kernel
theorem dX8_adds_22 : decode cX8_adds 22 = .ok (.iload_n 1, 1) := by decide +kernel
theorem dX8_adds_23 : decode cX8_adds 23 = .ok (.bipush 6, 2) := by decide +kernel
theorem dX8_adds_25 : decode cX8_adds 25 = .ok (.iadd, 1) := by decide +kernel
theorem dX8_adds_26 : decode cX8_adds 26 = .ok (.aload_n 0, 1) := by decide +kernel
theorem dX8_adds_27 : decode cX8_adds 27 = .ok (.getfield 7, 3) := by decide +kernel
theorem dX8_adds_30 : decode cX8_adds 30 = .ok (.iload_n 1, 1) := by decide +kernel
theorem dX8_adds_31 : decode cX8_adds 31 = .ok (.iconst 0, 1) := by decide +kernel
theorem dX8_adds_32 : decode cX8_adds 32 = .ok (.iadd, 1) := by decide +kernel
theorem dX8_adds_33 : decode cX8_adds 33 = .ok (.iaload, 1) := by decide +kernel
theorem dX8_adds_34 : decode cX8_adds 34 = .ok (.iadd, 1) := by decide +kernel
theorem dX8_adds_35 : decode cX8_adds 35 = .ok (.iload_n 3, 1) := by decide +kernel
theorem dX8_adds_36 : decode cX8_adds 36 = .ok (.iastore, 1) := by decide +kernel
theorem dX8_adds_37 : decode cX8_adds 37 = .ok (.aload_n 0, 1) := by decide +kernel
theorem dX8_adds_38 : decode cX8_adds 38 = .ok (.getfield 7, 3) := by decide +kernel
theorem dX8_adds_41 : decode cX8_adds 41 = .ok (.iload_n 1, 1) := by decide +kernel
theorem dX8_adds_42 : decode cX8_adds 42 = .ok (.iconst 0, 1) := by decide +kernel
theorem dX8_adds_43 : decode cX8_adds 43 = .ok (.iadd, 1) := by decide +kernel
theorem dX8_adds_44 : decode cX8_adds 44 = .ok (.dup2, 1) := by decide +kernel
theorem dX8_adds_45 : decode cX8_adds 45 = .ok (.iaload, 1) := by decide +kernel
theorem dX8_adds_46 : decode cX8_adds 46 = .ok (.iconst 1, 1) := by decide +kernel
theorem dX8_adds_47 : decode cX8_adds 47 = .ok (.iadd, 1) := by decide +kernel
theorem dX8_adds_48 : decode cX8_adds 48 = .ok (.iastore, 1) := by decide +kernel
theorem dX8_adds_49 : decode cX8_adds 49 = .ok (.return_, 1) := by decide +kernel
theorem dX8_string_0 : decode cX8_string 0 = .ok (.iload_n 1, 1) := by decide +kernel
theorem dX8_string_1 : decode cX8_string 1 = .ok (.i2l, 1) := by decide +kernel
theorem dX8_string_2 : decode cX8_string 2 = .ok (.lconst 0, 1) := by decide +kernel
theorem dX8_string_3 : decode cX8_string 3 = .ok (.ldc2_w 85, 3) := by decide +kernel
theorem dX8_string_6 : decode cX8_string 6 = .ok (.invokestatic 56, 3) := by decide +kernel
theorem dX8_string_9 : decode cX8_string 9 = .ok (.ifCond .eq 15, 3) := by decide +kernel
theorem dX8_string_12 : decode cX8_string 12 = .ok (.iload_n 2, 1) := by decide +kernel
theorem dX8_string_13 : decode cX8_string 13 = .ok (.i2l, 1) := by decide +kernel
theorem dX8_string_14 : decode cX8_string 14 = .ok (.lconst 1, 1) := by decide +kernel
theorem dX8_string_15 : decode cX8_string 15 = .ok (.ldc2_w 74, 3) := by decide +kernel
theorem dX8_string_18 : decode cX8_string 18 = .ok (.invokestatic 56, 3) := by decide +kernel
theorem dX8_string_21 : decode cX8_string 21 = .ok (.ifCond .ne 10, 3) := by decide +kernel
theorem dX8_string_24 : decode cX8_string 24 = .ok (.aload_n 0, 1) := by decide +kernel
theorem dX8_string_25 : decode cX8_string 25 = .ok (.bipush (-2), 2) := by decide +kernel
theorem dX8_string_27 : decode cX8_string 27 = .ok (.invokevirtual 78, 3) := by decide +kernel
theorem dX8_string_30 : decode cX8_string 30 = .ok (.ireturn, 1) := by decide +kernel
theorem dX8_string_31 : decode cX8_string 31 = .ok (.aload_n 0, 1) := by decide +kernel
theorem dX8_string_32 : decode cX8_string 32 = .ok (.getfield 7, 3) := by decide +kernel
theorem dX8_string_35 : decode cX8_string 35 = .ok (.iconst 0, 1) := by decide +kernel
theorem dX8_string_36 : decode cX8_string 36 = .ok (.iaload, 1) := by decide +kernel
theorem dX8_string_37 : decode cX8_string 37 = .ok (.iconst 5, 1) := by decide +kernel
theorem dX8_string_38 : decode cX8_string 38 = .ok (.if_icmp .ne 8, 3) := by decide +kernel
theorem dX8_string_41 : decode cX8_string 41 = .ok (.aload_n 0, 1) := by decide +kernel
theorem dX8_string_42 : decode cX8_string 42 = .ok (.invokevirtual 87, 3) := by decide +kernel
theorem dX8_string_45 : decode cX8_string 45 = .ok (.ireturn, 1) := by decide +kernel
theorem dX8_string_46 : decode cX8_string 46 = .ok (.aload_n 0, 1) := by decide +kernel
theorem dX8_string_47 : decode cX8_string 47 = .ok (.iconst 0, 1) := by decide +kernel
theorem dX8_string_48 : decode cX8_string 48 = .ok (.iload_n 1, 1) := by decide +kernel
theorem dX8_string_49 : decode cX8_string 49 = .ok (.iload_n 2, 1) := by decide +kernel
theorem dX8_string_50 : decode cX8_string 50 = .ok (.invokevirtual 91, 3) := by decide +kernel
theorem dX8_string_53 : decode cX8_string 53 = .ok (.aload_n 0, 1) := by decide +kernel
theorem dX8_string_54 : decode cX8_string 54 = .ok (.getfield 7, 3) := by decide +kernel
theorem dX8_string_57 : decode cX8_string 57 = .ok (.bipush 81, 2) := by decide +kernel
theorem dX8_string_59 : decode cX8_string 59 = .ok (.iconst 0, 1) := by decide +kernel
theorem dX8_string_60 : decode cX8_string 60 = .ok (.iastore, 1) := by decide +kernel
theorem dX8_string_61 : decode cX8_string 61 = .ok (.aload_n 0, 1) := by decide +kernel
theorem dX8_string_62 : decode cX8_string 62 = .ok (.getfield 7, 3) := by decide +kernel
theorem dX8_string_65 : decode cX8_string 65 = .ok (.iconst 0, 1) := by decide +kernel
theorem dX8_string_66 : decode cX8_string 66 = .ok (.iaload, 1) := by decide +kernel
theorem dX8_string_67 : decode cX8_string 67 = .ok (.iconst 1, 1) := by decide +kernel
theorem dX8_string_68 : decode cX8_string 68 = .ok (.isub, 1) := by decide +kernel
theorem dX8_string_69 : decode cX8_string 69 = .ok (.ireturn, 1) := by decide +kernel
theorem dX8_type_0 : decode cX8_type 0 = .ok (.iload_n 1, 1) := by decide +kernel
theorem dX8_type_1 : decode cX8_type 1 = .ok (.i2l, 1) := by decide +kernel
theorem dX8_type_2 : decode cX8_type 2 = .ok (.lconst 0, 1) := by decide +kernel
theorem dX8_type_3 : decode cX8_type 3 = .ok (.ldc2_w 94, 3) := by decide +kernel
theorem dX8_type_6 : decode cX8_type 6 = .ok (.invokestatic 56, 3) := by decide +kernel
theorem dX8_type_9 : decode cX8_type 9 = .ok (.ifCond .ne 10, 3) := by decide +kernel
theorem dX8_type_12 : decode cX8_type 12 = .ok (.aload_n 0, 1) := by decide +kernel
theorem dX8_type_13 : decode cX8_type 13 = .ok (.bipush (-2), 2) := by decide +kernel
theorem dX8_type_15 : decode cX8_type 15 = .ok (.invokevirtual 78, 3) := by decide +kernel
theorem dX8_type_18 : decode cX8_type 18 = .ok (.ireturn, 1) := by decide +kernel
theorem dX8_type_19 : decode cX8_type 19 = .ok (.aload_n 0, 1) := by decide +kernel
theorem dX8_type_20 : decode cX8_type 20 = .ok (.getfield 48, 3) := by decide +kernel
theorem dX8_type_23 : decode cX8_type 23 = .ok (.sipush 150, 3) := by decide +kernel
theorem dX8_type_26 : decode cX8_type 26 = .ok (.if_icmp .ne 8, 3) := by decide +kernel
theorem dX8_type_29 : decode cX8_type 29 = .ok (.aload_n 0, 1) := by decide +kernel
theorem dX8_type_30 : decode cX8_type 30 = .ok (.invokevirtual 87, 3) := by decide +kernel
theorem dX8_type_33 : decode cX8_type 33 = .ok (.ireturn, 1) := by decide +kernel
theorem dX8_type_34 : decode cX8_type 34 = .ok (.aload_n 0, 1) := by decide +kernel
theorem dX8_type_35 : decode cX8_type 35 = .ok (.getfield 17, 3) := by decide +kernel
theorem dX8_type_38 : decode cX8_type 38 = .ok (.aload_n 0, 1) := by decide +kernel
theorem dX8_type_39 : decode cX8_type 39 = .ok (.getfield 48, 3) := by decide +kernel
theorem dX8_type_42 : decode cX8_type 42 = .ok (.iload_n 1, 1) := by decide +kernel
theorem dX8_type_43 : decode cX8_type 43 = .ok (.iastore, 1) := by decide +kernel
theorem dX8_type_44 : decode cX8_type 44 = .ok (.aload_n 0, 1) := by decide +kernel
theorem dX8_type_45 : decode cX8_type 45 = .ok (.dup, 1) := by decide +kernel
theorem dX8_type_46 : decode cX8_type 46 = .ok (.getfield 48, 3) := by decide +kernel
theorem dX8_type_49 : decode cX8_type 49 = .ok (.iconst 1, 1) := by decide +kernel
theorem dX8_type_50 : decode cX8_type 50 = .ok (.iadd, 1) := by decide +kernel
theorem dX8_type_51 : decode cX8_type 51 = .ok (.putfield 48, 3) := by decide +kernel
theorem dX8_type_54 : decode cX8_type 54 = .ok (.aload_n 0, 1) := by decide +kernel
theorem dX8_type_55 : decode cX8_type 55 = .ok (.getfield 48, 3) := by decide +kernel
theorem dX8_type_58 : decode cX8_type 58 = .ok (.ireturn, 1) := by decide +kernel
theorem dX8_clear_0 : decode cX8_clear 0 = .ok (.aload_n 0, 1) := by decide +kernel
theorem dX8_clear_1 : decode cX8_clear 1 = .ok (.getfield 48, 3) := by decide +kernel
theorem dX8_clear_4 : decode cX8_clear 4 = .ok (.istore_n 1, 1) := by decide +kernel
theorem dX8_clear_5 : decode cX8_clear 5 = .ok (.aload_n 0, 1) := by decide +kernel
theorem dX8_clear_6 : decode cX8_clear 6 = .ok (.iconst 0, 1) := by decide +kernel
theorem dX8_clear_7 : decode cX8_clear 7 = .ok (.putfield 48, 3) := by decide +kernel
theorem dX8_clear_10 : decode cX8_clear 10 = .ok (.iload_n 1, 1) := by decide +kernel
theorem dX8_clear_11 : decode cX8_clear 11 = .ok (.ireturn, 1) := by decide +kernel
theorem dX8_byteAt_0 : decode cX8_byteAt 0 = .ok (.iload_n 1, 1) := by decide +kernel
theorem dX8_byteAt_1 : decode cX8_byteAt 1 = .ok (.aload_n 0, 1) := by decide +kernel
theorem dX8_byteAt_2 : decode cX8_byteAt 2 = .ok (.getfield 48, 3) := by decide +kernel
theorem dX8_byteAt_5 : decode cX8_byteAt 5 = .ok (.if_icmp .ge 12, 3) := by decide +kernel
theorem dX8_byteAt_8 : decode cX8_byteAt 8 = .ok (.aload_n 0, 1) := by decide +kernel
theorem dX8_byteAt_9 : decode cX8_byteAt 9 = .ok (.getfield 17, 3) := by decide +kernel
theorem dX8_byteAt_12 : decode cX8_byteAt 12 = .ok (.iload_n 1, 1) := by decide +kernel
theorem dX8_byteAt_13 : decode cX8_byteAt 13 = .ok (.iaload, 1) := by decide +kernel
theorem dX8_byteAt_14 : decode cX8_byteAt 14 = .ok (.goto 4, 3) := by decide +kernel
theorem dX8_byteAt_17 : decode cX8_byteAt 17 = .ok (.iconst (-1), 1) := by decide +kernel
theorem dX8_byteAt_18 : decode cX8_byteAt 18 = .ok (.ireturn, 1) := by decide +kernel
theorem dX8_blanks_0 : decode cX8_blanks 0 = .ok (.aload_n 0, 1) := by decide +kernel
theorem dX8_blanks_1 : decode cX8_blanks 1 = .ok (.aload_n 0, 1) := by decide +kernel
theorem dX8_blanks_2 : decode cX8_blanks 2 = .ok (.getfield 96, 3) := by decide +kernel
theorem dX8_blanks_5 : decode cX8_blanks 5 = .ok (.invokevirtual 99, 3) := by decide +kernel
theorem dX8_blanks_8 : decode cX8_blanks 8 = .ok (.bipush 32, 2) := by decide +kernel
theorem dX8_blanks_10 : decode cX8_blanks 10 = .ok (.if_icmp .ne 16, 3) := by decide +kernel
theorem dX8_blanks_13 : decode cX8_blanks 13 = .ok (.aload_n 0, 1) := by decide +kernel
theorem dX8_blanks_14 : decode cX8_blanks 14 = .ok (.dup, 1) := by decide +kernel
theorem dX8_blanks_15 : decode cX8_blanks 15 = .ok (.getfield 96, 3) := by decide +kernel
theorem dX8_blanks_18 : decode cX8_blanks 18 = .ok (.iconst 1, 1) := by decide +kernel
theorem dX8_blanks_19 : decode cX8_blanks 19 = .ok (.iadd, 1) := by decide +kernel
theorem dX8_blanks_20 : decode cX8_blanks 20 = .ok (.putfield 96, 3) := by decide +kernel
theorem dX8_blanks_23 : decode cX8_blanks 23 = .ok (.goto (-23), 3) := by decide +kernel
theorem dX8_blanks_26 : decode cX8_blanks 26 = .ok (.aload_n 0, 1) := by decide +kernel
theorem dX8_blanks_27 : decode cX8_blanks 27 = .ok (.aload_n 0, 1) := by decide +kernel
theorem dX8_blanks_28 : decode cX8_blanks 28 = .ok (.getfield 96, 3) := by decide +kernel
theorem dX8_blanks_31 : decode cX8_blanks 31 = .ok (.putfield 102, 3) := by decide +kernel
theorem dX8_blanks_34 : decode cX8_blanks 34 = .ok (.return_, 1) := by decide +kernel
theorem dX8_takesWord_0 : decode cX8_takesWord 0 = .ok (.aload_n 0, 1) := by decide +kernel
theorem dX8_takesWord_1 : decode cX8_takesWord 1 = .ok (.invokevirtual 105, 3) := by decide +kernel
theorem dX8_takesWord_4 : decode cX8_takesWord 4 = .ok (.aload_n 0, 1) := by decide +kernel
theorem dX8_takesWord_5 : decode cX8_takesWord 5 = .ok (.aload_n 0, 1) := by decide +kernel
theorem dX8_takesWord_6 : decode cX8_takesWord 6 = .ok (.getfield 96, 3) := by decide +kernel
theorem dX8_takesWord_9 : decode cX8_takesWord 9 = .ok (.invokevirtual 99, 3) := by decide +kernel
theorem dX8_takesWord_12 : decode cX8_takesWord 12 = .ok (.i2l, 1) := by decide +kernel
theorem dX8_takesWord_13 : decode cX8_takesWord 13 = .ok (.ldc2_w 108, 3) := by decide +kernel
theorem dX8_takesWord_16 : decode cX8_takesWord 16 = .ok (.ldc2_w 110, 3) := by decide +kernel
theorem dX8_takesWord_19 : decode cX8_takesWord 19 = .ok (.invokestatic 56, 3) := by decide +kernel
theorem dX8_takesWord_22 : decode cX8_takesWord 22 = .ok (.ifCond .eq 16, 3) := by decide +kernel
theorem dX8_takesWord_25 : decode cX8_takesWord 25 = .ok (.aload_n 0, 1) := by decide +kernel
theorem dX8_takesWord_26 : decode cX8_takesWord 26 = .ok (.dup, 1) := by decide +kernel
theorem dX8_takesWord_27 : decode cX8_takesWord 27 = .ok (.getfield 96, 3) := by decide +kernel
theorem dX8_takesWord_30 : decode cX8_takesWord 30 = .ok (.iconst 1, 1) := by decide +kernel
theorem dX8_takesWord_31 : decode cX8_takesWord 31 = .ok (.iadd, 1) := by decide +kernel
theorem dX8_takesWord_32 : decode cX8_takesWord 32 = .ok (.putfield 96, 3) := by decide +kernel
theorem dX8_takesWord_35 : decode cX8_takesWord 35 = .ok (.goto (-31), 3) := by decide +kernel
theorem dX8_takesWord_38 : decode cX8_takesWord 38 = .ok (.return_, 1) := by decide +kernel
theorem dX8_isWord_0 : decode cX8_isWord 0 = .ok (.aload_n 0, 1) := by decide +kernel
theorem dX8_isWord_1 : decode cX8_isWord 1 = .ok (.getfield 96, 3) := by decide +kernel
theorem dX8_isWord_4 : decode cX8_isWord 4 = .ok (.aload_n 0, 1) := by decide +kernel
theorem dX8_isWord_5 : decode cX8_isWord 5 = .ok (.getfield 102, 3) := by decide +kernel
theorem dX8_isWord_8 : decode cX8_isWord 8 = .ok (.isub, 1) := by decide +kernel
theorem dX8_isWord_9 : decode cX8_isWord 9 = .ok (.istore 8, 2) := by decide +kernel
theorem dX8_isWord_11 : decode cX8_isWord 11 = .ok (.aload_n 0, 1) := by decide +kernel
theorem dX8_isWord_12 : decode cX8_isWord 12 = .ok (.iconst 0, 1) := by decide +kernel
theorem dX8_isWord_13 : decode cX8_isWord 13 = .ok (.iload_n 1, 1) := by decide +kernel
theorem dX8_isWord_14 : decode cX8_isWord 14 = .ok (.iload 8, 2) := by decide +kernel
theorem dX8_isWord_16 : decode cX8_isWord 16 = .ok (.invokevirtual 112, 3) := by decide +kernel
theorem dX8_isWord_19 : decode cX8_isWord 19 = .ok (.ifCond .eq 85, 3) := by decide +kernel
theorem dX8_isWord_22 : decode cX8_isWord 22 = .ok (.aload_n 0, 1) := by decide +kernel
theorem dX8_isWord_23 : decode cX8_isWord 23 = .ok (.iconst 1, 1) := by decide +kernel
theorem dX8_isWord_24 : decode cX8_isWord 24 = .ok (.iload_n 2, 1) := by decide +kernel
theorem dX8_isWord_25 : decode cX8_isWord 25 = .ok (.iload 8, 2) := by decide +kernel
theorem dX8_isWord_27 : decode cX8_isWord 27 = .ok (.invokevirtual 112, 3) := by decide +kernel
theorem dX8_isWord_30 : decode cX8_isWord 30 = .ok (.ifCond .eq 74, 3) := by decide +kernel
theorem dX8_isWord_33 : decode cX8_isWord 33 = .ok (.aload_n 0, 1) := by decide +kernel
theorem dX8_isWord_34 : decode cX8_isWord 34 = .ok (.iconst 2, 1) := by decide +kernel
theorem dX8_isWord_35 : decode cX8_isWord 35 = .ok (.iload_n 3, 1) := by decide +kernel
theorem dX8_isWord_36 : decode cX8_isWord 36 = .ok (.iload 8, 2) := by decide +kernel
theorem dX8_isWord_38 : decode cX8_isWord 38 = .ok (.invokevirtual 112, 3) := by decide +kernel
theorem dX8_isWord_41 : decode cX8_isWord 41 = .ok (.ifCond .eq 63, 3) := by decide +kernel
theorem dX8_isWord_44 : decode cX8_isWord 44 = .ok (.aload_n 0, 1) := by decide +kernel
theorem dX8_isWord_45 : decode cX8_isWord 45 = .ok (.iconst 3, 1) := by decide +kernel
theorem dX8_isWord_46 : decode cX8_isWord 46 = .ok (.iload 4, 2) := by decide +kernel
theorem dX8_isWord_48 : decode cX8_isWord 48 = .ok (.iload 8, 2) := by decide +kernel
theorem dX8_isWord_50 : decode cX8_isWord 50 = .ok (.invokevirtual 112, 3) := by decide +kernel
theorem dX8_isWord_53 : decode cX8_isWord 53 = .ok (.ifCond .eq 51, 3) := by decide +kernel
theorem dX8_isWord_56 : decode cX8_isWord 56 = .ok (.aload_n 0, 1) := by decide +kernel
theorem dX8_isWord_57 : decode cX8_isWord 57 = .ok (.iconst 4, 1) := by decide +kernel
theorem dX8_isWord_58 : decode cX8_isWord 58 = .ok (.iload 5, 2) := by decide +kernel
theorem dX8_isWord_60 : decode cX8_isWord 60 = .ok (.iload 8, 2) := by decide +kernel
theorem dX8_isWord_62 : decode cX8_isWord 62 = .ok (.invokevirtual 112, 3) := by decide +kernel
theorem dX8_isWord_65 : decode cX8_isWord 65 = .ok (.ifCond .eq 39, 3) := by decide +kernel
theorem dX8_isWord_68 : decode cX8_isWord 68 = .ok (.aload_n 0, 1) := by decide +kernel
theorem dX8_isWord_69 : decode cX8_isWord 69 = .ok (.iconst 5, 1) := by decide +kernel
theorem dX8_isWord_70 : decode cX8_isWord 70 = .ok (.iload 6, 2) := by decide +kernel
theorem dX8_isWord_72 : decode cX8_isWord 72 = .ok (.iload 8, 2) := by decide +kernel
theorem dX8_isWord_74 : decode cX8_isWord 74 = .ok (.invokevirtual 112, 3) := by decide +kernel
theorem dX8_isWord_77 : decode cX8_isWord 77 = .ok (.ifCond .eq 27, 3) := by decide +kernel
theorem dX8_isWord_80 : decode cX8_isWord 80 = .ok (.aload_n 0, 1) := by decide +kernel
theorem dX8_isWord_81 : decode cX8_isWord 81 = .ok (.bipush 6, 2) := by decide +kernel
theorem dX8_isWord_83 : decode cX8_isWord 83 = .ok (.iload 7, 2) := by decide +kernel
theorem dX8_isWord_85 : decode cX8_isWord 85 = .ok (.iload 8, 2) := by decide +kernel
theorem dX8_isWord_87 : decode cX8_isWord 87 = .ok (.invokevirtual 112, 3) := by decide +kernel
theorem dX8_isWord_90 : decode cX8_isWord 90 = .ok (.ifCond .eq 14, 3) := by decide +kernel
theorem dX8_isWord_93 : decode cX8_isWord 93 = .ok (.iload 8, 2) := by decide +kernel
theorem dX8_isWord_95 : decode cX8_isWord 95 = .ok (.bipush 8, 2) := by decide +kernel
theorem dX8_isWord_97 : decode cX8_isWord 97 = .ok (.if_icmp .ge 7, 3) := by decide +kernel
theorem dX8_isWord_100 : decode cX8_isWord 100 = .ok (.iconst 1, 1) := by decide +kernel
theorem dX8_isWord_101 : decode cX8_isWord 101 = .ok (.goto 4, 3) := by decide +kernel
theorem dX8_isWord_104 : decode cX8_isWord 104 = .ok (.iconst 0, 1) := by decide +kernel
theorem dX8_isWord_105 : decode cX8_isWord 105 = .ok (.ireturn, 1) := by decide +kernel
theorem dX8_isLetter_0 : decode cX8_isLetter 0 = .ok (.iload_n 2, 1) := by decide +kernel
theorem dX8_isLetter_1 : decode cX8_isLetter 1 = .ok (.ifCond .ne 16, 3) := by decide +kernel
theorem dX8_isLetter_4 : decode cX8_isLetter 4 = .ok (.iload_n 3, 1) := by decide +kernel
theorem dX8_isLetter_5 : decode cX8_isLetter 5 = .ok (.iload_n 1, 1) := by decide +kernel
theorem dX8_isLetter_6 : decode cX8_isLetter 6 = .ok (.if_icmp .gt 7, 3) := by decide +kernel
theorem dX8_isLetter_9 : decode cX8_isLetter 9 = .ok (.iconst 1, 1) := by decide +kernel
theorem dX8_isLetter_10 : decode cX8_isLetter 10 = .ok (.goto 32, 3) := by decide +kernel
theorem dX8_isLetter_13 : decode cX8_isLetter 13 = .ok (.iconst 0, 1) := by decide +kernel
theorem dX8_isLetter_14 : decode cX8_isLetter 14 = .ok (.goto 28, 3) := by decide +kernel
theorem dX8_isLetter_17 : decode cX8_isLetter 17 = .ok (.iload_n 3, 1) := by decide +kernel
theorem dX8_isLetter_18 : decode cX8_isLetter 18 = .ok (.iload_n 1, 1) := by decide +kernel
theorem dX8_isLetter_19 : decode cX8_isLetter 19 = .ok (.if_icmp .le 22, 3) := by decide +kernel
theorem dX8_isLetter_22 : decode cX8_isLetter 22 = .ok (.aload_n 0, 1) := by decide +kernel
theorem dX8_isLetter_23 : decode cX8_isLetter 23 = .ok (.getfield 17, 3) := by decide +kernel
theorem dX8_isLetter_26 : decode cX8_isLetter 26 = .ok (.aload_n 0, 1) := by decide +kernel
theorem dX8_isLetter_27 : decode cX8_isLetter 27 = .ok (.getfield 102, 3) := by decide +kernel
theorem dX8_isLetter_30 : decode cX8_isLetter 30 = .ok (.iload_n 1, 1) := by decide +kernel
theorem dX8_isLetter_31 : decode cX8_isLetter 31 = .ok (.iadd, 1) := by decide +kernel
theorem dX8_isLetter_32 : decode cX8_isLetter 32 = .ok (.iaload, 1) := by decide +kernel
theorem dX8_isLetter_33 : decode cX8_isLetter 33 = .ok (.iload_n 2, 1) := by decide +kernel
theorem dX8_isLetter_34 : decode cX8_isLetter 34 = .ok (.if_icmp .ne 7, 3) := by decide +kernel
theorem dX8_isLetter_37 : decode cX8_isLetter 37 = .ok (.iconst 1, 1) := by decide +kernel
theorem dX8_isLetter_38 : decode cX8_isLetter 38 = .ok (.goto 4, 3) := by decide +kernel
theorem dX8_isLetter_41 : decode cX8_isLetter 41 = .ok (.iconst 0, 1) := by decide +kernel
theorem dX8_isLetter_42 : decode cX8_isLetter 42 = .ok (.ireturn, 1) := by decide +kernel
theorem dX8_wordOf_0 : decode cX8_wordOf 0 = .ok (.aload_n 0, 1) := by decide +kernel
theorem dX8_wordOf_1 : decode cX8_wordOf 1 = .ok (.bipush 104, 2) := by decide +kernel
theorem dX8_wordOf_3 : decode cX8_wordOf 3 = .ok (.bipush 111, 2) := by decide +kernel
theorem dX8_wordOf_5 : decode cX8_wordOf 5 = .ok (.bipush 117, 2) := by decide +kernel
theorem dX8_wordOf_7 : decode cX8_wordOf 7 = .ok (.bipush 115, 2) := by decide +kernel
theorem dX8_wordOf_9 : decode cX8_wordOf 9 = .ok (.bipush 101, 2) := by decide +kernel
theorem dX8_wordOf_11 : decode cX8_wordOf 11 = .ok (.iconst 0, 1) := by decide +kernel
theorem dX8_wordOf_12 : decode cX8_wordOf 12 = .ok (.iconst 0, 1) := by decide +kernel
theorem dX8_wordOf_13 : decode cX8_wordOf 13 = .ok (.invokevirtual 116, 3) := by decide +kernel
theorem dX8_wordOf_16 : decode cX8_wordOf 16 = .ok (.ifCond .eq 7, 3) := by decide +kernel
theorem dX8_wordOf_19 : decode cX8_wordOf 19 = .ok (.iconst 2, 1) := by decide +kernel
theorem dX8_wordOf_20 : decode cX8_wordOf 20 = .ok (.goto 107, 3) := by decide +kernel
theorem dX8_wordOf_23 : decode cX8_wordOf 23 = .ok (.aload_n 0, 1) := by decide +kernel
theorem dX8_wordOf_24 : decode cX8_wordOf 24 = .ok (.bipush 115, 2) := by decide +kernel
theorem dX8_wordOf_26 : decode cX8_wordOf 26 = .ok (.bipush 116, 2) := by decide +kernel
theorem dX8_wordOf_28 : decode cX8_wordOf 28 = .ok (.bipush 114, 2) := by decide +kernel
theorem dX8_wordOf_30 : decode cX8_wordOf 30 = .ok (.bipush 105, 2) := by decide +kernel
theorem dX8_wordOf_32 : decode cX8_wordOf 32 = .ok (.bipush 110, 2) := by decide +kernel
theorem dX8_wordOf_34 : decode cX8_wordOf 34 = .ok (.bipush 103, 2) := by decide +kernel
theorem dX8_wordOf_36 : decode cX8_wordOf 36 = .ok (.iconst 0, 1) := by decide +kernel
theorem dX8_wordOf_37 : decode cX8_wordOf 37 = .ok (.invokevirtual 116, 3) := by decide +kernel
theorem dX8_wordOf_40 : decode cX8_wordOf 40 = .ok (.ifCond .eq 7, 3) := by decide +kernel
theorem dX8_wordOf_43 : decode cX8_wordOf 43 = .ok (.iconst 3, 1) := by decide +kernel
theorem dX8_wordOf_44 : decode cX8_wordOf 44 = .ok (.goto 83, 3) := by decide +kernel
theorem dX8_wordOf_47 : decode cX8_wordOf 47 = .ok (.aload_n 0, 1) := by decide +kernel
theorem dX8_wordOf_48 : decode cX8_wordOf 48 = .ok (.bipush 112, 2) := by decide +kernel
theorem dX8_wordOf_50 : decode cX8_wordOf 50 = .ok (.bipush 117, 2) := by decide +kernel
theorem dX8_wordOf_52 : decode cX8_wordOf 52 = .ok (.bipush 114, 2) := by decide +kernel
theorem dX8_wordOf_54 : decode cX8_wordOf 54 = .ok (.bipush 115, 2) := by decide +kernel
theorem dX8_wordOf_56 : decode cX8_wordOf 56 = .ok (.bipush 101, 2) := by decide +kernel
theorem dX8_wordOf_58 : decode cX8_wordOf 58 = .ok (.iconst 0, 1) := by decide +kernel
theorem dX8_wordOf_59 : decode cX8_wordOf 59 = .ok (.iconst 0, 1) := by decide +kernel
theorem dX8_wordOf_60 : decode cX8_wordOf 60 = .ok (.invokevirtual 116, 3) := by decide +kernel
theorem dX8_wordOf_63 : decode cX8_wordOf 63 = .ok (.ifCond .eq 7, 3) := by decide +kernel
theorem dX8_wordOf_66 : decode cX8_wordOf 66 = .ok (.iconst 4, 1) := by decide +kernel
theorem dX8_wordOf_67 : decode cX8_wordOf 67 = .ok (.goto 60, 3) := by decide +kernel
theorem dX8_wordOf_70 : decode cX8_wordOf 70 = .ok (.aload_n 0, 1) := by decide +kernel
theorem dX8_wordOf_71 : decode cX8_wordOf 71 = .ok (.bipush 115, 2) := by decide +kernel
theorem dX8_wordOf_73 : decode cX8_wordOf 73 = .ok (.bipush 101, 2) := by decide +kernel
theorem dX8_wordOf_75 : decode cX8_wordOf 75 = .ok (.bipush 110, 2) := by decide +kernel
theorem dX8_wordOf_77 : decode cX8_wordOf 77 = .ok (.bipush 100, 2) := by decide +kernel
theorem dX8_wordOf_79 : decode cX8_wordOf 79 = .ok (.iconst 0, 1) := by decide +kernel
theorem dX8_wordOf_80 : decode cX8_wordOf 80 = .ok (.iconst 0, 1) := by decide +kernel
theorem dX8_wordOf_81 : decode cX8_wordOf 81 = .ok (.iconst 0, 1) := by decide +kernel
theorem dX8_wordOf_82 : decode cX8_wordOf 82 = .ok (.invokevirtual 116, 3) := by decide +kernel
theorem dX8_wordOf_85 : decode cX8_wordOf 85 = .ok (.ifCond .eq 7, 3) := by decide +kernel
theorem dX8_wordOf_88 : decode cX8_wordOf 88 = .ok (.iconst 5, 1) := by decide +kernel
theorem dX8_wordOf_89 : decode cX8_wordOf 89 = .ok (.goto 38, 3) := by decide +kernel
theorem dX8_wordOf_92 : decode cX8_wordOf 92 = .ok (.aload_n 0, 1) := by decide +kernel
theorem dX8_wordOf_93 : decode cX8_wordOf 93 = .ok (.bipush 119, 2) := by decide +kernel
theorem dX8_wordOf_95 : decode cX8_wordOf 95 = .ok (.bipush 97, 2) := by decide +kernel
theorem dX8_wordOf_97 : decode cX8_wordOf 97 = .ok (.bipush 105, 2) := by decide +kernel
theorem dX8_wordOf_99 : decode cX8_wordOf 99 = .ok (.bipush 116, 2) := by decide +kernel
theorem dX8_wordOf_101 : decode cX8_wordOf 101 = .ok (.iconst 0, 1) := by decide +kernel
theorem dX8_wordOf_102 : decode cX8_wordOf 102 = .ok (.iconst 0, 1) := by decide +kernel
theorem dX8_wordOf_103 : decode cX8_wordOf 103 = .ok (.iconst 0, 1) := by decide +kernel
theorem dX8_wordOf_104 : decode cX8_wordOf 104 = .ok (.invokevirtual 116, 3) := by decide +kernel
theorem dX8_wordOf_107 : decode cX8_wordOf 107 = .ok (.ifCond .eq 8, 3) := by decide +kernel
theorem dX8_wordOf_110 : decode cX8_wordOf 110 = .ok (.bipush 6, 2) := by decide +kernel
theorem dX8_wordOf_112 : decode cX8_wordOf 112 = .ok (.goto 15, 3) := by decide +kernel
theorem dX8_wordOf_115 : decode cX8_wordOf 115 = .ok (.aload_n 0, 1) := by decide +kernel
theorem dX8_wordOf_116 : decode cX8_wordOf 116 = .ok (.invokevirtual 120, 3) := by decide +kernel
theorem dX8_wordOf_119 : decode cX8_wordOf 119 = .ok (.ifCond .eq 7, 3) := by decide +kernel
theorem dX8_wordOf_122 : decode cX8_wordOf 122 = .ok (.iconst 1, 1) := by decide +kernel
theorem dX8_wordOf_123 : decode cX8_wordOf 123 = .ok (.goto 4, 3) := by decide +kernel
theorem dX8_wordOf_126 : decode cX8_wordOf 126 = .ok (.iconst 0, 1) := by decide +kernel
theorem dX8_wordOf_127 : decode cX8_wordOf 127 = .ok (.ireturn, 1) := by decide +kernel
theorem dX8_isProvince_0 : decode cX8_isProvince 0 = .ok (.aload_n 0, 1) := by decide +kernel
theorem dX8_isProvince_1 : decode cX8_isProvince 1 = .ok (.getfield 96, 3) := by decide +kernel
theorem dX8_isProvince_4 : decode cX8_isProvince 4 = .ok (.aload_n 0, 1) := by decide +kernel
theorem dX8_isProvince_5 : decode cX8_isProvince 5 = .ok (.getfield 102, 3) := by decide +kernel
theorem dX8_isProvince_8 : decode cX8_isProvince 8 = .ok (.isub, 1) := by decide +kernel
theorem dX8_isProvince_9 : decode cX8_isProvince 9 = .ok (.bipush 8, 2) := by decide +kernel
theorem dX8_isProvince_11 : decode cX8_isProvince 11 = .ok (.if_icmp .ne 135, 3) := by decide +kernel
theorem dX8_isProvince_14 : decode cX8_isProvince 14 = .ok (.aload_n 0, 1) := by decide +kernel
theorem dX8_isProvince_15 : decode cX8_isProvince 15 = .ok (.getfield 17, 3) := by decide +kernel
theorem dX8_isProvince_18 : decode cX8_isProvince 18 = .ok (.aload_n 0, 1) := by decide +kernel
theorem dX8_isProvince_19 : decode cX8_isProvince 19 = .ok (.getfield 102, 3) := by decide +kernel
theorem dX8_isProvince_22 : decode cX8_isProvince 22 = .ok (.iaload, 1) := by decide +kernel
theorem dX8_isProvince_23 : decode cX8_isProvince 23 = .ok (.bipush 112, 2) := by decide +kernel
theorem dX8_isProvince_25 : decode cX8_isProvince 25 = .ok (.if_icmp .ne 121, 3) := by decide +kernel
theorem dX8_isProvince_28 : decode cX8_isProvince 28 = .ok (.aload_n 0, 1) := by decide +kernel
theorem dX8_isProvince_29 : decode cX8_isProvince 29 = .ok (.getfield 17, 3) := by decide +kernel
theorem dX8_isProvince_32 : decode cX8_isProvince 32 = .ok (.aload_n 0, 1) := by decide +kernel
theorem dX8_isProvince_33 : decode cX8_isProvince 33 = .ok (.getfield 102, 3) := by decide +kernel
theorem dX8_isProvince_36 : decode cX8_isProvince 36 = .ok (.iconst 1, 1) := by decide +kernel
theorem dX8_isProvince_37 : decode cX8_isProvince 37 = .ok (.iadd, 1) := by decide +kernel
theorem dX8_isProvince_38 : decode cX8_isProvince 38 = .ok (.iaload, 1) := by decide +kernel
theorem dX8_isProvince_39 : decode cX8_isProvince 39 = .ok (.bipush 114, 2) := by decide +kernel
theorem dX8_isProvince_41 : decode cX8_isProvince 41 = .ok (.if_icmp .ne 105, 3) := by decide +kernel
theorem dX8_isProvince_44 : decode cX8_isProvince 44 = .ok (.aload_n 0, 1) := by decide +kernel
theorem dX8_isProvince_45 : decode cX8_isProvince 45 = .ok (.getfield 17, 3) := by decide +kernel
theorem dX8_isProvince_48 : decode cX8_isProvince 48 = .ok (.aload_n 0, 1) := by decide +kernel
theorem dX8_isProvince_49 : decode cX8_isProvince 49 = .ok (.getfield 102, 3) := by decide +kernel
theorem dX8_isProvince_52 : decode cX8_isProvince 52 = .ok (.iconst 2, 1) := by decide +kernel
theorem dX8_isProvince_53 : decode cX8_isProvince 53 = .ok (.iadd, 1) := by decide +kernel
theorem dX8_isProvince_54 : decode cX8_isProvince 54 = .ok (.iaload, 1) := by decide +kernel
theorem dX8_isProvince_55 : decode cX8_isProvince 55 = .ok (.bipush 111, 2) := by decide +kernel
theorem dX8_isProvince_57 : decode cX8_isProvince 57 = .ok (.if_icmp .ne 89, 3) := by decide +kernel
theorem dX8_isProvince_60 : decode cX8_isProvince 60 = .ok (.aload_n 0, 1) := by decide +kernel
theorem dX8_isProvince_61 : decode cX8_isProvince 61 = .ok (.getfield 17, 3) := by decide +kernel
theorem dX8_isProvince_64 : decode cX8_isProvince 64 = .ok (.aload_n 0, 1) := by decide +kernel
theorem dX8_isProvince_65 : decode cX8_isProvince 65 = .ok (.getfield 102, 3) := by decide +kernel
theorem dX8_isProvince_68 : decode cX8_isProvince 68 = .ok (.iconst 3, 1) := by decide +kernel
theorem dX8_isProvince_69 : decode cX8_isProvince 69 = .ok (.iadd, 1) := by decide +kernel
theorem dX8_isProvince_70 : decode cX8_isProvince 70 = .ok (.iaload, 1) := by decide +kernel
theorem dX8_isProvince_71 : decode cX8_isProvince 71 = .ok (.bipush 118, 2) := by decide +kernel
theorem dX8_isProvince_73 : decode cX8_isProvince 73 = .ok (.if_icmp .ne 73, 3) := by decide +kernel
theorem dX8_isProvince_76 : decode cX8_isProvince 76 = .ok (.aload_n 0, 1) := by decide +kernel
theorem dX8_isProvince_77 : decode cX8_isProvince 77 = .ok (.getfield 17, 3) := by decide +kernel
theorem dX8_isProvince_80 : decode cX8_isProvince 80 = .ok (.aload_n 0, 1) := by decide +kernel
theorem dX8_isProvince_81 : decode cX8_isProvince 81 = .ok (.getfield 102, 3) := by decide +kernel
theorem dX8_isProvince_84 : decode cX8_isProvince 84 = .ok (.iconst 4, 1) := by decide +kernel
theorem dX8_isProvince_85 : decode cX8_isProvince 85 = .ok (.iadd, 1) := by decide +kernel
theorem dX8_isProvince_86 : decode cX8_isProvince 86 = .ok (.iaload, 1) := by decide +kernel
theorem dX8_isProvince_87 : decode cX8_isProvince 87 = .ok (.bipush 105, 2) := by decide +kernel
theorem dX8_isProvince_89 : decode cX8_isProvince 89 = .ok (.if_icmp .ne 57, 3) := by decide +kernel
theorem dX8_isProvince_92 : decode cX8_isProvince 92 = .ok (.aload_n 0, 1) := by decide +kernel
theorem dX8_isProvince_93 : decode cX8_isProvince 93 = .ok (.getfield 17, 3) := by decide +kernel
theorem dX8_isProvince_96 : decode cX8_isProvince 96 = .ok (.aload_n 0, 1) := by decide +kernel
theorem dX8_isProvince_97 : decode cX8_isProvince 97 = .ok (.getfield 102, 3) := by decide +kernel
theorem dX8_isProvince_100 : decode cX8_isProvince 100 = .ok (.iconst 5, 1) := by decide +kernel
theorem dX8_isProvince_101 : decode cX8_isProvince 101 = .ok (.iadd, 1) := by decide +kernel
theorem dX8_isProvince_102 : decode cX8_isProvince 102 = .ok (.iaload, 1) := by decide +kernel
theorem dX8_isProvince_103 : decode cX8_isProvince 103 = .ok (.bipush 110, 2) := by decide +kernel
theorem dX8_isProvince_105 : decode cX8_isProvince 105 = .ok (.if_icmp .ne 41, 3) := by decide +kernel
theorem dX8_isProvince_108 : decode cX8_isProvince 108 = .ok (.aload_n 0, 1) := by decide +kernel
theorem dX8_isProvince_109 : decode cX8_isProvince 109 = .ok (.getfield 17, 3) := by decide +kernel
theorem dX8_isProvince_112 : decode cX8_isProvince 112 = .ok (.aload_n 0, 1) := by decide +kernel
theorem dX8_isProvince_113 : decode cX8_isProvince 113 = .ok (.getfield 102, 3) := by decide +kernel
theorem dX8_isProvince_116 : decode cX8_isProvince 116 = .ok (.bipush 6, 2) := by decide +kernel
theorem dX8_isProvince_118 : decode cX8_isProvince 118 = .ok (.iadd, 1) := by decide +kernel
theorem dX8_isProvince_119 : decode cX8_isProvince 119 = .ok (.iaload, 1) := by decide +kernel
theorem dX8_isProvince_120 : decode cX8_isProvince 120 = .ok (.bipush 99, 2) := by decide +kernel
theorem dX8_isProvince_122 : decode cX8_isProvince 122 = .ok (.if_icmp .ne 24, 3) := by decide +kernel
theorem dX8_isProvince_125 : decode cX8_isProvince 125 = .ok (.aload_n 0, 1) := by decide +kernel
theorem dX8_isProvince_126 : decode cX8_isProvince 126 = .ok (.getfield 17, 3) := by decide +kernel
theorem dX8_isProvince_129 : decode cX8_isProvince 129 = .ok (.aload_n 0, 1) := by decide +kernel
theorem dX8_isProvince_130 : decode cX8_isProvince 130 = .ok (.getfield 102, 3) := by decide +kernel
theorem dX8_isProvince_133 : decode cX8_isProvince 133 = .ok (.bipush 7, 2) := by decide +kernel
theorem dX8_isProvince_135 : decode cX8_isProvince 135 = .ok (.iadd, 1) := by decide +kernel
theorem dX8_isProvince_136 : decode cX8_isProvince 136 = .ok (.iaload, 1) := by decide +kernel
theorem dX8_isProvince_137 : decode cX8_isProvince 137 = .ok (.bipush 101, 2) := by decide +kernel
theorem dX8_isProvince_139 : decode cX8_isProvince 139 = .ok (.if_icmp .ne 7, 3) := by decide +kernel
theorem dX8_isProvince_142 : decode cX8_isProvince 142 = .ok (.iconst 1, 1) := by decide +kernel
theorem dX8_isProvince_143 : decode cX8_isProvince 143 = .ok (.goto 4, 3) := by decide +kernel
theorem dX8_isProvince_146 : decode cX8_isProvince 146 = .ok (.iconst 0, 1) := by decide +kernel
theorem dX8_isProvince_147 : decode cX8_isProvince 147 = .ok (.ireturn, 1) := by decide +kernel
theorem dX8_takesNumber_0 : decode cX8_takesNumber 0 = .ok (.aload_n 0, 1) := by decide +kernel
theorem dX8_takesNumber_1 : decode cX8_takesNumber 1 = .ok (.invokevirtual 105, 3) := by decide +kernel
theorem dX8_takesNumber_4 : decode cX8_takesNumber 4 = .ok (.aload_n 0, 1) := by decide +kernel
theorem dX8_takesNumber_5 : decode cX8_takesNumber 5 = .ok (.iconst 0, 1) := by decide +kernel
theorem dX8_takesNumber_6 : decode cX8_takesNumber 6 = .ok (.putfield 124, 3) := by decide +kernel
theorem dX8_takesNumber_9 : decode cX8_takesNumber 9 = .ok (.aload_n 0, 1) := by decide +kernel
theorem dX8_takesNumber_10 : decode cX8_takesNumber 10 = .ok (.aload_n 0, 1) := by decide +kernel
theorem dX8_takesNumber_11 : decode cX8_takesNumber 11 = .ok (.getfield 96, 3) := by decide +kernel
theorem dX8_takesNumber_14 : decode cX8_takesNumber 14 = .ok (.invokevirtual 99, 3) := by decide +kernel
theorem dX8_takesNumber_17 : decode cX8_takesNumber 17 = .ok (.i2l, 1) := by decide +kernel
theorem dX8_takesNumber_18 : decode cX8_takesNumber 18 = .ok (.ldc2_w 127, 3) := by decide +kernel
theorem dX8_takesNumber_21 : decode cX8_takesNumber 21 = .ok (.ldc2_w 129, 3) := by decide +kernel
theorem dX8_takesNumber_24 : decode cX8_takesNumber 24 = .ok (.invokestatic 56, 3) := by decide +kernel
theorem dX8_takesNumber_27 : decode cX8_takesNumber 27 = .ok (.ifCond .eq 59, 3) := by decide +kernel
theorem dX8_takesNumber_30 : decode cX8_takesNumber 30 = .ok (.aload_n 0, 1) := by decide +kernel
theorem dX8_takesNumber_31 : decode cX8_takesNumber 31 = .ok (.aload_n 0, 1) := by decide +kernel
theorem dX8_takesNumber_32 : decode cX8_takesNumber 32 = .ok (.getfield 96, 3) := by decide +kernel
theorem dX8_takesNumber_35 : decode cX8_takesNumber 35 = .ok (.aload_n 0, 1) := by decide +kernel
theorem dX8_takesNumber_36 : decode cX8_takesNumber 36 = .ok (.getfield 102, 3) := by decide +kernel
theorem dX8_takesNumber_39 : decode cX8_takesNumber 39 = .ok (.isub, 1) := by decide +kernel
theorem dX8_takesNumber_40 : decode cX8_takesNumber 40 = .ok (.iconst 2, 1) := by decide +kernel
theorem dX8_takesNumber_41 : decode cX8_takesNumber 41 = .ok (.if_icmp .ge 25, 3) := by decide +kernel
theorem dX8_takesNumber_44 : decode cX8_takesNumber 44 = .ok (.bipush 10, 2) := by decide +kernel
theorem dX8_takesNumber_46 : decode cX8_takesNumber 46 = .ok (.aload_n 0, 1) := by decide +kernel
theorem dX8_takesNumber_47 : decode cX8_takesNumber 47 = .ok (.getfield 124, 3) := by decide +kernel
theorem dX8_takesNumber_50 : decode cX8_takesNumber 50 = .ok (.imul, 1) := by decide +kernel
theorem dX8_takesNumber_51 : decode cX8_takesNumber 51 = .ok (.aload_n 0, 1) := by decide +kernel
theorem dX8_takesNumber_52 : decode cX8_takesNumber 52 = .ok (.aload_n 0, 1) := by decide +kernel
theorem dX8_takesNumber_53 : decode cX8_takesNumber 53 = .ok (.getfield 96, 3) := by decide +kernel
theorem dX8_takesNumber_56 : decode cX8_takesNumber 56 = .ok (.invokevirtual 99, 3) := by decide +kernel
theorem dX8_takesNumber_59 : decode cX8_takesNumber 59 = .ok (.iadd, 1) := by decide +kernel
theorem dX8_takesNumber_60 : decode cX8_takesNumber 60 = .ok (.bipush 48, 2) := by decide +kernel
theorem dX8_takesNumber_62 : decode cX8_takesNumber 62 = .ok (.isub, 1) := by decide +kernel
theorem dX8_takesNumber_63 : decode cX8_takesNumber 63 = .ok (.goto 7, 3) := by decide +kernel
theorem dX8_takesNumber_66 : decode cX8_takesNumber 66 = .ok (.aload_n 0, 1) := by decide +kernel
theorem dX8_takesNumber_67 : decode cX8_takesNumber 67 = .ok (.getfield 124, 3) := by decide +kernel
theorem dX8_takesNumber_70 : decode cX8_takesNumber 70 = .ok (.putfield 124, 3) := by decide +kernel
theorem dX8_takesNumber_73 : decode cX8_takesNumber 73 = .ok (.aload_n 0, 1) := by decide +kernel
theorem dX8_takesNumber_74 : decode cX8_takesNumber 74 = .ok (.dup, 1) := by decide +kernel
theorem dX8_takesNumber_75 : decode cX8_takesNumber 75 = .ok (.getfield 96, 3) := by decide +kernel
theorem dX8_takesNumber_78 : decode cX8_takesNumber 78 = .ok (.iconst 1, 1) := by decide +kernel
theorem dX8_takesNumber_79 : decode cX8_takesNumber 79 = .ok (.iadd, 1) := by decide +kernel
theorem dX8_takesNumber_80 : decode cX8_takesNumber 80 = .ok (.putfield 96, 3) := by decide +kernel
theorem dX8_takesNumber_83 : decode cX8_takesNumber 83 = .ok (.goto (-74), 3) := by decide +kernel
theorem dX8_takesNumber_86 : decode cX8_takesNumber 86 = .ok (.aload_n 0, 1) := by decide +kernel
theorem dX8_takesNumber_87 : decode cX8_takesNumber 87 = .ok (.getfield 96, 3) := by decide +kernel
theorem dX8_takesNumber_90 : decode cX8_takesNumber 90 = .ok (.aload_n 0, 1) := by decide +kernel
theorem dX8_takesNumber_91 : decode cX8_takesNumber 91 = .ok (.getfield 102, 3) := by decide +kernel
theorem dX8_takesNumber_94 : decode cX8_takesNumber 94 = .ok (.isub, 1) := by decide +kernel
theorem dX8_takesNumber_95 : decode cX8_takesNumber 95 = .ok (.i2l, 1) := by decide +kernel
theorem dX8_takesNumber_96 : decode cX8_takesNumber 96 = .ok (.lconst 1, 1) := by decide +kernel
theorem dX8_takesNumber_97 : decode cX8_takesNumber 97 = .ok (.ldc2_w 131, 3) := by decide +kernel
theorem dX8_takesNumber_100 : decode cX8_takesNumber 100 = .ok (.invokestatic 56, 3) := by decide +kernel
theorem dX8_takesNumber_103 : decode cX8_takesNumber 103 = .ok (.ifCond .eq 22, 3) := by decide +kernel
theorem dX8_takesNumber_106 : decode cX8_takesNumber 106 = .ok (.aload_n 0, 1) := by decide +kernel
theorem dX8_takesNumber_107 : decode cX8_takesNumber 107 = .ok (.getfield 124, 3) := by decide +kernel
theorem dX8_takesNumber_110 : decode cX8_takesNumber 110 = .ok (.i2l, 1) := by decide +kernel
theorem dX8_takesNumber_111 : decode cX8_takesNumber 111 = .ok (.iload_n 1, 1) := by decide +kernel
theorem dX8_takesNumber_112 : decode cX8_takesNumber 112 = .ok (.i2l, 1) := by decide +kernel
theorem dX8_takesNumber_113 : decode cX8_takesNumber 113 = .ok (.iload_n 2, 1) := by decide +kernel
theorem dX8_takesNumber_114 : decode cX8_takesNumber 114 = .ok (.i2l, 1) := by decide +kernel
theorem dX8_takesNumber_115 : decode cX8_takesNumber 115 = .ok (.invokestatic 56, 3) := by decide +kernel
theorem dX8_takesNumber_118 : decode cX8_takesNumber 118 = .ok (.ifCond .eq 7, 3) := by decide +kernel
theorem dX8_takesNumber_121 : decode cX8_takesNumber 121 = .ok (.iconst 1, 1) := by decide +kernel
theorem dX8_takesNumber_122 : decode cX8_takesNumber 122 = .ok (.goto 4, 3) := by decide +kernel
theorem dX8_takesNumber_125 : decode cX8_takesNumber 125 = .ok (.iconst 0, 1) := by decide +kernel
theorem dX8_takesNumber_126 : decode cX8_takesNumber 126 = .ok (.ireturn, 1) := by decide +kernel
theorem dX8_takesEnd_0 : decode cX8_takesEnd 0 = .ok (.aload_n 0, 1) := by decide +kernel
theorem dX8_takesEnd_1 : decode cX8_takesEnd 1 = .ok (.invokevirtual 105, 3) := by decide +kernel
theorem dX8_takesEnd_4 : decode cX8_takesEnd 4 = .ok (.aload_n 0, 1) := by decide +kernel
theorem dX8_takesEnd_5 : decode cX8_takesEnd 5 = .ok (.dup, 1) := by decide +kernel
theorem dX8_takesEnd_6 : decode cX8_takesEnd 6 = .ok (.getfield 96, 3) := by decide +kernel
theorem dX8_takesEnd_9 : decode cX8_takesEnd 9 = .ok (.iconst 1, 1) := by decide +kernel
theorem dX8_takesEnd_10 : decode cX8_takesEnd 10 = .ok (.iadd, 1) := by decide +kernel
theorem dX8_takesEnd_11 : decode cX8_takesEnd 11 = .ok (.putfield 96, 3) := by decide +kernel
theorem dX8_takesEnd_14 : decode cX8_takesEnd 14 = .ok (.aload_n 0, 1) := by decide +kernel
theorem dX8_takesEnd_15 : decode cX8_takesEnd 15 = .ok (.aload_n 0, 1) := by decide +kernel
theorem dX8_takesEnd_16 : decode cX8_takesEnd 16 = .ok (.getfield 102, 3) := by decide +kernel
theorem dX8_takesEnd_19 : decode cX8_takesEnd 19 = .ok (.invokevirtual 99, 3) := by decide +kernel
theorem dX8_takesEnd_22 : decode cX8_takesEnd 22 = .ok (.bipush 59, 2) := by decide +kernel
theorem dX8_takesEnd_24 : decode cX8_takesEnd 24 = .ok (.if_icmp .ne 7, 3) := by decide +kernel
theorem dX8_takesEnd_27 : decode cX8_takesEnd 27 = .ok (.iconst 1, 1) := by decide +kernel
theorem dX8_takesEnd_28 : decode cX8_takesEnd 28 = .ok (.goto 4, 3) := by decide +kernel
theorem dX8_takesEnd_31 : decode cX8_takesEnd 31 = .ok (.iconst 0, 1) := by decide +kernel
theorem dX8_takesEnd_32 : decode cX8_takesEnd 32 = .ok (.ireturn, 1) := by decide +kernel
theorem dX8_readsHouse_0 : decode cX8_readsHouse 0 = .ok (.aload_n 0, 1) := by decide +kernel
theorem dX8_readsHouse_1 : decode cX8_readsHouse 1 = .ok (.iconst 0, 1) := by decide +kernel
theorem dX8_readsHouse_2 : decode cX8_readsHouse 2 = .ok (.iconst 1, 1) := by decide +kernel
theorem dX8_readsHouse_3 : decode cX8_readsHouse 3 = .ok (.invokevirtual 133, 3) := by decide +kernel
theorem dX8_readsHouse_6 : decode cX8_readsHouse 6 = .ok (.ifCond .ne 5, 3) := by decide +kernel
theorem dX8_readsHouse_9 : decode cX8_readsHouse 9 = .ok (.iconst 0, 1) := by decide +kernel
theorem dX8_readsHouse_10 : decode cX8_readsHouse 10 = .ok (.ireturn, 1) := by decide +kernel
theorem dX8_readsHouse_11 : decode cX8_readsHouse 11 = .ok (.aload_n 0, 1) := by decide +kernel
theorem dX8_readsHouse_12 : decode cX8_readsHouse 12 = .ok (.getfield 124, 3) := by decide +kernel
theorem dX8_readsHouse_15 : decode cX8_readsHouse 15 = .ok (.istore_n 1, 1) := by decide +kernel
theorem dX8_readsHouse_16 : decode cX8_readsHouse 16 = .ok (.aload_n 0, 1) := by decide +kernel
theorem dX8_readsHouse_17 : decode cX8_readsHouse 17 = .ok (.iconst 0, 1) := by decide +kernel
theorem dX8_readsHouse_18 : decode cX8_readsHouse 18 = .ok (.iconst 5, 1) := by decide +kernel
theorem dX8_readsHouse_19 : decode cX8_readsHouse 19 = .ok (.invokevirtual 133, 3) := by decide +kernel
theorem dX8_readsHouse_22 : decode cX8_readsHouse 22 = .ok (.ifCond .ne 5, 3) := by decide +kernel
theorem dX8_readsHouse_25 : decode cX8_readsHouse 25 = .ok (.iconst 0, 1) := by decide +kernel
theorem dX8_readsHouse_26 : decode cX8_readsHouse 26 = .ok (.ireturn, 1) := by decide +kernel
theorem dX8_readsHouse_27 : decode cX8_readsHouse 27 = .ok (.aload_n 0, 1) := by decide +kernel
theorem dX8_readsHouse_28 : decode cX8_readsHouse 28 = .ok (.getfield 7, 3) := by decide +kernel
theorem dX8_readsHouse_31 : decode cX8_readsHouse 31 = .ok (.sipush 354, 3) := by decide +kernel
theorem dX8_readsHouse_34 : decode cX8_readsHouse 34 = .ok (.iload_n 1, 1) := by decide +kernel
theorem dX8_readsHouse_35 : decode cX8_readsHouse 35 = .ok (.iadd, 1) := by decide +kernel
theorem dX8_readsHouse_36 : decode cX8_readsHouse 36 = .ok (.aload_n 0, 1) := by decide +kernel
theorem dX8_readsHouse_37 : decode cX8_readsHouse 37 = .ok (.getfield 124, 3) := by decide +kernel
theorem dX8_readsHouse_40 : decode cX8_readsHouse 40 = .ok (.iastore, 1) := by decide +kernel
theorem dX8_readsHouse_41 : decode cX8_readsHouse 41 = .ok (.iconst 1, 1) := by decide +kernel
theorem dX8_readsHouse_42 : decode cX8_readsHouse 42 = .ok (.ireturn, 1) := by decide +kernel
theorem dX8_readsString_0 : decode cX8_readsString 0 = .ok (.aload_n 0, 1) := by decide +kernel
theorem dX8_readsString_1 : decode cX8_readsString 1 = .ok (.getfield 7, 3) := by decide +kernel
theorem dX8_readsString_4 : decode cX8_readsString 4 = .ok (.sipush 342, 3) := by decide +kernel
theorem dX8_readsString_7 : decode cX8_readsString 7 = .ok (.iaload, 1) := by decide +kernel
theorem dX8_readsString_8 : decode cX8_readsString 8 = .ok (.iconst 5, 1) := by decide +kernel
theorem dX8_readsString_9 : decode cX8_readsString 9 = .ok (.if_icmp .eq 12, 3) := by decide +kernel
theorem dX8_readsString_12 : decode cX8_readsString 12 = .ok (.aload_n 0, 1) := by decide +kernel
theorem dX8_readsString_13 : decode cX8_readsString 13 = .ok (.iconst 0, 1) := by decide +kernel
theorem dX8_readsString_14 : decode cX8_readsString 14 = .ok (.iconst 5, 1) := by decide +kernel
theorem dX8_readsString_15 : decode cX8_readsString 15 = .ok (.invokevirtual 133, 3) := by decide +kernel
theorem dX8_readsString_18 : decode cX8_readsString 18 = .ok (.ifCond .ne 5, 3) := by decide +kernel
theorem dX8_readsString_21 : decode cX8_readsString 21 = .ok (.iconst 0, 1) := by decide +kernel
theorem dX8_readsString_22 : decode cX8_readsString 22 = .ok (.ireturn, 1) := by decide +kernel
theorem dX8_readsString_23 : decode cX8_readsString 23 = .ok (.aload_n 0, 1) := by decide +kernel
theorem dX8_readsString_24 : decode cX8_readsString 24 = .ok (.getfield 124, 3) := by decide +kernel
theorem dX8_readsString_27 : decode cX8_readsString 27 = .ok (.istore_n 1, 1) := by decide +kernel
theorem dX8_readsString_28 : decode cX8_readsString 28 = .ok (.aload_n 0, 1) := by decide +kernel
theorem dX8_readsString_29 : decode cX8_readsString 29 = .ok (.iconst 1, 1) := by decide +kernel
theorem dX8_readsString_30 : decode cX8_readsString 30 = .ok (.bipush 60, 2) := by decide +kernel
theorem dX8_readsString_32 : decode cX8_readsString 32 = .ok (.invokevirtual 133, 3) := by decide +kernel
theorem dX8_readsString_35 : decode cX8_readsString 35 = .ok (.ifCond .ne 5, 3) := by decide +kernel
theorem dX8_readsString_38 : decode cX8_readsString 38 = .ok (.iconst 0, 1) := by decide +kernel
theorem dX8_readsString_39 : decode cX8_readsString 39 = .ok (.ireturn, 1) := by decide +kernel
theorem dX8_readsString_40 : decode cX8_readsString 40 = .ok (.aload_n 0, 1) := by decide +kernel
theorem dX8_readsString_41 : decode cX8_readsString 41 = .ok (.sipush 342, 3) := by decide +kernel
theorem dX8_readsString_44 : decode cX8_readsString 44 = .ok (.iload_n 1, 1) := by decide +kernel
theorem dX8_readsString_45 : decode cX8_readsString 45 = .ok (.aload_n 0, 1) := by decide +kernel
theorem dX8_readsString_46 : decode cX8_readsString 46 = .ok (.getfield 124, 3) := by decide +kernel
theorem dX8_readsString_49 : decode cX8_readsString 49 = .ok (.invokevirtual 91, 3) := by decide +kernel
theorem dX8_readsString_52 : decode cX8_readsString 52 = .ok (.iconst 1, 1) := by decide +kernel
theorem dX8_readsString_53 : decode cX8_readsString 53 = .ok (.ireturn, 1) := by decide +kernel
theorem dX8_readsPurse_0 : decode cX8_readsPurse 0 = .ok (.aload_n 0, 1) := by decide +kernel
theorem dX8_readsPurse_1 : decode cX8_readsPurse 1 = .ok (.iconst 0, 1) := by decide +kernel
theorem dX8_readsPurse_2 : decode cX8_readsPurse 2 = .ok (.bipush 99, 2) := by decide +kernel
theorem dX8_readsPurse_4 : decode cX8_readsPurse 4 = .ok (.invokevirtual 133, 3) := by decide +kernel
theorem dX8_readsPurse_7 : decode cX8_readsPurse 7 = .ok (.ifCond .ne 5, 3) := by decide +kernel
theorem dX8_readsPurse_10 : decode cX8_readsPurse 10 = .ok (.iconst 0, 1) := by decide +kernel
theorem dX8_readsPurse_11 : decode cX8_readsPurse 11 = .ok (.ireturn, 1) := by decide +kernel
theorem dX8_readsPurse_12 : decode cX8_readsPurse 12 = .ok (.aload_n 0, 1) := by decide +kernel
theorem dX8_readsPurse_13 : decode cX8_readsPurse 13 = .ok (.getfield 7, 3) := by decide +kernel
theorem dX8_readsPurse_16 : decode cX8_readsPurse 16 = .ok (.sipush 356, 3) := by decide +kernel
theorem dX8_readsPurse_19 : decode cX8_readsPurse 19 = .ok (.bipush 100, 2) := by decide +kernel
theorem dX8_readsPurse_21 : decode cX8_readsPurse 21 = .ok (.aload_n 0, 1) := by decide +kernel
theorem dX8_readsPurse_22 : decode cX8_readsPurse 22 = .ok (.getfield 124, 3) := by decide +kernel
theorem dX8_readsPurse_25 : decode cX8_readsPurse 25 = .ok (.imul, 1) := by decide +kernel
theorem dX8_readsPurse_26 : decode cX8_readsPurse 26 = .ok (.iastore, 1) := by decide +kernel
theorem dX8_readsPurse_27 : decode cX8_readsPurse 27 = .ok (.iconst 1, 1) := by decide +kernel
theorem dX8_readsPurse_28 : decode cX8_readsPurse 28 = .ok (.ireturn, 1) := by decide +kernel
theorem dX8_readsSend_0 : decode cX8_readsSend 0 = .ok (.aload_n 0, 1) := by decide +kernel
theorem dX8_readsSend_1 : decode cX8_readsSend 1 = .ok (.iconst 0, 1) := by decide +kernel
theorem dX8_readsSend_2 : decode cX8_readsSend 2 = .ok (.aload_n 0, 1) := by decide +kernel
theorem dX8_readsSend_3 : decode cX8_readsSend 3 = .ok (.getfield 7, 3) := by decide +kernel
theorem dX8_readsSend_6 : decode cX8_readsSend 6 = .ok (.sipush 342, 3) := by decide +kernel
theorem dX8_readsSend_9 : decode cX8_readsSend 9 = .ok (.iaload, 1) := by decide +kernel
theorem dX8_readsSend_10 : decode cX8_readsSend 10 = .ok (.iconst 1, 1) := by decide +kernel
theorem dX8_readsSend_11 : decode cX8_readsSend 11 = .ok (.isub, 1) := by decide +kernel
theorem dX8_readsSend_12 : decode cX8_readsSend 12 = .ok (.invokevirtual 133, 3) := by decide +kernel
theorem dX8_readsSend_15 : decode cX8_readsSend 15 = .ok (.ifCond .eq 17, 3) := by decide +kernel
theorem dX8_readsSend_18 : decode cX8_readsSend 18 = .ok (.aload_n 0, 1) := by decide +kernel
theorem dX8_readsSend_19 : decode cX8_readsSend 19 = .ok (.sipush 342, 3) := by decide +kernel
theorem dX8_readsSend_22 : decode cX8_readsSend 22 = .ok (.aload_n 0, 1) := by decide +kernel
theorem dX8_readsSend_23 : decode cX8_readsSend 23 = .ok (.getfield 124, 3) := by decide +kernel
theorem dX8_readsSend_26 : decode cX8_readsSend 26 = .ok (.invokevirtual 137, 3) := by decide +kernel
theorem dX8_readsSend_29 : decode cX8_readsSend 29 = .ok (.ifCond .ne 5, 3) := by decide +kernel
theorem dX8_readsSend_32 : decode cX8_readsSend 32 = .ok (.iconst 0, 1) := by decide +kernel
theorem dX8_readsSend_33 : decode cX8_readsSend 33 = .ok (.ireturn, 1) := by decide +kernel
theorem dX8_readsSend_34 : decode cX8_readsSend 34 = .ok (.aload_n 0, 1) := by decide +kernel
theorem dX8_readsSend_35 : decode cX8_readsSend 35 = .ok (.sipush 342, 3) := by decide +kernel
theorem dX8_readsSend_38 : decode cX8_readsSend 38 = .ok (.aload_n 0, 1) := by decide +kernel
theorem dX8_readsSend_39 : decode cX8_readsSend 39 = .ok (.getfield 124, 3) := by decide +kernel
theorem dX8_readsSend_42 : decode cX8_readsSend 42 = .ok (.invokevirtual 140, 3) := by decide +kernel
theorem dX8_readsSend_45 : decode cX8_readsSend 45 = .ok (.iconst 1, 1) := by decide +kernel
theorem dX8_readsSend_46 : decode cX8_readsSend 46 = .ok (.ireturn, 1) := by decide +kernel
theorem dX8_readsWait_0 : decode cX8_readsWait 0 = .ok (.aload_n 0, 1) := by decide +kernel
theorem dX8_readsWait_1 : decode cX8_readsWait 1 = .ok (.iconst 1, 1) := by decide +kernel
theorem dX8_readsWait_2 : decode cX8_readsWait 2 = .ok (.bipush 99, 2) := by decide +kernel
theorem dX8_readsWait_4 : decode cX8_readsWait 4 = .ok (.invokevirtual 133, 3) := by decide +kernel
theorem dX8_readsWait_7 : decode cX8_readsWait 7 = .ok (.ifCond .ne 5, 3) := by decide +kernel
theorem dX8_readsWait_10 : decode cX8_readsWait 10 = .ok (.iconst 0, 1) := by decide +kernel
theorem dX8_readsWait_11 : decode cX8_readsWait 11 = .ok (.ireturn, 1) := by decide +kernel
theorem dX8_readsWait_12 : decode cX8_readsWait 12 = .ok (.aload_n 0, 1) := by decide +kernel
theorem dX8_readsWait_13 : decode cX8_readsWait 13 = .ok (.getfield 7, 3) := by decide +kernel
theorem dX8_readsWait_16 : decode cX8_readsWait 16 = .ok (.sipush 359, 3) := by decide +kernel
theorem dX8_readsWait_19 : decode cX8_readsWait 19 = .ok (.aload_n 0, 1) := by decide +kernel
theorem dX8_readsWait_20 : decode cX8_readsWait 20 = .ok (.getfield 7, 3) := by decide +kernel
theorem dX8_readsWait_23 : decode cX8_readsWait 23 = .ok (.sipush 359, 3) := by decide +kernel
theorem dX8_readsWait_26 : decode cX8_readsWait 26 = .ok (.iaload, 1) := by decide +kernel
theorem dX8_readsWait_27 : decode cX8_readsWait 27 = .ok (.aload_n 0, 1) := by decide +kernel
theorem dX8_readsWait_28 : decode cX8_readsWait 28 = .ok (.getfield 124, 3) := by decide +kernel
theorem dX8_readsWait_31 : decode cX8_readsWait 31 = .ok (.iadd, 1) := by decide +kernel
theorem dX8_readsWait_32 : decode cX8_readsWait 32 = .ok (.sipush 9999, 3) := by decide +kernel
theorem dX8_readsWait_35 : decode cX8_readsWait 35 = .ok (.if_icmp .le 9, 3) := by decide +kernel
theorem dX8_readsWait_38 : decode cX8_readsWait 38 = .ok (.sipush 9999, 3) := by decide +kernel
theorem dX8_readsWait_41 : decode cX8_readsWait 41 = .ok (.goto 16, 3) := by decide +kernel
theorem dX8_readsWait_44 : decode cX8_readsWait 44 = .ok (.aload_n 0, 1) := by decide +kernel
theorem dX8_readsWait_45 : decode cX8_readsWait 45 = .ok (.getfield 7, 3) := by decide +kernel
theorem dX8_readsWait_48 : decode cX8_readsWait 48 = .ok (.sipush 359, 3) := by decide +kernel
theorem dX8_readsWait_51 : decode cX8_readsWait 51 = .ok (.iaload, 1) := by decide +kernel
theorem dX8_readsWait_52 : decode cX8_readsWait 52 = .ok (.aload_n 0, 1) := by decide +kernel
theorem dX8_readsWait_53 : decode cX8_readsWait 53 = .ok (.getfield 124, 3) := by decide +kernel
theorem dX8_readsWait_56 : decode cX8_readsWait 56 = .ok (.iadd, 1) := by decide +kernel
theorem dX8_readsWait_57 : decode cX8_readsWait 57 = .ok (.iastore, 1) := by decide +kernel
theorem dX8_readsWait_58 : decode cX8_readsWait 58 = .ok (.iconst 1, 1) := by decide +kernel
theorem dX8_readsWait_59 : decode cX8_readsWait 59 = .ok (.ireturn, 1) := by decide +kernel
theorem dX8_readsProvince_0 : decode cX8_readsProvince 0 = .ok (.aload_n 0, 1) := by decide +kernel
theorem dX8_readsProvince_1 : decode cX8_readsProvince 1 = .ok (.iconst 1, 1) := by decide +kernel
theorem dX8_readsProvince_2 : decode cX8_readsProvince 2 = .ok (.bipush 60, 2) := by decide +kernel
theorem dX8_readsProvince_4 : decode cX8_readsProvince 4 = .ok (.invokevirtual 133, 3) := by decide +kernel
theorem dX8_readsProvince_7 : decode cX8_readsProvince 7 = .ok (.ifCond .ne 5, 3) := by decide +kernel
theorem dX8_readsProvince_10 : decode cX8_readsProvince 10 = .ok (.iconst 0, 1) := by decide +kernel
theorem dX8_readsProvince_11 : decode cX8_readsProvince 11 = .ok (.ireturn, 1) := by decide +kernel
theorem dX8_readsProvince_12 : decode cX8_readsProvince 12 = .ok (.aload_n 0, 1) := by decide +kernel
theorem dX8_readsProvince_13 : decode cX8_readsProvince 13 = .ok (.getfield 7, 3) := by decide +kernel
theorem dX8_readsProvince_16 : decode cX8_readsProvince 16 = .ok (.sipush 353, 3) := by decide +kernel
theorem dX8_readsProvince_19 : decode cX8_readsProvince 19 = .ok (.aload_n 0, 1) := by decide +kernel
theorem dX8_readsProvince_20 : decode cX8_readsProvince 20 = .ok (.getfield 124, 3) := by decide +kernel
theorem dX8_readsProvince_23 : decode cX8_readsProvince 23 = .ok (.iastore, 1) := by decide +kernel
theorem dX8_readsProvince_24 : decode cX8_readsProvince 24 = .ok (.iconst 1, 1) := by decide +kernel
theorem dX8_readsProvince_25 : decode cX8_readsProvince 25 = .ok (.ireturn, 1) := by decide +kernel
theorem dX8_readsItem_0 : decode cX8_readsItem 0 = .ok (.aload_n 0, 1) := by decide +kernel
theorem dX8_readsItem_1 : decode cX8_readsItem 1 = .ok (.invokevirtual 144, 3) := by decide +kernel
theorem dX8_readsItem_4 : decode cX8_readsItem 4 = .ok (.aload_n 0, 1) := by decide +kernel
theorem dX8_readsItem_5 : decode cX8_readsItem 5 = .ok (.invokevirtual 147, 3) := by decide +kernel
theorem dX8_readsItem_8 : decode cX8_readsItem 8 = .ok (.istore_n 2, 1) := by decide +kernel
theorem dX8_readsItem_9 : decode cX8_readsItem 9 = .ok (.iload_n 1, 1) := by decide +kernel
theorem dX8_readsItem_10 : decode cX8_readsItem 10 = .ok (.iload_n 2, 1) := by decide +kernel
theorem dX8_readsItem_11 : decode cX8_readsItem 11 = .ok (.iconst 1, 1) := by decide +kernel
theorem dX8_readsItem_12 : decode cX8_readsItem 12 = .ok (.if_icmp .ne 7, 3) := by decide +kernel
theorem dX8_readsItem_15 : decode cX8_readsItem 15 = .ok (.iconst 1, 1) := by decide +kernel
theorem dX8_readsItem_16 : decode cX8_readsItem 16 = .ok (.goto 4, 3) := by decide +kernel
theorem dX8_readsItem_19 : decode cX8_readsItem 19 = .ok (.iconst 0, 1) := by decide +kernel
theorem dX8_readsItem_20 : decode cX8_readsItem 20 = .ok (.if_icmp .eq 5, 3) := by decide +kernel
theorem dX8_readsItem_23 : decode cX8_readsItem 23 = .ok (.iconst 0, 1) := by decide +kernel
theorem dX8_readsItem_24 : decode cX8_readsItem 24 = .ok (.ireturn, 1) := by decide +kernel
theorem dX8_readsItem_25 : decode cX8_readsItem 25 = .ok (.iload_n 2, 1) := by decide +kernel
theorem dX8_readsItem_26 : decode cX8_readsItem 26 = .ok (.iconst 1, 1) := by decide +kernel
theorem dX8_readsItem_27 : decode cX8_readsItem 27 = .ok (.if_icmp .ne 10, 3) := by decide +kernel
theorem dX8_readsItem_30 : decode cX8_readsItem 30 = .ok (.aload_n 0, 1) := by decide +kernel
theorem dX8_readsItem_31 : decode cX8_readsItem 31 = .ok (.invokevirtual 150, 3) := by decide +kernel
theorem dX8_readsItem_34 : decode cX8_readsItem 34 = .ok (.goto 69, 3) := by decide +kernel
theorem dX8_readsItem_37 : decode cX8_readsItem 37 = .ok (.iload_n 2, 1) := by decide +kernel
theorem dX8_readsItem_38 : decode cX8_readsItem 38 = .ok (.iconst 2, 1) := by decide +kernel
theorem dX8_readsItem_39 : decode cX8_readsItem 39 = .ok (.if_icmp .ne 10, 3) := by decide +kernel
theorem dX8_readsItem_42 : decode cX8_readsItem 42 = .ok (.aload_n 0, 1) := by decide +kernel
theorem dX8_readsItem_43 : decode cX8_readsItem 43 = .ok (.invokevirtual 153, 3) := by decide +kernel
theorem dX8_readsItem_46 : decode cX8_readsItem 46 = .ok (.goto 57, 3) := by decide +kernel
theorem dX8_readsItem_49 : decode cX8_readsItem 49 = .ok (.iload_n 2, 1) := by decide +kernel
theorem dX8_readsItem_50 : decode cX8_readsItem 50 = .ok (.iconst 3, 1) := by decide +kernel
theorem dX8_readsItem_51 : decode cX8_readsItem 51 = .ok (.if_icmp .ne 10, 3) := by decide +kernel
theorem dX8_readsItem_54 : decode cX8_readsItem 54 = .ok (.aload_n 0, 1) := by decide +kernel
theorem dX8_readsItem_55 : decode cX8_readsItem 55 = .ok (.invokevirtual 156, 3) := by decide +kernel
theorem dX8_readsItem_58 : decode cX8_readsItem 58 = .ok (.goto 45, 3) := by decide +kernel
theorem dX8_readsItem_61 : decode cX8_readsItem 61 = .ok (.iload_n 2, 1) := by decide +kernel
theorem dX8_readsItem_62 : decode cX8_readsItem 62 = .ok (.iconst 4, 1) := by decide +kernel
theorem dX8_readsItem_63 : decode cX8_readsItem 63 = .ok (.if_icmp .ne 10, 3) := by decide +kernel
theorem dX8_readsItem_66 : decode cX8_readsItem 66 = .ok (.aload_n 0, 1) := by decide +kernel
theorem dX8_readsItem_67 : decode cX8_readsItem 67 = .ok (.invokevirtual 159, 3) := by decide +kernel
theorem dX8_readsItem_70 : decode cX8_readsItem 70 = .ok (.goto 33, 3) := by decide +kernel
theorem dX8_readsItem_73 : decode cX8_readsItem 73 = .ok (.iload_n 2, 1) := by decide +kernel
theorem dX8_readsItem_74 : decode cX8_readsItem 74 = .ok (.iconst 5, 1) := by decide +kernel
theorem dX8_readsItem_75 : decode cX8_readsItem 75 = .ok (.if_icmp .ne 10, 3) := by decide +kernel
theorem dX8_readsItem_78 : decode cX8_readsItem 78 = .ok (.aload_n 0, 1) := by decide +kernel
theorem dX8_readsItem_79 : decode cX8_readsItem 79 = .ok (.invokevirtual 162, 3) := by decide +kernel
theorem dX8_readsItem_82 : decode cX8_readsItem 82 = .ok (.goto 21, 3) := by decide +kernel
theorem dX8_readsItem_85 : decode cX8_readsItem 85 = .ok (.iload_n 2, 1) := by decide +kernel
theorem dX8_readsItem_86 : decode cX8_readsItem 86 = .ok (.bipush 6, 2) := by decide +kernel
theorem dX8_readsItem_88 : decode cX8_readsItem 88 = .ok (.if_icmp .ne 14, 3) := by decide +kernel
theorem dX8_readsItem_91 : decode cX8_readsItem 91 = .ok (.aload_n 0, 1) := by decide +kernel
theorem dX8_readsItem_92 : decode cX8_readsItem 92 = .ok (.invokevirtual 165, 3) := by decide +kernel
theorem dX8_readsItem_95 : decode cX8_readsItem 95 = .ok (.ifCond .eq 7, 3) := by decide +kernel
theorem dX8_readsItem_98 : decode cX8_readsItem 98 = .ok (.iconst 1, 1) := by decide +kernel
theorem dX8_readsItem_99 : decode cX8_readsItem 99 = .ok (.goto 4, 3) := by decide +kernel
theorem dX8_readsItem_102 : decode cX8_readsItem 102 = .ok (.iconst 0, 1) := by decide +kernel
theorem dX8_readsItem_103 : decode cX8_readsItem 103 = .ok (.istore_n 3, 1) := by decide +kernel
theorem dX8_readsItem_104 : decode cX8_readsItem 104 = .ok (.iload_n 3, 1) := by decide +kernel
theorem dX8_readsItem_105 : decode cX8_readsItem 105 = .ok (.ifCond .eq 14, 3) := by decide +kernel
theorem dX8_readsItem_108 : decode cX8_readsItem 108 = .ok (.aload_n 0, 1) := by decide +kernel
theorem dX8_readsItem_109 : decode cX8_readsItem 109 = .ok (.invokevirtual 168, 3) := by decide +kernel
theorem dX8_readsItem_112 : decode cX8_readsItem 112 = .ok (.ifCond .eq 7, 3) := by decide +kernel
theorem dX8_readsItem_115 : decode cX8_readsItem 115 = .ok (.iconst 1, 1) := by decide +kernel
theorem dX8_readsItem_116 : decode cX8_readsItem 116 = .ok (.goto 4, 3) := by decide +kernel
theorem dX8_readsItem_119 : decode cX8_readsItem 119 = .ok (.iconst 0, 1) := by decide +kernel
theorem dX8_readsItem_120 : decode cX8_readsItem 120 = .ok (.ireturn, 1) := by decide +kernel
theorem dX8_read_0 : decode cX8_read 0 = .ok (.aload_n 0, 1) := by decide +kernel
theorem dX8_read_1 : decode cX8_read 1 = .ok (.sipush 342, 3) := by decide +kernel
theorem dX8_read_4 : decode cX8_read 4 = .ok (.bipush 20, 2) := by decide +kernel
theorem dX8_read_6 : decode cX8_read 6 = .ok (.bipush 100, 2) := by decide +kernel
theorem dX8_read_8 : decode cX8_read 8 = .ok (.invokevirtual 52, 3) := by decide +kernel
theorem dX8_read_11 : decode cX8_read 11 = .ok (.aload_n 0, 1) := by decide +kernel
theorem dX8_read_12 : decode cX8_read 12 = .ok (.iconst 0, 1) := by decide +kernel
theorem dX8_read_13 : decode cX8_read 13 = .ok (.putfield 96, 3) := by decide +kernel
theorem dX8_read_16 : decode cX8_read 16 = .ok (.iconst 0, 1) := by decide +kernel
theorem dX8_read_17 : decode cX8_read 17 = .ok (.istore_n 1, 1) := by decide +kernel
theorem dX8_read_18 : decode cX8_read 18 = .ok (.aload_n 0, 1) := by decide +kernel
theorem dX8_read_19 : decode cX8_read 19 = .ok (.invokevirtual 105, 3) := by decide +kernel
theorem dX8_read_22 : decode cX8_read 22 = .ok (.iconst 1, 1) := by decide +kernel
theorem dX8_read_23 : decode cX8_read 23 = .ok (.istore_n 2, 1) := by decide +kernel
theorem dX8_read_24 : decode cX8_read 24 = .ok (.iload_n 2, 1) := by decide +kernel
theorem dX8_read_25 : decode cX8_read 25 = .ok (.ifCond .eq 46, 3) := by decide +kernel
theorem dX8_read_28 : decode cX8_read 28 = .ok (.aload_n 0, 1) := by decide +kernel
theorem dX8_read_29 : decode cX8_read 29 = .ok (.getfield 102, 3) := by decide +kernel
theorem dX8_read_32 : decode cX8_read 32 = .ok (.aload_n 0, 1) := by decide +kernel
theorem dX8_read_33 : decode cX8_read 33 = .ok (.getfield 48, 3) := by decide +kernel
theorem dX8_read_36 : decode cX8_read 36 = .ok (.if_icmp .lt 7, 3) := by decide +kernel
theorem dX8_read_39 : decode cX8_read 39 = .ok (.iload_n 1, 1) := by decide +kernel
theorem dX8_read_40 : decode cX8_read 40 = .ok (.ifCond .ne 31, 3) := by decide +kernel
theorem dX8_read_43 : decode cX8_read 43 = .ok (.aload_n 0, 1) := by decide +kernel
theorem dX8_read_44 : decode cX8_read 44 = .ok (.iload_n 1, 1) := by decide +kernel
theorem dX8_read_45 : decode cX8_read 45 = .ok (.ifCond .ne 7, 3) := by decide +kernel
theorem dX8_read_48 : decode cX8_read 48 = .ok (.iconst 1, 1) := by decide +kernel
theorem dX8_read_49 : decode cX8_read 49 = .ok (.goto 4, 3) := by decide +kernel
theorem dX8_read_52 : decode cX8_read 52 = .ok (.iconst 0, 1) := by decide +kernel
theorem dX8_read_53 : decode cX8_read 53 = .ok (.invokevirtual 171, 3) := by decide +kernel
theorem dX8_read_56 : decode cX8_read 56 = .ok (.istore_n 2, 1) := by decide +kernel
theorem dX8_read_57 : decode cX8_read 57 = .ok (.iinc 1 1, 3) := by decide +kernel
theorem dX8_read_60 : decode cX8_read 60 = .ok (.iload_n 2, 1) := by decide +kernel
theorem dX8_read_61 : decode cX8_read 61 = .ok (.ifCond .eq (-37), 3) := by decide +kernel
theorem dX8_read_64 : decode cX8_read 64 = .ok (.aload_n 0, 1) := by decide +kernel
theorem dX8_read_65 : decode cX8_read 65 = .ok (.invokevirtual 105, 3) := by decide +kernel
theorem dX8_read_68 : decode cX8_read 68 = .ok (.goto (-44), 3) := by decide +kernel
theorem dX8_read_71 : decode cX8_read 71 = .ok (.iload_n 2, 1) := by decide +kernel
theorem dX8_read_72 : decode cX8_read 72 = .ok (.ifCond .ne 11, 3) := by decide +kernel
theorem dX8_read_75 : decode cX8_read 75 = .ok (.bipush (-10), 2) := by decide +kernel
theorem dX8_read_77 : decode cX8_read 77 = .ok (.aload_n 0, 1) := by decide +kernel
theorem dX8_read_78 : decode cX8_read 78 = .ok (.getfield 102, 3) := by decide +kernel
theorem dX8_read_81 : decode cX8_read 81 = .ok (.isub, 1) := by decide +kernel
theorem dX8_read_82 : decode cX8_read 82 = .ok (.ireturn, 1) := by decide +kernel
theorem dX8_read_83 : decode cX8_read 83 = .ok (.aload_n 0, 1) := by decide +kernel
theorem dX8_read_84 : decode cX8_read 84 = .ok (.sipush 342, 3) := by decide +kernel
theorem dX8_read_87 : decode cX8_read 87 = .ok (.iconst 0, 1) := by decide +kernel
theorem dX8_read_88 : decode cX8_read 88 = .ok (.invokevirtual 175, 3) := by decide +kernel
theorem dX8_read_91 : decode cX8_read 91 = .ok (.iload_n 1, 1) := by decide +kernel
theorem dX8_read_92 : decode cX8_read 92 = .ok (.ireturn, 1) := by decide +kernel
theorem dX8_showsIn_0 : decode cX8_showsIn 0 = .ok (.aload_n 0, 1) := by decide +kernel
theorem dX8_showsIn_1 : decode cX8_showsIn 1 = .ok (.getfield 7, 3) := by decide +kernel
theorem dX8_showsIn_4 : decode cX8_showsIn 4 = .ok (.iload_n 1, 1) := by decide +kernel
theorem dX8_showsIn_5 : decode cX8_showsIn 5 = .ok (.iconst 1, 1) := by decide +kernel
theorem dX8_showsIn_6 : decode cX8_showsIn 6 = .ok (.iadd, 1) := by decide +kernel
theorem dX8_showsIn_7 : decode cX8_showsIn 7 = .ok (.iload_n 2, 1) := by decide +kernel
theorem dX8_showsIn_8 : decode cX8_showsIn 8 = .ok (.iadd, 1) := by decide +kernel
theorem dX8_showsIn_9 : decode cX8_showsIn 9 = .ok (.iaload, 1) := by decide +kernel
theorem dX8_showsIn_10 : decode cX8_showsIn 10 = .ok (.aload_n 0, 1) := by decide +kernel
theorem dX8_showsIn_11 : decode cX8_showsIn 11 = .ok (.getfield 7, 3) := by decide +kernel
theorem dX8_showsIn_14 : decode cX8_showsIn 14 = .ok (.iload_n 1, 1) := by decide +kernel
theorem dX8_showsIn_15 : decode cX8_showsIn 15 = .ok (.bipush 6, 2) := by decide +kernel
theorem dX8_showsIn_17 : decode cX8_showsIn 17 = .ok (.iadd, 1) := by decide +kernel
theorem dX8_showsIn_18 : decode cX8_showsIn 18 = .ok (.iload_n 2, 1) := by decide +kernel
theorem dX8_showsIn_19 : decode cX8_showsIn 19 = .ok (.iadd, 1) := by decide +kernel
theorem dX8_showsIn_20 : decode cX8_showsIn 20 = .ok (.iaload, 1) := by decide +kernel
theorem dX8_showsIn_21 : decode cX8_showsIn 21 = .ok (.iload_n 3, 1) := by decide +kernel
theorem dX8_showsIn_22 : decode cX8_showsIn 22 = .ok (.bipush 24, 2) := by decide +kernel
theorem dX8_showsIn_24 : decode cX8_showsIn 24 = .ok (.irem, 1) := by decide +kernel
theorem dX8_showsIn_25 : decode cX8_showsIn 25 = .ok (.invokestatic 178, 3) := by decide +kernel
theorem dX8_showsIn_28 : decode cX8_showsIn 28 = .ok (.ireturn, 1) := by decide +kernel
theorem dX8_costIn_0 : decode cX8_costIn 0 = .ok (.aload_n 0, 1) := by decide +kernel
theorem dX8_costIn_1 : decode cX8_costIn 1 = .ok (.iload_n 1, 1) := by decide +kernel
theorem dX8_costIn_2 : decode cX8_costIn 2 = .ok (.iload_n 2, 1) := by decide +kernel
theorem dX8_costIn_3 : decode cX8_costIn 3 = .ok (.iload_n 3, 1) := by decide +kernel
theorem dX8_costIn_4 : decode cX8_costIn 4 = .ok (.invokevirtual 182, 3) := by decide +kernel
theorem dX8_costIn_7 : decode cX8_costIn 7 = .ok (.istore 4, 2) := by decide +kernel
theorem dX8_costIn_9 : decode cX8_costIn 9 = .ok (.aload_n 0, 1) := by decide +kernel
theorem dX8_costIn_10 : decode cX8_costIn 10 = .ok (.getfield 7, 3) := by decide +kernel
theorem dX8_costIn_13 : decode cX8_costIn 13 = .ok (.iload_n 1, 1) := by decide +kernel
theorem dX8_costIn_14 : decode cX8_costIn 14 = .ok (.bipush 12, 2) := by decide +kernel
theorem dX8_costIn_16 : decode cX8_costIn 16 = .ok (.iadd, 1) := by decide +kernel
theorem dX8_costIn_17 : decode cX8_costIn 17 = .ok (.iaload, 1) := by decide +kernel
theorem dX8_costIn_18 : decode cX8_costIn 18 = .ok (.iload 4, 2) := by decide +kernel
theorem dX8_costIn_20 : decode cX8_costIn 20 = .ok (.iload_n 3, 1) := by decide +kernel
theorem dX8_costIn_21 : decode cX8_costIn 21 = .ok (.bipush 24, 2) := by decide +kernel
theorem dX8_costIn_23 : decode cX8_costIn 23 = .ok (.idiv, 1) := by decide +kernel
theorem dX8_costIn_24 : decode cX8_costIn 24 = .ok (.invokestatic 185, 3) := by decide +kernel
theorem dX8_costIn_27 : decode cX8_costIn 27 = .ok (.aload_n 0, 1) := by decide +kernel
theorem dX8_costIn_28 : decode cX8_costIn 28 = .ok (.getfield 7, 3) := by decide +kernel
theorem dX8_costIn_31 : decode cX8_costIn 31 = .ok (.iload_n 1, 1) := by decide +kernel
theorem dX8_costIn_32 : decode cX8_costIn 32 = .ok (.bipush 12, 2) := by decide +kernel
theorem dX8_costIn_34 : decode cX8_costIn 34 = .ok (.iadd, 1) := by decide +kernel
theorem dX8_costIn_35 : decode cX8_costIn 35 = .ok (.iconst 1, 1) := by decide +kernel
theorem dX8_costIn_36 : decode cX8_costIn 36 = .ok (.iadd, 1) := by decide +kernel
theorem dX8_costIn_37 : decode cX8_costIn 37 = .ok (.iaload, 1) := by decide +kernel
theorem dX8_costIn_38 : decode cX8_costIn 38 = .ok (.iload 4, 2) := by decide +kernel
theorem dX8_costIn_40 : decode cX8_costIn 40 = .ok (.iload_n 3, 1) := by decide +kernel
theorem dX8_costIn_41 : decode cX8_costIn 41 = .ok (.bipush 24, 2) := by decide +kernel
theorem dX8_costIn_43 : decode cX8_costIn 43 = .ok (.idiv, 1) := by decide +kernel
theorem dX8_costIn_44 : decode cX8_costIn 44 = .ok (.invokestatic 185, 3) := by decide +kernel
theorem dX8_costIn_47 : decode cX8_costIn 47 = .ok (.iadd, 1) := by decide +kernel
theorem dX8_costIn_48 : decode cX8_costIn 48 = .ok (.ireturn, 1) := by decide +kernel
theorem dX8_bringsIn_0 : decode cX8_bringsIn 0 = .ok (.aload_n 0, 1) := by decide +kernel
theorem dX8_bringsIn_1 : decode cX8_bringsIn 1 = .ok (.getfield 7, 3) := by decide +kernel
theorem dX8_bringsIn_4 : decode cX8_bringsIn 4 = .ok (.iload_n 1, 1) := by decide +kernel
theorem dX8_bringsIn_5 : decode cX8_bringsIn 5 = .ok (.bipush 6, 2) := by decide +kernel
theorem dX8_bringsIn_7 : decode cX8_bringsIn 7 = .ok (.iadd, 1) := by decide +kernel
theorem dX8_bringsIn_8 : decode cX8_bringsIn 8 = .ok (.iload_n 2, 1) := by decide +kernel
theorem dX8_bringsIn_9 : decode cX8_bringsIn 9 = .ok (.iadd, 1) := by decide +kernel
theorem dX8_bringsIn_10 : decode cX8_bringsIn 10 = .ok (.iaload, 1) := by decide +kernel
theorem dX8_bringsIn_11 : decode cX8_bringsIn 11 = .ok (.aload_n 0, 1) := by decide +kernel
theorem dX8_bringsIn_12 : decode cX8_bringsIn 12 = .ok (.getfield 7, 3) := by decide +kernel
theorem dX8_bringsIn_15 : decode cX8_bringsIn 15 = .ok (.iload_n 1, 1) := by decide +kernel
theorem dX8_bringsIn_16 : decode cX8_bringsIn 16 = .ok (.bipush 11, 2) := by decide +kernel
theorem dX8_bringsIn_18 : decode cX8_bringsIn 18 = .ok (.iadd, 1) := by decide +kernel
theorem dX8_bringsIn_19 : decode cX8_bringsIn 19 = .ok (.iaload, 1) := by decide +kernel
theorem dX8_bringsIn_20 : decode cX8_bringsIn 20 = .ok (.invokestatic 188, 3) := by decide +kernel
theorem dX8_bringsIn_23 : decode cX8_bringsIn 23 = .ok (.ireturn, 1) := by decide +kernel
theorem dX8_canSend_0 : decode cX8_canSend 0 = .ok (.aload_n 0, 1) := by decide +kernel
theorem dX8_canSend_1 : decode cX8_canSend 1 = .ok (.getfield 7, 3) := by decide +kernel
theorem dX8_canSend_4 : decode cX8_canSend 4 = .ok (.iload_n 1, 1) := by decide +kernel
theorem dX8_canSend_5 : decode cX8_canSend 5 = .ok (.bipush 17, 2) := by decide +kernel
theorem dX8_canSend_7 : decode cX8_canSend 7 = .ok (.iadd, 1) := by decide +kernel
theorem dX8_canSend_8 : decode cX8_canSend 8 = .ok (.iaload, 1) := by decide +kernel
theorem dX8_canSend_9 : decode cX8_canSend 9 = .ok (.sipush 9999, 3) := by decide +kernel
theorem dX8_canSend_12 : decode cX8_canSend 12 = .ok (.if_icmp .ge 34, 3) := by decide +kernel
theorem dX8_canSend_15 : decode cX8_canSend 15 = .ok (.aload_n 0, 1) := by decide +kernel
theorem dX8_canSend_16 : decode cX8_canSend 16 = .ok (.getfield 7, 3) := by decide +kernel
theorem dX8_canSend_19 : decode cX8_canSend 19 = .ok (.iload_n 1, 1) := by decide +kernel
theorem dX8_canSend_20 : decode cX8_canSend 20 = .ok (.bipush 14, 2) := by decide +kernel
theorem dX8_canSend_22 : decode cX8_canSend 22 = .ok (.iadd, 1) := by decide +kernel
theorem dX8_canSend_23 : decode cX8_canSend 23 = .ok (.iaload, 1) := by decide +kernel
theorem dX8_canSend_24 : decode cX8_canSend 24 = .ok (.aload_n 0, 1) := by decide +kernel
theorem dX8_canSend_25 : decode cX8_canSend 25 = .ok (.iload_n 1, 1) := by decide +kernel
theorem dX8_canSend_26 : decode cX8_canSend 26 = .ok (.iload_n 2, 1) := by decide +kernel
theorem dX8_canSend_27 : decode cX8_canSend 27 = .ok (.aload_n 0, 1) := by decide +kernel
theorem dX8_canSend_28 : decode cX8_canSend 28 = .ok (.getfield 7, 3) := by decide +kernel
theorem dX8_canSend_31 : decode cX8_canSend 31 = .ok (.iload_n 1, 1) := by decide +kernel
theorem dX8_canSend_32 : decode cX8_canSend 32 = .ok (.bipush 17, 2) := by decide +kernel
theorem dX8_canSend_34 : decode cX8_canSend 34 = .ok (.iadd, 1) := by decide +kernel
theorem dX8_canSend_35 : decode cX8_canSend 35 = .ok (.iaload, 1) := by decide +kernel
theorem dX8_canSend_36 : decode cX8_canSend 36 = .ok (.invokevirtual 191, 3) := by decide +kernel
theorem dX8_canSend_39 : decode cX8_canSend 39 = .ok (.if_icmp .lt 7, 3) := by decide +kernel
theorem dX8_canSend_42 : decode cX8_canSend 42 = .ok (.iconst 1, 1) := by decide +kernel
theorem dX8_canSend_43 : decode cX8_canSend 43 = .ok (.goto 4, 3) := by decide +kernel
theorem dX8_canSend_46 : decode cX8_canSend 46 = .ok (.iconst 0, 1) := by decide +kernel
theorem dX8_canSend_47 : decode cX8_canSend 47 = .ok (.ireturn, 1) := by decide +kernel
theorem dX8_isSent_0 : decode cX8_isSent 0 = .ok (.aload_n 0, 1) := by decide +kernel
theorem dX8_isSent_1 : decode cX8_isSent 1 = .ok (.getfield 7, 3) := by decide +kernel
theorem dX8_isSent_4 : decode cX8_isSent 4 = .ok (.iload_n 1, 1) := by decide +kernel
theorem dX8_isSent_5 : decode cX8_isSent 5 = .ok (.bipush 17, 2) := by decide +kernel
theorem dX8_isSent_7 : decode cX8_isSent 7 = .ok (.iadd, 1) := by decide +kernel
theorem dX8_isSent_8 : decode cX8_isSent 8 = .ok (.iaload, 1) := by decide +kernel
theorem dX8_isSent_9 : decode cX8_isSent 9 = .ok (.istore_n 3, 1) := by decide +kernel
theorem dX8_isSent_10 : decode cX8_isSent 10 = .ok (.aload_n 0, 1) := by decide +kernel
theorem dX8_isSent_11 : decode cX8_isSent 11 = .ok (.getfield 7, 3) := by decide +kernel
theorem dX8_isSent_14 : decode cX8_isSent 14 = .ok (.iload_n 1, 1) := by decide +kernel
theorem dX8_isSent_15 : decode cX8_isSent 15 = .ok (.bipush 14, 2) := by decide +kernel
theorem dX8_isSent_17 : decode cX8_isSent 17 = .ok (.iadd, 1) := by decide +kernel
theorem dX8_isSent_18 : decode cX8_isSent 18 = .ok (.dup2, 1) := by decide +kernel
theorem dX8_isSent_19 : decode cX8_isSent 19 = .ok (.iaload, 1) := by decide +kernel
theorem dX8_isSent_20 : decode cX8_isSent 20 = .ok (.aload_n 0, 1) := by decide +kernel
theorem dX8_isSent_21 : decode cX8_isSent 21 = .ok (.iload_n 1, 1) := by decide +kernel
theorem dX8_isSent_22 : decode cX8_isSent 22 = .ok (.iload_n 2, 1) := by decide +kernel
theorem dX8_isSent_23 : decode cX8_isSent 23 = .ok (.iload_n 3, 1) := by decide +kernel
theorem dX8_isSent_24 : decode cX8_isSent 24 = .ok (.invokevirtual 191, 3) := by decide +kernel
theorem dX8_isSent_27 : decode cX8_isSent 27 = .ok (.isub, 1) := by decide +kernel
theorem dX8_isSent_28 : decode cX8_isSent 28 = .ok (.iastore, 1) := by decide +kernel
theorem dX8_isSent_29 : decode cX8_isSent 29 = .ok (.aload_n 0, 1) := by decide +kernel
theorem dX8_isSent_30 : decode cX8_isSent 30 = .ok (.getfield 7, 3) := by decide +kernel
theorem dX8_isSent_33 : decode cX8_isSent 33 = .ok (.iload_n 1, 1) := by decide +kernel
theorem dX8_isSent_34 : decode cX8_isSent 34 = .ok (.bipush 15, 2) := by decide +kernel
theorem dX8_isSent_36 : decode cX8_isSent 36 = .ok (.iadd, 1) := by decide +kernel
theorem dX8_isSent_37 : decode cX8_isSent 37 = .ok (.dup2, 1) := by decide +kernel
theorem dX8_isSent_38 : decode cX8_isSent 38 = .ok (.iaload, 1) := by decide +kernel
theorem dX8_isSent_39 : decode cX8_isSent 39 = .ok (.aload_n 0, 1) := by decide +kernel
theorem dX8_isSent_40 : decode cX8_isSent 40 = .ok (.iload_n 1, 1) := by decide +kernel
theorem dX8_isSent_41 : decode cX8_isSent 41 = .ok (.iload_n 2, 1) := by decide +kernel
theorem dX8_isSent_42 : decode cX8_isSent 42 = .ok (.invokevirtual 194, 3) := by decide +kernel
theorem dX8_isSent_45 : decode cX8_isSent 45 = .ok (.iadd, 1) := by decide +kernel
theorem dX8_isSent_46 : decode cX8_isSent 46 = .ok (.iastore, 1) := by decide +kernel
theorem dX8_isSent_47 : decode cX8_isSent 47 = .ok (.aload_n 0, 1) := by decide +kernel
theorem dX8_isSent_48 : decode cX8_isSent 48 = .ok (.getfield 7, 3) := by decide +kernel
theorem dX8_isSent_51 : decode cX8_isSent 51 = .ok (.iload_n 1, 1) := by decide +kernel
theorem dX8_isSent_52 : decode cX8_isSent 52 = .ok (.bipush 16, 2) := by decide +kernel
theorem dX8_isSent_54 : decode cX8_isSent 54 = .ok (.iadd, 1) := by decide +kernel
theorem dX8_isSent_55 : decode cX8_isSent 55 = .ok (.dup2, 1) := by decide +kernel
theorem dX8_isSent_56 : decode cX8_isSent 56 = .ok (.iaload, 1) := by decide +kernel
theorem dX8_isSent_57 : decode cX8_isSent 57 = .ok (.aload_n 0, 1) := by decide +kernel
theorem dX8_isSent_58 : decode cX8_isSent 58 = .ok (.getfield 7, 3) := by decide +kernel
theorem dX8_isSent_61 : decode cX8_isSent 61 = .ok (.iload_n 1, 1) := by decide +kernel
theorem dX8_isSent_62 : decode cX8_isSent 62 = .ok (.bipush 12, 2) := by decide +kernel
theorem dX8_isSent_64 : decode cX8_isSent 64 = .ok (.iadd, 1) := by decide +kernel
theorem dX8_isSent_65 : decode cX8_isSent 65 = .ok (.iconst 1, 1) := by decide +kernel
theorem dX8_isSent_66 : decode cX8_isSent 66 = .ok (.iadd, 1) := by decide +kernel
theorem dX8_isSent_67 : decode cX8_isSent 67 = .ok (.iaload, 1) := by decide +kernel
theorem dX8_isSent_68 : decode cX8_isSent 68 = .ok (.aload_n 0, 1) := by decide +kernel
theorem dX8_isSent_69 : decode cX8_isSent 69 = .ok (.iload_n 1, 1) := by decide +kernel
theorem dX8_isSent_70 : decode cX8_isSent 70 = .ok (.iload_n 2, 1) := by decide +kernel
theorem dX8_isSent_71 : decode cX8_isSent 71 = .ok (.iload_n 3, 1) := by decide +kernel
theorem dX8_isSent_72 : decode cX8_isSent 72 = .ok (.invokevirtual 182, 3) := by decide +kernel
theorem dX8_isSent_75 : decode cX8_isSent 75 = .ok (.iload_n 3, 1) := by decide +kernel
theorem dX8_isSent_76 : decode cX8_isSent 76 = .ok (.bipush 24, 2) := by decide +kernel
theorem dX8_isSent_78 : decode cX8_isSent 78 = .ok (.idiv, 1) := by decide +kernel
theorem dX8_isSent_79 : decode cX8_isSent 79 = .ok (.invokestatic 185, 3) := by decide +kernel
theorem dX8_isSent_82 : decode cX8_isSent 82 = .ok (.ifCond .le 7, 3) := by decide +kernel
theorem dX8_isSent_85 : decode cX8_isSent 85 = .ok (.iconst 1, 1) := by decide +kernel
theorem dX8_isSent_86 : decode cX8_isSent 86 = .ok (.goto 4, 3) := by decide +kernel
theorem dX8_isSent_89 : decode cX8_isSent 89 = .ok (.iconst 0, 1) := by decide +kernel
theorem dX8_isSent_90 : decode cX8_isSent 90 = .ok (.iadd, 1) := by decide +kernel
theorem dX8_isSent_91 : decode cX8_isSent 91 = .ok (.iastore, 1) := by decide +kernel
theorem dX8_isSent_92 : decode cX8_isSent 92 = .ok (.aload_n 0, 1) := by decide +kernel
theorem dX8_isSent_93 : decode cX8_isSent 93 = .ok (.getfield 7, 3) := by decide +kernel
theorem dX8_isSent_96 : decode cX8_isSent 96 = .ok (.iload_n 1, 1) := by decide +kernel
theorem dX8_isSent_97 : decode cX8_isSent 97 = .ok (.bipush 17, 2) := by decide +kernel
theorem dX8_isSent_99 : decode cX8_isSent 99 = .ok (.iadd, 1) := by decide +kernel
theorem dX8_isSent_100 : decode cX8_isSent 100 = .ok (.dup2, 1) := by decide +kernel
theorem dX8_isSent_101 : decode cX8_isSent 101 = .ok (.iaload, 1) := by decide +kernel
theorem dX8_isSent_102 : decode cX8_isSent 102 = .ok (.iconst 1, 1) := by decide +kernel
theorem dX8_isSent_103 : decode cX8_isSent 103 = .ok (.iadd, 1) := by decide +kernel
theorem dX8_isSent_104 : decode cX8_isSent 104 = .ok (.iastore, 1) := by decide +kernel
theorem dX8_isSent_105 : decode cX8_isSent 105 = .ok (.return_, 1) := by decide +kernel
theorem dX8_minds_0 : decode cX8_minds 0 = .ok (.aload_n 0, 1) := by decide +kernel
theorem dX8_minds_1 : decode cX8_minds 1 = .ok (.getfield 7, 3) := by decide +kernel
theorem dX8_minds_4 : decode cX8_minds 4 = .ok (.bipush 81, 2) := by decide +kernel
theorem dX8_minds_6 : decode cX8_minds 6 = .ok (.iaload, 1) := by decide +kernel
theorem dX8_minds_7 : decode cX8_minds 7 = .ok (.bipush 8, 2) := by decide +kernel
theorem dX8_minds_9 : decode cX8_minds 9 = .ok (.if_icmp .ne 48, 3) := by decide +kernel
theorem dX8_minds_12 : decode cX8_minds 12 = .ok (.iconst 0, 1) := by decide +kernel
theorem dX8_minds_13 : decode cX8_minds 13 = .ok (.istore_n 1, 1) := by decide +kernel
theorem dX8_minds_14 : decode cX8_minds 14 = .ok (.iload_n 1, 1) := by decide +kernel
theorem dX8_minds_15 : decode cX8_minds 15 = .ok (.bipush 28, 2) := by decide +kernel
theorem dX8_minds_17 : decode cX8_minds 17 = .ok (.if_icmp .ge 29, 3) := by decide +kernel
theorem dX8_minds_20 : decode cX8_minds 20 = .ok (.aload_n 0, 1) := by decide +kernel
theorem dX8_minds_21 : decode cX8_minds 21 = .ok (.getfield 7, 3) := by decide +kernel
theorem dX8_minds_24 : decode cX8_minds 24 = .ok (.bipush 82, 2) := by decide +kernel
theorem dX8_minds_26 : decode cX8_minds 26 = .ok (.iload_n 1, 1) := by decide +kernel
theorem dX8_minds_27 : decode cX8_minds 27 = .ok (.iadd, 1) := by decide +kernel
theorem dX8_minds_28 : decode cX8_minds 28 = .ok (.aload_n 0, 1) := by decide +kernel
theorem dX8_minds_29 : decode cX8_minds 29 = .ok (.getfield 7, 3) := by decide +kernel
theorem dX8_minds_32 : decode cX8_minds 32 = .ok (.bipush 82, 2) := by decide +kernel
theorem dX8_minds_34 : decode cX8_minds 34 = .ok (.iload_n 1, 1) := by decide +kernel
theorem dX8_minds_35 : decode cX8_minds 35 = .ok (.iadd, 1) := by decide +kernel
theorem dX8_minds_36 : decode cX8_minds 36 = .ok (.iconst 4, 1) := by decide +kernel
theorem dX8_minds_37 : decode cX8_minds 37 = .ok (.iadd, 1) := by decide +kernel
theorem dX8_minds_38 : decode cX8_minds 38 = .ok (.iaload, 1) := by decide +kernel
theorem dX8_minds_39 : decode cX8_minds 39 = .ok (.iastore, 1) := by decide +kernel
theorem dX8_minds_40 : decode cX8_minds 40 = .ok (.iinc 1 1, 3) := by decide +kernel
theorem dX8_minds_43 : decode cX8_minds 43 = .ok (.goto (-29), 3) := by decide +kernel
theorem dX8_minds_46 : decode cX8_minds 46 = .ok (.aload_n 0, 1) := by decide +kernel
theorem dX8_minds_47 : decode cX8_minds 47 = .ok (.getfield 7, 3) := by decide +kernel
theorem dX8_minds_50 : decode cX8_minds 50 = .ok (.bipush 81, 2) := by decide +kernel
theorem dX8_minds_52 : decode cX8_minds 52 = .ok (.dup2, 1) := by decide +kernel
theorem dX8_minds_53 : decode cX8_minds 53 = .ok (.iaload, 1) := by decide +kernel
theorem dX8_minds_54 : decode cX8_minds 54 = .ok (.iconst 1, 1) := by decide +kernel
theorem dX8_minds_55 : decode cX8_minds 55 = .ok (.isub, 1) := by decide +kernel
theorem dX8_minds_56 : decode cX8_minds 56 = .ok (.iastore, 1) := by decide +kernel
theorem dX8_minds_57 : decode cX8_minds 57 = .ok (.iconst 0, 1) := by decide +kernel
theorem dX8_minds_58 : decode cX8_minds 58 = .ok (.istore_n 1, 1) := by decide +kernel
theorem dX8_minds_59 : decode cX8_minds 59 = .ok (.iload_n 1, 1) := by decide +kernel
theorem dX8_minds_60 : decode cX8_minds 60 = .ok (.iconst 4, 1) := by decide +kernel
theorem dX8_minds_61 : decode cX8_minds 61 = .ok (.if_icmp .ge 37, 3) := by decide +kernel
theorem dX8_minds_64 : decode cX8_minds 64 = .ok (.aload_n 0, 1) := by decide +kernel
theorem dX8_minds_65 : decode cX8_minds 65 = .ok (.getfield 7, 3) := by decide +kernel
theorem dX8_minds_68 : decode cX8_minds 68 = .ok (.bipush 82, 2) := by decide +kernel
theorem dX8_minds_70 : decode cX8_minds 70 = .ok (.iconst 4, 1) := by decide +kernel
theorem dX8_minds_71 : decode cX8_minds 71 = .ok (.aload_n 0, 1) := by decide +kernel
theorem dX8_minds_72 : decode cX8_minds 72 = .ok (.getfield 7, 3) := by decide +kernel
theorem dX8_minds_75 : decode cX8_minds 75 = .ok (.bipush 81, 2) := by decide +kernel
theorem dX8_minds_77 : decode cX8_minds 77 = .ok (.iaload, 1) := by decide +kernel
theorem dX8_minds_78 : decode cX8_minds 78 = .ok (.imul, 1) := by decide +kernel
theorem dX8_minds_79 : decode cX8_minds 79 = .ok (.iadd, 1) := by decide +kernel
theorem dX8_minds_80 : decode cX8_minds 80 = .ok (.iload_n 1, 1) := by decide +kernel
theorem dX8_minds_81 : decode cX8_minds 81 = .ok (.iadd, 1) := by decide +kernel
theorem dX8_minds_82 : decode cX8_minds 82 = .ok (.aload_n 0, 1) := by decide +kernel
theorem dX8_minds_83 : decode cX8_minds 83 = .ok (.getfield 7, 3) := by decide +kernel
theorem dX8_minds_86 : decode cX8_minds 86 = .ok (.bipush 14, 2) := by decide +kernel
theorem dX8_minds_88 : decode cX8_minds 88 = .ok (.iload_n 1, 1) := by decide +kernel
theorem dX8_minds_89 : decode cX8_minds 89 = .ok (.iadd, 1) := by decide +kernel
theorem dX8_minds_90 : decode cX8_minds 90 = .ok (.iaload, 1) := by decide +kernel
theorem dX8_minds_91 : decode cX8_minds 91 = .ok (.iastore, 1) := by decide +kernel
theorem dX8_minds_92 : decode cX8_minds 92 = .ok (.iinc 1 1, 3) := by decide +kernel
theorem dX8_minds_95 : decode cX8_minds 95 = .ok (.goto (-36), 3) := by decide +kernel
theorem dX8_minds_98 : decode cX8_minds 98 = .ok (.aload_n 0, 1) := by decide +kernel
theorem dX8_minds_99 : decode cX8_minds 99 = .ok (.getfield 7, 3) := by decide +kernel
theorem dX8_minds_102 : decode cX8_minds 102 = .ok (.bipush 81, 2) := by decide +kernel
theorem dX8_minds_104 : decode cX8_minds 104 = .ok (.dup2, 1) := by decide +kernel
theorem dX8_minds_105 : decode cX8_minds 105 = .ok (.iaload, 1) := by decide +kernel
theorem dX8_minds_106 : decode cX8_minds 106 = .ok (.iconst 1, 1) := by decide +kernel
theorem dX8_minds_107 : decode cX8_minds 107 = .ok (.iadd, 1) := by decide +kernel
theorem dX8_minds_108 : decode cX8_minds 108 = .ok (.iastore, 1) := by decide +kernel
theorem dX8_minds_109 : decode cX8_minds 109 = .ok (.return_, 1) := by decide +kernel
theorem dX8_sends_0 : decode cX8_sends 0 = .ok (.aload_n 0, 1) := by decide +kernel
theorem dX8_sends_1 : decode cX8_sends 1 = .ok (.iload_n 1, 1) := by decide +kernel
theorem dX8_sends_2 : decode cX8_sends 2 = .ok (.invokevirtual 197, 3) := by decide +kernel
theorem dX8_sends_5 : decode cX8_sends 5 = .ok (.ifCond .ne 10, 3) := by decide +kernel
theorem dX8_sends_8 : decode cX8_sends 8 = .ok (.aload_n 0, 1) := by decide +kernel
theorem dX8_sends_9 : decode cX8_sends 9 = .ok (.bipush (-2), 2) := by decide +kernel
theorem dX8_sends_11 : decode cX8_sends 11 = .ok (.invokevirtual 78, 3) := by decide +kernel
theorem dX8_sends_14 : decode cX8_sends 14 = .ok (.ireturn, 1) := by decide +kernel
theorem dX8_sends_15 : decode cX8_sends 15 = .ok (.aload_n 0, 1) := by decide +kernel
theorem dX8_sends_16 : decode cX8_sends 16 = .ok (.iconst 0, 1) := by decide +kernel
theorem dX8_sends_17 : decode cX8_sends 17 = .ok (.iload_n 1, 1) := by decide +kernel
theorem dX8_sends_18 : decode cX8_sends 18 = .ok (.invokevirtual 137, 3) := by decide +kernel
theorem dX8_sends_21 : decode cX8_sends 21 = .ok (.ifCond .ne 8, 3) := by decide +kernel
theorem dX8_sends_24 : decode cX8_sends 24 = .ok (.aload_n 0, 1) := by decide +kernel
theorem dX8_sends_25 : decode cX8_sends 25 = .ok (.invokevirtual 200, 3) := by decide +kernel
theorem dX8_sends_28 : decode cX8_sends 28 = .ok (.ireturn, 1) := by decide +kernel
theorem dX8_sends_29 : decode cX8_sends 29 = .ok (.aload_n 0, 1) := by decide +kernel
theorem dX8_sends_30 : decode cX8_sends 30 = .ok (.invokevirtual 203, 3) := by decide +kernel
theorem dX8_sends_33 : decode cX8_sends 33 = .ok (.aload_n 0, 1) := by decide +kernel
theorem dX8_sends_34 : decode cX8_sends 34 = .ok (.iconst 0, 1) := by decide +kernel
theorem dX8_sends_35 : decode cX8_sends 35 = .ok (.iload_n 1, 1) := by decide +kernel
theorem dX8_sends_36 : decode cX8_sends 36 = .ok (.invokevirtual 140, 3) := by decide +kernel
theorem dX8_sends_39 : decode cX8_sends 39 = .ok (.aload_n 0, 1) := by decide +kernel
theorem dX8_sends_40 : decode cX8_sends 40 = .ok (.iconst 0, 1) := by decide +kernel
theorem dX8_sends_41 : decode cX8_sends 41 = .ok (.iload_n 1, 1) := by decide +kernel
theorem dX8_sends_42 : decode cX8_sends 42 = .ok (.invokevirtual 194, 3) := by decide +kernel
theorem dX8_sends_45 : decode cX8_sends 45 = .ok (.ireturn, 1) := by decide +kernel
theorem dX8_waits_0 : decode cX8_waits 0 = .ok (.iload_n 1, 1) := by decide +kernel
theorem dX8_waits_1 : decode cX8_waits 1 = .ok (.i2l, 1) := by decide +kernel
theorem dX8_waits_2 : decode cX8_waits 2 = .ok (.lconst 1, 1) := by decide +kernel
theorem dX8_waits_3 : decode cX8_waits 3 = .ok (.ldc2_w 206, 3) := by decide +kernel
theorem dX8_waits_6 : decode cX8_waits 6 = .ok (.invokestatic 56, 3) := by decide +kernel
theorem dX8_waits_9 : decode cX8_waits 9 = .ok (.ifCond .ne 10, 3) := by decide +kernel
theorem dX8_waits_12 : decode cX8_waits 12 = .ok (.aload_n 0, 1) := by decide +kernel
theorem dX8_waits_13 : decode cX8_waits 13 = .ok (.bipush (-2), 2) := by decide +kernel
theorem dX8_waits_15 : decode cX8_waits 15 = .ok (.invokevirtual 78, 3) := by decide +kernel
theorem dX8_waits_18 : decode cX8_waits 18 = .ok (.ireturn, 1) := by decide +kernel
theorem dX8_waits_19 : decode cX8_waits 19 = .ok (.aload_n 0, 1) := by decide +kernel
theorem dX8_waits_20 : decode cX8_waits 20 = .ok (.invokevirtual 203, 3) := by decide +kernel
theorem dX8_waits_23 : decode cX8_waits 23 = .ok (.aload_n 0, 1) := by decide +kernel
theorem dX8_waits_24 : decode cX8_waits 24 = .ok (.getfield 7, 3) := by decide +kernel
theorem dX8_waits_27 : decode cX8_waits 27 = .ok (.bipush 17, 2) := by decide +kernel
theorem dX8_waits_29 : decode cX8_waits 29 = .ok (.aload_n 0, 1) := by decide +kernel
theorem dX8_waits_30 : decode cX8_waits 30 = .ok (.getfield 7, 3) := by decide +kernel
theorem dX8_waits_33 : decode cX8_waits 33 = .ok (.bipush 17, 2) := by decide +kernel
theorem dX8_waits_35 : decode cX8_waits 35 = .ok (.iaload, 1) := by decide +kernel
theorem dX8_waits_36 : decode cX8_waits 36 = .ok (.iload_n 1, 1) := by decide +kernel
theorem dX8_waits_37 : decode cX8_waits 37 = .ok (.iadd, 1) := by decide +kernel
theorem dX8_waits_38 : decode cX8_waits 38 = .ok (.sipush 9999, 3) := by decide +kernel
theorem dX8_waits_41 : decode cX8_waits 41 = .ok (.if_icmp .le 9, 3) := by decide +kernel
theorem dX8_waits_44 : decode cX8_waits 44 = .ok (.sipush 9999, 3) := by decide +kernel
theorem dX8_waits_47 : decode cX8_waits 47 = .ok (.goto 12, 3) := by decide +kernel
theorem dX8_waits_50 : decode cX8_waits 50 = .ok (.aload_n 0, 1) := by decide +kernel
theorem dX8_waits_51 : decode cX8_waits 51 = .ok (.getfield 7, 3) := by decide +kernel
theorem dX8_waits_54 : decode cX8_waits 54 = .ok (.bipush 17, 2) := by decide +kernel
theorem dX8_waits_56 : decode cX8_waits 56 = .ok (.iaload, 1) := by decide +kernel
theorem dX8_waits_57 : decode cX8_waits 57 = .ok (.iload_n 1, 1) := by decide +kernel
theorem dX8_waits_58 : decode cX8_waits 58 = .ok (.iadd, 1) := by decide +kernel
theorem dX8_waits_59 : decode cX8_waits 59 = .ok (.iastore, 1) := by decide +kernel
theorem dX8_waits_60 : decode cX8_waits 60 = .ok (.aload_n 0, 1) := by decide +kernel
theorem dX8_waits_61 : decode cX8_waits 61 = .ok (.getfield 7, 3) := by decide +kernel
theorem dX8_waits_64 : decode cX8_waits 64 = .ok (.bipush 17, 2) := by decide +kernel
theorem dX8_waits_66 : decode cX8_waits 66 = .ok (.iaload, 1) := by decide +kernel
theorem dX8_waits_67 : decode cX8_waits 67 = .ok (.ireturn, 1) := by decide +kernel
theorem dX8_undo_0 : decode cX8_undo 0 = .ok (.aload_n 0, 1) := by decide +kernel
theorem dX8_undo_1 : decode cX8_undo 1 = .ok (.getfield 7, 3) := by decide +kernel
theorem dX8_undo_4 : decode cX8_undo 4 = .ok (.bipush 81, 2) := by decide +kernel
theorem dX8_undo_6 : decode cX8_undo 6 = .ok (.iaload, 1) := by decide +kernel
theorem dX8_undo_7 : decode cX8_undo 7 = .ok (.ifCond .ne 8, 3) := by decide +kernel
theorem dX8_undo_10 : decode cX8_undo 10 = .ok (.aload_n 0, 1) := by decide +kernel
theorem dX8_undo_11 : decode cX8_undo 11 = .ok (.invokevirtual 200, 3) := by decide +kernel
theorem dX8_undo_14 : decode cX8_undo 14 = .ok (.ireturn, 1) := by decide +kernel
theorem dX8_undo_15 : decode cX8_undo 15 = .ok (.aload_n 0, 1) := by decide +kernel
theorem dX8_undo_16 : decode cX8_undo 16 = .ok (.getfield 7, 3) := by decide +kernel
theorem dX8_undo_19 : decode cX8_undo 19 = .ok (.bipush 81, 2) := by decide +kernel
theorem dX8_undo_21 : decode cX8_undo 21 = .ok (.dup2, 1) := by decide +kernel
theorem dX8_undo_22 : decode cX8_undo 22 = .ok (.iaload, 1) := by decide +kernel
theorem dX8_undo_23 : decode cX8_undo 23 = .ok (.iconst 1, 1) := by decide +kernel
theorem dX8_undo_24 : decode cX8_undo 24 = .ok (.isub, 1) := by decide +kernel
theorem dX8_undo_25 : decode cX8_undo 25 = .ok (.iastore, 1) := by decide +kernel
theorem dX8_undo_26 : decode cX8_undo 26 = .ok (.iconst 0, 1) := by decide +kernel
theorem dX8_undo_27 : decode cX8_undo 27 = .ok (.istore_n 1, 1) := by decide +kernel
theorem dX8_undo_28 : decode cX8_undo 28 = .ok (.iload_n 1, 1) := by decide +kernel
theorem dX8_undo_29 : decode cX8_undo 29 = .ok (.iconst 4, 1) := by decide +kernel
theorem dX8_undo_30 : decode cX8_undo 30 = .ok (.if_icmp .ge 37, 3) := by decide +kernel
theorem dX8_undo_33 : decode cX8_undo 33 = .ok (.aload_n 0, 1) := by decide +kernel
theorem dX8_undo_34 : decode cX8_undo 34 = .ok (.getfield 7, 3) := by decide +kernel
theorem dX8_undo_37 : decode cX8_undo 37 = .ok (.bipush 14, 2) := by decide +kernel
theorem dX8_undo_39 : decode cX8_undo 39 = .ok (.iload_n 1, 1) := by decide +kernel
theorem dX8_undo_40 : decode cX8_undo 40 = .ok (.iadd, 1) := by decide +kernel
theorem dX8_undo_41 : decode cX8_undo 41 = .ok (.aload_n 0, 1) := by decide +kernel
theorem dX8_undo_42 : decode cX8_undo 42 = .ok (.getfield 7, 3) := by decide +kernel
theorem dX8_undo_45 : decode cX8_undo 45 = .ok (.bipush 82, 2) := by decide +kernel
theorem dX8_undo_47 : decode cX8_undo 47 = .ok (.iconst 4, 1) := by decide +kernel
theorem dX8_undo_48 : decode cX8_undo 48 = .ok (.aload_n 0, 1) := by decide +kernel
theorem dX8_undo_49 : decode cX8_undo 49 = .ok (.getfield 7, 3) := by decide +kernel
theorem dX8_undo_52 : decode cX8_undo 52 = .ok (.bipush 81, 2) := by decide +kernel
theorem dX8_undo_54 : decode cX8_undo 54 = .ok (.iaload, 1) := by decide +kernel
theorem dX8_undo_55 : decode cX8_undo 55 = .ok (.imul, 1) := by decide +kernel
theorem dX8_undo_56 : decode cX8_undo 56 = .ok (.iadd, 1) := by decide +kernel
theorem dX8_undo_57 : decode cX8_undo 57 = .ok (.iload_n 1, 1) := by decide +kernel
theorem dX8_undo_58 : decode cX8_undo 58 = .ok (.iadd, 1) := by decide +kernel
theorem dX8_undo_59 : decode cX8_undo 59 = .ok (.iaload, 1) := by decide +kernel
theorem dX8_undo_60 : decode cX8_undo 60 = .ok (.iastore, 1) := by decide +kernel
theorem dX8_undo_61 : decode cX8_undo 61 = .ok (.iinc 1 1, 3) := by decide +kernel
theorem dX8_undo_64 : decode cX8_undo 64 = .ok (.goto (-36), 3) := by decide +kernel
theorem dX8_undo_67 : decode cX8_undo 67 = .ok (.aload_n 0, 1) := by decide +kernel
theorem dX8_undo_68 : decode cX8_undo 68 = .ok (.getfield 7, 3) := by decide +kernel
theorem dX8_undo_71 : decode cX8_undo 71 = .ok (.bipush 17, 2) := by decide +kernel
theorem dX8_undo_73 : decode cX8_undo 73 = .ok (.iaload, 1) := by decide +kernel
theorem dX8_undo_74 : decode cX8_undo 74 = .ok (.ireturn, 1) := by decide +kernel
theorem dX8_of_0 : decode cX8_of 0 = .ok (.aload_n 0, 1) := by decide +kernel
theorem dX8_of_1 : decode cX8_of 1 = .ok (.iload_n 1, 1) := by decide +kernel
theorem dX8_of_2 : decode cX8_of 2 = .ok (.invokevirtual 197, 3) := by decide +kernel
theorem dX8_of_5 : decode cX8_of 5 = .ok (.ifCond .eq 13, 3) := by decide +kernel
theorem dX8_of_8 : decode cX8_of 8 = .ok (.iload_n 2, 1) := by decide +kernel
theorem dX8_of_9 : decode cX8_of 9 = .ok (.i2l, 1) := by decide +kernel
theorem dX8_of_10 : decode cX8_of 10 = .ok (.lconst 0, 1) := by decide +kernel
theorem dX8_of_11 : decode cX8_of 11 = .ok (.lconst 1, 1) := by decide +kernel
theorem dX8_of_12 : decode cX8_of 12 = .ok (.invokestatic 56, 3) := by decide +kernel
theorem dX8_of_15 : decode cX8_of 15 = .ok (.ifCond .ne 10, 3) := by decide +kernel
theorem dX8_of_18 : decode cX8_of 18 = .ok (.aload_n 0, 1) := by decide +kernel
theorem dX8_of_19 : decode cX8_of 19 = .ok (.bipush (-2), 2) := by decide +kernel
theorem dX8_of_21 : decode cX8_of 21 = .ok (.invokevirtual 78, 3) := by decide +kernel
theorem dX8_of_24 : decode cX8_of 24 = .ok (.ireturn, 1) := by decide +kernel
theorem dX8_of_25 : decode cX8_of 25 = .ok (.iload_n 2, 1) := by decide +kernel
theorem dX8_of_26 : decode cX8_of 26 = .ok (.ifCond .ne 14, 3) := by decide +kernel
theorem dX8_of_29 : decode cX8_of 29 = .ok (.aload_n 0, 1) := by decide +kernel
theorem dX8_of_30 : decode cX8_of 30 = .ok (.getfield 7, 3) := by decide +kernel
theorem dX8_of_33 : decode cX8_of 33 = .ok (.iconst 1, 1) := by decide +kernel
theorem dX8_of_34 : decode cX8_of 34 = .ok (.iload_n 1, 1) := by decide +kernel
theorem dX8_of_35 : decode cX8_of 35 = .ok (.iadd, 1) := by decide +kernel
theorem dX8_of_36 : decode cX8_of 36 = .ok (.iaload, 1) := by decide +kernel
theorem dX8_of_37 : decode cX8_of 37 = .ok (.goto 12, 3) := by decide +kernel
theorem dX8_of_40 : decode cX8_of 40 = .ok (.aload_n 0, 1) := by decide +kernel
theorem dX8_of_41 : decode cX8_of 41 = .ok (.getfield 7, 3) := by decide +kernel
theorem dX8_of_44 : decode cX8_of 44 = .ok (.bipush 6, 2) := by decide +kernel
theorem dX8_of_46 : decode cX8_of 46 = .ok (.iload_n 1, 1) := by decide +kernel
theorem dX8_of_47 : decode cX8_of 47 = .ok (.iadd, 1) := by decide +kernel
theorem dX8_of_48 : decode cX8_of 48 = .ok (.iaload, 1) := by decide +kernel
theorem dX8_of_49 : decode cX8_of 49 = .ok (.ireturn, 1) := by decide +kernel
theorem dX8_now_0 : decode cX8_now 0 = .ok (.iload_n 1, 1) := by decide +kernel
theorem dX8_now_1 : decode cX8_now 1 = .ok (.i2l, 1) := by decide +kernel
theorem dX8_now_2 : decode cX8_now 2 = .ok (.lconst 0, 1) := by decide +kernel
theorem dX8_now_3 : decode cX8_now 3 = .ok (.ldc2_w 208, 3) := by decide +kernel
theorem dX8_now_6 : decode cX8_now 6 = .ok (.invokestatic 56, 3) := by decide +kernel
theorem dX8_now_9 : decode cX8_now 9 = .ok (.ifCond .eq 15, 3) := by decide +kernel
theorem dX8_now_12 : decode cX8_now 12 = .ok (.aload_n 0, 1) := by decide +kernel
theorem dX8_now_13 : decode cX8_now 13 = .ok (.getfield 7, 3) := by decide +kernel
theorem dX8_now_16 : decode cX8_now 16 = .ok (.bipush 11, 2) := by decide +kernel
theorem dX8_now_18 : decode cX8_now 18 = .ok (.iload_n 1, 1) := by decide +kernel
theorem dX8_now_19 : decode cX8_now 19 = .ok (.iadd, 1) := by decide +kernel
theorem dX8_now_20 : decode cX8_now 20 = .ok (.iaload, 1) := by decide +kernel
theorem dX8_now_21 : decode cX8_now 21 = .ok (.goto 9, 3) := by decide +kernel
theorem dX8_now_24 : decode cX8_now 24 = .ok (.aload_n 0, 1) := by decide +kernel
theorem dX8_now_25 : decode cX8_now 25 = .ok (.bipush (-2), 2) := by decide +kernel
theorem dX8_now_27 : decode cX8_now 27 = .ok (.invokevirtual 78, 3) := by decide +kernel
theorem dX8_now_30 : decode cX8_now 30 = .ok (.ireturn, 1) := by decide +kernel
theorem dX8_asks_0 : decode cX8_asks 0 = .ok (.aload_n 0, 1) := by decide +kernel
theorem dX8_asks_1 : decode cX8_asks 1 = .ok (.iload_n 1, 1) := by decide +kernel
theorem dX8_asks_2 : decode cX8_asks 2 = .ok (.invokevirtual 197, 3) := by decide +kernel
theorem dX8_asks_5 : decode cX8_asks 5 = .ok (.ifCond .eq 27, 3) := by decide +kernel
theorem dX8_asks_8 : decode cX8_asks 8 = .ok (.iload_n 2, 1) := by decide +kernel
theorem dX8_asks_9 : decode cX8_asks 9 = .ok (.i2l, 1) := by decide +kernel
theorem dX8_asks_10 : decode cX8_asks 10 = .ok (.lconst 0, 1) := by decide +kernel
theorem dX8_asks_11 : decode cX8_asks 11 = .ok (.ldc2_w 210, 3) := by decide +kernel
theorem dX8_asks_14 : decode cX8_asks 14 = .ok (.invokestatic 56, 3) := by decide +kernel
theorem dX8_asks_17 : decode cX8_asks 17 = .ok (.ifCond .eq 15, 3) := by decide +kernel
theorem dX8_asks_20 : decode cX8_asks 20 = .ok (.iload_n 3, 1) := by decide +kernel
theorem dX8_asks_21 : decode cX8_asks 21 = .ok (.i2l, 1) := by decide +kernel
theorem dX8_asks_22 : decode cX8_asks 22 = .ok (.lconst 0, 1) := by decide +kernel
theorem dX8_asks_23 : decode cX8_asks 23 = .ok (.ldc2_w 131, 3) := by decide +kernel
theorem dX8_asks_26 : decode cX8_asks 26 = .ok (.invokestatic 56, 3) := by decide +kernel
theorem dX8_asks_29 : decode cX8_asks 29 = .ok (.ifCond .ne 10, 3) := by decide +kernel
theorem dX8_asks_32 : decode cX8_asks 32 = .ok (.aload_n 0, 1) := by decide +kernel
theorem dX8_asks_33 : decode cX8_asks 33 = .ok (.bipush (-2), 2) := by decide +kernel
theorem dX8_asks_35 : decode cX8_asks 35 = .ok (.invokevirtual 78, 3) := by decide +kernel
theorem dX8_asks_38 : decode cX8_asks 38 = .ok (.ireturn, 1) := by decide +kernel
theorem dX8_asks_39 : decode cX8_asks 39 = .ok (.iload_n 3, 1) := by decide +kernel
theorem dX8_asks_40 : decode cX8_asks 40 = .ok (.ifCond .ne 21, 3) := by decide +kernel
theorem dX8_asks_43 : decode cX8_asks 43 = .ok (.aload_n 0, 1) := by decide +kernel
theorem dX8_asks_44 : decode cX8_asks 44 = .ok (.iconst 0, 1) := by decide +kernel
theorem dX8_asks_45 : decode cX8_asks 45 = .ok (.iload_n 1, 1) := by decide +kernel
theorem dX8_asks_46 : decode cX8_asks 46 = .ok (.aload_n 0, 1) := by decide +kernel
theorem dX8_asks_47 : decode cX8_asks 47 = .ok (.getfield 7, 3) := by decide +kernel
theorem dX8_asks_50 : decode cX8_asks 50 = .ok (.bipush 17, 2) := by decide +kernel
theorem dX8_asks_52 : decode cX8_asks 52 = .ok (.iaload, 1) := by decide +kernel
theorem dX8_asks_53 : decode cX8_asks 53 = .ok (.iload_n 2, 1) := by decide +kernel
theorem dX8_asks_54 : decode cX8_asks 54 = .ok (.iadd, 1) := by decide +kernel
theorem dX8_asks_55 : decode cX8_asks 55 = .ok (.invokevirtual 182, 3) := by decide +kernel
theorem dX8_asks_58 : decode cX8_asks 58 = .ok (.goto 32, 3) := by decide +kernel
theorem dX8_asks_61 : decode cX8_asks 61 = .ok (.iload_n 3, 1) := by decide +kernel
theorem dX8_asks_62 : decode cX8_asks 62 = .ok (.iconst 1, 1) := by decide +kernel
theorem dX8_asks_63 : decode cX8_asks 63 = .ok (.if_icmp .ne 21, 3) := by decide +kernel
theorem dX8_asks_66 : decode cX8_asks 66 = .ok (.aload_n 0, 1) := by decide +kernel
theorem dX8_asks_67 : decode cX8_asks 67 = .ok (.iconst 0, 1) := by decide +kernel
theorem dX8_asks_68 : decode cX8_asks 68 = .ok (.iload_n 1, 1) := by decide +kernel
theorem dX8_asks_69 : decode cX8_asks 69 = .ok (.aload_n 0, 1) := by decide +kernel
theorem dX8_asks_70 : decode cX8_asks 70 = .ok (.getfield 7, 3) := by decide +kernel
theorem dX8_asks_73 : decode cX8_asks 73 = .ok (.bipush 17, 2) := by decide +kernel
theorem dX8_asks_75 : decode cX8_asks 75 = .ok (.iaload, 1) := by decide +kernel
theorem dX8_asks_76 : decode cX8_asks 76 = .ok (.iload_n 2, 1) := by decide +kernel
theorem dX8_asks_77 : decode cX8_asks 77 = .ok (.iadd, 1) := by decide +kernel
theorem dX8_asks_78 : decode cX8_asks 78 = .ok (.invokevirtual 191, 3) := by decide +kernel
theorem dX8_asks_81 : decode cX8_asks 81 = .ok (.goto 9, 3) := by decide +kernel
theorem dX8_asks_84 : decode cX8_asks 84 = .ok (.aload_n 0, 1) := by decide +kernel
theorem dX8_asks_85 : decode cX8_asks 85 = .ok (.iconst 0, 1) := by decide +kernel
theorem dX8_asks_86 : decode cX8_asks 86 = .ok (.iload_n 1, 1) := by decide +kernel
theorem dX8_asks_87 : decode cX8_asks 87 = .ok (.invokevirtual 194, 3) := by decide +kernel
theorem dX8_asks_90 : decode cX8_asks 90 = .ok (.ireturn, 1) := by decide +kernel
theorem dX8_cheapest_0 : decode cX8_cheapest 0 = .ok (.aload_n 0, 1) := by decide +kernel
theorem dX8_cheapest_1 : decode cX8_cheapest 1 = .ok (.iload_n 1, 1) := by decide +kernel
theorem dX8_cheapest_2 : decode cX8_cheapest 2 = .ok (.invokevirtual 197, 3) := by decide +kernel
theorem dX8_cheapest_5 : decode cX8_cheapest 5 = .ok (.ifCond .eq 13, 3) := by decide +kernel
theorem dX8_cheapest_8 : decode cX8_cheapest 8 = .ok (.iload_n 2, 1) := by decide +kernel
theorem dX8_cheapest_9 : decode cX8_cheapest 9 = .ok (.i2l, 1) := by decide +kernel
theorem dX8_cheapest_10 : decode cX8_cheapest 10 = .ok (.lconst 0, 1) := by decide +kernel
theorem dX8_cheapest_11 : decode cX8_cheapest 11 = .ok (.lconst 1, 1) := by decide +kernel
theorem dX8_cheapest_12 : decode cX8_cheapest 12 = .ok (.invokestatic 56, 3) := by decide +kernel
theorem dX8_cheapest_15 : decode cX8_cheapest 15 = .ok (.ifCond .ne 10, 3) := by decide +kernel
theorem dX8_cheapest_18 : decode cX8_cheapest 18 = .ok (.aload_n 0, 1) := by decide +kernel
theorem dX8_cheapest_19 : decode cX8_cheapest 19 = .ok (.bipush (-2), 2) := by decide +kernel
theorem dX8_cheapest_21 : decode cX8_cheapest 21 = .ok (.invokevirtual 78, 3) := by decide +kernel
theorem dX8_cheapest_24 : decode cX8_cheapest 24 = .ok (.ireturn, 1) := by decide +kernel
theorem dX8_cheapest_25 : decode cX8_cheapest 25 = .ok (.iconst 0, 1) := by decide +kernel
theorem dX8_cheapest_26 : decode cX8_cheapest 26 = .ok (.istore_n 3, 1) := by decide +kernel
theorem dX8_cheapest_27 : decode cX8_cheapest 27 = .ok (.ldc 212, 2) := by decide +kernel
theorem dX8_cheapest_29 : decode cX8_cheapest 29 = .ok (.istore 4, 2) := by decide +kernel
theorem dX8_cheapest_31 : decode cX8_cheapest 31 = .ok (.iconst 0, 1) := by decide +kernel
theorem dX8_cheapest_32 : decode cX8_cheapest 32 = .ok (.istore 5, 2) := by decide +kernel
theorem dX8_cheapest_34 : decode cX8_cheapest 34 = .ok (.iload 5, 2) := by decide +kernel
theorem dX8_cheapest_36 : decode cX8_cheapest 36 = .ok (.bipush 48, 2) := by decide +kernel
theorem dX8_cheapest_38 : decode cX8_cheapest 38 = .ok (.if_icmp .ge 57, 3) := by decide +kernel
theorem dX8_cheapest_41 : decode cX8_cheapest 41 = .ok (.aload_n 0, 1) := by decide +kernel
theorem dX8_cheapest_42 : decode cX8_cheapest 42 = .ok (.iconst 0, 1) := by decide +kernel
theorem dX8_cheapest_43 : decode cX8_cheapest 43 = .ok (.iload_n 1, 1) := by decide +kernel
theorem dX8_cheapest_44 : decode cX8_cheapest 44 = .ok (.aload_n 0, 1) := by decide +kernel
theorem dX8_cheapest_45 : decode cX8_cheapest 45 = .ok (.getfield 7, 3) := by decide +kernel
theorem dX8_cheapest_48 : decode cX8_cheapest 48 = .ok (.bipush 17, 2) := by decide +kernel
theorem dX8_cheapest_50 : decode cX8_cheapest 50 = .ok (.iaload, 1) := by decide +kernel
theorem dX8_cheapest_51 : decode cX8_cheapest 51 = .ok (.iload 5, 2) := by decide +kernel
theorem dX8_cheapest_53 : decode cX8_cheapest 53 = .ok (.iadd, 1) := by decide +kernel
theorem dX8_cheapest_54 : decode cX8_cheapest 54 = .ok (.invokevirtual 191, 3) := by decide +kernel
theorem dX8_cheapest_57 : decode cX8_cheapest 57 = .ok (.istore 6, 2) := by decide +kernel
theorem dX8_cheapest_59 : decode cX8_cheapest 59 = .ok (.iload 6, 2) := by decide +kernel
theorem dX8_cheapest_61 : decode cX8_cheapest 61 = .ok (.iload 4, 2) := by decide +kernel
theorem dX8_cheapest_63 : decode cX8_cheapest 63 = .ok (.if_icmp .ge 8, 3) := by decide +kernel
theorem dX8_cheapest_66 : decode cX8_cheapest 66 = .ok (.iload 5, 2) := by decide +kernel
theorem dX8_cheapest_68 : decode cX8_cheapest 68 = .ok (.goto 4, 3) := by decide +kernel
theorem dX8_cheapest_71 : decode cX8_cheapest 71 = .ok (.iload_n 3, 1) := by decide +kernel
theorem dX8_cheapest_72 : decode cX8_cheapest 72 = .ok (.istore_n 3, 1) := by decide +kernel
theorem dX8_cheapest_73 : decode cX8_cheapest 73 = .ok (.iload 6, 2) := by decide +kernel
theorem dX8_cheapest_75 : decode cX8_cheapest 75 = .ok (.iload 4, 2) := by decide +kernel
theorem dX8_cheapest_77 : decode cX8_cheapest 77 = .ok (.if_icmp .ge 8, 3) := by decide +kernel
theorem dX8_cheapest_80 : decode cX8_cheapest 80 = .ok (.iload 6, 2) := by decide +kernel
theorem dX8_cheapest_82 : decode cX8_cheapest 82 = .ok (.goto 5, 3) := by decide +kernel
theorem dX8_cheapest_85 : decode cX8_cheapest 85 = .ok (.iload 4, 2) := by decide +kernel
theorem dX8_cheapest_87 : decode cX8_cheapest 87 = .ok (.istore 4, 2) := by decide +kernel
theorem dX8_cheapest_89 : decode cX8_cheapest 89 = .ok (.iinc 5 1, 3) := by decide +kernel
theorem dX8_cheapest_92 : decode cX8_cheapest 92 = .ok (.goto (-58), 3) := by decide +kernel
theorem dX8_cheapest_95 : decode cX8_cheapest 95 = .ok (.iload_n 2, 1) := by decide +kernel
theorem dX8_cheapest_96 : decode cX8_cheapest 96 = .ok (.ifCond .ne 7, 3) := by decide +kernel
theorem dX8_cheapest_99 : decode cX8_cheapest 99 = .ok (.iload_n 3, 1) := by decide +kernel
theorem dX8_cheapest_100 : decode cX8_cheapest 100 = .ok (.goto 5, 3) := by decide +kernel
theorem dX8_cheapest_103 : decode cX8_cheapest 103 = .ok (.iload 4, 2) := by decide +kernel
theorem dX8_cheapest_105 : decode cX8_cheapest 105 = .ok (.ireturn, 1) := by decide +kernel
theorem dX8_costOf_0 : decode cX8_costOf 0 = .ok (.iload_n 1, 1) := by decide +kernel
theorem dX8_costOf_1 : decode cX8_costOf 1 = .ok (.iload_n 2, 1) := by decide +kernel
theorem dX8_costOf_2 : decode cX8_costOf 2 = .ok (.aload_n 0, 1) := by decide +kernel
theorem dX8_costOf_3 : decode cX8_costOf 3 = .ok (.getfield 7, 3) := by decide +kernel
theorem dX8_costOf_6 : decode cX8_costOf 6 = .ok (.bipush 17, 2) := by decide +kernel
theorem dX8_costOf_8 : decode cX8_costOf 8 = .ok (.iaload, 1) := by decide +kernel
theorem dX8_costOf_9 : decode cX8_costOf 9 = .ok (.bipush 24, 2) := by decide +kernel
theorem dX8_costOf_11 : decode cX8_costOf 11 = .ok (.irem, 1) := by decide +kernel
theorem dX8_costOf_12 : decode cX8_costOf 12 = .ok (.invokestatic 178, 3) := by decide +kernel
theorem dX8_costOf_15 : decode cX8_costOf 15 = .ok (.istore_n 3, 1) := by decide +kernel
theorem dX8_costOf_16 : decode cX8_costOf 16 = .ok (.aload_n 0, 1) := by decide +kernel
theorem dX8_costOf_17 : decode cX8_costOf 17 = .ok (.getfield 7, 3) := by decide +kernel
theorem dX8_costOf_20 : decode cX8_costOf 20 = .ok (.bipush 12, 2) := by decide +kernel
theorem dX8_costOf_22 : decode cX8_costOf 22 = .ok (.iaload, 1) := by decide +kernel
theorem dX8_costOf_23 : decode cX8_costOf 23 = .ok (.iload_n 3, 1) := by decide +kernel
theorem dX8_costOf_24 : decode cX8_costOf 24 = .ok (.aload_n 0, 1) := by decide +kernel
theorem dX8_costOf_25 : decode cX8_costOf 25 = .ok (.getfield 7, 3) := by decide +kernel
theorem dX8_costOf_28 : decode cX8_costOf 28 = .ok (.bipush 17, 2) := by decide +kernel
theorem dX8_costOf_30 : decode cX8_costOf 30 = .ok (.iaload, 1) := by decide +kernel
theorem dX8_costOf_31 : decode cX8_costOf 31 = .ok (.bipush 24, 2) := by decide +kernel
theorem dX8_costOf_33 : decode cX8_costOf 33 = .ok (.idiv, 1) := by decide +kernel
theorem dX8_costOf_34 : decode cX8_costOf 34 = .ok (.invokestatic 185, 3) := by decide +kernel
theorem dX8_costOf_37 : decode cX8_costOf 37 = .ok (.aload_n 0, 1) := by decide +kernel
theorem dX8_costOf_38 : decode cX8_costOf 38 = .ok (.getfield 7, 3) := by decide +kernel
theorem dX8_costOf_41 : decode cX8_costOf 41 = .ok (.bipush 13, 2) := by decide +kernel
theorem dX8_costOf_43 : decode cX8_costOf 43 = .ok (.iaload, 1) := by decide +kernel
theorem dX8_costOf_44 : decode cX8_costOf 44 = .ok (.iload_n 3, 1) := by decide +kernel
theorem dX8_costOf_45 : decode cX8_costOf 45 = .ok (.aload_n 0, 1) := by decide +kernel
theorem dX8_costOf_46 : decode cX8_costOf 46 = .ok (.getfield 7, 3) := by decide +kernel
theorem dX8_costOf_49 : decode cX8_costOf 49 = .ok (.bipush 17, 2) := by decide +kernel
theorem dX8_costOf_51 : decode cX8_costOf 51 = .ok (.iaload, 1) := by decide +kernel
theorem dX8_costOf_52 : decode cX8_costOf 52 = .ok (.bipush 24, 2) := by decide +kernel
theorem dX8_costOf_54 : decode cX8_costOf 54 = .ok (.idiv, 1) := by decide +kernel
theorem dX8_costOf_55 : decode cX8_costOf 55 = .ok (.invokestatic 185, 3) := by decide +kernel
theorem dX8_costOf_58 : decode cX8_costOf 58 = .ok (.iadd, 1) := by decide +kernel
theorem dX8_costOf_59 : decode cX8_costOf 59 = .ok (.ireturn, 1) := by decide +kernel
theorem dX8_cuts_0 : decode cX8_cuts 0 = .ok (.iload_n 1, 1) := by decide +kernel
theorem dX8_cuts_1 : decode cX8_cuts 1 = .ok (.i2l, 1) := by decide +kernel
theorem dX8_cuts_2 : decode cX8_cuts 2 = .ok (.lconst 0, 1) := by decide +kernel
theorem dX8_cuts_3 : decode cX8_cuts 3 = .ok (.ldc2_w 85, 3) := by decide +kernel
theorem dX8_cuts_6 : decode cX8_cuts 6 = .ok (.invokestatic 56, 3) := by decide +kernel
theorem dX8_cuts_9 : decode cX8_cuts 9 = .ok (.ifCond .eq 27, 3) := by decide +kernel
theorem dX8_cuts_12 : decode cX8_cuts 12 = .ok (.iload_n 2, 1) := by decide +kernel
theorem dX8_cuts_13 : decode cX8_cuts 13 = .ok (.i2l, 1) := by decide +kernel
theorem dX8_cuts_14 : decode cX8_cuts 14 = .ok (.ldc2_w 131, 3) := by decide +kernel
theorem dX8_cuts_17 : decode cX8_cuts 17 = .ok (.ldc2_w 74, 3) := by decide +kernel
theorem dX8_cuts_20 : decode cX8_cuts 20 = .ok (.invokestatic 56, 3) := by decide +kernel
theorem dX8_cuts_23 : decode cX8_cuts 23 = .ok (.ifCond .eq 13, 3) := by decide +kernel
theorem dX8_cuts_26 : decode cX8_cuts 26 = .ok (.iload_n 3, 1) := by decide +kernel
theorem dX8_cuts_27 : decode cX8_cuts 27 = .ok (.i2l, 1) := by decide +kernel
theorem dX8_cuts_28 : decode cX8_cuts 28 = .ok (.lconst 0, 1) := by decide +kernel
theorem dX8_cuts_29 : decode cX8_cuts 29 = .ok (.lconst 1, 1) := by decide +kernel
theorem dX8_cuts_30 : decode cX8_cuts 30 = .ok (.invokestatic 56, 3) := by decide +kernel
theorem dX8_cuts_33 : decode cX8_cuts 33 = .ok (.ifCond .ne 10, 3) := by decide +kernel
theorem dX8_cuts_36 : decode cX8_cuts 36 = .ok (.aload_n 0, 1) := by decide +kernel
theorem dX8_cuts_37 : decode cX8_cuts 37 = .ok (.bipush (-2), 2) := by decide +kernel
theorem dX8_cuts_39 : decode cX8_cuts 39 = .ok (.invokevirtual 78, 3) := by decide +kernel
theorem dX8_cuts_42 : decode cX8_cuts 42 = .ok (.ireturn, 1) := by decide +kernel
theorem dX8_cuts_43 : decode cX8_cuts 43 = .ok (.iconst 0, 1) := by decide +kernel
theorem dX8_cuts_44 : decode cX8_cuts 44 = .ok (.istore 4, 2) := by decide +kernel
theorem dX8_cuts_46 : decode cX8_cuts 46 = .ok (.ldc 212, 2) := by decide +kernel
theorem dX8_cuts_48 : decode cX8_cuts 48 = .ok (.istore 5, 2) := by decide +kernel
theorem dX8_cuts_50 : decode cX8_cuts 50 = .ok (.iconst 1, 1) := by decide +kernel
theorem dX8_cuts_51 : decode cX8_cuts 51 = .ok (.istore 6, 2) := by decide +kernel
theorem dX8_cuts_53 : decode cX8_cuts 53 = .ok (.iload 6, 2) := by decide +kernel
theorem dX8_cuts_55 : decode cX8_cuts 55 = .ok (.iload_n 2, 1) := by decide +kernel
theorem dX8_cuts_56 : decode cX8_cuts 56 = .ok (.if_icmp .ge 60, 3) := by decide +kernel
theorem dX8_cuts_59 : decode cX8_cuts 59 = .ok (.aload_n 0, 1) := by decide +kernel
theorem dX8_cuts_60 : decode cX8_cuts 60 = .ok (.iload_n 1, 1) := by decide +kernel
theorem dX8_cuts_61 : decode cX8_cuts 61 = .ok (.iload 6, 2) := by decide +kernel
theorem dX8_cuts_63 : decode cX8_cuts 63 = .ok (.invokevirtual 213, 3) := by decide +kernel
theorem dX8_cuts_66 : decode cX8_cuts 66 = .ok (.aload_n 0, 1) := by decide +kernel
theorem dX8_cuts_67 : decode cX8_cuts 67 = .ok (.iload_n 1, 1) := by decide +kernel
theorem dX8_cuts_68 : decode cX8_cuts 68 = .ok (.iload_n 2, 1) := by decide +kernel
theorem dX8_cuts_69 : decode cX8_cuts 69 = .ok (.iload 6, 2) := by decide +kernel
theorem dX8_cuts_71 : decode cX8_cuts 71 = .ok (.isub, 1) := by decide +kernel
theorem dX8_cuts_72 : decode cX8_cuts 72 = .ok (.invokevirtual 213, 3) := by decide +kernel
theorem dX8_cuts_75 : decode cX8_cuts 75 = .ok (.iadd, 1) := by decide +kernel
theorem dX8_cuts_76 : decode cX8_cuts 76 = .ok (.istore 7, 2) := by decide +kernel
theorem dX8_cuts_78 : decode cX8_cuts 78 = .ok (.iload 7, 2) := by decide +kernel
theorem dX8_cuts_80 : decode cX8_cuts 80 = .ok (.iload 5, 2) := by decide +kernel
theorem dX8_cuts_82 : decode cX8_cuts 82 = .ok (.if_icmp .ge 8, 3) := by decide +kernel
theorem dX8_cuts_85 : decode cX8_cuts 85 = .ok (.iload 6, 2) := by decide +kernel
theorem dX8_cuts_87 : decode cX8_cuts 87 = .ok (.goto 5, 3) := by decide +kernel
theorem dX8_cuts_90 : decode cX8_cuts 90 = .ok (.iload 4, 2) := by decide +kernel
end
section
theorem dX8_cuts_92 : decode cX8_cuts 92 = .ok (.istore 4, 2) := by decide +kernel
theorem dX8_cuts_94 : decode cX8_cuts 94 = .ok (.iload 7, 2) := by decide +kernel
theorem dX8_cuts_96 : decode cX8_cuts 96 = .ok (.iload 5, 2) := by decide +kernel
theorem dX8_cuts_98 : decode cX8_cuts 98 = .ok (.if_icmp .ge 8, 3) := by decide +kernel
theorem dX8_cuts_101 : decode cX8_cuts 101 = .ok (.iload 7, 2) := by decide +kernel
theorem dX8_cuts_103 : decode cX8_cuts 103 = .ok (.goto 5, 3) := by decide +kernel
theorem dX8_cuts_106 : decode cX8_cuts 106 = .ok (.iload 5, 2) := by decide +kernel
theorem dX8_cuts_108 : decode cX8_cuts 108 = .ok (.istore 5, 2) := by decide +kernel
theorem dX8_cuts_110 : decode cX8_cuts 110 = .ok (.iinc 6 1, 3) := by decide +kernel
theorem dX8_cuts_113 : decode cX8_cuts 113 = .ok (.goto (-60), 3) := by decide +kernel
theorem dX8_cuts_116 : decode cX8_cuts 116 = .ok (.iload_n 3, 1) := by decide +kernel
theorem dX8_cuts_117 : decode cX8_cuts 117 = .ok (.ifCond .ne 8, 3) := by decide +kernel
theorem dX8_cuts_120 : decode cX8_cuts 120 = .ok (.iload 5, 2) := by decide +kernel
theorem dX8_cuts_122 : decode cX8_cuts 122 = .ok (.goto 5, 3) := by decide +kernel
theorem dX8_cuts_125 : decode cX8_cuts 125 = .ok (.iload 4, 2) := by decide +kernel
theorem dX8_cuts_127 : decode cX8_cuts 127 = .ok (.ireturn, 1) := by decide +kernel
theorem dX8_bestHaul_0 : decode cX8_bestHaul 0 = .ok (.iconst 0, 1) := by decide +kernel
theorem dX8_bestHaul_1 : decode cX8_bestHaul 1 = .ok (.istore_n 1, 1) := by decide +kernel
theorem dX8_bestHaul_2 : decode cX8_bestHaul 2 = .ok (.aload_n 0, 1) := by decide +kernel
theorem dX8_bestHaul_3 : decode cX8_bestHaul 3 = .ok (.iconst 0, 1) := by decide +kernel
theorem dX8_bestHaul_4 : decode cX8_bestHaul 4 = .ok (.putfield 216, 3) := by decide +kernel
theorem dX8_bestHaul_7 : decode cX8_bestHaul 7 = .ok (.iconst 0, 1) := by decide +kernel
theorem dX8_bestHaul_8 : decode cX8_bestHaul 8 = .ok (.istore_n 2, 1) := by decide +kernel
theorem dX8_bestHaul_9 : decode cX8_bestHaul 9 = .ok (.aload_n 0, 1) := by decide +kernel
theorem dX8_bestHaul_10 : decode cX8_bestHaul 10 = .ok (.getfield 30, 3) := by decide +kernel
theorem dX8_bestHaul_13 : decode cX8_bestHaul 13 = .ok (.iconst 0, 1) := by decide +kernel
theorem dX8_bestHaul_14 : decode cX8_bestHaul 14 = .ok (.iconst (-1), 1) := by decide +kernel
theorem dX8_bestHaul_15 : decode cX8_bestHaul 15 = .ok (.iastore, 1) := by decide +kernel
theorem dX8_bestHaul_16 : decode cX8_bestHaul 16 = .ok (.aload_n 0, 1) := by decide +kernel
theorem dX8_bestHaul_17 : decode cX8_bestHaul 17 = .ok (.getfield 33, 3) := by decide +kernel
theorem dX8_bestHaul_20 : decode cX8_bestHaul 20 = .ok (.iconst 0, 1) := by decide +kernel
theorem dX8_bestHaul_21 : decode cX8_bestHaul 21 = .ok (.aload_n 0, 1) := by decide +kernel
theorem dX8_bestHaul_22 : decode cX8_bestHaul 22 = .ok (.getfield 7, 3) := by decide +kernel
theorem dX8_bestHaul_25 : decode cX8_bestHaul 25 = .ok (.bipush 14, 2) := by decide +kernel
theorem dX8_bestHaul_27 : decode cX8_bestHaul 27 = .ok (.iaload, 1) := by decide +kernel
theorem dX8_bestHaul_28 : decode cX8_bestHaul 28 = .ok (.iastore, 1) := by decide +kernel
theorem dX8_bestHaul_29 : decode cX8_bestHaul 29 = .ok (.aload_n 0, 1) := by decide +kernel
theorem dX8_bestHaul_30 : decode cX8_bestHaul 30 = .ok (.getfield 36, 3) := by decide +kernel
theorem dX8_bestHaul_33 : decode cX8_bestHaul 33 = .ok (.iconst 0, 1) := by decide +kernel
theorem dX8_bestHaul_34 : decode cX8_bestHaul 34 = .ok (.iconst 0, 1) := by decide +kernel
theorem dX8_bestHaul_35 : decode cX8_bestHaul 35 = .ok (.iastore, 1) := by decide +kernel
theorem dX8_bestHaul_36 : decode cX8_bestHaul 36 = .ok (.iload_n 2, 1) := by decide +kernel
theorem dX8_bestHaul_37 : decode cX8_bestHaul 37 = .ok (.ifCond .lt 235, 3) := by decide +kernel
theorem dX8_bestHaul_40 : decode cX8_bestHaul 40 = .ok (.iconst 0, 1) := by decide +kernel
theorem dX8_bestHaul_41 : decode cX8_bestHaul 41 = .ok (.istore_n 3, 1) := by decide +kernel
theorem dX8_bestHaul_42 : decode cX8_bestHaul 42 = .ok (.iconst 0, 1) := by decide +kernel
theorem dX8_bestHaul_43 : decode cX8_bestHaul 43 = .ok (.istore 4, 2) := by decide +kernel
theorem dX8_bestHaul_45 : decode cX8_bestHaul 45 = .ok (.iload 4, 2) := by decide +kernel
theorem dX8_bestHaul_47 : decode cX8_bestHaul 47 = .ok (.iload_n 2, 1) := by decide +kernel
theorem dX8_bestHaul_48 : decode cX8_bestHaul 48 = .ok (.if_icmp .ge 21, 3) := by decide +kernel
theorem dX8_bestHaul_51 : decode cX8_bestHaul 51 = .ok (.iload_n 3, 1) := by decide +kernel
theorem dX8_bestHaul_52 : decode cX8_bestHaul 52 = .ok (.iconst 1, 1) := by decide +kernel
theorem dX8_bestHaul_53 : decode cX8_bestHaul 53 = .ok (.aload_n 0, 1) := by decide +kernel
theorem dX8_bestHaul_54 : decode cX8_bestHaul 54 = .ok (.getfield 30, 3) := by decide +kernel
theorem dX8_bestHaul_57 : decode cX8_bestHaul 57 = .ok (.iload 4, 2) := by decide +kernel
theorem dX8_bestHaul_59 : decode cX8_bestHaul 59 = .ok (.iaload, 1) := by decide +kernel
theorem dX8_bestHaul_60 : decode cX8_bestHaul 60 = .ok (.ishl, 1) := by decide +kernel
theorem dX8_bestHaul_61 : decode cX8_bestHaul 61 = .ok (.ior, 1) := by decide +kernel
theorem dX8_bestHaul_62 : decode cX8_bestHaul 62 = .ok (.istore_n 3, 1) := by decide +kernel
theorem dX8_bestHaul_63 : decode cX8_bestHaul 63 = .ok (.iinc 4 1, 3) := by decide +kernel
theorem dX8_bestHaul_66 : decode cX8_bestHaul 66 = .ok (.goto (-21), 3) := by decide +kernel
theorem dX8_bestHaul_69 : decode cX8_bestHaul 69 = .ok (.aload_n 0, 1) := by decide +kernel
theorem dX8_bestHaul_70 : decode cX8_bestHaul 70 = .ok (.getfield 30, 3) := by decide +kernel
theorem dX8_bestHaul_73 : decode cX8_bestHaul 73 = .ok (.iload_n 2, 1) := by decide +kernel
theorem dX8_bestHaul_74 : decode cX8_bestHaul 74 = .ok (.iaload, 1) := by decide +kernel
theorem dX8_bestHaul_75 : decode cX8_bestHaul 75 = .ok (.iconst 1, 1) := by decide +kernel
theorem dX8_bestHaul_76 : decode cX8_bestHaul 76 = .ok (.iadd, 1) := by decide +kernel
theorem dX8_bestHaul_77 : decode cX8_bestHaul 77 = .ok (.istore 4, 2) := by decide +kernel
theorem dX8_bestHaul_79 : decode cX8_bestHaul 79 = .ok (.iload 4, 2) := by decide +kernel
theorem dX8_bestHaul_81 : decode cX8_bestHaul 81 = .ok (.aload_n 0, 1) := by decide +kernel
theorem dX8_bestHaul_82 : decode cX8_bestHaul 82 = .ok (.getfield 7, 3) := by decide +kernel
theorem dX8_bestHaul_85 : decode cX8_bestHaul 85 = .ok (.iconst 0, 1) := by decide +kernel
theorem dX8_bestHaul_86 : decode cX8_bestHaul 86 = .ok (.iaload, 1) := by decide +kernel
theorem dX8_bestHaul_87 : decode cX8_bestHaul 87 = .ok (.if_icmp .ge 43, 3) := by decide +kernel
theorem dX8_bestHaul_90 : decode cX8_bestHaul 90 = .ok (.iload_n 3, 1) := by decide +kernel
theorem dX8_bestHaul_91 : decode cX8_bestHaul 91 = .ok (.iload 4, 2) := by decide +kernel
theorem dX8_bestHaul_93 : decode cX8_bestHaul 93 = .ok (.invokestatic 219, 3) := by decide +kernel
theorem dX8_bestHaul_96 : decode cX8_bestHaul 96 = .ok (.ifCond .ne 28, 3) := by decide +kernel
theorem dX8_bestHaul_99 : decode cX8_bestHaul 99 = .ok (.aload_n 0, 1) := by decide +kernel
theorem dX8_bestHaul_100 : decode cX8_bestHaul 100 = .ok (.iconst 0, 1) := by decide +kernel
theorem dX8_bestHaul_101 : decode cX8_bestHaul 101 = .ok (.iload 4, 2) := by decide +kernel
theorem dX8_bestHaul_103 : decode cX8_bestHaul 103 = .ok (.aload_n 0, 1) := by decide +kernel
theorem dX8_bestHaul_104 : decode cX8_bestHaul 104 = .ok (.getfield 7, 3) := by decide +kernel
theorem dX8_bestHaul_107 : decode cX8_bestHaul 107 = .ok (.bipush 17, 2) := by decide +kernel
theorem dX8_bestHaul_109 : decode cX8_bestHaul 109 = .ok (.iaload, 1) := by decide +kernel
theorem dX8_bestHaul_110 : decode cX8_bestHaul 110 = .ok (.iload_n 2, 1) := by decide +kernel
theorem dX8_bestHaul_111 : decode cX8_bestHaul 111 = .ok (.iadd, 1) := by decide +kernel
theorem dX8_bestHaul_112 : decode cX8_bestHaul 112 = .ok (.invokevirtual 191, 3) := by decide +kernel
theorem dX8_bestHaul_115 : decode cX8_bestHaul 115 = .ok (.aload_n 0, 1) := by decide +kernel
theorem dX8_bestHaul_116 : decode cX8_bestHaul 116 = .ok (.getfield 33, 3) := by decide +kernel
theorem dX8_bestHaul_119 : decode cX8_bestHaul 119 = .ok (.iload_n 2, 1) := by decide +kernel
theorem dX8_bestHaul_120 : decode cX8_bestHaul 120 = .ok (.iaload, 1) := by decide +kernel
theorem dX8_bestHaul_121 : decode cX8_bestHaul 121 = .ok (.if_icmp .le 9, 3) := by decide +kernel
theorem dX8_bestHaul_124 : decode cX8_bestHaul 124 = .ok (.iinc 4 1, 3) := by decide +kernel
theorem dX8_bestHaul_127 : decode cX8_bestHaul 127 = .ok (.goto (-48), 3) := by decide +kernel
theorem dX8_bestHaul_130 : decode cX8_bestHaul 130 = .ok (.aload_n 0, 1) := by decide +kernel
theorem dX8_bestHaul_131 : decode cX8_bestHaul 131 = .ok (.getfield 30, 3) := by decide +kernel
theorem dX8_bestHaul_134 : decode cX8_bestHaul 134 = .ok (.iload_n 2, 1) := by decide +kernel
theorem dX8_bestHaul_135 : decode cX8_bestHaul 135 = .ok (.iload 4, 2) := by decide +kernel
theorem dX8_bestHaul_137 : decode cX8_bestHaul 137 = .ok (.iastore, 1) := by decide +kernel
theorem dX8_bestHaul_138 : decode cX8_bestHaul 138 = .ok (.iload 4, 2) := by decide +kernel
theorem dX8_bestHaul_140 : decode cX8_bestHaul 140 = .ok (.aload_n 0, 1) := by decide +kernel
theorem dX8_bestHaul_141 : decode cX8_bestHaul 141 = .ok (.getfield 7, 3) := by decide +kernel
theorem dX8_bestHaul_144 : decode cX8_bestHaul 144 = .ok (.iconst 0, 1) := by decide +kernel
theorem dX8_bestHaul_145 : decode cX8_bestHaul 145 = .ok (.iaload, 1) := by decide +kernel
theorem dX8_bestHaul_146 : decode cX8_bestHaul 146 = .ok (.if_icmp .lt 9, 3) := by decide +kernel
theorem dX8_bestHaul_149 : decode cX8_bestHaul 149 = .ok (.iinc 2 (-1), 3) := by decide +kernel
theorem dX8_bestHaul_152 : decode cX8_bestHaul 152 = .ok (.goto 117, 3) := by decide +kernel
theorem dX8_bestHaul_155 : decode cX8_bestHaul 155 = .ok (.aload_n 0, 1) := by decide +kernel
theorem dX8_bestHaul_156 : decode cX8_bestHaul 156 = .ok (.getfield 33, 3) := by decide +kernel
theorem dX8_bestHaul_159 : decode cX8_bestHaul 159 = .ok (.iload_n 2, 1) := by decide +kernel
theorem dX8_bestHaul_160 : decode cX8_bestHaul 160 = .ok (.iconst 1, 1) := by decide +kernel
theorem dX8_bestHaul_161 : decode cX8_bestHaul 161 = .ok (.iadd, 1) := by decide +kernel
theorem dX8_bestHaul_162 : decode cX8_bestHaul 162 = .ok (.aload_n 0, 1) := by decide +kernel
theorem dX8_bestHaul_163 : decode cX8_bestHaul 163 = .ok (.getfield 33, 3) := by decide +kernel
theorem dX8_bestHaul_166 : decode cX8_bestHaul 166 = .ok (.iload_n 2, 1) := by decide +kernel
theorem dX8_bestHaul_167 : decode cX8_bestHaul 167 = .ok (.iaload, 1) := by decide +kernel
theorem dX8_bestHaul_168 : decode cX8_bestHaul 168 = .ok (.aload_n 0, 1) := by decide +kernel
theorem dX8_bestHaul_169 : decode cX8_bestHaul 169 = .ok (.iconst 0, 1) := by decide +kernel
theorem dX8_bestHaul_170 : decode cX8_bestHaul 170 = .ok (.iload 4, 2) := by decide +kernel
theorem dX8_bestHaul_172 : decode cX8_bestHaul 172 = .ok (.aload_n 0, 1) := by decide +kernel
theorem dX8_bestHaul_173 : decode cX8_bestHaul 173 = .ok (.getfield 7, 3) := by decide +kernel
theorem dX8_bestHaul_176 : decode cX8_bestHaul 176 = .ok (.bipush 17, 2) := by decide +kernel
theorem dX8_bestHaul_178 : decode cX8_bestHaul 178 = .ok (.iaload, 1) := by decide +kernel
theorem dX8_bestHaul_179 : decode cX8_bestHaul 179 = .ok (.iload_n 2, 1) := by decide +kernel
theorem dX8_bestHaul_180 : decode cX8_bestHaul 180 = .ok (.iadd, 1) := by decide +kernel
theorem dX8_bestHaul_181 : decode cX8_bestHaul 181 = .ok (.invokevirtual 191, 3) := by decide +kernel
theorem dX8_bestHaul_184 : decode cX8_bestHaul 184 = .ok (.isub, 1) := by decide +kernel
theorem dX8_bestHaul_185 : decode cX8_bestHaul 185 = .ok (.iastore, 1) := by decide +kernel
theorem dX8_bestHaul_186 : decode cX8_bestHaul 186 = .ok (.aload_n 0, 1) := by decide +kernel
theorem dX8_bestHaul_187 : decode cX8_bestHaul 187 = .ok (.getfield 36, 3) := by decide +kernel
theorem dX8_bestHaul_190 : decode cX8_bestHaul 190 = .ok (.iload_n 2, 1) := by decide +kernel
theorem dX8_bestHaul_191 : decode cX8_bestHaul 191 = .ok (.iconst 1, 1) := by decide +kernel
theorem dX8_bestHaul_192 : decode cX8_bestHaul 192 = .ok (.iadd, 1) := by decide +kernel
theorem dX8_bestHaul_193 : decode cX8_bestHaul 193 = .ok (.aload_n 0, 1) := by decide +kernel
theorem dX8_bestHaul_194 : decode cX8_bestHaul 194 = .ok (.getfield 36, 3) := by decide +kernel
theorem dX8_bestHaul_197 : decode cX8_bestHaul 197 = .ok (.iload_n 2, 1) := by decide +kernel
theorem dX8_bestHaul_198 : decode cX8_bestHaul 198 = .ok (.iaload, 1) := by decide +kernel
theorem dX8_bestHaul_199 : decode cX8_bestHaul 199 = .ok (.aload_n 0, 1) := by decide +kernel
theorem dX8_bestHaul_200 : decode cX8_bestHaul 200 = .ok (.iconst 0, 1) := by decide +kernel
theorem dX8_bestHaul_201 : decode cX8_bestHaul 201 = .ok (.iload 4, 2) := by decide +kernel
theorem dX8_bestHaul_203 : decode cX8_bestHaul 203 = .ok (.invokevirtual 194, 3) := by decide +kernel
theorem dX8_bestHaul_206 : decode cX8_bestHaul 206 = .ok (.iadd, 1) := by decide +kernel
theorem dX8_bestHaul_207 : decode cX8_bestHaul 207 = .ok (.iastore, 1) := by decide +kernel
theorem dX8_bestHaul_208 : decode cX8_bestHaul 208 = .ok (.iinc 2 1, 3) := by decide +kernel
theorem dX8_bestHaul_211 : decode cX8_bestHaul 211 = .ok (.aload_n 0, 1) := by decide +kernel
theorem dX8_bestHaul_212 : decode cX8_bestHaul 212 = .ok (.getfield 36, 3) := by decide +kernel
theorem dX8_bestHaul_215 : decode cX8_bestHaul 215 = .ok (.iload_n 2, 1) := by decide +kernel
theorem dX8_bestHaul_216 : decode cX8_bestHaul 216 = .ok (.iaload, 1) := by decide +kernel
theorem dX8_bestHaul_217 : decode cX8_bestHaul 217 = .ok (.iload_n 1, 1) := by decide +kernel
theorem dX8_bestHaul_218 : decode cX8_bestHaul 218 = .ok (.if_icmp .le 44, 3) := by decide +kernel
theorem dX8_bestHaul_221 : decode cX8_bestHaul 221 = .ok (.aload_n 0, 1) := by decide +kernel
theorem dX8_bestHaul_222 : decode cX8_bestHaul 222 = .ok (.getfield 36, 3) := by decide +kernel
theorem dX8_bestHaul_225 : decode cX8_bestHaul 225 = .ok (.iload_n 2, 1) := by decide +kernel
theorem dX8_bestHaul_226 : decode cX8_bestHaul 226 = .ok (.iaload, 1) := by decide +kernel
theorem dX8_bestHaul_227 : decode cX8_bestHaul 227 = .ok (.istore_n 1, 1) := by decide +kernel
theorem dX8_bestHaul_228 : decode cX8_bestHaul 228 = .ok (.aload_n 0, 1) := by decide +kernel
theorem dX8_bestHaul_229 : decode cX8_bestHaul 229 = .ok (.iload_n 2, 1) := by decide +kernel
theorem dX8_bestHaul_230 : decode cX8_bestHaul 230 = .ok (.putfield 216, 3) := by decide +kernel
theorem dX8_bestHaul_233 : decode cX8_bestHaul 233 = .ok (.iconst 0, 1) := by decide +kernel
theorem dX8_bestHaul_234 : decode cX8_bestHaul 234 = .ok (.istore 5, 2) := by decide +kernel
theorem dX8_bestHaul_236 : decode cX8_bestHaul 236 = .ok (.iload 5, 2) := by decide +kernel
theorem dX8_bestHaul_238 : decode cX8_bestHaul 238 = .ok (.iload_n 2, 1) := by decide +kernel
theorem dX8_bestHaul_239 : decode cX8_bestHaul 239 = .ok (.if_icmp .ge 23, 3) := by decide +kernel
theorem dX8_bestHaul_242 : decode cX8_bestHaul 242 = .ok (.aload_n 0, 1) := by decide +kernel
theorem dX8_bestHaul_243 : decode cX8_bestHaul 243 = .ok (.getfield 39, 3) := by decide +kernel
theorem dX8_bestHaul_246 : decode cX8_bestHaul 246 = .ok (.iload 5, 2) := by decide +kernel
theorem dX8_bestHaul_248 : decode cX8_bestHaul 248 = .ok (.aload_n 0, 1) := by decide +kernel
theorem dX8_bestHaul_249 : decode cX8_bestHaul 249 = .ok (.getfield 30, 3) := by decide +kernel
theorem dX8_bestHaul_252 : decode cX8_bestHaul 252 = .ok (.iload 5, 2) := by decide +kernel
theorem dX8_bestHaul_254 : decode cX8_bestHaul 254 = .ok (.iaload, 1) := by decide +kernel
theorem dX8_bestHaul_255 : decode cX8_bestHaul 255 = .ok (.iastore, 1) := by decide +kernel
theorem dX8_bestHaul_256 : decode cX8_bestHaul 256 = .ok (.iinc 5 1, 3) := by decide +kernel
theorem dX8_bestHaul_259 : decode cX8_bestHaul 259 = .ok (.goto (-23), 3) := by decide +kernel
theorem dX8_bestHaul_262 : decode cX8_bestHaul 262 = .ok (.aload_n 0, 1) := by decide +kernel
theorem dX8_bestHaul_263 : decode cX8_bestHaul 263 = .ok (.getfield 30, 3) := by decide +kernel
theorem dX8_bestHaul_266 : decode cX8_bestHaul 266 = .ok (.iload_n 2, 1) := by decide +kernel
theorem dX8_bestHaul_267 : decode cX8_bestHaul 267 = .ok (.iconst (-1), 1) := by decide +kernel
theorem dX8_bestHaul_268 : decode cX8_bestHaul 268 = .ok (.iastore, 1) := by decide +kernel
theorem dX8_bestHaul_269 : decode cX8_bestHaul 269 = .ok (.goto (-233), 3) := by decide +kernel
theorem dX8_bestHaul_272 : decode cX8_bestHaul 272 = .ok (.iload_n 1, 1) := by decide +kernel
theorem dX8_bestHaul_273 : decode cX8_bestHaul 273 = .ok (.ireturn, 1) := by decide +kernel
theorem dX8_row_0 : decode cX8_row 0 = .ok (.iload_n 1, 1) := by decide +kernel
theorem dX8_row_1 : decode cX8_row 1 = .ok (.bipush (-2), 2) := by decide +kernel
theorem dX8_row_3 : decode cX8_row 3 = .ok (.if_icmp .ge 10, 3) := by decide +kernel
theorem dX8_row_6 : decode cX8_row 6 = .ok (.aload_n 0, 1) := by decide +kernel
theorem dX8_row_7 : decode cX8_row 7 = .ok (.bipush (-10), 2) := by decide +kernel
theorem dX8_row_9 : decode cX8_row 9 = .ok (.invokevirtual 78, 3) := by decide +kernel
theorem dX8_row_12 : decode cX8_row 12 = .ok (.ireturn, 1) := by decide +kernel
theorem dX8_row_13 : decode cX8_row 13 = .ok (.aload_n 0, 1) := by decide +kernel
theorem dX8_row_14 : decode cX8_row 14 = .ok (.invokevirtual 222, 3) := by decide +kernel
theorem dX8_row_17 : decode cX8_row 17 = .ok (.istore_n 2, 1) := by decide +kernel
theorem dX8_row_18 : decode cX8_row 18 = .ok (.iload_n 1, 1) := by decide +kernel
theorem dX8_row_19 : decode cX8_row 19 = .ok (.bipush (-2), 2) := by decide +kernel
theorem dX8_row_21 : decode cX8_row 21 = .ok (.if_icmp .ne 7, 3) := by decide +kernel
theorem dX8_row_24 : decode cX8_row 24 = .ok (.iload_n 2, 1) := by decide +kernel
theorem dX8_row_25 : decode cX8_row 25 = .ok (.goto 34, 3) := by decide +kernel
theorem dX8_row_28 : decode cX8_row 28 = .ok (.iload_n 1, 1) := by decide +kernel
theorem dX8_row_29 : decode cX8_row 29 = .ok (.iconst (-1), 1) := by decide +kernel
theorem dX8_row_30 : decode cX8_row 30 = .ok (.if_icmp .ne 10, 3) := by decide +kernel
theorem dX8_row_33 : decode cX8_row 33 = .ok (.aload_n 0, 1) := by decide +kernel
theorem dX8_row_34 : decode cX8_row 34 = .ok (.getfield 216, 3) := by decide +kernel
theorem dX8_row_37 : decode cX8_row 37 = .ok (.goto 22, 3) := by decide +kernel
theorem dX8_row_40 : decode cX8_row 40 = .ok (.iload_n 1, 1) := by decide +kernel
theorem dX8_row_41 : decode cX8_row 41 = .ok (.aload_n 0, 1) := by decide +kernel
theorem dX8_row_42 : decode cX8_row 42 = .ok (.getfield 216, 3) := by decide +kernel
theorem dX8_row_45 : decode cX8_row 45 = .ok (.if_icmp .ge 12, 3) := by decide +kernel
theorem dX8_row_48 : decode cX8_row 48 = .ok (.aload_n 0, 1) := by decide +kernel
theorem dX8_row_49 : decode cX8_row 49 = .ok (.getfield 39, 3) := by decide +kernel
theorem dX8_row_52 : decode cX8_row 52 = .ok (.iload_n 1, 1) := by decide +kernel
theorem dX8_row_53 : decode cX8_row 53 = .ok (.iaload, 1) := by decide +kernel
theorem dX8_row_54 : decode cX8_row 54 = .ok (.goto 5, 3) := by decide +kernel
theorem dX8_row_57 : decode cX8_row 57 = .ok (.bipush (-5), 2) := by decide +kernel
theorem dX8_row_59 : decode cX8_row 59 = .ok (.ireturn, 1) := by decide +kernel
theorem dX8_came_0 : decode cX8_came 0 = .ok (.iload_n 1, 1) := by decide +kernel
theorem dX8_came_1 : decode cX8_came 1 = .ok (.i2l, 1) := by decide +kernel
theorem dX8_came_2 : decode cX8_came 2 = .ok (.lconst 1, 1) := by decide +kernel
theorem dX8_came_3 : decode cX8_came 3 = .ok (.ldc2_w 74, 3) := by decide +kernel
theorem dX8_came_6 : decode cX8_came 6 = .ok (.invokestatic 56, 3) := by decide +kernel
theorem dX8_came_9 : decode cX8_came 9 = .ok (.ifCond .eq 15, 3) := by decide +kernel
theorem dX8_came_12 : decode cX8_came 12 = .ok (.iload_n 2, 1) := by decide +kernel
theorem dX8_came_13 : decode cX8_came 13 = .ok (.i2l, 1) := by decide +kernel
theorem dX8_came_14 : decode cX8_came 14 = .ok (.lconst 0, 1) := by decide +kernel
theorem dX8_came_15 : decode cX8_came 15 = .ok (.ldc2_w 74, 3) := by decide +kernel
theorem dX8_came_18 : decode cX8_came 18 = .ok (.invokestatic 56, 3) := by decide +kernel
theorem dX8_came_21 : decode cX8_came 21 = .ok (.ifCond .ne 10, 3) := by decide +kernel
theorem dX8_came_24 : decode cX8_came 24 = .ok (.aload_n 0, 1) := by decide +kernel
theorem dX8_came_25 : decode cX8_came 25 = .ok (.bipush (-2), 2) := by decide +kernel
theorem dX8_came_27 : decode cX8_came 27 = .ok (.invokevirtual 78, 3) := by decide +kernel
theorem dX8_came_30 : decode cX8_came 30 = .ok (.ireturn, 1) := by decide +kernel
theorem dX8_came_31 : decode cX8_came 31 = .ok (.aload_n 0, 1) := by decide +kernel
theorem dX8_came_32 : decode cX8_came 32 = .ok (.getfield 7, 3) := by decide +kernel
theorem dX8_came_35 : decode cX8_came 35 = .ok (.bipush 18, 2) := by decide +kernel
theorem dX8_came_37 : decode cX8_came 37 = .ok (.iaload, 1) := by decide +kernel
theorem dX8_came_38 : decode cX8_came 38 = .ok (.bipush 6, 2) := by decide +kernel
theorem dX8_came_40 : decode cX8_came 40 = .ok (.if_icmp .ne 8, 3) := by decide +kernel
theorem dX8_came_43 : decode cX8_came 43 = .ok (.aload_n 0, 1) := by decide +kernel
theorem dX8_came_44 : decode cX8_came 44 = .ok (.invokevirtual 87, 3) := by decide +kernel
theorem dX8_came_47 : decode cX8_came 47 = .ok (.ireturn, 1) := by decide +kernel
theorem dX8_came_48 : decode cX8_came 48 = .ok (.aload_n 0, 1) := by decide +kernel
theorem dX8_came_49 : decode cX8_came 49 = .ok (.getfield 7, 3) := by decide +kernel
theorem dX8_came_52 : decode cX8_came 52 = .ok (.bipush 19, 2) := by decide +kernel
theorem dX8_came_54 : decode cX8_came 54 = .ok (.iconst 2, 1) := by decide +kernel
theorem dX8_came_55 : decode cX8_came 55 = .ok (.aload_n 0, 1) := by decide +kernel
theorem dX8_came_56 : decode cX8_came 56 = .ok (.getfield 7, 3) := by decide +kernel
theorem dX8_came_59 : decode cX8_came 59 = .ok (.bipush 18, 2) := by decide +kernel
theorem dX8_came_61 : decode cX8_came 61 = .ok (.iaload, 1) := by decide +kernel
theorem dX8_came_62 : decode cX8_came 62 = .ok (.imul, 1) := by decide +kernel
theorem dX8_came_63 : decode cX8_came 63 = .ok (.iadd, 1) := by decide +kernel
theorem dX8_came_64 : decode cX8_came 64 = .ok (.iload_n 1, 1) := by decide +kernel
theorem dX8_came_65 : decode cX8_came 65 = .ok (.iastore, 1) := by decide +kernel
theorem dX8_came_66 : decode cX8_came 66 = .ok (.aload_n 0, 1) := by decide +kernel
theorem dX8_came_67 : decode cX8_came 67 = .ok (.getfield 7, 3) := by decide +kernel
theorem dX8_came_70 : decode cX8_came 70 = .ok (.bipush 19, 2) := by decide +kernel
theorem dX8_came_72 : decode cX8_came 72 = .ok (.iconst 2, 1) := by decide +kernel
theorem dX8_came_73 : decode cX8_came 73 = .ok (.aload_n 0, 1) := by decide +kernel
theorem dX8_came_74 : decode cX8_came 74 = .ok (.getfield 7, 3) := by decide +kernel
theorem dX8_came_77 : decode cX8_came 77 = .ok (.bipush 18, 2) := by decide +kernel
theorem dX8_came_79 : decode cX8_came 79 = .ok (.iaload, 1) := by decide +kernel
theorem dX8_came_80 : decode cX8_came 80 = .ok (.imul, 1) := by decide +kernel
theorem dX8_came_81 : decode cX8_came 81 = .ok (.iadd, 1) := by decide +kernel
theorem dX8_came_82 : decode cX8_came 82 = .ok (.iconst 1, 1) := by decide +kernel
theorem dX8_came_83 : decode cX8_came 83 = .ok (.iadd, 1) := by decide +kernel
theorem dX8_came_84 : decode cX8_came 84 = .ok (.iload_n 2, 1) := by decide +kernel
theorem dX8_came_85 : decode cX8_came 85 = .ok (.iastore, 1) := by decide +kernel
theorem dX8_came_86 : decode cX8_came 86 = .ok (.aload_n 0, 1) := by decide +kernel
theorem dX8_came_87 : decode cX8_came 87 = .ok (.getfield 7, 3) := by decide +kernel
theorem dX8_came_90 : decode cX8_came 90 = .ok (.bipush 18, 2) := by decide +kernel
theorem dX8_came_92 : decode cX8_came 92 = .ok (.dup2, 1) := by decide +kernel
theorem dX8_came_93 : decode cX8_came 93 = .ok (.iaload, 1) := by decide +kernel
theorem dX8_came_94 : decode cX8_came 94 = .ok (.iconst 1, 1) := by decide +kernel
theorem dX8_came_95 : decode cX8_came 95 = .ok (.iadd, 1) := by decide +kernel
theorem dX8_came_96 : decode cX8_came 96 = .ok (.iastore, 1) := by decide +kernel
theorem dX8_came_97 : decode cX8_came 97 = .ok (.aload_n 0, 1) := by decide +kernel
theorem dX8_came_98 : decode cX8_came 98 = .ok (.getfield 7, 3) := by decide +kernel
theorem dX8_came_101 : decode cX8_came 101 = .ok (.bipush 18, 2) := by decide +kernel
theorem dX8_came_103 : decode cX8_came 103 = .ok (.iaload, 1) := by decide +kernel
theorem dX8_came_104 : decode cX8_came 104 = .ok (.ireturn, 1) := by decide +kernel
theorem dX8_fits_0 : decode cX8_fits 0 = .ok (.iconst 1, 1) := by decide +kernel
theorem dX8_fits_1 : decode cX8_fits 1 = .ok (.istore_n 2, 1) := by decide +kernel
theorem dX8_fits_2 : decode cX8_fits 2 = .ok (.iconst 0, 1) := by decide +kernel
theorem dX8_fits_3 : decode cX8_fits 3 = .ok (.istore_n 3, 1) := by decide +kernel
theorem dX8_fits_4 : decode cX8_fits 4 = .ok (.iload_n 3, 1) := by decide +kernel
theorem dX8_fits_5 : decode cX8_fits 5 = .ok (.aload_n 0, 1) := by decide +kernel
theorem dX8_fits_6 : decode cX8_fits 6 = .ok (.getfield 7, 3) := by decide +kernel
theorem dX8_fits_9 : decode cX8_fits 9 = .ok (.bipush 18, 2) := by decide +kernel
theorem dX8_fits_11 : decode cX8_fits 11 = .ok (.iaload, 1) := by decide +kernel
theorem dX8_fits_12 : decode cX8_fits 12 = .ok (.if_icmp .ge 50, 3) := by decide +kernel
theorem dX8_fits_15 : decode cX8_fits 15 = .ok (.iload_n 2, 1) := by decide +kernel
theorem dX8_fits_16 : decode cX8_fits 16 = .ok (.ifCond .eq 38, 3) := by decide +kernel
theorem dX8_fits_19 : decode cX8_fits 19 = .ok (.aload_n 0, 1) := by decide +kernel
theorem dX8_fits_20 : decode cX8_fits 20 = .ok (.getfield 7, 3) := by decide +kernel
theorem dX8_fits_23 : decode cX8_fits 23 = .ok (.bipush 19, 2) := by decide +kernel
theorem dX8_fits_25 : decode cX8_fits 25 = .ok (.iconst 2, 1) := by decide +kernel
theorem dX8_fits_26 : decode cX8_fits 26 = .ok (.iload_n 3, 1) := by decide +kernel
theorem dX8_fits_27 : decode cX8_fits 27 = .ok (.imul, 1) := by decide +kernel
theorem dX8_fits_28 : decode cX8_fits 28 = .ok (.iadd, 1) := by decide +kernel
theorem dX8_fits_29 : decode cX8_fits 29 = .ok (.iaload, 1) := by decide +kernel
theorem dX8_fits_30 : decode cX8_fits 30 = .ok (.iload_n 1, 1) := by decide +kernel
theorem dX8_fits_31 : decode cX8_fits 31 = .ok (.invokestatic 188, 3) := by decide +kernel
theorem dX8_fits_34 : decode cX8_fits 34 = .ok (.aload_n 0, 1) := by decide +kernel
theorem dX8_fits_35 : decode cX8_fits 35 = .ok (.getfield 7, 3) := by decide +kernel
theorem dX8_fits_38 : decode cX8_fits 38 = .ok (.bipush 19, 2) := by decide +kernel
theorem dX8_fits_40 : decode cX8_fits 40 = .ok (.iconst 2, 1) := by decide +kernel
theorem dX8_fits_41 : decode cX8_fits 41 = .ok (.iload_n 3, 1) := by decide +kernel
theorem dX8_fits_42 : decode cX8_fits 42 = .ok (.imul, 1) := by decide +kernel
theorem dX8_fits_43 : decode cX8_fits 43 = .ok (.iadd, 1) := by decide +kernel
theorem dX8_fits_44 : decode cX8_fits 44 = .ok (.iconst 1, 1) := by decide +kernel
theorem dX8_fits_45 : decode cX8_fits 45 = .ok (.iadd, 1) := by decide +kernel
theorem dX8_fits_46 : decode cX8_fits 46 = .ok (.iaload, 1) := by decide +kernel
theorem dX8_fits_47 : decode cX8_fits 47 = .ok (.if_icmp .ne 7, 3) := by decide +kernel
theorem dX8_fits_50 : decode cX8_fits 50 = .ok (.iconst 1, 1) := by decide +kernel
theorem dX8_fits_51 : decode cX8_fits 51 = .ok (.goto 4, 3) := by decide +kernel
theorem dX8_fits_54 : decode cX8_fits 54 = .ok (.iconst 0, 1) := by decide +kernel
theorem dX8_fits_55 : decode cX8_fits 55 = .ok (.istore_n 2, 1) := by decide +kernel
theorem dX8_fits_56 : decode cX8_fits 56 = .ok (.iinc 3 1, 3) := by decide +kernel
theorem dX8_fits_59 : decode cX8_fits 59 = .ok (.goto (-55), 3) := by decide +kernel
theorem dX8_fits_62 : decode cX8_fits 62 = .ok (.iload_n 2, 1) := by decide +kernel
theorem dX8_fits_63 : decode cX8_fits 63 = .ok (.ireturn, 1) := by decide +kernel
theorem dX8_lines_0 : decode cX8_lines 0 = .ok (.iload_n 1, 1) := by decide +kernel
theorem dX8_lines_1 : decode cX8_lines 1 = .ok (.i2l, 1) := by decide +kernel
theorem dX8_lines_2 : decode cX8_lines 2 = .ok (.lconst 0, 1) := by decide +kernel
theorem dX8_lines_3 : decode cX8_lines 3 = .ok (.ldc2_w 131, 3) := by decide +kernel
theorem dX8_lines_6 : decode cX8_lines 6 = .ok (.invokestatic 56, 3) := by decide +kernel
theorem dX8_lines_9 : decode cX8_lines 9 = .ok (.ifCond .ne 10, 3) := by decide +kernel
theorem dX8_lines_12 : decode cX8_lines 12 = .ok (.aload_n 0, 1) := by decide +kernel
theorem dX8_lines_13 : decode cX8_lines 13 = .ok (.bipush (-2), 2) := by decide +kernel
theorem dX8_lines_15 : decode cX8_lines 15 = .ok (.invokevirtual 78, 3) := by decide +kernel
theorem dX8_lines_18 : decode cX8_lines 18 = .ok (.ireturn, 1) := by decide +kernel
theorem dX8_lines_19 : decode cX8_lines 19 = .ok (.iconst 0, 1) := by decide +kernel
theorem dX8_lines_20 : decode cX8_lines 20 = .ok (.istore_n 2, 1) := by decide +kernel
theorem dX8_lines_21 : decode cX8_lines 21 = .ok (.iconst (-1), 1) := by decide +kernel
theorem dX8_lines_22 : decode cX8_lines 22 = .ok (.istore_n 3, 1) := by decide +kernel
theorem dX8_lines_23 : decode cX8_lines 23 = .ok (.iconst (-1), 1) := by decide +kernel
theorem dX8_lines_24 : decode cX8_lines 24 = .ok (.istore 4, 2) := by decide +kernel
theorem dX8_lines_26 : decode cX8_lines 26 = .ok (.iconst 1, 1) := by decide +kernel
theorem dX8_lines_27 : decode cX8_lines 27 = .ok (.istore 5, 2) := by decide +kernel
theorem dX8_lines_29 : decode cX8_lines 29 = .ok (.iload 5, 2) := by decide +kernel
theorem dX8_lines_31 : decode cX8_lines 31 = .ok (.bipush 60, 2) := by decide +kernel
theorem dX8_lines_33 : decode cX8_lines 33 = .ok (.if_icmp .gt 36, 3) := by decide +kernel
theorem dX8_lines_36 : decode cX8_lines 36 = .ok (.aload_n 0, 1) := by decide +kernel
theorem dX8_lines_37 : decode cX8_lines 37 = .ok (.iload 5, 2) := by decide +kernel
theorem dX8_lines_39 : decode cX8_lines 39 = .ok (.invokevirtual 225, 3) := by decide +kernel
theorem dX8_lines_42 : decode cX8_lines 42 = .ok (.ifCond .eq 21, 3) := by decide +kernel
theorem dX8_lines_45 : decode cX8_lines 45 = .ok (.iload_n 2, 1) := by decide +kernel
theorem dX8_lines_46 : decode cX8_lines 46 = .ok (.ifCond .ne 8, 3) := by decide +kernel
theorem dX8_lines_49 : decode cX8_lines 49 = .ok (.iload 5, 2) := by decide +kernel
theorem dX8_lines_51 : decode cX8_lines 51 = .ok (.goto 4, 3) := by decide +kernel
theorem dX8_lines_54 : decode cX8_lines 54 = .ok (.iload_n 3, 1) := by decide +kernel
theorem dX8_lines_55 : decode cX8_lines 55 = .ok (.istore_n 3, 1) := by decide +kernel
theorem dX8_lines_56 : decode cX8_lines 56 = .ok (.iload 5, 2) := by decide +kernel
theorem dX8_lines_58 : decode cX8_lines 58 = .ok (.istore 4, 2) := by decide +kernel
theorem dX8_lines_60 : decode cX8_lines 60 = .ok (.iinc 2 1, 3) := by decide +kernel
theorem dX8_lines_63 : decode cX8_lines 63 = .ok (.iinc 5 1, 3) := by decide +kernel
theorem dX8_lines_66 : decode cX8_lines 66 = .ok (.goto (-37), 3) := by decide +kernel
theorem dX8_lines_69 : decode cX8_lines 69 = .ok (.iload_n 1, 1) := by decide +kernel
theorem dX8_lines_70 : decode cX8_lines 70 = .ok (.ifCond .ne 7, 3) := by decide +kernel
theorem dX8_lines_73 : decode cX8_lines 73 = .ok (.iload_n 2, 1) := by decide +kernel
theorem dX8_lines_74 : decode cX8_lines 74 = .ok (.goto 14, 3) := by decide +kernel
theorem dX8_lines_77 : decode cX8_lines 77 = .ok (.iload_n 1, 1) := by decide +kernel
theorem dX8_lines_78 : decode cX8_lines 78 = .ok (.iconst 1, 1) := by decide +kernel
theorem dX8_lines_79 : decode cX8_lines 79 = .ok (.if_icmp .ne 7, 3) := by decide +kernel
theorem dX8_lines_82 : decode cX8_lines 82 = .ok (.iload_n 3, 1) := by decide +kernel
theorem dX8_lines_83 : decode cX8_lines 83 = .ok (.goto 5, 3) := by decide +kernel
theorem dX8_lines_86 : decode cX8_lines 86 = .ok (.iload 4, 2) := by decide +kernel
theorem dX8_lines_88 : decode cX8_lines 88 = .ok (.ireturn, 1) := by decide +kernel
theorem dX8_tries_0 : decode cX8_tries 0 = .ok (.iconst (-1), 1) := by decide +kernel
theorem dX8_tries_1 : decode cX8_tries 1 = .ok (.istore_n 1, 1) := by decide +kernel
theorem dX8_tries_2 : decode cX8_tries 2 = .ok (.ldc 212, 2) := by decide +kernel
theorem dX8_tries_4 : decode cX8_tries 4 = .ok (.istore_n 2, 1) := by decide +kernel
theorem dX8_tries_5 : decode cX8_tries 5 = .ok (.iconst 0, 1) := by decide +kernel
theorem dX8_tries_6 : decode cX8_tries 6 = .ok (.istore_n 3, 1) := by decide +kernel
theorem dX8_tries_7 : decode cX8_tries 7 = .ok (.iconst 1, 1) := by decide +kernel
theorem dX8_tries_8 : decode cX8_tries 8 = .ok (.istore 4, 2) := by decide +kernel
theorem dX8_tries_10 : decode cX8_tries 10 = .ok (.iload 4, 2) := by decide +kernel
theorem dX8_tries_12 : decode cX8_tries 12 = .ok (.bipush 60, 2) := by decide +kernel
theorem dX8_tries_14 : decode cX8_tries 14 = .ok (.if_icmp .gt 139, 3) := by decide +kernel
theorem dX8_tries_17 : decode cX8_tries 17 = .ok (.iconst 0, 1) := by decide +kernel
theorem dX8_tries_18 : decode cX8_tries 18 = .ok (.istore 5, 2) := by decide +kernel
theorem dX8_tries_20 : decode cX8_tries 20 = .ok (.iload 5, 2) := by decide +kernel
theorem dX8_tries_22 : decode cX8_tries 22 = .ok (.bipush 62, 2) := by decide +kernel
theorem dX8_tries_24 : decode cX8_tries 24 = .ok (.if_icmp .ge 17, 3) := by decide +kernel
theorem dX8_tries_27 : decode cX8_tries 27 = .ok (.aload_n 0, 1) := by decide +kernel
theorem dX8_tries_28 : decode cX8_tries 28 = .ok (.getfield 42, 3) := by decide +kernel
theorem dX8_tries_31 : decode cX8_tries 31 = .ok (.iload 5, 2) := by decide +kernel
theorem dX8_tries_33 : decode cX8_tries 33 = .ok (.iconst 0, 1) := by decide +kernel
theorem dX8_tries_34 : decode cX8_tries 34 = .ok (.iastore, 1) := by decide +kernel
theorem dX8_tries_35 : decode cX8_tries 35 = .ok (.iinc 5 1, 3) := by decide +kernel
theorem dX8_tries_38 : decode cX8_tries 38 = .ok (.goto (-18), 3) := by decide +kernel
theorem dX8_tries_41 : decode cX8_tries 41 = .ok (.iconst 0, 1) := by decide +kernel
theorem dX8_tries_42 : decode cX8_tries 42 = .ok (.istore 5, 2) := by decide +kernel
theorem dX8_tries_44 : decode cX8_tries 44 = .ok (.iconst 1, 1) := by decide +kernel
theorem dX8_tries_45 : decode cX8_tries 45 = .ok (.istore 6, 2) := by decide +kernel
theorem dX8_tries_47 : decode cX8_tries 47 = .ok (.iload 6, 2) := by decide +kernel
theorem dX8_tries_49 : decode cX8_tries 49 = .ok (.bipush 60, 2) := by decide +kernel
theorem dX8_tries_51 : decode cX8_tries 51 = .ok (.if_icmp .gt 66, 3) := by decide +kernel
theorem dX8_tries_54 : decode cX8_tries 54 = .ok (.aload_n 0, 1) := by decide +kernel
theorem dX8_tries_55 : decode cX8_tries 55 = .ok (.iload 6, 2) := by decide +kernel
theorem dX8_tries_57 : decode cX8_tries 57 = .ok (.invokevirtual 225, 3) := by decide +kernel
theorem dX8_tries_60 : decode cX8_tries 60 = .ok (.ifCond .eq 51, 3) := by decide +kernel
theorem dX8_tries_63 : decode cX8_tries 63 = .ok (.iconst 1, 1) := by decide +kernel
theorem dX8_tries_64 : decode cX8_tries 64 = .ok (.istore_n 3, 1) := by decide +kernel
theorem dX8_tries_65 : decode cX8_tries 65 = .ok (.iload 4, 2) := by decide +kernel
theorem dX8_tries_67 : decode cX8_tries 67 = .ok (.iload 6, 2) := by decide +kernel
theorem dX8_tries_69 : decode cX8_tries 69 = .ok (.invokestatic 188, 3) := by decide +kernel
theorem dX8_tries_72 : decode cX8_tries 72 = .ok (.istore 7, 2) := by decide +kernel
theorem dX8_tries_74 : decode cX8_tries 74 = .ok (.aload_n 0, 1) := by decide +kernel
theorem dX8_tries_75 : decode cX8_tries 75 = .ok (.getfield 42, 3) := by decide +kernel
theorem dX8_tries_78 : decode cX8_tries 78 = .ok (.iload 7, 2) := by decide +kernel
theorem dX8_tries_80 : decode cX8_tries 80 = .ok (.dup2, 1) := by decide +kernel
theorem dX8_tries_81 : decode cX8_tries 81 = .ok (.iaload, 1) := by decide +kernel
theorem dX8_tries_82 : decode cX8_tries 82 = .ok (.iconst 1, 1) := by decide +kernel
theorem dX8_tries_83 : decode cX8_tries 83 = .ok (.iadd, 1) := by decide +kernel
theorem dX8_tries_84 : decode cX8_tries 84 = .ok (.iastore, 1) := by decide +kernel
theorem dX8_tries_85 : decode cX8_tries 85 = .ok (.aload_n 0, 1) := by decide +kernel
theorem dX8_tries_86 : decode cX8_tries 86 = .ok (.getfield 42, 3) := by decide +kernel
theorem dX8_tries_89 : decode cX8_tries 89 = .ok (.iload 7, 2) := by decide +kernel
theorem dX8_tries_91 : decode cX8_tries 91 = .ok (.iaload, 1) := by decide +kernel
theorem dX8_tries_92 : decode cX8_tries 92 = .ok (.iload 5, 2) := by decide +kernel
theorem dX8_tries_94 : decode cX8_tries 94 = .ok (.if_icmp .le 13, 3) := by decide +kernel
theorem dX8_tries_97 : decode cX8_tries 97 = .ok (.aload_n 0, 1) := by decide +kernel
theorem dX8_tries_98 : decode cX8_tries 98 = .ok (.getfield 42, 3) := by decide +kernel
theorem dX8_tries_101 : decode cX8_tries 101 = .ok (.iload 7, 2) := by decide +kernel
theorem dX8_tries_103 : decode cX8_tries 103 = .ok (.iaload, 1) := by decide +kernel
theorem dX8_tries_104 : decode cX8_tries 104 = .ok (.goto 5, 3) := by decide +kernel
theorem dX8_tries_107 : decode cX8_tries 107 = .ok (.iload 5, 2) := by decide +kernel
theorem dX8_tries_109 : decode cX8_tries 109 = .ok (.istore 5, 2) := by decide +kernel
theorem dX8_tries_111 : decode cX8_tries 111 = .ok (.iinc 6 1, 3) := by decide +kernel
theorem dX8_tries_114 : decode cX8_tries 114 = .ok (.goto (-67), 3) := by decide +kernel
theorem dX8_tries_117 : decode cX8_tries 117 = .ok (.iload_n 3, 1) := by decide +kernel
theorem dX8_tries_118 : decode cX8_tries 118 = .ok (.ifCond .eq 14, 3) := by decide +kernel
theorem dX8_tries_121 : decode cX8_tries 121 = .ok (.iload 5, 2) := by decide +kernel
theorem dX8_tries_123 : decode cX8_tries 123 = .ok (.iload_n 2, 1) := by decide +kernel
theorem dX8_tries_124 : decode cX8_tries 124 = .ok (.if_icmp .ge 8, 3) := by decide +kernel
theorem dX8_tries_127 : decode cX8_tries 127 = .ok (.iload 4, 2) := by decide +kernel
theorem dX8_tries_129 : decode cX8_tries 129 = .ok (.goto 4, 3) := by decide +kernel
theorem dX8_tries_132 : decode cX8_tries 132 = .ok (.iload_n 1, 1) := by decide +kernel
theorem dX8_tries_133 : decode cX8_tries 133 = .ok (.istore_n 1, 1) := by decide +kernel
theorem dX8_tries_134 : decode cX8_tries 134 = .ok (.iload 5, 2) := by decide +kernel
theorem dX8_tries_136 : decode cX8_tries 136 = .ok (.iload_n 2, 1) := by decide +kernel
theorem dX8_tries_137 : decode cX8_tries 137 = .ok (.if_icmp .ge 8, 3) := by decide +kernel
theorem dX8_tries_140 : decode cX8_tries 140 = .ok (.iload 5, 2) := by decide +kernel
theorem dX8_tries_142 : decode cX8_tries 142 = .ok (.goto 4, 3) := by decide +kernel
theorem dX8_tries_145 : decode cX8_tries 145 = .ok (.iload_n 2, 1) := by decide +kernel
theorem dX8_tries_146 : decode cX8_tries 146 = .ok (.istore_n 2, 1) := by decide +kernel
theorem dX8_tries_147 : decode cX8_tries 147 = .ok (.iinc 4 1, 3) := by decide +kernel
theorem dX8_tries_150 : decode cX8_tries 150 = .ok (.goto (-140), 3) := by decide +kernel
theorem dX8_tries_153 : decode cX8_tries 153 = .ok (.iload_n 1, 1) := by decide +kernel
theorem dX8_tries_154 : decode cX8_tries 154 = .ok (.ireturn, 1) := by decide +kernel
theorem dX8_note_0 : decode cX8_note 0 = .ok (.aload_n 0, 1) := by decide +kernel
theorem dX8_note_1 : decode cX8_note 1 = .ok (.iload_n 1, 1) := by decide +kernel
theorem dX8_note_2 : decode cX8_note 2 = .ok (.invokevirtual 197, 3) := by decide +kernel
theorem dX8_note_5 : decode cX8_note 5 = .ok (.ifCond .eq 40, 3) := by decide +kernel
theorem dX8_note_8 : decode cX8_note 8 = .ok (.iload_n 2, 1) := by decide +kernel
theorem dX8_note_9 : decode cX8_note 9 = .ok (.i2l, 1) := by decide +kernel
theorem dX8_note_10 : decode cX8_note 10 = .ok (.lconst 1, 1) := by decide +kernel
theorem dX8_note_11 : decode cX8_note 11 = .ok (.ldc2_w 74, 3) := by decide +kernel
theorem dX8_note_14 : decode cX8_note 14 = .ok (.invokestatic 56, 3) := by decide +kernel
theorem dX8_note_17 : decode cX8_note 17 = .ok (.ifCond .eq 28, 3) := by decide +kernel
theorem dX8_note_20 : decode cX8_note 20 = .ok (.iload_n 3, 1) := by decide +kernel
theorem dX8_note_21 : decode cX8_note 21 = .ok (.i2l, 1) := by decide +kernel
theorem dX8_note_22 : decode cX8_note 22 = .ok (.lconst 0, 1) := by decide +kernel
theorem dX8_note_23 : decode cX8_note 23 = .ok (.ldc2_w 228, 3) := by decide +kernel
theorem dX8_note_26 : decode cX8_note 26 = .ok (.invokestatic 56, 3) := by decide +kernel
theorem dX8_note_29 : decode cX8_note 29 = .ok (.ifCond .eq 16, 3) := by decide +kernel
theorem dX8_note_32 : decode cX8_note 32 = .ok (.iload 4, 2) := by decide +kernel
theorem dX8_note_34 : decode cX8_note 34 = .ok (.i2l, 1) := by decide +kernel
theorem dX8_note_35 : decode cX8_note 35 = .ok (.lconst 0, 1) := by decide +kernel
theorem dX8_note_36 : decode cX8_note 36 = .ok (.ldc2_w 230, 3) := by decide +kernel
theorem dX8_note_39 : decode cX8_note 39 = .ok (.invokestatic 56, 3) := by decide +kernel
theorem dX8_note_42 : decode cX8_note 42 = .ok (.ifCond .ne 10, 3) := by decide +kernel
theorem dX8_note_45 : decode cX8_note 45 = .ok (.aload_n 0, 1) := by decide +kernel
theorem dX8_note_46 : decode cX8_note 46 = .ok (.bipush (-2), 2) := by decide +kernel
theorem dX8_note_48 : decode cX8_note 48 = .ok (.invokevirtual 78, 3) := by decide +kernel
theorem dX8_note_51 : decode cX8_note 51 = .ok (.ireturn, 1) := by decide +kernel
theorem dX8_note_52 : decode cX8_note 52 = .ok (.aload_n 0, 1) := by decide +kernel
theorem dX8_note_53 : decode cX8_note 53 = .ok (.getfield 7, 3) := by decide +kernel
theorem dX8_note_56 : decode cX8_note 56 = .ok (.bipush 31, 2) := by decide +kernel
theorem dX8_note_58 : decode cX8_note 58 = .ok (.iaload, 1) := by decide +kernel
theorem dX8_note_59 : decode cX8_note 59 = .ok (.bipush 6, 2) := by decide +kernel
theorem dX8_note_61 : decode cX8_note 61 = .ok (.if_icmp .ne 8, 3) := by decide +kernel
theorem dX8_note_64 : decode cX8_note 64 = .ok (.aload_n 0, 1) := by decide +kernel
theorem dX8_note_65 : decode cX8_note 65 = .ok (.invokevirtual 87, 3) := by decide +kernel
theorem dX8_note_68 : decode cX8_note 68 = .ok (.ireturn, 1) := by decide +kernel
theorem dX8_note_69 : decode cX8_note 69 = .ok (.bipush 32, 2) := by decide +kernel
theorem dX8_note_71 : decode cX8_note 71 = .ok (.iconst 4, 1) := by decide +kernel
theorem dX8_note_72 : decode cX8_note 72 = .ok (.aload_n 0, 1) := by decide +kernel
theorem dX8_note_73 : decode cX8_note 73 = .ok (.getfield 7, 3) := by decide +kernel
theorem dX8_note_76 : decode cX8_note 76 = .ok (.bipush 31, 2) := by decide +kernel
theorem dX8_note_78 : decode cX8_note 78 = .ok (.iaload, 1) := by decide +kernel
theorem dX8_note_79 : decode cX8_note 79 = .ok (.imul, 1) := by decide +kernel
theorem dX8_note_80 : decode cX8_note 80 = .ok (.iadd, 1) := by decide +kernel
theorem dX8_note_81 : decode cX8_note 81 = .ok (.istore 5, 2) := by decide +kernel
theorem dX8_note_83 : decode cX8_note 83 = .ok (.aload_n 0, 1) := by decide +kernel
theorem dX8_note_84 : decode cX8_note 84 = .ok (.getfield 7, 3) := by decide +kernel
theorem dX8_note_87 : decode cX8_note 87 = .ok (.iload 5, 2) := by decide +kernel
theorem dX8_note_89 : decode cX8_note 89 = .ok (.iload_n 1, 1) := by decide +kernel
theorem dX8_note_90 : decode cX8_note 90 = .ok (.iastore, 1) := by decide +kernel
theorem dX8_note_91 : decode cX8_note 91 = .ok (.aload_n 0, 1) := by decide +kernel
theorem dX8_note_92 : decode cX8_note 92 = .ok (.getfield 7, 3) := by decide +kernel
theorem dX8_note_95 : decode cX8_note 95 = .ok (.iload 5, 2) := by decide +kernel
theorem dX8_note_97 : decode cX8_note 97 = .ok (.iconst 1, 1) := by decide +kernel
theorem dX8_note_98 : decode cX8_note 98 = .ok (.iadd, 1) := by decide +kernel
theorem dX8_note_99 : decode cX8_note 99 = .ok (.iload_n 2, 1) := by decide +kernel
theorem dX8_note_100 : decode cX8_note 100 = .ok (.iastore, 1) := by decide +kernel
theorem dX8_note_101 : decode cX8_note 101 = .ok (.aload_n 0, 1) := by decide +kernel
theorem dX8_note_102 : decode cX8_note 102 = .ok (.getfield 7, 3) := by decide +kernel
theorem dX8_note_105 : decode cX8_note 105 = .ok (.iload 5, 2) := by decide +kernel
theorem dX8_note_107 : decode cX8_note 107 = .ok (.iconst 2, 1) := by decide +kernel
theorem dX8_note_108 : decode cX8_note 108 = .ok (.iadd, 1) := by decide +kernel
theorem dX8_note_109 : decode cX8_note 109 = .ok (.iload_n 3, 1) := by decide +kernel
theorem dX8_note_110 : decode cX8_note 110 = .ok (.iastore, 1) := by decide +kernel
theorem dX8_note_111 : decode cX8_note 111 = .ok (.aload_n 0, 1) := by decide +kernel
theorem dX8_note_112 : decode cX8_note 112 = .ok (.getfield 7, 3) := by decide +kernel
theorem dX8_note_115 : decode cX8_note 115 = .ok (.iload 5, 2) := by decide +kernel
theorem dX8_note_117 : decode cX8_note 117 = .ok (.iconst 3, 1) := by decide +kernel
theorem dX8_note_118 : decode cX8_note 118 = .ok (.iadd, 1) := by decide +kernel
theorem dX8_note_119 : decode cX8_note 119 = .ok (.iload 4, 2) := by decide +kernel
theorem dX8_note_121 : decode cX8_note 121 = .ok (.iastore, 1) := by decide +kernel
theorem dX8_note_122 : decode cX8_note 122 = .ok (.aload_n 0, 1) := by decide +kernel
theorem dX8_note_123 : decode cX8_note 123 = .ok (.getfield 7, 3) := by decide +kernel
theorem dX8_note_126 : decode cX8_note 126 = .ok (.bipush 31, 2) := by decide +kernel
theorem dX8_note_128 : decode cX8_note 128 = .ok (.dup2, 1) := by decide +kernel
theorem dX8_note_129 : decode cX8_note 129 = .ok (.iaload, 1) := by decide +kernel
theorem dX8_note_130 : decode cX8_note 130 = .ok (.iconst 1, 1) := by decide +kernel
theorem dX8_note_131 : decode cX8_note 131 = .ok (.iadd, 1) := by decide +kernel
theorem dX8_note_132 : decode cX8_note 132 = .ok (.iastore, 1) := by decide +kernel
theorem dX8_note_133 : decode cX8_note 133 = .ok (.aload_n 0, 1) := by decide +kernel
theorem dX8_note_134 : decode cX8_note 134 = .ok (.getfield 7, 3) := by decide +kernel
theorem dX8_note_137 : decode cX8_note 137 = .ok (.bipush 31, 2) := by decide +kernel
theorem dX8_note_139 : decode cX8_note 139 = .ok (.iaload, 1) := by decide +kernel
theorem dX8_note_140 : decode cX8_note 140 = .ok (.ireturn, 1) := by decide +kernel
theorem dX8_mark_0 : decode cX8_mark 0 = .ok (.iload_n 1, 1) := by decide +kernel
theorem dX8_mark_1 : decode cX8_mark 1 = .ok (.invokestatic 81, 3) := by decide +kernel
theorem dX8_mark_4 : decode cX8_mark 4 = .ok (.ifCond .eq 40, 3) := by decide +kernel
theorem dX8_mark_7 : decode cX8_mark 7 = .ok (.iload_n 2, 1) := by decide +kernel
theorem dX8_mark_8 : decode cX8_mark 8 = .ok (.i2l, 1) := by decide +kernel
theorem dX8_mark_9 : decode cX8_mark 9 = .ok (.lconst 0, 1) := by decide +kernel
theorem dX8_mark_10 : decode cX8_mark 10 = .ok (.ldc2_w 206, 3) := by decide +kernel
theorem dX8_mark_13 : decode cX8_mark 13 = .ok (.invokestatic 56, 3) := by decide +kernel
theorem dX8_mark_16 : decode cX8_mark 16 = .ok (.ifCond .eq 28, 3) := by decide +kernel
theorem dX8_mark_19 : decode cX8_mark 19 = .ok (.iload_n 3, 1) := by decide +kernel
theorem dX8_mark_20 : decode cX8_mark 20 = .ok (.i2l, 1) := by decide +kernel
theorem dX8_mark_21 : decode cX8_mark 21 = .ok (.lconst 0, 1) := by decide +kernel
theorem dX8_mark_22 : decode cX8_mark 22 = .ok (.ldc2_w 206, 3) := by decide +kernel
theorem dX8_mark_25 : decode cX8_mark 25 = .ok (.invokestatic 56, 3) := by decide +kernel
theorem dX8_mark_28 : decode cX8_mark 28 = .ok (.ifCond .eq 16, 3) := by decide +kernel
theorem dX8_mark_31 : decode cX8_mark 31 = .ok (.iload 4, 2) := by decide +kernel
theorem dX8_mark_33 : decode cX8_mark 33 = .ok (.i2l, 1) := by decide +kernel
theorem dX8_mark_34 : decode cX8_mark 34 = .ok (.lconst 0, 1) := by decide +kernel
theorem dX8_mark_35 : decode cX8_mark 35 = .ok (.ldc2_w 230, 3) := by decide +kernel
theorem dX8_mark_38 : decode cX8_mark 38 = .ok (.invokestatic 56, 3) := by decide +kernel
theorem dX8_mark_41 : decode cX8_mark 41 = .ok (.ifCond .ne 10, 3) := by decide +kernel
theorem dX8_mark_44 : decode cX8_mark 44 = .ok (.aload_n 0, 1) := by decide +kernel
theorem dX8_mark_45 : decode cX8_mark 45 = .ok (.bipush (-2), 2) := by decide +kernel
theorem dX8_mark_47 : decode cX8_mark 47 = .ok (.invokevirtual 78, 3) := by decide +kernel
theorem dX8_mark_50 : decode cX8_mark 50 = .ok (.ireturn, 1) := by decide +kernel
theorem dX8_mark_51 : decode cX8_mark 51 = .ok (.aload_n 0, 1) := by decide +kernel
theorem dX8_mark_52 : decode cX8_mark 52 = .ok (.getfield 7, 3) := by decide +kernel
theorem dX8_mark_55 : decode cX8_mark 55 = .ok (.bipush 56, 2) := by decide +kernel
theorem dX8_mark_57 : decode cX8_mark 57 = .ok (.iaload, 1) := by decide +kernel
theorem dX8_mark_58 : decode cX8_mark 58 = .ok (.bipush 6, 2) := by decide +kernel
theorem dX8_mark_60 : decode cX8_mark 60 = .ok (.if_icmp .ne 8, 3) := by decide +kernel
theorem dX8_mark_63 : decode cX8_mark 63 = .ok (.aload_n 0, 1) := by decide +kernel
theorem dX8_mark_64 : decode cX8_mark 64 = .ok (.invokevirtual 87, 3) := by decide +kernel
theorem dX8_mark_67 : decode cX8_mark 67 = .ok (.ireturn, 1) := by decide +kernel
theorem dX8_mark_68 : decode cX8_mark 68 = .ok (.bipush 57, 2) := by decide +kernel
theorem dX8_mark_70 : decode cX8_mark 70 = .ok (.iconst 4, 1) := by decide +kernel
theorem dX8_mark_71 : decode cX8_mark 71 = .ok (.aload_n 0, 1) := by decide +kernel
theorem dX8_mark_72 : decode cX8_mark 72 = .ok (.getfield 7, 3) := by decide +kernel
theorem dX8_mark_75 : decode cX8_mark 75 = .ok (.bipush 56, 2) := by decide +kernel
theorem dX8_mark_77 : decode cX8_mark 77 = .ok (.iaload, 1) := by decide +kernel
theorem dX8_mark_78 : decode cX8_mark 78 = .ok (.imul, 1) := by decide +kernel
theorem dX8_mark_79 : decode cX8_mark 79 = .ok (.iadd, 1) := by decide +kernel
theorem dX8_mark_80 : decode cX8_mark 80 = .ok (.istore 5, 2) := by decide +kernel
theorem dX8_mark_82 : decode cX8_mark 82 = .ok (.aload_n 0, 1) := by decide +kernel
theorem dX8_mark_83 : decode cX8_mark 83 = .ok (.getfield 7, 3) := by decide +kernel
theorem dX8_mark_86 : decode cX8_mark 86 = .ok (.iload 5, 2) := by decide +kernel
theorem dX8_mark_88 : decode cX8_mark 88 = .ok (.iload_n 1, 1) := by decide +kernel
theorem dX8_mark_89 : decode cX8_mark 89 = .ok (.iastore, 1) := by decide +kernel
theorem dX8_mark_90 : decode cX8_mark 90 = .ok (.aload_n 0, 1) := by decide +kernel
theorem dX8_mark_91 : decode cX8_mark 91 = .ok (.getfield 7, 3) := by decide +kernel
theorem dX8_mark_94 : decode cX8_mark 94 = .ok (.iload 5, 2) := by decide +kernel
theorem dX8_mark_96 : decode cX8_mark 96 = .ok (.iconst 1, 1) := by decide +kernel
theorem dX8_mark_97 : decode cX8_mark 97 = .ok (.iadd, 1) := by decide +kernel
theorem dX8_mark_98 : decode cX8_mark 98 = .ok (.iload_n 2, 1) := by decide +kernel
theorem dX8_mark_99 : decode cX8_mark 99 = .ok (.iastore, 1) := by decide +kernel
theorem dX8_mark_100 : decode cX8_mark 100 = .ok (.aload_n 0, 1) := by decide +kernel
theorem dX8_mark_101 : decode cX8_mark 101 = .ok (.getfield 7, 3) := by decide +kernel
theorem dX8_mark_104 : decode cX8_mark 104 = .ok (.iload 5, 2) := by decide +kernel
theorem dX8_mark_106 : decode cX8_mark 106 = .ok (.iconst 2, 1) := by decide +kernel
theorem dX8_mark_107 : decode cX8_mark 107 = .ok (.iadd, 1) := by decide +kernel
theorem dX8_mark_108 : decode cX8_mark 108 = .ok (.iload_n 3, 1) := by decide +kernel
theorem dX8_mark_109 : decode cX8_mark 109 = .ok (.iastore, 1) := by decide +kernel
theorem dX8_mark_110 : decode cX8_mark 110 = .ok (.aload_n 0, 1) := by decide +kernel
theorem dX8_mark_111 : decode cX8_mark 111 = .ok (.getfield 7, 3) := by decide +kernel
theorem dX8_mark_114 : decode cX8_mark 114 = .ok (.iload 5, 2) := by decide +kernel
theorem dX8_mark_116 : decode cX8_mark 116 = .ok (.iconst 3, 1) := by decide +kernel
theorem dX8_mark_117 : decode cX8_mark 117 = .ok (.iadd, 1) := by decide +kernel
theorem dX8_mark_118 : decode cX8_mark 118 = .ok (.iload 4, 2) := by decide +kernel
theorem dX8_mark_120 : decode cX8_mark 120 = .ok (.iastore, 1) := by decide +kernel
theorem dX8_mark_121 : decode cX8_mark 121 = .ok (.aload_n 0, 1) := by decide +kernel
theorem dX8_mark_122 : decode cX8_mark 122 = .ok (.getfield 7, 3) := by decide +kernel
theorem dX8_mark_125 : decode cX8_mark 125 = .ok (.bipush 56, 2) := by decide +kernel
theorem dX8_mark_127 : decode cX8_mark 127 = .ok (.dup2, 1) := by decide +kernel
theorem dX8_mark_128 : decode cX8_mark 128 = .ok (.iaload, 1) := by decide +kernel
theorem dX8_mark_129 : decode cX8_mark 129 = .ok (.iconst 1, 1) := by decide +kernel
theorem dX8_mark_130 : decode cX8_mark 130 = .ok (.iadd, 1) := by decide +kernel
theorem dX8_mark_131 : decode cX8_mark 131 = .ok (.iastore, 1) := by decide +kernel
theorem dX8_mark_132 : decode cX8_mark 132 = .ok (.aload_n 0, 1) := by decide +kernel
theorem dX8_mark_133 : decode cX8_mark 133 = .ok (.getfield 7, 3) := by decide +kernel
theorem dX8_mark_136 : decode cX8_mark 136 = .ok (.bipush 56, 2) := by decide +kernel
theorem dX8_mark_138 : decode cX8_mark 138 = .ok (.iaload, 1) := by decide +kernel
theorem dX8_mark_139 : decode cX8_mark 139 = .ok (.ireturn, 1) := by decide +kernel
theorem dX8_forget_0 : decode cX8_forget 0 = .ok (.iload_n 1, 1) := by decide +kernel
theorem dX8_forget_1 : decode cX8_forget 1 = .ok (.i2l, 1) := by decide +kernel
theorem dX8_forget_2 : decode cX8_forget 2 = .ok (.lconst 0, 1) := by decide +kernel
theorem dX8_forget_3 : decode cX8_forget 3 = .ok (.ldc2_w 131, 3) := by decide +kernel
theorem dX8_forget_6 : decode cX8_forget 6 = .ok (.invokestatic 56, 3) := by decide +kernel
theorem dX8_forget_9 : decode cX8_forget 9 = .ok (.ifCond .ne 10, 3) := by decide +kernel
theorem dX8_forget_12 : decode cX8_forget 12 = .ok (.aload_n 0, 1) := by decide +kernel
theorem dX8_forget_13 : decode cX8_forget 13 = .ok (.bipush (-2), 2) := by decide +kernel
theorem dX8_forget_15 : decode cX8_forget 15 = .ok (.invokevirtual 78, 3) := by decide +kernel
theorem dX8_forget_18 : decode cX8_forget 18 = .ok (.ireturn, 1) := by decide +kernel
theorem dX8_forget_19 : decode cX8_forget 19 = .ok (.iload_n 1, 1) := by decide +kernel
theorem dX8_forget_20 : decode cX8_forget 20 = .ok (.ifCond .ne 8, 3) := by decide +kernel
theorem dX8_forget_23 : decode cX8_forget 23 = .ok (.bipush 18, 2) := by decide +kernel
theorem dX8_forget_25 : decode cX8_forget 25 = .ok (.goto 15, 3) := by decide +kernel
theorem dX8_forget_28 : decode cX8_forget 28 = .ok (.iload_n 1, 1) := by decide +kernel
theorem dX8_forget_29 : decode cX8_forget 29 = .ok (.iconst 1, 1) := by decide +kernel
theorem dX8_forget_30 : decode cX8_forget 30 = .ok (.if_icmp .ne 8, 3) := by decide +kernel
theorem dX8_forget_33 : decode cX8_forget 33 = .ok (.bipush 31, 2) := by decide +kernel
theorem dX8_forget_35 : decode cX8_forget 35 = .ok (.goto 5, 3) := by decide +kernel
theorem dX8_forget_38 : decode cX8_forget 38 = .ok (.bipush 56, 2) := by decide +kernel
theorem dX8_forget_40 : decode cX8_forget 40 = .ok (.istore_n 2, 1) := by decide +kernel
theorem dX8_forget_41 : decode cX8_forget 41 = .ok (.aload_n 0, 1) := by decide +kernel
theorem dX8_forget_42 : decode cX8_forget 42 = .ok (.getfield 7, 3) := by decide +kernel
theorem dX8_forget_45 : decode cX8_forget 45 = .ok (.iload_n 2, 1) := by decide +kernel
theorem dX8_forget_46 : decode cX8_forget 46 = .ok (.iaload, 1) := by decide +kernel
theorem dX8_forget_47 : decode cX8_forget 47 = .ok (.istore_n 3, 1) := by decide +kernel
theorem dX8_forget_48 : decode cX8_forget 48 = .ok (.aload_n 0, 1) := by decide +kernel
theorem dX8_forget_49 : decode cX8_forget 49 = .ok (.getfield 7, 3) := by decide +kernel
theorem dX8_forget_52 : decode cX8_forget 52 = .ok (.iload_n 2, 1) := by decide +kernel
theorem dX8_forget_53 : decode cX8_forget 53 = .ok (.iconst 0, 1) := by decide +kernel
theorem dX8_forget_54 : decode cX8_forget 54 = .ok (.iastore, 1) := by decide +kernel
theorem dX8_forget_55 : decode cX8_forget 55 = .ok (.iload_n 3, 1) := by decide +kernel
theorem dX8_forget_56 : decode cX8_forget 56 = .ok (.ireturn, 1) := by decide +kernel
theorem dX8_kindsOf_0 : decode cX8_kindsOf 0 = .ok (.iconst 0, 1) := by decide +kernel
theorem dX8_kindsOf_1 : decode cX8_kindsOf 1 = .ok (.istore_n 2, 1) := by decide +kernel
theorem dX8_kindsOf_2 : decode cX8_kindsOf 2 = .ok (.iconst 0, 1) := by decide +kernel
theorem dX8_kindsOf_3 : decode cX8_kindsOf 3 = .ok (.istore_n 3, 1) := by decide +kernel
theorem dX8_kindsOf_4 : decode cX8_kindsOf 4 = .ok (.iload_n 3, 1) := by decide +kernel
theorem dX8_kindsOf_5 : decode cX8_kindsOf 5 = .ok (.bipush 6, 2) := by decide +kernel
theorem dX8_kindsOf_7 : decode cX8_kindsOf 7 = .ok (.if_icmp .ge 114, 3) := by decide +kernel
theorem dX8_kindsOf_10 : decode cX8_kindsOf 10 = .ok (.iconst 1, 1) := by decide +kernel
theorem dX8_kindsOf_11 : decode cX8_kindsOf 11 = .ok (.istore 4, 2) := by decide +kernel
theorem dX8_kindsOf_13 : decode cX8_kindsOf 13 = .ok (.iconst 0, 1) := by decide +kernel
theorem dX8_kindsOf_14 : decode cX8_kindsOf 14 = .ok (.istore 5, 2) := by decide +kernel
theorem dX8_kindsOf_16 : decode cX8_kindsOf 16 = .ok (.iload 5, 2) := by decide +kernel
theorem dX8_kindsOf_18 : decode cX8_kindsOf 18 = .ok (.aload_n 0, 1) := by decide +kernel
theorem dX8_kindsOf_19 : decode cX8_kindsOf 19 = .ok (.getfield 7, 3) := by decide +kernel
theorem dX8_kindsOf_22 : decode cX8_kindsOf 22 = .ok (.bipush 31, 2) := by decide +kernel
theorem dX8_kindsOf_24 : decode cX8_kindsOf 24 = .ok (.iaload, 1) := by decide +kernel
theorem dX8_kindsOf_25 : decode cX8_kindsOf 25 = .ok (.if_icmp .ge 75, 3) := by decide +kernel
theorem dX8_kindsOf_28 : decode cX8_kindsOf 28 = .ok (.bipush 32, 2) := by decide +kernel
theorem dX8_kindsOf_30 : decode cX8_kindsOf 30 = .ok (.iconst 4, 1) := by decide +kernel
theorem dX8_kindsOf_31 : decode cX8_kindsOf 31 = .ok (.iload 5, 2) := by decide +kernel
theorem dX8_kindsOf_33 : decode cX8_kindsOf 33 = .ok (.imul, 1) := by decide +kernel
theorem dX8_kindsOf_34 : decode cX8_kindsOf 34 = .ok (.iadd, 1) := by decide +kernel
theorem dX8_kindsOf_35 : decode cX8_kindsOf 35 = .ok (.istore 6, 2) := by decide +kernel
theorem dX8_kindsOf_37 : decode cX8_kindsOf 37 = .ok (.iload 4, 2) := by decide +kernel
theorem dX8_kindsOf_39 : decode cX8_kindsOf 39 = .ok (.ifCond .eq 52, 3) := by decide +kernel
theorem dX8_kindsOf_42 : decode cX8_kindsOf 42 = .ok (.aload_n 0, 1) := by decide +kernel
theorem dX8_kindsOf_43 : decode cX8_kindsOf 43 = .ok (.getfield 7, 3) := by decide +kernel
theorem dX8_kindsOf_46 : decode cX8_kindsOf 46 = .ok (.iload 6, 2) := by decide +kernel
theorem dX8_kindsOf_48 : decode cX8_kindsOf 48 = .ok (.iaload, 1) := by decide +kernel
theorem dX8_kindsOf_49 : decode cX8_kindsOf 49 = .ok (.iload_n 1, 1) := by decide +kernel
theorem dX8_kindsOf_50 : decode cX8_kindsOf 50 = .ok (.if_icmp .ne 37, 3) := by decide +kernel
theorem dX8_kindsOf_53 : decode cX8_kindsOf 53 = .ok (.iload_n 3, 1) := by decide +kernel
theorem dX8_kindsOf_54 : decode cX8_kindsOf 54 = .ok (.aload_n 0, 1) := by decide +kernel
theorem dX8_kindsOf_55 : decode cX8_kindsOf 55 = .ok (.getfield 7, 3) := by decide +kernel
theorem dX8_kindsOf_58 : decode cX8_kindsOf 58 = .ok (.iload 6, 2) := by decide +kernel
theorem dX8_kindsOf_60 : decode cX8_kindsOf 60 = .ok (.iconst 1, 1) := by decide +kernel
theorem dX8_kindsOf_61 : decode cX8_kindsOf 61 = .ok (.iadd, 1) := by decide +kernel
theorem dX8_kindsOf_62 : decode cX8_kindsOf 62 = .ok (.iaload, 1) := by decide +kernel
theorem dX8_kindsOf_63 : decode cX8_kindsOf 63 = .ok (.aload_n 0, 1) := by decide +kernel
theorem dX8_kindsOf_64 : decode cX8_kindsOf 64 = .ok (.getfield 7, 3) := by decide +kernel
theorem dX8_kindsOf_67 : decode cX8_kindsOf 67 = .ok (.iload 6, 2) := by decide +kernel
theorem dX8_kindsOf_69 : decode cX8_kindsOf 69 = .ok (.iconst 2, 1) := by decide +kernel
theorem dX8_kindsOf_70 : decode cX8_kindsOf 70 = .ok (.iadd, 1) := by decide +kernel
theorem dX8_kindsOf_71 : decode cX8_kindsOf 71 = .ok (.iaload, 1) := by decide +kernel
theorem dX8_kindsOf_72 : decode cX8_kindsOf 72 = .ok (.invokestatic 178, 3) := by decide +kernel
theorem dX8_kindsOf_75 : decode cX8_kindsOf 75 = .ok (.aload_n 0, 1) := by decide +kernel
theorem dX8_kindsOf_76 : decode cX8_kindsOf 76 = .ok (.getfield 7, 3) := by decide +kernel
theorem dX8_kindsOf_79 : decode cX8_kindsOf 79 = .ok (.iload 6, 2) := by decide +kernel
theorem dX8_kindsOf_81 : decode cX8_kindsOf 81 = .ok (.iconst 3, 1) := by decide +kernel
theorem dX8_kindsOf_82 : decode cX8_kindsOf 82 = .ok (.iadd, 1) := by decide +kernel
theorem dX8_kindsOf_83 : decode cX8_kindsOf 83 = .ok (.iaload, 1) := by decide +kernel
theorem dX8_kindsOf_84 : decode cX8_kindsOf 84 = .ok (.if_icmp .ne 7, 3) := by decide +kernel
theorem dX8_kindsOf_87 : decode cX8_kindsOf 87 = .ok (.iconst 1, 1) := by decide +kernel
theorem dX8_kindsOf_88 : decode cX8_kindsOf 88 = .ok (.goto 4, 3) := by decide +kernel
theorem dX8_kindsOf_91 : decode cX8_kindsOf 91 = .ok (.iconst 0, 1) := by decide +kernel
theorem dX8_kindsOf_92 : decode cX8_kindsOf 92 = .ok (.istore 4, 2) := by decide +kernel
theorem dX8_kindsOf_94 : decode cX8_kindsOf 94 = .ok (.iinc 5 1, 3) := by decide +kernel
theorem dX8_kindsOf_97 : decode cX8_kindsOf 97 = .ok (.goto (-81), 3) := by decide +kernel
theorem dX8_kindsOf_100 : decode cX8_kindsOf 100 = .ok (.iload_n 2, 1) := by decide +kernel
theorem dX8_kindsOf_101 : decode cX8_kindsOf 101 = .ok (.iload 4, 2) := by decide +kernel
theorem dX8_kindsOf_103 : decode cX8_kindsOf 103 = .ok (.ifCond .eq 9, 3) := by decide +kernel
theorem dX8_kindsOf_106 : decode cX8_kindsOf 106 = .ok (.iconst 1, 1) := by decide +kernel
theorem dX8_kindsOf_107 : decode cX8_kindsOf 107 = .ok (.iload_n 3, 1) := by decide +kernel
theorem dX8_kindsOf_108 : decode cX8_kindsOf 108 = .ok (.ishl, 1) := by decide +kernel
theorem dX8_kindsOf_109 : decode cX8_kindsOf 109 = .ok (.goto 4, 3) := by decide +kernel
theorem dX8_kindsOf_112 : decode cX8_kindsOf 112 = .ok (.iconst 0, 1) := by decide +kernel
theorem dX8_kindsOf_113 : decode cX8_kindsOf 113 = .ok (.ior, 1) := by decide +kernel
theorem dX8_kindsOf_114 : decode cX8_kindsOf 114 = .ok (.istore_n 2, 1) := by decide +kernel
theorem dX8_kindsOf_115 : decode cX8_kindsOf 115 = .ok (.iinc 3 1, 3) := by decide +kernel
theorem dX8_kindsOf_118 : decode cX8_kindsOf 118 = .ok (.goto (-114), 3) := by decide +kernel
theorem dX8_kindsOf_121 : decode cX8_kindsOf 121 = .ok (.iload_n 2, 1) := by decide +kernel
theorem dX8_kindsOf_122 : decode cX8_kindsOf 122 = .ok (.ireturn, 1) := by decide +kernel
theorem dX8_is_0 : decode cX8_is 0 = .ok (.aload_n 0, 1) := by decide +kernel
theorem dX8_is_1 : decode cX8_is 1 = .ok (.iload_n 1, 1) := by decide +kernel
theorem dX8_is_2 : decode cX8_is 2 = .ok (.invokevirtual 197, 3) := by decide +kernel
theorem dX8_is_5 : decode cX8_is 5 = .ok (.ifCond .eq 11, 3) := by decide +kernel
theorem dX8_is_8 : decode cX8_is 8 = .ok (.aload_n 0, 1) := by decide +kernel
theorem dX8_is_9 : decode cX8_is 9 = .ok (.iload_n 1, 1) := by decide +kernel
theorem dX8_is_10 : decode cX8_is 10 = .ok (.invokevirtual 232, 3) := by decide +kernel
theorem dX8_is_13 : decode cX8_is 13 = .ok (.goto 9, 3) := by decide +kernel
theorem dX8_is_16 : decode cX8_is 16 = .ok (.aload_n 0, 1) := by decide +kernel
theorem dX8_is_17 : decode cX8_is 17 = .ok (.bipush (-2), 2) := by decide +kernel
theorem dX8_is_19 : decode cX8_is 19 = .ok (.invokevirtual 78, 3) := by decide +kernel
theorem dX8_is_22 : decode cX8_is 22 = .ok (.ireturn, 1) := by decide +kernel
theorem dX8_greatest_0 : decode cX8_greatest 0 = .ok (.iconst 0, 1) := by decide +kernel
theorem dX8_greatest_1 : decode cX8_greatest 1 = .ok (.istore_n 2, 1) := by decide +kernel
theorem dX8_greatest_2 : decode cX8_greatest 2 = .ok (.iconst 0, 1) := by decide +kernel
theorem dX8_greatest_3 : decode cX8_greatest 3 = .ok (.istore_n 3, 1) := by decide +kernel
theorem dX8_greatest_4 : decode cX8_greatest 4 = .ok (.iload_n 3, 1) := by decide +kernel
theorem dX8_greatest_5 : decode cX8_greatest 5 = .ok (.bipush 6, 2) := by decide +kernel
theorem dX8_greatest_7 : decode cX8_greatest 7 = .ok (.if_icmp .ge 84, 3) := by decide +kernel
theorem dX8_greatest_10 : decode cX8_greatest 10 = .ok (.iconst 0, 1) := by decide +kernel
theorem dX8_greatest_11 : decode cX8_greatest 11 = .ok (.istore 4, 2) := by decide +kernel
theorem dX8_greatest_13 : decode cX8_greatest 13 = .ok (.iconst 0, 1) := by decide +kernel
theorem dX8_greatest_14 : decode cX8_greatest 14 = .ok (.istore 5, 2) := by decide +kernel
theorem dX8_greatest_16 : decode cX8_greatest 16 = .ok (.iload 5, 2) := by decide +kernel
theorem dX8_greatest_18 : decode cX8_greatest 18 = .ok (.bipush 6, 2) := by decide +kernel
theorem dX8_greatest_20 : decode cX8_greatest 20 = .ok (.if_icmp .ge 52, 3) := by decide +kernel
theorem dX8_greatest_23 : decode cX8_greatest 23 = .ok (.iload 4, 2) := by decide +kernel
theorem dX8_greatest_25 : decode cX8_greatest 25 = .ok (.iload_n 1, 1) := by decide +kernel
theorem dX8_greatest_26 : decode cX8_greatest 26 = .ok (.iload_n 3, 1) := by decide +kernel
theorem dX8_greatest_27 : decode cX8_greatest 27 = .ok (.invokestatic 219, 3) := by decide +kernel
theorem dX8_greatest_30 : decode cX8_greatest 30 = .ok (.ifCond .eq 32, 3) := by decide +kernel
theorem dX8_greatest_33 : decode cX8_greatest 33 = .ok (.iload_n 1, 1) := by decide +kernel
theorem dX8_greatest_34 : decode cX8_greatest 34 = .ok (.iload 5, 2) := by decide +kernel
theorem dX8_greatest_36 : decode cX8_greatest 36 = .ok (.invokestatic 219, 3) := by decide +kernel
theorem dX8_greatest_39 : decode cX8_greatest 39 = .ok (.ifCond .eq 23, 3) := by decide +kernel
theorem dX8_greatest_42 : decode cX8_greatest 42 = .ok (.aload_n 0, 1) := by decide +kernel
theorem dX8_greatest_43 : decode cX8_greatest 43 = .ok (.getfield 45, 3) := by decide +kernel
theorem dX8_greatest_46 : decode cX8_greatest 46 = .ok (.iload_n 3, 1) := by decide +kernel
theorem dX8_greatest_47 : decode cX8_greatest 47 = .ok (.iaload, 1) := by decide +kernel
theorem dX8_greatest_48 : decode cX8_greatest 48 = .ok (.aload_n 0, 1) := by decide +kernel
theorem dX8_greatest_49 : decode cX8_greatest 49 = .ok (.getfield 45, 3) := by decide +kernel
theorem dX8_greatest_52 : decode cX8_greatest 52 = .ok (.iload 5, 2) := by decide +kernel
theorem dX8_greatest_54 : decode cX8_greatest 54 = .ok (.iaload, 1) := by decide +kernel
theorem dX8_greatest_55 : decode cX8_greatest 55 = .ok (.if_icmp .ne 7, 3) := by decide +kernel
theorem dX8_greatest_58 : decode cX8_greatest 58 = .ok (.iconst 1, 1) := by decide +kernel
theorem dX8_greatest_59 : decode cX8_greatest 59 = .ok (.goto 4, 3) := by decide +kernel
theorem dX8_greatest_62 : decode cX8_greatest 62 = .ok (.iconst 0, 1) := by decide +kernel
theorem dX8_greatest_63 : decode cX8_greatest 63 = .ok (.iadd, 1) := by decide +kernel
theorem dX8_greatest_64 : decode cX8_greatest 64 = .ok (.istore 4, 2) := by decide +kernel
theorem dX8_greatest_66 : decode cX8_greatest 66 = .ok (.iinc 5 1, 3) := by decide +kernel
theorem dX8_greatest_69 : decode cX8_greatest 69 = .ok (.goto (-53), 3) := by decide +kernel
theorem dX8_greatest_72 : decode cX8_greatest 72 = .ok (.iload 4, 2) := by decide +kernel
theorem dX8_greatest_74 : decode cX8_greatest 74 = .ok (.iload_n 2, 1) := by decide +kernel
theorem dX8_greatest_75 : decode cX8_greatest 75 = .ok (.if_icmp .le 8, 3) := by decide +kernel
theorem dX8_greatest_78 : decode cX8_greatest 78 = .ok (.iload 4, 2) := by decide +kernel
theorem dX8_greatest_80 : decode cX8_greatest 80 = .ok (.goto 4, 3) := by decide +kernel
theorem dX8_greatest_83 : decode cX8_greatest 83 = .ok (.iload_n 2, 1) := by decide +kernel
theorem dX8_greatest_84 : decode cX8_greatest 84 = .ok (.istore_n 2, 1) := by decide +kernel
theorem dX8_greatest_85 : decode cX8_greatest 85 = .ok (.iinc 3 1, 3) := by decide +kernel
theorem dX8_greatest_88 : decode cX8_greatest 88 = .ok (.goto (-84), 3) := by decide +kernel
theorem dX8_greatest_91 : decode cX8_greatest 91 = .ok (.iload_n 2, 1) := by decide +kernel
theorem dX8_greatest_92 : decode cX8_greatest 92 = .ok (.ireturn, 1) := by decide +kernel
theorem dX8_look_0 : decode cX8_look 0 = .ok (.aload_n 0, 1) := by decide +kernel
theorem dX8_look_1 : decode cX8_look 1 = .ok (.iload_n 1, 1) := by decide +kernel
theorem dX8_look_2 : decode cX8_look 2 = .ok (.invokevirtual 197, 3) := by decide +kernel
theorem dX8_look_5 : decode cX8_look 5 = .ok (.ifCond .ne 10, 3) := by decide +kernel
theorem dX8_look_8 : decode cX8_look 8 = .ok (.aload_n 0, 1) := by decide +kernel
theorem dX8_look_9 : decode cX8_look 9 = .ok (.bipush (-2), 2) := by decide +kernel
theorem dX8_look_11 : decode cX8_look 11 = .ok (.invokevirtual 78, 3) := by decide +kernel
theorem dX8_look_14 : decode cX8_look 14 = .ok (.ireturn, 1) := by decide +kernel
theorem dX8_look_15 : decode cX8_look 15 = .ok (.aload_n 0, 1) := by decide +kernel
theorem dX8_look_16 : decode cX8_look 16 = .ok (.iload_n 1, 1) := by decide +kernel
theorem dX8_look_17 : decode cX8_look 17 = .ok (.invokevirtual 232, 3) := by decide +kernel
theorem dX8_look_20 : decode cX8_look 20 = .ok (.istore_n 2, 1) := by decide +kernel
theorem dX8_look_21 : decode cX8_look 21 = .ok (.iconst (-1), 1) := by decide +kernel
theorem dX8_look_22 : decode cX8_look 22 = .ok (.istore_n 3, 1) := by decide +kernel
theorem dX8_look_23 : decode cX8_look 23 = .ok (.ldc 212, 2) := by decide +kernel
theorem dX8_look_25 : decode cX8_look 25 = .ok (.istore 4, 2) := by decide +kernel
theorem dX8_look_27 : decode cX8_look 27 = .ok (.iconst 0, 1) := by decide +kernel
theorem dX8_look_28 : decode cX8_look 28 = .ok (.istore 5, 2) := by decide +kernel
theorem dX8_look_30 : decode cX8_look 30 = .ok (.iload 5, 2) := by decide +kernel
theorem dX8_look_32 : decode cX8_look 32 = .ok (.bipush 24, 2) := by decide +kernel
theorem dX8_look_34 : decode cX8_look 34 = .ok (.if_icmp .ge 89, 3) := by decide +kernel
theorem dX8_look_37 : decode cX8_look 37 = .ok (.iload_n 2, 1) := by decide +kernel
theorem dX8_look_38 : decode cX8_look 38 = .ok (.ifCond .le 85, 3) := by decide +kernel
theorem dX8_look_41 : decode cX8_look 41 = .ok (.iconst 0, 1) := by decide +kernel
theorem dX8_look_42 : decode cX8_look 42 = .ok (.istore 6, 2) := by decide +kernel
theorem dX8_look_44 : decode cX8_look 44 = .ok (.iload 6, 2) := by decide +kernel
theorem dX8_look_46 : decode cX8_look 46 = .ok (.bipush 6, 2) := by decide +kernel
theorem dX8_look_48 : decode cX8_look 48 = .ok (.if_icmp .ge 32, 3) := by decide +kernel
theorem dX8_look_51 : decode cX8_look 51 = .ok (.aload_n 0, 1) := by decide +kernel
theorem dX8_look_52 : decode cX8_look 52 = .ok (.getfield 45, 3) := by decide +kernel
theorem dX8_look_55 : decode cX8_look 55 = .ok (.iload 6, 2) := by decide +kernel
theorem dX8_look_57 : decode cX8_look 57 = .ok (.iload 6, 2) := by decide +kernel
theorem dX8_look_59 : decode cX8_look 59 = .ok (.aload_n 0, 1) := by decide +kernel
theorem dX8_look_60 : decode cX8_look 60 = .ok (.getfield 7, 3) := by decide +kernel
theorem dX8_look_63 : decode cX8_look 63 = .ok (.bipush 6, 2) := by decide +kernel
theorem dX8_look_65 : decode cX8_look 65 = .ok (.iload_n 1, 1) := by decide +kernel
theorem dX8_look_66 : decode cX8_look 66 = .ok (.iadd, 1) := by decide +kernel
theorem dX8_look_67 : decode cX8_look 67 = .ok (.iaload, 1) := by decide +kernel
theorem dX8_look_68 : decode cX8_look 68 = .ok (.iload 5, 2) := by decide +kernel
theorem dX8_look_70 : decode cX8_look 70 = .ok (.invokestatic 178, 3) := by decide +kernel
theorem dX8_look_73 : decode cX8_look 73 = .ok (.iastore, 1) := by decide +kernel
theorem dX8_look_74 : decode cX8_look 74 = .ok (.iinc 6 1, 3) := by decide +kernel
theorem dX8_look_77 : decode cX8_look 77 = .ok (.goto (-33), 3) := by decide +kernel
theorem dX8_look_80 : decode cX8_look 80 = .ok (.aload_n 0, 1) := by decide +kernel
theorem dX8_look_81 : decode cX8_look 81 = .ok (.iload_n 2, 1) := by decide +kernel
theorem dX8_look_82 : decode cX8_look 82 = .ok (.invokevirtual 235, 3) := by decide +kernel
theorem dX8_look_85 : decode cX8_look 85 = .ok (.istore 6, 2) := by decide +kernel
theorem dX8_look_87 : decode cX8_look 87 = .ok (.iload 6, 2) := by decide +kernel
theorem dX8_look_89 : decode cX8_look 89 = .ok (.iload 4, 2) := by decide +kernel
theorem dX8_look_91 : decode cX8_look 91 = .ok (.if_icmp .ge 8, 3) := by decide +kernel
theorem dX8_look_94 : decode cX8_look 94 = .ok (.iload 5, 2) := by decide +kernel
theorem dX8_look_96 : decode cX8_look 96 = .ok (.goto 4, 3) := by decide +kernel
theorem dX8_look_99 : decode cX8_look 99 = .ok (.iload_n 3, 1) := by decide +kernel
theorem dX8_look_100 : decode cX8_look 100 = .ok (.istore_n 3, 1) := by decide +kernel
theorem dX8_look_101 : decode cX8_look 101 = .ok (.iload 6, 2) := by decide +kernel
theorem dX8_look_103 : decode cX8_look 103 = .ok (.iload 4, 2) := by decide +kernel
theorem dX8_look_105 : decode cX8_look 105 = .ok (.if_icmp .ge 8, 3) := by decide +kernel
theorem dX8_look_108 : decode cX8_look 108 = .ok (.iload 6, 2) := by decide +kernel
theorem dX8_look_110 : decode cX8_look 110 = .ok (.goto 5, 3) := by decide +kernel
theorem dX8_look_113 : decode cX8_look 113 = .ok (.iload 4, 2) := by decide +kernel
theorem dX8_look_115 : decode cX8_look 115 = .ok (.istore 4, 2) := by decide +kernel
theorem dX8_look_117 : decode cX8_look 117 = .ok (.iinc 5 1, 3) := by decide +kernel
theorem dX8_look_120 : decode cX8_look 120 = .ok (.goto (-90), 3) := by decide +kernel
theorem dX8_look_123 : decode cX8_look 123 = .ok (.iload_n 3, 1) := by decide +kernel
theorem dX8_look_124 : decode cX8_look 124 = .ok (.ireturn, 1) := by decide +kernel
theorem dX8_housesOf_0 : decode cX8_housesOf 0 = .ok (.iconst 0, 1) := by decide +kernel
theorem dX8_housesOf_1 : decode cX8_housesOf 1 = .ok (.istore_n 2, 1) := by decide +kernel
theorem dX8_housesOf_2 : decode cX8_housesOf 2 = .ok (.iconst 0, 1) := by decide +kernel
theorem dX8_housesOf_3 : decode cX8_housesOf 3 = .ok (.istore_n 3, 1) := by decide +kernel
theorem dX8_housesOf_4 : decode cX8_housesOf 4 = .ok (.iload_n 3, 1) := by decide +kernel
theorem dX8_housesOf_5 : decode cX8_housesOf 5 = .ok (.bipush 6, 2) := by decide +kernel
theorem dX8_housesOf_7 : decode cX8_housesOf 7 = .ok (.if_icmp .ge 114, 3) := by decide +kernel
theorem dX8_housesOf_10 : decode cX8_housesOf 10 = .ok (.iconst 1, 1) := by decide +kernel
theorem dX8_housesOf_11 : decode cX8_housesOf 11 = .ok (.istore 4, 2) := by decide +kernel
theorem dX8_housesOf_13 : decode cX8_housesOf 13 = .ok (.iconst 0, 1) := by decide +kernel
theorem dX8_housesOf_14 : decode cX8_housesOf 14 = .ok (.istore 5, 2) := by decide +kernel
theorem dX8_housesOf_16 : decode cX8_housesOf 16 = .ok (.iload 5, 2) := by decide +kernel
theorem dX8_housesOf_18 : decode cX8_housesOf 18 = .ok (.aload_n 0, 1) := by decide +kernel
theorem dX8_housesOf_19 : decode cX8_housesOf 19 = .ok (.getfield 7, 3) := by decide +kernel
theorem dX8_housesOf_22 : decode cX8_housesOf 22 = .ok (.bipush 56, 2) := by decide +kernel
theorem dX8_housesOf_24 : decode cX8_housesOf 24 = .ok (.iaload, 1) := by decide +kernel
theorem dX8_housesOf_25 : decode cX8_housesOf 25 = .ok (.if_icmp .ge 75, 3) := by decide +kernel
theorem dX8_housesOf_28 : decode cX8_housesOf 28 = .ok (.bipush 57, 2) := by decide +kernel
theorem dX8_housesOf_30 : decode cX8_housesOf 30 = .ok (.iconst 4, 1) := by decide +kernel
theorem dX8_housesOf_31 : decode cX8_housesOf 31 = .ok (.iload 5, 2) := by decide +kernel
theorem dX8_housesOf_33 : decode cX8_housesOf 33 = .ok (.imul, 1) := by decide +kernel
theorem dX8_housesOf_34 : decode cX8_housesOf 34 = .ok (.iadd, 1) := by decide +kernel
theorem dX8_housesOf_35 : decode cX8_housesOf 35 = .ok (.istore 6, 2) := by decide +kernel
theorem dX8_housesOf_37 : decode cX8_housesOf 37 = .ok (.iload 4, 2) := by decide +kernel
theorem dX8_housesOf_39 : decode cX8_housesOf 39 = .ok (.ifCond .eq 52, 3) := by decide +kernel
theorem dX8_housesOf_42 : decode cX8_housesOf 42 = .ok (.aload_n 0, 1) := by decide +kernel
theorem dX8_housesOf_43 : decode cX8_housesOf 43 = .ok (.getfield 7, 3) := by decide +kernel
theorem dX8_housesOf_46 : decode cX8_housesOf 46 = .ok (.iload 6, 2) := by decide +kernel
theorem dX8_housesOf_48 : decode cX8_housesOf 48 = .ok (.iaload, 1) := by decide +kernel
theorem dX8_housesOf_49 : decode cX8_housesOf 49 = .ok (.iload_n 1, 1) := by decide +kernel
theorem dX8_housesOf_50 : decode cX8_housesOf 50 = .ok (.if_icmp .ne 37, 3) := by decide +kernel
theorem dX8_housesOf_53 : decode cX8_housesOf 53 = .ok (.iload_n 3, 1) := by decide +kernel
theorem dX8_housesOf_54 : decode cX8_housesOf 54 = .ok (.aload_n 0, 1) := by decide +kernel
theorem dX8_housesOf_55 : decode cX8_housesOf 55 = .ok (.getfield 7, 3) := by decide +kernel
theorem dX8_housesOf_58 : decode cX8_housesOf 58 = .ok (.iload 6, 2) := by decide +kernel
theorem dX8_housesOf_60 : decode cX8_housesOf 60 = .ok (.iconst 1, 1) := by decide +kernel
theorem dX8_housesOf_61 : decode cX8_housesOf 61 = .ok (.iadd, 1) := by decide +kernel
theorem dX8_housesOf_62 : decode cX8_housesOf 62 = .ok (.iaload, 1) := by decide +kernel
theorem dX8_housesOf_63 : decode cX8_housesOf 63 = .ok (.aload_n 0, 1) := by decide +kernel
theorem dX8_housesOf_64 : decode cX8_housesOf 64 = .ok (.getfield 7, 3) := by decide +kernel
theorem dX8_housesOf_67 : decode cX8_housesOf 67 = .ok (.iload 6, 2) := by decide +kernel
theorem dX8_housesOf_69 : decode cX8_housesOf 69 = .ok (.iconst 2, 1) := by decide +kernel
theorem dX8_housesOf_70 : decode cX8_housesOf 70 = .ok (.iadd, 1) := by decide +kernel
theorem dX8_housesOf_71 : decode cX8_housesOf 71 = .ok (.iaload, 1) := by decide +kernel
theorem dX8_housesOf_72 : decode cX8_housesOf 72 = .ok (.invokestatic 185, 3) := by decide +kernel
theorem dX8_housesOf_75 : decode cX8_housesOf 75 = .ok (.aload_n 0, 1) := by decide +kernel
theorem dX8_housesOf_76 : decode cX8_housesOf 76 = .ok (.getfield 7, 3) := by decide +kernel
theorem dX8_housesOf_79 : decode cX8_housesOf 79 = .ok (.iload 6, 2) := by decide +kernel
theorem dX8_housesOf_81 : decode cX8_housesOf 81 = .ok (.iconst 3, 1) := by decide +kernel
theorem dX8_housesOf_82 : decode cX8_housesOf 82 = .ok (.iadd, 1) := by decide +kernel
theorem dX8_housesOf_83 : decode cX8_housesOf 83 = .ok (.iaload, 1) := by decide +kernel
theorem dX8_housesOf_84 : decode cX8_housesOf 84 = .ok (.if_icmp .ne 7, 3) := by decide +kernel
theorem dX8_housesOf_87 : decode cX8_housesOf 87 = .ok (.iconst 1, 1) := by decide +kernel
theorem dX8_housesOf_88 : decode cX8_housesOf 88 = .ok (.goto 4, 3) := by decide +kernel
theorem dX8_housesOf_91 : decode cX8_housesOf 91 = .ok (.iconst 0, 1) := by decide +kernel
theorem dX8_housesOf_92 : decode cX8_housesOf 92 = .ok (.istore 4, 2) := by decide +kernel
theorem dX8_housesOf_94 : decode cX8_housesOf 94 = .ok (.iinc 5 1, 3) := by decide +kernel
theorem dX8_housesOf_97 : decode cX8_housesOf 97 = .ok (.goto (-81), 3) := by decide +kernel
theorem dX8_housesOf_100 : decode cX8_housesOf 100 = .ok (.iload_n 2, 1) := by decide +kernel
theorem dX8_housesOf_101 : decode cX8_housesOf 101 = .ok (.iload 4, 2) := by decide +kernel
theorem dX8_housesOf_103 : decode cX8_housesOf 103 = .ok (.ifCond .eq 9, 3) := by decide +kernel
theorem dX8_housesOf_106 : decode cX8_housesOf 106 = .ok (.iconst 1, 1) := by decide +kernel
theorem dX8_housesOf_107 : decode cX8_housesOf 107 = .ok (.iload_n 3, 1) := by decide +kernel
theorem dX8_housesOf_108 : decode cX8_housesOf 108 = .ok (.ishl, 1) := by decide +kernel
theorem dX8_housesOf_109 : decode cX8_housesOf 109 = .ok (.goto 4, 3) := by decide +kernel
theorem dX8_housesOf_112 : decode cX8_housesOf 112 = .ok (.iconst 0, 1) := by decide +kernel
theorem dX8_housesOf_113 : decode cX8_housesOf 113 = .ok (.ior, 1) := by decide +kernel
theorem dX8_housesOf_114 : decode cX8_housesOf 114 = .ok (.istore_n 2, 1) := by decide +kernel
theorem dX8_housesOf_115 : decode cX8_housesOf 115 = .ok (.iinc 3 1, 3) := by decide +kernel
theorem dX8_housesOf_118 : decode cX8_housesOf 118 = .ok (.goto (-114), 3) := by decide +kernel
theorem dX8_housesOf_121 : decode cX8_housesOf 121 = .ok (.iload_n 2, 1) := by decide +kernel
theorem dX8_housesOf_122 : decode cX8_housesOf 122 = .ok (.ireturn, 1) := by decide +kernel
theorem dX8_kinds_0 : decode cX8_kinds 0 = .ok (.iload_n 1, 1) := by decide +kernel
theorem dX8_kinds_1 : decode cX8_kinds 1 = .ok (.invokestatic 81, 3) := by decide +kernel
theorem dX8_kinds_4 : decode cX8_kinds 4 = .ok (.ifCond .eq 11, 3) := by decide +kernel
theorem dX8_kinds_7 : decode cX8_kinds 7 = .ok (.aload_n 0, 1) := by decide +kernel
theorem dX8_kinds_8 : decode cX8_kinds 8 = .ok (.iload_n 1, 1) := by decide +kernel
theorem dX8_kinds_9 : decode cX8_kinds 9 = .ok (.invokevirtual 238, 3) := by decide +kernel
theorem dX8_kinds_12 : decode cX8_kinds 12 = .ok (.goto 9, 3) := by decide +kernel
theorem dX8_kinds_15 : decode cX8_kinds 15 = .ok (.aload_n 0, 1) := by decide +kernel
theorem dX8_kinds_16 : decode cX8_kinds 16 = .ok (.bipush (-2), 2) := by decide +kernel
theorem dX8_kinds_18 : decode cX8_kinds 18 = .ok (.invokevirtual 78, 3) := by decide +kernel
theorem dX8_kinds_21 : decode cX8_kinds 21 = .ok (.ireturn, 1) := by decide +kernel
theorem dX8_ask_0 : decode cX8_ask 0 = .ok (.iload_n 1, 1) := by decide +kernel
theorem dX8_ask_1 : decode cX8_ask 1 = .ok (.invokestatic 81, 3) := by decide +kernel
theorem dX8_ask_4 : decode cX8_ask 4 = .ok (.ifCond .ne 10, 3) := by decide +kernel
theorem dX8_ask_7 : decode cX8_ask 7 = .ok (.aload_n 0, 1) := by decide +kernel
theorem dX8_ask_8 : decode cX8_ask 8 = .ok (.bipush (-2), 2) := by decide +kernel
theorem dX8_ask_10 : decode cX8_ask 10 = .ok (.invokevirtual 78, 3) := by decide +kernel
theorem dX8_ask_13 : decode cX8_ask 13 = .ok (.ireturn, 1) := by decide +kernel
theorem dX8_ask_14 : decode cX8_ask 14 = .ok (.aload_n 0, 1) := by decide +kernel
theorem dX8_ask_15 : decode cX8_ask 15 = .ok (.iload_n 1, 1) := by decide +kernel
theorem dX8_ask_16 : decode cX8_ask 16 = .ok (.invokevirtual 238, 3) := by decide +kernel
theorem dX8_ask_19 : decode cX8_ask 19 = .ok (.istore_n 2, 1) := by decide +kernel
theorem dX8_ask_20 : decode cX8_ask 20 = .ok (.iconst (-1), 1) := by decide +kernel
theorem dX8_ask_21 : decode cX8_ask 21 = .ok (.istore_n 3, 1) := by decide +kernel
theorem dX8_ask_22 : decode cX8_ask 22 = .ok (.ldc 212, 2) := by decide +kernel
theorem dX8_ask_24 : decode cX8_ask 24 = .ok (.istore 4, 2) := by decide +kernel
theorem dX8_ask_26 : decode cX8_ask 26 = .ok (.iconst 0, 1) := by decide +kernel
theorem dX8_ask_27 : decode cX8_ask 27 = .ok (.istore 5, 2) := by decide +kernel
theorem dX8_ask_29 : decode cX8_ask 29 = .ok (.iload 5, 2) := by decide +kernel
theorem dX8_ask_31 : decode cX8_ask 31 = .ok (.sipush 200, 3) := by decide +kernel
theorem dX8_ask_34 : decode cX8_ask 34 = .ok (.if_icmp .ge 88, 3) := by decide +kernel
theorem dX8_ask_37 : decode cX8_ask 37 = .ok (.iload_n 2, 1) := by decide +kernel
theorem dX8_ask_38 : decode cX8_ask 38 = .ok (.ifCond .le 84, 3) := by decide +kernel
theorem dX8_ask_41 : decode cX8_ask 41 = .ok (.iconst 0, 1) := by decide +kernel
theorem dX8_ask_42 : decode cX8_ask 42 = .ok (.istore 6, 2) := by decide +kernel
theorem dX8_ask_44 : decode cX8_ask 44 = .ok (.iload 6, 2) := by decide +kernel
theorem dX8_ask_46 : decode cX8_ask 46 = .ok (.bipush 6, 2) := by decide +kernel
theorem dX8_ask_48 : decode cX8_ask 48 = .ok (.if_icmp .ge 31, 3) := by decide +kernel
theorem dX8_ask_51 : decode cX8_ask 51 = .ok (.aload_n 0, 1) := by decide +kernel
theorem dX8_ask_52 : decode cX8_ask 52 = .ok (.getfield 45, 3) := by decide +kernel
theorem dX8_ask_55 : decode cX8_ask 55 = .ok (.iload 6, 2) := by decide +kernel
theorem dX8_ask_57 : decode cX8_ask 57 = .ok (.iload 6, 2) := by decide +kernel
theorem dX8_ask_59 : decode cX8_ask 59 = .ok (.iload 5, 2) := by decide +kernel
theorem dX8_ask_61 : decode cX8_ask 61 = .ok (.bipush 100, 2) := by decide +kernel
theorem dX8_ask_63 : decode cX8_ask 63 = .ok (.irem, 1) := by decide +kernel
theorem dX8_ask_64 : decode cX8_ask 64 = .ok (.iload 5, 2) := by decide +kernel
theorem dX8_ask_66 : decode cX8_ask 66 = .ok (.bipush 100, 2) := by decide +kernel
theorem dX8_ask_68 : decode cX8_ask 68 = .ok (.idiv, 1) := by decide +kernel
theorem dX8_ask_69 : decode cX8_ask 69 = .ok (.invokestatic 185, 3) := by decide +kernel
theorem dX8_ask_72 : decode cX8_ask 72 = .ok (.iastore, 1) := by decide +kernel
theorem dX8_ask_73 : decode cX8_ask 73 = .ok (.iinc 6 1, 3) := by decide +kernel
theorem dX8_ask_76 : decode cX8_ask 76 = .ok (.goto (-32), 3) := by decide +kernel
theorem dX8_ask_79 : decode cX8_ask 79 = .ok (.aload_n 0, 1) := by decide +kernel
theorem dX8_ask_80 : decode cX8_ask 80 = .ok (.iload_n 2, 1) := by decide +kernel
theorem dX8_ask_81 : decode cX8_ask 81 = .ok (.invokevirtual 235, 3) := by decide +kernel
theorem dX8_ask_84 : decode cX8_ask 84 = .ok (.istore 6, 2) := by decide +kernel
theorem dX8_ask_86 : decode cX8_ask 86 = .ok (.iload 6, 2) := by decide +kernel
theorem dX8_ask_88 : decode cX8_ask 88 = .ok (.iload 4, 2) := by decide +kernel
theorem dX8_ask_90 : decode cX8_ask 90 = .ok (.if_icmp .ge 8, 3) := by decide +kernel
theorem dX8_ask_93 : decode cX8_ask 93 = .ok (.iload 5, 2) := by decide +kernel
theorem dX8_ask_95 : decode cX8_ask 95 = .ok (.goto 4, 3) := by decide +kernel
theorem dX8_ask_98 : decode cX8_ask 98 = .ok (.iload_n 3, 1) := by decide +kernel
theorem dX8_ask_99 : decode cX8_ask 99 = .ok (.istore_n 3, 1) := by decide +kernel
theorem dX8_ask_100 : decode cX8_ask 100 = .ok (.iload 6, 2) := by decide +kernel
theorem dX8_ask_102 : decode cX8_ask 102 = .ok (.iload 4, 2) := by decide +kernel
theorem dX8_ask_104 : decode cX8_ask 104 = .ok (.if_icmp .ge 8, 3) := by decide +kernel
theorem dX8_ask_107 : decode cX8_ask 107 = .ok (.iload 6, 2) := by decide +kernel
theorem dX8_ask_109 : decode cX8_ask 109 = .ok (.goto 5, 3) := by decide +kernel
theorem dX8_ask_112 : decode cX8_ask 112 = .ok (.iload 4, 2) := by decide +kernel
theorem dX8_ask_114 : decode cX8_ask 114 = .ok (.istore 4, 2) := by decide +kernel
theorem dX8_ask_116 : decode cX8_ask 116 = .ok (.iinc 5 1, 3) := by decide +kernel
theorem dX8_ask_119 : decode cX8_ask 119 = .ok (.goto (-90), 3) := by decide +kernel
theorem dX8_ask_122 : decode cX8_ask 122 = .ok (.iload_n 3, 1) := by decide +kernel
theorem dX8_ask_123 : decode cX8_ask 123 = .ok (.ireturn, 1) := by decide +kernel
theorem dX8_getsBy_0 : decode cX8_getsBy 0 = .ok (.iconst 0, 1) := by decide +kernel
theorem dX8_getsBy_1 : decode cX8_getsBy 1 = .ok (.istore 4, 2) := by decide +kernel
theorem dX8_getsBy_3 : decode cX8_getsBy 3 = .ok (.aload_n 0, 1) := by decide +kernel
theorem dX8_getsBy_4 : decode cX8_getsBy 4 = .ok (.getfield 7, 3) := by decide +kernel
theorem dX8_getsBy_7 : decode cX8_getsBy 7 = .ok (.bipush 17, 2) := by decide +kernel
theorem dX8_getsBy_9 : decode cX8_getsBy 9 = .ok (.iaload, 1) := by decide +kernel
theorem dX8_getsBy_10 : decode cX8_getsBy 10 = .ok (.bipush 24, 2) := by decide +kernel
theorem dX8_getsBy_12 : decode cX8_getsBy 12 = .ok (.idiv, 1) := by decide +kernel
theorem dX8_getsBy_13 : decode cX8_getsBy 13 = .ok (.istore 5, 2) := by decide +kernel
theorem dX8_getsBy_15 : decode cX8_getsBy 15 = .ok (.iconst 0, 1) := by decide +kernel
theorem dX8_getsBy_16 : decode cX8_getsBy 16 = .ok (.istore 6, 2) := by decide +kernel
theorem dX8_getsBy_18 : decode cX8_getsBy 18 = .ok (.iload 6, 2) := by decide +kernel
theorem dX8_getsBy_20 : decode cX8_getsBy 20 = .ok (.aload_n 0, 1) := by decide +kernel
theorem dX8_getsBy_21 : decode cX8_getsBy 21 = .ok (.getfield 7, 3) := by decide +kernel
theorem dX8_getsBy_24 : decode cX8_getsBy 24 = .ok (.iconst 0, 1) := by decide +kernel
theorem dX8_getsBy_25 : decode cX8_getsBy 25 = .ok (.iaload, 1) := by decide +kernel
theorem dX8_getsBy_26 : decode cX8_getsBy 26 = .ok (.if_icmp .ge 82, 3) := by decide +kernel
theorem dX8_getsBy_29 : decode cX8_getsBy 29 = .ok (.aload_n 0, 1) := by decide +kernel
theorem dX8_getsBy_30 : decode cX8_getsBy 30 = .ok (.iconst 0, 1) := by decide +kernel
theorem dX8_getsBy_31 : decode cX8_getsBy 31 = .ok (.iload 6, 2) := by decide +kernel
theorem dX8_getsBy_33 : decode cX8_getsBy 33 = .ok (.aload_n 0, 1) := by decide +kernel
theorem dX8_getsBy_34 : decode cX8_getsBy 34 = .ok (.getfield 7, 3) := by decide +kernel
theorem dX8_getsBy_37 : decode cX8_getsBy 37 = .ok (.bipush 17, 2) := by decide +kernel
theorem dX8_getsBy_39 : decode cX8_getsBy 39 = .ok (.iaload, 1) := by decide +kernel
theorem dX8_getsBy_40 : decode cX8_getsBy 40 = .ok (.invokevirtual 182, 3) := by decide +kernel
theorem dX8_getsBy_43 : decode cX8_getsBy 43 = .ok (.istore 7, 2) := by decide +kernel
theorem dX8_getsBy_45 : decode cX8_getsBy 45 = .ok (.iload_n 2, 1) := by decide +kernel
theorem dX8_getsBy_46 : decode cX8_getsBy 46 = .ok (.iload 7, 2) := by decide +kernel
theorem dX8_getsBy_48 : decode cX8_getsBy 48 = .ok (.iload 5, 2) := by decide +kernel
theorem dX8_getsBy_50 : decode cX8_getsBy 50 = .ok (.invokestatic 185, 3) := by decide +kernel
theorem dX8_getsBy_53 : decode cX8_getsBy 53 = .ok (.istore 8, 2) := by decide +kernel
theorem dX8_getsBy_55 : decode cX8_getsBy 55 = .ok (.iload_n 3, 1) := by decide +kernel
theorem dX8_getsBy_56 : decode cX8_getsBy 56 = .ok (.iload 7, 2) := by decide +kernel
theorem dX8_getsBy_58 : decode cX8_getsBy 58 = .ok (.iload 5, 2) := by decide +kernel
theorem dX8_getsBy_60 : decode cX8_getsBy 60 = .ok (.invokestatic 185, 3) := by decide +kernel
theorem dX8_getsBy_63 : decode cX8_getsBy 63 = .ok (.istore 9, 2) := by decide +kernel
theorem dX8_getsBy_65 : decode cX8_getsBy 65 = .ok (.iload 4, 2) := by decide +kernel
theorem dX8_getsBy_67 : decode cX8_getsBy 67 = .ok (.iload 8, 2) := by decide +kernel
theorem dX8_getsBy_69 : decode cX8_getsBy 69 = .ok (.iload 9, 2) := by decide +kernel
theorem dX8_getsBy_71 : decode cX8_getsBy 71 = .ok (.iadd, 1) := by decide +kernel
theorem dX8_getsBy_72 : decode cX8_getsBy 72 = .ok (.iconst 2, 1) := by decide +kernel
theorem dX8_getsBy_73 : decode cX8_getsBy 73 = .ok (.aload_n 0, 1) := by decide +kernel
theorem dX8_getsBy_74 : decode cX8_getsBy 74 = .ok (.iconst 0, 1) := by decide +kernel
theorem dX8_getsBy_75 : decode cX8_getsBy 75 = .ok (.iload 6, 2) := by decide +kernel
theorem dX8_getsBy_77 : decode cX8_getsBy 77 = .ok (.invokevirtual 194, 3) := by decide +kernel
theorem dX8_getsBy_80 : decode cX8_getsBy 80 = .ok (.imul, 1) := by decide +kernel
theorem dX8_getsBy_81 : decode cX8_getsBy 81 = .ok (.if_icmp .le 7, 3) := by decide +kernel
theorem dX8_getsBy_84 : decode cX8_getsBy 84 = .ok (.iconst 0, 1) := by decide +kernel
theorem dX8_getsBy_85 : decode cX8_getsBy 85 = .ok (.goto 14, 3) := by decide +kernel
theorem dX8_getsBy_88 : decode cX8_getsBy 88 = .ok (.iload_n 1, 1) := by decide +kernel
theorem dX8_getsBy_89 : decode cX8_getsBy 89 = .ok (.ifCond .ne 8, 3) := by decide +kernel
theorem dX8_getsBy_92 : decode cX8_getsBy 92 = .ok (.iload 8, 2) := by decide +kernel
theorem dX8_getsBy_94 : decode cX8_getsBy 94 = .ok (.goto 5, 3) := by decide +kernel
theorem dX8_getsBy_97 : decode cX8_getsBy 97 = .ok (.iload 9, 2) := by decide +kernel
theorem dX8_getsBy_99 : decode cX8_getsBy 99 = .ok (.iadd, 1) := by decide +kernel
theorem dX8_getsBy_100 : decode cX8_getsBy 100 = .ok (.istore 4, 2) := by decide +kernel
theorem dX8_getsBy_102 : decode cX8_getsBy 102 = .ok (.iinc 6 1, 3) := by decide +kernel
theorem dX8_getsBy_105 : decode cX8_getsBy 105 = .ok (.goto (-87), 3) := by decide +kernel
theorem dX8_getsBy_108 : decode cX8_getsBy 108 = .ok (.iload 4, 2) := by decide +kernel
theorem dX8_getsBy_110 : decode cX8_getsBy 110 = .ok (.ireturn, 1) := by decide +kernel
theorem dX8_rests_0 : decode cX8_rests 0 = .ok (.iconst 1, 1) := by decide +kernel
theorem dX8_rests_1 : decode cX8_rests 1 = .ok (.istore_n 3, 1) := by decide +kernel
theorem dX8_rests_2 : decode cX8_rests 2 = .ok (.iconst 0, 1) := by decide +kernel
theorem dX8_rests_3 : decode cX8_rests 3 = .ok (.istore 4, 2) := by decide +kernel
theorem dX8_rests_5 : decode cX8_rests 5 = .ok (.iload 4, 2) := by decide +kernel
theorem dX8_rests_7 : decode cX8_rests 7 = .ok (.bipush 6, 2) := by decide +kernel
theorem dX8_rests_9 : decode cX8_rests 9 = .ok (.if_icmp .ge 55, 3) := by decide +kernel
theorem dX8_rests_12 : decode cX8_rests 12 = .ok (.iload_n 3, 1) := by decide +kernel
theorem dX8_rests_13 : decode cX8_rests 13 = .ok (.ifCond .eq 43, 3) := by decide +kernel
theorem dX8_rests_16 : decode cX8_rests 16 = .ok (.aload_n 0, 1) := by decide +kernel
theorem dX8_rests_17 : decode cX8_rests 17 = .ok (.iconst 0, 1) := by decide +kernel
theorem dX8_rests_18 : decode cX8_rests 18 = .ok (.iload 4, 2) := by decide +kernel
theorem dX8_rests_20 : decode cX8_rests 20 = .ok (.iload_n 2, 1) := by decide +kernel
theorem dX8_rests_21 : decode cX8_rests 21 = .ok (.invokevirtual 241, 3) := by decide +kernel
theorem dX8_rests_24 : decode cX8_rests 24 = .ok (.aload_n 0, 1) := by decide +kernel
theorem dX8_rests_25 : decode cX8_rests 25 = .ok (.iconst 0, 1) := by decide +kernel
theorem dX8_rests_26 : decode cX8_rests 26 = .ok (.iload_n 1, 1) := by decide +kernel
theorem dX8_rests_27 : decode cX8_rests 27 = .ok (.iload_n 2, 1) := by decide +kernel
theorem dX8_rests_28 : decode cX8_rests 28 = .ok (.invokevirtual 241, 3) := by decide +kernel
theorem dX8_rests_31 : decode cX8_rests 31 = .ok (.if_icmp .gt 25, 3) := by decide +kernel
theorem dX8_rests_34 : decode cX8_rests 34 = .ok (.aload_n 0, 1) := by decide +kernel
theorem dX8_rests_35 : decode cX8_rests 35 = .ok (.iconst 1, 1) := by decide +kernel
theorem dX8_rests_36 : decode cX8_rests 36 = .ok (.iload_n 1, 1) := by decide +kernel
theorem dX8_rests_37 : decode cX8_rests 37 = .ok (.iload 4, 2) := by decide +kernel
theorem dX8_rests_39 : decode cX8_rests 39 = .ok (.invokevirtual 241, 3) := by decide +kernel
theorem dX8_rests_42 : decode cX8_rests 42 = .ok (.aload_n 0, 1) := by decide +kernel
theorem dX8_rests_43 : decode cX8_rests 43 = .ok (.iconst 1, 1) := by decide +kernel
theorem dX8_rests_44 : decode cX8_rests 44 = .ok (.iload_n 1, 1) := by decide +kernel
theorem dX8_rests_45 : decode cX8_rests 45 = .ok (.iload_n 2, 1) := by decide +kernel
theorem dX8_rests_46 : decode cX8_rests 46 = .ok (.invokevirtual 241, 3) := by decide +kernel
theorem dX8_rests_49 : decode cX8_rests 49 = .ok (.if_icmp .gt 7, 3) := by decide +kernel
theorem dX8_rests_52 : decode cX8_rests 52 = .ok (.iconst 1, 1) := by decide +kernel
theorem dX8_rests_53 : decode cX8_rests 53 = .ok (.goto 4, 3) := by decide +kernel
theorem dX8_rests_56 : decode cX8_rests 56 = .ok (.iconst 0, 1) := by decide +kernel
theorem dX8_rests_57 : decode cX8_rests 57 = .ok (.istore_n 3, 1) := by decide +kernel
theorem dX8_rests_58 : decode cX8_rests 58 = .ok (.iinc 4 1, 3) := by decide +kernel
theorem dX8_rests_61 : decode cX8_rests 61 = .ok (.goto (-56), 3) := by decide +kernel
theorem dX8_rests_64 : decode cX8_rests 64 = .ok (.iload_n 3, 1) := by decide +kernel
theorem dX8_rests_65 : decode cX8_rests 65 = .ok (.ireturn, 1) := by decide +kernel
theorem dX8_ends_0 : decode cX8_ends 0 = .ok (.iload_n 1, 1) := by decide +kernel
theorem dX8_ends_1 : decode cX8_ends 1 = .ok (.iconst (-1), 1) := by decide +kernel
theorem dX8_ends_2 : decode cX8_ends 2 = .ok (.if_icmp .ge 10, 3) := by decide +kernel
theorem dX8_ends_5 : decode cX8_ends 5 = .ok (.aload_n 0, 1) := by decide +kernel
theorem dX8_ends_6 : decode cX8_ends 6 = .ok (.bipush (-10), 2) := by decide +kernel
theorem dX8_ends_8 : decode cX8_ends 8 = .ok (.invokevirtual 78, 3) := by decide +kernel
theorem dX8_ends_11 : decode cX8_ends 11 = .ok (.ireturn, 1) := by decide +kernel
theorem dX8_ends_12 : decode cX8_ends 12 = .ok (.iconst 0, 1) := by decide +kernel
theorem dX8_ends_13 : decode cX8_ends 13 = .ok (.istore_n 2, 1) := by decide +kernel
theorem dX8_ends_14 : decode cX8_ends 14 = .ok (.iconst 0, 1) := by decide +kernel
theorem dX8_ends_15 : decode cX8_ends 15 = .ok (.istore_n 3, 1) := by decide +kernel
theorem dX8_ends_16 : decode cX8_ends 16 = .ok (.iload_n 3, 1) := by decide +kernel
theorem dX8_ends_17 : decode cX8_ends 17 = .ok (.bipush 6, 2) := by decide +kernel
theorem dX8_ends_19 : decode cX8_ends 19 = .ok (.if_icmp .ge 51, 3) := by decide +kernel
theorem dX8_ends_22 : decode cX8_ends 22 = .ok (.iconst 0, 1) := by decide +kernel
theorem dX8_ends_23 : decode cX8_ends 23 = .ok (.istore 4, 2) := by decide +kernel
theorem dX8_ends_25 : decode cX8_ends 25 = .ok (.iload 4, 2) := by decide +kernel
theorem dX8_ends_27 : decode cX8_ends 27 = .ok (.bipush 6, 2) := by decide +kernel
theorem dX8_ends_29 : decode cX8_ends 29 = .ok (.if_icmp .ge 35, 3) := by decide +kernel
theorem dX8_ends_32 : decode cX8_ends 32 = .ok (.aload_n 0, 1) := by decide +kernel
theorem dX8_ends_33 : decode cX8_ends 33 = .ok (.iload_n 3, 1) := by decide +kernel
theorem dX8_ends_34 : decode cX8_ends 34 = .ok (.iload 4, 2) := by decide +kernel
theorem dX8_ends_36 : decode cX8_ends 36 = .ok (.invokevirtual 244, 3) := by decide +kernel
theorem dX8_ends_39 : decode cX8_ends 39 = .ok (.ifCond .eq 19, 3) := by decide +kernel
theorem dX8_ends_42 : decode cX8_ends 42 = .ok (.iload_n 2, 1) := by decide +kernel
theorem dX8_ends_43 : decode cX8_ends 43 = .ok (.iload_n 1, 1) := by decide +kernel
theorem dX8_ends_44 : decode cX8_ends 44 = .ok (.if_icmp .ne 11, 3) := by decide +kernel
theorem dX8_ends_47 : decode cX8_ends 47 = .ok (.bipush 10, 2) := by decide +kernel
theorem dX8_ends_49 : decode cX8_ends 49 = .ok (.iload_n 3, 1) := by decide +kernel
theorem dX8_ends_50 : decode cX8_ends 50 = .ok (.imul, 1) := by decide +kernel
theorem dX8_ends_51 : decode cX8_ends 51 = .ok (.iload 4, 2) := by decide +kernel
theorem dX8_ends_53 : decode cX8_ends 53 = .ok (.iadd, 1) := by decide +kernel
theorem dX8_ends_54 : decode cX8_ends 54 = .ok (.ireturn, 1) := by decide +kernel
theorem dX8_ends_55 : decode cX8_ends 55 = .ok (.iinc 2 1, 3) := by decide +kernel
theorem dX8_ends_58 : decode cX8_ends 58 = .ok (.iinc 4 1, 3) := by decide +kernel
theorem dX8_ends_61 : decode cX8_ends 61 = .ok (.goto (-36), 3) := by decide +kernel
theorem dX8_ends_64 : decode cX8_ends 64 = .ok (.iinc 3 1, 3) := by decide +kernel
theorem dX8_ends_67 : decode cX8_ends 67 = .ok (.goto (-51), 3) := by decide +kernel
theorem dX8_ends_70 : decode cX8_ends 70 = .ok (.iload_n 1, 1) := by decide +kernel
theorem dX8_ends_71 : decode cX8_ends 71 = .ok (.iconst (-1), 1) := by decide +kernel
theorem dX8_ends_72 : decode cX8_ends 72 = .ok (.if_icmp .ne 7, 3) := by decide +kernel
theorem dX8_ends_75 : decode cX8_ends 75 = .ok (.iload_n 2, 1) := by decide +kernel
theorem dX8_ends_76 : decode cX8_ends 76 = .ok (.goto 5, 3) := by decide +kernel
theorem dX8_ends_79 : decode cX8_ends 79 = .ok (.bipush (-5), 2) := by decide +kernel
theorem dX8_ends_81 : decode cX8_ends 81 = .ok (.ireturn, 1) := by decide +kernel
theorem dX8_scissors_0 : decode cX8_scissors 0 = .ok (.iload_n 1, 1) := by decide +kernel
theorem dX8_scissors_1 : decode cX8_scissors 1 = .ok (.i2l, 1) := by decide +kernel
theorem dX8_scissors_2 : decode cX8_scissors 2 = .ok (.lconst 0, 1) := by decide +kernel
theorem dX8_scissors_3 : decode cX8_scissors 3 = .ok (.ldc2_w 247, 3) := by decide +kernel
theorem dX8_scissors_6 : decode cX8_scissors 6 = .ok (.invokestatic 56, 3) := by decide +kernel
theorem dX8_scissors_9 : decode cX8_scissors 9 = .ok (.ifCond .ne 10, 3) := by decide +kernel
theorem dX8_scissors_12 : decode cX8_scissors 12 = .ok (.aload_n 0, 1) := by decide +kernel
theorem dX8_scissors_13 : decode cX8_scissors 13 = .ok (.bipush (-2), 2) := by decide +kernel
theorem dX8_scissors_15 : decode cX8_scissors 15 = .ok (.invokevirtual 78, 3) := by decide +kernel
theorem dX8_scissors_18 : decode cX8_scissors 18 = .ok (.ireturn, 1) := by decide +kernel
theorem dX8_scissors_19 : decode cX8_scissors 19 = .ok (.lconst 0, 1) := by decide +kernel
theorem dX8_scissors_20 : decode cX8_scissors 20 = .ok (.lstore_n 2, 1) := by decide +kernel
theorem dX8_scissors_21 : decode cX8_scissors 21 = .ok (.iconst 0, 1) := by decide +kernel
theorem dX8_scissors_22 : decode cX8_scissors 22 = .ok (.istore 4, 2) := by decide +kernel
theorem dX8_scissors_24 : decode cX8_scissors 24 = .ok (.iload 4, 2) := by decide +kernel
theorem dX8_scissors_26 : decode cX8_scissors 26 = .ok (.aload_n 0, 1) := by decide +kernel
theorem dX8_scissors_27 : decode cX8_scissors 27 = .ok (.getfield 7, 3) := by decide +kernel
theorem dX8_scissors_30 : decode cX8_scissors 30 = .ok (.iconst 0, 1) := by decide +kernel
theorem dX8_scissors_31 : decode cX8_scissors 31 = .ok (.iaload, 1) := by decide +kernel
theorem dX8_scissors_32 : decode cX8_scissors 32 = .ok (.if_icmp .ge 50, 3) := by decide +kernel
theorem dX8_scissors_35 : decode cX8_scissors 35 = .ok (.lload_n 2, 1) := by decide +kernel
theorem dX8_scissors_36 : decode cX8_scissors 36 = .ok (.iload_n 1, 1) := by decide +kernel
theorem dX8_scissors_37 : decode cX8_scissors 37 = .ok (.aload_n 0, 1) := by decide +kernel
theorem dX8_scissors_38 : decode cX8_scissors 38 = .ok (.getfield 7, 3) := by decide +kernel
theorem dX8_scissors_41 : decode cX8_scissors 41 = .ok (.bipush 6, 2) := by decide +kernel
theorem dX8_scissors_43 : decode cX8_scissors 43 = .ok (.iload 4, 2) := by decide +kernel
theorem dX8_scissors_45 : decode cX8_scissors 45 = .ok (.iadd, 1) := by decide +kernel
theorem dX8_scissors_46 : decode cX8_scissors 46 = .ok (.iaload, 1) := by decide +kernel
theorem dX8_scissors_47 : decode cX8_scissors 47 = .ok (.iconst 2, 1) := by decide +kernel
theorem dX8_scissors_48 : decode cX8_scissors 48 = .ok (.idiv, 1) := by decide +kernel
theorem dX8_scissors_49 : decode cX8_scissors 49 = .ok (.aload_n 0, 1) := by decide +kernel
theorem dX8_scissors_50 : decode cX8_scissors 50 = .ok (.getfield 7, 3) := by decide +kernel
theorem dX8_scissors_53 : decode cX8_scissors 53 = .ok (.bipush 11, 2) := by decide +kernel
theorem dX8_scissors_55 : decode cX8_scissors 55 = .ok (.iaload, 1) := by decide +kernel
theorem dX8_scissors_56 : decode cX8_scissors 56 = .ok (.invokestatic 188, 3) := by decide +kernel
theorem dX8_scissors_59 : decode cX8_scissors 59 = .ok (.imul, 1) := by decide +kernel
theorem dX8_scissors_60 : decode cX8_scissors 60 = .ok (.bipush 10, 2) := by decide +kernel
theorem dX8_scissors_62 : decode cX8_scissors 62 = .ok (.iload_n 1, 1) := by decide +kernel
theorem dX8_scissors_63 : decode cX8_scissors 63 = .ok (.isub, 1) := by decide +kernel
theorem dX8_scissors_64 : decode cX8_scissors 64 = .ok (.aload_n 0, 1) := by decide +kernel
theorem dX8_scissors_65 : decode cX8_scissors 65 = .ok (.iconst 0, 1) := by decide +kernel
theorem dX8_scissors_66 : decode cX8_scissors 66 = .ok (.iload 4, 2) := by decide +kernel
theorem dX8_scissors_68 : decode cX8_scissors 68 = .ok (.invokevirtual 194, 3) := by decide +kernel
theorem dX8_scissors_71 : decode cX8_scissors 71 = .ok (.imul, 1) := by decide +kernel
theorem dX8_scissors_72 : decode cX8_scissors 72 = .ok (.iadd, 1) := by decide +kernel
theorem dX8_scissors_73 : decode cX8_scissors 73 = .ok (.i2l, 1) := by decide +kernel
theorem dX8_scissors_74 : decode cX8_scissors 74 = .ok (.ladd, 1) := by decide +kernel
theorem dX8_scissors_75 : decode cX8_scissors 75 = .ok (.lstore_n 2, 1) := by decide +kernel
theorem dX8_scissors_76 : decode cX8_scissors 76 = .ok (.iinc 4 1, 3) := by decide +kernel
theorem dX8_scissors_79 : decode cX8_scissors 79 = .ok (.goto (-55), 3) := by decide +kernel
theorem dX8_scissors_82 : decode cX8_scissors 82 = .ok (.lload_n 2, 1) := by decide +kernel
theorem dX8_scissors_83 : decode cX8_scissors 83 = .ok (.lstore 4, 2) := by decide +kernel
theorem dX8_scissors_85 : decode cX8_scissors 85 = .ok (.ldc2_w 247, 3) := by decide +kernel
theorem dX8_scissors_88 : decode cX8_scissors 88 = .ok (.lstore 6, 2) := by decide +kernel
theorem dX8_scissors_90 : decode cX8_scissors 90 = .ok (.lload 6, 2) := by decide +kernel
theorem dX8_scissors_92 : decode cX8_scissors 92 = .ok (.lconst 0, 1) := by decide +kernel
theorem dX8_scissors_93 : decode cX8_scissors 93 = .ok (.lcmp, 1) := by decide +kernel
theorem dX8_scissors_94 : decode cX8_scissors 94 = .ok (.ifCond .eq 21, 3) := by decide +kernel
theorem dX8_scissors_97 : decode cX8_scissors 97 = .ok (.lload 4, 2) := by decide +kernel
theorem dX8_scissors_99 : decode cX8_scissors 99 = .ok (.lload 6, 2) := by decide +kernel
theorem dX8_scissors_101 : decode cX8_scissors 101 = .ok (.lrem, 1) := by decide +kernel
theorem dX8_scissors_102 : decode cX8_scissors 102 = .ok (.lstore 8, 2) := by decide +kernel
theorem dX8_scissors_104 : decode cX8_scissors 104 = .ok (.lload 6, 2) := by decide +kernel
theorem dX8_scissors_106 : decode cX8_scissors 106 = .ok (.lstore 4, 2) := by decide +kernel
theorem dX8_scissors_108 : decode cX8_scissors 108 = .ok (.lload 8, 2) := by decide +kernel
theorem dX8_scissors_110 : decode cX8_scissors 110 = .ok (.lstore 6, 2) := by decide +kernel
theorem dX8_scissors_112 : decode cX8_scissors 112 = .ok (.goto (-22), 3) := by decide +kernel
theorem dX8_scissors_115 : decode cX8_scissors 115 = .ok (.aload_n 0, 1) := by decide +kernel
theorem dX8_scissors_116 : decode cX8_scissors 116 = .ok (.lload_n 2, 1) := by decide +kernel
theorem dX8_scissors_117 : decode cX8_scissors 117 = .ok (.lload 4, 2) := by decide +kernel
theorem dX8_scissors_119 : decode cX8_scissors 119 = .ok (.ldiv, 1) := by decide +kernel
theorem dX8_scissors_120 : decode cX8_scissors 120 = .ok (.putfield 20, 3) := by decide +kernel
theorem dX8_scissors_123 : decode cX8_scissors 123 = .ok (.aload_n 0, 1) := by decide +kernel
theorem dX8_scissors_124 : decode cX8_scissors 124 = .ok (.ldc2_w 247, 3) := by decide +kernel
theorem dX8_scissors_127 : decode cX8_scissors 127 = .ok (.lload 4, 2) := by decide +kernel
theorem dX8_scissors_129 : decode cX8_scissors 129 = .ok (.ldiv, 1) := by decide +kernel
theorem dX8_scissors_130 : decode cX8_scissors 130 = .ok (.putfield 24, 3) := by decide +kernel
theorem dX8_scissors_133 : decode cX8_scissors 133 = .ok (.iconst 1, 1) := by decide +kernel
theorem dX8_scissors_134 : decode cX8_scissors 134 = .ok (.ireturn, 1) := by decide +kernel
theorem dX8_nights_0 : decode cX8_nights 0 = .ok (.iload_n 1, 1) := by decide +kernel
theorem dX8_nights_1 : decode cX8_nights 1 = .ok (.i2l, 1) := by decide +kernel
theorem dX8_nights_2 : decode cX8_nights 2 = .ok (.lconst 0, 1) := by decide +kernel
theorem dX8_nights_3 : decode cX8_nights 3 = .ok (.ldc2_w 249, 3) := by decide +kernel
theorem dX8_nights_6 : decode cX8_nights 6 = .ok (.invokestatic 56, 3) := by decide +kernel
theorem dX8_nights_9 : decode cX8_nights 9 = .ok (.ifCond .eq 15, 3) := by decide +kernel
theorem dX8_nights_12 : decode cX8_nights 12 = .ok (.iload_n 2, 1) := by decide +kernel
theorem dX8_nights_13 : decode cX8_nights 13 = .ok (.i2l, 1) := by decide +kernel
theorem dX8_nights_14 : decode cX8_nights 14 = .ok (.lconst 0, 1) := by decide +kernel
theorem dX8_nights_15 : decode cX8_nights 15 = .ok (.ldc2_w 74, 3) := by decide +kernel
theorem dX8_nights_18 : decode cX8_nights 18 = .ok (.invokestatic 56, 3) := by decide +kernel
theorem dX8_nights_21 : decode cX8_nights 21 = .ok (.ifCond .ne 10, 3) := by decide +kernel
theorem dX8_nights_24 : decode cX8_nights 24 = .ok (.aload_n 0, 1) := by decide +kernel
theorem dX8_nights_25 : decode cX8_nights 25 = .ok (.bipush (-2), 2) := by decide +kernel
theorem dX8_nights_27 : decode cX8_nights 27 = .ok (.invokevirtual 78, 3) := by decide +kernel
theorem dX8_nights_30 : decode cX8_nights 30 = .ok (.ireturn, 1) := by decide +kernel
theorem dX8_nights_31 : decode cX8_nights 31 = .ok (.iload_n 1, 1) := by decide +kernel
theorem dX8_nights_32 : decode cX8_nights 32 = .ok (.i2l, 1) := by decide +kernel
theorem dX8_nights_33 : decode cX8_nights 33 = .ok (.lstore_n 3, 1) := by decide +kernel
theorem dX8_nights_34 : decode cX8_nights 34 = .ok (.aload_n 0, 1) := by decide +kernel
theorem dX8_nights_35 : decode cX8_nights 35 = .ok (.getfield 7, 3) := by decide +kernel
theorem dX8_nights_38 : decode cX8_nights 38 = .ok (.bipush 14, 2) := by decide +kernel
theorem dX8_nights_40 : decode cX8_nights 40 = .ok (.iaload, 1) := by decide +kernel
theorem dX8_nights_41 : decode cX8_nights 41 = .ok (.istore 5, 2) := by decide +kernel
theorem dX8_nights_43 : decode cX8_nights 43 = .ok (.iconst 0, 1) := by decide +kernel
theorem dX8_nights_44 : decode cX8_nights 44 = .ok (.istore 6, 2) := by decide +kernel
theorem dX8_nights_46 : decode cX8_nights 46 = .ok (.iconst 0, 1) := by decide +kernel
theorem dX8_nights_47 : decode cX8_nights 47 = .ok (.istore 7, 2) := by decide +kernel
theorem dX8_nights_49 : decode cX8_nights 49 = .ok (.iload 7, 2) := by decide +kernel
theorem dX8_nights_51 : decode cX8_nights 51 = .ok (.iload_n 2, 1) := by decide +kernel
theorem dX8_nights_52 : decode cX8_nights 52 = .ok (.if_icmp .ge 116, 3) := by decide +kernel
theorem dX8_nights_55 : decode cX8_nights 55 = .ok (.lload_n 3, 1) := by decide +kernel
theorem dX8_nights_56 : decode cX8_nights 56 = .ok (.ldc2_w 251, 3) := by decide +kernel
theorem dX8_nights_59 : decode cX8_nights 59 = .ok (.lmul, 1) := by decide +kernel
theorem dX8_nights_60 : decode cX8_nights 60 = .ok (.ldc2_w 253, 3) := by decide +kernel
theorem dX8_nights_63 : decode cX8_nights 63 = .ok (.ladd, 1) := by decide +kernel
theorem dX8_nights_64 : decode cX8_nights 64 = .ok (.ldc2_w 255, 3) := by decide +kernel
theorem dX8_nights_67 : decode cX8_nights 67 = .ok (.lrem, 1) := by decide +kernel
theorem dX8_nights_68 : decode cX8_nights 68 = .ok (.lstore_n 3, 1) := by decide +kernel
theorem dX8_nights_69 : decode cX8_nights 69 = .ok (.lload_n 3, 1) := by decide +kernel
theorem dX8_nights_70 : decode cX8_nights 70 = .ok (.ldc2_w 257, 3) := by decide +kernel
theorem dX8_nights_73 : decode cX8_nights 73 = .ok (.ldiv, 1) := by decide +kernel
theorem dX8_nights_74 : decode cX8_nights 74 = .ok (.ldc2_w 208, 3) := by decide +kernel
theorem dX8_nights_77 : decode cX8_nights 77 = .ok (.lrem, 1) := by decide +kernel
theorem dX8_nights_78 : decode cX8_nights 78 = .ok (.l2i, 1) := by decide +kernel
theorem dX8_nights_79 : decode cX8_nights 79 = .ok (.istore 8, 2) := by decide +kernel
theorem dX8_nights_81 : decode cX8_nights 81 = .ok (.iload 8, 2) := by decide +kernel
theorem dX8_nights_83 : decode cX8_nights 83 = .ok (.aload_n 0, 1) := by decide +kernel
theorem dX8_nights_84 : decode cX8_nights 84 = .ok (.getfield 7, 3) := by decide +kernel
theorem dX8_nights_87 : decode cX8_nights 87 = .ok (.iconst 0, 1) := by decide +kernel
theorem dX8_nights_88 : decode cX8_nights 88 = .ok (.iaload, 1) := by decide +kernel
theorem dX8_nights_89 : decode cX8_nights 89 = .ok (.if_icmp .ge 73, 3) := by decide +kernel
theorem dX8_nights_92 : decode cX8_nights 92 = .ok (.aload_n 0, 1) := by decide +kernel
theorem dX8_nights_93 : decode cX8_nights 93 = .ok (.iconst 0, 1) := by decide +kernel
theorem dX8_nights_94 : decode cX8_nights 94 = .ok (.iload 8, 2) := by decide +kernel
theorem dX8_nights_96 : decode cX8_nights 96 = .ok (.aload_n 0, 1) := by decide +kernel
theorem dX8_nights_97 : decode cX8_nights 97 = .ok (.getfield 7, 3) := by decide +kernel
theorem dX8_nights_100 : decode cX8_nights 100 = .ok (.bipush 17, 2) := by decide +kernel
theorem dX8_nights_102 : decode cX8_nights 102 = .ok (.iaload, 1) := by decide +kernel
theorem dX8_nights_103 : decode cX8_nights 103 = .ok (.iload 7, 2) := by decide +kernel
theorem dX8_nights_105 : decode cX8_nights 105 = .ok (.iadd, 1) := by decide +kernel
theorem dX8_nights_106 : decode cX8_nights 106 = .ok (.invokevirtual 191, 3) := by decide +kernel
theorem dX8_nights_109 : decode cX8_nights 109 = .ok (.istore 9, 2) := by decide +kernel
theorem dX8_nights_111 : decode cX8_nights 111 = .ok (.iload 5, 2) := by decide +kernel
theorem dX8_nights_113 : decode cX8_nights 113 = .ok (.iload 9, 2) := by decide +kernel
theorem dX8_nights_115 : decode cX8_nights 115 = .ok (.if_icmp .lt 7, 3) := by decide +kernel
theorem dX8_nights_118 : decode cX8_nights 118 = .ok (.iconst 1, 1) := by decide +kernel
theorem dX8_nights_119 : decode cX8_nights 119 = .ok (.goto 4, 3) := by decide +kernel
theorem dX8_nights_122 : decode cX8_nights 122 = .ok (.iconst 0, 1) := by decide +kernel
theorem dX8_nights_123 : decode cX8_nights 123 = .ok (.istore 10, 2) := by decide +kernel
theorem dX8_nights_125 : decode cX8_nights 125 = .ok (.iload 6, 2) := by decide +kernel
theorem dX8_nights_127 : decode cX8_nights 127 = .ok (.iload 10, 2) := by decide +kernel
theorem dX8_nights_129 : decode cX8_nights 129 = .ok (.ifCond .eq 13, 3) := by decide +kernel
theorem dX8_nights_132 : decode cX8_nights 132 = .ok (.aload_n 0, 1) := by decide +kernel
theorem dX8_nights_133 : decode cX8_nights 133 = .ok (.iconst 0, 1) := by decide +kernel
theorem dX8_nights_134 : decode cX8_nights 134 = .ok (.iload 8, 2) := by decide +kernel
theorem dX8_nights_136 : decode cX8_nights 136 = .ok (.invokevirtual 194, 3) := by decide +kernel
theorem dX8_nights_139 : decode cX8_nights 139 = .ok (.goto 4, 3) := by decide +kernel
theorem dX8_nights_142 : decode cX8_nights 142 = .ok (.iconst 0, 1) := by decide +kernel
theorem dX8_nights_143 : decode cX8_nights 143 = .ok (.iadd, 1) := by decide +kernel
theorem dX8_nights_144 : decode cX8_nights 144 = .ok (.istore 6, 2) := by decide +kernel
theorem dX8_nights_146 : decode cX8_nights 146 = .ok (.iload 5, 2) := by decide +kernel
theorem dX8_nights_148 : decode cX8_nights 148 = .ok (.iload 10, 2) := by decide +kernel
theorem dX8_nights_150 : decode cX8_nights 150 = .ok (.ifCond .eq 8, 3) := by decide +kernel
theorem dX8_nights_153 : decode cX8_nights 153 = .ok (.iload 9, 2) := by decide +kernel
theorem dX8_nights_155 : decode cX8_nights 155 = .ok (.goto 4, 3) := by decide +kernel
theorem dX8_nights_158 : decode cX8_nights 158 = .ok (.iconst 0, 1) := by decide +kernel
theorem dX8_nights_159 : decode cX8_nights 159 = .ok (.isub, 1) := by decide +kernel
theorem dX8_nights_160 : decode cX8_nights 160 = .ok (.istore 5, 2) := by decide +kernel
theorem dX8_nights_162 : decode cX8_nights 162 = .ok (.iinc 7 1, 3) := by decide +kernel
theorem dX8_nights_165 : decode cX8_nights 165 = .ok (.goto (-116), 3) := by decide +kernel
theorem dX8_nights_168 : decode cX8_nights 168 = .ok (.iload 6, 2) := by decide +kernel
theorem dX8_nights_170 : decode cX8_nights 170 = .ok (.ireturn, 1) := by decide +kernel
theorem dX8_part_0 : decode cX8_part 0 = .ok (.iload_n 1, 1) := by decide +kernel
theorem dX8_part_1 : decode cX8_part 1 = .ok (.ifCond .ne 10, 3) := by decide +kernel
theorem dX8_part_4 : decode cX8_part 4 = .ok (.aload_n 0, 1) := by decide +kernel
theorem dX8_part_5 : decode cX8_part 5 = .ok (.getfield 20, 3) := by decide +kernel
theorem dX8_part_8 : decode cX8_part 8 = .ok (.goto 22, 3) := by decide +kernel
theorem dX8_part_11 : decode cX8_part 11 = .ok (.iload_n 1, 1) := by decide +kernel
theorem dX8_part_12 : decode cX8_part 12 = .ok (.iconst 1, 1) := by decide +kernel
theorem dX8_part_13 : decode cX8_part 13 = .ok (.if_icmp .ne 10, 3) := by decide +kernel
theorem dX8_part_16 : decode cX8_part 16 = .ok (.aload_n 0, 1) := by decide +kernel
theorem dX8_part_17 : decode cX8_part 17 = .ok (.getfield 24, 3) := by decide +kernel
theorem dX8_part_20 : decode cX8_part 20 = .ok (.goto 10, 3) := by decide +kernel
theorem dX8_part_23 : decode cX8_part 23 = .ok (.aload_n 0, 1) := by decide +kernel
theorem dX8_part_24 : decode cX8_part 24 = .ok (.bipush (-2), 2) := by decide +kernel
theorem dX8_part_26 : decode cX8_part 26 = .ok (.invokevirtual 78, 3) := by decide +kernel
theorem dX8_part_29 : decode cX8_part 29 = .ok (.i2l, 1) := by decide +kernel
theorem dX8_part_30 : decode cX8_part 30 = .ok (.lreturn, 1) := by decide +kernel
theorem dX8_image_0 : decode cX8_image 0 = .ok (.iload_n 1, 1) := by decide +kernel
theorem dX8_image_1 : decode cX8_image 1 = .ok (.i2l, 1) := by decide +kernel
theorem dX8_image_2 : decode cX8_image 2 = .ok (.lconst 0, 1) := by decide +kernel
theorem dX8_image_3 : decode cX8_image 3 = .ok (.lconst 1, 1) := by decide +kernel
theorem dX8_image_4 : decode cX8_image 4 = .ok (.invokestatic 56, 3) := by decide +kernel
theorem dX8_image_7 : decode cX8_image 7 = .ok (.ifCond .ne 10, 3) := by decide +kernel
theorem dX8_image_10 : decode cX8_image 10 = .ok (.aload_n 0, 1) := by decide +kernel
theorem dX8_image_11 : decode cX8_image 11 = .ok (.bipush (-2), 2) := by decide +kernel
theorem dX8_image_13 : decode cX8_image 13 = .ok (.invokevirtual 78, 3) := by decide +kernel
theorem dX8_image_16 : decode cX8_image 16 = .ok (.ireturn, 1) := by decide +kernel
theorem dX8_image_17 : decode cX8_image 17 = .ok (.aload_n 0, 1) := by decide +kernel
theorem dX8_image_18 : decode cX8_image 18 = .ok (.iconst 0, 1) := by decide +kernel
theorem dX8_image_19 : decode cX8_image 19 = .ok (.bipush 114, 2) := by decide +kernel
theorem dX8_image_21 : decode cX8_image 21 = .ok (.bipush 114, 2) := by decide +kernel
theorem dX8_image_23 : decode cX8_image 23 = .ok (.iload_n 1, 1) := by decide +kernel
theorem dX8_image_24 : decode cX8_image 24 = .ok (.imul, 1) := by decide +kernel
theorem dX8_image_25 : decode cX8_image 25 = .ok (.iadd, 1) := by decide +kernel
theorem dX8_image_26 : decode cX8_image 26 = .ok (.invokevirtual 175, 3) := by decide +kernel
theorem dX8_image_29 : decode cX8_image 29 = .ok (.aload_n 0, 1) := by decide +kernel
theorem dX8_image_30 : decode cX8_image 30 = .ok (.getfield 13, 3) := by decide +kernel
theorem dX8_image_33 : decode cX8_image 33 = .ok (.iload_n 1, 1) := by decide +kernel
theorem dX8_image_34 : decode cX8_image 34 = .ok (.iconst 1, 1) := by decide +kernel
theorem dX8_image_35 : decode cX8_image 35 = .ok (.bastore, 1) := by decide +kernel
theorem dX8_image_36 : decode cX8_image 36 = .ok (.iconst 1, 1) := by decide +kernel
theorem dX8_image_37 : decode cX8_image 37 = .ok (.ireturn, 1) := by decide +kernel
theorem dX8_from_0 : decode cX8_from 0 = .ok (.iload_n 1, 1) := by decide +kernel
theorem dX8_from_1 : decode cX8_from 1 = .ok (.i2l, 1) := by decide +kernel
theorem dX8_from_2 : decode cX8_from 2 = .ok (.lconst 0, 1) := by decide +kernel
theorem dX8_from_3 : decode cX8_from 3 = .ok (.lconst 1, 1) := by decide +kernel
theorem dX8_from_4 : decode cX8_from 4 = .ok (.invokestatic 56, 3) := by decide +kernel
theorem dX8_from_7 : decode cX8_from 7 = .ok (.ifCond .ne 10, 3) := by decide +kernel
theorem dX8_from_10 : decode cX8_from 10 = .ok (.aload_n 0, 1) := by decide +kernel
theorem dX8_from_11 : decode cX8_from 11 = .ok (.bipush (-2), 2) := by decide +kernel
theorem dX8_from_13 : decode cX8_from 13 = .ok (.invokevirtual 78, 3) := by decide +kernel
theorem dX8_from_16 : decode cX8_from 16 = .ok (.ireturn, 1) := by decide +kernel
theorem dX8_from_17 : decode cX8_from 17 = .ok (.aload_n 0, 1) := by decide +kernel
theorem dX8_from_18 : decode cX8_from 18 = .ok (.getfield 13, 3) := by decide +kernel
theorem dX8_from_21 : decode cX8_from 21 = .ok (.iload_n 1, 1) := by decide +kernel
theorem dX8_from_22 : decode cX8_from 22 = .ok (.baload, 1) := by decide +kernel
theorem dX8_from_23 : decode cX8_from 23 = .ok (.ifCond .ne 8, 3) := by decide +kernel
theorem dX8_from_26 : decode cX8_from 26 = .ok (.aload_n 0, 1) := by decide +kernel
theorem dX8_from_27 : decode cX8_from 27 = .ok (.invokevirtual 200, 3) := by decide +kernel
theorem dX8_from_30 : decode cX8_from 30 = .ok (.ireturn, 1) := by decide +kernel
theorem dX8_from_31 : decode cX8_from 31 = .ok (.aload_n 0, 1) := by decide +kernel
theorem dX8_from_32 : decode cX8_from 32 = .ok (.bipush 114, 2) := by decide +kernel
theorem dX8_from_34 : decode cX8_from 34 = .ok (.bipush 114, 2) := by decide +kernel
theorem dX8_from_36 : decode cX8_from 36 = .ok (.iload_n 1, 1) := by decide +kernel
theorem dX8_from_37 : decode cX8_from 37 = .ok (.imul, 1) := by decide +kernel
theorem dX8_from_38 : decode cX8_from 38 = .ok (.iadd, 1) := by decide +kernel
theorem dX8_from_39 : decode cX8_from 39 = .ok (.iconst 0, 1) := by decide +kernel
theorem dX8_from_40 : decode cX8_from 40 = .ok (.invokevirtual 175, 3) := by decide +kernel
theorem dX8_from_43 : decode cX8_from 43 = .ok (.iconst 1, 1) := by decide +kernel
theorem dX8_from_44 : decode cX8_from 44 = .ok (.ireturn, 1) := by decide +kernel
theorem dX8_status_0 : decode cX8_status 0 = .ok (.iload_n 1, 1) := by decide +kernel
theorem dX8_status_1 : decode cX8_status 1 = .ok (.i2l, 1) := by decide +kernel
theorem dX8_status_2 : decode cX8_status 2 = .ok (.lconst 0, 1) := by decide +kernel
theorem dX8_status_3 : decode cX8_status 3 = .ok (.ldc2_w 131, 3) := by decide +kernel
theorem dX8_status_6 : decode cX8_status 6 = .ok (.invokestatic 56, 3) := by decide +kernel
theorem dX8_status_9 : decode cX8_status 9 = .ok (.ifCond .eq 12, 3) := by decide +kernel
theorem dX8_status_12 : decode cX8_status 12 = .ok (.aload_n 0, 1) := by decide +kernel
theorem dX8_status_13 : decode cX8_status 13 = .ok (.getfield 27, 3) := by decide +kernel
theorem dX8_status_16 : decode cX8_status 16 = .ok (.iload_n 1, 1) := by decide +kernel
theorem dX8_status_17 : decode cX8_status 17 = .ok (.iaload, 1) := by decide +kernel
theorem dX8_status_18 : decode cX8_status 18 = .ok (.goto 8, 3) := by decide +kernel
theorem dX8_status_21 : decode cX8_status 21 = .ok (.aload_n 0, 1) := by decide +kernel
theorem dX8_status_22 : decode cX8_status 22 = .ok (.iconst (-1), 1) := by decide +kernel
theorem dX8_status_23 : decode cX8_status 23 = .ok (.invokevirtual 78, 3) := by decide +kernel
theorem dX8_status_26 : decode cX8_status 26 = .ok (.ireturn, 1) := by decide +kernel
theorem dX8_countOf_0 : decode cX8_countOf 0 = .ok (.iload_n 1, 1) := by decide +kernel
theorem dX8_countOf_1 : decode cX8_countOf 1 = .ok (.tableswitch 74 0 4 #[35, 42, 50, 58, 66], 35) := by decide +kernel
theorem dX8_countOf_36 : decode cX8_countOf 36 = .ok (.aload_n 0, 1) := by decide +kernel
theorem dX8_countOf_37 : decode cX8_countOf 37 = .ok (.getfield 7, 3) := by decide +kernel
theorem dX8_countOf_40 : decode cX8_countOf 40 = .ok (.iconst 0, 1) := by decide +kernel
theorem dX8_countOf_41 : decode cX8_countOf 41 = .ok (.iaload, 1) := by decide +kernel
theorem dX8_countOf_42 : decode cX8_countOf 42 = .ok (.ireturn, 1) := by decide +kernel
theorem dX8_countOf_43 : decode cX8_countOf 43 = .ok (.aload_n 0, 1) := by decide +kernel
theorem dX8_countOf_44 : decode cX8_countOf 44 = .ok (.getfield 7, 3) := by decide +kernel
theorem dX8_countOf_47 : decode cX8_countOf 47 = .ok (.bipush 18, 2) := by decide +kernel
theorem dX8_countOf_49 : decode cX8_countOf 49 = .ok (.iaload, 1) := by decide +kernel
theorem dX8_countOf_50 : decode cX8_countOf 50 = .ok (.ireturn, 1) := by decide +kernel
theorem dX8_countOf_51 : decode cX8_countOf 51 = .ok (.aload_n 0, 1) := by decide +kernel
theorem dX8_countOf_52 : decode cX8_countOf 52 = .ok (.getfield 7, 3) := by decide +kernel
theorem dX8_countOf_55 : decode cX8_countOf 55 = .ok (.bipush 31, 2) := by decide +kernel
theorem dX8_countOf_57 : decode cX8_countOf 57 = .ok (.iaload, 1) := by decide +kernel
theorem dX8_countOf_58 : decode cX8_countOf 58 = .ok (.ireturn, 1) := by decide +kernel
theorem dX8_countOf_59 : decode cX8_countOf 59 = .ok (.aload_n 0, 1) := by decide +kernel
theorem dX8_countOf_60 : decode cX8_countOf 60 = .ok (.getfield 7, 3) := by decide +kernel
theorem dX8_countOf_63 : decode cX8_countOf 63 = .ok (.bipush 56, 2) := by decide +kernel
theorem dX8_countOf_65 : decode cX8_countOf 65 = .ok (.iaload, 1) := by decide +kernel
theorem dX8_countOf_66 : decode cX8_countOf 66 = .ok (.ireturn, 1) := by decide +kernel
theorem dX8_countOf_67 : decode cX8_countOf 67 = .ok (.aload_n 0, 1) := by decide +kernel
theorem dX8_countOf_68 : decode cX8_countOf 68 = .ok (.getfield 7, 3) := by decide +kernel
theorem dX8_countOf_71 : decode cX8_countOf 71 = .ok (.bipush 81, 2) := by decide +kernel
theorem dX8_countOf_73 : decode cX8_countOf 73 = .ok (.iaload, 1) := by decide +kernel
theorem dX8_countOf_74 : decode cX8_countOf 74 = .ok (.ireturn, 1) := by decide +kernel
theorem dX8_countOf_75 : decode cX8_countOf 75 = .ok (.aload_n 0, 1) := by decide +kernel
theorem dX8_countOf_76 : decode cX8_countOf 76 = .ok (.getfield 48, 3) := by decide +kernel
theorem dX8_countOf_79 : decode cX8_countOf 79 = .ok (.ireturn, 1) := by decide +kernel
theorem dX8_count_0 : decode cX8_count 0 = .ok (.iload_n 1, 1) := by decide +kernel
theorem dX8_count_1 : decode cX8_count 1 = .ok (.i2l, 1) := by decide +kernel
theorem dX8_count_2 : decode cX8_count 2 = .ok (.lconst 0, 1) := by decide +kernel
theorem dX8_count_3 : decode cX8_count 3 = .ok (.ldc2_w 85, 3) := by decide +kernel
theorem dX8_count_6 : decode cX8_count 6 = .ok (.invokestatic 56, 3) := by decide +kernel
theorem dX8_count_9 : decode cX8_count 9 = .ok (.ifCond .eq 11, 3) := by decide +kernel
theorem dX8_count_12 : decode cX8_count 12 = .ok (.aload_n 0, 1) := by decide +kernel
theorem dX8_count_13 : decode cX8_count 13 = .ok (.iload_n 1, 1) := by decide +kernel
theorem dX8_count_14 : decode cX8_count 14 = .ok (.invokevirtual 259, 3) := by decide +kernel
theorem dX8_count_17 : decode cX8_count 17 = .ok (.goto 9, 3) := by decide +kernel
theorem dX8_count_20 : decode cX8_count 20 = .ok (.aload_n 0, 1) := by decide +kernel
theorem dX8_count_21 : decode cX8_count 21 = .ok (.bipush (-2), 2) := by decide +kernel
theorem dX8_count_23 : decode cX8_count 23 = .ok (.invokevirtual 78, 3) := by decide +kernel
theorem dX8_count_26 : decode cX8_count 26 = .ok (.ireturn, 1) := by decide +kernel
theorem dX8_mix_0 : decode cX8_mix 0 = .ok (.aload_n 0, 1) := by decide +kernel
theorem dX8_mix_1 : decode cX8_mix 1 = .ok (.ldc2_w 262, 3) := by decide +kernel
theorem dX8_mix_4 : decode cX8_mix 4 = .ok (.aload_n 0, 1) := by decide +kernel
theorem dX8_mix_5 : decode cX8_mix 5 = .ok (.getfield 264, 3) := by decide +kernel
theorem dX8_mix_8 : decode cX8_mix 8 = .ok (.lmul, 1) := by decide +kernel
theorem dX8_mix_9 : decode cX8_mix 9 = .ok (.lload_n 1, 1) := by decide +kernel
theorem dX8_mix_10 : decode cX8_mix 10 = .ok (.ladd, 1) := by decide +kernel
theorem dX8_mix_11 : decode cX8_mix 11 = .ok (.putfield 264, 3) := by decide +kernel
theorem dX8_mix_14 : decode cX8_mix 14 = .ok (.return_, 1) := by decide +kernel
theorem dX8_digest_0 : decode cX8_digest 0 = .ok (.aload_n 0, 1) := by decide +kernel
theorem dX8_digest_1 : decode cX8_digest 1 = .ok (.ldc2_w 267, 3) := by decide +kernel
theorem dX8_digest_4 : decode cX8_digest 4 = .ok (.putfield 264, 3) := by decide +kernel
theorem dX8_digest_7 : decode cX8_digest 7 = .ok (.iconst 0, 1) := by decide +kernel
theorem dX8_digest_8 : decode cX8_digest 8 = .ok (.istore_n 1, 1) := by decide +kernel
theorem dX8_digest_9 : decode cX8_digest 9 = .ok (.iload_n 1, 1) := by decide +kernel
theorem dX8_digest_10 : decode cX8_digest 10 = .ok (.bipush 6, 2) := by decide +kernel
theorem dX8_digest_12 : decode cX8_digest 12 = .ok (.if_icmp .ge 19, 3) := by decide +kernel
theorem dX8_digest_15 : decode cX8_digest 15 = .ok (.aload_n 0, 1) := by decide +kernel
theorem dX8_digest_16 : decode cX8_digest 16 = .ok (.aload_n 0, 1) := by decide +kernel
theorem dX8_digest_17 : decode cX8_digest 17 = .ok (.iload_n 1, 1) := by decide +kernel
theorem dX8_digest_18 : decode cX8_digest 18 = .ok (.invokevirtual 259, 3) := by decide +kernel
theorem dX8_digest_21 : decode cX8_digest 21 = .ok (.i2l, 1) := by decide +kernel
theorem dX8_digest_22 : decode cX8_digest 22 = .ok (.invokevirtual 269, 3) := by decide +kernel
theorem dX8_digest_25 : decode cX8_digest 25 = .ok (.iinc 1 1, 3) := by decide +kernel
theorem dX8_digest_28 : decode cX8_digest 28 = .ok (.goto (-19), 3) := by decide +kernel
theorem dX8_digest_31 : decode cX8_digest 31 = .ok (.iconst 0, 1) := by decide +kernel
theorem dX8_digest_32 : decode cX8_digest 32 = .ok (.istore_n 1, 1) := by decide +kernel
theorem dX8_digest_33 : decode cX8_digest 33 = .ok (.iload_n 1, 1) := by decide +kernel
theorem dX8_digest_34 : decode cX8_digest 34 = .ok (.bipush 7, 2) := by decide +kernel
theorem dX8_digest_36 : decode cX8_digest 36 = .ok (.if_icmp .ge 23, 3) := by decide +kernel
theorem dX8_digest_39 : decode cX8_digest 39 = .ok (.aload_n 0, 1) := by decide +kernel
theorem dX8_digest_40 : decode cX8_digest 40 = .ok (.aload_n 0, 1) := by decide +kernel
theorem dX8_digest_41 : decode cX8_digest 41 = .ok (.getfield 7, 3) := by decide +kernel
theorem dX8_digest_44 : decode cX8_digest 44 = .ok (.bipush 11, 2) := by decide +kernel
theorem dX8_digest_46 : decode cX8_digest 46 = .ok (.iload_n 1, 1) := by decide +kernel
theorem dX8_digest_47 : decode cX8_digest 47 = .ok (.iadd, 1) := by decide +kernel
theorem dX8_digest_48 : decode cX8_digest 48 = .ok (.iaload, 1) := by decide +kernel
theorem dX8_digest_49 : decode cX8_digest 49 = .ok (.i2l, 1) := by decide +kernel
theorem dX8_digest_50 : decode cX8_digest 50 = .ok (.invokevirtual 269, 3) := by decide +kernel
theorem dX8_digest_53 : decode cX8_digest 53 = .ok (.iinc 1 1, 3) := by decide +kernel
theorem dX8_digest_56 : decode cX8_digest 56 = .ok (.goto (-23), 3) := by decide +kernel
theorem dX8_digest_59 : decode cX8_digest 59 = .ok (.iconst 0, 1) := by decide +kernel
theorem dX8_digest_60 : decode cX8_digest 60 = .ok (.istore_n 1, 1) := by decide +kernel
theorem dX8_digest_61 : decode cX8_digest 61 = .ok (.iload_n 1, 1) := by decide +kernel
theorem dX8_digest_62 : decode cX8_digest 62 = .ok (.aload_n 0, 1) := by decide +kernel
theorem dX8_digest_63 : decode cX8_digest 63 = .ok (.getfield 7, 3) := by decide +kernel
theorem dX8_digest_66 : decode cX8_digest 66 = .ok (.iconst 0, 1) := by decide +kernel
theorem dX8_digest_67 : decode cX8_digest 67 = .ok (.iaload, 1) := by decide +kernel
theorem dX8_digest_68 : decode cX8_digest 68 = .ok (.if_icmp .ge 36, 3) := by decide +kernel
theorem dX8_digest_71 : decode cX8_digest 71 = .ok (.aload_n 0, 1) := by decide +kernel
theorem dX8_digest_72 : decode cX8_digest 72 = .ok (.aload_n 0, 1) := by decide +kernel
theorem dX8_digest_73 : decode cX8_digest 73 = .ok (.getfield 7, 3) := by decide +kernel
theorem dX8_digest_76 : decode cX8_digest 76 = .ok (.iconst 1, 1) := by decide +kernel
theorem dX8_digest_77 : decode cX8_digest 77 = .ok (.iload_n 1, 1) := by decide +kernel
theorem dX8_digest_78 : decode cX8_digest 78 = .ok (.iadd, 1) := by decide +kernel
theorem dX8_digest_79 : decode cX8_digest 79 = .ok (.iaload, 1) := by decide +kernel
theorem dX8_digest_80 : decode cX8_digest 80 = .ok (.i2l, 1) := by decide +kernel
theorem dX8_digest_81 : decode cX8_digest 81 = .ok (.invokevirtual 269, 3) := by decide +kernel
theorem dX8_digest_84 : decode cX8_digest 84 = .ok (.aload_n 0, 1) := by decide +kernel
theorem dX8_digest_85 : decode cX8_digest 85 = .ok (.aload_n 0, 1) := by decide +kernel
theorem dX8_digest_86 : decode cX8_digest 86 = .ok (.getfield 7, 3) := by decide +kernel
theorem dX8_digest_89 : decode cX8_digest 89 = .ok (.bipush 6, 2) := by decide +kernel
theorem dX8_digest_91 : decode cX8_digest 91 = .ok (.iload_n 1, 1) := by decide +kernel
theorem dX8_digest_92 : decode cX8_digest 92 = .ok (.iadd, 1) := by decide +kernel
theorem dX8_digest_93 : decode cX8_digest 93 = .ok (.iaload, 1) := by decide +kernel
theorem dX8_digest_94 : decode cX8_digest 94 = .ok (.i2l, 1) := by decide +kernel
theorem dX8_digest_95 : decode cX8_digest 95 = .ok (.invokevirtual 269, 3) := by decide +kernel
theorem dX8_digest_98 : decode cX8_digest 98 = .ok (.iinc 1 1, 3) := by decide +kernel
theorem dX8_digest_101 : decode cX8_digest 101 = .ok (.goto (-40), 3) := by decide +kernel
theorem dX8_digest_104 : decode cX8_digest 104 = .ok (.iconst 0, 1) := by decide +kernel
theorem dX8_digest_105 : decode cX8_digest 105 = .ok (.istore_n 1, 1) := by decide +kernel
theorem dX8_digest_106 : decode cX8_digest 106 = .ok (.iload_n 1, 1) := by decide +kernel
theorem dX8_digest_107 : decode cX8_digest 107 = .ok (.iconst 2, 1) := by decide +kernel
theorem dX8_digest_108 : decode cX8_digest 108 = .ok (.aload_n 0, 1) := by decide +kernel
theorem dX8_digest_109 : decode cX8_digest 109 = .ok (.getfield 7, 3) := by decide +kernel
theorem dX8_digest_112 : decode cX8_digest 112 = .ok (.bipush 18, 2) := by decide +kernel
theorem dX8_digest_114 : decode cX8_digest 114 = .ok (.iaload, 1) := by decide +kernel
theorem dX8_digest_115 : decode cX8_digest 115 = .ok (.imul, 1) := by decide +kernel
theorem dX8_digest_116 : decode cX8_digest 116 = .ok (.if_icmp .ge 23, 3) := by decide +kernel
theorem dX8_digest_119 : decode cX8_digest 119 = .ok (.aload_n 0, 1) := by decide +kernel
theorem dX8_digest_120 : decode cX8_digest 120 = .ok (.aload_n 0, 1) := by decide +kernel
theorem dX8_digest_121 : decode cX8_digest 121 = .ok (.getfield 7, 3) := by decide +kernel
theorem dX8_digest_124 : decode cX8_digest 124 = .ok (.bipush 19, 2) := by decide +kernel
theorem dX8_digest_126 : decode cX8_digest 126 = .ok (.iload_n 1, 1) := by decide +kernel
theorem dX8_digest_127 : decode cX8_digest 127 = .ok (.iadd, 1) := by decide +kernel
theorem dX8_digest_128 : decode cX8_digest 128 = .ok (.iaload, 1) := by decide +kernel
theorem dX8_digest_129 : decode cX8_digest 129 = .ok (.i2l, 1) := by decide +kernel
theorem dX8_digest_130 : decode cX8_digest 130 = .ok (.invokevirtual 269, 3) := by decide +kernel
theorem dX8_digest_133 : decode cX8_digest 133 = .ok (.iinc 1 1, 3) := by decide +kernel
theorem dX8_digest_136 : decode cX8_digest 136 = .ok (.goto (-30), 3) := by decide +kernel
theorem dX8_digest_139 : decode cX8_digest 139 = .ok (.iconst 0, 1) := by decide +kernel
theorem dX8_digest_140 : decode cX8_digest 140 = .ok (.istore_n 1, 1) := by decide +kernel
theorem dX8_digest_141 : decode cX8_digest 141 = .ok (.iload_n 1, 1) := by decide +kernel
theorem dX8_digest_142 : decode cX8_digest 142 = .ok (.iconst 4, 1) := by decide +kernel
theorem dX8_digest_143 : decode cX8_digest 143 = .ok (.aload_n 0, 1) := by decide +kernel
theorem dX8_digest_144 : decode cX8_digest 144 = .ok (.getfield 7, 3) := by decide +kernel
theorem dX8_digest_147 : decode cX8_digest 147 = .ok (.bipush 31, 2) := by decide +kernel
theorem dX8_digest_149 : decode cX8_digest 149 = .ok (.iaload, 1) := by decide +kernel
theorem dX8_digest_150 : decode cX8_digest 150 = .ok (.imul, 1) := by decide +kernel
theorem dX8_digest_151 : decode cX8_digest 151 = .ok (.if_icmp .ge 23, 3) := by decide +kernel
theorem dX8_digest_154 : decode cX8_digest 154 = .ok (.aload_n 0, 1) := by decide +kernel
theorem dX8_digest_155 : decode cX8_digest 155 = .ok (.aload_n 0, 1) := by decide +kernel
theorem dX8_digest_156 : decode cX8_digest 156 = .ok (.getfield 7, 3) := by decide +kernel
theorem dX8_digest_159 : decode cX8_digest 159 = .ok (.bipush 32, 2) := by decide +kernel
theorem dX8_digest_161 : decode cX8_digest 161 = .ok (.iload_n 1, 1) := by decide +kernel
theorem dX8_digest_162 : decode cX8_digest 162 = .ok (.iadd, 1) := by decide +kernel
theorem dX8_digest_163 : decode cX8_digest 163 = .ok (.iaload, 1) := by decide +kernel
theorem dX8_digest_164 : decode cX8_digest 164 = .ok (.i2l, 1) := by decide +kernel
theorem dX8_digest_165 : decode cX8_digest 165 = .ok (.invokevirtual 269, 3) := by decide +kernel
theorem dX8_digest_168 : decode cX8_digest 168 = .ok (.iinc 1 1, 3) := by decide +kernel
theorem dX8_digest_171 : decode cX8_digest 171 = .ok (.goto (-30), 3) := by decide +kernel
theorem dX8_digest_174 : decode cX8_digest 174 = .ok (.iconst 0, 1) := by decide +kernel
theorem dX8_digest_175 : decode cX8_digest 175 = .ok (.istore_n 1, 1) := by decide +kernel
theorem dX8_digest_176 : decode cX8_digest 176 = .ok (.iload_n 1, 1) := by decide +kernel
theorem dX8_digest_177 : decode cX8_digest 177 = .ok (.iconst 4, 1) := by decide +kernel
theorem dX8_digest_178 : decode cX8_digest 178 = .ok (.aload_n 0, 1) := by decide +kernel
theorem dX8_digest_179 : decode cX8_digest 179 = .ok (.getfield 7, 3) := by decide +kernel
theorem dX8_digest_182 : decode cX8_digest 182 = .ok (.bipush 56, 2) := by decide +kernel
theorem dX8_digest_184 : decode cX8_digest 184 = .ok (.iaload, 1) := by decide +kernel
theorem dX8_digest_185 : decode cX8_digest 185 = .ok (.imul, 1) := by decide +kernel
theorem dX8_digest_186 : decode cX8_digest 186 = .ok (.if_icmp .ge 23, 3) := by decide +kernel
theorem dX8_digest_189 : decode cX8_digest 189 = .ok (.aload_n 0, 1) := by decide +kernel
theorem dX8_digest_190 : decode cX8_digest 190 = .ok (.aload_n 0, 1) := by decide +kernel
theorem dX8_digest_191 : decode cX8_digest 191 = .ok (.getfield 7, 3) := by decide +kernel
theorem dX8_digest_194 : decode cX8_digest 194 = .ok (.bipush 57, 2) := by decide +kernel
theorem dX8_digest_196 : decode cX8_digest 196 = .ok (.iload_n 1, 1) := by decide +kernel
theorem dX8_digest_197 : decode cX8_digest 197 = .ok (.iadd, 1) := by decide +kernel
theorem dX8_digest_198 : decode cX8_digest 198 = .ok (.iaload, 1) := by decide +kernel
theorem dX8_digest_199 : decode cX8_digest 199 = .ok (.i2l, 1) := by decide +kernel
theorem dX8_digest_200 : decode cX8_digest 200 = .ok (.invokevirtual 269, 3) := by decide +kernel
theorem dX8_digest_203 : decode cX8_digest 203 = .ok (.iinc 1 1, 3) := by decide +kernel
theorem dX8_digest_206 : decode cX8_digest 206 = .ok (.goto (-30), 3) := by decide +kernel
theorem dX8_digest_209 : decode cX8_digest 209 = .ok (.aload_n 0, 1) := by decide +kernel
theorem dX8_digest_210 : decode cX8_digest 210 = .ok (.aload_n 0, 1) := by decide +kernel
theorem dX8_digest_211 : decode cX8_digest 211 = .ok (.getfield 20, 3) := by decide +kernel
theorem dX8_digest_214 : decode cX8_digest 214 = .ok (.invokevirtual 269, 3) := by decide +kernel
theorem dX8_digest_217 : decode cX8_digest 217 = .ok (.aload_n 0, 1) := by decide +kernel
theorem dX8_digest_218 : decode cX8_digest 218 = .ok (.aload_n 0, 1) := by decide +kernel
theorem dX8_digest_219 : decode cX8_digest 219 = .ok (.getfield 24, 3) := by decide +kernel
theorem dX8_digest_222 : decode cX8_digest 222 = .ok (.invokevirtual 269, 3) := by decide +kernel
theorem dX8_digest_225 : decode cX8_digest 225 = .ok (.aload_n 0, 1) := by decide +kernel
theorem dX8_digest_226 : decode cX8_digest 226 = .ok (.getfield 264, 3) := by decide +kernel
theorem dX8_digest_229 : decode cX8_digest 229 = .ok (.lreturn, 1) := by decide +kernel
end
section
theorem dL_law_0 : decode cL_law 0 = .ok (.new 7, 3) := by decide +kernel
theorem dL_law_3 : decode cL_law 3 = .ok (.dup, 1) := by decide +kernel
theorem dL_law_4 : decode cL_law 4 = .ok (.invokespecial 9, 3) := by decide +kernel
theorem dL_law_7 : decode cL_law 7 = .ok (.astore_n 1, 1) := by decide +kernel
theorem dL_law_8 : decode cL_law 8 = .ok (.new 10, 3) := by decide +kernel
theorem dL_law_11 : decode cL_law 11 = .ok (.dup, 1) := by decide +kernel
theorem dL_law_12 : decode cL_law 12 = .ok (.invokespecial 12, 3) := by decide +kernel
theorem dL_law_15 : decode cL_law 15 = .ok (.astore_n 2, 1) := by decide +kernel
theorem dL_law_16 : decode cL_law 16 = .ok (.iconst 0, 1) := by decide +kernel
theorem dL_law_17 : decode cL_law 17 = .ok (.istore_n 3, 1) := by decide +kernel
theorem dL_law_18 : decode cL_law 18 = .ok (.iload_n 3, 1) := by decide +kernel
theorem dL_law_19 : decode cL_law 19 = .ok (.aload_n 0, 1) := by decide +kernel
theorem dL_law_20 : decode cL_law 20 = .ok (.arraylength, 1) := by decide +kernel
theorem dL_law_21 : decode cL_law 21 = .ok (.iconst 5, 1) := by decide +kernel
theorem dL_law_22 : decode cL_law 22 = .ok (.isub, 1) := by decide +kernel
theorem dL_law_23 : decode cL_law 23 = .ok (.if_icmp .gt 1071, 3) := by decide +kernel
theorem dL_law_26 : decode cL_law 26 = .ok (.aload_n 0, 1) := by decide +kernel
theorem dL_law_27 : decode cL_law 27 = .ok (.iload_n 3, 1) := by decide +kernel
theorem dL_law_28 : decode cL_law 28 = .ok (.iaload, 1) := by decide +kernel
theorem dL_law_29 : decode cL_law 29 = .ok (.bipush 63, 2) := by decide +kernel
theorem dL_law_31 : decode cL_law 31 = .ok (.iand, 1) := by decide +kernel
theorem dL_law_32 : decode cL_law 32 = .ok (.tableswitch 1056 0 33 #[152, 185, 218, 251, 274, 287, 300, 323, 346, 359, 392, 415, 458, 491, 534, 557, 590, 613, 626, 679, 732, 755, 778, 801, 824, 847, 870, 893, 926, 950, 973, 996, 1019, 1042], 152) := by decide +kernel
theorem dL_law_184 : decode cL_law 184 = .ok (.aload_n 1, 1) := by decide +kernel
theorem dL_law_185 : decode cL_law 185 = .ok (.aload_n 0, 1) := by decide +kernel
theorem dL_law_186 : decode cL_law 186 = .ok (.iload_n 3, 1) := by decide +kernel
theorem dL_law_187 : decode cL_law 187 = .ok (.iconst 1, 1) := by decide +kernel
theorem dL_law_188 : decode cL_law 188 = .ok (.iadd, 1) := by decide +kernel
theorem dL_law_189 : decode cL_law 189 = .ok (.iaload, 1) := by decide +kernel
theorem dL_law_190 : decode cL_law 190 = .ok (.aload_n 0, 1) := by decide +kernel
theorem dL_law_191 : decode cL_law 191 = .ok (.iload_n 3, 1) := by decide +kernel
theorem dL_law_192 : decode cL_law 192 = .ok (.iconst 2, 1) := by decide +kernel
theorem dL_law_193 : decode cL_law 193 = .ok (.iadd, 1) := by decide +kernel
theorem dL_law_194 : decode cL_law 194 = .ok (.iaload, 1) := by decide +kernel
theorem dL_law_195 : decode cL_law 195 = .ok (.invokevirtual 13, 3) := by decide +kernel
theorem dL_law_198 : decode cL_law 198 = .ok (.aload_n 2, 1) := by decide +kernel
theorem dL_law_199 : decode cL_law 199 = .ok (.aload_n 0, 1) := by decide +kernel
theorem dL_law_200 : decode cL_law 200 = .ok (.iload_n 3, 1) := by decide +kernel
theorem dL_law_201 : decode cL_law 201 = .ok (.iconst 1, 1) := by decide +kernel
theorem dL_law_202 : decode cL_law 202 = .ok (.iadd, 1) := by decide +kernel
theorem dL_law_203 : decode cL_law 203 = .ok (.iaload, 1) := by decide +kernel
theorem dL_law_204 : decode cL_law 204 = .ok (.aload_n 0, 1) := by decide +kernel
theorem dL_law_205 : decode cL_law 205 = .ok (.iload_n 3, 1) := by decide +kernel
theorem dL_law_206 : decode cL_law 206 = .ok (.iconst 2, 1) := by decide +kernel
theorem dL_law_207 : decode cL_law 207 = .ok (.iadd, 1) := by decide +kernel
theorem dL_law_208 : decode cL_law 208 = .ok (.iaload, 1) := by decide +kernel
theorem dL_law_209 : decode cL_law 209 = .ok (.invokevirtual 17, 3) := by decide +kernel
theorem dL_law_212 : decode cL_law 212 = .ok (.if_icmp .eq 876, 3) := by decide +kernel
theorem dL_law_215 : decode cL_law 215 = .ok (.iconst 0, 1) := by decide +kernel
theorem dL_law_216 : decode cL_law 216 = .ok (.ireturn, 1) := by decide +kernel
theorem dL_law_217 : decode cL_law 217 = .ok (.aload_n 1, 1) := by decide +kernel
theorem dL_law_218 : decode cL_law 218 = .ok (.aload_n 0, 1) := by decide +kernel
theorem dL_law_219 : decode cL_law 219 = .ok (.iload_n 3, 1) := by decide +kernel
theorem dL_law_220 : decode cL_law 220 = .ok (.iconst 1, 1) := by decide +kernel
theorem dL_law_221 : decode cL_law 221 = .ok (.iadd, 1) := by decide +kernel
theorem dL_law_222 : decode cL_law 222 = .ok (.iaload, 1) := by decide +kernel
theorem dL_law_223 : decode cL_law 223 = .ok (.aload_n 0, 1) := by decide +kernel
theorem dL_law_224 : decode cL_law 224 = .ok (.iload_n 3, 1) := by decide +kernel
theorem dL_law_225 : decode cL_law 225 = .ok (.iconst 2, 1) := by decide +kernel
theorem dL_law_226 : decode cL_law 226 = .ok (.iadd, 1) := by decide +kernel
theorem dL_law_227 : decode cL_law 227 = .ok (.iaload, 1) := by decide +kernel
theorem dL_law_228 : decode cL_law 228 = .ok (.invokevirtual 18, 3) := by decide +kernel
theorem dL_law_231 : decode cL_law 231 = .ok (.aload_n 2, 1) := by decide +kernel
theorem dL_law_232 : decode cL_law 232 = .ok (.aload_n 0, 1) := by decide +kernel
theorem dL_law_233 : decode cL_law 233 = .ok (.iload_n 3, 1) := by decide +kernel
theorem dL_law_234 : decode cL_law 234 = .ok (.iconst 1, 1) := by decide +kernel
theorem dL_law_235 : decode cL_law 235 = .ok (.iadd, 1) := by decide +kernel
theorem dL_law_236 : decode cL_law 236 = .ok (.iaload, 1) := by decide +kernel
theorem dL_law_237 : decode cL_law 237 = .ok (.aload_n 0, 1) := by decide +kernel
theorem dL_law_238 : decode cL_law 238 = .ok (.iload_n 3, 1) := by decide +kernel
theorem dL_law_239 : decode cL_law 239 = .ok (.iconst 2, 1) := by decide +kernel
theorem dL_law_240 : decode cL_law 240 = .ok (.iadd, 1) := by decide +kernel
theorem dL_law_241 : decode cL_law 241 = .ok (.iaload, 1) := by decide +kernel
theorem dL_law_242 : decode cL_law 242 = .ok (.invokevirtual 21, 3) := by decide +kernel
theorem dL_law_245 : decode cL_law 245 = .ok (.if_icmp .eq 843, 3) := by decide +kernel
theorem dL_law_248 : decode cL_law 248 = .ok (.iconst 0, 1) := by decide +kernel
theorem dL_law_249 : decode cL_law 249 = .ok (.ireturn, 1) := by decide +kernel
theorem dL_law_250 : decode cL_law 250 = .ok (.aload_n 1, 1) := by decide +kernel
theorem dL_law_251 : decode cL_law 251 = .ok (.aload_n 0, 1) := by decide +kernel
theorem dL_law_252 : decode cL_law 252 = .ok (.iload_n 3, 1) := by decide +kernel
theorem dL_law_253 : decode cL_law 253 = .ok (.iconst 1, 1) := by decide +kernel
theorem dL_law_254 : decode cL_law 254 = .ok (.iadd, 1) := by decide +kernel
theorem dL_law_255 : decode cL_law 255 = .ok (.iaload, 1) := by decide +kernel
theorem dL_law_256 : decode cL_law 256 = .ok (.aload_n 0, 1) := by decide +kernel
theorem dL_law_257 : decode cL_law 257 = .ok (.iload_n 3, 1) := by decide +kernel
theorem dL_law_258 : decode cL_law 258 = .ok (.iconst 2, 1) := by decide +kernel
theorem dL_law_259 : decode cL_law 259 = .ok (.iadd, 1) := by decide +kernel
theorem dL_law_260 : decode cL_law 260 = .ok (.iaload, 1) := by decide +kernel
theorem dL_law_261 : decode cL_law 261 = .ok (.invokevirtual 22, 3) := by decide +kernel
theorem dL_law_264 : decode cL_law 264 = .ok (.aload_n 2, 1) := by decide +kernel
theorem dL_law_265 : decode cL_law 265 = .ok (.aload_n 0, 1) := by decide +kernel
theorem dL_law_266 : decode cL_law 266 = .ok (.iload_n 3, 1) := by decide +kernel
theorem dL_law_267 : decode cL_law 267 = .ok (.iconst 1, 1) := by decide +kernel
theorem dL_law_268 : decode cL_law 268 = .ok (.iadd, 1) := by decide +kernel
theorem dL_law_269 : decode cL_law 269 = .ok (.iaload, 1) := by decide +kernel
theorem dL_law_270 : decode cL_law 270 = .ok (.aload_n 0, 1) := by decide +kernel
theorem dL_law_271 : decode cL_law 271 = .ok (.iload_n 3, 1) := by decide +kernel
theorem dL_law_272 : decode cL_law 272 = .ok (.iconst 2, 1) := by decide +kernel
theorem dL_law_273 : decode cL_law 273 = .ok (.iadd, 1) := by decide +kernel
theorem dL_law_274 : decode cL_law 274 = .ok (.iaload, 1) := by decide +kernel
theorem dL_law_275 : decode cL_law 275 = .ok (.invokevirtual 25, 3) := by decide +kernel
theorem dL_law_278 : decode cL_law 278 = .ok (.if_icmp .eq 810, 3) := by decide +kernel
theorem dL_law_281 : decode cL_law 281 = .ok (.iconst 0, 1) := by decide +kernel
theorem dL_law_282 : decode cL_law 282 = .ok (.ireturn, 1) := by decide +kernel
theorem dL_law_283 : decode cL_law 283 = .ok (.aload_n 1, 1) := by decide +kernel
theorem dL_law_284 : decode cL_law 284 = .ok (.aload_n 0, 1) := by decide +kernel
theorem dL_law_285 : decode cL_law 285 = .ok (.iload_n 3, 1) := by decide +kernel
theorem dL_law_286 : decode cL_law 286 = .ok (.iconst 1, 1) := by decide +kernel
theorem dL_law_287 : decode cL_law 287 = .ok (.iadd, 1) := by decide +kernel
theorem dL_law_288 : decode cL_law 288 = .ok (.iaload, 1) := by decide +kernel
theorem dL_law_289 : decode cL_law 289 = .ok (.invokevirtual 26, 3) := by decide +kernel
theorem dL_law_292 : decode cL_law 292 = .ok (.aload_n 2, 1) := by decide +kernel
theorem dL_law_293 : decode cL_law 293 = .ok (.aload_n 0, 1) := by decide +kernel
theorem dL_law_294 : decode cL_law 294 = .ok (.iload_n 3, 1) := by decide +kernel
theorem dL_law_295 : decode cL_law 295 = .ok (.iconst 1, 1) := by decide +kernel
theorem dL_law_296 : decode cL_law 296 = .ok (.iadd, 1) := by decide +kernel
theorem dL_law_297 : decode cL_law 297 = .ok (.iaload, 1) := by decide +kernel
theorem dL_law_298 : decode cL_law 298 = .ok (.invokevirtual 30, 3) := by decide +kernel
theorem dL_law_301 : decode cL_law 301 = .ok (.if_icmp .eq 787, 3) := by decide +kernel
theorem dL_law_304 : decode cL_law 304 = .ok (.iconst 0, 1) := by decide +kernel
theorem dL_law_305 : decode cL_law 305 = .ok (.ireturn, 1) := by decide +kernel
theorem dL_law_306 : decode cL_law 306 = .ok (.aload_n 1, 1) := by decide +kernel
theorem dL_law_307 : decode cL_law 307 = .ok (.invokevirtual 31, 3) := by decide +kernel
theorem dL_law_310 : decode cL_law 310 = .ok (.aload_n 2, 1) := by decide +kernel
theorem dL_law_311 : decode cL_law 311 = .ok (.invokevirtual 35, 3) := by decide +kernel
theorem dL_law_314 : decode cL_law 314 = .ok (.if_icmp .eq 774, 3) := by decide +kernel
theorem dL_law_317 : decode cL_law 317 = .ok (.iconst 0, 1) := by decide +kernel
theorem dL_law_318 : decode cL_law 318 = .ok (.ireturn, 1) := by decide +kernel
theorem dL_law_319 : decode cL_law 319 = .ok (.aload_n 1, 1) := by decide +kernel
theorem dL_law_320 : decode cL_law 320 = .ok (.invokevirtual 36, 3) := by decide +kernel
theorem dL_law_323 : decode cL_law 323 = .ok (.aload_n 2, 1) := by decide +kernel
theorem dL_law_324 : decode cL_law 324 = .ok (.invokevirtual 39, 3) := by decide +kernel
theorem dL_law_327 : decode cL_law 327 = .ok (.if_icmp .eq 761, 3) := by decide +kernel
theorem dL_law_330 : decode cL_law 330 = .ok (.iconst 0, 1) := by decide +kernel
theorem dL_law_331 : decode cL_law 331 = .ok (.ireturn, 1) := by decide +kernel
theorem dL_law_332 : decode cL_law 332 = .ok (.aload_n 1, 1) := by decide +kernel
theorem dL_law_333 : decode cL_law 333 = .ok (.aload_n 0, 1) := by decide +kernel
theorem dL_law_334 : decode cL_law 334 = .ok (.iload_n 3, 1) := by decide +kernel
theorem dL_law_335 : decode cL_law 335 = .ok (.iconst 1, 1) := by decide +kernel
theorem dL_law_336 : decode cL_law 336 = .ok (.iadd, 1) := by decide +kernel
theorem dL_law_337 : decode cL_law 337 = .ok (.iaload, 1) := by decide +kernel
theorem dL_law_338 : decode cL_law 338 = .ok (.invokevirtual 40, 3) := by decide +kernel
theorem dL_law_341 : decode cL_law 341 = .ok (.aload_n 2, 1) := by decide +kernel
theorem dL_law_342 : decode cL_law 342 = .ok (.aload_n 0, 1) := by decide +kernel
theorem dL_law_343 : decode cL_law 343 = .ok (.iload_n 3, 1) := by decide +kernel
theorem dL_law_344 : decode cL_law 344 = .ok (.iconst 1, 1) := by decide +kernel
theorem dL_law_345 : decode cL_law 345 = .ok (.iadd, 1) := by decide +kernel
theorem dL_law_346 : decode cL_law 346 = .ok (.iaload, 1) := by decide +kernel
theorem dL_law_347 : decode cL_law 347 = .ok (.invokevirtual 43, 3) := by decide +kernel
theorem dL_law_350 : decode cL_law 350 = .ok (.if_icmp .eq 738, 3) := by decide +kernel
theorem dL_law_353 : decode cL_law 353 = .ok (.iconst 0, 1) := by decide +kernel
theorem dL_law_354 : decode cL_law 354 = .ok (.ireturn, 1) := by decide +kernel
theorem dL_law_355 : decode cL_law 355 = .ok (.aload_n 1, 1) := by decide +kernel
theorem dL_law_356 : decode cL_law 356 = .ok (.aload_n 0, 1) := by decide +kernel
theorem dL_law_357 : decode cL_law 357 = .ok (.iload_n 3, 1) := by decide +kernel
theorem dL_law_358 : decode cL_law 358 = .ok (.iconst 1, 1) := by decide +kernel
theorem dL_law_359 : decode cL_law 359 = .ok (.iadd, 1) := by decide +kernel
theorem dL_law_360 : decode cL_law 360 = .ok (.iaload, 1) := by decide +kernel
theorem dL_law_361 : decode cL_law 361 = .ok (.invokevirtual 44, 3) := by decide +kernel
theorem dL_law_364 : decode cL_law 364 = .ok (.aload_n 2, 1) := by decide +kernel
theorem dL_law_365 : decode cL_law 365 = .ok (.aload_n 0, 1) := by decide +kernel
theorem dL_law_366 : decode cL_law 366 = .ok (.iload_n 3, 1) := by decide +kernel
theorem dL_law_367 : decode cL_law 367 = .ok (.iconst 1, 1) := by decide +kernel
theorem dL_law_368 : decode cL_law 368 = .ok (.iadd, 1) := by decide +kernel
theorem dL_law_369 : decode cL_law 369 = .ok (.iaload, 1) := by decide +kernel
theorem dL_law_370 : decode cL_law 370 = .ok (.invokevirtual 47, 3) := by decide +kernel
theorem dL_law_373 : decode cL_law 373 = .ok (.if_icmp .eq 715, 3) := by decide +kernel
theorem dL_law_376 : decode cL_law 376 = .ok (.iconst 0, 1) := by decide +kernel
theorem dL_law_377 : decode cL_law 377 = .ok (.ireturn, 1) := by decide +kernel
theorem dL_law_378 : decode cL_law 378 = .ok (.aload_n 1, 1) := by decide +kernel
theorem dL_law_379 : decode cL_law 379 = .ok (.invokevirtual 48, 3) := by decide +kernel
theorem dL_law_382 : decode cL_law 382 = .ok (.aload_n 2, 1) := by decide +kernel
theorem dL_law_383 : decode cL_law 383 = .ok (.invokevirtual 51, 3) := by decide +kernel
theorem dL_law_386 : decode cL_law 386 = .ok (.if_icmp .eq 702, 3) := by decide +kernel
theorem dL_law_389 : decode cL_law 389 = .ok (.iconst 0, 1) := by decide +kernel
theorem dL_law_390 : decode cL_law 390 = .ok (.ireturn, 1) := by decide +kernel
theorem dL_law_391 : decode cL_law 391 = .ok (.aload_n 1, 1) := by decide +kernel
theorem dL_law_392 : decode cL_law 392 = .ok (.aload_n 0, 1) := by decide +kernel
theorem dL_law_393 : decode cL_law 393 = .ok (.iload_n 3, 1) := by decide +kernel
theorem dL_law_394 : decode cL_law 394 = .ok (.iconst 1, 1) := by decide +kernel
theorem dL_law_395 : decode cL_law 395 = .ok (.iadd, 1) := by decide +kernel
theorem dL_law_396 : decode cL_law 396 = .ok (.iaload, 1) := by decide +kernel
theorem dL_law_397 : decode cL_law 397 = .ok (.aload_n 0, 1) := by decide +kernel
theorem dL_law_398 : decode cL_law 398 = .ok (.iload_n 3, 1) := by decide +kernel
theorem dL_law_399 : decode cL_law 399 = .ok (.iconst 2, 1) := by decide +kernel
theorem dL_law_400 : decode cL_law 400 = .ok (.iadd, 1) := by decide +kernel
theorem dL_law_401 : decode cL_law 401 = .ok (.iaload, 1) := by decide +kernel
theorem dL_law_402 : decode cL_law 402 = .ok (.invokevirtual 52, 3) := by decide +kernel
theorem dL_law_405 : decode cL_law 405 = .ok (.aload_n 2, 1) := by decide +kernel
theorem dL_law_406 : decode cL_law 406 = .ok (.aload_n 0, 1) := by decide +kernel
theorem dL_law_407 : decode cL_law 407 = .ok (.iload_n 3, 1) := by decide +kernel
theorem dL_law_408 : decode cL_law 408 = .ok (.iconst 1, 1) := by decide +kernel
theorem dL_law_409 : decode cL_law 409 = .ok (.iadd, 1) := by decide +kernel
theorem dL_law_410 : decode cL_law 410 = .ok (.iaload, 1) := by decide +kernel
theorem dL_law_411 : decode cL_law 411 = .ok (.aload_n 0, 1) := by decide +kernel
theorem dL_law_412 : decode cL_law 412 = .ok (.iload_n 3, 1) := by decide +kernel
theorem dL_law_413 : decode cL_law 413 = .ok (.iconst 2, 1) := by decide +kernel
theorem dL_law_414 : decode cL_law 414 = .ok (.iadd, 1) := by decide +kernel
theorem dL_law_415 : decode cL_law 415 = .ok (.iaload, 1) := by decide +kernel
theorem dL_law_416 : decode cL_law 416 = .ok (.invokevirtual 55, 3) := by decide +kernel
theorem dL_law_419 : decode cL_law 419 = .ok (.if_icmp .eq 669, 3) := by decide +kernel
theorem dL_law_422 : decode cL_law 422 = .ok (.iconst 0, 1) := by decide +kernel
theorem dL_law_423 : decode cL_law 423 = .ok (.ireturn, 1) := by decide +kernel
theorem dL_law_424 : decode cL_law 424 = .ok (.aload_n 1, 1) := by decide +kernel
theorem dL_law_425 : decode cL_law 425 = .ok (.aload_n 0, 1) := by decide +kernel
theorem dL_law_426 : decode cL_law 426 = .ok (.iload_n 3, 1) := by decide +kernel
theorem dL_law_427 : decode cL_law 427 = .ok (.iconst 1, 1) := by decide +kernel
theorem dL_law_428 : decode cL_law 428 = .ok (.iadd, 1) := by decide +kernel
theorem dL_law_429 : decode cL_law 429 = .ok (.iaload, 1) := by decide +kernel
theorem dL_law_430 : decode cL_law 430 = .ok (.invokevirtual 56, 3) := by decide +kernel
theorem dL_law_433 : decode cL_law 433 = .ok (.aload_n 2, 1) := by decide +kernel
theorem dL_law_434 : decode cL_law 434 = .ok (.aload_n 0, 1) := by decide +kernel
theorem dL_law_435 : decode cL_law 435 = .ok (.iload_n 3, 1) := by decide +kernel
theorem dL_law_436 : decode cL_law 436 = .ok (.iconst 1, 1) := by decide +kernel
theorem dL_law_437 : decode cL_law 437 = .ok (.iadd, 1) := by decide +kernel
theorem dL_law_438 : decode cL_law 438 = .ok (.iaload, 1) := by decide +kernel
theorem dL_law_439 : decode cL_law 439 = .ok (.invokevirtual 59, 3) := by decide +kernel
theorem dL_law_442 : decode cL_law 442 = .ok (.if_icmp .eq 646, 3) := by decide +kernel
theorem dL_law_445 : decode cL_law 445 = .ok (.iconst 0, 1) := by decide +kernel
theorem dL_law_446 : decode cL_law 446 = .ok (.ireturn, 1) := by decide +kernel
theorem dL_law_447 : decode cL_law 447 = .ok (.aload_n 1, 1) := by decide +kernel
theorem dL_law_448 : decode cL_law 448 = .ok (.aload_n 0, 1) := by decide +kernel
theorem dL_law_449 : decode cL_law 449 = .ok (.iload_n 3, 1) := by decide +kernel
theorem dL_law_450 : decode cL_law 450 = .ok (.iconst 1, 1) := by decide +kernel
theorem dL_law_451 : decode cL_law 451 = .ok (.iadd, 1) := by decide +kernel
theorem dL_law_452 : decode cL_law 452 = .ok (.iaload, 1) := by decide +kernel
theorem dL_law_453 : decode cL_law 453 = .ok (.aload_n 0, 1) := by decide +kernel
theorem dL_law_454 : decode cL_law 454 = .ok (.iload_n 3, 1) := by decide +kernel
theorem dL_law_455 : decode cL_law 455 = .ok (.iconst 2, 1) := by decide +kernel
theorem dL_law_456 : decode cL_law 456 = .ok (.iadd, 1) := by decide +kernel
theorem dL_law_457 : decode cL_law 457 = .ok (.iaload, 1) := by decide +kernel
theorem dL_law_458 : decode cL_law 458 = .ok (.aload_n 0, 1) := by decide +kernel
theorem dL_law_459 : decode cL_law 459 = .ok (.iload_n 3, 1) := by decide +kernel
theorem dL_law_460 : decode cL_law 460 = .ok (.iconst 3, 1) := by decide +kernel
theorem dL_law_461 : decode cL_law 461 = .ok (.iadd, 1) := by decide +kernel
theorem dL_law_462 : decode cL_law 462 = .ok (.iaload, 1) := by decide +kernel
theorem dL_law_463 : decode cL_law 463 = .ok (.invokevirtual 60, 3) := by decide +kernel
theorem dL_law_466 : decode cL_law 466 = .ok (.aload_n 2, 1) := by decide +kernel
theorem dL_law_467 : decode cL_law 467 = .ok (.aload_n 0, 1) := by decide +kernel
theorem dL_law_468 : decode cL_law 468 = .ok (.iload_n 3, 1) := by decide +kernel
theorem dL_law_469 : decode cL_law 469 = .ok (.iconst 1, 1) := by decide +kernel
theorem dL_law_470 : decode cL_law 470 = .ok (.iadd, 1) := by decide +kernel
theorem dL_law_471 : decode cL_law 471 = .ok (.iaload, 1) := by decide +kernel
theorem dL_law_472 : decode cL_law 472 = .ok (.aload_n 0, 1) := by decide +kernel
theorem dL_law_473 : decode cL_law 473 = .ok (.iload_n 3, 1) := by decide +kernel
theorem dL_law_474 : decode cL_law 474 = .ok (.iconst 2, 1) := by decide +kernel
theorem dL_law_475 : decode cL_law 475 = .ok (.iadd, 1) := by decide +kernel
theorem dL_law_476 : decode cL_law 476 = .ok (.iaload, 1) := by decide +kernel
theorem dL_law_477 : decode cL_law 477 = .ok (.aload_n 0, 1) := by decide +kernel
theorem dL_law_478 : decode cL_law 478 = .ok (.iload_n 3, 1) := by decide +kernel
theorem dL_law_479 : decode cL_law 479 = .ok (.iconst 3, 1) := by decide +kernel
theorem dL_law_480 : decode cL_law 480 = .ok (.iadd, 1) := by decide +kernel
theorem dL_law_481 : decode cL_law 481 = .ok (.iaload, 1) := by decide +kernel
theorem dL_law_482 : decode cL_law 482 = .ok (.invokevirtual 64, 3) := by decide +kernel
theorem dL_law_485 : decode cL_law 485 = .ok (.if_icmp .eq 603, 3) := by decide +kernel
theorem dL_law_488 : decode cL_law 488 = .ok (.iconst 0, 1) := by decide +kernel
theorem dL_law_489 : decode cL_law 489 = .ok (.ireturn, 1) := by decide +kernel
theorem dL_law_490 : decode cL_law 490 = .ok (.aload_n 1, 1) := by decide +kernel
theorem dL_law_491 : decode cL_law 491 = .ok (.aload_n 0, 1) := by decide +kernel
theorem dL_law_492 : decode cL_law 492 = .ok (.iload_n 3, 1) := by decide +kernel
theorem dL_law_493 : decode cL_law 493 = .ok (.iconst 1, 1) := by decide +kernel
theorem dL_law_494 : decode cL_law 494 = .ok (.iadd, 1) := by decide +kernel
theorem dL_law_495 : decode cL_law 495 = .ok (.iaload, 1) := by decide +kernel
theorem dL_law_496 : decode cL_law 496 = .ok (.aload_n 0, 1) := by decide +kernel
theorem dL_law_497 : decode cL_law 497 = .ok (.iload_n 3, 1) := by decide +kernel
theorem dL_law_498 : decode cL_law 498 = .ok (.iconst 2, 1) := by decide +kernel
theorem dL_law_499 : decode cL_law 499 = .ok (.iadd, 1) := by decide +kernel
theorem dL_law_500 : decode cL_law 500 = .ok (.iaload, 1) := by decide +kernel
theorem dL_law_501 : decode cL_law 501 = .ok (.invokevirtual 65, 3) := by decide +kernel
theorem dL_law_504 : decode cL_law 504 = .ok (.aload_n 2, 1) := by decide +kernel
theorem dL_law_505 : decode cL_law 505 = .ok (.aload_n 0, 1) := by decide +kernel
theorem dL_law_506 : decode cL_law 506 = .ok (.iload_n 3, 1) := by decide +kernel
theorem dL_law_507 : decode cL_law 507 = .ok (.iconst 1, 1) := by decide +kernel
theorem dL_law_508 : decode cL_law 508 = .ok (.iadd, 1) := by decide +kernel
theorem dL_law_509 : decode cL_law 509 = .ok (.iaload, 1) := by decide +kernel
theorem dL_law_510 : decode cL_law 510 = .ok (.aload_n 0, 1) := by decide +kernel
theorem dL_law_511 : decode cL_law 511 = .ok (.iload_n 3, 1) := by decide +kernel
theorem dL_law_512 : decode cL_law 512 = .ok (.iconst 2, 1) := by decide +kernel
theorem dL_law_513 : decode cL_law 513 = .ok (.iadd, 1) := by decide +kernel
theorem dL_law_514 : decode cL_law 514 = .ok (.iaload, 1) := by decide +kernel
theorem dL_law_515 : decode cL_law 515 = .ok (.invokevirtual 68, 3) := by decide +kernel
theorem dL_law_518 : decode cL_law 518 = .ok (.if_icmp .eq 570, 3) := by decide +kernel
theorem dL_law_521 : decode cL_law 521 = .ok (.iconst 0, 1) := by decide +kernel
theorem dL_law_522 : decode cL_law 522 = .ok (.ireturn, 1) := by decide +kernel
theorem dL_law_523 : decode cL_law 523 = .ok (.aload_n 1, 1) := by decide +kernel
theorem dL_law_524 : decode cL_law 524 = .ok (.aload_n 0, 1) := by decide +kernel
theorem dL_law_525 : decode cL_law 525 = .ok (.iload_n 3, 1) := by decide +kernel
theorem dL_law_526 : decode cL_law 526 = .ok (.iconst 1, 1) := by decide +kernel
theorem dL_law_527 : decode cL_law 527 = .ok (.iadd, 1) := by decide +kernel
theorem dL_law_528 : decode cL_law 528 = .ok (.iaload, 1) := by decide +kernel
theorem dL_law_529 : decode cL_law 529 = .ok (.aload_n 0, 1) := by decide +kernel
theorem dL_law_530 : decode cL_law 530 = .ok (.iload_n 3, 1) := by decide +kernel
theorem dL_law_531 : decode cL_law 531 = .ok (.iconst 2, 1) := by decide +kernel
theorem dL_law_532 : decode cL_law 532 = .ok (.iadd, 1) := by decide +kernel
theorem dL_law_533 : decode cL_law 533 = .ok (.iaload, 1) := by decide +kernel
theorem dL_law_534 : decode cL_law 534 = .ok (.aload_n 0, 1) := by decide +kernel
theorem dL_law_535 : decode cL_law 535 = .ok (.iload_n 3, 1) := by decide +kernel
theorem dL_law_536 : decode cL_law 536 = .ok (.iconst 3, 1) := by decide +kernel
theorem dL_law_537 : decode cL_law 537 = .ok (.iadd, 1) := by decide +kernel
theorem dL_law_538 : decode cL_law 538 = .ok (.iaload, 1) := by decide +kernel
theorem dL_law_539 : decode cL_law 539 = .ok (.invokevirtual 69, 3) := by decide +kernel
theorem dL_law_542 : decode cL_law 542 = .ok (.aload_n 2, 1) := by decide +kernel
theorem dL_law_543 : decode cL_law 543 = .ok (.aload_n 0, 1) := by decide +kernel
theorem dL_law_544 : decode cL_law 544 = .ok (.iload_n 3, 1) := by decide +kernel
theorem dL_law_545 : decode cL_law 545 = .ok (.iconst 1, 1) := by decide +kernel
theorem dL_law_546 : decode cL_law 546 = .ok (.iadd, 1) := by decide +kernel
theorem dL_law_547 : decode cL_law 547 = .ok (.iaload, 1) := by decide +kernel
theorem dL_law_548 : decode cL_law 548 = .ok (.aload_n 0, 1) := by decide +kernel
theorem dL_law_549 : decode cL_law 549 = .ok (.iload_n 3, 1) := by decide +kernel
theorem dL_law_550 : decode cL_law 550 = .ok (.iconst 2, 1) := by decide +kernel
theorem dL_law_551 : decode cL_law 551 = .ok (.iadd, 1) := by decide +kernel
theorem dL_law_552 : decode cL_law 552 = .ok (.iaload, 1) := by decide +kernel
theorem dL_law_553 : decode cL_law 553 = .ok (.aload_n 0, 1) := by decide +kernel
theorem dL_law_554 : decode cL_law 554 = .ok (.iload_n 3, 1) := by decide +kernel
theorem dL_law_555 : decode cL_law 555 = .ok (.iconst 3, 1) := by decide +kernel
theorem dL_law_556 : decode cL_law 556 = .ok (.iadd, 1) := by decide +kernel
theorem dL_law_557 : decode cL_law 557 = .ok (.iaload, 1) := by decide +kernel
theorem dL_law_558 : decode cL_law 558 = .ok (.invokevirtual 72, 3) := by decide +kernel
theorem dL_law_561 : decode cL_law 561 = .ok (.if_icmp .eq 527, 3) := by decide +kernel
theorem dL_law_564 : decode cL_law 564 = .ok (.iconst 0, 1) := by decide +kernel
theorem dL_law_565 : decode cL_law 565 = .ok (.ireturn, 1) := by decide +kernel
theorem dL_law_566 : decode cL_law 566 = .ok (.aload_n 1, 1) := by decide +kernel
theorem dL_law_567 : decode cL_law 567 = .ok (.aload_n 0, 1) := by decide +kernel
theorem dL_law_568 : decode cL_law 568 = .ok (.iload_n 3, 1) := by decide +kernel
theorem dL_law_569 : decode cL_law 569 = .ok (.iconst 1, 1) := by decide +kernel
theorem dL_law_570 : decode cL_law 570 = .ok (.iadd, 1) := by decide +kernel
theorem dL_law_571 : decode cL_law 571 = .ok (.iaload, 1) := by decide +kernel
theorem dL_law_572 : decode cL_law 572 = .ok (.invokevirtual 73, 3) := by decide +kernel
theorem dL_law_575 : decode cL_law 575 = .ok (.aload_n 2, 1) := by decide +kernel
theorem dL_law_576 : decode cL_law 576 = .ok (.aload_n 0, 1) := by decide +kernel
theorem dL_law_577 : decode cL_law 577 = .ok (.iload_n 3, 1) := by decide +kernel
theorem dL_law_578 : decode cL_law 578 = .ok (.iconst 1, 1) := by decide +kernel
theorem dL_law_579 : decode cL_law 579 = .ok (.iadd, 1) := by decide +kernel
theorem dL_law_580 : decode cL_law 580 = .ok (.iaload, 1) := by decide +kernel
theorem dL_law_581 : decode cL_law 581 = .ok (.invokevirtual 76, 3) := by decide +kernel
theorem dL_law_584 : decode cL_law 584 = .ok (.if_icmp .eq 504, 3) := by decide +kernel
theorem dL_law_587 : decode cL_law 587 = .ok (.iconst 0, 1) := by decide +kernel
theorem dL_law_588 : decode cL_law 588 = .ok (.ireturn, 1) := by decide +kernel
theorem dL_law_589 : decode cL_law 589 = .ok (.aload_n 1, 1) := by decide +kernel
theorem dL_law_590 : decode cL_law 590 = .ok (.aload_n 0, 1) := by decide +kernel
theorem dL_law_591 : decode cL_law 591 = .ok (.iload_n 3, 1) := by decide +kernel
theorem dL_law_592 : decode cL_law 592 = .ok (.iconst 1, 1) := by decide +kernel
theorem dL_law_593 : decode cL_law 593 = .ok (.iadd, 1) := by decide +kernel
theorem dL_law_594 : decode cL_law 594 = .ok (.iaload, 1) := by decide +kernel
theorem dL_law_595 : decode cL_law 595 = .ok (.aload_n 0, 1) := by decide +kernel
theorem dL_law_596 : decode cL_law 596 = .ok (.iload_n 3, 1) := by decide +kernel
theorem dL_law_597 : decode cL_law 597 = .ok (.iconst 2, 1) := by decide +kernel
theorem dL_law_598 : decode cL_law 598 = .ok (.iadd, 1) := by decide +kernel
theorem dL_law_599 : decode cL_law 599 = .ok (.iaload, 1) := by decide +kernel
theorem dL_law_600 : decode cL_law 600 = .ok (.invokevirtual 77, 3) := by decide +kernel
theorem dL_law_603 : decode cL_law 603 = .ok (.aload_n 2, 1) := by decide +kernel
theorem dL_law_604 : decode cL_law 604 = .ok (.aload_n 0, 1) := by decide +kernel
theorem dL_law_605 : decode cL_law 605 = .ok (.iload_n 3, 1) := by decide +kernel
theorem dL_law_606 : decode cL_law 606 = .ok (.iconst 1, 1) := by decide +kernel
theorem dL_law_607 : decode cL_law 607 = .ok (.iadd, 1) := by decide +kernel
theorem dL_law_608 : decode cL_law 608 = .ok (.iaload, 1) := by decide +kernel
theorem dL_law_609 : decode cL_law 609 = .ok (.aload_n 0, 1) := by decide +kernel
theorem dL_law_610 : decode cL_law 610 = .ok (.iload_n 3, 1) := by decide +kernel
theorem dL_law_611 : decode cL_law 611 = .ok (.iconst 2, 1) := by decide +kernel
theorem dL_law_612 : decode cL_law 612 = .ok (.iadd, 1) := by decide +kernel
theorem dL_law_613 : decode cL_law 613 = .ok (.iaload, 1) := by decide +kernel
theorem dL_law_614 : decode cL_law 614 = .ok (.invokevirtual 80, 3) := by decide +kernel
theorem dL_law_617 : decode cL_law 617 = .ok (.if_icmp .eq 471, 3) := by decide +kernel
theorem dL_law_620 : decode cL_law 620 = .ok (.iconst 0, 1) := by decide +kernel
theorem dL_law_621 : decode cL_law 621 = .ok (.ireturn, 1) := by decide +kernel
theorem dL_law_622 : decode cL_law 622 = .ok (.aload_n 1, 1) := by decide +kernel
theorem dL_law_623 : decode cL_law 623 = .ok (.aload_n 0, 1) := by decide +kernel
theorem dL_law_624 : decode cL_law 624 = .ok (.iload_n 3, 1) := by decide +kernel
theorem dL_law_625 : decode cL_law 625 = .ok (.iconst 1, 1) := by decide +kernel
theorem dL_law_626 : decode cL_law 626 = .ok (.iadd, 1) := by decide +kernel
theorem dL_law_627 : decode cL_law 627 = .ok (.iaload, 1) := by decide +kernel
theorem dL_law_628 : decode cL_law 628 = .ok (.invokevirtual 81, 3) := by decide +kernel
theorem dL_law_631 : decode cL_law 631 = .ok (.aload_n 2, 1) := by decide +kernel
theorem dL_law_632 : decode cL_law 632 = .ok (.aload_n 0, 1) := by decide +kernel
theorem dL_law_633 : decode cL_law 633 = .ok (.iload_n 3, 1) := by decide +kernel
theorem dL_law_634 : decode cL_law 634 = .ok (.iconst 1, 1) := by decide +kernel
theorem dL_law_635 : decode cL_law 635 = .ok (.iadd, 1) := by decide +kernel
theorem dL_law_636 : decode cL_law 636 = .ok (.iaload, 1) := by decide +kernel
theorem dL_law_637 : decode cL_law 637 = .ok (.invokevirtual 84, 3) := by decide +kernel
theorem dL_law_640 : decode cL_law 640 = .ok (.if_icmp .eq 448, 3) := by decide +kernel
theorem dL_law_643 : decode cL_law 643 = .ok (.iconst 0, 1) := by decide +kernel
theorem dL_law_644 : decode cL_law 644 = .ok (.ireturn, 1) := by decide +kernel
theorem dL_law_645 : decode cL_law 645 = .ok (.aload_n 1, 1) := by decide +kernel
theorem dL_law_646 : decode cL_law 646 = .ok (.invokevirtual 85, 3) := by decide +kernel
theorem dL_law_649 : decode cL_law 649 = .ok (.aload_n 2, 1) := by decide +kernel
theorem dL_law_650 : decode cL_law 650 = .ok (.invokevirtual 88, 3) := by decide +kernel
theorem dL_law_653 : decode cL_law 653 = .ok (.if_icmp .eq 435, 3) := by decide +kernel
theorem dL_law_656 : decode cL_law 656 = .ok (.iconst 0, 1) := by decide +kernel
theorem dL_law_657 : decode cL_law 657 = .ok (.ireturn, 1) := by decide +kernel
theorem dL_law_658 : decode cL_law 658 = .ok (.aload_n 1, 1) := by decide +kernel
theorem dL_law_659 : decode cL_law 659 = .ok (.aload_n 0, 1) := by decide +kernel
theorem dL_law_660 : decode cL_law 660 = .ok (.iload_n 3, 1) := by decide +kernel
theorem dL_law_661 : decode cL_law 661 = .ok (.iconst 1, 1) := by decide +kernel
theorem dL_law_662 : decode cL_law 662 = .ok (.iadd, 1) := by decide +kernel
theorem dL_law_663 : decode cL_law 663 = .ok (.iaload, 1) := by decide +kernel
theorem dL_law_664 : decode cL_law 664 = .ok (.aload_n 0, 1) := by decide +kernel
theorem dL_law_665 : decode cL_law 665 = .ok (.iload_n 3, 1) := by decide +kernel
theorem dL_law_666 : decode cL_law 666 = .ok (.iconst 2, 1) := by decide +kernel
theorem dL_law_667 : decode cL_law 667 = .ok (.iadd, 1) := by decide +kernel
theorem dL_law_668 : decode cL_law 668 = .ok (.iaload, 1) := by decide +kernel
theorem dL_law_669 : decode cL_law 669 = .ok (.aload_n 0, 1) := by decide +kernel
theorem dL_law_670 : decode cL_law 670 = .ok (.iload_n 3, 1) := by decide +kernel
theorem dL_law_671 : decode cL_law 671 = .ok (.iconst 3, 1) := by decide +kernel
theorem dL_law_672 : decode cL_law 672 = .ok (.iadd, 1) := by decide +kernel
theorem dL_law_673 : decode cL_law 673 = .ok (.iaload, 1) := by decide +kernel
theorem dL_law_674 : decode cL_law 674 = .ok (.aload_n 0, 1) := by decide +kernel
theorem dL_law_675 : decode cL_law 675 = .ok (.iload_n 3, 1) := by decide +kernel
theorem dL_law_676 : decode cL_law 676 = .ok (.iconst 4, 1) := by decide +kernel
theorem dL_law_677 : decode cL_law 677 = .ok (.iadd, 1) := by decide +kernel
theorem dL_law_678 : decode cL_law 678 = .ok (.iaload, 1) := by decide +kernel
theorem dL_law_679 : decode cL_law 679 = .ok (.invokevirtual 89, 3) := by decide +kernel
theorem dL_law_682 : decode cL_law 682 = .ok (.aload_n 2, 1) := by decide +kernel
theorem dL_law_683 : decode cL_law 683 = .ok (.aload_n 0, 1) := by decide +kernel
theorem dL_law_684 : decode cL_law 684 = .ok (.iload_n 3, 1) := by decide +kernel
theorem dL_law_685 : decode cL_law 685 = .ok (.iconst 1, 1) := by decide +kernel
theorem dL_law_686 : decode cL_law 686 = .ok (.iadd, 1) := by decide +kernel
theorem dL_law_687 : decode cL_law 687 = .ok (.iaload, 1) := by decide +kernel
theorem dL_law_688 : decode cL_law 688 = .ok (.aload_n 0, 1) := by decide +kernel
theorem dL_law_689 : decode cL_law 689 = .ok (.iload_n 3, 1) := by decide +kernel
theorem dL_law_690 : decode cL_law 690 = .ok (.iconst 2, 1) := by decide +kernel
theorem dL_law_691 : decode cL_law 691 = .ok (.iadd, 1) := by decide +kernel
theorem dL_law_692 : decode cL_law 692 = .ok (.iaload, 1) := by decide +kernel
theorem dL_law_693 : decode cL_law 693 = .ok (.aload_n 0, 1) := by decide +kernel
theorem dL_law_694 : decode cL_law 694 = .ok (.iload_n 3, 1) := by decide +kernel
theorem dL_law_695 : decode cL_law 695 = .ok (.iconst 3, 1) := by decide +kernel
theorem dL_law_696 : decode cL_law 696 = .ok (.iadd, 1) := by decide +kernel
theorem dL_law_697 : decode cL_law 697 = .ok (.iaload, 1) := by decide +kernel
theorem dL_law_698 : decode cL_law 698 = .ok (.aload_n 0, 1) := by decide +kernel
theorem dL_law_699 : decode cL_law 699 = .ok (.iload_n 3, 1) := by decide +kernel
theorem dL_law_700 : decode cL_law 700 = .ok (.iconst 4, 1) := by decide +kernel
theorem dL_law_701 : decode cL_law 701 = .ok (.iadd, 1) := by decide +kernel
theorem dL_law_702 : decode cL_law 702 = .ok (.iaload, 1) := by decide +kernel
theorem dL_law_703 : decode cL_law 703 = .ok (.invokevirtual 93, 3) := by decide +kernel
theorem dL_law_706 : decode cL_law 706 = .ok (.if_icmp .eq 382, 3) := by decide +kernel
theorem dL_law_709 : decode cL_law 709 = .ok (.iconst 0, 1) := by decide +kernel
theorem dL_law_710 : decode cL_law 710 = .ok (.ireturn, 1) := by decide +kernel
theorem dL_law_711 : decode cL_law 711 = .ok (.aload_n 1, 1) := by decide +kernel
theorem dL_law_712 : decode cL_law 712 = .ok (.aload_n 0, 1) := by decide +kernel
theorem dL_law_713 : decode cL_law 713 = .ok (.iload_n 3, 1) := by decide +kernel
theorem dL_law_714 : decode cL_law 714 = .ok (.iconst 1, 1) := by decide +kernel
theorem dL_law_715 : decode cL_law 715 = .ok (.iadd, 1) := by decide +kernel
theorem dL_law_716 : decode cL_law 716 = .ok (.iaload, 1) := by decide +kernel
theorem dL_law_717 : decode cL_law 717 = .ok (.aload_n 0, 1) := by decide +kernel
theorem dL_law_718 : decode cL_law 718 = .ok (.iload_n 3, 1) := by decide +kernel
theorem dL_law_719 : decode cL_law 719 = .ok (.iconst 2, 1) := by decide +kernel
theorem dL_law_720 : decode cL_law 720 = .ok (.iadd, 1) := by decide +kernel
theorem dL_law_721 : decode cL_law 721 = .ok (.iaload, 1) := by decide +kernel
theorem dL_law_722 : decode cL_law 722 = .ok (.aload_n 0, 1) := by decide +kernel
theorem dL_law_723 : decode cL_law 723 = .ok (.iload_n 3, 1) := by decide +kernel
theorem dL_law_724 : decode cL_law 724 = .ok (.iconst 3, 1) := by decide +kernel
theorem dL_law_725 : decode cL_law 725 = .ok (.iadd, 1) := by decide +kernel
theorem dL_law_726 : decode cL_law 726 = .ok (.iaload, 1) := by decide +kernel
theorem dL_law_727 : decode cL_law 727 = .ok (.aload_n 0, 1) := by decide +kernel
theorem dL_law_728 : decode cL_law 728 = .ok (.iload_n 3, 1) := by decide +kernel
theorem dL_law_729 : decode cL_law 729 = .ok (.iconst 4, 1) := by decide +kernel
theorem dL_law_730 : decode cL_law 730 = .ok (.iadd, 1) := by decide +kernel
theorem dL_law_731 : decode cL_law 731 = .ok (.iaload, 1) := by decide +kernel
theorem dL_law_732 : decode cL_law 732 = .ok (.invokevirtual 94, 3) := by decide +kernel
theorem dL_law_735 : decode cL_law 735 = .ok (.aload_n 2, 1) := by decide +kernel
theorem dL_law_736 : decode cL_law 736 = .ok (.aload_n 0, 1) := by decide +kernel
theorem dL_law_737 : decode cL_law 737 = .ok (.iload_n 3, 1) := by decide +kernel
theorem dL_law_738 : decode cL_law 738 = .ok (.iconst 1, 1) := by decide +kernel
theorem dL_law_739 : decode cL_law 739 = .ok (.iadd, 1) := by decide +kernel
theorem dL_law_740 : decode cL_law 740 = .ok (.iaload, 1) := by decide +kernel
theorem dL_law_741 : decode cL_law 741 = .ok (.aload_n 0, 1) := by decide +kernel
theorem dL_law_742 : decode cL_law 742 = .ok (.iload_n 3, 1) := by decide +kernel
theorem dL_law_743 : decode cL_law 743 = .ok (.iconst 2, 1) := by decide +kernel
theorem dL_law_744 : decode cL_law 744 = .ok (.iadd, 1) := by decide +kernel
theorem dL_law_745 : decode cL_law 745 = .ok (.iaload, 1) := by decide +kernel
theorem dL_law_746 : decode cL_law 746 = .ok (.aload_n 0, 1) := by decide +kernel
theorem dL_law_747 : decode cL_law 747 = .ok (.iload_n 3, 1) := by decide +kernel
theorem dL_law_748 : decode cL_law 748 = .ok (.iconst 3, 1) := by decide +kernel
theorem dL_law_749 : decode cL_law 749 = .ok (.iadd, 1) := by decide +kernel
theorem dL_law_750 : decode cL_law 750 = .ok (.iaload, 1) := by decide +kernel
theorem dL_law_751 : decode cL_law 751 = .ok (.aload_n 0, 1) := by decide +kernel
theorem dL_law_752 : decode cL_law 752 = .ok (.iload_n 3, 1) := by decide +kernel
theorem dL_law_753 : decode cL_law 753 = .ok (.iconst 4, 1) := by decide +kernel
theorem dL_law_754 : decode cL_law 754 = .ok (.iadd, 1) := by decide +kernel
theorem dL_law_755 : decode cL_law 755 = .ok (.iaload, 1) := by decide +kernel
theorem dL_law_756 : decode cL_law 756 = .ok (.invokevirtual 97, 3) := by decide +kernel
theorem dL_law_759 : decode cL_law 759 = .ok (.if_icmp .eq 329, 3) := by decide +kernel
theorem dL_law_762 : decode cL_law 762 = .ok (.iconst 0, 1) := by decide +kernel
theorem dL_law_763 : decode cL_law 763 = .ok (.ireturn, 1) := by decide +kernel
theorem dL_law_764 : decode cL_law 764 = .ok (.aload_n 1, 1) := by decide +kernel
theorem dL_law_765 : decode cL_law 765 = .ok (.aload_n 0, 1) := by decide +kernel
theorem dL_law_766 : decode cL_law 766 = .ok (.iload_n 3, 1) := by decide +kernel
theorem dL_law_767 : decode cL_law 767 = .ok (.iconst 1, 1) := by decide +kernel
theorem dL_law_768 : decode cL_law 768 = .ok (.iadd, 1) := by decide +kernel
theorem dL_law_769 : decode cL_law 769 = .ok (.iaload, 1) := by decide +kernel
theorem dL_law_770 : decode cL_law 770 = .ok (.invokevirtual 98, 3) := by decide +kernel
theorem dL_law_773 : decode cL_law 773 = .ok (.aload_n 2, 1) := by decide +kernel
theorem dL_law_774 : decode cL_law 774 = .ok (.aload_n 0, 1) := by decide +kernel
theorem dL_law_775 : decode cL_law 775 = .ok (.iload_n 3, 1) := by decide +kernel
theorem dL_law_776 : decode cL_law 776 = .ok (.iconst 1, 1) := by decide +kernel
theorem dL_law_777 : decode cL_law 777 = .ok (.iadd, 1) := by decide +kernel
theorem dL_law_778 : decode cL_law 778 = .ok (.iaload, 1) := by decide +kernel
theorem dL_law_779 : decode cL_law 779 = .ok (.invokevirtual 101, 3) := by decide +kernel
theorem dL_law_782 : decode cL_law 782 = .ok (.if_icmp .eq 306, 3) := by decide +kernel
theorem dL_law_785 : decode cL_law 785 = .ok (.iconst 0, 1) := by decide +kernel
theorem dL_law_786 : decode cL_law 786 = .ok (.ireturn, 1) := by decide +kernel
theorem dL_law_787 : decode cL_law 787 = .ok (.aload_n 1, 1) := by decide +kernel
theorem dL_law_788 : decode cL_law 788 = .ok (.aload_n 0, 1) := by decide +kernel
theorem dL_law_789 : decode cL_law 789 = .ok (.iload_n 3, 1) := by decide +kernel
theorem dL_law_790 : decode cL_law 790 = .ok (.iconst 1, 1) := by decide +kernel
theorem dL_law_791 : decode cL_law 791 = .ok (.iadd, 1) := by decide +kernel
theorem dL_law_792 : decode cL_law 792 = .ok (.iaload, 1) := by decide +kernel
theorem dL_law_793 : decode cL_law 793 = .ok (.invokevirtual 102, 3) := by decide +kernel
theorem dL_law_796 : decode cL_law 796 = .ok (.aload_n 2, 1) := by decide +kernel
theorem dL_law_797 : decode cL_law 797 = .ok (.aload_n 0, 1) := by decide +kernel
theorem dL_law_798 : decode cL_law 798 = .ok (.iload_n 3, 1) := by decide +kernel
theorem dL_law_799 : decode cL_law 799 = .ok (.iconst 1, 1) := by decide +kernel
theorem dL_law_800 : decode cL_law 800 = .ok (.iadd, 1) := by decide +kernel
theorem dL_law_801 : decode cL_law 801 = .ok (.iaload, 1) := by decide +kernel
theorem dL_law_802 : decode cL_law 802 = .ok (.invokevirtual 105, 3) := by decide +kernel
theorem dL_law_805 : decode cL_law 805 = .ok (.if_icmp .eq 283, 3) := by decide +kernel
theorem dL_law_808 : decode cL_law 808 = .ok (.iconst 0, 1) := by decide +kernel
theorem dL_law_809 : decode cL_law 809 = .ok (.ireturn, 1) := by decide +kernel
theorem dL_law_810 : decode cL_law 810 = .ok (.aload_n 1, 1) := by decide +kernel
theorem dL_law_811 : decode cL_law 811 = .ok (.aload_n 0, 1) := by decide +kernel
theorem dL_law_812 : decode cL_law 812 = .ok (.iload_n 3, 1) := by decide +kernel
theorem dL_law_813 : decode cL_law 813 = .ok (.iconst 1, 1) := by decide +kernel
theorem dL_law_814 : decode cL_law 814 = .ok (.iadd, 1) := by decide +kernel
theorem dL_law_815 : decode cL_law 815 = .ok (.iaload, 1) := by decide +kernel
theorem dL_law_816 : decode cL_law 816 = .ok (.invokevirtual 106, 3) := by decide +kernel
theorem dL_law_819 : decode cL_law 819 = .ok (.aload_n 2, 1) := by decide +kernel
theorem dL_law_820 : decode cL_law 820 = .ok (.aload_n 0, 1) := by decide +kernel
theorem dL_law_821 : decode cL_law 821 = .ok (.iload_n 3, 1) := by decide +kernel
theorem dL_law_822 : decode cL_law 822 = .ok (.iconst 1, 1) := by decide +kernel
theorem dL_law_823 : decode cL_law 823 = .ok (.iadd, 1) := by decide +kernel
theorem dL_law_824 : decode cL_law 824 = .ok (.iaload, 1) := by decide +kernel
theorem dL_law_825 : decode cL_law 825 = .ok (.invokevirtual 109, 3) := by decide +kernel
theorem dL_law_828 : decode cL_law 828 = .ok (.if_icmp .eq 260, 3) := by decide +kernel
theorem dL_law_831 : decode cL_law 831 = .ok (.iconst 0, 1) := by decide +kernel
theorem dL_law_832 : decode cL_law 832 = .ok (.ireturn, 1) := by decide +kernel
theorem dL_law_833 : decode cL_law 833 = .ok (.aload_n 1, 1) := by decide +kernel
theorem dL_law_834 : decode cL_law 834 = .ok (.aload_n 0, 1) := by decide +kernel
theorem dL_law_835 : decode cL_law 835 = .ok (.iload_n 3, 1) := by decide +kernel
theorem dL_law_836 : decode cL_law 836 = .ok (.iconst 1, 1) := by decide +kernel
theorem dL_law_837 : decode cL_law 837 = .ok (.iadd, 1) := by decide +kernel
theorem dL_law_838 : decode cL_law 838 = .ok (.iaload, 1) := by decide +kernel
theorem dL_law_839 : decode cL_law 839 = .ok (.invokevirtual 110, 3) := by decide +kernel
theorem dL_law_842 : decode cL_law 842 = .ok (.aload_n 2, 1) := by decide +kernel
theorem dL_law_843 : decode cL_law 843 = .ok (.aload_n 0, 1) := by decide +kernel
theorem dL_law_844 : decode cL_law 844 = .ok (.iload_n 3, 1) := by decide +kernel
theorem dL_law_845 : decode cL_law 845 = .ok (.iconst 1, 1) := by decide +kernel
theorem dL_law_846 : decode cL_law 846 = .ok (.iadd, 1) := by decide +kernel
theorem dL_law_847 : decode cL_law 847 = .ok (.iaload, 1) := by decide +kernel
theorem dL_law_848 : decode cL_law 848 = .ok (.invokevirtual 113, 3) := by decide +kernel
theorem dL_law_851 : decode cL_law 851 = .ok (.if_icmp .eq 237, 3) := by decide +kernel
theorem dL_law_854 : decode cL_law 854 = .ok (.iconst 0, 1) := by decide +kernel
theorem dL_law_855 : decode cL_law 855 = .ok (.ireturn, 1) := by decide +kernel
theorem dL_law_856 : decode cL_law 856 = .ok (.aload_n 1, 1) := by decide +kernel
theorem dL_law_857 : decode cL_law 857 = .ok (.aload_n 0, 1) := by decide +kernel
theorem dL_law_858 : decode cL_law 858 = .ok (.iload_n 3, 1) := by decide +kernel
theorem dL_law_859 : decode cL_law 859 = .ok (.iconst 1, 1) := by decide +kernel
theorem dL_law_860 : decode cL_law 860 = .ok (.iadd, 1) := by decide +kernel
theorem dL_law_861 : decode cL_law 861 = .ok (.iaload, 1) := by decide +kernel
theorem dL_law_862 : decode cL_law 862 = .ok (.invokevirtual 114, 3) := by decide +kernel
theorem dL_law_865 : decode cL_law 865 = .ok (.aload_n 2, 1) := by decide +kernel
theorem dL_law_866 : decode cL_law 866 = .ok (.aload_n 0, 1) := by decide +kernel
theorem dL_law_867 : decode cL_law 867 = .ok (.iload_n 3, 1) := by decide +kernel
theorem dL_law_868 : decode cL_law 868 = .ok (.iconst 1, 1) := by decide +kernel
theorem dL_law_869 : decode cL_law 869 = .ok (.iadd, 1) := by decide +kernel
theorem dL_law_870 : decode cL_law 870 = .ok (.iaload, 1) := by decide +kernel
theorem dL_law_871 : decode cL_law 871 = .ok (.invokevirtual 117, 3) := by decide +kernel
theorem dL_law_874 : decode cL_law 874 = .ok (.if_icmp .eq 214, 3) := by decide +kernel
theorem dL_law_877 : decode cL_law 877 = .ok (.iconst 0, 1) := by decide +kernel
theorem dL_law_878 : decode cL_law 878 = .ok (.ireturn, 1) := by decide +kernel
theorem dL_law_879 : decode cL_law 879 = .ok (.aload_n 1, 1) := by decide +kernel
theorem dL_law_880 : decode cL_law 880 = .ok (.aload_n 0, 1) := by decide +kernel
theorem dL_law_881 : decode cL_law 881 = .ok (.iload_n 3, 1) := by decide +kernel
theorem dL_law_882 : decode cL_law 882 = .ok (.iconst 1, 1) := by decide +kernel
theorem dL_law_883 : decode cL_law 883 = .ok (.iadd, 1) := by decide +kernel
theorem dL_law_884 : decode cL_law 884 = .ok (.iaload, 1) := by decide +kernel
theorem dL_law_885 : decode cL_law 885 = .ok (.invokevirtual 118, 3) := by decide +kernel
theorem dL_law_888 : decode cL_law 888 = .ok (.aload_n 2, 1) := by decide +kernel
theorem dL_law_889 : decode cL_law 889 = .ok (.aload_n 0, 1) := by decide +kernel
theorem dL_law_890 : decode cL_law 890 = .ok (.iload_n 3, 1) := by decide +kernel
theorem dL_law_891 : decode cL_law 891 = .ok (.iconst 1, 1) := by decide +kernel
theorem dL_law_892 : decode cL_law 892 = .ok (.iadd, 1) := by decide +kernel
theorem dL_law_893 : decode cL_law 893 = .ok (.iaload, 1) := by decide +kernel
theorem dL_law_894 : decode cL_law 894 = .ok (.invokevirtual 121, 3) := by decide +kernel
theorem dL_law_897 : decode cL_law 897 = .ok (.if_icmp .eq 191, 3) := by decide +kernel
theorem dL_law_900 : decode cL_law 900 = .ok (.iconst 0, 1) := by decide +kernel
theorem dL_law_901 : decode cL_law 901 = .ok (.ireturn, 1) := by decide +kernel
theorem dL_law_902 : decode cL_law 902 = .ok (.aload_n 1, 1) := by decide +kernel
theorem dL_law_903 : decode cL_law 903 = .ok (.aload_n 0, 1) := by decide +kernel
theorem dL_law_904 : decode cL_law 904 = .ok (.iload_n 3, 1) := by decide +kernel
theorem dL_law_905 : decode cL_law 905 = .ok (.iconst 1, 1) := by decide +kernel
theorem dL_law_906 : decode cL_law 906 = .ok (.iadd, 1) := by decide +kernel
theorem dL_law_907 : decode cL_law 907 = .ok (.iaload, 1) := by decide +kernel
theorem dL_law_908 : decode cL_law 908 = .ok (.invokevirtual 122, 3) := by decide +kernel
theorem dL_law_911 : decode cL_law 911 = .ok (.aload_n 2, 1) := by decide +kernel
theorem dL_law_912 : decode cL_law 912 = .ok (.aload_n 0, 1) := by decide +kernel
theorem dL_law_913 : decode cL_law 913 = .ok (.iload_n 3, 1) := by decide +kernel
theorem dL_law_914 : decode cL_law 914 = .ok (.iconst 1, 1) := by decide +kernel
theorem dL_law_915 : decode cL_law 915 = .ok (.iadd, 1) := by decide +kernel
theorem dL_law_916 : decode cL_law 916 = .ok (.iaload, 1) := by decide +kernel
theorem dL_law_917 : decode cL_law 917 = .ok (.invokevirtual 125, 3) := by decide +kernel
theorem dL_law_920 : decode cL_law 920 = .ok (.if_icmp .eq 168, 3) := by decide +kernel
theorem dL_law_923 : decode cL_law 923 = .ok (.iconst 0, 1) := by decide +kernel
theorem dL_law_924 : decode cL_law 924 = .ok (.ireturn, 1) := by decide +kernel
theorem dL_law_925 : decode cL_law 925 = .ok (.aload_n 1, 1) := by decide +kernel
theorem dL_law_926 : decode cL_law 926 = .ok (.aload_n 0, 1) := by decide +kernel
theorem dL_law_927 : decode cL_law 927 = .ok (.iload_n 3, 1) := by decide +kernel
theorem dL_law_928 : decode cL_law 928 = .ok (.iconst 1, 1) := by decide +kernel
theorem dL_law_929 : decode cL_law 929 = .ok (.iadd, 1) := by decide +kernel
theorem dL_law_930 : decode cL_law 930 = .ok (.iaload, 1) := by decide +kernel
theorem dL_law_931 : decode cL_law 931 = .ok (.aload_n 0, 1) := by decide +kernel
theorem dL_law_932 : decode cL_law 932 = .ok (.iload_n 3, 1) := by decide +kernel
theorem dL_law_933 : decode cL_law 933 = .ok (.iconst 2, 1) := by decide +kernel
theorem dL_law_934 : decode cL_law 934 = .ok (.iadd, 1) := by decide +kernel
theorem dL_law_935 : decode cL_law 935 = .ok (.iaload, 1) := by decide +kernel
theorem dL_law_936 : decode cL_law 936 = .ok (.invokevirtual 126, 3) := by decide +kernel
theorem dL_law_939 : decode cL_law 939 = .ok (.aload_n 2, 1) := by decide +kernel
theorem dL_law_940 : decode cL_law 940 = .ok (.aload_n 0, 1) := by decide +kernel
theorem dL_law_941 : decode cL_law 941 = .ok (.iload_n 3, 1) := by decide +kernel
theorem dL_law_942 : decode cL_law 942 = .ok (.iconst 1, 1) := by decide +kernel
theorem dL_law_943 : decode cL_law 943 = .ok (.iadd, 1) := by decide +kernel
theorem dL_law_944 : decode cL_law 944 = .ok (.iaload, 1) := by decide +kernel
theorem dL_law_945 : decode cL_law 945 = .ok (.aload_n 0, 1) := by decide +kernel
theorem dL_law_946 : decode cL_law 946 = .ok (.iload_n 3, 1) := by decide +kernel
theorem dL_law_947 : decode cL_law 947 = .ok (.iconst 2, 1) := by decide +kernel
theorem dL_law_948 : decode cL_law 948 = .ok (.iadd, 1) := by decide +kernel
theorem dL_law_949 : decode cL_law 949 = .ok (.iaload, 1) := by decide +kernel
theorem dL_law_950 : decode cL_law 950 = .ok (.invokevirtual 129, 3) := by decide +kernel
theorem dL_law_953 : decode cL_law 953 = .ok (.if_icmp .eq 135, 3) := by decide +kernel
theorem dL_law_956 : decode cL_law 956 = .ok (.iconst 0, 1) := by decide +kernel
theorem dL_law_957 : decode cL_law 957 = .ok (.ireturn, 1) := by decide +kernel
theorem dL_law_958 : decode cL_law 958 = .ok (.aload_n 1, 1) := by decide +kernel
theorem dL_law_959 : decode cL_law 959 = .ok (.aload_n 0, 1) := by decide +kernel
theorem dL_law_960 : decode cL_law 960 = .ok (.iload_n 3, 1) := by decide +kernel
theorem dL_law_961 : decode cL_law 961 = .ok (.iconst 1, 1) := by decide +kernel
theorem dL_law_962 : decode cL_law 962 = .ok (.iadd, 1) := by decide +kernel
theorem dL_law_963 : decode cL_law 963 = .ok (.iaload, 1) := by decide +kernel
theorem dL_law_964 : decode cL_law 964 = .ok (.invokevirtual 130, 3) := by decide +kernel
theorem dL_law_967 : decode cL_law 967 = .ok (.aload_n 2, 1) := by decide +kernel
theorem dL_law_968 : decode cL_law 968 = .ok (.aload_n 0, 1) := by decide +kernel
theorem dL_law_969 : decode cL_law 969 = .ok (.iload_n 3, 1) := by decide +kernel
theorem dL_law_970 : decode cL_law 970 = .ok (.iconst 1, 1) := by decide +kernel
theorem dL_law_971 : decode cL_law 971 = .ok (.iadd, 1) := by decide +kernel
theorem dL_law_972 : decode cL_law 972 = .ok (.iaload, 1) := by decide +kernel
theorem dL_law_973 : decode cL_law 973 = .ok (.invokevirtual 134, 3) := by decide +kernel
theorem dL_law_976 : decode cL_law 976 = .ok (.lcmp, 1) := by decide +kernel
theorem dL_law_977 : decode cL_law 977 = .ok (.ifCond .eq 111, 3) := by decide +kernel
theorem dL_law_980 : decode cL_law 980 = .ok (.iconst 0, 1) := by decide +kernel
theorem dL_law_981 : decode cL_law 981 = .ok (.ireturn, 1) := by decide +kernel
theorem dL_law_982 : decode cL_law 982 = .ok (.aload_n 1, 1) := by decide +kernel
theorem dL_law_983 : decode cL_law 983 = .ok (.aload_n 0, 1) := by decide +kernel
theorem dL_law_984 : decode cL_law 984 = .ok (.iload_n 3, 1) := by decide +kernel
theorem dL_law_985 : decode cL_law 985 = .ok (.iconst 1, 1) := by decide +kernel
theorem dL_law_986 : decode cL_law 986 = .ok (.iadd, 1) := by decide +kernel
theorem dL_law_987 : decode cL_law 987 = .ok (.iaload, 1) := by decide +kernel
theorem dL_law_988 : decode cL_law 988 = .ok (.invokevirtual 135, 3) := by decide +kernel
theorem dL_law_991 : decode cL_law 991 = .ok (.aload_n 2, 1) := by decide +kernel
theorem dL_law_992 : decode cL_law 992 = .ok (.aload_n 0, 1) := by decide +kernel
theorem dL_law_993 : decode cL_law 993 = .ok (.iload_n 3, 1) := by decide +kernel
theorem dL_law_994 : decode cL_law 994 = .ok (.iconst 1, 1) := by decide +kernel
theorem dL_law_995 : decode cL_law 995 = .ok (.iadd, 1) := by decide +kernel
theorem dL_law_996 : decode cL_law 996 = .ok (.iaload, 1) := by decide +kernel
theorem dL_law_997 : decode cL_law 997 = .ok (.invokevirtual 138, 3) := by decide +kernel
theorem dL_law_1000 : decode cL_law 1000 = .ok (.if_icmp .eq 88, 3) := by decide +kernel
theorem dL_law_1003 : decode cL_law 1003 = .ok (.iconst 0, 1) := by decide +kernel
theorem dL_law_1004 : decode cL_law 1004 = .ok (.ireturn, 1) := by decide +kernel
theorem dL_law_1005 : decode cL_law 1005 = .ok (.aload_n 1, 1) := by decide +kernel
theorem dL_law_1006 : decode cL_law 1006 = .ok (.aload_n 0, 1) := by decide +kernel
theorem dL_law_1007 : decode cL_law 1007 = .ok (.iload_n 3, 1) := by decide +kernel
theorem dL_law_1008 : decode cL_law 1008 = .ok (.iconst 1, 1) := by decide +kernel
theorem dL_law_1009 : decode cL_law 1009 = .ok (.iadd, 1) := by decide +kernel
theorem dL_law_1010 : decode cL_law 1010 = .ok (.iaload, 1) := by decide +kernel
theorem dL_law_1011 : decode cL_law 1011 = .ok (.invokevirtual 139, 3) := by decide +kernel
theorem dL_law_1014 : decode cL_law 1014 = .ok (.aload_n 2, 1) := by decide +kernel
theorem dL_law_1015 : decode cL_law 1015 = .ok (.aload_n 0, 1) := by decide +kernel
theorem dL_law_1016 : decode cL_law 1016 = .ok (.iload_n 3, 1) := by decide +kernel
theorem dL_law_1017 : decode cL_law 1017 = .ok (.iconst 1, 1) := by decide +kernel
theorem dL_law_1018 : decode cL_law 1018 = .ok (.iadd, 1) := by decide +kernel
theorem dL_law_1019 : decode cL_law 1019 = .ok (.iaload, 1) := by decide +kernel
theorem dL_law_1020 : decode cL_law 1020 = .ok (.invokevirtual 142, 3) := by decide +kernel
theorem dL_law_1023 : decode cL_law 1023 = .ok (.if_icmp .eq 65, 3) := by decide +kernel
theorem dL_law_1026 : decode cL_law 1026 = .ok (.iconst 0, 1) := by decide +kernel
theorem dL_law_1027 : decode cL_law 1027 = .ok (.ireturn, 1) := by decide +kernel
theorem dL_law_1028 : decode cL_law 1028 = .ok (.aload_n 1, 1) := by decide +kernel
theorem dL_law_1029 : decode cL_law 1029 = .ok (.aload_n 0, 1) := by decide +kernel
theorem dL_law_1030 : decode cL_law 1030 = .ok (.iload_n 3, 1) := by decide +kernel
theorem dL_law_1031 : decode cL_law 1031 = .ok (.iconst 1, 1) := by decide +kernel
theorem dL_law_1032 : decode cL_law 1032 = .ok (.iadd, 1) := by decide +kernel
theorem dL_law_1033 : decode cL_law 1033 = .ok (.iaload, 1) := by decide +kernel
theorem dL_law_1034 : decode cL_law 1034 = .ok (.invokevirtual 143, 3) := by decide +kernel
theorem dL_law_1037 : decode cL_law 1037 = .ok (.aload_n 2, 1) := by decide +kernel
theorem dL_law_1038 : decode cL_law 1038 = .ok (.aload_n 0, 1) := by decide +kernel
theorem dL_law_1039 : decode cL_law 1039 = .ok (.iload_n 3, 1) := by decide +kernel
theorem dL_law_1040 : decode cL_law 1040 = .ok (.iconst 1, 1) := by decide +kernel
theorem dL_law_1041 : decode cL_law 1041 = .ok (.iadd, 1) := by decide +kernel
theorem dL_law_1042 : decode cL_law 1042 = .ok (.iaload, 1) := by decide +kernel
theorem dL_law_1043 : decode cL_law 1043 = .ok (.invokevirtual 146, 3) := by decide +kernel
theorem dL_law_1046 : decode cL_law 1046 = .ok (.if_icmp .eq 42, 3) := by decide +kernel
theorem dL_law_1049 : decode cL_law 1049 = .ok (.iconst 0, 1) := by decide +kernel
theorem dL_law_1050 : decode cL_law 1050 = .ok (.ireturn, 1) := by decide +kernel
theorem dL_law_1051 : decode cL_law 1051 = .ok (.aload_n 1, 1) := by decide +kernel
theorem dL_law_1052 : decode cL_law 1052 = .ok (.aload_n 0, 1) := by decide +kernel
theorem dL_law_1053 : decode cL_law 1053 = .ok (.iload_n 3, 1) := by decide +kernel
theorem dL_law_1054 : decode cL_law 1054 = .ok (.iconst 1, 1) := by decide +kernel
theorem dL_law_1055 : decode cL_law 1055 = .ok (.iadd, 1) := by decide +kernel
theorem dL_law_1056 : decode cL_law 1056 = .ok (.iaload, 1) := by decide +kernel
theorem dL_law_1057 : decode cL_law 1057 = .ok (.invokevirtual 147, 3) := by decide +kernel
theorem dL_law_1060 : decode cL_law 1060 = .ok (.aload_n 2, 1) := by decide +kernel
theorem dL_law_1061 : decode cL_law 1061 = .ok (.aload_n 0, 1) := by decide +kernel
theorem dL_law_1062 : decode cL_law 1062 = .ok (.iload_n 3, 1) := by decide +kernel
theorem dL_law_1063 : decode cL_law 1063 = .ok (.iconst 1, 1) := by decide +kernel
theorem dL_law_1064 : decode cL_law 1064 = .ok (.iadd, 1) := by decide +kernel
theorem dL_law_1065 : decode cL_law 1065 = .ok (.iaload, 1) := by decide +kernel
theorem dL_law_1066 : decode cL_law 1066 = .ok (.invokevirtual 150, 3) := by decide +kernel
theorem dL_law_1069 : decode cL_law 1069 = .ok (.if_icmp .eq 19, 3) := by decide +kernel
theorem dL_law_1072 : decode cL_law 1072 = .ok (.iconst 0, 1) := by decide +kernel
theorem dL_law_1073 : decode cL_law 1073 = .ok (.ireturn, 1) := by decide +kernel
theorem dL_law_1074 : decode cL_law 1074 = .ok (.aload_n 1, 1) := by decide +kernel
theorem dL_law_1075 : decode cL_law 1075 = .ok (.invokevirtual 151, 3) := by decide +kernel
theorem dL_law_1078 : decode cL_law 1078 = .ok (.aload_n 2, 1) := by decide +kernel
theorem dL_law_1079 : decode cL_law 1079 = .ok (.invokevirtual 155, 3) := by decide +kernel
theorem dL_law_1082 : decode cL_law 1082 = .ok (.lcmp, 1) := by decide +kernel
theorem dL_law_1083 : decode cL_law 1083 = .ok (.ifCond .eq 5, 3) := by decide +kernel
theorem dL_law_1086 : decode cL_law 1086 = .ok (.iconst 0, 1) := by decide +kernel
theorem dL_law_1087 : decode cL_law 1087 = .ok (.ireturn, 1) := by decide +kernel
theorem dL_law_1088 : decode cL_law 1088 = .ok (.iinc 3 5, 3) := by decide +kernel
theorem dL_law_1091 : decode cL_law 1091 = .ok (.goto (-1073), 3) := by decide +kernel
theorem dL_law_1094 : decode cL_law 1094 = .ok (.iconst 1, 1) := by decide +kernel
theorem dL_law_1095 : decode cL_law 1095 = .ok (.ireturn, 1) := by decide +kernel
end
section
/-! THE LAYER vv_: the walk's ambient (program, state, frame below, tables ..) is one tuple; a rule an instruction; a contract 'vv_C' says what a method answers and what its cells are behind it -/
theorem vv_ixP {x : Int32} {n j : Nat} (h : x.toInt = (j : Int)) (hn : j < n) : vp_in x n ∧ x.toNatClampNeg = j := by
  have h1 : x.toNatClampNeg = j := by
    rw [Int32.toNatClampNeg, h]; exact Int.toNat_natCast j
  exact ⟨vp_in_iff.mpr ⟨by omega, by omega⟩, h1⟩
def vv_gw : List Cond := lw_tbl.filter goodWord
theorem vv_gw_of {w : Cond} (h : w ∈ lw_tbl) (g : goodWord w = true) : w ∈ vv_gw := List.mem_filter.mpr ⟨h, g⟩
theorem vv_gw_good {w : Cond} (h : w ∈ vv_gw) : goodWord w = true := (List.mem_filter.mp h).2
theorem vv_gw_tbl {w : Cond} (h : w ∈ vv_gw) : w ∈ lw_tbl := (List.mem_filter.mp h).1
/-- the classes whose objects the worlds hold: Guess 0, Province 1, Records 2, RowSearch 3, Text 4, TwoEnds 5, StringToll 6, the reference 7 -/
abbrev vv_CL : List vw_C := [(RX0, TX0, 2), (RX2, TX2, 12), (RX3, TX3, 3), (RX4, TX4, 5), (RX5, TX5, 6), (RX6, TX6, 2), (RX7, TX7, 15), (RX8, TX8, 18)]
/-- classes and slots; the array classes of int, byte, boolean; the String constants and their bytes -/
abbrev vv_K : Type := va_G × (ClassId × ClassId × ClassId) × ((Nat → Nat) × (Nat → Nat))
abbrev vv_ty (K : vv_K) : List (ClassId × FieldType) := [(K.2.1.1, .int), (K.2.1.2.1, .byte), (K.2.1.2.2, .boolean)]

def vv_nest : List Cond := [(Jvm.Cond.methodLinkNest "StringToll" (9 : Nat) ({ cls := "StringToll$Province", name := "<init>", desc := "()V" } : Jvm.MethodName) "StringToll"), (Jvm.Cond.fieldLinkNest "StringToll$RowSearch" (27 : Nat) "StringToll$Records" "size" "I" "StringToll"), (Jvm.Cond.fieldLinkNest "StringToll" (72 : Nat) "StringToll$Records" "size" "I" "StringToll"), (Jvm.Cond.fieldLinkNest "StringToll$TwoEnds" (38 : Nat) "StringToll$Records" "size" "I" "StringToll"), (Jvm.Cond.fieldLinkNest "StringToll$Text" (90 : Nat) "StringToll$Records" "size" "I" "StringToll"), (Jvm.Cond.fieldLinkNest "StringToll$Province" (61 : Nat) "StringToll$Records" "size" "I" "StringToll"), (Jvm.Cond.fieldLinkNest "StringToll$Guess" (74 : Nat) "StringToll$Records" "size" "I" "StringToll"), (Jvm.Cond.fieldLinkNest "StringToll" (232 : Nat) "StringToll$Province" "line" "I" "StringToll"), (Jvm.Cond.fieldLinkNest "StringToll$RowSearch" (43 : Nat) "StringToll$Province" "purse" "I" "StringToll"), (Jvm.Cond.fieldLinkNest "StringToll$Text" (111 : Nat) "StringToll$Province" "purse" "I" "StringToll"), (Jvm.Cond.fieldLinkNest "StringToll" (131 : Nat) "StringToll$Province" "purse" "I" "StringToll"), (Jvm.Cond.fieldLinkNest "StringToll$TwoEnds" (28 : Nat) "StringToll$Province" "hour" "I" "StringToll"), (Jvm.Cond.fieldLinkNest "StringToll" (124 : Nat) "StringToll$Province" "hour" "I" "StringToll"), (Jvm.Cond.fieldLinkNest "StringToll$RowSearch" (21 : Nat) "StringToll$Province" "strings" "LStringToll$Records;" "StringToll"), (Jvm.Cond.fieldLinkNest "StringToll" (68 : Nat) "StringToll$Province" "strings" "LStringToll$Records;" "StringToll"), (Jvm.Cond.fieldLinkNest "StringToll$TwoEnds" (34 : Nat) "StringToll$Province" "strings" "LStringToll$Records;" "StringToll"), (Jvm.Cond.fieldLinkNest "StringToll$Text" (71 : Nat) "StringToll$Province" "strings" "LStringToll$Records;" "StringToll"), (Jvm.Cond.fieldLinkNest "StringToll$Guess" (70 : Nat) "StringToll$Province" "came" "LStringToll$Records;" "StringToll"), (Jvm.Cond.fieldLinkNest "StringToll" (185 : Nat) "StringToll$Province" "came" "LStringToll$Records;" "StringToll"), (Jvm.Cond.fieldLinkNest "StringToll$Guess" (85 : Nat) "StringToll$Province" "notes" "LStringToll$Records;" "StringToll"), (Jvm.Cond.fieldLinkNest "StringToll" (204 : Nat) "StringToll$Province" "notes" "LStringToll$Records;" "StringToll"), (Jvm.Cond.fieldLinkNest "StringToll$Guess" (88 : Nat) "StringToll$Province" "marks" "LStringToll$Records;" "StringToll"), (Jvm.Cond.fieldLinkNest "StringToll" (207 : Nat) "StringToll$Province" "marks" "LStringToll$Records;" "StringToll"), (Jvm.Cond.fieldLinkNest "StringToll" (95 : Nat) "StringToll$Province" "past" "LStringToll$Records;" "StringToll"), (Jvm.Cond.methodLinkNest "StringToll" (27 : Nat) ({ cls := "StringToll$Text", name := "<init>", desc := "()V" } : Jvm.MethodName) "StringToll"), (Jvm.Cond.fieldLinkNest "StringToll" (114 : Nat) "StringToll$Text" "length" "I" "StringToll"), (Jvm.Cond.methodLinkNest "StringToll" (34 : Nat) ({ cls := "StringToll$RowSearch", name := "<init>", desc := "()V" } : Jvm.MethodName) "StringToll"), (Jvm.Cond.fieldLinkNest "StringToll" (176 : Nat) "StringToll$RowSearch" "bestLength" "I" "StringToll"), (Jvm.Cond.fieldLinkNest "StringToll" (173 : Nat) "StringToll$RowSearch" "bestHaul" "I" "StringToll"), (Jvm.Cond.methodLinkNest "StringToll" (41 : Nat) ({ cls := "StringToll$Guess", name := "<init>", desc := "()V" } : Jvm.MethodName) "StringToll"), (Jvm.Cond.methodLinkNest "StringToll" (48 : Nat) ({ cls := "StringToll$TwoEnds", name := "<init>", desc := "()V" } : Jvm.MethodName) "StringToll"), (Jvm.Cond.methodLinkNest "StringToll$Kinds" (11 : Nat) ({ cls := "StringToll", name := "within", desc := "(III)Z" } : Jvm.MethodName) "StringToll"), (Jvm.Cond.methodLinkNest "StringToll$Text" (19 : Nat) ({ cls := "StringToll", name := "within", desc := "(III)Z" } : Jvm.MethodName) "StringToll"), (Jvm.Cond.methodLinkNest "StringToll$Province" (64 : Nat) ({ cls := "StringToll", name := "within", desc := "(III)Z" } : Jvm.MethodName) "StringToll"), (Jvm.Cond.methodLinkNest "StringToll$RowSearch" (55 : Nat) ({ cls := "StringToll", name := "within", desc := "(III)Z" } : Jvm.MethodName) "StringToll"), (Jvm.Cond.methodLinkNest "StringToll$Guess" (91 : Nat) ({ cls := "StringToll", name := "within", desc := "(III)Z" } : Jvm.MethodName) "StringToll")]
def vv_isNest : Cond → Bool
  | .fieldLinkNest .. => true
  | .methodLinkNest .. => true
  | _ => false
theorem vv_nest_ok : ∀ w ∈ vv_nest, vv_isNest w = true := by decide +kernel
theorem vv_nest_in : ∀ w ∈ vv_nest, w ∈ lw_tbl := by decide +kernel
theorem vv_nest_warm {w : Cond} (h : vv_isNest w = true) {s U : State} (hW : s.WarmedH U.vm) (hZ : va_Nw w s) : va_Nw w U := by
  cases w with
  | fieldLinkNest a i b n d h => exact va_Nw.warmF hW hZ
  | methodLinkNest a i x h => exact va_Nw.warmM hW hZ
  | _ => cases h
theorem vv_nest_tab {w : Cond} (h : vv_isNest w = true) : w.onTables = true := by
  cases w with
  | fieldLinkNest a i b n d h => rfl
  | methodLinkNest a i x h => rfl
  | _ => cases h

/-- the six words of the text: 0 province (entry 46), 1 house (entry 64), 2 string (entry 69), 3 purse (entry 83), 4 send (entry 88), 5 wait (entry 97) -/
def vv_sk : List (Nat × String) := [(46, "province"), (64, "house"), (69, "string"), (83, "purse"), (88, "send"), (97, "wait")]
def vv_sl : List Nat := [8, 5, 6, 5, 4, 4]
def vv_sb : List (List Int32) := [[112, 114, 111, 118, 105, 110, 99, 101], [104, 111, 117, 115, 101], [115, 116, 114, 105, 110, 103], [112, 117, 114, 115, 101], [115, 101, 110, 100], [119, 97, 105, 116]]
def vv_S (K : vv_K) (A : Nat → Prop) (U : State) (H : Heap) : Prop :=
  vk_S 6 vv_sl vv_sb K.2.2.1 K.2.2.2 A U H ∧ (∀ (i : Nat) (q : Nat × String), vv_sk[i]? = some q → vk_R RX5 q.1 q.2 (K.2.2.1 i) U) ∧ va_Z "java/lang/String" "COMPACT_STRINGS" "Z" (.int 1) A U H
/-- what every method is told of the tables and of the constants -/
def vv_A (K : vv_K) (A : Nat → Prop) (U : State) (H : Heap) : Prop := va_K K.1 vv_CL (vv_ty K) U ∧ (∀ w ∈ vv_nest, va_Nw w U) ∧ vv_S K A U H
theorem vv_A.go {K : vv_K} {A B : Nat → Prop} {s U : State} {H : Heap} (hk : ∀ q : Nat, q < s.heap.size → ¬ A q → H[q]? = s.heap[q]?) (hW : s.WarmedH U.vm) (hAB : ∀ q, B q → A q) (h : vv_A K A s s.heap) : vv_A K B U H :=
  ⟨va_K.moved hW.alike h.1, fun w hw => vv_nest_warm (vv_nest_ok w hw) hW (h.2.1 w hw),
   ((h.2.2.1.kept hk).narrow hAB).moved hW.alike, fun i q hq => (h.2.2.2.1 i q hq).warm hW, ((h.2.2.2.2.kept hk).narrow hAB).moved hW.alike⟩
theorem vv_A.same {K : vv_K} {A : Nat → Prop} {U U' : State} (hv : U.vm = U'.vm) (hh : U'.heap = U.heap) (h : vv_A K A U U.heap) : vv_A K A U' U'.heap := by
  have ha : U.vm.Alike U'.vm := by rw [hv]; exact Vm.Alike.refl _
  rw [hh]
  exact ⟨va_K.moved ha h.1, fun w hw => va_Nw.same (vv_nest_tab (vv_nest_ok w hw)) hv (h.2.1 w hw), h.2.2.1.moved ha, fun i q hq => (h.2.2.2.1 i q hq).same hv.symm, h.2.2.2.2.moved ha⟩
/-- the ambient -/
abbrev vv_X : Type := Program × Launch × Env × Room × State × MethodId × Array Value × List Frame × Method × Code × vv_K × (Nat → Prop) × (State → Prop) × Nat × Nat
def vv_V (x : vv_X) (nL pc : Nat) (lv : List (Nat × Value)) (st : List Value) (ws : va_W) : Prop := match x with
  | (p, l, e, R, s, m, args, below, meth, c, K, A, Q, nc, ns) => ∀ (H : Heap) (locs : List Loc) (ls : Array Slot), va_P K.1 vv_CL ws H → va_D A ws → va_S A s.heap H locs → lv_has ls nL lv → W p l e R s m args below meth c H locs nc ns Q (F0 m pc ls st)
def vv_F (x : vv_X) (cc : ByteArray) (nL : Nat) (own : String) (d : Nat) : Prop := match x with
  | (p, _, _, R, s, m, args, _, meth, c, K, A, _, nc, ns) => p.tables.exec = Jvm.exec ∧ c.code = cc ∧ c.maxLocals = nL ∧ s.vm.findClass own = some m.cls ∧ (∀ w ∈ vv_gw, w.before args s = true) ∧ vv_A K A s s.heap ∧ (∀ q, s.heap.size ≤ q → A q) ∧ meth.locks = false ∧ d ≤ R.frames ∧ 60 * d ≤ R.locals ∧ nc ≤ R.cells ∧ ns ≤ R.slots
abbrev vv_l (x : vv_X) : Launch := x.2.1
abbrev vv_k (x : vv_X) : vv_K := x.2.2.2.2.2.2.2.2.2.2.1
def vv_rm (d : Nat) : Room := { frames := d, cells := 0, slots := 0, locals := 60 * d }
def vv_g (lv : List (Nat × Value)) (i : Nat) : Option Value := (lv.find? (fun q => q.1 == i)).map Prod.snd
theorem vv_g_at {ls : Array Slot} {nL : Nat} {lv : List (Nat × Value)} {i : Nat} {v : Value} (h : lv_has ls nL lv) (hg : vv_g lv i = some v) : ls[i]? = some (.val v) := by
  unfold vv_g at hg
  cases hf : lv.find? (fun q => q.1 == i) with
  | none => rw [hf] at hg; cases hg
  | some q =>
    rw [hf] at hg
    cases hg
    have h1 := List.find?_some hf
    have h2 := h.2.2 q (List.mem_of_find?_eq_some hf)
    simp only [beq_iff_eq] at h1
    rw [← h1]; exact h2
section VVR
variable {x : vv_X} {cc : ByteArray} {nL pc d : Nat} {own : String} {lv lv' : List (Nat × Value)} {st : List Value} {ws ws' : va_W}

theorem vv_iconst {n : Int} {v : Int32} (F : vv_F x cc nL own d) (dg : decode cc pc = .ok (.iconst n, 1)) (hv : Int32.ofInt n = v) (k : vv_V x nL (pc + 1) lv (.int v :: st) ws) : vv_V x nL pc lv st ws := by
  obtain ⟨p, l, e, R, s, m, args, below, meth, c, K, A, Q, nc, ns⟩ := x
  intro H locs ls h1 h2 h3 h4
  exact lv_iconst F.1 F.2.1 dg hv (k H locs ls h1 h2 h3 h4)
theorem vv_bipush {n : Int} {v : Int32} (F : vv_F x cc nL own d) (dg : decode cc pc = .ok (.bipush n, 2)) (hv : (Int8.ofInt n).toInt32 = v) (k : vv_V x nL (pc + 2) lv (.int v :: st) ws) : vv_V x nL pc lv st ws := by
  obtain ⟨p, l, e, R, s, m, args, below, meth, c, K, A, Q, nc, ns⟩ := x
  intro H locs ls h1 h2 h3 h4
  exact lv_bipush F.1 F.2.1 dg hv (k H locs ls h1 h2 h3 h4)
theorem vv_sipush {n : Int} {v : Int32} (F : vv_F x cc nL own d) (dg : decode cc pc = .ok (.sipush n, 3)) (hv : (Int16.ofInt n).toInt32 = v) (k : vv_V x nL (pc + 3) lv (.int v :: st) ws) : vv_V x nL pc lv st ws := by
  obtain ⟨p, l, e, R, s, m, args, below, meth, c, K, A, Q, nc, ns⟩ := x
  intro H locs ls h1 h2 h3 h4
  exact lv_sipush F.1 F.2.1 dg hv (k H locs ls h1 h2 h3 h4)
theorem vv_lconst {n : Fin 2} {v : Int64} (F : vv_F x cc nL own d) (dg : decode cc pc = .ok (.lconst n, 1)) (hv : Int64.ofNat (n : Nat) = v) (k : vv_V x nL (pc + 1) lv (.long v :: st) ws) : vv_V x nL pc lv st ws := by
  obtain ⟨p, l, e, R, s, m, args, below, meth, c, K, A, Q, nc, ns⟩ := x
  intro H locs ls h1 h2 h3 h4
  exact lv_lconst F.1 F.2.1 dg hv (k H locs ls h1 h2 h3 h4)
theorem vv_iload_n {k0 : Fin 4} {i : Nat} {v : Int32} (F : vv_F x cc nL own d) (dg : decode cc pc = .ok (.iload_n k0, 1)) (hi : (k0 : Nat) = i) (hg : vv_g lv i = some (.int v)) (k : vv_V x nL (pc + 1) lv (.int v :: st) ws) : vv_V x nL pc lv st ws := by
  obtain ⟨p, l, e, R, s, m, args, below, meth, c, K, A, Q, nc, ns⟩ := x
  intro H locs ls h1 h2 h3 h4
  exact lv_iload_n F.1 F.2.1 dg hi (vv_g_at h4 hg) (k H locs ls h1 h2 h3 h4)
theorem vv_iload {i : Nat} {v : Int32} (F : vv_F x cc nL own d) (dg : decode cc pc = .ok (.iload i, 2)) (hg : vv_g lv i = some (.int v)) (k : vv_V x nL (pc + 2) lv (.int v :: st) ws) : vv_V x nL pc lv st ws := by
  obtain ⟨p, l, e, R, s, m, args, below, meth, c, K, A, Q, nc, ns⟩ := x
  intro H locs ls h1 h2 h3 h4
  exact lv_iload F.1 F.2.1 dg (vv_g_at h4 hg) (k H locs ls h1 h2 h3 h4)
theorem vv_istore_n {k0 : Fin 4} {i : Nat} {v : Int32} (F : vv_F x cc nL own d) (dg : decode cc pc = .ok (.istore_n k0, 1)) (hi : (k0 : Nat) = i) (hn : i < nL) (hl : (i, Value.int v) :: lv.filter (fun q => !(q.1 == i) && !(q.1 + 1 == i && q.2.category == 2)) = lv') (k : vv_V x nL (pc + 1) lv' st ws) : vv_V x nL pc lv (.int v :: st) ws := by
  obtain ⟨p, l, e, R, s, m, args, below, meth, c, K, A, Q, nc, ns⟩ := x
  intro H locs ls h1 h2 h3 h4
  exact lv_istore_n F.1 F.2.1 dg hi h4 hn hl (fun ls h4 => (k H locs ls h1 h2 h3 h4))
theorem vv_istore {i : Nat} {v : Int32} (F : vv_F x cc nL own d) (dg : decode cc pc = .ok (.istore i, 2)) (hn : i < nL) (hl : (i, Value.int v) :: lv.filter (fun q => !(q.1 == i) && !(q.1 + 1 == i && q.2.category == 2)) = lv') (k : vv_V x nL (pc + 2) lv' st ws) : vv_V x nL pc lv (.int v :: st) ws := by
  obtain ⟨p, l, e, R, s, m, args, below, meth, c, K, A, Q, nc, ns⟩ := x
  intro H locs ls h1 h2 h3 h4
  exact lv_istore F.1 F.2.1 dg h4 hn hl (fun ls h4 => (k H locs ls h1 h2 h3 h4))
theorem vv_lload_n {k0 : Fin 4} {i : Nat} {v : Int64} (F : vv_F x cc nL own d) (dg : decode cc pc = .ok (.lload_n k0, 1)) (hi : (k0 : Nat) = i) (hg : vv_g lv i = some (.long v)) (k : vv_V x nL (pc + 1) lv (.long v :: st) ws) : vv_V x nL pc lv st ws := by
  obtain ⟨p, l, e, R, s, m, args, below, meth, c, K, A, Q, nc, ns⟩ := x
  intro H locs ls h1 h2 h3 h4
  exact lv_lload_n F.1 F.2.1 dg hi (vv_g_at h4 hg) (k H locs ls h1 h2 h3 h4)
theorem vv_lload {i : Nat} {v : Int64} (F : vv_F x cc nL own d) (dg : decode cc pc = .ok (.lload i, 2)) (hg : vv_g lv i = some (.long v)) (k : vv_V x nL (pc + 2) lv (.long v :: st) ws) : vv_V x nL pc lv st ws := by
  obtain ⟨p, l, e, R, s, m, args, below, meth, c, K, A, Q, nc, ns⟩ := x
  intro H locs ls h1 h2 h3 h4
  exact lv_lload F.1 F.2.1 dg (vv_g_at h4 hg) (k H locs ls h1 h2 h3 h4)
theorem vv_lstore_n {k0 : Fin 4} {i : Nat} {v : Int64} (F : vv_F x cc nL own d) (dg : decode cc pc = .ok (.lstore_n k0, 1)) (hi : (k0 : Nat) = i) (hn : i + 1 < nL) (hl : (i, Value.long v) :: lv.filter (fun q => !(q.1 == i) && (!(q.1 == i + 1) && !(q.1 + 1 == i && q.2.category == 2))) = lv') (k : vv_V x nL (pc + 1) lv' st ws) : vv_V x nL pc lv (.long v :: st) ws := by
  obtain ⟨p, l, e, R, s, m, args, below, meth, c, K, A, Q, nc, ns⟩ := x
  intro H locs ls h1 h2 h3 h4
  exact lv_lstore_n F.1 F.2.1 dg hi h4 hn hl (fun ls h4 => (k H locs ls h1 h2 h3 h4))
theorem vv_lstore {i : Nat} {v : Int64} (F : vv_F x cc nL own d) (dg : decode cc pc = .ok (.lstore i, 2)) (hn : i + 1 < nL) (hl : (i, Value.long v) :: lv.filter (fun q => !(q.1 == i) && (!(q.1 == i + 1) && !(q.1 + 1 == i && q.2.category == 2))) = lv') (k : vv_V x nL (pc + 2) lv' st ws) : vv_V x nL pc lv (.long v :: st) ws := by
  obtain ⟨p, l, e, R, s, m, args, below, meth, c, K, A, Q, nc, ns⟩ := x
  intro H locs ls h1 h2 h3 h4
  exact lv_lstore F.1 F.2.1 dg h4 hn hl (fun ls h4 => (k H locs ls h1 h2 h3 h4))
theorem vv_aload_n {k0 : Fin 4} {i : Nat} {v : Nat} (F : vv_F x cc nL own d) (dg : decode cc pc = .ok (.aload_n k0, 1)) (hi : (k0 : Nat) = i) (hg : vv_g lv i = some (.ref v)) (k : vv_V x nL (pc + 1) lv (.ref v :: st) ws) : vv_V x nL pc lv st ws := by
  obtain ⟨p, l, e, R, s, m, args, below, meth, c, K, A, Q, nc, ns⟩ := x
  intro H locs ls h1 h2 h3 h4
  exact lv_aload_n F.1 F.2.1 dg hi (vv_g_at h4 hg) (k H locs ls h1 h2 h3 h4)
theorem vv_aload {i : Nat} {v : Nat} (F : vv_F x cc nL own d) (dg : decode cc pc = .ok (.aload i, 2)) (hg : vv_g lv i = some (.ref v)) (k : vv_V x nL (pc + 2) lv (.ref v :: st) ws) : vv_V x nL pc lv st ws := by
  obtain ⟨p, l, e, R, s, m, args, below, meth, c, K, A, Q, nc, ns⟩ := x
  intro H locs ls h1 h2 h3 h4
  exact lv_aload F.1 F.2.1 dg (vv_g_at h4 hg) (k H locs ls h1 h2 h3 h4)
theorem vv_astore_n {k0 : Fin 4} {i : Nat} {v : Nat} (F : vv_F x cc nL own d) (dg : decode cc pc = .ok (.astore_n k0, 1)) (hi : (k0 : Nat) = i) (hn : i < nL) (hl : (i, Value.ref v) :: lv.filter (fun q => !(q.1 == i) && !(q.1 + 1 == i && q.2.category == 2)) = lv') (k : vv_V x nL (pc + 1) lv' st ws) : vv_V x nL pc lv (.ref v :: st) ws := by
  obtain ⟨p, l, e, R, s, m, args, below, meth, c, K, A, Q, nc, ns⟩ := x
  intro H locs ls h1 h2 h3 h4
  exact lv_astore_n F.1 F.2.1 dg hi h4 hn hl (fun ls h4 => (k H locs ls h1 h2 h3 h4))
theorem vv_astore {i : Nat} {v : Nat} (F : vv_F x cc nL own d) (dg : decode cc pc = .ok (.astore i, 2)) (hn : i < nL) (hl : (i, Value.ref v) :: lv.filter (fun q => !(q.1 == i) && !(q.1 + 1 == i && q.2.category == 2)) = lv') (k : vv_V x nL (pc + 2) lv' st ws) : vv_V x nL pc lv (.ref v :: st) ws := by
  obtain ⟨p, l, e, R, s, m, args, below, meth, c, K, A, Q, nc, ns⟩ := x
  intro H locs ls h1 h2 h3 h4
  exact lv_astore F.1 F.2.1 dg h4 hn hl (fun ls h4 => (k H locs ls h1 h2 h3 h4))
theorem vv_iinc {i : Nat} {n : Int} {a v : Int32} (k0 : Nat) (F : vv_F x cc nL own d) (dg : decode cc pc = .ok (.iinc i n, 3)) (hk : lv[k0]? = some (i, .int a)) (hv : a + Int32.ofInt n = v) (hn : i < nL) (hl : (i, Value.int v) :: lv.filter (fun q => !(q.1 == i) && !(q.1 + 1 == i && q.2.category == 2)) = lv') (k : vv_V x nL (pc + 3) lv' st ws) : vv_V x nL pc lv st ws := by
  obtain ⟨p, l, e, R, s, m, args, below, meth, c, K, A, Q, nc, ns⟩ := x
  intro H locs ls h1 h2 h3 h4
  exact lv_iinc F.1 F.2.1 dg h4 hk hv hn hl (fun ls h4 => (k H locs ls h1 h2 h3 h4))
theorem vv_iadd {a b : Int32} (F : vv_F x cc nL own d) (dg : decode cc pc = .ok (.iadd, 1)) (k : vv_V x nL (pc + 1) lv (.int (a + b) :: st) ws) : vv_V x nL pc lv (.int b :: .int a :: st) ws := by
  obtain ⟨p, l, e, R, s, m, args, below, meth, c, K, A, Q, nc, ns⟩ := x
  intro H locs ls h1 h2 h3 h4
  exact lv_iadd F.1 F.2.1 dg (k H locs ls h1 h2 h3 h4)
theorem vv_isub {a b : Int32} (F : vv_F x cc nL own d) (dg : decode cc pc = .ok (.isub, 1)) (k : vv_V x nL (pc + 1) lv (.int (a - b) :: st) ws) : vv_V x nL pc lv (.int b :: .int a :: st) ws := by
  obtain ⟨p, l, e, R, s, m, args, below, meth, c, K, A, Q, nc, ns⟩ := x
  intro H locs ls h1 h2 h3 h4
  exact lv_isub F.1 F.2.1 dg (k H locs ls h1 h2 h3 h4)
theorem vv_imul {a b : Int32} (F : vv_F x cc nL own d) (dg : decode cc pc = .ok (.imul, 1)) (k : vv_V x nL (pc + 1) lv (.int (a * b) :: st) ws) : vv_V x nL pc lv (.int b :: .int a :: st) ws := by
  obtain ⟨p, l, e, R, s, m, args, below, meth, c, K, A, Q, nc, ns⟩ := x
  intro H locs ls h1 h2 h3 h4
  exact lv_imul F.1 F.2.1 dg (k H locs ls h1 h2 h3 h4)
theorem vv_iand {a b : Int32} (F : vv_F x cc nL own d) (dg : decode cc pc = .ok (.iand, 1)) (k : vv_V x nL (pc + 1) lv (.int (a &&& b) :: st) ws) : vv_V x nL pc lv (.int b :: .int a :: st) ws := by
  obtain ⟨p, l, e, R, s, m, args, below, meth, c, K, A, Q, nc, ns⟩ := x
  intro H locs ls h1 h2 h3 h4
  exact lv_iand F.1 F.2.1 dg (k H locs ls h1 h2 h3 h4)
theorem vv_ior {a b : Int32} (F : vv_F x cc nL own d) (dg : decode cc pc = .ok (.ior, 1)) (k : vv_V x nL (pc + 1) lv (.int (a ||| b) :: st) ws) : vv_V x nL pc lv (.int b :: .int a :: st) ws := by
  obtain ⟨p, l, e, R, s, m, args, below, meth, c, K, A, Q, nc, ns⟩ := x
  intro H locs ls h1 h2 h3 h4
  exact lv_ior F.1 F.2.1 dg (k H locs ls h1 h2 h3 h4)
theorem vv_ishl {a b : Int32} (F : vv_F x cc nL own d) (dg : decode cc pc = .ok (.ishl, 1)) (k : vv_V x nL (pc + 1) lv (.int (a <<< (b &&& 31)) :: st) ws) : vv_V x nL pc lv (.int b :: .int a :: st) ws := by
  obtain ⟨p, l, e, R, s, m, args, below, meth, c, K, A, Q, nc, ns⟩ := x
  intro H locs ls h1 h2 h3 h4
  exact lv_ishl F.1 F.2.1 dg (k H locs ls h1 h2 h3 h4)
theorem vv_ishr {a b : Int32} (F : vv_F x cc nL own d) (dg : decode cc pc = .ok (.ishr, 1)) (k : vv_V x nL (pc + 1) lv (.int (a >>> (b &&& 31)) :: st) ws) : vv_V x nL pc lv (.int b :: .int a :: st) ws := by
  obtain ⟨p, l, e, R, s, m, args, below, meth, c, K, A, Q, nc, ns⟩ := x
  intro H locs ls h1 h2 h3 h4
  exact lv_ishr F.1 F.2.1 dg (k H locs ls h1 h2 h3 h4)
theorem vv_idiv {a b : Int32} (F : vv_F x cc nL own d) (dg : decode cc pc = .ok (.idiv, 1)) (hne : ¬ b = 0) (k : vv_V x nL (pc + 1) lv (.int (a / b) :: st) ws) : vv_V x nL pc lv (.int b :: .int a :: st) ws := by
  obtain ⟨p, l, e, R, s, m, args, below, meth, c, K, A, Q, nc, ns⟩ := x
  intro H locs ls h1 h2 h3 h4
  exact lv_idiv F.1 F.2.1 dg hne (k H locs ls h1 h2 h3 h4)
theorem vv_irem {a b : Int32} (F : vv_F x cc nL own d) (dg : decode cc pc = .ok (.irem, 1)) (hne : ¬ b = 0) (k : vv_V x nL (pc + 1) lv (.int (a - a / b * b) :: st) ws) : vv_V x nL pc lv (.int b :: .int a :: st) ws := by
  obtain ⟨p, l, e, R, s, m, args, below, meth, c, K, A, Q, nc, ns⟩ := x
  intro H locs ls h1 h2 h3 h4
  exact lv_irem F.1 F.2.1 dg hne (k H locs ls h1 h2 h3 h4)
theorem vv_ladd {a b : Int64} (F : vv_F x cc nL own d) (dg : decode cc pc = .ok (.ladd, 1)) (k : vv_V x nL (pc + 1) lv (.long (a + b) :: st) ws) : vv_V x nL pc lv (.long b :: .long a :: st) ws := by
  obtain ⟨p, l, e, R, s, m, args, below, meth, c, K, A, Q, nc, ns⟩ := x
  intro H locs ls h1 h2 h3 h4
  exact lv_ladd F.1 F.2.1 dg (k H locs ls h1 h2 h3 h4)
theorem vv_lsub {a b : Int64} (F : vv_F x cc nL own d) (dg : decode cc pc = .ok (.lsub, 1)) (k : vv_V x nL (pc + 1) lv (.long (a - b) :: st) ws) : vv_V x nL pc lv (.long b :: .long a :: st) ws := by
  obtain ⟨p, l, e, R, s, m, args, below, meth, c, K, A, Q, nc, ns⟩ := x
  intro H locs ls h1 h2 h3 h4
  exact lv_lsub F.1 F.2.1 dg (k H locs ls h1 h2 h3 h4)
theorem vv_lmul {a b : Int64} (F : vv_F x cc nL own d) (dg : decode cc pc = .ok (.lmul, 1)) (k : vv_V x nL (pc + 1) lv (.long (a * b) :: st) ws) : vv_V x nL pc lv (.long b :: .long a :: st) ws := by
  obtain ⟨p, l, e, R, s, m, args, below, meth, c, K, A, Q, nc, ns⟩ := x
  intro H locs ls h1 h2 h3 h4
  exact lv_lmul F.1 F.2.1 dg (k H locs ls h1 h2 h3 h4)
theorem vv_ldiv {a b : Int64} (F : vv_F x cc nL own d) (dg : decode cc pc = .ok (.ldiv, 1)) (hne : ¬ b = 0) (k : vv_V x nL (pc + 1) lv (.long (a / b) :: st) ws) : vv_V x nL pc lv (.long b :: .long a :: st) ws := by
  obtain ⟨p, l, e, R, s, m, args, below, meth, c, K, A, Q, nc, ns⟩ := x
  intro H locs ls h1 h2 h3 h4
  exact lv_ldiv F.1 F.2.1 dg hne (k H locs ls h1 h2 h3 h4)
theorem vv_lrem {a b : Int64} (F : vv_F x cc nL own d) (dg : decode cc pc = .ok (.lrem, 1)) (hne : ¬ b = 0) (k : vv_V x nL (pc + 1) lv (.long (a - a / b * b) :: st) ws) : vv_V x nL pc lv (.long b :: .long a :: st) ws := by
  obtain ⟨p, l, e, R, s, m, args, below, meth, c, K, A, Q, nc, ns⟩ := x
  intro H locs ls h1 h2 h3 h4
  exact lv_lrem F.1 F.2.1 dg hne (k H locs ls h1 h2 h3 h4)
theorem vv_i2l {a : Int32} (F : vv_F x cc nL own d) (dg : decode cc pc = .ok (.i2l, 1)) (k : vv_V x nL (pc + 1) lv (.long a.toInt64 :: st) ws) : vv_V x nL pc lv (.int a :: st) ws := by
  obtain ⟨p, l, e, R, s, m, args, below, meth, c, K, A, Q, nc, ns⟩ := x
  intro H locs ls h1 h2 h3 h4
  exact lv_i2l F.1 F.2.1 dg rfl (k H locs ls h1 h2 h3 h4)
theorem vv_l2i {a : Int64} (F : vv_F x cc nL own d) (dg : decode cc pc = .ok (.l2i, 1)) (k : vv_V x nL (pc + 1) lv (.int a.toInt32 :: st) ws) : vv_V x nL pc lv (.long a :: st) ws := by
  obtain ⟨p, l, e, R, s, m, args, below, meth, c, K, A, Q, nc, ns⟩ := x
  intro H locs ls h1 h2 h3 h4
  exact lv_l2i F.1 F.2.1 dg rfl (k H locs ls h1 h2 h3 h4)
theorem vv_i2b {a : Int32} (F : vv_F x cc nL own d) (dg : decode cc pc = .ok (.i2b, 1)) (k : vv_V x nL (pc + 1) lv (.int a.toInt8.toInt32 :: st) ws) : vv_V x nL pc lv (.int a :: st) ws := by
  obtain ⟨p, l, e, R, s, m, args, below, meth, c, K, A, Q, nc, ns⟩ := x
  intro H locs ls h1 h2 h3 h4
  exact lv_i2b F.1 F.2.1 dg rfl (k H locs ls h1 h2 h3 h4)
theorem vv_dup {va : Value} (F : vv_F x cc nL own d) (dg : decode cc pc = .ok (.dup, 1)) (hva : va.category = 1) (k : vv_V x nL (pc + 1) lv (va :: va :: st) ws) : vv_V x nL pc lv (va :: st) ws := by
  obtain ⟨p, l, e, R, s, m, args, below, meth, c, K, A, Q, nc, ns⟩ := x
  intro H locs ls h1 h2 h3 h4
  exact lv_dup F.1 F.2.1 dg hva (k H locs ls h1 h2 h3 h4)
theorem vv_pop {va : Value} (F : vv_F x cc nL own d) (dg : decode cc pc = .ok (.pop, 1)) (hva : va.category = 1) (k : vv_V x nL (pc + 1) lv st ws) : vv_V x nL pc lv (va :: st) ws := by
  obtain ⟨p, l, e, R, s, m, args, below, meth, c, K, A, Q, nc, ns⟩ := x
  intro H locs ls h1 h2 h3 h4
  exact lv_pop F.1 F.2.1 dg hva (k H locs ls h1 h2 h3 h4)
theorem vv_dup2_11 {va vb : Value} (F : vv_F x cc nL own d) (dg : decode cc pc = .ok (.dup2, 1)) (hva : va.category = 1) (hvb : vb.category = 1) (k : vv_V x nL (pc + 1) lv (va :: vb :: va :: vb :: st) ws) : vv_V x nL pc lv (va :: vb :: st) ws := by
  obtain ⟨p, l, e, R, s, m, args, below, meth, c, K, A, Q, nc, ns⟩ := x
  intro H locs ls h1 h2 h3 h4
  exact lv_dup2_11 F.1 F.2.1 dg hva hvb (k H locs ls h1 h2 h3 h4)
theorem vv_lcmp {a b : Int64} (F : vv_F x cc nL own d) (dg : decode cc pc = .ok (.lcmp, 1)) (k : vv_V x nL (pc + 1) lv (.int (lg_cmp a b) :: st) ws) : vv_V x nL pc lv (.long b :: .long a :: st) ws := by
  obtain ⟨p, l, e, R, s, m, args, below, meth, c, K, A, Q, nc, ns⟩ := x
  intro H locs ls h1 h2 h3 h4
  exact W.lcmp F.1 F.2.1 dg (k H locs ls h1 h2 h3 h4)
theorem vv_if_eq {a : Int32} {off : Int} {tgt : Nat} (F : vv_F x cc nL own d) (dg : decode cc pc = .ok (.ifCond .eq off, 3)) (ht : (pc : Int) + off = (tgt : Int)) (kt : a = 0 → vv_V x nL tgt lv st ws) (kf : ¬ a = 0 → vv_V x nL (pc + 3) lv st ws) : vv_V x nL pc lv (.int a :: st) ws := by
  obtain ⟨p, l, e, R, s, m, args, below, meth, c, K, A, Q, nc, ns⟩ := x
  intro H locs ls h1 h2 h3 h4
  exact lv_if_eq F.1 F.2.1 dg ht (fun z => kt z H locs ls h1 h2 h3 h4) (fun z => kf z H locs ls h1 h2 h3 h4)
theorem vv_if_ne {a : Int32} {off : Int} {tgt : Nat} (F : vv_F x cc nL own d) (dg : decode cc pc = .ok (.ifCond .ne off, 3)) (ht : (pc : Int) + off = (tgt : Int)) (kt : ¬ a = 0 → vv_V x nL tgt lv st ws) (kf : a = 0 → vv_V x nL (pc + 3) lv st ws) : vv_V x nL pc lv (.int a :: st) ws := by
  obtain ⟨p, l, e, R, s, m, args, below, meth, c, K, A, Q, nc, ns⟩ := x
  intro H locs ls h1 h2 h3 h4
  exact lv_if_ne F.1 F.2.1 dg ht (fun z => kt z H locs ls h1 h2 h3 h4) (fun z => kf z H locs ls h1 h2 h3 h4)
theorem vv_if_lt {a : Int32} {off : Int} {tgt : Nat} (F : vv_F x cc nL own d) (dg : decode cc pc = .ok (.ifCond .lt off, 3)) (ht : (pc : Int) + off = (tgt : Int)) (kt : a < 0 → vv_V x nL tgt lv st ws) (kf : ¬ a < 0 → vv_V x nL (pc + 3) lv st ws) : vv_V x nL pc lv (.int a :: st) ws := by
  obtain ⟨p, l, e, R, s, m, args, below, meth, c, K, A, Q, nc, ns⟩ := x
  intro H locs ls h1 h2 h3 h4
  exact lv_if_lt F.1 F.2.1 dg ht (fun z => kt z H locs ls h1 h2 h3 h4) (fun z => kf z H locs ls h1 h2 h3 h4)
theorem vv_if_ge {a : Int32} {off : Int} {tgt : Nat} (F : vv_F x cc nL own d) (dg : decode cc pc = .ok (.ifCond .ge off, 3)) (ht : (pc : Int) + off = (tgt : Int)) (kt : 0 ≤ a → vv_V x nL tgt lv st ws) (kf : ¬ 0 ≤ a → vv_V x nL (pc + 3) lv st ws) : vv_V x nL pc lv (.int a :: st) ws := by
  obtain ⟨p, l, e, R, s, m, args, below, meth, c, K, A, Q, nc, ns⟩ := x
  intro H locs ls h1 h2 h3 h4
  exact lv_if_ge F.1 F.2.1 dg ht (fun z => kt z H locs ls h1 h2 h3 h4) (fun z => kf z H locs ls h1 h2 h3 h4)
theorem vv_if_gt {a : Int32} {off : Int} {tgt : Nat} (F : vv_F x cc nL own d) (dg : decode cc pc = .ok (.ifCond .gt off, 3)) (ht : (pc : Int) + off = (tgt : Int)) (kt : 0 < a → vv_V x nL tgt lv st ws) (kf : ¬ 0 < a → vv_V x nL (pc + 3) lv st ws) : vv_V x nL pc lv (.int a :: st) ws := by
  obtain ⟨p, l, e, R, s, m, args, below, meth, c, K, A, Q, nc, ns⟩ := x
  intro H locs ls h1 h2 h3 h4
  exact lv_if_gt F.1 F.2.1 dg ht (fun z => kt z H locs ls h1 h2 h3 h4) (fun z => kf z H locs ls h1 h2 h3 h4)
theorem vv_if_le {a : Int32} {off : Int} {tgt : Nat} (F : vv_F x cc nL own d) (dg : decode cc pc = .ok (.ifCond .le off, 3)) (ht : (pc : Int) + off = (tgt : Int)) (kt : a ≤ 0 → vv_V x nL tgt lv st ws) (kf : ¬ a ≤ 0 → vv_V x nL (pc + 3) lv st ws) : vv_V x nL pc lv (.int a :: st) ws := by
  obtain ⟨p, l, e, R, s, m, args, below, meth, c, K, A, Q, nc, ns⟩ := x
  intro H locs ls h1 h2 h3 h4
  exact lv_if_le F.1 F.2.1 dg ht (fun z => kt z H locs ls h1 h2 h3 h4) (fun z => kf z H locs ls h1 h2 h3 h4)
theorem vv_icmp_eq {a b : Int32} {off : Int} {tgt : Nat} (F : vv_F x cc nL own d) (dg : decode cc pc = .ok (.if_icmp .eq off, 3)) (ht : (pc : Int) + off = (tgt : Int)) (kt : a = b → vv_V x nL tgt lv st ws) (kf : ¬ a = b → vv_V x nL (pc + 3) lv st ws) : vv_V x nL pc lv (.int b :: .int a :: st) ws := by
  obtain ⟨p, l, e, R, s, m, args, below, meth, c, K, A, Q, nc, ns⟩ := x
  intro H locs ls h1 h2 h3 h4
  exact lv_icmp_eq F.1 F.2.1 dg ht (fun z => kt z H locs ls h1 h2 h3 h4) (fun z => kf z H locs ls h1 h2 h3 h4)
theorem vv_icmp_ne {a b : Int32} {off : Int} {tgt : Nat} (F : vv_F x cc nL own d) (dg : decode cc pc = .ok (.if_icmp .ne off, 3)) (ht : (pc : Int) + off = (tgt : Int)) (kt : ¬ a = b → vv_V x nL tgt lv st ws) (kf : a = b → vv_V x nL (pc + 3) lv st ws) : vv_V x nL pc lv (.int b :: .int a :: st) ws := by
  obtain ⟨p, l, e, R, s, m, args, below, meth, c, K, A, Q, nc, ns⟩ := x
  intro H locs ls h1 h2 h3 h4
  exact lv_icmp_ne F.1 F.2.1 dg ht (fun z => kt z H locs ls h1 h2 h3 h4) (fun z => kf z H locs ls h1 h2 h3 h4)
theorem vv_icmp_lt {a b : Int32} {off : Int} {tgt : Nat} (F : vv_F x cc nL own d) (dg : decode cc pc = .ok (.if_icmp .lt off, 3)) (ht : (pc : Int) + off = (tgt : Int)) (kt : a < b → vv_V x nL tgt lv st ws) (kf : ¬ a < b → vv_V x nL (pc + 3) lv st ws) : vv_V x nL pc lv (.int b :: .int a :: st) ws := by
  obtain ⟨p, l, e, R, s, m, args, below, meth, c, K, A, Q, nc, ns⟩ := x
  intro H locs ls h1 h2 h3 h4
  exact lv_icmp_lt F.1 F.2.1 dg ht (fun z => kt z H locs ls h1 h2 h3 h4) (fun z => kf z H locs ls h1 h2 h3 h4)
theorem vv_icmp_ge {a b : Int32} {off : Int} {tgt : Nat} (F : vv_F x cc nL own d) (dg : decode cc pc = .ok (.if_icmp .ge off, 3)) (ht : (pc : Int) + off = (tgt : Int)) (kt : b ≤ a → vv_V x nL tgt lv st ws) (kf : ¬ b ≤ a → vv_V x nL (pc + 3) lv st ws) : vv_V x nL pc lv (.int b :: .int a :: st) ws := by
  obtain ⟨p, l, e, R, s, m, args, below, meth, c, K, A, Q, nc, ns⟩ := x
  intro H locs ls h1 h2 h3 h4
  exact lv_icmp_ge F.1 F.2.1 dg ht (fun z => kt z H locs ls h1 h2 h3 h4) (fun z => kf z H locs ls h1 h2 h3 h4)
theorem vv_icmp_gt {a b : Int32} {off : Int} {tgt : Nat} (F : vv_F x cc nL own d) (dg : decode cc pc = .ok (.if_icmp .gt off, 3)) (ht : (pc : Int) + off = (tgt : Int)) (kt : b < a → vv_V x nL tgt lv st ws) (kf : ¬ b < a → vv_V x nL (pc + 3) lv st ws) : vv_V x nL pc lv (.int b :: .int a :: st) ws := by
  obtain ⟨p, l, e, R, s, m, args, below, meth, c, K, A, Q, nc, ns⟩ := x
  intro H locs ls h1 h2 h3 h4
  exact lv_icmp_gt F.1 F.2.1 dg ht (fun z => kt z H locs ls h1 h2 h3 h4) (fun z => kf z H locs ls h1 h2 h3 h4)
theorem vv_icmp_le {a b : Int32} {off : Int} {tgt : Nat} (F : vv_F x cc nL own d) (dg : decode cc pc = .ok (.if_icmp .le off, 3)) (ht : (pc : Int) + off = (tgt : Int)) (kt : a ≤ b → vv_V x nL tgt lv st ws) (kf : ¬ a ≤ b → vv_V x nL (pc + 3) lv st ws) : vv_V x nL pc lv (.int b :: .int a :: st) ws := by
  obtain ⟨p, l, e, R, s, m, args, below, meth, c, K, A, Q, nc, ns⟩ := x
  intro H locs ls h1 h2 h3 h4
  exact lv_icmp_le F.1 F.2.1 dg ht (fun z => kt z H locs ls h1 h2 h3 h4) (fun z => kf z H locs ls h1 h2 h3 h4)
theorem vv_goto {off : Int} {tgt : Nat} (F : vv_F x cc nL own d) (dg : decode cc pc = .ok (.goto off, 3)) (ht : (pc : Int) + off = (tgt : Int)) (k : vv_V x nL tgt lv st ws) : vv_V x nL pc lv st ws := by
  obtain ⟨p, l, e, R, s, m, args, below, meth, c, K, A, Q, nc, ns⟩ := x
  intro H locs ls h1 h2 h3 h4
  exact lv_goto F.1 F.2.1 dg ht (k H locs ls h1 h2 h3 h4)
theorem vv_ldc {index : Nat} {v : Int32} (F : vv_F x cc nL own d) (hc : Cond.constant own index v ∈ vv_gw) (dg : decode cc pc = .ok (.ldc index, 2)) (k : vv_V x nL (pc + 2) lv (.int v :: st) ws) : vv_V x nL pc lv st ws := by
  obtain ⟨p, l, e, R, s, m, args, below, meth, c, K, A, Q, nc, ns⟩ := x
  intro H locs ls h1 h2 h3 h4
  exact lv_ldc F.1 F.2.1 F.2.2.2.1 (F.2.2.2.2.1 _ hc) dg (k H locs ls h1 h2 h3 h4)
theorem vv_ldc2 {index : Nat} {v : Int64} (F : vv_F x cc nL own d) (hc : Cond.constantLong own index v ∈ vv_gw) (dg : decode cc pc = .ok (.ldc2_w index, 3)) (k : vv_V x nL (pc + 3) lv (.long v :: st) ws) : vv_V x nL pc lv st ws := by
  obtain ⟨p, l, e, R, s, m, args, below, meth, c, K, A, Q, nc, ns⟩ := x
  intro H locs ls h1 h2 h3 h4
  exact lv_ldc2 F.1 F.2.1 F.2.2.2.1 (F.2.2.2.2.1 _ hc) dg (k H locs ls h1 h2 h3 h4)
theorem vv_tabOut {dflt lo hi : Int} {offs : Array Int} {len : Nat} {a : Int32} {tgt : Nat} (F : vv_F x cc nL own d) (dg : decode cc pc = .ok (.tableswitch dflt lo hi offs, len)) (h : a.toInt < lo ∨ hi < a.toInt) (ht : (pc : Int) + dflt = (tgt : Int)) (k : vv_V x nL tgt lv st ws) : vv_V x nL pc lv (.int a :: st) ws := by
  obtain ⟨p, l, e, R, s, m, args, below, meth, c, K, A, Q, nc, ns⟩ := x
  intro H locs ls h1 h2 h3 h4
  exact lv_tableOut F.1 F.2.1 dg h ht (k H locs ls h1 h2 h3 h4)
theorem vv_tabIn {dflt lo hi : Int} {offs : Array Int} {len : Nat} {a : Int32} {off : Int} {tgt : Nat} (F : vv_F x cc nL own d) (dg : decode cc pc = .ok (.tableswitch dflt lo hi offs, len)) (g1 : ¬ a.toInt < lo) (g2 : ¬ hi < a.toInt) (ho : offs[(a.toInt - lo).toNat]? = some off) (ht : (pc : Int) + off = (tgt : Int)) (k : vv_V x nL tgt lv st ws) : vv_V x nL pc lv (.int a :: st) ws := by
  obtain ⟨p, l, e, R, s, m, args, below, meth, c, K, A, Q, nc, ns⟩ := x
  intro H locs ls h1 h2 h3 h4
  exact lv_tableIn F.1 F.2.1 dg g1 g2 ho ht (k H locs ls h1 h2 h3 h4)
theorem vv_lv (ks : List Nat) (hl : lv_pick lv ks = lv') (k : vv_V x nL pc lv' st ws) : vv_V x nL pc lv st ws := by
  obtain ⟨p, l, e, R, s, m, args, below, meth, c, K, A, Q, nc, ns⟩ := x
  intro H locs ls h1 h2 h3 h4
  exact k H locs ls h1 h2 h3 (lv_sub h4 ks hl)
/-- entry 'index' of class own is the field k of the class at ci, of type ty; wr: it may be written by any method -/
def vv_fl (own : String) (index ci k : Nat) (ty : FieldType) (wr : Bool) : Prop := ∃ (C : String) (T : u_T) (N : Nat) (ty0 : Nat → FieldType), vv_CL[ci]? = some (C, T, N) ∧ k < N ∧ (∀ w ∈ u_ws C T N, w ∈ vv_gw) ∧ (∀ k, k < N → parseFieldDescriptor (T k).2.2.1 = some (ty0 k)) ∧ (∀ a, a < N → ∀ b, b < N → a ≠ b → (T a).2.1 ≠ (T b).2.1) ∧ parseFieldDescriptor (T k).2.2.1 = some ty ∧ (T k).2.2.2 = !wr ∧ (Cond.fieldLink own index (T k).1 (T k).2.1 (T k).2.2.1 ∈ vv_gw ∨ ∃ host, Cond.fieldLinkNest own index (T k).1 (T k).2.1 (T k).2.2.1 host ∈ vv_nest)
theorem vv_get {index ci k0 a : Nat} {ty : FieldType} {wr : Bool} {fs : List Value} {v : Value} (q0 : Nat) (F : vv_F x cc nL own d) (fl : vv_fl own index ci k0 ty wr) (dg : decode cc pc = .ok (.getfield index, 3)) (he : ws[q0]? = some (a, .inr (ci, fs))) (hv : fs[k0]? = some v) (k : vv_V x nL (pc + 3) lv (v :: st) ws) : vv_V x nL pc lv (.ref a :: st) ws := by
  obtain ⟨p, l, e, R, s, m, args, below, meth, c, K, A, Q, nc, ns⟩ := x
  intro H locs ls h1 h2 h3 h4
  obtain ⟨C, T, N, ty0, hc, hk, hin, hty, hnm, hd, hfin, hl | ⟨host, hl⟩⟩ := fl
  · exact va_get (D := K.1) (ci := ci) (v := v) (C := C) (T := T) (N := N) F.1 F.2.1 F.2.2.2.2.1 hin F.2.2.2.1 F.2.2.2.2.2.1.1 h1 q0 he hc k0 hk (F.2.2.2.2.1 _ hl) (fun _ h9 => h9) hv dg (k H locs ls h1 h2 h3 h4)
  · exact va_getN (D := K.1) (ci := ci) (v := v) (C := C) (T := T) (N := N) F.1 F.2.1 F.2.2.2.2.1 hin F.2.2.2.1 F.2.2.2.2.2.1.1 h1 q0 he hc k0 hk (va_Nw.use rfl (F.2.2.2.2.2.1.2.1 _ hl)) (fun _ h9 => h9) hv dg (k H locs ls h1 h2 h3 h4)
theorem vv_put {index ci k0 a : Nat} {ty : FieldType} {fs : List Value} {v : Value} (q0 : Nat) (F : vv_F x cc nL own d) (fl : vv_fl own index ci k0 ty true) (dg : decode cc pc = .ok (.putfield index, 3)) (he : ws[q0]? = some (a, .inr (ci, fs))) (hn : narrow ty v = v) (hfit : fits ty v = true) (hl0 : k0 < fs.length) (hw : ws.set q0 (a, .inr (ci, fs.set k0 v)) = ws') (k : vv_V x nL (pc + 3) lv st ws') : vv_V x nL pc lv (v :: .ref a :: st) ws := by
  obtain ⟨p, l, e, R, s, m, args, below, meth, c, K, A, Q, nc, ns⟩ := x
  intro H locs ls h1 h2 h3 h4
  obtain ⟨C, T, N, ty0, hc, hk, hin, hty, hnm, hd, hfin, hl | ⟨host, hl⟩⟩ := fl
  · exact va_put (D := K.1) (ci := ci) (v := v) (ty := ty) (C := C) (T := T) (N := N) F.1 F.2.1 F.2.2.2.2.1 hin ty0 hty hnm F.2.2.2.1 F.2.2.2.2.2.1.1 h1 h2 h3 q0 he hc k0 hk (F.2.2.2.2.1 _ hl) (fun _ h9 => h9) hfin hd hn hfit hl0 dg (fun H locs h1 h2 h3 => k H locs ls (hw ▸ h1) (hw ▸ h2) h3 h4)
  · exact va_putN (D := K.1) (ci := ci) (v := v) (ty := ty) (C := C) (T := T) (N := N) F.1 F.2.1 F.2.2.2.2.1 hin ty0 hty hnm F.2.2.2.1 F.2.2.2.2.2.1.1 h1 h2 h3 q0 he hc k0 hk (va_Nw.use rfl (F.2.2.2.2.2.1.2.1 _ hl)) (fun _ h9 => h9) hfin hd hn hfit hl0 dg (fun H locs h1 h2 h3 => k H locs ls (hw ▸ h1) (hw ▸ h2) h3 h4)
theorem vv_iald {n a : Nat} {f : Nat → Int32} {i : Int32} {j : Nat} (q0 : Nat) (F : vv_F x cc nL own d) (dg : decode cc pc = .ok (.iaload, 1)) (ha : ws[q0]? = some (a, .inl ((vv_k x).2.1.1, n, .inl f))) (hi : vp_in i n ∧ i.toNatClampNeg = j) (k : vv_V x nL (pc + 1) lv (.int (f j) :: st) ws) : vv_V x nL pc lv (.int i :: .ref a :: st) ws := by
  obtain ⟨p, l, e, R, s, m, args, below, meth, c, K, A, Q, nc, ns⟩ := x
  intro H locs ls h1 h2 h3 h4
  obtain ⟨hi, rfl⟩ := hi
  exact va_iald F.1 F.2.1 F.2.2.2.2.2.1.1 h1 q0 0 ha rfl hi dg (k H locs ls h1 h2 h3 h4)
theorem vv_bald {n a : Nat} {f : Nat → Int32} {i : Int32} {j : Nat} (q0 : Nat) (F : vv_F x cc nL own d) (dg : decode cc pc = .ok (.baload, 1)) (ha : ws[q0]? = some (a, .inl ((vv_k x).2.1.2.1, n, .inl f))) (hi : vp_in i n ∧ i.toNatClampNeg = j) (k : vv_V x nL (pc + 1) lv (.int (f j) :: st) ws) : vv_V x nL pc lv (.int i :: .ref a :: st) ws := by
  obtain ⟨p, l, e, R, s, m, args, below, meth, c, K, A, Q, nc, ns⟩ := x
  intro H locs ls h1 h2 h3 h4
  obtain ⟨hi, rfl⟩ := hi
  exact va_bald F.1 F.2.1 F.2.2.2.2.2.1.1 h1 q0 1 ha rfl hi dg (k H locs ls h1 h2 h3 h4)
theorem vv_zald {n a : Nat} {f : Nat → Int32} {i : Int32} {j : Nat} (q0 : Nat) (F : vv_F x cc nL own d) (dg : decode cc pc = .ok (.baload, 1)) (ha : ws[q0]? = some (a, .inl ((vv_k x).2.1.2.2, n, .inl f))) (hi : vp_in i n ∧ i.toNatClampNeg = j) (k : vv_V x nL (pc + 1) lv (.int (f j) :: st) ws) : vv_V x nL pc lv (.int i :: .ref a :: st) ws := by
  obtain ⟨p, l, e, R, s, m, args, below, meth, c, K, A, Q, nc, ns⟩ := x
  intro H locs ls h1 h2 h3 h4
  obtain ⟨hi, rfl⟩ := hi
  exact va_zald F.1 F.2.1 F.2.2.2.2.2.1.1 h1 q0 2 ha rfl hi dg (k H locs ls h1 h2 h3 h4)
theorem vv_iast {n a : Nat} {f : Nat → Int32} {i v : Int32} {j : Nat} (q0 : Nat) (F : vv_F x cc nL own d) (dg : decode cc pc = .ok (.iastore, 1)) (ha : ws[q0]? = some (a, .inl ((vv_k x).2.1.1, n, .inl f))) (hi : vp_in i n ∧ i.toNatClampNeg = j) (hw : ws.set q0 (a, .inl ((vv_k x).2.1.1, n, .inl (upd f j v))) = ws') (k : vv_V x nL (pc + 1) lv st ws') : vv_V x nL pc lv (.int v :: .int i :: .ref a :: st) ws := by
  obtain ⟨p, l, e, R, s, m, args, below, meth, c, K, A, Q, nc, ns⟩ := x
  intro H locs ls h1 h2 h3 h4
  obtain ⟨hi, rfl⟩ := hi
  exact va_iast F.1 F.2.1 F.2.2.2.2.2.1.1 h1 h2 h3 q0 0 ha rfl hi dg (fun H locs h1 h2 h3 => k H locs ls (hw ▸ h1) (hw ▸ h2) h3 h4)
theorem vv_bast {n a : Nat} {f : Nat → Int32} {i v : Int32} {j : Nat} (q0 : Nat) (F : vv_F x cc nL own d) (dg : decode cc pc = .ok (.bastore, 1)) (ha : ws[q0]? = some (a, .inl ((vv_k x).2.1.2.1, n, .inl f))) (hi : vp_in i n ∧ i.toNatClampNeg = j) (hw : ws.set q0 (a, .inl ((vv_k x).2.1.2.1, n, .inl (upd f j (vp_nar .byte v)))) = ws') (k : vv_V x nL (pc + 1) lv st ws') : vv_V x nL pc lv (.int v :: .int i :: .ref a :: st) ws := by
  obtain ⟨p, l, e, R, s, m, args, below, meth, c, K, A, Q, nc, ns⟩ := x
  intro H locs ls h1 h2 h3 h4
  obtain ⟨hi, rfl⟩ := hi
  exact va_bast F.1 F.2.1 F.2.2.2.2.2.1.1 h1 h2 h3 q0 1 ha rfl hi dg (fun H locs h1 h2 h3 => k H locs ls (hw ▸ h1) (hw ▸ h2) h3 h4)
theorem vv_zast {n a : Nat} {f : Nat → Int32} {i v : Int32} {j : Nat} (q0 : Nat) (F : vv_F x cc nL own d) (dg : decode cc pc = .ok (.bastore, 1)) (ha : ws[q0]? = some (a, .inl ((vv_k x).2.1.2.2, n, .inl f))) (hi : vp_in i n ∧ i.toNatClampNeg = j) (hw : ws.set q0 (a, .inl ((vv_k x).2.1.2.2, n, .inl (upd f j (vp_nar .boolean v)))) = ws') (k : vv_V x nL (pc + 1) lv st ws') : vv_V x nL pc lv (.int v :: .int i :: .ref a :: st) ws := by
  obtain ⟨p, l, e, R, s, m, args, below, meth, c, K, A, Q, nc, ns⟩ := x
  intro H locs ls h1 h2 h3 h4
  obtain ⟨hi, rfl⟩ := hi
  exact va_zast F.1 F.2.1 F.2.2.2.2.2.1.1 h1 h2 h3 q0 2 ha rfl hi dg (fun H locs h1 h2 h3 => k H locs ls (hw ▸ h1) (hw ▸ h2) h3 h4)
end VVR
end
section
/-! worlds that change at places; contracts; the start of a method, its ends, its calls -/
def vv_up : va_W → List Nat → va_W → va_W
  | ws, i :: is, c :: cs => vv_up (ws.set i c) is cs
  | ws, _, _ => ws
theorem vv_up_get : ∀ (is : List Nat) (cs ws : va_W) (k : Nat) (q : Nat × va_E), (vv_up ws is cs)[k]? = some q → (∃ j : Nat, is[j]? = some k ∧ cs[j]? = some q) ∨ (ws[k]? = some q ∧ ∀ (j : Nat) (c : Nat × va_E), is[j]? = some k → cs[j]? = some c → False)
  | [], cs, ws, k, q, h => Or.inr ⟨by simpa [vv_up] using h, fun j c hj _ => by simp at hj⟩
  | i :: is, [], ws, k, q, h => Or.inr ⟨by simpa [vv_up] using h, fun j c _ hc => by simp at hc⟩
  | i :: is, c :: cs, ws, k, q, h => by
    rcases vv_up_get is cs (ws.set i c) k q h with ⟨j, h1, h2⟩ | ⟨h1, h2⟩
    · exact Or.inl ⟨j + 1, by simpa using h1, by simpa using h2⟩
    · by_cases hk : i = k
      · subst hk
        by_cases hl : i < ws.length
        · rw [List.getElem?_set_self hl] at h1
          exact Or.inl ⟨0, rfl, h1⟩
        · rw [List.getElem?_eq_none (by rw [List.length_set]; omega)] at h1
          cases h1
      · rw [List.getElem?_set_ne hk] at h1
        refine Or.inr ⟨h1, fun j c' hj hc => ?_⟩
        cases j with
        | zero => exact hk (Option.some.inj hj)
        | succ j => exact h2 j c' (by simpa using hj) (by simpa using hc)
theorem vv_at {ws wc : va_W} {is : List Nat} (his : is.map (fun i => ws[i]?) = wc.map some) {j i : Nat} (hj : is[j]? = some i) : ∃ q, wc[j]? = some q ∧ ws[i]? = some q := by
  have h1 : (is.map (fun i => ws[i]?))[j]? = some (ws[i]?) := by rw [List.getElem?_map, hj]; rfl
  rw [his, List.getElem?_map] at h1
  cases hw : wc[j]? with
  | none => rw [hw] at h1; cases h1
  | some q => rw [hw] at h1; exact ⟨q, rfl, (Option.some.inj h1).symm⟩
theorem vv_ta {ws wc : va_W} {is : List Nat} (his : is.map (fun i => ws[i]?) = wc.map some) {j : Nat} {q : Nat × va_E} (hj : wc[j]? = some q) : ∃ i, is[j]? = some i ∧ ws[i]? = some q := by
  have h1 : (wc.map some)[j]? = some (some q) := by rw [List.getElem?_map, hj]; rfl
  rw [← his, List.getElem?_map] at h1
  cases hi : is[j]? with
  | none => rw [hi] at h1; cases h1
  | some i => rw [hi] at h1; exact ⟨i, rfl, Option.some.inj h1⟩
theorem vv_fst {wc wc' : va_W} (hf : wc'.map Prod.fst = wc.map Prod.fst) {j : Nat} {q q' : Nat × va_E} (h : wc[j]? = some q) (h' : wc'[j]? = some q') : q'.1 = q.1 := by
  have h1 : (wc'.map Prod.fst)[j]? = some q'.1 := by rw [List.getElem?_map, h']; rfl
  rw [hf, List.getElem?_map, h] at h1
  exact (Option.some.inj h1).symm
theorem vv_up_fst {ws wc wc' : va_W} {is : List Nat} (his : is.map (fun i => ws[i]?) = wc.map some) (hf : wc'.map Prod.fst = wc.map Prod.fst) {k : Nat} {q : Nat × va_E} (h : (vv_up ws is wc')[k]? = some q) : ∃ q0, ws[k]? = some q0 ∧ q0.1 = q.1 := by
  rcases vv_up_get is wc' ws k q h with ⟨j, h1, h2⟩ | ⟨h1, -⟩
  · obtain ⟨q0, h3, h4⟩ := vv_at his h1
    exact ⟨q0, h4, (vv_fst hf h3 h2).symm⟩
  · exact ⟨q, h1, rfl⟩
theorem vv_up_D {A : Nat → Prop} {ws wc wc' : va_W} {is : List Nat} (hD : va_D A ws) (his : is.map (fun i => ws[i]?) = wc.map some) (hf : wc'.map Prod.fst = wc.map Prod.fst) : va_D A (vv_up ws is wc') := by
  refine ⟨fun i j a b hi hj hab => ?_, fun k q hk => ?_⟩
  · obtain ⟨a0, h1, h2⟩ := vv_up_fst his hf hi
    obtain ⟨b0, h3, h4⟩ := vv_up_fst his hf hj
    exact hD.1 i j a0 b0 h1 h3 (h2.trans (hab.trans h4.symm))
  · obtain ⟨q0, h1, h2⟩ := vv_up_fst his hf hk
    rw [← h2]
    exact hD.2 k q0 h1
theorem vv_up_P {D : va_G} {cl : List vw_C} {A : Nat → Prop} {ws wc wc' : va_W} {is : List Nat} {H H1 : Heap} (hP : va_P D cl ws H) (hD : va_D A ws) (his : is.map (fun i => ws[i]?) = wc.map some) (hf : wc'.map Prod.fst = wc.map Prod.fst) (hk : ∀ q : Nat, q < H.size → ¬ va_A wc H.size q → H1[q]? = H[q]?) (hP1 : va_P D cl wc' H1) : va_P D cl (vv_up ws is wc') H1 := by
  intro k q hq
  rcases vv_up_get is wc' ws k q hq with ⟨j, h1, h2⟩ | ⟨h1, h2⟩
  · exact hP1 j q h2
  · have hl := (hP k q h1).lt
    refine (hP k q h1).kept (hk q.1 hl fun hA => ?_)
    rcases hA with ⟨j, e, hj⟩ | hA
    · obtain ⟨i, h3, h4⟩ := vv_ta his hj
      have := hD.1 k i q (q.1, e) h1 h4 rfl
      subst this
      have hjl : j < wc'.length := by
        have h5 := (List.getElem?_eq_some_iff.mp hj).1
        have h6 := congrArg List.length hf
        simp only [List.length_map] at h6
        omega
      exact h2 j _ h3 (List.getElem?_eq_getElem hjl)
    · omega
theorem vv_fm {ws wc : va_W} {is : List Nat} (his : is.map (fun i => ws[i]?) = wc.map some) : is.filterMap (fun i => ws[i]?) = wc := by
  have h1 : is.filterMap (fun i => ws[i]?) = (is.map (fun i => ws[i]?)).filterMap id := by rw [List.filterMap_map]; rfl
  rw [h1, his, List.filterMap_map]
  have h2 : (id ∘ some : (Nat × va_E) → Option (Nat × va_E)) = some := rfl
  rw [h2, List.filterMap_some]
/-- A METHOD'S CONTRACT: from the cells wc, with the arguments as, it answers r, and its cells are wc'; nothing else changes, nothing is made; d frames are room enough -/
def vv_Q (K : vv_K) (A : Nat → Prop) (r : Option Value) (wc' : va_W) : Array Value → State → Outcome → State → Prop := fun _ st oc t => (oc = .returned r ∧ va_P K.1 vv_CL wc' t.heap ∧ va_D A wc') ∧ va_F A st t
def vv_C (l : Launch) (K : vv_K) (d : Nat) (y : MethodName) (cc : ByteArray) (nL : Nat) (ret : Option FieldType) (as : List Value) (wc : va_W) (r : Option Value) (wc' : va_W) : Prop :=
  ∀ sz : Nat, Met l y (.code y cc nL ret :: vv_gw) (vv_rm d) (va_Pc as (fun U => U.heap.size = sz ∧ va_P K.1 vv_CL wc U.heap ∧ vv_A K (va_A wc sz) U U.heap ∧ va_D (fun _ => True) wc)) (vv_Q K (va_A wc sz) r wc') 0 0 (va_A wc sz)
/-- how the walk ends -/
def vv_R (x : vv_X) (ret : Option FieldType) (r : Option Value) (wc' : va_W) : Prop := match x with
  | (_, _, _, _, s, _, args, below, meth, _, K, A, Q, nc, ns) => meth.sig.returnType = ret ∧ nc = 0 ∧ ns = 0 ∧ Q = MQ below (vv_Q K A r wc') args s 0 0 A
theorem vv_C.of {l : Launch} {K : vv_K} {d : Nat} {y : MethodName} {cc : ByteArray} {nL : Nat} {ret : Option FieldType} {as : List Value} {lv : List (Nat × Value)} {wc : va_W} {r : Option Value} {wc' : va_W} (hy : plainName y.cls = true) (hs : (lg_sl as).length ≤ nL) (hlv : lv_args 0 as = lv)
    (body : ∀ x : vv_X, vv_l x = l → vv_k x = K → vv_F x cc nL y.cls d → vv_R x ret r wc' → vv_V x nL 0 lv [] wc) : vv_C l K d y cc nL ret as wc r wc' := by
  intro sz
  refine Met.ofW (cc := cc) (maxL := nL) (ret := ret) hy rfl ?_
  intro p e s m args below meth c s₁ B hml hv
  obtain ⟨rfl, hsz, hP, hAb, hD0⟩ := hv
  have hts := atoms_spec (ws := .code y cc nL ret :: vv_gw) B.pre
  have hown : s.vm.findClass y.cls = some m.cls := findClass_of_methodNamed B.named
  subst hsz
  have hD := hD0.self (sz := s.heap.size)
  have K0 := body (p, l, e, (headSpec (.code y cc nL ret :: vv_gw) (vv_rm d)).room, s, m, as.toArray, below, meth, c, K, va_A wc s.heap.size, MQ below (vv_Q K (va_A wc s.heap.size) r wc') as.toArray s 0 0 (va_A wc s.heap.size), 0, 0) rfl rfl
    ⟨B.exec, B.bytes, hml, hown, fun w hw => hts w (List.mem_cons_of_mem _ hw), hAb, fun q h => Or.inr h, B.notSynchronized, Nat.le_refl _, Nat.le_refl _, Nat.le_refl _, Nat.le_refl _⟩ ⟨B.returns, rfl, rfl, rfl⟩
  rw [lg_entry_eq]
  exact K0 s.heap [] _ hP hD va_S.rf (hlv ▸ lv_entry as hs)
section VVS
variable {x : vv_X} {cc : ByteArray} {nL pc d : Nat} {own : String} {lv lv' : List (Nat × Value)} {st rest : List Value} {ws ws' wc wc' : va_W} {r : Option Value}
theorem vv_iret {v : Int32} (F : vv_F x cc nL own d) (hR : vv_R x (some .int) r wc') (dg : decode cc pc = .ok (.ireturn, 1)) (hr : r = some (.int v)) (hw : wc' = ws) : vv_V x nL pc lv [.int v] ws := by
  obtain ⟨p, l, e, R, s, m, args, below, meth, c, K, A, Q, nc, ns⟩ := x
  intro H locs ls h1 h2 h3 h4
  obtain ⟨hret, hc, hs, hQ⟩ := hR
  subst hc; subst hs; subst hQ; subst hr; subst hw
  exact W.iret F.1 F.2.1 hret (fun t ht hW => ⟨⟨rfl, by rw [ht]; exact h1, h2⟩, h3.F ht⟩) h3.2.2 dg (hlocks := F.2.2.2.2.2.2.2.1)
theorem vv_zret {v : Int32} {ty : FieldType} (F : vv_F x cc nL own d) (hR : vv_R x (some ty) r wc') (dg : decode cc pc = .ok (.ireturn, 1)) (hn : narrow ty (.int v) = .int v) (hr : r = some (.int v)) (hw : wc' = ws) : vv_V x nL pc lv [.int v] ws := by
  obtain ⟨p, l, e, R, s, m, args, below, meth, c, K, A, Q, nc, ns⟩ := x
  intro H locs ls h1 h2 h3 h4
  obtain ⟨hret, hc, hs, hQ⟩ := hR
  subst hc; subst hs; subst hQ; subst hr; subst hw
  exact W.zret F.1 F.2.1 hret hn (fun t ht hW => ⟨⟨rfl, by rw [ht]; exact h1, h2⟩, h3.F ht⟩) h3.2.2 dg (hlocks := F.2.2.2.2.2.2.2.1)
theorem vv_lret {v : Int64} (F : vv_F x cc nL own d) (hR : vv_R x (some .long) r wc') (dg : decode cc pc = .ok (.lreturn, 1)) (hr : r = some (.long v)) (hw : wc' = ws) : vv_V x nL pc lv [.long v] ws := by
  obtain ⟨p, l, e, R, s, m, args, below, meth, c, K, A, Q, nc, ns⟩ := x
  intro H locs ls h1 h2 h3 h4
  obtain ⟨hret, hc, hs, hQ⟩ := hR
  subst hc; subst hs; subst hQ; subst hr; subst hw
  exact W.lret F.1 F.2.1 hret (fun t ht hW => ⟨⟨rfl, by rw [ht]; exact h1, h2⟩, h3.F ht⟩) h3.2.2 dg (hlocks := F.2.2.2.2.2.2.2.1)
theorem vv_vret (F : vv_F x cc nL own d) (hR : vv_R x none r wc') (dg : decode cc pc = .ok (.return_, 1)) (hr : r = none) (hw : wc' = ws) : vv_V x nL pc lv [] ws := by
  obtain ⟨p, l, e, R, s, m, args, below, meth, c, K, A, Q, nc, ns⟩ := x
  intro H locs ls h1 h2 h3 h4
  obtain ⟨hret, hc, hs, hQ⟩ := hR
  subst hc; subst hs; subst hQ; subst hr; subst hw
  exact W.vret F.1 F.2.1 hret (fun t ht hW => ⟨⟨rfl, by rw [ht]; exact h1, h2⟩, h3.F ht⟩) h3.2.2 dg (hlocks := F.2.2.2.2.2.2.2.1)
/-- entry 'index' of class own is the method y, an instance's, of the class at ci, with n arguments -/
def vv_mv (own : String) (index ci : Nat) (y : MethodName) (cc : ByteArray) (nL : Nat) (ret : Option FieldType) (n : Nat) : Prop := ∃ (T : u_T) (N : Nat), vv_CL[ci]? = some (y.cls, T, N) ∧ (Cond.methodLink own index y ∈ vv_gw ∨ ∃ host, Cond.methodLinkNest own index y host ∈ vv_nest) ∧ Cond.instanceMethod y ∈ vv_gw ∧ Cond.selects y.cls y y ∈ vv_gw ∧ Cond.initialized y.cls ∈ vv_gw ∧ Cond.code y cc nL ret ∈ vv_gw ∧ (y.cls ≠ "java/lang/invoke/MethodHandle" ∧ y.cls ≠ "java/lang/invoke/VarHandle" ∧ (parseMethodDescriptor y.desc).map (fun d => d.parameters.length) = some n) ∧ nL ≤ 40
def vv_ms (own : String) (index : Nat) (y : MethodName) (cc : ByteArray) (nL : Nat) (ret : Option FieldType) (n : Nat) : Prop := (Cond.methodLink own index y ∈ vv_gw ∨ ∃ host, Cond.methodLinkNest own index y host ∈ vv_nest) ∧ Cond.static y ∈ vv_gw ∧ Cond.initialized y.cls ∈ vv_gw ∧ Cond.code y cc nL ret ∈ vv_gw ∧ (y.cls ≠ "java/lang/invoke/MethodHandle" ∧ y.cls ≠ "java/lang/invoke/VarHandle" ∧ (parseMethodDescriptor y.desc).map (fun d => d.parameters.length) = some n) ∧ nL ≤ 40
theorem vv_goodC {y : MethodName} {cc : ByteArray} {nL : Nat} {ret : Option FieldType} (hco : Cond.code y cc nL ret ∈ vv_gw) : GoodIn vv_gw (.code y cc nL ret :: vv_gw) := fun w hw => by
  rcases List.mem_cons.mp hw with rfl | hw
  · exact ⟨hco, good_of_word (vv_gw_good hco)⟩
  · exact ⟨hw, good_of_word (vv_gw_good hw)⟩
theorem vv_blind {K : vv_K} {as : List Value} {sz : Nat} : FrameBlind (va_Pc as (fun U => U.heap.size = sz ∧ va_P K.1 vv_CL wc U.heap ∧ vv_A K (va_A wc sz) U U.heap ∧ va_D (fun _ => True) wc)) := fun a U g mk q => by
  obtain ⟨q0, q1, qP, qA, qD⟩ := q
  exact ⟨q0, q1, qP, vv_A.same (U := U) (U' := U.calling g mk a) rfl rfl qA, qD⟩
theorem vv_back {p : Program} {l : Launch} {e : Env} {R : Room} {s : State} {m : MethodId} {args a : Array Value} {below : List Frame} {meth : Method} {c : Code} {H : Heap} {locs : List Loc} {nc ns : Nat} {Q : State → Prop} {K : vv_K} {A : Nat → Prop} {ls : Array Slot} {is : List Nat}
    (hr : va_Run p l e R s m args below meth c H locs nc ns 0 0 (F0 m pc ls st) rest (vv_Q K (va_A wc H.size) r wc' a) (va_A wc H.size)) (h1 : va_P K.1 vv_CL ws H) (h2 : va_D A ws) (h3 : va_S A s.heap H locs) (hFc : ∀ q, va_A wc H.size q → A q) (his : is.map (fun i => ws[i]?) = wc.map some) (hf : wc'.map Prod.fst = wc.map Prod.fst)
    (k : ∀ (H1 : Heap) (locs1 : List Loc), va_P K.1 vv_CL (vv_up ws is wc') H1 → va_D A (vv_up ws is wc') → va_S A s.heap H1 locs1 → W p l e R s m args below meth c H1 locs1 nc ns Q (F0 m (pc + 3) ls (r.toList ++ rest))) : W p l e R s m args below meth c H locs nc ns Q (F0 m pc ls st) := by
  intro T hT X
  obtain ⟨v, st₀, t, T', L, h0, X', hL, e1, e2, ⟨⟨hv, hP1, hD1⟩, hz, hk⟩, stp⟩ := hr T hT X
  cases hv
  rw [h0] at hz hk
  obtain ⟨t2, a1, b1⟩ := k T'.heap (locs ++ L) (by rw [e1]; exact vv_up_P h1 h2 his hf hk hP1) (vv_up_D h2 his hf)
    ⟨Nat.le_trans h3.1 (by rw [e1]; exact hz), fun q g1 g2 => by rw [e1, hk q (Nat.lt_of_lt_of_le g1 h3.1) (fun z => g2 (hFc q z))]; exact h3.2.1 q g1 g2, fun q hq => by
      rcases List.mem_append.mp hq with h | h
      · exact h3.2.2 q h
      · exact hFc _ (hL q h)⟩ T' rfl X'
  exact ⟨t2, stp t2 a1, b1⟩
theorem vv_callV {index ci nL' dc n b : Nat} {y : MethodName} {cc' : ByteArray} {ret : Option FieldType} {As : List Value} {fs : List Value} (is : List Nat) (q0 : Nat) (F : vv_F x cc nL own d) (hC : vv_C (vv_l x) (vv_k x) dc y cc' nL' ret (.ref b :: As) wc r wc') (mv : vv_mv own index ci y cc' nL' ret n) (dg : decode cc pc = .ok (.invokevirtual index, 3)) (hdc : dc + 1 ≤ d) (hn : As.length = n) (hst : st = As.reverse ++ .ref b :: rest) (hrs : (rest.map fun v => v.category).sum ≤ 8) (his : is.map (fun i => ws[i]?) = wc.map some) (hnd : va_nd is = true) (hf : wc'.map Prod.fst = wc.map Prod.fst) (hre : ws[q0]? = some (b, .inr (ci, fs))) (hw : vv_up ws is wc' = ws')
    (k : vv_V x nL (pc + 3) lv (r.toList ++ rest) ws') : vv_V x nL pc lv st ws := by
  obtain ⟨p, l, e, R, s, m, args, below, meth, c, K, A, Q, nc, ns⟩ := x
  intro H locs ls h1 h2 h3 h4
  obtain ⟨T, N, hcl, hl, hi, hse, hini, hco, hd, h40⟩ := mv
  obtain ⟨hx, hb, hml, hown, hts, hAb, hA, hlk, hfr, hlo, hnc, hns⟩ := F
  have hG := vv_goodC hco
  have hFc := va_free h2 h3 hA is his
  have hP9 := h1.sub is (vv_fm his)
  have hD9 := h2.sub is hnd his
  have pre : ∀ U : State, U.heap = H → s.WarmedH U.vm → (va_Pc (.ref b :: As) (fun U => U.heap.size = H.size ∧ va_P K.1 vv_CL wc U.heap ∧ vv_A K (va_A wc H.size) U U.heap ∧ va_D (fun _ => True) wc)) (Value.ref b :: As).toArray U := fun U hU hW => ⟨rfl, by rw [hU], by rw [hU]; exact hP9, vv_A.go (A := A) (by rw [hU]; exact h3.2.1) hW hFc hAb, hD9.weaken (fun _ _ _ _ => trivial)⟩
  have hRm : (vv_rm dc).frames + 1 ≤ R.frames ∧ 8 + (nL' + 11) + (vv_rm dc).locals ≤ R.locals := ⟨by show dc + 1 ≤ R.frames; omega, by show 8 + (nL' + 11) + 60 * dc ≤ R.locals; omega⟩
  subst hst
  subst hw
  rcases hl with hl | ⟨host, hl⟩
  · exact vv_back (va_runV (As := As) (rest := rest) (g := F0 m pc ls (As.reverse ++ .ref b :: rest)) (C := y.cls) (b := b) ⟨hx, hb, hml, hown, hts⟩ (hC H.size) ⟨callB_of n hts hG rfl rfl rfl (hts _ hini) (hts _ hl) hd hRm, hts _ hi, hts _ hse⟩ ⟨vv_blind, va_recv hAb.1 h1 hcl hre, pre⟩ rfl hn h4.1 rfl (lv_room hrs) dg ⟨hnc, hns⟩) h1 h2 h3 hFc his hf (fun H1 locs1 g1 g2 g3 => k H1 locs1 ls g1 g2 g3 h4)
  · exact vv_back (va_runVN (As := As) (rest := rest) (g := F0 m pc ls (As.reverse ++ .ref b :: rest)) (C := y.cls) (b := b) (host := host) ⟨hx, hb, hml, hown, hts⟩ (hC H.size) ⟨va_cnB n hts hG rfl rfl rfl (hAb.2.1 _ hl) (hts _ hini) hd hRm, hts _ hi, hts _ hse⟩ ⟨vv_blind, va_recv hAb.1 h1 hcl hre, pre⟩ rfl hn h4.1 rfl (lv_room hrs) dg ⟨hnc, hns⟩) h1 h2 h3 hFc his hf (fun H1 locs1 g1 g2 g3 => k H1 locs1 ls g1 g2 g3 h4)
theorem vv_callS {index nL' dc n : Nat} {y : MethodName} {cc' : ByteArray} {ret : Option FieldType} {As : List Value} (is : List Nat) (F : vv_F x cc nL own d) (hC : vv_C (vv_l x) (vv_k x) dc y cc' nL' ret As wc r wc') (ms : vv_ms own index y cc' nL' ret n) (dg : decode cc pc = .ok (.invokestatic index, 3)) (hdc : dc + 1 ≤ d) (hn : As.length = n) (hst : st = As.reverse ++ rest) (hrs : (rest.map fun v => v.category).sum ≤ 8) (his : is.map (fun i => ws[i]?) = wc.map some) (hnd : va_nd is = true) (hf : wc'.map Prod.fst = wc.map Prod.fst) (hw : vv_up ws is wc' = ws')
    (k : vv_V x nL (pc + 3) lv (r.toList ++ rest) ws') : vv_V x nL pc lv st ws := by
  obtain ⟨p, l, e, R, s, m, args, below, meth, c, K, A, Q, nc, ns⟩ := x
  intro H locs ls h1 h2 h3 h4
  obtain ⟨hl, hsta, hini, hco, hd, h40⟩ := ms
  obtain ⟨hx, hb, hml, hown, hts, hAb, hA, hlk, hfr, hlo, hnc, hns⟩ := F
  have hG := vv_goodC hco
  have hFc := va_free h2 h3 hA is his
  have hP9 := h1.sub is (vv_fm his)
  have hD9 := h2.sub is hnd his
  have pre : ∀ U : State, U.heap = H → s.WarmedH U.vm → (va_Pc As (fun U => U.heap.size = H.size ∧ va_P K.1 vv_CL wc U.heap ∧ vv_A K (va_A wc H.size) U U.heap ∧ va_D (fun _ => True) wc)) As.toArray U := fun U hU hW => ⟨rfl, by rw [hU], by rw [hU]; exact hP9, vv_A.go (A := A) (by rw [hU]; exact h3.2.1) hW hFc hAb, hD9.weaken (fun _ _ _ _ => trivial)⟩
  have hRm : (vv_rm dc).frames + 1 ≤ R.frames ∧ 8 + (nL' + 11) + (vv_rm dc).locals ≤ R.locals := ⟨by show dc + 1 ≤ R.frames; omega, by show 8 + (nL' + 11) + 60 * dc ≤ R.locals; omega⟩
  subst hst
  subst hw
  rcases hl with hl | ⟨host, hl⟩
  · exact vv_back (va_runS (As := As) (rest := rest) (g := F0 m pc ls (As.reverse ++ rest)) ⟨hx, hb, hml, hown, hts⟩ (hC H.size) ⟨callB_of n hts hG rfl rfl rfl (hts _ hini) (hts _ hl) hd hRm, hts _ hsta⟩ ⟨vv_blind, pre⟩ rfl hn h4.1 rfl (lv_room hrs) dg ⟨hnc, hns⟩) h1 h2 h3 hFc his hf (fun H1 locs1 g1 g2 g3 => k H1 locs1 ls g1 g2 g3 h4)
  · exact vv_back (va_runSN (As := As) (rest := rest) (g := F0 m pc ls (As.reverse ++ rest)) (host := host) ⟨hx, hb, hml, hown, hts⟩ (hC H.size) ⟨va_cnB n hts hG rfl rfl rfl (hAb.2.1 _ hl) (hts _ hini) hd hRm, hts _ hsta, trivial⟩ ⟨vv_blind, pre⟩ rfl hn h4.1 rfl (lv_room hrs) dg ⟨hnc, hns⟩) h1 h2 h3 hFc his hf (fun H1 locs1 g1 g2 g3 => k H1 locs1 ls g1 g2 g3 h4)
/-- Math.max, Math.min -/
theorem vv_mmax {index : Nat} {a b : Int32} (F : vv_F x cc nL own d) (hl : Cond.methodLink own index Lib.Math.max.name ∈ vv_gw) (h2 : Cond.static Lib.Math.max.name ∈ vv_gw) (h3 : Cond.initialized "java/lang/Math" ∈ vv_gw) (h4 : Cond.code Lib.Math.max.name Lib.Math.max.code 2 (some .int) ∈ vv_gw) (hd : 1 ≤ d) (hrs : (st.map fun v => v.category).sum ≤ 8) (dg : decode cc pc = .ok (.invokestatic index, 3)) (k : vv_V x nL (pc + 3) lv (.int (if a < b then b else a) :: st) ws) : vv_V x nL pc lv (.int b :: .int a :: st) ws := by
  obtain ⟨p, l, e, R, s, m, args, below, meth, c, K, A, Q, nc, ns⟩ := x
  intro H locs ls g1 g2 g3 g4
  obtain ⟨hx, hb, hml, hown, hts, hAb, hA, hlk, hfr, hlo, hnc, hns⟩ := F
  exact va_mmax hx hb (hml.trans g4.1.symm) hown (hts _ hl) (hts _ h2) (hts _ h3) (hts _ h4) (by omega) (by omega) hnc hns dg (k H locs ls g1 g2 g3 g4)
theorem vv_mmin {index : Nat} {a b : Int32} (F : vv_F x cc nL own d) (hl : Cond.methodLink own index Lib.Math.min.name ∈ vv_gw) (h2 : Cond.static Lib.Math.min.name ∈ vv_gw) (h3 : Cond.initialized "java/lang/Math" ∈ vv_gw) (h4 : Cond.code Lib.Math.min.name Lib.Math.min.code 2 (some .int) ∈ vv_gw) (hd : 1 ≤ d) (hrs : (st.map fun v => v.category).sum ≤ 8) (dg : decode cc pc = .ok (.invokestatic index, 3)) (k : vv_V x nL (pc + 3) lv (.int (if b < a then b else a) :: st) ws) : vv_V x nL pc lv (.int b :: .int a :: st) ws := by
  obtain ⟨p, l, e, R, s, m, args, below, meth, c, K, A, Q, nc, ns⟩ := x
  intro H locs ls g1 g2 g3 g4
  obtain ⟨hx, hb, hml, hown, hts, hAb, hA, hlk, hfr, hlo, hnc, hns⟩ := F
  exact va_mmin hx hb (hml.trans g4.1.symm) hown (hts _ hl) (hts _ h2) (hts _ h3) (hts _ h4) (by omega) (by omega) hnc hns dg (k H locs ls g1 g2 g3 g4)
/-- arraycopy of a whole int row onto another from place 0 on -/
theorem vv_copyi {index a a0 n0 n1 n : Nat} {f g : Nat → Int32} {nn : Int32} (q0 q1 : Nat) (F : vv_F x cc nL own d) (hl : Cond.methodLink own index arraycopyName ∈ vv_gw) (k2 : Cond.native arraycopyName ∈ vv_gw) (k3 : Cond.static arraycopyName ∈ vv_gw) (k4 : Cond.initialized "java/lang/System" ∈ vv_gw) (hd : 1 ≤ d) (hrs : (st.map fun v => v.category).sum ≤ 8) (ha0 : ws[q0]? = some (a0, .inl ((vv_k x).2.1.1, n0, .inl f))) (ha1 : ws[q1]? = some (a, .inl ((vv_k x).2.1.1, n1, .inl g))) (hn0 : ¬ nn < 0) (hn : nn.toNatClampNeg = n) (hb0 : n ≤ n0) (hb1 : n ≤ n1) (dg : decode cc pc = .ok (.invokestatic index, 3)) (hw : ws.set q1 (a, .inl ((vv_k x).2.1.1, n1, .inl (va_cpy f g 0 0 n))) = ws') (k : vv_V x nL (pc + 3) lv st ws') : vv_V x nL pc lv (.int nn :: .int 0 :: .ref a :: .int 0 :: .ref a0 :: st) ws := by
  obtain ⟨p, l, e, R, s, m, args, below, meth, c, K, A, Q, nc, ns⟩ := x
  intro H locs ls g1 g2 g3 g4
  obtain ⟨hx, hb, hml, hown, hts, hAb, hA, hlk, hfr, hlo, hnc, hns⟩ := F
  subst hn
  subst hw
  have z0 : (0 : Int32).toNatClampNeg = 0 := rfl
  have z1 : nativeFrameWords "java/lang/System" "arraycopy" 5 + 11 ≤ 40 := by decide +kernel
  have z2 : (st.map fun v => v.category).sum + (nativeFrameWords "java/lang/System" "arraycopy" 5 + 11) ≤ R.locals := by omega
  have z3 : 1 ≤ R.frames := by omega
  exact va_copyi hx hb (hml.trans g4.1.symm) hown (hts _ hl) (hts _ k2) (hts _ k3) (hts _ k4) hAb.1 g1 g2 g3 q0 q1 0 0 ha0 ha1 rfl rfl rfl (sp := 0) (dp := 0) (n := nn) (by decide) (by decide) hn0 (by rw [z0]; omega) (by rw [z0]; omega) (fun i _ => rfl) z3 z2 dg (fun H1 locs1 e1 e2 e3 => k H1 locs1 ls e1 e2 e3 g4)
end VVS
end
section
theorem vv_t1 {w : Cond} (h : w ∈ tables_1_1) (g : goodWord w = true) : w ∈ vv_gw := vv_gw_of (List.mem_append_right _ (List.mem_append_left _ h)) g
theorem vv_t2 {w : Cond} (h : w ∈ tables_1_2) (g : goodWord w = true) : w ∈ vv_gw := vv_gw_of (List.mem_append_right _ (List.mem_append_right _ (List.mem_append_left _ h))) g
theorem vv_t3 {w : Cond} (h : w ∈ tables_1_3) (g : goodWord w = true) : w ∈ vv_gw := vv_gw_of (List.mem_append_right _ (List.mem_append_right _ (List.mem_append_right _ (List.mem_append_left _ h)))) g
theorem vv_t4 {w : Cond} (h : w ∈ tables_1_4) (g : goodWord w = true) : w ∈ vv_gw := vv_gw_of (List.mem_append_right _ (List.mem_append_right _ (List.mem_append_right _ (List.mem_append_right _ (List.mem_append_left _ h))))) g
theorem vv_t5 {w : Cond} (h : w ∈ tables_1_5) (g : goodWord w = true) : w ∈ vv_gw := vv_gw_of (List.mem_append_right _ (List.mem_append_right _ (List.mem_append_right _ (List.mem_append_right _ (List.mem_append_right _ (h)))))) g
theorem vv_sel {q : MethodName × Nat} (h : q ∈ lw_privs) : Cond.selects q.1.cls q.1 q.1 ∈ vv_gw := vv_gw_of (List.mem_append_left _ (List.mem_map.mpr ⟨q, h, rfl⟩)) rfl
theorem vv_inX0a : ∀ w ∈ u_ws RX0 TX0 2, w ∈ lw_tbl := by decide +kernel
theorem vv_inX0 : ∀ w ∈ u_ws RX0 TX0 2, w ∈ vv_gw := fun w h => vv_gw_of (vv_inX0a w h) (List.all_eq_true.mp (show (u_ws RX0 TX0 2).all goodWord = true by decide +kernel) w h)
theorem vv_inX2a : ∀ w ∈ u_ws RX2 TX2 12, w ∈ lw_tbl := by decide +kernel
theorem vv_inX2 : ∀ w ∈ u_ws RX2 TX2 12, w ∈ vv_gw := fun w h => vv_gw_of (vv_inX2a w h) (List.all_eq_true.mp (show (u_ws RX2 TX2 12).all goodWord = true by decide +kernel) w h)
theorem vv_inX3a : ∀ w ∈ u_ws RX3 TX3 3, w ∈ lw_tbl := by decide +kernel
theorem vv_inX3 : ∀ w ∈ u_ws RX3 TX3 3, w ∈ vv_gw := fun w h => vv_gw_of (vv_inX3a w h) (List.all_eq_true.mp (show (u_ws RX3 TX3 3).all goodWord = true by decide +kernel) w h)
theorem vv_inX4a : ∀ w ∈ u_ws RX4 TX4 5, w ∈ lw_tbl := by decide +kernel
theorem vv_inX4 : ∀ w ∈ u_ws RX4 TX4 5, w ∈ vv_gw := fun w h => vv_gw_of (vv_inX4a w h) (List.all_eq_true.mp (show (u_ws RX4 TX4 5).all goodWord = true by decide +kernel) w h)
theorem vv_inX5a : ∀ w ∈ u_ws RX5 TX5 6, w ∈ lw_tbl := by decide +kernel
theorem vv_inX5 : ∀ w ∈ u_ws RX5 TX5 6, w ∈ vv_gw := fun w h => vv_gw_of (vv_inX5a w h) (List.all_eq_true.mp (show (u_ws RX5 TX5 6).all goodWord = true by decide +kernel) w h)
theorem vv_inX6a : ∀ w ∈ u_ws RX6 TX6 2, w ∈ lw_tbl := by decide +kernel
theorem vv_inX6 : ∀ w ∈ u_ws RX6 TX6 2, w ∈ vv_gw := fun w h => vv_gw_of (vv_inX6a w h) (List.all_eq_true.mp (show (u_ws RX6 TX6 2).all goodWord = true by decide +kernel) w h)
theorem vv_inX7a : ∀ w ∈ u_ws RX7 TX7 15, w ∈ lw_tbl := by decide +kernel
theorem vv_inX7 : ∀ w ∈ u_ws RX7 TX7 15, w ∈ vv_gw := fun w h => vv_gw_of (vv_inX7a w h) (List.all_eq_true.mp (show (u_ws RX7 TX7 15).all goodWord = true by decide +kernel) w h)
theorem vv_inX8a : ∀ w ∈ u_ws RX8 TX8 18, w ∈ lw_tbl := by decide +kernel
theorem vv_inX8 : ∀ w ∈ u_ws RX8 TX8 18, w ∈ vv_gw := fun w h => vv_gw_of (vv_inX8a w h) (List.all_eq_true.mp (show (u_ws RX8 TX8 18).all goodWord = true by decide +kernel) w h)
theorem fl_X7_10 : vv_fl RX7 10 6 0 (.object "StringToll$Province") true := ⟨RX7, TX7, 15, tyX7, rfl, by decide, vv_inX7, tyX7_ok, nmX7, by decide +kernel, rfl, Or.inl (vv_t1 (List.mem_of_getElem? (i := 187) rfl) rfl)⟩
theorem fl_X7_16 : vv_fl RX7 16 6 1 (.object "StringToll$Province") true := ⟨RX7, TX7, 15, tyX7, rfl, by decide, vv_inX7, tyX7_ok, nmX7, by decide +kernel, rfl, Or.inl (vv_t1 (List.mem_of_getElem? (i := 188) rfl) rfl)⟩
theorem fl_X7_19 : vv_fl RX7 19 6 2 (.object "StringToll$Province") false := ⟨RX7, TX7, 15, tyX7, rfl, by decide, vv_inX7, tyX7_ok, nmX7, by decide +kernel, rfl, Or.inl (vv_t1 (List.mem_of_getElem? (i := 189) rfl) rfl)⟩
theorem fl_X7_22 : vv_fl RX7 22 6 3 (.object "StringToll$Province") false := ⟨RX7, TX7, 15, tyX7, rfl, by decide, vv_inX7, tyX7_ok, nmX7, by decide +kernel, rfl, Or.inl (vv_t1 (List.mem_of_getElem? (i := 190) rfl) rfl)⟩
theorem fl_X7_28 : vv_fl RX7 28 6 6 (.object "StringToll$Text") false := ⟨RX7, TX7, 15, tyX7, rfl, by decide, vv_inX7, tyX7_ok, nmX7, by decide +kernel, rfl, Or.inl (vv_t1 (List.mem_of_getElem? (i := 193) rfl) rfl)⟩
theorem fl_X7_35 : vv_fl RX7 35 6 7 (.object "StringToll$RowSearch") false := ⟨RX7, TX7, 15, tyX7, rfl, by decide, vv_inX7, tyX7_ok, nmX7, by decide +kernel, rfl, Or.inl (vv_t1 (List.mem_of_getElem? (i := 194) rfl) rfl)⟩
theorem fl_X7_42 : vv_fl RX7 42 6 8 (.object "StringToll$Guess") false := ⟨RX7, TX7, 15, tyX7, rfl, by decide, vv_inX7, tyX7_ok, nmX7, by decide +kernel, rfl, Or.inl (vv_t1 (List.mem_of_getElem? (i := 195) rfl) rfl)⟩
theorem fl_X7_49 : vv_fl RX7 49 6 9 (.object "StringToll$TwoEnds") false := ⟨RX7, TX7, 15, tyX7, rfl, by decide, vv_inX7, tyX7_ok, nmX7, by decide +kernel, rfl, Or.inl (vv_t1 (List.mem_of_getElem? (i := 196) rfl) rfl)⟩
theorem fl_X7_53 : vv_fl RX7 53 6 10 .long true := ⟨RX7, TX7, 15, tyX7, rfl, by decide, vv_inX7, tyX7_ok, nmX7, by decide +kernel, rfl, Or.inl (vv_t1 (List.mem_of_getElem? (i := 197) rfl) rfl)⟩
theorem fl_X7_57 : vv_fl RX7 57 6 11 .long true := ⟨RX7, TX7, 15, tyX7, rfl, by decide, vv_inX7, tyX7_ok, nmX7, by decide +kernel, rfl, Or.inl (vv_t1 (List.mem_of_getElem? (i := 198) rfl) rfl)⟩
theorem fl_X7_68 : vv_fl RX7 68 1 7 (.object "StringToll$Records") false := ⟨RX2, TX2, 12, tyX2, rfl, by decide, vv_inX2, tyX2_ok, nmX2, by decide +kernel, rfl, Or.inr ⟨"StringToll", List.mem_of_getElem? (i := 14) rfl⟩⟩
theorem fl_X7_72 : vv_fl RX7 72 2 2 .int true := ⟨RX3, TX3, 3, tyX3, rfl, by decide, vv_inX3, tyX3_ok, nmX3, by decide +kernel, rfl, Or.inr ⟨"StringToll", List.mem_of_getElem? (i := 2) rfl⟩⟩
theorem fl_X7_95 : vv_fl RX7 95 1 11 (.object "StringToll$Records") false := ⟨RX2, TX2, 12, tyX2, rfl, by decide, vv_inX2, tyX2_ok, nmX2, by decide +kernel, rfl, Or.inr ⟨"StringToll", List.mem_of_getElem? (i := 23) rfl⟩⟩
theorem fl_X7_114 : vv_fl RX7 114 4 1 .int true := ⟨RX5, TX5, 6, tyX5, rfl, by decide, vv_inX5, tyX5_ok, nmX5, by decide +kernel, rfl, Or.inr ⟨"StringToll", List.mem_of_getElem? (i := 25) rfl⟩⟩
theorem fl_X7_124 : vv_fl RX7 124 1 6 .int true := ⟨RX2, TX2, 12, tyX2, rfl, by decide, vv_inX2, tyX2_ok, nmX2, by decide +kernel, rfl, Or.inr ⟨"StringToll", List.mem_of_getElem? (i := 12) rfl⟩⟩
theorem fl_X7_131 : vv_fl RX7 131 1 3 .int true := ⟨RX2, TX2, 12, tyX2, rfl, by decide, vv_inX2, tyX2_ok, nmX2, by decide +kernel, rfl, Or.inr ⟨"StringToll", List.mem_of_getElem? (i := 10) rfl⟩⟩
theorem fl_X7_173 : vv_fl RX7 173 3 4 .int true := ⟨RX4, TX4, 5, tyX4, rfl, by decide, vv_inX4, tyX4_ok, nmX4, by decide +kernel, rfl, Or.inr ⟨"StringToll", List.mem_of_getElem? (i := 28) rfl⟩⟩
theorem fl_X7_176 : vv_fl RX7 176 3 3 .int true := ⟨RX4, TX4, 5, tyX4, rfl, by decide, vv_inX4, tyX4_ok, nmX4, by decide +kernel, rfl, Or.inr ⟨"StringToll", List.mem_of_getElem? (i := 27) rfl⟩⟩
theorem fl_X7_185 : vv_fl RX7 185 1 8 (.object "StringToll$Records") false := ⟨RX2, TX2, 12, tyX2, rfl, by decide, vv_inX2, tyX2_ok, nmX2, by decide +kernel, rfl, Or.inr ⟨"StringToll", List.mem_of_getElem? (i := 18) rfl⟩⟩
theorem fl_X7_204 : vv_fl RX7 204 1 9 (.object "StringToll$Records") false := ⟨RX2, TX2, 12, tyX2, rfl, by decide, vv_inX2, tyX2_ok, nmX2, by decide +kernel, rfl, Or.inr ⟨"StringToll", List.mem_of_getElem? (i := 20) rfl⟩⟩
theorem fl_X7_207 : vv_fl RX7 207 1 10 (.object "StringToll$Records") false := ⟨RX2, TX2, 12, tyX2, rfl, by decide, vv_inX2, tyX2_ok, nmX2, by decide +kernel, rfl, Or.inr ⟨"StringToll", List.mem_of_getElem? (i := 22) rfl⟩⟩
theorem fl_X7_232 : vv_fl RX7 232 1 0 .int true := ⟨RX2, TX2, 12, tyX2, rfl, by decide, vv_inX2, tyX2_ok, nmX2, by decide +kernel, rfl, Or.inr ⟨"StringToll", List.mem_of_getElem? (i := 7) rfl⟩⟩
theorem fl_X7_255 : vv_fl RX7 255 6 4 .boolean true := ⟨RX7, TX7, 15, tyX7, rfl, by decide, vv_inX7, tyX7_ok, nmX7, by decide +kernel, rfl, Or.inl (vv_t1 (List.mem_of_getElem? (i := 191) rfl) rfl)⟩
theorem fl_X7_259 : vv_fl RX7 259 6 5 .boolean true := ⟨RX7, TX7, 15, tyX7, rfl, by decide, vv_inX7, tyX7_ok, nmX7, by decide +kernel, rfl, Or.inl (vv_t1 (List.mem_of_getElem? (i := 192) rfl) rfl)⟩
theorem fl_X7_262 : vv_fl RX7 262 6 12 .int true := ⟨RX7, TX7, 15, tyX7, rfl, by decide, vv_inX7, tyX7_ok, nmX7, by decide +kernel, rfl, Or.inl (vv_t1 (List.mem_of_getElem? (i := 199) rfl) rfl)⟩
theorem fl_X7_265 : vv_fl RX7 265 6 13 .int true := ⟨RX7, TX7, 15, tyX7, rfl, by decide, vv_inX7, tyX7_ok, nmX7, by decide +kernel, rfl, Or.inl (vv_t1 (List.mem_of_getElem? (i := 200) rfl) rfl)⟩
theorem fl_X7_268 : vv_fl RX7 268 6 14 .int true := ⟨RX7, TX7, 15, tyX7, rfl, by decide, vv_inX7, tyX7_ok, nmX7, by decide +kernel, rfl, Or.inl (vv_t1 (List.mem_of_getElem? (i := 201) rfl) rfl)⟩
theorem fl_X0_11 : vv_fl RX0 11 0 0 (.array .int) false := ⟨RX0, TX0, 2, tyX0, rfl, by decide, vv_inX0, tyX0_ok, nmX0, by decide +kernel, rfl, Or.inl (vv_t1 (List.mem_of_getElem? (i := 167) rfl) rfl)⟩
theorem fl_X0_39 : vv_fl RX0 39 0 1 .int true := ⟨RX0, TX0, 2, tyX0, rfl, by decide, vv_inX0, tyX0_ok, nmX0, by decide +kernel, rfl, Or.inl (vv_t1 (List.mem_of_getElem? (i := 168) rfl) rfl)⟩
theorem fl_X0_70 : vv_fl RX0 70 1 8 (.object "StringToll$Records") false := ⟨RX2, TX2, 12, tyX2, rfl, by decide, vv_inX2, tyX2_ok, nmX2, by decide +kernel, rfl, Or.inr ⟨"StringToll", List.mem_of_getElem? (i := 17) rfl⟩⟩
theorem fl_X0_74 : vv_fl RX0 74 2 2 .int true := ⟨RX3, TX3, 3, tyX3, rfl, by decide, vv_inX3, tyX3_ok, nmX3, by decide +kernel, rfl, Or.inr ⟨"StringToll", List.mem_of_getElem? (i := 6) rfl⟩⟩
theorem fl_X0_85 : vv_fl RX0 85 1 9 (.object "StringToll$Records") false := ⟨RX2, TX2, 12, tyX2, rfl, by decide, vv_inX2, tyX2_ok, nmX2, by decide +kernel, rfl, Or.inr ⟨"StringToll", List.mem_of_getElem? (i := 19) rfl⟩⟩
theorem fl_X0_88 : vv_fl RX0 88 1 10 (.object "StringToll$Records") false := ⟨RX2, TX2, 12, tyX2, rfl, by decide, vv_inX2, tyX2_ok, nmX2, by decide +kernel, rfl, Or.inr ⟨"StringToll", List.mem_of_getElem? (i := 21) rfl⟩⟩
theorem fl_X2_9 : vv_fl RX2 9 1 0 .int true := ⟨RX2, TX2, 12, tyX2, rfl, by decide, vv_inX2, tyX2_ok, nmX2, by decide +kernel, rfl, Or.inl (vv_t1 (List.mem_of_getElem? (i := 56) rfl) rfl)⟩
theorem fl_X2_15 : vv_fl RX2 15 1 3 .int true := ⟨RX2, TX2, 12, tyX2, rfl, by decide, vv_inX2, tyX2_ok, nmX2, by decide +kernel, rfl, Or.inl (vv_t1 (List.mem_of_getElem? (i := 60) rfl) rfl)⟩
theorem fl_X2_23 : vv_fl RX2 23 1 7 (.object "StringToll$Records") false := ⟨RX2, TX2, 12, tyX2, rfl, by decide, vv_inX2, tyX2_ok, nmX2, by decide +kernel, rfl, Or.inl (vv_t1 (List.mem_of_getElem? (i := 69) rfl) rfl)⟩
theorem fl_X2_27 : vv_fl RX2 27 1 8 (.object "StringToll$Records") false := ⟨RX2, TX2, 12, tyX2, rfl, by decide, vv_inX2, tyX2_ok, nmX2, by decide +kernel, rfl, Or.inl (vv_t1 (List.mem_of_getElem? (i := 74) rfl) rfl)⟩
theorem fl_X2_30 : vv_fl RX2 30 1 9 (.object "StringToll$Records") false := ⟨RX2, TX2, 12, tyX2, rfl, by decide, vv_inX2, tyX2_ok, nmX2, by decide +kernel, rfl, Or.inl (vv_t1 (List.mem_of_getElem? (i := 77) rfl) rfl)⟩
theorem fl_X2_33 : vv_fl RX2 33 1 10 (.object "StringToll$Records") false := ⟨RX2, TX2, 12, tyX2, rfl, by decide, vv_inX2, tyX2_ok, nmX2, by decide +kernel, rfl, Or.inl (vv_t1 (List.mem_of_getElem? (i := 80) rfl) rfl)⟩
theorem fl_X2_36 : vv_fl RX2 36 1 11 (.object "StringToll$Records") false := ⟨RX2, TX2, 12, tyX2, rfl, by decide, vv_inX2, tyX2_ok, nmX2, by decide +kernel, rfl, Or.inl (vv_t1 (List.mem_of_getElem? (i := 83) rfl) rfl)⟩
theorem fl_X2_39 : vv_fl RX2 39 1 1 .int true := ⟨RX2, TX2, 12, tyX2, rfl, by decide, vv_inX2, tyX2_ok, nmX2, by decide +kernel, rfl, Or.inl (vv_t1 (List.mem_of_getElem? (i := 58) rfl) rfl)⟩
theorem fl_X2_42 : vv_fl RX2 42 1 2 .int true := ⟨RX2, TX2, 12, tyX2, rfl, by decide, vv_inX2, tyX2_ok, nmX2, by decide +kernel, rfl, Or.inl (vv_t1 (List.mem_of_getElem? (i := 59) rfl) rfl)⟩
theorem fl_X2_45 : vv_fl RX2 45 1 4 .int true := ⟨RX2, TX2, 12, tyX2, rfl, by decide, vv_inX2, tyX2_ok, nmX2, by decide +kernel, rfl, Or.inl (vv_t1 (List.mem_of_getElem? (i := 64) rfl) rfl)⟩
theorem fl_X2_48 : vv_fl RX2 48 1 5 .int true := ⟨RX2, TX2, 12, tyX2, rfl, by decide, vv_inX2, tyX2_ok, nmX2, by decide +kernel, rfl, Or.inl (vv_t1 (List.mem_of_getElem? (i := 65) rfl) rfl)⟩
theorem fl_X2_51 : vv_fl RX2 51 1 6 .int true := ⟨RX2, TX2, 12, tyX2, rfl, by decide, vv_inX2, tyX2_ok, nmX2, by decide +kernel, rfl, Or.inl (vv_t1 (List.mem_of_getElem? (i := 66) rfl) rfl)⟩
theorem fl_X2_61 : vv_fl RX2 61 2 2 .int true := ⟨RX3, TX3, 3, tyX3, rfl, by decide, vv_inX3, tyX3_ok, nmX3, by decide +kernel, rfl, Or.inr ⟨"StringToll", List.mem_of_getElem? (i := 5) rfl⟩⟩
theorem fl_X3_9 : vv_fl RX3 9 2 0 (.array .int) false := ⟨RX3, TX3, 3, tyX3, rfl, by decide, vv_inX3, tyX3_ok, nmX3, by decide +kernel, rfl, Or.inl (vv_t1 (List.mem_of_getElem? (i := 39) rfl) rfl)⟩
theorem fl_X3_19 : vv_fl RX3 19 2 1 .int false := ⟨RX3, TX3, 3, tyX3, rfl, by decide, vv_inX3, tyX3_ok, nmX3, by decide +kernel, rfl, Or.inl (vv_t1 (List.mem_of_getElem? (i := 40) rfl) rfl)⟩
theorem fl_X3_23 : vv_fl RX3 23 2 2 .int true := ⟨RX3, TX3, 3, tyX3, rfl, by decide, vv_inX3, tyX3_ok, nmX3, by decide +kernel, rfl, Or.inl (vv_t1 (List.mem_of_getElem? (i := 41) rfl) rfl)⟩
theorem fl_X4_9 : vv_fl RX4 9 3 0 (.array .int) false := ⟨RX4, TX4, 5, tyX4, rfl, by decide, vv_inX4, tyX4_ok, nmX4, by decide +kernel, rfl, Or.inl (vv_t1 (List.mem_of_getElem? (i := 143) rfl) rfl)⟩
theorem fl_X4_15 : vv_fl RX4 15 3 1 (.array .int) false := ⟨RX4, TX4, 5, tyX4, rfl, by decide, vv_inX4, tyX4_ok, nmX4, by decide +kernel, rfl, Or.inl (vv_t1 (List.mem_of_getElem? (i := 144) rfl) rfl)⟩
theorem fl_X4_18 : vv_fl RX4 18 3 2 (.array .int) false := ⟨RX4, TX4, 5, tyX4, rfl, by decide, vv_inX4, tyX4_ok, nmX4, by decide +kernel, rfl, Or.inl (vv_t1 (List.mem_of_getElem? (i := 145) rfl) rfl)⟩
theorem fl_X4_21 : vv_fl RX4 21 1 7 (.object "StringToll$Records") false := ⟨RX2, TX2, 12, tyX2, rfl, by decide, vv_inX2, tyX2_ok, nmX2, by decide +kernel, rfl, Or.inr ⟨"StringToll", List.mem_of_getElem? (i := 13) rfl⟩⟩
theorem fl_X4_27 : vv_fl RX4 27 2 2 .int true := ⟨RX3, TX3, 3, tyX3, rfl, by decide, vv_inX3, tyX3_ok, nmX3, by decide +kernel, rfl, Or.inr ⟨"StringToll", List.mem_of_getElem? (i := 1) rfl⟩⟩
theorem fl_X4_37 : vv_fl RX4 37 3 3 .int true := ⟨RX4, TX4, 5, tyX4, rfl, by decide, vv_inX4, tyX4_ok, nmX4, by decide +kernel, rfl, Or.inl (vv_t1 (List.mem_of_getElem? (i := 146) rfl) rfl)⟩
theorem fl_X4_40 : vv_fl RX4 40 3 4 .int true := ⟨RX4, TX4, 5, tyX4, rfl, by decide, vv_inX4, tyX4_ok, nmX4, by decide +kernel, rfl, Or.inl (vv_t1 (List.mem_of_getElem? (i := 148) rfl) rfl)⟩
theorem fl_X4_43 : vv_fl RX4 43 1 3 .int true := ⟨RX2, TX2, 12, tyX2, rfl, by decide, vv_inX2, tyX2_ok, nmX2, by decide +kernel, rfl, Or.inr ⟨"StringToll", List.mem_of_getElem? (i := 8) rfl⟩⟩
theorem fl_X5_11 : vv_fl RX5 11 4 0 (.array .byte) false := ⟨RX5, TX5, 6, tyX5, rfl, by decide, vv_inX5, tyX5_ok, nmX5, by decide +kernel, rfl, Or.inl (vv_t1 (List.mem_of_getElem? (i := 116) rfl) rfl)⟩
theorem fl_X5_15 : vv_fl RX5 15 4 1 .int true := ⟨RX5, TX5, 6, tyX5, rfl, by decide, vv_inX5, tyX5_ok, nmX5, by decide +kernel, rfl, Or.inl (vv_t1 (List.mem_of_getElem? (i := 117) rfl) rfl)⟩
theorem fl_X5_23 : vv_fl RX5 23 4 3 .int true := ⟨RX5, TX5, 6, tyX5, rfl, by decide, vv_inX5, tyX5_ok, nmX5, by decide +kernel, rfl, Or.inl (vv_t1 (List.mem_of_getElem? (i := 120) rfl) rfl)⟩
theorem fl_X5_30 : vv_fl RX5 30 4 2 .int true := ⟨RX5, TX5, 6, tyX5, rfl, by decide, vv_inX5, tyX5_ok, nmX5, by decide +kernel, rfl, Or.inl (vv_t1 (List.mem_of_getElem? (i := 119) rfl) rfl)⟩
theorem fl_X5_36 : vv_fl RX5 36 4 4 .int true := ⟨RX5, TX5, 6, tyX5, rfl, by decide, vv_inX5, tyX5_ok, nmX5, by decide +kernel, rfl, Or.inl (vv_t1 (List.mem_of_getElem? (i := 121) rfl) rfl)⟩
theorem fl_X5_56 : vv_fl RX5 56 4 5 .int true := ⟨RX5, TX5, 6, tyX5, rfl, by decide, vv_inX5, tyX5_ok, nmX5, by decide +kernel, rfl, Or.inl (vv_t1 (List.mem_of_getElem? (i := 122) rfl) rfl)⟩
theorem fl_X5_71 : vv_fl RX5 71 1 7 (.object "StringToll$Records") false := ⟨RX2, TX2, 12, tyX2, rfl, by decide, vv_inX2, tyX2_ok, nmX2, by decide +kernel, rfl, Or.inr ⟨"StringToll", List.mem_of_getElem? (i := 16) rfl⟩⟩
theorem fl_X5_90 : vv_fl RX5 90 2 2 .int true := ⟨RX3, TX3, 3, tyX3, rfl, by decide, vv_inX3, tyX3_ok, nmX3, by decide +kernel, rfl, Or.inr ⟨"StringToll", List.mem_of_getElem? (i := 4) rfl⟩⟩
theorem fl_X5_111 : vv_fl RX5 111 1 3 .int true := ⟨RX2, TX2, 12, tyX2, rfl, by decide, vv_inX2, tyX2_ok, nmX2, by decide +kernel, rfl, Or.inr ⟨"StringToll", List.mem_of_getElem? (i := 9) rfl⟩⟩
theorem fl_X6_11 : vv_fl RX6 11 5 0 (.array .int) false := ⟨RX6, TX6, 2, tyX6, rfl, by decide, vv_inX6, tyX6_ok, nmX6, by decide +kernel, rfl, Or.inl (vv_t1 (List.mem_of_getElem? (i := 180) rfl) rfl)⟩
theorem fl_X6_17 : vv_fl RX6 17 5 1 (.array .int) false := ⟨RX6, TX6, 2, tyX6, rfl, by decide, vv_inX6, tyX6_ok, nmX6, by decide +kernel, rfl, Or.inl (vv_t1 (List.mem_of_getElem? (i := 181) rfl) rfl)⟩
theorem fl_X6_28 : vv_fl RX6 28 1 6 .int true := ⟨RX2, TX2, 12, tyX2, rfl, by decide, vv_inX2, tyX2_ok, nmX2, by decide +kernel, rfl, Or.inr ⟨"StringToll", List.mem_of_getElem? (i := 11) rfl⟩⟩
theorem fl_X6_34 : vv_fl RX6 34 1 7 (.object "StringToll$Records") false := ⟨RX2, TX2, 12, tyX2, rfl, by decide, vv_inX2, tyX2_ok, nmX2, by decide +kernel, rfl, Or.inr ⟨"StringToll", List.mem_of_getElem? (i := 15) rfl⟩⟩
theorem fl_X6_38 : vv_fl RX6 38 2 2 .int true := ⟨RX3, TX3, 3, tyX3, rfl, by decide, vv_inX3, tyX3_ok, nmX3, by decide +kernel, rfl, Or.inr ⟨"StringToll", List.mem_of_getElem? (i := 3) rfl⟩⟩
theorem fl_X8_7 : vv_fl RX8 7 7 0 (.array .int) false := ⟨RX8, TX8, 18, tyX8, rfl, by decide, vv_inX8, tyX8_ok, nmX8, by decide +kernel, rfl, Or.inl (vv_t4 (List.mem_of_getElem? (i := 58) rfl) rfl)⟩
theorem fl_X8_13 : vv_fl RX8 13 7 1 (.array .boolean) false := ⟨RX8, TX8, 18, tyX8, rfl, by decide, vv_inX8, tyX8_ok, nmX8, by decide +kernel, rfl, Or.inl (vv_t4 (List.mem_of_getElem? (i := 59) rfl) rfl)⟩
theorem fl_X8_17 : vv_fl RX8 17 7 2 (.array .int) false := ⟨RX8, TX8, 18, tyX8, rfl, by decide, vv_inX8, tyX8_ok, nmX8, by decide +kernel, rfl, Or.inl (vv_t4 (List.mem_of_getElem? (i := 60) rfl) rfl)⟩
theorem fl_X8_20 : vv_fl RX8 20 7 4 .long true := ⟨RX8, TX8, 18, tyX8, rfl, by decide, vv_inX8, tyX8_ok, nmX8, by decide +kernel, rfl, Or.inl (vv_t4 (List.mem_of_getElem? (i := 62) rfl) rfl)⟩
theorem fl_X8_24 : vv_fl RX8 24 7 5 .long true := ⟨RX8, TX8, 18, tyX8, rfl, by decide, vv_inX8, tyX8_ok, nmX8, by decide +kernel, rfl, Or.inl (vv_t4 (List.mem_of_getElem? (i := 63) rfl) rfl)⟩
theorem fl_X8_27 : vv_fl RX8 27 7 6 (.array .int) false := ⟨RX8, TX8, 18, tyX8, rfl, by decide, vv_inX8, tyX8_ok, nmX8, by decide +kernel, rfl, Or.inl (vv_t4 (List.mem_of_getElem? (i := 64) rfl) rfl)⟩
theorem fl_X8_30 : vv_fl RX8 30 7 10 (.array .int) false := ⟨RX8, TX8, 18, tyX8, rfl, by decide, vv_inX8, tyX8_ok, nmX8, by decide +kernel, rfl, Or.inl (vv_t4 (List.mem_of_getElem? (i := 68) rfl) rfl)⟩
theorem fl_X8_33 : vv_fl RX8 33 7 11 (.array .int) false := ⟨RX8, TX8, 18, tyX8, rfl, by decide, vv_inX8, tyX8_ok, nmX8, by decide +kernel, rfl, Or.inl (vv_t4 (List.mem_of_getElem? (i := 69) rfl) rfl)⟩
theorem fl_X8_36 : vv_fl RX8 36 7 12 (.array .int) false := ⟨RX8, TX8, 18, tyX8, rfl, by decide, vv_inX8, tyX8_ok, nmX8, by decide +kernel, rfl, Or.inl (vv_t4 (List.mem_of_getElem? (i := 70) rfl) rfl)⟩
theorem fl_X8_39 : vv_fl RX8 39 7 13 (.array .int) false := ⟨RX8, TX8, 18, tyX8, rfl, by decide, vv_inX8, tyX8_ok, nmX8, by decide +kernel, rfl, Or.inl (vv_t4 (List.mem_of_getElem? (i := 71) rfl) rfl)⟩
theorem fl_X8_42 : vv_fl RX8 42 7 15 (.array .int) false := ⟨RX8, TX8, 18, tyX8, rfl, by decide, vv_inX8, tyX8_ok, nmX8, by decide +kernel, rfl, Or.inl (vv_t4 (List.mem_of_getElem? (i := 73) rfl) rfl)⟩
theorem fl_X8_45 : vv_fl RX8 45 7 16 (.array .int) false := ⟨RX8, TX8, 18, tyX8, rfl, by decide, vv_inX8, tyX8_ok, nmX8, by decide +kernel, rfl, Or.inl (vv_t4 (List.mem_of_getElem? (i := 74) rfl) rfl)⟩
theorem fl_X8_48 : vv_fl RX8 48 7 3 .int true := ⟨RX8, TX8, 18, tyX8, rfl, by decide, vv_inX8, tyX8_ok, nmX8, by decide +kernel, rfl, Or.inl (vv_t4 (List.mem_of_getElem? (i := 61) rfl) rfl)⟩
theorem fl_X8_96 : vv_fl RX8 96 7 7 .int true := ⟨RX8, TX8, 18, tyX8, rfl, by decide, vv_inX8, tyX8_ok, nmX8, by decide +kernel, rfl, Or.inl (vv_t4 (List.mem_of_getElem? (i := 65) rfl) rfl)⟩
theorem fl_X8_102 : vv_fl RX8 102 7 8 .int true := ⟨RX8, TX8, 18, tyX8, rfl, by decide, vv_inX8, tyX8_ok, nmX8, by decide +kernel, rfl, Or.inl (vv_t4 (List.mem_of_getElem? (i := 66) rfl) rfl)⟩
theorem fl_X8_124 : vv_fl RX8 124 7 9 .int true := ⟨RX8, TX8, 18, tyX8, rfl, by decide, vv_inX8, tyX8_ok, nmX8, by decide +kernel, rfl, Or.inl (vv_t4 (List.mem_of_getElem? (i := 67) rfl) rfl)⟩
theorem fl_X8_216 : vv_fl RX8 216 7 14 .int true := ⟨RX8, TX8, 18, tyX8, rfl, by decide, vv_inX8, tyX8_ok, nmX8, by decide +kernel, rfl, Or.inl (vv_t4 (List.mem_of_getElem? (i := 72) rfl) rfl)⟩
theorem fl_X8_264 : vv_fl RX8 264 7 17 .long true := ⟨RX8, TX8, 18, tyX8, rfl, by decide, vv_inX8, tyX8_ok, nmX8, by decide +kernel, rfl, Or.inl (vv_t4 (List.mem_of_getElem? (i := 75) rfl) rfl)⟩
theorem ms_X7_60 : vv_ms RX7 60 yX7_within cX7_within 3 (some .boolean) 3 := ⟨Or.inl (vv_t1 (List.mem_of_getElem? (i := 237) rfl) rfl), vv_t1 (List.mem_of_getElem? (i := 238) rfl) rfl, vv_t1 (List.mem_of_getElem? (i := 1) rfl) rfl, vv_t1 (List.mem_of_getElem? (i := 239) rfl) rfl, ⟨by decide, by decide, by decide +kernel⟩, by decide⟩
theorem mv_X7_64 : vv_mv RX7 64 6 yX7_refuseBad cX7_refuseBad 1 (some .int) 0 := ⟨TX7, 15, rfl, Or.inl (vv_t2 (List.mem_of_getElem? (i := 0) rfl) rfl), vv_t2 (List.mem_of_getElem? (i := 2) rfl) rfl, vv_sel (q := (⟨"StringToll", "refuseBad", "()I"⟩, 15)) (List.mem_append_left _ (List.mem_of_getElem? (l := lw_privs_1) (i := 0) rfl)), vv_t1 (List.mem_of_getElem? (i := 1) rfl) rfl, vv_t2 (List.mem_of_getElem? (i := 3) rfl) rfl, ⟨by decide, by decide, by decide +kernel⟩, by decide⟩
theorem mv_X7_78 : vv_mv RX7 78 1 yX2_start cX2_start 3 none 2 := ⟨TX2, 12, rfl, Or.inl (vv_t2 (List.mem_of_getElem? (i := 4) rfl) rfl), vv_t2 (List.mem_of_getElem? (i := 5) rfl) rfl, vv_t2 (List.mem_of_getElem? (i := 6) rfl) rfl, vv_t1 (List.mem_of_getElem? (i := 2) rfl) rfl, vv_t2 (List.mem_of_getElem? (i := 7) rfl) rfl, ⟨by decide, by decide, by decide +kernel⟩, by decide⟩
theorem ms_X7_82 : vv_ms RX7 82 yX1_known cX1_known 1 (some .boolean) 1 := ⟨Or.inl (vv_t2 (List.mem_of_getElem? (i := 16) rfl) rfl), vv_t2 (List.mem_of_getElem? (i := 17) rfl) rfl, vv_t1 (List.mem_of_getElem? (i := 10) rfl) rfl, vv_t2 (List.mem_of_getElem? (i := 18) rfl) rfl, ⟨by decide, by decide, by decide +kernel⟩, by decide⟩
theorem mv_X7_88 : vv_mv RX7 88 1 yX2_houseKind cX2_houseKind 2 (some .int) 1 := ⟨TX2, 12, rfl, Or.inl (vv_t2 (List.mem_of_getElem? (i := 20) rfl) rfl), vv_t2 (List.mem_of_getElem? (i := 21) rfl) rfl, vv_t2 (List.mem_of_getElem? (i := 22) rfl) rfl, vv_t1 (List.mem_of_getElem? (i := 2) rfl) rfl, vv_t2 (List.mem_of_getElem? (i := 23) rfl) rfl, ⟨by decide, by decide, by decide +kernel⟩, by decide⟩
theorem mv_X7_92 : vv_mv RX7 92 1 yX2_setHouse cX2_setHouse 3 none 2 := ⟨TX2, 12, rfl, Or.inl (vv_t2 (List.mem_of_getElem? (i := 24) rfl) rfl), vv_t2 (List.mem_of_getElem? (i := 25) rfl) rfl, vv_t2 (List.mem_of_getElem? (i := 26) rfl) rfl, vv_t1 (List.mem_of_getElem? (i := 2) rfl) rfl, vv_t2 (List.mem_of_getElem? (i := 27) rfl) rfl, ⟨by decide, by decide, by decide +kernel⟩, by decide⟩
theorem mv_X7_98 : vv_mv RX7 98 2 yX3_wipe cX3_wipe 1 none 0 := ⟨TX3, 3, rfl, Or.inl (vv_t2 (List.mem_of_getElem? (i := 28) rfl) rfl), vv_t2 (List.mem_of_getElem? (i := 9) rfl) rfl, vv_t2 (List.mem_of_getElem? (i := 10) rfl) rfl, vv_t1 (List.mem_of_getElem? (i := 3) rfl) rfl, vv_t2 (List.mem_of_getElem? (i := 11) rfl) rfl, ⟨by decide, by decide, by decide +kernel⟩, by decide⟩
theorem mv_X7_101 : vv_mv RX7 101 2 yX3_isFull cX3_isFull 1 (some .boolean) 0 := ⟨TX3, 3, rfl, Or.inl (vv_t2 (List.mem_of_getElem? (i := 33) rfl) rfl), vv_t2 (List.mem_of_getElem? (i := 34) rfl) rfl, vv_t2 (List.mem_of_getElem? (i := 35) rfl) rfl, vv_t1 (List.mem_of_getElem? (i := 3) rfl) rfl, vv_t2 (List.mem_of_getElem? (i := 36) rfl) rfl, ⟨by decide, by decide, by decide +kernel⟩, by decide⟩
theorem mv_X7_105 : vv_mv RX7 105 6 yX7_refuseFull cX7_refuseFull 1 (some .int) 0 := ⟨TX7, 15, rfl, Or.inl (vv_t2 (List.mem_of_getElem? (i := 37) rfl) rfl), vv_t2 (List.mem_of_getElem? (i := 39) rfl) rfl, vv_sel (q := (⟨"StringToll", "refuseFull", "()I"⟩, 15)) (List.mem_append_left _ (List.mem_of_getElem? (l := lw_privs_1) (i := 1) rfl)), vv_t1 (List.mem_of_getElem? (i := 1) rfl) rfl, vv_t2 (List.mem_of_getElem? (i := 40) rfl) rfl, ⟨by decide, by decide, by decide +kernel⟩, by decide⟩
theorem mv_X7_108 : vv_mv RX7 108 2 yX3_put cX3_put 6 none 4 := ⟨TX3, 3, rfl, Or.inl (vv_t2 (List.mem_of_getElem? (i := 41) rfl) rfl), vv_t2 (List.mem_of_getElem? (i := 42) rfl) rfl, vv_t2 (List.mem_of_getElem? (i := 43) rfl) rfl, vv_t1 (List.mem_of_getElem? (i := 3) rfl) rfl, vv_t2 (List.mem_of_getElem? (i := 44) rfl) rfl, ⟨by decide, by decide, by decide +kernel⟩, by decide⟩
theorem mv_X7_112 : vv_mv RX7 112 4 yX5_put cX5_put 2 (some .boolean) 1 := ⟨TX5, 6, rfl, Or.inl (vv_t2 (List.mem_of_getElem? (i := 50) rfl) rfl), vv_t2 (List.mem_of_getElem? (i := 51) rfl) rfl, vv_t2 (List.mem_of_getElem? (i := 52) rfl) rfl, vv_t1 (List.mem_of_getElem? (i := 5) rfl) rfl, vv_t2 (List.mem_of_getElem? (i := 53) rfl) rfl, ⟨by decide, by decide, by decide +kernel⟩, by decide⟩
theorem mv_X7_117 : vv_mv RX7 117 4 yX5_readInto cX5_readInto 3 (some .int) 1 := ⟨TX5, 6, rfl, Or.inl (vv_t2 (List.mem_of_getElem? (i := 63) rfl) rfl), vv_t2 (List.mem_of_getElem? (i := 64) rfl) rfl, vv_t2 (List.mem_of_getElem? (i := 65) rfl) rfl, vv_t1 (List.mem_of_getElem? (i := 5) rfl) rfl, vv_t2 (List.mem_of_getElem? (i := 66) rfl) rfl, ⟨by decide, by decide, by decide +kernel⟩, by decide⟩
theorem mv_X7_121 : vv_mv RX7 121 1 yX2_has cX2_has 2 (some .boolean) 1 := ⟨TX2, 12, rfl, Or.inl (vv_t2 (List.mem_of_getElem? (i := 221) rfl) rfl), vv_t2 (List.mem_of_getElem? (i := 222) rfl) rfl, vv_t2 (List.mem_of_getElem? (i := 223) rfl) rfl, vv_t1 (List.mem_of_getElem? (i := 2) rfl) rfl, vv_t2 (List.mem_of_getElem? (i := 224) rfl) rfl, ⟨by decide, by decide, by decide +kernel⟩, by decide⟩
theorem mv_X7_127 : vv_mv RX7 127 1 yX2_costIn cX2_costIn 3 (some .int) 2 := ⟨TX2, 12, rfl, Or.inl (vv_t2 (List.mem_of_getElem? (i := 226) rfl) rfl), vv_t2 (List.mem_of_getElem? (i := 227) rfl) rfl, vv_t2 (List.mem_of_getElem? (i := 228) rfl) rfl, vv_t1 (List.mem_of_getElem? (i := 2) rfl) rfl, vv_t2 (List.mem_of_getElem? (i := 229) rfl) rfl, ⟨by decide, by decide, by decide +kernel⟩, by decide⟩
theorem mv_X7_134 : vv_mv RX7 134 6 yX7_refuseNo cX7_refuseNo 1 (some .int) 0 := ⟨TX7, 15, rfl, Or.inl (vv_t2 (List.mem_of_getElem? (i := 230) rfl) rfl), vv_t2 (List.mem_of_getElem? (i := 232) rfl) rfl, vv_sel (q := (⟨"StringToll", "refuseNo", "()I"⟩, 15)) (List.mem_append_left _ (List.mem_of_getElem? (l := lw_privs_1) (i := 15) rfl)), vv_t1 (List.mem_of_getElem? (i := 1) rfl) rfl, vv_t2 (List.mem_of_getElem? (i := 233) rfl) rfl, ⟨by decide, by decide, by decide +kernel⟩, by decide⟩
theorem mv_X7_137 : vv_mv RX7 137 1 yX2_remember cX2_remember 1 none 0 := ⟨TX2, 12, rfl, Or.inl (vv_t2 (List.mem_of_getElem? (i := 234) rfl) rfl), vv_t2 (List.mem_of_getElem? (i := 235) rfl) rfl, vv_t2 (List.mem_of_getElem? (i := 236) rfl) rfl, vv_t1 (List.mem_of_getElem? (i := 2) rfl) rfl, vv_t2 (List.mem_of_getElem? (i := 237) rfl) rfl, ⟨by decide, by decide, by decide +kernel⟩, by decide⟩
theorem mv_X7_140 : vv_mv RX7 140 1 yX2_sendString cX2_sendString 4 (some .boolean) 1 := ⟨TX2, 12, rfl, Or.inl (vv_t3 (List.mem_of_getElem? (i := 4) rfl) rfl), vv_t2 (List.mem_of_getElem? (i := 170) rfl) rfl, vv_t2 (List.mem_of_getElem? (i := 171) rfl) rfl, vv_t1 (List.mem_of_getElem? (i := 2) rfl) rfl, vv_t2 (List.mem_of_getElem? (i := 172) rfl) rfl, ⟨by decide, by decide, by decide +kernel⟩, by decide⟩
theorem mv_X7_143 : vv_mv RX7 143 1 yX2_bringing cX2_bringing 2 (some .int) 1 := ⟨TX2, 12, rfl, Or.inl (vv_t3 (List.mem_of_getElem? (i := 5) rfl) rfl), vv_t2 (List.mem_of_getElem? (i := 201) rfl) rfl, vv_t2 (List.mem_of_getElem? (i := 202) rfl) rfl, vv_t1 (List.mem_of_getElem? (i := 2) rfl) rfl, vv_t2 (List.mem_of_getElem? (i := 203) rfl) rfl, ⟨by decide, by decide, by decide +kernel⟩, by decide⟩
theorem mv_X7_146 : vv_mv RX7 146 1 yX2_waitHours cX2_waitHours 2 none 1 := ⟨TX2, 12, rfl, Or.inl (vv_t3 (List.mem_of_getElem? (i := 10) rfl) rfl), vv_t2 (List.mem_of_getElem? (i := 213) rfl) rfl, vv_t2 (List.mem_of_getElem? (i := 214) rfl) rfl, vv_t1 (List.mem_of_getElem? (i := 2) rfl) rfl, vv_t2 (List.mem_of_getElem? (i := 215) rfl) rfl, ⟨by decide, by decide, by decide +kernel⟩, by decide⟩
theorem mv_X7_150 : vv_mv RX7 150 1 yX2_stepBack cX2_stepBack 2 (some .boolean) 0 := ⟨TX2, 12, rfl, Or.inl (vv_t3 (List.mem_of_getElem? (i := 15) rfl) rfl), vv_t3 (List.mem_of_getElem? (i := 16) rfl) rfl, vv_t3 (List.mem_of_getElem? (i := 17) rfl) rfl, vv_t1 (List.mem_of_getElem? (i := 2) rfl) rfl, vv_t3 (List.mem_of_getElem? (i := 18) rfl) rfl, ⟨by decide, by decide, by decide +kernel⟩, by decide⟩
theorem mv_X7_153 : vv_mv RX7 153 1 yX2_kindOf cX2_kindOf 2 (some .int) 1 := ⟨TX2, 12, rfl, Or.inl (vv_t3 (List.mem_of_getElem? (i := 27) rfl) rfl), vv_t2 (List.mem_of_getElem? (i := 178) rfl) rfl, vv_t2 (List.mem_of_getElem? (i := 179) rfl) rfl, vv_t1 (List.mem_of_getElem? (i := 2) rfl) rfl, vv_t2 (List.mem_of_getElem? (i := 180) rfl) rfl, ⟨by decide, by decide, by decide +kernel⟩, by decide⟩
theorem mv_X7_156 : vv_mv RX7 156 1 yX2_lengthOf cX2_lengthOf 2 (some .int) 1 := ⟨TX2, 12, rfl, Or.inl (vv_t3 (List.mem_of_getElem? (i := 28) rfl) rfl), vv_t2 (List.mem_of_getElem? (i := 186) rfl) rfl, vv_t2 (List.mem_of_getElem? (i := 187) rfl) rfl, vv_t1 (List.mem_of_getElem? (i := 2) rfl) rfl, vv_t2 (List.mem_of_getElem? (i := 188) rfl) rfl, ⟨by decide, by decide, by decide +kernel⟩, by decide⟩
theorem mv_X7_159 : vv_mv RX7 159 1 yX2_figure cX2_figure 2 (some .int) 1 := ⟨TX2, 12, rfl, Or.inl (vv_t3 (List.mem_of_getElem? (i := 33) rfl) rfl), vv_t3 (List.mem_of_getElem? (i := 34) rfl) rfl, vv_t3 (List.mem_of_getElem? (i := 35) rfl) rfl, vv_t1 (List.mem_of_getElem? (i := 2) rfl) rfl, vv_t3 (List.mem_of_getElem? (i := 36) rfl) rfl, ⟨by decide, by decide, by decide +kernel⟩, by decide⟩
theorem mv_X7_162 : vv_mv RX7 162 1 yX2_shownIn cX2_shownIn 3 (some .int) 2 := ⟨TX2, 12, rfl, Or.inl (vv_t3 (List.mem_of_getElem? (i := 41) rfl) rfl), vv_t2 (List.mem_of_getElem? (i := 174) rfl) rfl, vv_t2 (List.mem_of_getElem? (i := 175) rfl) rfl, vv_t1 (List.mem_of_getElem? (i := 2) rfl) rfl, vv_t2 (List.mem_of_getElem? (i := 176) rfl) rfl, ⟨by decide, by decide, by decide +kernel⟩, by decide⟩
theorem mv_X7_165 : vv_mv RX7 165 1 yX2_costOfCut cX2_costOfCut 4 (some .int) 3 := ⟨TX2, 12, rfl, Or.inl (vv_t3 (List.mem_of_getElem? (i := 50) rfl) rfl), vv_t3 (List.mem_of_getElem? (i := 51) rfl) rfl, vv_t3 (List.mem_of_getElem? (i := 52) rfl) rfl, vv_t1 (List.mem_of_getElem? (i := 2) rfl) rfl, vv_t3 (List.mem_of_getElem? (i := 53) rfl) rfl, ⟨by decide, by decide, by decide +kernel⟩, by decide⟩
theorem mv_X7_169 : vv_mv RX7 169 3 yX4_search cX4_search 4 none 1 := ⟨TX4, 5, rfl, Or.inl (vv_t3 (List.mem_of_getElem? (i := 58) rfl) rfl), vv_t3 (List.mem_of_getElem? (i := 59) rfl) rfl, vv_t3 (List.mem_of_getElem? (i := 60) rfl) rfl, vv_t1 (List.mem_of_getElem? (i := 6) rfl) rfl, vv_t3 (List.mem_of_getElem? (i := 61) rfl) rfl, ⟨by decide, by decide, by decide +kernel⟩, by decide⟩
theorem mv_X7_179 : vv_mv RX7 179 3 yX4_isSent cX4_isSent 2 (some .boolean) 1 := ⟨TX4, 5, rfl, Or.inl (vv_t3 (List.mem_of_getElem? (i := 76) rfl) rfl), vv_t3 (List.mem_of_getElem? (i := 77) rfl) rfl, vv_t3 (List.mem_of_getElem? (i := 78) rfl) rfl, vv_t1 (List.mem_of_getElem? (i := 6) rfl) rfl, vv_t3 (List.mem_of_getElem? (i := 79) rfl) rfl, ⟨by decide, by decide, by decide +kernel⟩, by decide⟩
theorem mv_X7_182 : vv_mv RX7 182 3 yX4_sent cX4_sent 2 (some .int) 1 := ⟨TX4, 5, rfl, Or.inl (vv_t3 (List.mem_of_getElem? (i := 81) rfl) rfl), vv_t3 (List.mem_of_getElem? (i := 82) rfl) rfl, vv_t3 (List.mem_of_getElem? (i := 83) rfl) rfl, vv_t1 (List.mem_of_getElem? (i := 6) rfl) rfl, vv_t3 (List.mem_of_getElem? (i := 84) rfl) rfl, ⟨by decide, by decide, by decide +kernel⟩, by decide⟩
theorem mv_X7_188 : vv_mv RX7 188 6 yX7_keep cX7_keep 6 (some .int) 5 := ⟨TX7, 15, rfl, Or.inl (vv_t3 (List.mem_of_getElem? (i := 90) rfl) rfl), vv_t3 (List.mem_of_getElem? (i := 92) rfl) rfl, vv_sel (q := (⟨"StringToll", "keep", "(LStringToll$Records;IIII)I"⟩, 15)) (List.mem_append_right _ (List.mem_append_left _ (List.mem_of_getElem? (l := lw_privs_2) (i := 2) rfl))), vv_t1 (List.mem_of_getElem? (i := 1) rfl) rfl, vv_t3 (List.mem_of_getElem? (i := 93) rfl) rfl, ⟨by decide, by decide, by decide +kernel⟩, by decide⟩
theorem mv_X7_192 : vv_mv RX7 192 0 yX0_linesThatFit cX0_linesThatFit 4 (some .int) 1 := ⟨TX0, 2, rfl, Or.inl (vv_t3 (List.mem_of_getElem? (i := 98) rfl) rfl), vv_t3 (List.mem_of_getElem? (i := 99) rfl) rfl, vv_t3 (List.mem_of_getElem? (i := 100) rfl) rfl, vv_t1 (List.mem_of_getElem? (i := 7) rfl) rfl, vv_t3 (List.mem_of_getElem? (i := 101) rfl) rfl, ⟨by decide, by decide, by decide +kernel⟩, by decide⟩
theorem mv_X7_195 : vv_mv RX7 195 0 yX0_leastLine cX0_leastLine 3 (some .int) 1 := ⟨TX0, 2, rfl, Or.inl (vv_t3 (List.mem_of_getElem? (i := 108) rfl) rfl), vv_t3 (List.mem_of_getElem? (i := 109) rfl) rfl, vv_t3 (List.mem_of_getElem? (i := 110) rfl) rfl, vv_t1 (List.mem_of_getElem? (i := 7) rfl) rfl, vv_t3 (List.mem_of_getElem? (i := 111) rfl) rfl, ⟨by decide, by decide, by decide +kernel⟩, by decide⟩
theorem mv_X7_198 : vv_mv RX7 198 0 yX0_greatestLine cX0_greatestLine 3 (some .int) 1 := ⟨TX0, 2, rfl, Or.inl (vv_t3 (List.mem_of_getElem? (i := 112) rfl) rfl), vv_t3 (List.mem_of_getElem? (i := 113) rfl) rfl, vv_t3 (List.mem_of_getElem? (i := 114) rfl) rfl, vv_t1 (List.mem_of_getElem? (i := 7) rfl) rfl, vv_t3 (List.mem_of_getElem? (i := 115) rfl) rfl, ⟨by decide, by decide, by decide +kernel⟩, by decide⟩
theorem mv_X7_201 : vv_mv RX7 201 0 yX0_nextLength cX0_nextLength 7 (some .int) 1 := ⟨TX0, 2, rfl, Or.inl (vv_t3 (List.mem_of_getElem? (i := 120) rfl) rfl), vv_t3 (List.mem_of_getElem? (i := 121) rfl) rfl, vv_t3 (List.mem_of_getElem? (i := 122) rfl) rfl, vv_t1 (List.mem_of_getElem? (i := 7) rfl) rfl, vv_t3 (List.mem_of_getElem? (i := 123) rfl) rfl, ⟨by decide, by decide, by decide +kernel⟩, by decide⟩
theorem mv_X7_210 : vv_mv RX7 210 0 yX0_stringKinds cX0_stringKinds 5 (some .int) 2 := ⟨TX0, 2, rfl, Or.inl (vv_t3 (List.mem_of_getElem? (i := 144) rfl) rfl), vv_t3 (List.mem_of_getElem? (i := 145) rfl) rfl, vv_t3 (List.mem_of_getElem? (i := 146) rfl) rfl, vv_t1 (List.mem_of_getElem? (i := 7) rfl) rfl, vv_t3 (List.mem_of_getElem? (i := 147) rfl) rfl, ⟨by decide, by decide, by decide +kernel⟩, by decide⟩
theorem mv_X7_214 : vv_mv RX7 214 0 yX0_nextHour cX0_nextHour 8 (some .int) 2 := ⟨TX0, 2, rfl, Or.inl (vv_t3 (List.mem_of_getElem? (i := 157) rfl) rfl), vv_t3 (List.mem_of_getElem? (i := 158) rfl) rfl, vv_t3 (List.mem_of_getElem? (i := 159) rfl) rfl, vv_t1 (List.mem_of_getElem? (i := 7) rfl) rfl, vv_t3 (List.mem_of_getElem? (i := 160) rfl) rfl, ⟨by decide, by decide, by decide +kernel⟩, by decide⟩
theorem mv_X7_217 : vv_mv RX7 217 0 yX0_houseKinds cX0_houseKinds 5 (some .int) 2 := ⟨TX0, 2, rfl, Or.inl (vv_t3 (List.mem_of_getElem? (i := 176) rfl) rfl), vv_t3 (List.mem_of_getElem? (i := 177) rfl) rfl, vv_t3 (List.mem_of_getElem? (i := 178) rfl) rfl, vv_t1 (List.mem_of_getElem? (i := 7) rfl) rfl, vv_t3 (List.mem_of_getElem? (i := 179) rfl) rfl, ⟨by decide, by decide, by decide +kernel⟩, by decide⟩
theorem mv_X7_220 : vv_mv RX7 220 0 yX0_nextQuestion cX0_nextQuestion 8 (some .int) 2 := ⟨TX0, 2, rfl, Or.inl (vv_t3 (List.mem_of_getElem? (i := 189) rfl) rfl), vv_t3 (List.mem_of_getElem? (i := 190) rfl) rfl, vv_t3 (List.mem_of_getElem? (i := 191) rfl) rfl, vv_t1 (List.mem_of_getElem? (i := 7) rfl) rfl, vv_t3 (List.mem_of_getElem? (i := 192) rfl) rfl, ⟨by decide, by decide, by decide +kernel⟩, by decide⟩
theorem mv_X7_223 : vv_mv RX7 223 5 yX6_reckon cX6_reckon 4 none 1 := ⟨TX6, 2, rfl, Or.inl (vv_t3 (List.mem_of_getElem? (i := 198) rfl) rfl), vv_t3 (List.mem_of_getElem? (i := 199) rfl) rfl, vv_t3 (List.mem_of_getElem? (i := 200) rfl) rfl, vv_t1 (List.mem_of_getElem? (i := 8) rfl) rfl, vv_t3 (List.mem_of_getElem? (i := 201) rfl) rfl, ⟨by decide, by decide, by decide +kernel⟩, by decide⟩
theorem mv_X7_226 : vv_mv RX7 226 5 yX6_pairs cX6_pairs 4 (some .int) 0 := ⟨TX6, 2, rfl, Or.inl (vv_t3 (List.mem_of_getElem? (i := 210) rfl) rfl), vv_t3 (List.mem_of_getElem? (i := 211) rfl) rfl, vv_t3 (List.mem_of_getElem? (i := 212) rfl) rfl, vv_t1 (List.mem_of_getElem? (i := 8) rfl) rfl, vv_t3 (List.mem_of_getElem? (i := 213) rfl) rfl, ⟨by decide, by decide, by decide +kernel⟩, by decide⟩
theorem mv_X7_229 : vv_mv RX7 229 5 yX6_pair cX6_pair 5 (some .int) 1 := ⟨TX6, 2, rfl, Or.inl (vv_t3 (List.mem_of_getElem? (i := 218) rfl) rfl), vv_t3 (List.mem_of_getElem? (i := 219) rfl) rfl, vv_t3 (List.mem_of_getElem? (i := 220) rfl) rfl, vv_t1 (List.mem_of_getElem? (i := 8) rfl) rfl, vv_t3 (List.mem_of_getElem? (i := 221) rfl) rfl, ⟨by decide, by decide, by decide +kernel⟩, by decide⟩
theorem ms_X7_235 : vv_ms RX7 235 yX1_brought cX1_brought 2 (some .int) 2 := ⟨Or.inl (vv_t3 (List.mem_of_getElem? (i := 226) rfl) rfl), vv_t2 (List.mem_of_getElem? (i := 205) rfl) rfl, vv_t1 (List.mem_of_getElem? (i := 10) rfl) rfl, vv_t2 (List.mem_of_getElem? (i := 206) rfl) rfl, ⟨by decide, by decide, by decide +kernel⟩, by decide⟩
theorem mv_X7_238 : vv_mv RX7 238 6 yX7_setFraction cX7_setFraction 4 none 1 := ⟨TX7, 15, rfl, Or.inl (vv_t3 (List.mem_of_getElem? (i := 227) rfl) rfl), vv_t3 (List.mem_of_getElem? (i := 229) rfl) rfl, vv_sel (q := (⟨"StringToll", "setFraction", "(I)V"⟩, 15)) (List.mem_append_right _ (List.mem_append_left _ (List.mem_of_getElem? (l := lw_privs_2) (i := 10) rfl))), vv_t1 (List.mem_of_getElem? (i := 1) rfl) rfl, vv_t3 (List.mem_of_getElem? (i := 230) rfl) rfl, ⟨by decide, by decide, by decide +kernel⟩, by decide⟩
theorem mv_X7_252 : vv_mv RX7 252 1 yX2_copyFrom cX2_copyFrom 2 none 1 := ⟨TX2, 12, rfl, Or.inl (vv_t4 (List.mem_of_getElem? (i := 9) rfl) rfl), vv_t4 (List.mem_of_getElem? (i := 10) rfl) rfl, vv_t4 (List.mem_of_getElem? (i := 11) rfl) rfl, vv_t1 (List.mem_of_getElem? (i := 2) rfl) rfl, vv_t4 (List.mem_of_getElem? (i := 12) rfl) rfl, ⟨by decide, by decide, by decide +kernel⟩, by decide⟩
theorem mv_X7_271 : vv_mv RX7 271 6 yX7_howMany cX7_howMany 2 (some .int) 1 := ⟨TX7, 15, rfl, Or.inl (vv_t4 (List.mem_of_getElem? (i := 32) rfl) rfl), vv_t4 (List.mem_of_getElem? (i := 34) rfl) rfl, vv_sel (q := (⟨"StringToll", "howMany", "(I)I"⟩, 15)) (List.mem_append_right _ (List.mem_append_left _ (List.mem_of_getElem? (l := lw_privs_2) (i := 11) rfl))), vv_t1 (List.mem_of_getElem? (i := 1) rfl) rfl, vv_t4 (List.mem_of_getElem? (i := 35) rfl) rfl, ⟨by decide, by decide, by decide +kernel⟩, by decide⟩
theorem mv_X7_278 : vv_mv RX7 278 2 yX3_digestOn cX3_digestOn 8 (some .long) 2 := ⟨TX3, 3, rfl, Or.inl (vv_t4 (List.mem_of_getElem? (i := 42) rfl) rfl), vv_t4 (List.mem_of_getElem? (i := 43) rfl) rfl, vv_t4 (List.mem_of_getElem? (i := 44) rfl) rfl, vv_t1 (List.mem_of_getElem? (i := 3) rfl) rfl, vv_t4 (List.mem_of_getElem? (i := 45) rfl) rfl, ⟨by decide, by decide, by decide +kernel⟩, by decide⟩
theorem mv_X0_17 : vv_mv RX0 17 0 yX0_fits cX0_fits 4 (some .boolean) 2 := ⟨TX0, 2, rfl, Or.inl (vv_t3 (List.mem_of_getElem? (i := 102) rfl) rfl), vv_t3 (List.mem_of_getElem? (i := 104) rfl) rfl, vv_sel (q := (⟨"StringToll$Guess", "fits", "(LStringToll$Province;I)Z"⟩, 2)) (List.mem_append_right _ (List.mem_append_left _ (List.mem_of_getElem? (l := lw_privs_2) (i := 3) rfl))), vv_t1 (List.mem_of_getElem? (i := 7) rfl) rfl, vv_t3 (List.mem_of_getElem? (i := 105) rfl) rfl, ⟨by decide, by decide, by decide +kernel⟩, by decide⟩
theorem mv_X0_21 : vv_mv RX0 21 0 yX0_linesThatFit cX0_linesThatFit 4 (some .int) 1 := ⟨TX0, 2, rfl, Or.inl (vv_t3 (List.mem_of_getElem? (i := 124) rfl) rfl), vv_t3 (List.mem_of_getElem? (i := 99) rfl) rfl, vv_t3 (List.mem_of_getElem? (i := 100) rfl) rfl, vv_t1 (List.mem_of_getElem? (i := 7) rfl) rfl, vv_t3 (List.mem_of_getElem? (i := 101) rfl) rfl, ⟨by decide, by decide, by decide +kernel⟩, by decide⟩
theorem mv_X0_31 : vv_mv RX0 31 0 yX0_notesFit cX0_notesFit 5 (some .boolean) 3 := ⟨TX0, 2, rfl, Or.inl (vv_t3 (List.mem_of_getElem? (i := 148) rfl) rfl), vv_t3 (List.mem_of_getElem? (i := 150) rfl) rfl, vv_sel (q := (⟨"StringToll$Guess", "notesFit", "(LStringToll$Province;II)Z"⟩, 2)) (List.mem_append_right _ (List.mem_append_left _ (List.mem_of_getElem? (l := lw_privs_2) (i := 4) rfl))), vv_t1 (List.mem_of_getElem? (i := 7) rfl) rfl, vv_t3 (List.mem_of_getElem? (i := 151) rfl) rfl, ⟨by decide, by decide, by decide +kernel⟩, by decide⟩
theorem mv_X0_35 : vv_mv RX0 35 0 yX0_stringKinds cX0_stringKinds 5 (some .int) 2 := ⟨TX0, 2, rfl, Or.inl (vv_t3 (List.mem_of_getElem? (i := 161) rfl) rfl), vv_t3 (List.mem_of_getElem? (i := 145) rfl) rfl, vv_t3 (List.mem_of_getElem? (i := 146) rfl) rfl, vv_t1 (List.mem_of_getElem? (i := 7) rfl) rfl, vv_t3 (List.mem_of_getElem? (i := 147) rfl) rfl, ⟨by decide, by decide, by decide +kernel⟩, by decide⟩
theorem mv_X0_43 : vv_mv RX0 43 1 yX2_lengthOf cX2_lengthOf 2 (some .int) 1 := ⟨TX2, 12, rfl, Or.inl (vv_t3 (List.mem_of_getElem? (i := 162) rfl) rfl), vv_t2 (List.mem_of_getElem? (i := 186) rfl) rfl, vv_t2 (List.mem_of_getElem? (i := 187) rfl) rfl, vv_t1 (List.mem_of_getElem? (i := 2) rfl) rfl, vv_t2 (List.mem_of_getElem? (i := 188) rfl) rfl, ⟨by decide, by decide, by decide +kernel⟩, by decide⟩
theorem ms_X0_49 : vv_ms RX0 49 yX1_shown cX1_shown 6 (some .int) 3 := ⟨Or.inl (vv_t3 (List.mem_of_getElem? (i := 152) rfl) rfl), vv_t2 (List.mem_of_getElem? (i := 190) rfl) rfl, vv_t1 (List.mem_of_getElem? (i := 10) rfl) rfl, vv_t2 (List.mem_of_getElem? (i := 191) rfl) rfl, ⟨by decide, by decide, by decide +kernel⟩, by decide⟩
theorem mv_X0_53 : vv_mv RX0 53 0 yX0_putAnswer cX0_putAnswer 2 none 1 := ⟨TX0, 2, rfl, Or.inl (vv_t3 (List.mem_of_getElem? (i := 163) rfl) rfl), vv_t3 (List.mem_of_getElem? (i := 165) rfl) rfl, vv_sel (q := (⟨"StringToll$Guess", "putAnswer", "(I)V"⟩, 2)) (List.mem_append_right _ (List.mem_append_left _ (List.mem_of_getElem? (l := lw_privs_2) (i := 5) rfl))), vv_t1 (List.mem_of_getElem? (i := 7) rfl) rfl, vv_t3 (List.mem_of_getElem? (i := 166) rfl) rfl, ⟨by decide, by decide, by decide +kernel⟩, by decide⟩
theorem mv_X0_57 : vv_mv RX0 57 0 yX0_mostAlike cX0_mostAlike 5 (some .int) 0 := ⟨TX0, 2, rfl, Or.inl (vv_t3 (List.mem_of_getElem? (i := 168) rfl) rfl), vv_t3 (List.mem_of_getElem? (i := 170) rfl) rfl, vv_sel (q := (⟨"StringToll$Guess", "mostAlike", "()I"⟩, 2)) (List.mem_append_right _ (List.mem_append_left _ (List.mem_of_getElem? (l := lw_privs_2) (i := 6) rfl))), vv_t1 (List.mem_of_getElem? (i := 7) rfl) rfl, vv_t3 (List.mem_of_getElem? (i := 171) rfl) rfl, ⟨by decide, by decide, by decide +kernel⟩, by decide⟩
theorem mv_X0_61 : vv_mv RX0 61 0 yX0_marksFit cX0_marksFit 5 (some .boolean) 3 := ⟨TX0, 2, rfl, Or.inl (vv_t3 (List.mem_of_getElem? (i := 180) rfl) rfl), vv_t3 (List.mem_of_getElem? (i := 182) rfl) rfl, vv_sel (q := (⟨"StringToll$Guess", "marksFit", "(LStringToll$Province;II)Z"⟩, 2)) (List.mem_append_right _ (List.mem_append_left _ (List.mem_of_getElem? (l := lw_privs_2) (i := 7) rfl))), vv_t1 (List.mem_of_getElem? (i := 7) rfl) rfl, vv_t3 (List.mem_of_getElem? (i := 183) rfl) rfl, ⟨by decide, by decide, by decide +kernel⟩, by decide⟩
theorem mv_X0_64 : vv_mv RX0 64 0 yX0_houseKinds cX0_houseKinds 5 (some .int) 2 := ⟨TX0, 2, rfl, Or.inl (vv_t3 (List.mem_of_getElem? (i := 193) rfl) rfl), vv_t3 (List.mem_of_getElem? (i := 177) rfl) rfl, vv_t3 (List.mem_of_getElem? (i := 178) rfl) rfl, vv_t1 (List.mem_of_getElem? (i := 7) rfl) rfl, vv_t3 (List.mem_of_getElem? (i := 179) rfl) rfl, ⟨by decide, by decide, by decide +kernel⟩, by decide⟩
theorem ms_X0_67 : vv_ms RX0 67 yX1_charged cX1_charged 6 (some .int) 3 := ⟨Or.inl (vv_t3 (List.mem_of_getElem? (i := 184) rfl) rfl), vv_t2 (List.mem_of_getElem? (i := 198) rfl) rfl, vv_t1 (List.mem_of_getElem? (i := 10) rfl) rfl, vv_t2 (List.mem_of_getElem? (i := 199) rfl) rfl, ⟨by decide, by decide, by decide +kernel⟩, by decide⟩
theorem mv_X0_79 : vv_mv RX0 79 2 yX3_cell cX3_cell 3 (some .int) 2 := ⟨TX3, 3, rfl, Or.inl (vv_t3 (List.mem_of_getElem? (i := 106) rfl) rfl), vv_t2 (List.mem_of_getElem? (i := 182) rfl) rfl, vv_t2 (List.mem_of_getElem? (i := 183) rfl) rfl, vv_t1 (List.mem_of_getElem? (i := 3) rfl) rfl, vv_t2 (List.mem_of_getElem? (i := 184) rfl) rfl, ⟨by decide, by decide, by decide +kernel⟩, by decide⟩
theorem ms_X0_82 : vv_ms RX0 82 yX1_brought cX1_brought 2 (some .int) 2 := ⟨Or.inl (vv_t3 (List.mem_of_getElem? (i := 107) rfl) rfl), vv_t2 (List.mem_of_getElem? (i := 205) rfl) rfl, vv_t1 (List.mem_of_getElem? (i := 10) rfl) rfl, vv_t2 (List.mem_of_getElem? (i := 206) rfl) rfl, ⟨by decide, by decide, by decide +kernel⟩, by decide⟩
theorem ms_X0_91 : vv_ms RX0 91 yX7_within cX7_within 3 (some .boolean) 3 := ⟨Or.inr ⟨"StringToll", List.mem_of_getElem? (i := 35) rfl⟩, vv_t1 (List.mem_of_getElem? (i := 238) rfl) rfl, vv_t1 (List.mem_of_getElem? (i := 1) rfl) rfl, vv_t1 (List.mem_of_getElem? (i := 239) rfl) rfl, ⟨by decide, by decide, by decide +kernel⟩, by decide⟩
theorem ms_X1_11 : vv_ms RX1 11 yX7_within cX7_within 3 (some .boolean) 3 := ⟨Or.inr ⟨"StringToll", List.mem_of_getElem? (i := 31) rfl⟩, vv_t1 (List.mem_of_getElem? (i := 238) rfl) rfl, vv_t1 (List.mem_of_getElem? (i := 1) rfl) rfl, vv_t1 (List.mem_of_getElem? (i := 239) rfl) rfl, ⟨by decide, by decide, by decide +kernel⟩, by decide⟩
theorem mv_X2_54 : vv_mv RX2 54 2 yX3_wipe cX3_wipe 1 none 0 := ⟨TX3, 3, rfl, Or.inl (vv_t2 (List.mem_of_getElem? (i := 8) rfl) rfl), vv_t2 (List.mem_of_getElem? (i := 9) rfl) rfl, vv_t2 (List.mem_of_getElem? (i := 10) rfl) rfl, vv_t1 (List.mem_of_getElem? (i := 3) rfl) rfl, vv_t2 (List.mem_of_getElem? (i := 11) rfl) rfl, ⟨by decide, by decide, by decide +kernel⟩, by decide⟩
theorem mv_X2_57 : vv_mv RX2 57 2 yX3_copyFrom cX3_copyFrom 2 none 1 := ⟨TX3, 3, rfl, Or.inl (vv_t4 (List.mem_of_getElem? (i := 13) rfl) rfl), vv_t4 (List.mem_of_getElem? (i := 14) rfl) rfl, vv_t4 (List.mem_of_getElem? (i := 15) rfl) rfl, vv_t1 (List.mem_of_getElem? (i := 3) rfl) rfl, vv_t4 (List.mem_of_getElem? (i := 16) rfl) rfl, ⟨by decide, by decide, by decide +kernel⟩, by decide⟩
theorem ms_X2_64 : vv_ms RX2 64 yX7_within cX7_within 3 (some .boolean) 3 := ⟨Or.inr ⟨"StringToll", List.mem_of_getElem? (i := 33) rfl⟩, vv_t1 (List.mem_of_getElem? (i := 238) rfl) rfl, vv_t1 (List.mem_of_getElem? (i := 1) rfl) rfl, vv_t1 (List.mem_of_getElem? (i := 239) rfl) rfl, ⟨by decide, by decide, by decide +kernel⟩, by decide⟩
theorem mv_X2_68 : vv_mv RX2 68 2 yX3_cell cX3_cell 3 (some .int) 2 := ⟨TX3, 3, rfl, Or.inl (vv_t2 (List.mem_of_getElem? (i := 181) rfl) rfl), vv_t2 (List.mem_of_getElem? (i := 182) rfl) rfl, vv_t2 (List.mem_of_getElem? (i := 183) rfl) rfl, vv_t1 (List.mem_of_getElem? (i := 3) rfl) rfl, vv_t2 (List.mem_of_getElem? (i := 184) rfl) rfl, ⟨by decide, by decide, by decide +kernel⟩, by decide⟩
theorem mv_X2_72 : vv_mv RX2 72 1 yX2_kindOf cX2_kindOf 2 (some .int) 1 := ⟨TX2, 12, rfl, Or.inl (vv_t2 (List.mem_of_getElem? (i := 177) rfl) rfl), vv_t2 (List.mem_of_getElem? (i := 178) rfl) rfl, vv_t2 (List.mem_of_getElem? (i := 179) rfl) rfl, vv_t1 (List.mem_of_getElem? (i := 2) rfl) rfl, vv_t2 (List.mem_of_getElem? (i := 180) rfl) rfl, ⟨by decide, by decide, by decide +kernel⟩, by decide⟩
theorem mv_X2_76 : vv_mv RX2 76 1 yX2_lengthOf cX2_lengthOf 2 (some .int) 1 := ⟨TX2, 12, rfl, Or.inl (vv_t2 (List.mem_of_getElem? (i := 185) rfl) rfl), vv_t2 (List.mem_of_getElem? (i := 186) rfl) rfl, vv_t2 (List.mem_of_getElem? (i := 187) rfl) rfl, vv_t1 (List.mem_of_getElem? (i := 2) rfl) rfl, vv_t2 (List.mem_of_getElem? (i := 188) rfl) rfl, ⟨by decide, by decide, by decide +kernel⟩, by decide⟩
theorem ms_X2_79 : vv_ms RX2 79 yX1_shown cX1_shown 6 (some .int) 3 := ⟨Or.inl (vv_t2 (List.mem_of_getElem? (i := 189) rfl) rfl), vv_t2 (List.mem_of_getElem? (i := 190) rfl) rfl, vv_t1 (List.mem_of_getElem? (i := 10) rfl) rfl, vv_t2 (List.mem_of_getElem? (i := 191) rfl) rfl, ⟨by decide, by decide, by decide +kernel⟩, by decide⟩
theorem mv_X2_85 : vv_mv RX2 85 1 yX2_shownIn cX2_shownIn 3 (some .int) 2 := ⟨TX2, 12, rfl, Or.inl (vv_t2 (List.mem_of_getElem? (i := 173) rfl) rfl), vv_t2 (List.mem_of_getElem? (i := 174) rfl) rfl, vv_t2 (List.mem_of_getElem? (i := 175) rfl) rfl, vv_t1 (List.mem_of_getElem? (i := 2) rfl) rfl, vv_t2 (List.mem_of_getElem? (i := 176) rfl) rfl, ⟨by decide, by decide, by decide +kernel⟩, by decide⟩
theorem mv_X2_88 : vv_mv RX2 88 1 yX2_tollOn cX2_tollOn 4 (some .int) 2 := ⟨TX2, 12, rfl, Or.inl (vv_t2 (List.mem_of_getElem? (i := 193) rfl) rfl), vv_t2 (List.mem_of_getElem? (i := 195) rfl) rfl, vv_sel (q := (⟨"StringToll$Province", "tollOn", "(II)I"⟩, 12)) (List.mem_append_left _ (List.mem_of_getElem? (l := lw_privs_1) (i := 13) rfl)), vv_t1 (List.mem_of_getElem? (i := 2) rfl) rfl, vv_t2 (List.mem_of_getElem? (i := 196) rfl) rfl, ⟨by decide, by decide, by decide +kernel⟩, by decide⟩
theorem ms_X2_91 : vv_ms RX2 91 yX1_brought cX1_brought 2 (some .int) 2 := ⟨Or.inl (vv_t2 (List.mem_of_getElem? (i := 204) rfl) rfl), vv_t2 (List.mem_of_getElem? (i := 205) rfl) rfl, vv_t1 (List.mem_of_getElem? (i := 10) rfl) rfl, vv_t2 (List.mem_of_getElem? (i := 206) rfl) rfl, ⟨by decide, by decide, by decide +kernel⟩, by decide⟩
theorem ms_X2_94 : vv_ms RX2 94 yX1_charged cX1_charged 6 (some .int) 3 := ⟨Or.inl (vv_t2 (List.mem_of_getElem? (i := 197) rfl) rfl), vv_t2 (List.mem_of_getElem? (i := 198) rfl) rfl, vv_t1 (List.mem_of_getElem? (i := 10) rfl) rfl, vv_t2 (List.mem_of_getElem? (i := 199) rfl) rfl, ⟨by decide, by decide, by decide +kernel⟩, by decide⟩
theorem mv_X2_97 : vv_mv RX2 97 1 yX2_bringing cX2_bringing 2 (some .int) 1 := ⟨TX2, 12, rfl, Or.inl (vv_t2 (List.mem_of_getElem? (i := 200) rfl) rfl), vv_t2 (List.mem_of_getElem? (i := 201) rfl) rfl, vv_t2 (List.mem_of_getElem? (i := 202) rfl) rfl, vv_t1 (List.mem_of_getElem? (i := 2) rfl) rfl, vv_t2 (List.mem_of_getElem? (i := 203) rfl) rfl, ⟨by decide, by decide, by decide +kernel⟩, by decide⟩
theorem mv_X2_105 : vv_mv RX2 105 2 yX3_isFull cX3_isFull 1 (some .boolean) 0 := ⟨TX3, 3, rfl, Or.inl (vv_t2 (List.mem_of_getElem? (i := 238) rfl) rfl), vv_t2 (List.mem_of_getElem? (i := 34) rfl) rfl, vv_t2 (List.mem_of_getElem? (i := 35) rfl) rfl, vv_t1 (List.mem_of_getElem? (i := 3) rfl) rfl, vv_t2 (List.mem_of_getElem? (i := 36) rfl) rfl, ⟨by decide, by decide, by decide +kernel⟩, by decide⟩
theorem mv_X2_109 : vv_mv RX2 109 2 yX3_dropFirst cX3_dropFirst 2 none 0 := ⟨TX3, 3, rfl, Or.inl (vv_t2 (List.mem_of_getElem? (i := 239) rfl) rfl), vv_t3 (List.mem_of_getElem? (i := 0) rfl) rfl, vv_t3 (List.mem_of_getElem? (i := 1) rfl) rfl, vv_t1 (List.mem_of_getElem? (i := 3) rfl) rfl, vv_t3 (List.mem_of_getElem? (i := 2) rfl) rfl, ⟨by decide, by decide, by decide +kernel⟩, by decide⟩
theorem mv_X2_112 : vv_mv RX2 112 2 yX3_put cX3_put 6 none 4 := ⟨TX3, 3, rfl, Or.inl (vv_t3 (List.mem_of_getElem? (i := 3) rfl) rfl), vv_t2 (List.mem_of_getElem? (i := 42) rfl) rfl, vv_t2 (List.mem_of_getElem? (i := 43) rfl) rfl, vv_t1 (List.mem_of_getElem? (i := 3) rfl) rfl, vv_t2 (List.mem_of_getElem? (i := 44) rfl) rfl, ⟨by decide, by decide, by decide +kernel⟩, by decide⟩
theorem mv_X2_116 : vv_mv RX2 116 2 yX3_dropLast cX3_dropLast 1 none 0 := ⟨TX3, 3, rfl, Or.inl (vv_t3 (List.mem_of_getElem? (i := 19) rfl) rfl), vv_t3 (List.mem_of_getElem? (i := 20) rfl) rfl, vv_t3 (List.mem_of_getElem? (i := 21) rfl) rfl, vv_t1 (List.mem_of_getElem? (i := 3) rfl) rfl, vv_t3 (List.mem_of_getElem? (i := 22) rfl) rfl, ⟨by decide, by decide, by decide +kernel⟩, by decide⟩
theorem mv_X3_26 : vv_mv RX3 26 2 yX3_isFull cX3_isFull 1 (some .boolean) 0 := ⟨TX3, 3, rfl, Or.inl (vv_t2 (List.mem_of_getElem? (i := 45) rfl) rfl), vv_t2 (List.mem_of_getElem? (i := 34) rfl) rfl, vv_t2 (List.mem_of_getElem? (i := 35) rfl) rfl, vv_t1 (List.mem_of_getElem? (i := 3) rfl) rfl, vv_t2 (List.mem_of_getElem? (i := 36) rfl) rfl, ⟨by decide, by decide, by decide +kernel⟩, by decide⟩
theorem mv_X3_38 : vv_mv RX3 38 2 yX3_cell cX3_cell 3 (some .int) 2 := ⟨TX3, 3, rfl, Or.inl (vv_t4 (List.mem_of_getElem? (i := 47) rfl) rfl), vv_t2 (List.mem_of_getElem? (i := 182) rfl) rfl, vv_t2 (List.mem_of_getElem? (i := 183) rfl) rfl, vv_t1 (List.mem_of_getElem? (i := 3) rfl) rfl, vv_t2 (List.mem_of_getElem? (i := 184) rfl) rfl, ⟨by decide, by decide, by decide +kernel⟩, by decide⟩
theorem mv_X4_33 : vv_mv RX4 33 1 yX2_costIn cX2_costIn 3 (some .int) 2 := ⟨TX2, 12, rfl, Or.inl (vv_t3 (List.mem_of_getElem? (i := 62) rfl) rfl), vv_t2 (List.mem_of_getElem? (i := 227) rfl) rfl, vv_t2 (List.mem_of_getElem? (i := 228) rfl) rfl, vv_t1 (List.mem_of_getElem? (i := 2) rfl) rfl, vv_t2 (List.mem_of_getElem? (i := 229) rfl) rfl, ⟨by decide, by decide, by decide +kernel⟩, by decide⟩
theorem ms_X4_46 : vv_ms RX4 46 yX4_extend cX4_extend 7 none 5 := ⟨Or.inl (vv_t3 (List.mem_of_getElem? (i := 63) rfl) rfl), vv_t3 (List.mem_of_getElem? (i := 64) rfl) rfl, vv_t1 (List.mem_of_getElem? (i := 6) rfl) rfl, vv_t3 (List.mem_of_getElem? (i := 65) rfl) rfl, ⟨by decide, by decide, by decide +kernel⟩, by decide⟩
theorem ms_X4_55 : vv_ms RX4 55 yX7_within cX7_within 3 (some .boolean) 3 := ⟨Or.inr ⟨"StringToll", List.mem_of_getElem? (i := 34) rfl⟩, vv_t1 (List.mem_of_getElem? (i := 238) rfl) rfl, vv_t1 (List.mem_of_getElem? (i := 1) rfl) rfl, vv_t1 (List.mem_of_getElem? (i := 239) rfl) rfl, ⟨by decide, by decide, by decide +kernel⟩, by decide⟩
theorem mv_X4_59 : vv_mv RX4 59 3 yX4_isSent cX4_isSent 2 (some .boolean) 1 := ⟨TX4, 5, rfl, Or.inl (vv_t3 (List.mem_of_getElem? (i := 85) rfl) rfl), vv_t3 (List.mem_of_getElem? (i := 77) rfl) rfl, vv_t3 (List.mem_of_getElem? (i := 78) rfl) rfl, vv_t1 (List.mem_of_getElem? (i := 6) rfl) rfl, vv_t3 (List.mem_of_getElem? (i := 79) rfl) rfl, ⟨by decide, by decide, by decide +kernel⟩, by decide⟩
theorem mv_X4_63 : vv_mv RX4 63 3 yX4_keepPath cX4_keepPath 4 none 2 := ⟨TX4, 5, rfl, Or.inl (vv_t3 (List.mem_of_getElem? (i := 66) rfl) rfl), vv_t3 (List.mem_of_getElem? (i := 68) rfl) rfl, vv_sel (q := (⟨"StringToll$RowSearch", "keepPath", "(II)V"⟩, 5)) (List.mem_append_right _ (List.mem_append_left _ (List.mem_of_getElem? (l := lw_privs_2) (i := 0) rfl))), vv_t1 (List.mem_of_getElem? (i := 6) rfl) rfl, vv_t3 (List.mem_of_getElem? (i := 69) rfl) rfl, ⟨by decide, by decide, by decide +kernel⟩, by decide⟩
theorem mv_X4_67 : vv_mv RX4 67 3 yX4_isOnPath cX4_isOnPath 4 (some .boolean) 2 := ⟨TX4, 5, rfl, Or.inl (vv_t3 (List.mem_of_getElem? (i := 71) rfl) rfl), vv_t3 (List.mem_of_getElem? (i := 73) rfl) rfl, vv_sel (q := (⟨"StringToll$RowSearch", "isOnPath", "(II)Z"⟩, 5)) (List.mem_append_right _ (List.mem_append_left _ (List.mem_of_getElem? (l := lw_privs_2) (i := 1) rfl))), vv_t1 (List.mem_of_getElem? (i := 6) rfl) rfl, vv_t3 (List.mem_of_getElem? (i := 74) rfl) rfl, ⟨by decide, by decide, by decide +kernel⟩, by decide⟩
theorem mv_X4_71 : vv_mv RX4 71 1 yX2_bringing cX2_bringing 2 (some .int) 1 := ⟨TX2, 12, rfl, Or.inl (vv_t3 (List.mem_of_getElem? (i := 75) rfl) rfl), vv_t2 (List.mem_of_getElem? (i := 201) rfl) rfl, vv_t2 (List.mem_of_getElem? (i := 202) rfl) rfl, vv_t1 (List.mem_of_getElem? (i := 2) rfl) rfl, vv_t2 (List.mem_of_getElem? (i := 203) rfl) rfl, ⟨by decide, by decide, by decide +kernel⟩, by decide⟩
theorem ms_X5_19 : vv_ms RX5 19 yX7_within cX7_within 3 (some .boolean) 3 := ⟨Or.inr ⟨"StringToll", List.mem_of_getElem? (i := 32) rfl⟩, vv_t1 (List.mem_of_getElem? (i := 238) rfl) rfl, vv_t1 (List.mem_of_getElem? (i := 1) rfl) rfl, vv_t1 (List.mem_of_getElem? (i := 239) rfl) rfl, ⟨by decide, by decide, by decide +kernel⟩, by decide⟩
theorem mv_X5_26 : vv_mv RX5 26 4 yX5_readFirst cX5_readFirst 2 (some .boolean) 1 := ⟨TX5, 6, rfl, Or.inl (vv_t2 (List.mem_of_getElem? (i := 67) rfl) rfl), vv_t2 (List.mem_of_getElem? (i := 69) rfl) rfl, vv_sel (q := (⟨"StringToll$Text", "readFirst", "(LStringToll$Province;)Z"⟩, 6)) (List.mem_append_left _ (List.mem_of_getElem? (l := lw_privs_1) (i := 2) rfl)), vv_t1 (List.mem_of_getElem? (i := 5) rfl) rfl, vv_t2 (List.mem_of_getElem? (i := 70) rfl) rfl, ⟨by decide, by decide, by decide +kernel⟩, by decide⟩
theorem mv_X5_33 : vv_mv RX5 33 4 yX5_advance cX5_advance 2 none 0 := ⟨TX5, 6, rfl, Or.inl (vv_t2 (List.mem_of_getElem? (i := 71) rfl) rfl), vv_t2 (List.mem_of_getElem? (i := 73) rfl) rfl, vv_sel (q := (⟨"StringToll$Text", "advance", "()V"⟩, 6)) (List.mem_append_left _ (List.mem_of_getElem? (l := lw_privs_1) (i := 3) rfl)), vv_t1 (List.mem_of_getElem? (i := 5) rfl) rfl, vv_t2 (List.mem_of_getElem? (i := 74) rfl) rfl, ⟨by decide, by decide, by decide +kernel⟩, by decide⟩
theorem mv_X5_39 : vv_mv RX5 39 4 yX5_readItem cX5_readItem 2 (some .boolean) 1 := ⟨TX5, 6, rfl, Or.inl (vv_t2 (List.mem_of_getElem? (i := 146) rfl) rfl), vv_t2 (List.mem_of_getElem? (i := 148) rfl) rfl, vv_sel (q := (⟨"StringToll$Text", "readItem", "(LStringToll$Province;)Z"⟩, 6)) (List.mem_append_left _ (List.mem_of_getElem? (l := lw_privs_1) (i := 9) rfl)), vv_t1 (List.mem_of_getElem? (i := 5) rfl) rfl, vv_t2 (List.mem_of_getElem? (i := 149) rfl) rfl, ⟨by decide, by decide, by decide +kernel⟩, by decide⟩
theorem mv_X5_42 : vv_mv RX5 42 4 yX5_stops cX5_stops 1 (some .boolean) 0 := ⟨TX5, 6, rfl, Or.inl (vv_t2 (List.mem_of_getElem? (i := 142) rfl) rfl), vv_t2 (List.mem_of_getElem? (i := 144) rfl) rfl, vv_sel (q := (⟨"StringToll$Text", "stops", "()Z"⟩, 6)) (List.mem_append_left _ (List.mem_of_getElem? (l := lw_privs_1) (i := 8) rfl)), vv_t1 (List.mem_of_getElem? (i := 5) rfl) rfl, vv_t2 (List.mem_of_getElem? (i := 145) rfl) rfl, ⟨by decide, by decide, by decide +kernel⟩, by decide⟩
theorem mv_X5_48 : vv_mv RX5 48 4 yX5_isWord cX5_isWord 3 (some .boolean) 1 := ⟨TX5, 6, rfl, Or.inl (vv_t2 (List.mem_of_getElem? (i := 85) rfl) rfl), vv_t2 (List.mem_of_getElem? (i := 87) rfl) rfl, vv_sel (q := (⟨"StringToll$Text", "isWord", "(Ljava/lang/String;)Z"⟩, 6)) (List.mem_append_left _ (List.mem_of_getElem? (l := lw_privs_1) (i := 6) rfl)), vv_t1 (List.mem_of_getElem? (i := 5) rfl) rfl, vv_t2 (List.mem_of_getElem? (i := 88) rfl) rfl, ⟨by decide, by decide, by decide +kernel⟩, by decide⟩
theorem mv_X5_52 : vv_mv RX5 52 4 yX5_takeNumber cX5_takeNumber 3 (some .boolean) 2 := ⟨TX5, 6, rfl, Or.inl (vv_t2 (List.mem_of_getElem? (i := 137) rfl) rfl), vv_t2 (List.mem_of_getElem? (i := 139) rfl) rfl, vv_sel (q := (⟨"StringToll$Text", "takeNumber", "(II)Z"⟩, 6)) (List.mem_append_left _ (List.mem_of_getElem? (l := lw_privs_1) (i := 7) rfl)), vv_t1 (List.mem_of_getElem? (i := 5) rfl) rfl, vv_t2 (List.mem_of_getElem? (i := 140) rfl) rfl, ⟨by decide, by decide, by decide +kernel⟩, by decide⟩
theorem mv_X5_59 : vv_mv RX5 59 1 yX2_start cX2_start 3 none 2 := ⟨TX2, 12, rfl, Or.inl (vv_t2 (List.mem_of_getElem? (i := 141) rfl) rfl), vv_t2 (List.mem_of_getElem? (i := 5) rfl) rfl, vv_t2 (List.mem_of_getElem? (i := 6) rfl) rfl, vv_t1 (List.mem_of_getElem? (i := 2) rfl) rfl, vv_t2 (List.mem_of_getElem? (i := 7) rfl) rfl, ⟨by decide, by decide, by decide +kernel⟩, by decide⟩
theorem mv_X5_66 : vv_mv RX5 66 4 yX5_readHouse cX5_readHouse 3 (some .boolean) 1 := ⟨TX5, 6, rfl, Or.inl (vv_t2 (List.mem_of_getElem? (i := 151) rfl) rfl), vv_t2 (List.mem_of_getElem? (i := 153) rfl) rfl, vv_sel (q := (⟨"StringToll$Text", "readHouse", "(LStringToll$Province;)Z"⟩, 6)) (List.mem_append_left _ (List.mem_of_getElem? (l := lw_privs_1) (i := 10) rfl)), vv_t1 (List.mem_of_getElem? (i := 5) rfl) rfl, vv_t2 (List.mem_of_getElem? (i := 154) rfl) rfl, ⟨by decide, by decide, by decide +kernel⟩, by decide⟩
theorem mv_X5_75 : vv_mv RX5 75 2 yX3_isFull cX3_isFull 1 (some .boolean) 0 := ⟨TX3, 3, rfl, Or.inl (vv_t2 (List.mem_of_getElem? (i := 157) rfl) rfl), vv_t2 (List.mem_of_getElem? (i := 34) rfl) rfl, vv_t2 (List.mem_of_getElem? (i := 35) rfl) rfl, vv_t1 (List.mem_of_getElem? (i := 3) rfl) rfl, vv_t2 (List.mem_of_getElem? (i := 36) rfl) rfl, ⟨by decide, by decide, by decide +kernel⟩, by decide⟩
theorem mv_X5_80 : vv_mv RX5 80 4 yX5_readString cX5_readString 3 (some .boolean) 1 := ⟨TX5, 6, rfl, Or.inl (vv_t2 (List.mem_of_getElem? (i := 158) rfl) rfl), vv_t2 (List.mem_of_getElem? (i := 160) rfl) rfl, vv_sel (q := (⟨"StringToll$Text", "readString", "(LStringToll$Province;)Z"⟩, 6)) (List.mem_append_left _ (List.mem_of_getElem? (l := lw_privs_1) (i := 11) rfl)), vv_t1 (List.mem_of_getElem? (i := 5) rfl) rfl, vv_t2 (List.mem_of_getElem? (i := 161) rfl) rfl, ⟨by decide, by decide, by decide +kernel⟩, by decide⟩
theorem mv_X5_85 : vv_mv RX5 85 4 yX5_readPurse cX5_readPurse 2 (some .boolean) 1 := ⟨TX5, 6, rfl, Or.inl (vv_t2 (List.mem_of_getElem? (i := 164) rfl) rfl), vv_t2 (List.mem_of_getElem? (i := 166) rfl) rfl, vv_sel (q := (⟨"StringToll$Text", "readPurse", "(LStringToll$Province;)Z"⟩, 6)) (List.mem_append_left _ (List.mem_of_getElem? (l := lw_privs_1) (i := 12) rfl)), vv_t1 (List.mem_of_getElem? (i := 5) rfl) rfl, vv_t2 (List.mem_of_getElem? (i := 167) rfl) rfl, ⟨by decide, by decide, by decide +kernel⟩, by decide⟩
theorem mv_X5_93 : vv_mv RX5 93 1 yX2_sendString cX2_sendString 4 (some .boolean) 1 := ⟨TX2, 12, rfl, Or.inl (vv_t2 (List.mem_of_getElem? (i := 169) rfl) rfl), vv_t2 (List.mem_of_getElem? (i := 170) rfl) rfl, vv_t2 (List.mem_of_getElem? (i := 171) rfl) rfl, vv_t1 (List.mem_of_getElem? (i := 2) rfl) rfl, vv_t2 (List.mem_of_getElem? (i := 172) rfl) rfl, ⟨by decide, by decide, by decide +kernel⟩, by decide⟩
theorem mv_X5_99 : vv_mv RX5 99 4 yX5_readWait cX5_readWait 2 (some .boolean) 1 := ⟨TX5, 6, rfl, Or.inl (vv_t2 (List.mem_of_getElem? (i := 208) rfl) rfl), vv_t2 (List.mem_of_getElem? (i := 210) rfl) rfl, vv_sel (q := (⟨"StringToll$Text", "readWait", "(LStringToll$Province;)Z"⟩, 6)) (List.mem_append_left _ (List.mem_of_getElem? (l := lw_privs_1) (i := 14) rfl)), vv_t1 (List.mem_of_getElem? (i := 5) rfl) rfl, vv_t2 (List.mem_of_getElem? (i := 211) rfl) rfl, ⟨by decide, by decide, by decide +kernel⟩, by decide⟩
theorem mv_X5_104 : vv_mv RX5 104 1 yX2_setHouse cX2_setHouse 3 none 2 := ⟨TX2, 12, rfl, Or.inl (vv_t2 (List.mem_of_getElem? (i := 155) rfl) rfl), vv_t2 (List.mem_of_getElem? (i := 25) rfl) rfl, vv_t2 (List.mem_of_getElem? (i := 26) rfl) rfl, vv_t1 (List.mem_of_getElem? (i := 2) rfl) rfl, vv_t2 (List.mem_of_getElem? (i := 27) rfl) rfl, ⟨by decide, by decide, by decide +kernel⟩, by decide⟩
theorem mv_X5_107 : vv_mv RX5 107 2 yX3_put cX3_put 6 none 4 := ⟨TX3, 3, rfl, Or.inl (vv_t2 (List.mem_of_getElem? (i := 162) rfl) rfl), vv_t2 (List.mem_of_getElem? (i := 42) rfl) rfl, vv_t2 (List.mem_of_getElem? (i := 43) rfl) rfl, vv_t1 (List.mem_of_getElem? (i := 3) rfl) rfl, vv_t2 (List.mem_of_getElem? (i := 44) rfl) rfl, ⟨by decide, by decide, by decide +kernel⟩, by decide⟩
theorem mv_X5_113 : vv_mv RX5 113 1 yX2_waitHours cX2_waitHours 2 none 1 := ⟨TX2, 12, rfl, Or.inl (vv_t2 (List.mem_of_getElem? (i := 212) rfl) rfl), vv_t2 (List.mem_of_getElem? (i := 213) rfl) rfl, vv_t2 (List.mem_of_getElem? (i := 214) rfl) rfl, vv_t1 (List.mem_of_getElem? (i := 2) rfl) rfl, vv_t2 (List.mem_of_getElem? (i := 215) rfl) rfl, ⟨by decide, by decide, by decide +kernel⟩, by decide⟩
theorem mv_X5_126 : vv_mv RX5 126 4 yX5_tokenAt cX5_tokenAt 3 (some .int) 1 := ⟨TX5, 6, rfl, Or.inl (vv_t2 (List.mem_of_getElem? (i := 75) rfl) rfl), vv_t2 (List.mem_of_getElem? (i := 77) rfl) rfl, vv_sel (q := (⟨"StringToll$Text", "tokenAt", "(I)I"⟩, 6)) (List.mem_append_left _ (List.mem_of_getElem? (l := lw_privs_1) (i := 4) rfl)), vv_t1 (List.mem_of_getElem? (i := 5) rfl) rfl, vv_t2 (List.mem_of_getElem? (i := 78) rfl) rfl, ⟨by decide, by decide, by decide +kernel⟩, by decide⟩
theorem mv_X5_136 : vv_mv RX5 136 4 yX5_takeFigures cX5_takeFigures 2 none 0 := ⟨TX5, 6, rfl, Or.inl (vv_t2 (List.mem_of_getElem? (i := 80) rfl) rfl), vv_t2 (List.mem_of_getElem? (i := 82) rfl) rfl, vv_sel (q := (⟨"StringToll$Text", "takeFigures", "()V"⟩, 6)) (List.mem_append_left _ (List.mem_of_getElem? (l := lw_privs_1) (i := 5) rfl)), vv_t1 (List.mem_of_getElem? (i := 5) rfl) rfl, vv_t2 (List.mem_of_getElem? (i := 83) rfl) rfl, ⟨by decide, by decide, by decide +kernel⟩, by decide⟩
theorem mv_X6_20 : vv_mv RX6 20 5 yX6_reckonPair cX6_reckonPair 11 none 3 := ⟨TX6, 2, rfl, Or.inl (vv_t3 (List.mem_of_getElem? (i := 202) rfl) rfl), vv_t3 (List.mem_of_getElem? (i := 204) rfl) rfl, vv_sel (q := (⟨"StringToll$TwoEnds", "reckonPair", "(LStringToll$Province;II)V"⟩, 2)) (List.mem_append_right _ (List.mem_append_left _ (List.mem_of_getElem? (l := lw_privs_2) (i := 8) rfl))), vv_t1 (List.mem_of_getElem? (i := 8) rfl) rfl, vv_t3 (List.mem_of_getElem? (i := 205) rfl) rfl, ⟨by decide, by decide, by decide +kernel⟩, by decide⟩
theorem mv_X6_24 : vv_mv RX6 24 5 yX6_rests cX6_rests 5 (some .boolean) 2 := ⟨TX6, 2, rfl, Or.inl (vv_t3 (List.mem_of_getElem? (i := 214) rfl) rfl), vv_t3 (List.mem_of_getElem? (i := 216) rfl) rfl, vv_sel (q := (⟨"StringToll$TwoEnds", "rests", "(II)Z"⟩, 2)) (List.mem_append_right _ (List.mem_append_left _ (List.mem_of_getElem? (l := lw_privs_2) (i := 9) rfl))), vv_t1 (List.mem_of_getElem? (i := 8) rfl) rfl, vv_t3 (List.mem_of_getElem? (i := 217) rfl) rfl, ⟨by decide, by decide, by decide +kernel⟩, by decide⟩
theorem mv_X6_43 : vv_mv RX6 43 1 yX2_shownIn cX2_shownIn 3 (some .int) 2 := ⟨TX2, 12, rfl, Or.inl (vv_t3 (List.mem_of_getElem? (i := 206) rfl) rfl), vv_t2 (List.mem_of_getElem? (i := 174) rfl) rfl, vv_t2 (List.mem_of_getElem? (i := 175) rfl) rfl, vv_t1 (List.mem_of_getElem? (i := 2) rfl) rfl, vv_t2 (List.mem_of_getElem? (i := 176) rfl) rfl, ⟨by decide, by decide, by decide +kernel⟩, by decide⟩
theorem ms_X6_47 : vv_ms RX6 47 yX1_charged cX1_charged 6 (some .int) 3 := ⟨Or.inl (vv_t3 (List.mem_of_getElem? (i := 207) rfl) rfl), vv_t2 (List.mem_of_getElem? (i := 198) rfl) rfl, vv_t1 (List.mem_of_getElem? (i := 10) rfl) rfl, vv_t2 (List.mem_of_getElem? (i := 199) rfl) rfl, ⟨by decide, by decide, by decide +kernel⟩, by decide⟩
theorem mv_X6_51 : vv_mv RX6 51 1 yX2_bringing cX2_bringing 2 (some .int) 1 := ⟨TX2, 12, rfl, Or.inl (vv_t3 (List.mem_of_getElem? (i := 208) rfl) rfl), vv_t2 (List.mem_of_getElem? (i := 201) rfl) rfl, vv_t2 (List.mem_of_getElem? (i := 202) rfl) rfl, vv_t1 (List.mem_of_getElem? (i := 2) rfl) rfl, vv_t2 (List.mem_of_getElem? (i := 203) rfl) rfl, ⟨by decide, by decide, by decide +kernel⟩, by decide⟩
theorem ms_X6_55 : vv_ms RX6 55 yX1_known cX1_known 1 (some .boolean) 1 := ⟨Or.inl (vv_t3 (List.mem_of_getElem? (i := 209) rfl) rfl), vv_t2 (List.mem_of_getElem? (i := 17) rfl) rfl, vv_t1 (List.mem_of_getElem? (i := 10) rfl) rfl, vv_t2 (List.mem_of_getElem? (i := 18) rfl) rfl, ⟨by decide, by decide, by decide +kernel⟩, by decide⟩
theorem mv_L_13 : vv_mv RL 13 6 yX7_province cX7_province 4 (some .int) 2 := ⟨TX7, 15, rfl, Or.inl (vv_t1 (List.mem_of_getElem? (i := 233) rfl) rfl), vv_t1 (List.mem_of_getElem? (i := 234) rfl) rfl, vv_t1 (List.mem_of_getElem? (i := 235) rfl) rfl, vv_t1 (List.mem_of_getElem? (i := 1) rfl) rfl, vv_t1 (List.mem_of_getElem? (i := 236) rfl) rfl, ⟨by decide, by decide, by decide +kernel⟩, by decide⟩
theorem mv_L_17 : vv_mv RL 17 7 yX8_province cX8_province 4 (some .int) 2 := ⟨TX8, 18, rfl, Or.inl (vv_t4 (List.mem_of_getElem? (i := 114) rfl) rfl), vv_t4 (List.mem_of_getElem? (i := 115) rfl) rfl, vv_t4 (List.mem_of_getElem? (i := 116) rfl) rfl, vv_t1 (List.mem_of_getElem? (i := 9) rfl) rfl, vv_t4 (List.mem_of_getElem? (i := 117) rfl) rfl, ⟨by decide, by decide, by decide +kernel⟩, by decide⟩
theorem mv_L_18 : vv_mv RL 18 6 yX7_house cX7_house 4 (some .int) 2 := ⟨TX7, 15, rfl, Or.inl (vv_t2 (List.mem_of_getElem? (i := 12) rfl) rfl), vv_t2 (List.mem_of_getElem? (i := 13) rfl) rfl, vv_t2 (List.mem_of_getElem? (i := 14) rfl) rfl, vv_t1 (List.mem_of_getElem? (i := 1) rfl) rfl, vv_t2 (List.mem_of_getElem? (i := 15) rfl) rfl, ⟨by decide, by decide, by decide +kernel⟩, by decide⟩
theorem mv_L_21 : vv_mv RL 21 7 yX8_house cX8_house 4 (some .int) 2 := ⟨TX8, 18, rfl, Or.inl (vv_t4 (List.mem_of_getElem? (i := 127) rfl) rfl), vv_t4 (List.mem_of_getElem? (i := 128) rfl) rfl, vv_t4 (List.mem_of_getElem? (i := 129) rfl) rfl, vv_t1 (List.mem_of_getElem? (i := 9) rfl) rfl, vv_t4 (List.mem_of_getElem? (i := 130) rfl) rfl, ⟨by decide, by decide, by decide +kernel⟩, by decide⟩
theorem mv_L_22 : vv_mv RL 22 6 yX7_string cX7_string 3 (some .int) 2 := ⟨TX7, 15, rfl, Or.inl (vv_t2 (List.mem_of_getElem? (i := 29) rfl) rfl), vv_t2 (List.mem_of_getElem? (i := 30) rfl) rfl, vv_t2 (List.mem_of_getElem? (i := 31) rfl) rfl, vv_t1 (List.mem_of_getElem? (i := 1) rfl) rfl, vv_t2 (List.mem_of_getElem? (i := 32) rfl) rfl, ⟨by decide, by decide, by decide +kernel⟩, by decide⟩
theorem mv_L_25 : vv_mv RL 25 7 yX8_string cX8_string 3 (some .int) 2 := ⟨TX8, 18, rfl, Or.inl (vv_t4 (List.mem_of_getElem? (i := 135) rfl) rfl), vv_t4 (List.mem_of_getElem? (i := 136) rfl) rfl, vv_t4 (List.mem_of_getElem? (i := 137) rfl) rfl, vv_t1 (List.mem_of_getElem? (i := 9) rfl) rfl, vv_t4 (List.mem_of_getElem? (i := 138) rfl) rfl, ⟨by decide, by decide, by decide +kernel⟩, by decide⟩
theorem mv_L_26 : vv_mv RL 26 6 yX7_type cX7_type 2 (some .int) 1 := ⟨TX7, 15, rfl, Or.inl (vv_t2 (List.mem_of_getElem? (i := 46) rfl) rfl), vv_t2 (List.mem_of_getElem? (i := 47) rfl) rfl, vv_t2 (List.mem_of_getElem? (i := 48) rfl) rfl, vv_t1 (List.mem_of_getElem? (i := 1) rfl) rfl, vv_t2 (List.mem_of_getElem? (i := 49) rfl) rfl, ⟨by decide, by decide, by decide +kernel⟩, by decide⟩
theorem mv_L_30 : vv_mv RL 30 7 yX8_type cX8_type 2 (some .int) 1 := ⟨TX8, 18, rfl, Or.inl (vv_t4 (List.mem_of_getElem? (i := 147) rfl) rfl), vv_t4 (List.mem_of_getElem? (i := 148) rfl) rfl, vv_t4 (List.mem_of_getElem? (i := 149) rfl) rfl, vv_t1 (List.mem_of_getElem? (i := 9) rfl) rfl, vv_t4 (List.mem_of_getElem? (i := 150) rfl) rfl, ⟨by decide, by decide, by decide +kernel⟩, by decide⟩
theorem mv_L_31 : vv_mv RL 31 6 yX7_clear cX7_clear 2 (some .int) 0 := ⟨TX7, 15, rfl, Or.inl (vv_t2 (List.mem_of_getElem? (i := 55) rfl) rfl), vv_t2 (List.mem_of_getElem? (i := 56) rfl) rfl, vv_t2 (List.mem_of_getElem? (i := 57) rfl) rfl, vv_t1 (List.mem_of_getElem? (i := 1) rfl) rfl, vv_t2 (List.mem_of_getElem? (i := 58) rfl) rfl, ⟨by decide, by decide, by decide +kernel⟩, by decide⟩
theorem mv_L_35 : vv_mv RL 35 7 yX8_clear cX8_clear 2 (some .int) 0 := ⟨TX8, 18, rfl, Or.inl (vv_t4 (List.mem_of_getElem? (i := 152) rfl) rfl), vv_t4 (List.mem_of_getElem? (i := 153) rfl) rfl, vv_t4 (List.mem_of_getElem? (i := 154) rfl) rfl, vv_t1 (List.mem_of_getElem? (i := 9) rfl) rfl, vv_t4 (List.mem_of_getElem? (i := 155) rfl) rfl, ⟨by decide, by decide, by decide +kernel⟩, by decide⟩
theorem mv_L_36 : vv_mv RL 36 6 yX7_read cX7_read 3 (some .int) 0 := ⟨TX7, 15, rfl, Or.inl (vv_t2 (List.mem_of_getElem? (i := 59) rfl) rfl), vv_t2 (List.mem_of_getElem? (i := 60) rfl) rfl, vv_t2 (List.mem_of_getElem? (i := 61) rfl) rfl, vv_t1 (List.mem_of_getElem? (i := 1) rfl) rfl, vv_t2 (List.mem_of_getElem? (i := 62) rfl) rfl, ⟨by decide, by decide, by decide +kernel⟩, by decide⟩
theorem mv_L_39 : vv_mv RL 39 7 yX8_read cX8_read 3 (some .int) 0 := ⟨TX8, 18, rfl, Or.inl (vv_t4 (List.mem_of_getElem? (i := 156) rfl) rfl), vv_t4 (List.mem_of_getElem? (i := 157) rfl) rfl, vv_t4 (List.mem_of_getElem? (i := 158) rfl) rfl, vv_t1 (List.mem_of_getElem? (i := 9) rfl) rfl, vv_t4 (List.mem_of_getElem? (i := 159) rfl) rfl, ⟨by decide, by decide, by decide +kernel⟩, by decide⟩
theorem mv_L_40 : vv_mv RL 40 6 yX7_sends cX7_sends 2 (some .int) 1 := ⟨TX7, 15, rfl, Or.inl (vv_t2 (List.mem_of_getElem? (i := 217) rfl) rfl), vv_t2 (List.mem_of_getElem? (i := 218) rfl) rfl, vv_t2 (List.mem_of_getElem? (i := 219) rfl) rfl, vv_t1 (List.mem_of_getElem? (i := 1) rfl) rfl, vv_t2 (List.mem_of_getElem? (i := 220) rfl) rfl, ⟨by decide, by decide, by decide +kernel⟩, by decide⟩
theorem mv_L_43 : vv_mv RL 43 7 yX8_sends cX8_sends 2 (some .int) 1 := ⟨TX8, 18, rfl, Or.inl (vv_t5 (List.mem_of_getElem? (i := 34) rfl) rfl), vv_t5 (List.mem_of_getElem? (i := 35) rfl) rfl, vv_t5 (List.mem_of_getElem? (i := 36) rfl) rfl, vv_t1 (List.mem_of_getElem? (i := 9) rfl) rfl, vv_t5 (List.mem_of_getElem? (i := 37) rfl) rfl, ⟨by decide, by decide, by decide +kernel⟩, by decide⟩
theorem mv_L_44 : vv_mv RL 44 6 yX7_waits cX7_waits 2 (some .int) 1 := ⟨TX7, 15, rfl, Or.inl (vv_t3 (List.mem_of_getElem? (i := 6) rfl) rfl), vv_t3 (List.mem_of_getElem? (i := 7) rfl) rfl, vv_t3 (List.mem_of_getElem? (i := 8) rfl) rfl, vv_t1 (List.mem_of_getElem? (i := 1) rfl) rfl, vv_t3 (List.mem_of_getElem? (i := 9) rfl) rfl, ⟨by decide, by decide, by decide +kernel⟩, by decide⟩
theorem mv_L_47 : vv_mv RL 47 7 yX8_waits cX8_waits 2 (some .int) 1 := ⟨TX8, 18, rfl, Or.inl (vv_t5 (List.mem_of_getElem? (i := 50) rfl) rfl), vv_t5 (List.mem_of_getElem? (i := 51) rfl) rfl, vv_t5 (List.mem_of_getElem? (i := 52) rfl) rfl, vv_t1 (List.mem_of_getElem? (i := 9) rfl) rfl, vv_t5 (List.mem_of_getElem? (i := 53) rfl) rfl, ⟨by decide, by decide, by decide +kernel⟩, by decide⟩
theorem mv_L_48 : vv_mv RL 48 6 yX7_undo cX7_undo 1 (some .int) 0 := ⟨TX7, 15, rfl, Or.inl (vv_t3 (List.mem_of_getElem? (i := 11) rfl) rfl), vv_t3 (List.mem_of_getElem? (i := 12) rfl) rfl, vv_t3 (List.mem_of_getElem? (i := 13) rfl) rfl, vv_t1 (List.mem_of_getElem? (i := 1) rfl) rfl, vv_t3 (List.mem_of_getElem? (i := 14) rfl) rfl, ⟨by decide, by decide, by decide +kernel⟩, by decide⟩
theorem mv_L_51 : vv_mv RL 51 7 yX8_undo cX8_undo 2 (some .int) 0 := ⟨TX8, 18, rfl, Or.inl (vv_t5 (List.mem_of_getElem? (i := 55) rfl) rfl), vv_t5 (List.mem_of_getElem? (i := 56) rfl) rfl, vv_t5 (List.mem_of_getElem? (i := 57) rfl) rfl, vv_t1 (List.mem_of_getElem? (i := 9) rfl) rfl, vv_t5 (List.mem_of_getElem? (i := 58) rfl) rfl, ⟨by decide, by decide, by decide +kernel⟩, by decide⟩
theorem mv_L_52 : vv_mv RL 52 6 yX7_of cX7_of 3 (some .int) 2 := ⟨TX7, 15, rfl, Or.inl (vv_t3 (List.mem_of_getElem? (i := 23) rfl) rfl), vv_t3 (List.mem_of_getElem? (i := 24) rfl) rfl, vv_t3 (List.mem_of_getElem? (i := 25) rfl) rfl, vv_t1 (List.mem_of_getElem? (i := 1) rfl) rfl, vv_t3 (List.mem_of_getElem? (i := 26) rfl) rfl, ⟨by decide, by decide, by decide +kernel⟩, by decide⟩
theorem mv_L_55 : vv_mv RL 55 7 yX8_of cX8_of 3 (some .int) 2 := ⟨TX8, 18, rfl, Or.inl (vv_t5 (List.mem_of_getElem? (i := 59) rfl) rfl), vv_t5 (List.mem_of_getElem? (i := 60) rfl) rfl, vv_t5 (List.mem_of_getElem? (i := 61) rfl) rfl, vv_t1 (List.mem_of_getElem? (i := 9) rfl) rfl, vv_t5 (List.mem_of_getElem? (i := 62) rfl) rfl, ⟨by decide, by decide, by decide +kernel⟩, by decide⟩
theorem mv_L_56 : vv_mv RL 56 6 yX7_now cX7_now 2 (some .int) 1 := ⟨TX7, 15, rfl, Or.inl (vv_t3 (List.mem_of_getElem? (i := 29) rfl) rfl), vv_t3 (List.mem_of_getElem? (i := 30) rfl) rfl, vv_t3 (List.mem_of_getElem? (i := 31) rfl) rfl, vv_t1 (List.mem_of_getElem? (i := 1) rfl) rfl, vv_t3 (List.mem_of_getElem? (i := 32) rfl) rfl, ⟨by decide, by decide, by decide +kernel⟩, by decide⟩
theorem mv_L_59 : vv_mv RL 59 7 yX8_now cX8_now 2 (some .int) 1 := ⟨TX8, 18, rfl, Or.inl (vv_t5 (List.mem_of_getElem? (i := 63) rfl) rfl), vv_t5 (List.mem_of_getElem? (i := 64) rfl) rfl, vv_t5 (List.mem_of_getElem? (i := 65) rfl) rfl, vv_t1 (List.mem_of_getElem? (i := 9) rfl) rfl, vv_t5 (List.mem_of_getElem? (i := 66) rfl) rfl, ⟨by decide, by decide, by decide +kernel⟩, by decide⟩
theorem mv_L_60 : vv_mv RL 60 6 yX7_asks cX7_asks 4 (some .int) 3 := ⟨TX7, 15, rfl, Or.inl (vv_t3 (List.mem_of_getElem? (i := 37) rfl) rfl), vv_t3 (List.mem_of_getElem? (i := 38) rfl) rfl, vv_t3 (List.mem_of_getElem? (i := 39) rfl) rfl, vv_t1 (List.mem_of_getElem? (i := 1) rfl) rfl, vv_t3 (List.mem_of_getElem? (i := 40) rfl) rfl, ⟨by decide, by decide, by decide +kernel⟩, by decide⟩
theorem mv_L_64 : vv_mv RL 64 7 yX8_asks cX8_asks 4 (some .int) 3 := ⟨TX8, 18, rfl, Or.inl (vv_t5 (List.mem_of_getElem? (i := 68) rfl) rfl), vv_t5 (List.mem_of_getElem? (i := 69) rfl) rfl, vv_t5 (List.mem_of_getElem? (i := 70) rfl) rfl, vv_t1 (List.mem_of_getElem? (i := 9) rfl) rfl, vv_t5 (List.mem_of_getElem? (i := 71) rfl) rfl, ⟨by decide, by decide, by decide +kernel⟩, by decide⟩
theorem mv_L_65 : vv_mv RL 65 6 yX7_cheapest cX7_cheapest 7 (some .int) 2 := ⟨TX7, 15, rfl, Or.inl (vv_t3 (List.mem_of_getElem? (i := 42) rfl) rfl), vv_t3 (List.mem_of_getElem? (i := 43) rfl) rfl, vv_t3 (List.mem_of_getElem? (i := 44) rfl) rfl, vv_t1 (List.mem_of_getElem? (i := 1) rfl) rfl, vv_t3 (List.mem_of_getElem? (i := 45) rfl) rfl, ⟨by decide, by decide, by decide +kernel⟩, by decide⟩
theorem mv_L_68 : vv_mv RL 68 7 yX8_cheapest cX8_cheapest 7 (some .int) 2 := ⟨TX8, 18, rfl, Or.inl (vv_t5 (List.mem_of_getElem? (i := 73) rfl) rfl), vv_t5 (List.mem_of_getElem? (i := 74) rfl) rfl, vv_t5 (List.mem_of_getElem? (i := 75) rfl) rfl, vv_t1 (List.mem_of_getElem? (i := 9) rfl) rfl, vv_t5 (List.mem_of_getElem? (i := 76) rfl) rfl, ⟨by decide, by decide, by decide +kernel⟩, by decide⟩
theorem mv_L_69 : vv_mv RL 69 6 yX7_cuts cX7_cuts 8 (some .int) 3 := ⟨TX7, 15, rfl, Or.inl (vv_t3 (List.mem_of_getElem? (i := 46) rfl) rfl), vv_t3 (List.mem_of_getElem? (i := 47) rfl) rfl, vv_t3 (List.mem_of_getElem? (i := 48) rfl) rfl, vv_t1 (List.mem_of_getElem? (i := 1) rfl) rfl, vv_t3 (List.mem_of_getElem? (i := 49) rfl) rfl, ⟨by decide, by decide, by decide +kernel⟩, by decide⟩
theorem mv_L_72 : vv_mv RL 72 7 yX8_cuts cX8_cuts 8 (some .int) 3 := ⟨TX8, 18, rfl, Or.inl (vv_t5 (List.mem_of_getElem? (i := 78) rfl) rfl), vv_t5 (List.mem_of_getElem? (i := 79) rfl) rfl, vv_t5 (List.mem_of_getElem? (i := 80) rfl) rfl, vv_t1 (List.mem_of_getElem? (i := 9) rfl) rfl, vv_t5 (List.mem_of_getElem? (i := 81) rfl) rfl, ⟨by decide, by decide, by decide +kernel⟩, by decide⟩
theorem mv_L_73 : vv_mv RL 73 6 yX7_row cX7_row 2 (some .int) 1 := ⟨TX7, 15, rfl, Or.inl (vv_t3 (List.mem_of_getElem? (i := 54) rfl) rfl), vv_t3 (List.mem_of_getElem? (i := 55) rfl) rfl, vv_t3 (List.mem_of_getElem? (i := 56) rfl) rfl, vv_t1 (List.mem_of_getElem? (i := 1) rfl) rfl, vv_t3 (List.mem_of_getElem? (i := 57) rfl) rfl, ⟨by decide, by decide, by decide +kernel⟩, by decide⟩
theorem mv_L_76 : vv_mv RL 76 7 yX8_row cX8_row 3 (some .int) 1 := ⟨TX8, 18, rfl, Or.inl (vv_t5 (List.mem_of_getElem? (i := 86) rfl) rfl), vv_t5 (List.mem_of_getElem? (i := 87) rfl) rfl, vv_t5 (List.mem_of_getElem? (i := 88) rfl) rfl, vv_t1 (List.mem_of_getElem? (i := 9) rfl) rfl, vv_t5 (List.mem_of_getElem? (i := 89) rfl) rfl, ⟨by decide, by decide, by decide +kernel⟩, by decide⟩
theorem mv_L_77 : vv_mv RL 77 6 yX7_came cX7_came 3 (some .int) 2 := ⟨TX7, 15, rfl, Or.inl (vv_t3 (List.mem_of_getElem? (i := 86) rfl) rfl), vv_t3 (List.mem_of_getElem? (i := 87) rfl) rfl, vv_t3 (List.mem_of_getElem? (i := 88) rfl) rfl, vv_t1 (List.mem_of_getElem? (i := 1) rfl) rfl, vv_t3 (List.mem_of_getElem? (i := 89) rfl) rfl, ⟨by decide, by decide, by decide +kernel⟩, by decide⟩
theorem mv_L_80 : vv_mv RL 80 7 yX8_came cX8_came 3 (some .int) 2 := ⟨TX8, 18, rfl, Or.inl (vv_t5 (List.mem_of_getElem? (i := 97) rfl) rfl), vv_t5 (List.mem_of_getElem? (i := 98) rfl) rfl, vv_t5 (List.mem_of_getElem? (i := 99) rfl) rfl, vv_t1 (List.mem_of_getElem? (i := 9) rfl) rfl, vv_t5 (List.mem_of_getElem? (i := 100) rfl) rfl, ⟨by decide, by decide, by decide +kernel⟩, by decide⟩
theorem mv_L_81 : vv_mv RL 81 6 yX7_lines cX7_lines 2 (some .int) 1 := ⟨TX7, 15, rfl, Or.inl (vv_t3 (List.mem_of_getElem? (i := 94) rfl) rfl), vv_t3 (List.mem_of_getElem? (i := 95) rfl) rfl, vv_t3 (List.mem_of_getElem? (i := 96) rfl) rfl, vv_t1 (List.mem_of_getElem? (i := 1) rfl) rfl, vv_t3 (List.mem_of_getElem? (i := 97) rfl) rfl, ⟨by decide, by decide, by decide +kernel⟩, by decide⟩
theorem mv_L_84 : vv_mv RL 84 7 yX8_lines cX8_lines 6 (some .int) 1 := ⟨TX8, 18, rfl, Or.inl (vv_t5 (List.mem_of_getElem? (i := 101) rfl) rfl), vv_t5 (List.mem_of_getElem? (i := 102) rfl) rfl, vv_t5 (List.mem_of_getElem? (i := 103) rfl) rfl, vv_t1 (List.mem_of_getElem? (i := 9) rfl) rfl, vv_t5 (List.mem_of_getElem? (i := 104) rfl) rfl, ⟨by decide, by decide, by decide +kernel⟩, by decide⟩
theorem mv_L_85 : vv_mv RL 85 6 yX7_tries cX7_tries 1 (some .int) 0 := ⟨TX7, 15, rfl, Or.inl (vv_t3 (List.mem_of_getElem? (i := 116) rfl) rfl), vv_t3 (List.mem_of_getElem? (i := 117) rfl) rfl, vv_t3 (List.mem_of_getElem? (i := 118) rfl) rfl, vv_t1 (List.mem_of_getElem? (i := 1) rfl) rfl, vv_t3 (List.mem_of_getElem? (i := 119) rfl) rfl, ⟨by decide, by decide, by decide +kernel⟩, by decide⟩
theorem mv_L_88 : vv_mv RL 88 7 yX8_tries cX8_tries 8 (some .int) 0 := ⟨TX8, 18, rfl, Or.inl (vv_t5 (List.mem_of_getElem? (i := 109) rfl) rfl), vv_t5 (List.mem_of_getElem? (i := 110) rfl) rfl, vv_t5 (List.mem_of_getElem? (i := 111) rfl) rfl, vv_t1 (List.mem_of_getElem? (i := 9) rfl) rfl, vv_t5 (List.mem_of_getElem? (i := 112) rfl) rfl, ⟨by decide, by decide, by decide +kernel⟩, by decide⟩
theorem mv_L_89 : vv_mv RL 89 6 yX7_note cX7_note 5 (some .int) 4 := ⟨TX7, 15, rfl, Or.inl (vv_t3 (List.mem_of_getElem? (i := 128) rfl) rfl), vv_t3 (List.mem_of_getElem? (i := 129) rfl) rfl, vv_t3 (List.mem_of_getElem? (i := 130) rfl) rfl, vv_t1 (List.mem_of_getElem? (i := 1) rfl) rfl, vv_t3 (List.mem_of_getElem? (i := 131) rfl) rfl, ⟨by decide, by decide, by decide +kernel⟩, by decide⟩
theorem mv_L_93 : vv_mv RL 93 7 yX8_note cX8_note 6 (some .int) 4 := ⟨TX8, 18, rfl, Or.inl (vv_t5 (List.mem_of_getElem? (i := 113) rfl) rfl), vv_t5 (List.mem_of_getElem? (i := 114) rfl) rfl, vv_t5 (List.mem_of_getElem? (i := 115) rfl) rfl, vv_t1 (List.mem_of_getElem? (i := 9) rfl) rfl, vv_t5 (List.mem_of_getElem? (i := 116) rfl) rfl, ⟨by decide, by decide, by decide +kernel⟩, by decide⟩
theorem mv_L_94 : vv_mv RL 94 6 yX7_mark cX7_mark 5 (some .int) 4 := ⟨TX7, 15, rfl, Or.inl (vv_t3 (List.mem_of_getElem? (i := 132) rfl) rfl), vv_t3 (List.mem_of_getElem? (i := 133) rfl) rfl, vv_t3 (List.mem_of_getElem? (i := 134) rfl) rfl, vv_t1 (List.mem_of_getElem? (i := 1) rfl) rfl, vv_t3 (List.mem_of_getElem? (i := 135) rfl) rfl, ⟨by decide, by decide, by decide +kernel⟩, by decide⟩
theorem mv_L_97 : vv_mv RL 97 7 yX8_mark cX8_mark 6 (some .int) 4 := ⟨TX8, 18, rfl, Or.inl (vv_t5 (List.mem_of_getElem? (i := 119) rfl) rfl), vv_t5 (List.mem_of_getElem? (i := 120) rfl) rfl, vv_t5 (List.mem_of_getElem? (i := 121) rfl) rfl, vv_t1 (List.mem_of_getElem? (i := 9) rfl) rfl, vv_t5 (List.mem_of_getElem? (i := 122) rfl) rfl, ⟨by decide, by decide, by decide +kernel⟩, by decide⟩
theorem mv_L_98 : vv_mv RL 98 6 yX7_forget cX7_forget 4 (some .int) 1 := ⟨TX7, 15, rfl, Or.inl (vv_t3 (List.mem_of_getElem? (i := 136) rfl) rfl), vv_t3 (List.mem_of_getElem? (i := 137) rfl) rfl, vv_t3 (List.mem_of_getElem? (i := 138) rfl) rfl, vv_t1 (List.mem_of_getElem? (i := 1) rfl) rfl, vv_t3 (List.mem_of_getElem? (i := 139) rfl) rfl, ⟨by decide, by decide, by decide +kernel⟩, by decide⟩
theorem mv_L_101 : vv_mv RL 101 7 yX8_forget cX8_forget 4 (some .int) 1 := ⟨TX8, 18, rfl, Or.inl (vv_t5 (List.mem_of_getElem? (i := 123) rfl) rfl), vv_t5 (List.mem_of_getElem? (i := 124) rfl) rfl, vv_t5 (List.mem_of_getElem? (i := 125) rfl) rfl, vv_t1 (List.mem_of_getElem? (i := 9) rfl) rfl, vv_t5 (List.mem_of_getElem? (i := 126) rfl) rfl, ⟨by decide, by decide, by decide +kernel⟩, by decide⟩
theorem mv_L_102 : vv_mv RL 102 6 yX7_is cX7_is 2 (some .int) 1 := ⟨TX7, 15, rfl, Or.inl (vv_t3 (List.mem_of_getElem? (i := 140) rfl) rfl), vv_t3 (List.mem_of_getElem? (i := 141) rfl) rfl, vv_t3 (List.mem_of_getElem? (i := 142) rfl) rfl, vv_t1 (List.mem_of_getElem? (i := 1) rfl) rfl, vv_t3 (List.mem_of_getElem? (i := 143) rfl) rfl, ⟨by decide, by decide, by decide +kernel⟩, by decide⟩
theorem mv_L_105 : vv_mv RL 105 7 yX8_is cX8_is 2 (some .int) 1 := ⟨TX8, 18, rfl, Or.inl (vv_t5 (List.mem_of_getElem? (i := 127) rfl) rfl), vv_t5 (List.mem_of_getElem? (i := 128) rfl) rfl, vv_t5 (List.mem_of_getElem? (i := 129) rfl) rfl, vv_t1 (List.mem_of_getElem? (i := 9) rfl) rfl, vv_t5 (List.mem_of_getElem? (i := 130) rfl) rfl, ⟨by decide, by decide, by decide +kernel⟩, by decide⟩
theorem mv_L_106 : vv_mv RL 106 6 yX7_look cX7_look 2 (some .int) 1 := ⟨TX7, 15, rfl, Or.inl (vv_t3 (List.mem_of_getElem? (i := 153) rfl) rfl), vv_t3 (List.mem_of_getElem? (i := 154) rfl) rfl, vv_t3 (List.mem_of_getElem? (i := 155) rfl) rfl, vv_t1 (List.mem_of_getElem? (i := 1) rfl) rfl, vv_t3 (List.mem_of_getElem? (i := 156) rfl) rfl, ⟨by decide, by decide, by decide +kernel⟩, by decide⟩
theorem mv_L_109 : vv_mv RL 109 7 yX8_look cX8_look 7 (some .int) 1 := ⟨TX8, 18, rfl, Or.inl (vv_t5 (List.mem_of_getElem? (i := 135) rfl) rfl), vv_t5 (List.mem_of_getElem? (i := 136) rfl) rfl, vv_t5 (List.mem_of_getElem? (i := 137) rfl) rfl, vv_t1 (List.mem_of_getElem? (i := 9) rfl) rfl, vv_t5 (List.mem_of_getElem? (i := 138) rfl) rfl, ⟨by decide, by decide, by decide +kernel⟩, by decide⟩
theorem mv_L_110 : vv_mv RL 110 6 yX7_kinds cX7_kinds 2 (some .int) 1 := ⟨TX7, 15, rfl, Or.inl (vv_t3 (List.mem_of_getElem? (i := 172) rfl) rfl), vv_t3 (List.mem_of_getElem? (i := 173) rfl) rfl, vv_t3 (List.mem_of_getElem? (i := 174) rfl) rfl, vv_t1 (List.mem_of_getElem? (i := 1) rfl) rfl, vv_t3 (List.mem_of_getElem? (i := 175) rfl) rfl, ⟨by decide, by decide, by decide +kernel⟩, by decide⟩
theorem mv_L_113 : vv_mv RL 113 7 yX8_kinds cX8_kinds 2 (some .int) 1 := ⟨TX8, 18, rfl, Or.inl (vv_t5 (List.mem_of_getElem? (i := 143) rfl) rfl), vv_t5 (List.mem_of_getElem? (i := 144) rfl) rfl, vv_t5 (List.mem_of_getElem? (i := 145) rfl) rfl, vv_t1 (List.mem_of_getElem? (i := 9) rfl) rfl, vv_t5 (List.mem_of_getElem? (i := 146) rfl) rfl, ⟨by decide, by decide, by decide +kernel⟩, by decide⟩
theorem mv_L_114 : vv_mv RL 114 6 yX7_ask cX7_ask 2 (some .int) 1 := ⟨TX7, 15, rfl, Or.inl (vv_t3 (List.mem_of_getElem? (i := 185) rfl) rfl), vv_t3 (List.mem_of_getElem? (i := 186) rfl) rfl, vv_t3 (List.mem_of_getElem? (i := 187) rfl) rfl, vv_t1 (List.mem_of_getElem? (i := 1) rfl) rfl, vv_t3 (List.mem_of_getElem? (i := 188) rfl) rfl, ⟨by decide, by decide, by decide +kernel⟩, by decide⟩
theorem mv_L_117 : vv_mv RL 117 7 yX8_ask cX8_ask 7 (some .int) 1 := ⟨TX8, 18, rfl, Or.inl (vv_t5 (List.mem_of_getElem? (i := 151) rfl) rfl), vv_t5 (List.mem_of_getElem? (i := 152) rfl) rfl, vv_t5 (List.mem_of_getElem? (i := 153) rfl) rfl, vv_t1 (List.mem_of_getElem? (i := 9) rfl) rfl, vv_t5 (List.mem_of_getElem? (i := 154) rfl) rfl, ⟨by decide, by decide, by decide +kernel⟩, by decide⟩
theorem mv_L_118 : vv_mv RL 118 6 yX7_ends cX7_ends 3 (some .int) 1 := ⟨TX7, 15, rfl, Or.inl (vv_t3 (List.mem_of_getElem? (i := 194) rfl) rfl), vv_t3 (List.mem_of_getElem? (i := 195) rfl) rfl, vv_t3 (List.mem_of_getElem? (i := 196) rfl) rfl, vv_t1 (List.mem_of_getElem? (i := 1) rfl) rfl, vv_t3 (List.mem_of_getElem? (i := 197) rfl) rfl, ⟨by decide, by decide, by decide +kernel⟩, by decide⟩
theorem mv_L_121 : vv_mv RL 121 7 yX8_ends cX8_ends 5 (some .int) 1 := ⟨TX8, 18, rfl, Or.inl (vv_t5 (List.mem_of_getElem? (i := 155) rfl) rfl), vv_t5 (List.mem_of_getElem? (i := 156) rfl) rfl, vv_t5 (List.mem_of_getElem? (i := 157) rfl) rfl, vv_t1 (List.mem_of_getElem? (i := 9) rfl) rfl, vv_t5 (List.mem_of_getElem? (i := 158) rfl) rfl, ⟨by decide, by decide, by decide +kernel⟩, by decide⟩
theorem mv_L_122 : vv_mv RL 122 6 yX7_scissors cX7_scissors 5 (some .int) 1 := ⟨TX7, 15, rfl, Or.inl (vv_t3 (List.mem_of_getElem? (i := 222) rfl) rfl), vv_t3 (List.mem_of_getElem? (i := 223) rfl) rfl, vv_t3 (List.mem_of_getElem? (i := 224) rfl) rfl, vv_t1 (List.mem_of_getElem? (i := 1) rfl) rfl, vv_t3 (List.mem_of_getElem? (i := 225) rfl) rfl, ⟨by decide, by decide, by decide +kernel⟩, by decide⟩
theorem mv_L_125 : vv_mv RL 125 7 yX8_scissors cX8_scissors 10 (some .int) 1 := ⟨TX8, 18, rfl, Or.inl (vv_t5 (List.mem_of_getElem? (i := 167) rfl) rfl), vv_t5 (List.mem_of_getElem? (i := 168) rfl) rfl, vv_t5 (List.mem_of_getElem? (i := 169) rfl) rfl, vv_t1 (List.mem_of_getElem? (i := 9) rfl) rfl, vv_t5 (List.mem_of_getElem? (i := 170) rfl) rfl, ⟨by decide, by decide, by decide +kernel⟩, by decide⟩
theorem mv_L_126 : vv_mv RL 126 6 yX7_nights cX7_nights 9 (some .int) 2 := ⟨TX7, 15, rfl, Or.inl (vv_t3 (List.mem_of_getElem? (i := 231) rfl) rfl), vv_t3 (List.mem_of_getElem? (i := 232) rfl) rfl, vv_t3 (List.mem_of_getElem? (i := 233) rfl) rfl, vv_t1 (List.mem_of_getElem? (i := 1) rfl) rfl, vv_t3 (List.mem_of_getElem? (i := 234) rfl) rfl, ⟨by decide, by decide, by decide +kernel⟩, by decide⟩
theorem mv_L_129 : vv_mv RL 129 7 yX8_nights cX8_nights 11 (some .int) 2 := ⟨TX8, 18, rfl, Or.inl (vv_t5 (List.mem_of_getElem? (i := 172) rfl) rfl), vv_t5 (List.mem_of_getElem? (i := 173) rfl) rfl, vv_t5 (List.mem_of_getElem? (i := 174) rfl) rfl, vv_t1 (List.mem_of_getElem? (i := 9) rfl) rfl, vv_t5 (List.mem_of_getElem? (i := 175) rfl) rfl, ⟨by decide, by decide, by decide +kernel⟩, by decide⟩
theorem mv_L_130 : vv_mv RL 130 6 yX7_part cX7_part 2 (some .long) 1 := ⟨TX7, 15, rfl, Or.inl (vv_t4 (List.mem_of_getElem? (i := 1) rfl) rfl), vv_t4 (List.mem_of_getElem? (i := 2) rfl) rfl, vv_t4 (List.mem_of_getElem? (i := 3) rfl) rfl, vv_t1 (List.mem_of_getElem? (i := 1) rfl) rfl, vv_t4 (List.mem_of_getElem? (i := 4) rfl) rfl, ⟨by decide, by decide, by decide +kernel⟩, by decide⟩
theorem mv_L_134 : vv_mv RL 134 7 yX8_part cX8_part 2 (some .long) 1 := ⟨TX8, 18, rfl, Or.inl (vv_t5 (List.mem_of_getElem? (i := 181) rfl) rfl), vv_t5 (List.mem_of_getElem? (i := 182) rfl) rfl, vv_t5 (List.mem_of_getElem? (i := 183) rfl) rfl, vv_t1 (List.mem_of_getElem? (i := 9) rfl) rfl, vv_t5 (List.mem_of_getElem? (i := 184) rfl) rfl, ⟨by decide, by decide, by decide +kernel⟩, by decide⟩
theorem mv_L_135 : vv_mv RL 135 6 yX7_image cX7_image 2 (some .int) 1 := ⟨TX7, 15, rfl, Or.inl (vv_t4 (List.mem_of_getElem? (i := 5) rfl) rfl), vv_t4 (List.mem_of_getElem? (i := 6) rfl) rfl, vv_t4 (List.mem_of_getElem? (i := 7) rfl) rfl, vv_t1 (List.mem_of_getElem? (i := 1) rfl) rfl, vv_t4 (List.mem_of_getElem? (i := 8) rfl) rfl, ⟨by decide, by decide, by decide +kernel⟩, by decide⟩
theorem mv_L_138 : vv_mv RL 138 7 yX8_image cX8_image 2 (some .int) 1 := ⟨TX8, 18, rfl, Or.inl (vv_t5 (List.mem_of_getElem? (i := 185) rfl) rfl), vv_t5 (List.mem_of_getElem? (i := 186) rfl) rfl, vv_t5 (List.mem_of_getElem? (i := 187) rfl) rfl, vv_t1 (List.mem_of_getElem? (i := 9) rfl) rfl, vv_t5 (List.mem_of_getElem? (i := 188) rfl) rfl, ⟨by decide, by decide, by decide +kernel⟩, by decide⟩
theorem mv_L_139 : vv_mv RL 139 6 yX7_from cX7_from 2 (some .int) 1 := ⟨TX7, 15, rfl, Or.inl (vv_t4 (List.mem_of_getElem? (i := 20) rfl) rfl), vv_t4 (List.mem_of_getElem? (i := 21) rfl) rfl, vv_t4 (List.mem_of_getElem? (i := 22) rfl) rfl, vv_t1 (List.mem_of_getElem? (i := 1) rfl) rfl, vv_t4 (List.mem_of_getElem? (i := 23) rfl) rfl, ⟨by decide, by decide, by decide +kernel⟩, by decide⟩
theorem mv_L_142 : vv_mv RL 142 7 yX8_from cX8_from 2 (some .int) 1 := ⟨TX8, 18, rfl, Or.inl (vv_t5 (List.mem_of_getElem? (i := 189) rfl) rfl), vv_t5 (List.mem_of_getElem? (i := 190) rfl) rfl, vv_t5 (List.mem_of_getElem? (i := 191) rfl) rfl, vv_t1 (List.mem_of_getElem? (i := 9) rfl) rfl, vv_t5 (List.mem_of_getElem? (i := 192) rfl) rfl, ⟨by decide, by decide, by decide +kernel⟩, by decide⟩
theorem mv_L_143 : vv_mv RL 143 6 yX7_status cX7_status 2 (some .int) 1 := ⟨TX7, 15, rfl, Or.inl (vv_t4 (List.mem_of_getElem? (i := 24) rfl) rfl), vv_t4 (List.mem_of_getElem? (i := 25) rfl) rfl, vv_t4 (List.mem_of_getElem? (i := 26) rfl) rfl, vv_t1 (List.mem_of_getElem? (i := 1) rfl) rfl, vv_t4 (List.mem_of_getElem? (i := 27) rfl) rfl, ⟨by decide, by decide, by decide +kernel⟩, by decide⟩
theorem mv_L_146 : vv_mv RL 146 7 yX8_status cX8_status 2 (some .int) 1 := ⟨TX8, 18, rfl, Or.inl (vv_t5 (List.mem_of_getElem? (i := 193) rfl) rfl), vv_t5 (List.mem_of_getElem? (i := 194) rfl) rfl, vv_t5 (List.mem_of_getElem? (i := 195) rfl) rfl, vv_t1 (List.mem_of_getElem? (i := 9) rfl) rfl, vv_t5 (List.mem_of_getElem? (i := 196) rfl) rfl, ⟨by decide, by decide, by decide +kernel⟩, by decide⟩
theorem mv_L_147 : vv_mv RL 147 6 yX7_count cX7_count 2 (some .int) 1 := ⟨TX7, 15, rfl, Or.inl (vv_t4 (List.mem_of_getElem? (i := 28) rfl) rfl), vv_t4 (List.mem_of_getElem? (i := 29) rfl) rfl, vv_t4 (List.mem_of_getElem? (i := 30) rfl) rfl, vv_t1 (List.mem_of_getElem? (i := 1) rfl) rfl, vv_t4 (List.mem_of_getElem? (i := 31) rfl) rfl, ⟨by decide, by decide, by decide +kernel⟩, by decide⟩
theorem mv_L_150 : vv_mv RL 150 7 yX8_count cX8_count 2 (some .int) 1 := ⟨TX8, 18, rfl, Or.inl (vv_t5 (List.mem_of_getElem? (i := 197) rfl) rfl), vv_t5 (List.mem_of_getElem? (i := 198) rfl) rfl, vv_t5 (List.mem_of_getElem? (i := 199) rfl) rfl, vv_t1 (List.mem_of_getElem? (i := 9) rfl) rfl, vv_t5 (List.mem_of_getElem? (i := 200) rfl) rfl, ⟨by decide, by decide, by decide +kernel⟩, by decide⟩
theorem mv_L_151 : vv_mv RL 151 6 yX7_digest cX7_digest 4 (some .long) 0 := ⟨TX7, 15, rfl, Or.inl (vv_t4 (List.mem_of_getElem? (i := 36) rfl) rfl), vv_t4 (List.mem_of_getElem? (i := 37) rfl) rfl, vv_t4 (List.mem_of_getElem? (i := 38) rfl) rfl, vv_t1 (List.mem_of_getElem? (i := 1) rfl) rfl, vv_t4 (List.mem_of_getElem? (i := 39) rfl) rfl, ⟨by decide, by decide, by decide +kernel⟩, by decide⟩
theorem mv_L_155 : vv_mv RL 155 7 yX8_digest cX8_digest 2 (some .long) 0 := ⟨TX8, 18, rfl, Or.inl (vv_t5 (List.mem_of_getElem? (i := 205) rfl) rfl), vv_t5 (List.mem_of_getElem? (i := 206) rfl) rfl, vv_t5 (List.mem_of_getElem? (i := 207) rfl) rfl, vv_t1 (List.mem_of_getElem? (i := 9) rfl) rfl, vv_t5 (List.mem_of_getElem? (i := 208) rfl) rfl, ⟨by decide, by decide, by decide +kernel⟩, by decide⟩
theorem mv_X8_52 : vv_mv RX8 52 7 yX8_begins cX8_begins 5 none 3 := ⟨TX8, 18, rfl, Or.inl (vv_t4 (List.mem_of_getElem? (i := 54) rfl) rfl), vv_t4 (List.mem_of_getElem? (i := 56) rfl) rfl, vv_sel (q := (⟨"StringTollModel", "begins", "(III)V"⟩, 18)) (List.mem_append_right _ (List.mem_append_left _ (List.mem_of_getElem? (l := lw_privs_2) (i := 12) rfl))), vv_t1 (List.mem_of_getElem? (i := 9) rfl) rfl, vv_t4 (List.mem_of_getElem? (i := 57) rfl) rfl, ⟨by decide, by decide, by decide +kernel⟩, by decide⟩
theorem ms_X8_56 : vv_ms RX8 56 yX8_in cX8_in 6 (some .boolean) 3 := ⟨Or.inl (vv_t4 (List.mem_of_getElem? (i := 119) rfl) rfl), vv_t4 (List.mem_of_getElem? (i := 120) rfl) rfl, vv_t1 (List.mem_of_getElem? (i := 9) rfl) rfl, vv_t4 (List.mem_of_getElem? (i := 121) rfl) rfl, ⟨by decide, by decide, by decide +kernel⟩, by decide⟩
theorem ms_X8_60 : vv_ms RX8 60 yX8_silk cX8_silk 2 (some .int) 2 := ⟨Or.inl (vv_t4 (List.mem_of_getElem? (i := 236) rfl) rfl), vv_t4 (List.mem_of_getElem? (i := 237) rfl) rfl, vv_t1 (List.mem_of_getElem? (i := 9) rfl) rfl, vv_t4 (List.mem_of_getElem? (i := 238) rfl) rfl, ⟨by decide, by decide, by decide +kernel⟩, by decide⟩
theorem ms_X8_64 : vv_ms RX8 64 yX8_plain cX8_plain 1 (some .int) 1 := ⟨Or.inl (vv_t5 (List.mem_of_getElem? (i := 5) rfl) rfl), vv_t5 (List.mem_of_getElem? (i := 6) rfl) rfl, vv_t1 (List.mem_of_getElem? (i := 9) rfl) rfl, vv_t5 (List.mem_of_getElem? (i := 7) rfl) rfl, ⟨by decide, by decide, by decide +kernel⟩, by decide⟩
theorem ms_X8_68 : vv_ms RX8 68 yX8_steep cX8_steep 1 (some .int) 1 := ⟨Or.inl (vv_t5 (List.mem_of_getElem? (i := 2) rfl) rfl), vv_t5 (List.mem_of_getElem? (i := 3) rfl) rfl, vv_t1 (List.mem_of_getElem? (i := 9) rfl) rfl, vv_t5 (List.mem_of_getElem? (i := 4) rfl) rfl, ⟨by decide, by decide, by decide +kernel⟩, by decide⟩
theorem ms_X8_71 : vv_ms RX8 71 yX8_greedy cX8_greedy 1 (some .int) 1 := ⟨Or.inl (vv_t5 (List.mem_of_getElem? (i := 8) rfl) rfl), vv_t5 (List.mem_of_getElem? (i := 9) rfl) rfl, vv_t1 (List.mem_of_getElem? (i := 9) rfl) rfl, vv_t5 (List.mem_of_getElem? (i := 10) rfl) rfl, ⟨by decide, by decide, by decide +kernel⟩, by decide⟩
theorem mv_X8_78 : vv_mv RX8 78 7 yX8_bad cX8_bad 2 (some .int) 1 := ⟨TX8, 18, rfl, Or.inl (vv_t4 (List.mem_of_getElem? (i := 123) rfl) rfl), vv_t4 (List.mem_of_getElem? (i := 125) rfl) rfl, vv_sel (q := (⟨"StringTollModel", "bad", "(I)I"⟩, 18)) (List.mem_append_right _ (List.mem_append_left _ (List.mem_of_getElem? (l := lw_privs_2) (i := 13) rfl))), vv_t1 (List.mem_of_getElem? (i := 9) rfl) rfl, vv_t4 (List.mem_of_getElem? (i := 126) rfl) rfl, ⟨by decide, by decide, by decide +kernel⟩, by decide⟩
theorem ms_X8_81 : vv_ms RX8 81 yX8_isHouse cX8_isHouse 1 (some .boolean) 1 := ⟨Or.inl (vv_t4 (List.mem_of_getElem? (i := 131) rfl) rfl), vv_t4 (List.mem_of_getElem? (i := 132) rfl) rfl, vv_t1 (List.mem_of_getElem? (i := 9) rfl) rfl, vv_t4 (List.mem_of_getElem? (i := 133) rfl) rfl, ⟨by decide, by decide, by decide +kernel⟩, by decide⟩
theorem mv_X8_87 : vv_mv RX8 87 7 yX8_full cX8_full 1 (some .int) 0 := ⟨TX8, 18, rfl, Or.inl (vv_t4 (List.mem_of_getElem? (i := 139) rfl) rfl), vv_t4 (List.mem_of_getElem? (i := 141) rfl) rfl, vv_sel (q := (⟨"StringTollModel", "full", "()I"⟩, 18)) (List.mem_append_right _ (List.mem_append_left _ (List.mem_of_getElem? (l := lw_privs_2) (i := 14) rfl))), vv_t1 (List.mem_of_getElem? (i := 9) rfl) rfl, vv_t4 (List.mem_of_getElem? (i := 142) rfl) rfl, ⟨by decide, by decide, by decide +kernel⟩, by decide⟩
theorem mv_X8_91 : vv_mv RX8 91 7 yX8_adds cX8_adds 4 none 3 := ⟨TX8, 18, rfl, Or.inl (vv_t4 (List.mem_of_getElem? (i := 143) rfl) rfl), vv_t4 (List.mem_of_getElem? (i := 145) rfl) rfl, vv_sel (q := (⟨"StringTollModel", "adds", "(III)V"⟩, 18)) (List.mem_append_right _ (List.mem_append_left _ (List.mem_of_getElem? (l := lw_privs_2) (i := 15) rfl))), vv_t1 (List.mem_of_getElem? (i := 9) rfl) rfl, vv_t4 (List.mem_of_getElem? (i := 146) rfl) rfl, ⟨by decide, by decide, by decide +kernel⟩, by decide⟩
theorem mv_X8_99 : vv_mv RX8 99 7 yX8_byteAt cX8_byteAt 2 (some .int) 1 := ⟨TX8, 18, rfl, Or.inl (vv_t4 (List.mem_of_getElem? (i := 164) rfl) rfl), vv_t4 (List.mem_of_getElem? (i := 166) rfl) rfl, vv_sel (q := (⟨"StringTollModel", "byteAt", "(I)I"⟩, 18)) (List.mem_append_right _ (List.mem_append_right _ (List.mem_append_left _ (List.mem_of_getElem? (l := lw_privs_3) (i := 1) rfl)))), vv_t1 (List.mem_of_getElem? (i := 9) rfl) rfl, vv_t4 (List.mem_of_getElem? (i := 167) rfl) rfl, ⟨by decide, by decide, by decide +kernel⟩, by decide⟩
theorem mv_X8_105 : vv_mv RX8 105 7 yX8_blanks cX8_blanks 1 none 0 := ⟨TX8, 18, rfl, Or.inl (vv_t4 (List.mem_of_getElem? (i := 160) rfl) rfl), vv_t4 (List.mem_of_getElem? (i := 162) rfl) rfl, vv_sel (q := (⟨"StringTollModel", "blanks", "()V"⟩, 18)) (List.mem_append_right _ (List.mem_append_right _ (List.mem_append_left _ (List.mem_of_getElem? (l := lw_privs_3) (i := 0) rfl)))), vv_t1 (List.mem_of_getElem? (i := 9) rfl) rfl, vv_t4 (List.mem_of_getElem? (i := 163) rfl) rfl, ⟨by decide, by decide, by decide +kernel⟩, by decide⟩
theorem mv_X8_112 : vv_mv RX8 112 7 yX8_isLetter cX8_isLetter 4 (some .boolean) 3 := ⟨TX8, 18, rfl, Or.inl (vv_t4 (List.mem_of_getElem? (i := 186) rfl) rfl), vv_t4 (List.mem_of_getElem? (i := 188) rfl) rfl, vv_sel (q := (⟨"StringTollModel", "isLetter", "(III)Z"⟩, 18)) (List.mem_append_right _ (List.mem_append_right _ (List.mem_append_left _ (List.mem_of_getElem? (l := lw_privs_3) (i := 6) rfl)))), vv_t1 (List.mem_of_getElem? (i := 9) rfl) rfl, vv_t4 (List.mem_of_getElem? (i := 189) rfl) rfl, ⟨by decide, by decide, by decide +kernel⟩, by decide⟩
theorem mv_X8_116 : vv_mv RX8 116 7 yX8_isWord cX8_isWord 9 (some .boolean) 7 := ⟨TX8, 18, rfl, Or.inl (vv_t4 (List.mem_of_getElem? (i := 182) rfl) rfl), vv_t4 (List.mem_of_getElem? (i := 184) rfl) rfl, vv_sel (q := (⟨"StringTollModel", "isWord", "(IIIIIII)Z"⟩, 18)) (List.mem_append_right _ (List.mem_append_right _ (List.mem_append_left _ (List.mem_of_getElem? (l := lw_privs_3) (i := 5) rfl)))), vv_t1 (List.mem_of_getElem? (i := 9) rfl) rfl, vv_t4 (List.mem_of_getElem? (i := 185) rfl) rfl, ⟨by decide, by decide, by decide +kernel⟩, by decide⟩
theorem mv_X8_120 : vv_mv RX8 120 7 yX8_isProvince cX8_isProvince 1 (some .boolean) 0 := ⟨TX8, 18, rfl, Or.inl (vv_t4 (List.mem_of_getElem? (i := 190) rfl) rfl), vv_t4 (List.mem_of_getElem? (i := 192) rfl) rfl, vv_sel (q := (⟨"StringTollModel", "isProvince", "()Z"⟩, 18)) (List.mem_append_right _ (List.mem_append_right _ (List.mem_append_left _ (List.mem_of_getElem? (l := lw_privs_3) (i := 7) rfl)))), vv_t1 (List.mem_of_getElem? (i := 9) rfl) rfl, vv_t4 (List.mem_of_getElem? (i := 193) rfl) rfl, ⟨by decide, by decide, by decide +kernel⟩, by decide⟩
theorem mv_X8_133 : vv_mv RX8 133 7 yX8_takesNumber cX8_takesNumber 3 (some .boolean) 2 := ⟨TX8, 18, rfl, Or.inl (vv_t4 (List.mem_of_getElem? (i := 198) rfl) rfl), vv_t4 (List.mem_of_getElem? (i := 200) rfl) rfl, vv_sel (q := (⟨"StringTollModel", "takesNumber", "(II)Z"⟩, 18)) (List.mem_append_right _ (List.mem_append_right _ (List.mem_append_left _ (List.mem_of_getElem? (l := lw_privs_3) (i := 9) rfl)))), vv_t1 (List.mem_of_getElem? (i := 9) rfl) rfl, vv_t4 (List.mem_of_getElem? (i := 201) rfl) rfl, ⟨by decide, by decide, by decide +kernel⟩, by decide⟩
theorem mv_X8_137 : vv_mv RX8 137 7 yX8_canSend cX8_canSend 3 (some .boolean) 2 := ⟨TX8, 18, rfl, Or.inl (vv_t4 (List.mem_of_getElem? (i := 221) rfl) rfl), vv_t4 (List.mem_of_getElem? (i := 223) rfl) rfl, vv_sel (q := (⟨"StringTollModel", "canSend", "(II)Z"⟩, 18)) (List.mem_append_right _ (List.mem_append_right _ (List.mem_append_left _ (List.mem_of_getElem? (l := lw_privs_3) (i := 14) rfl)))), vv_t1 (List.mem_of_getElem? (i := 9) rfl) rfl, vv_t4 (List.mem_of_getElem? (i := 224) rfl) rfl, ⟨by decide, by decide, by decide +kernel⟩, by decide⟩
theorem mv_X8_140 : vv_mv RX8 140 7 yX8_isSent cX8_isSent 4 none 2 := ⟨TX8, 18, rfl, Or.inl (vv_t5 (List.mem_of_getElem? (i := 11) rfl) rfl), vv_t5 (List.mem_of_getElem? (i := 13) rfl) rfl, vv_sel (q := (⟨"StringTollModel", "isSent", "(II)V"⟩, 18)) (List.mem_append_right _ (List.mem_append_right _ (List.mem_append_right _ (List.mem_append_left _ (List.mem_of_getElem? (l := lw_privs_4) (i := 1) rfl))))), vv_t1 (List.mem_of_getElem? (i := 9) rfl) rfl, vv_t5 (List.mem_of_getElem? (i := 14) rfl) rfl, ⟨by decide, by decide, by decide +kernel⟩, by decide⟩
theorem mv_X8_144 : vv_mv RX8 144 7 yX8_takesWord cX8_takesWord 1 none 0 := ⟨TX8, 18, rfl, Or.inl (vv_t4 (List.mem_of_getElem? (i := 172) rfl) rfl), vv_t4 (List.mem_of_getElem? (i := 174) rfl) rfl, vv_sel (q := (⟨"StringTollModel", "takesWord", "()V"⟩, 18)) (List.mem_append_right _ (List.mem_append_right _ (List.mem_append_left _ (List.mem_of_getElem? (l := lw_privs_3) (i := 3) rfl)))), vv_t1 (List.mem_of_getElem? (i := 9) rfl) rfl, vv_t4 (List.mem_of_getElem? (i := 175) rfl) rfl, ⟨by decide, by decide, by decide +kernel⟩, by decide⟩
theorem mv_X8_147 : vv_mv RX8 147 7 yX8_wordOf cX8_wordOf 1 (some .int) 0 := ⟨TX8, 18, rfl, Or.inl (vv_t4 (List.mem_of_getElem? (i := 178) rfl) rfl), vv_t4 (List.mem_of_getElem? (i := 180) rfl) rfl, vv_sel (q := (⟨"StringTollModel", "wordOf", "()I"⟩, 18)) (List.mem_append_right _ (List.mem_append_right _ (List.mem_append_left _ (List.mem_of_getElem? (l := lw_privs_3) (i := 4) rfl)))), vv_t1 (List.mem_of_getElem? (i := 9) rfl) rfl, vv_t4 (List.mem_of_getElem? (i := 181) rfl) rfl, ⟨by decide, by decide, by decide +kernel⟩, by decide⟩
theorem mv_X8_150 : vv_mv RX8 150 7 yX8_readsProvince cX8_readsProvince 1 (some .boolean) 0 := ⟨TX8, 18, rfl, Or.inl (vv_t4 (List.mem_of_getElem? (i := 194) rfl) rfl), vv_t4 (List.mem_of_getElem? (i := 196) rfl) rfl, vv_sel (q := (⟨"StringTollModel", "readsProvince", "()Z"⟩, 18)) (List.mem_append_right _ (List.mem_append_right _ (List.mem_append_left _ (List.mem_of_getElem? (l := lw_privs_3) (i := 8) rfl)))), vv_t1 (List.mem_of_getElem? (i := 9) rfl) rfl, vv_t4 (List.mem_of_getElem? (i := 197) rfl) rfl, ⟨by decide, by decide, by decide +kernel⟩, by decide⟩
theorem mv_X8_153 : vv_mv RX8 153 7 yX8_readsHouse cX8_readsHouse 2 (some .boolean) 0 := ⟨TX8, 18, rfl, Or.inl (vv_t4 (List.mem_of_getElem? (i := 205) rfl) rfl), vv_t4 (List.mem_of_getElem? (i := 207) rfl) rfl, vv_sel (q := (⟨"StringTollModel", "readsHouse", "()Z"⟩, 18)) (List.mem_append_right _ (List.mem_append_right _ (List.mem_append_left _ (List.mem_of_getElem? (l := lw_privs_3) (i := 10) rfl)))), vv_t1 (List.mem_of_getElem? (i := 9) rfl) rfl, vv_t4 (List.mem_of_getElem? (i := 208) rfl) rfl, ⟨by decide, by decide, by decide +kernel⟩, by decide⟩
theorem mv_X8_156 : vv_mv RX8 156 7 yX8_readsString cX8_readsString 2 (some .boolean) 0 := ⟨TX8, 18, rfl, Or.inl (vv_t4 (List.mem_of_getElem? (i := 209) rfl) rfl), vv_t4 (List.mem_of_getElem? (i := 211) rfl) rfl, vv_sel (q := (⟨"StringTollModel", "readsString", "()Z"⟩, 18)) (List.mem_append_right _ (List.mem_append_right _ (List.mem_append_left _ (List.mem_of_getElem? (l := lw_privs_3) (i := 11) rfl)))), vv_t1 (List.mem_of_getElem? (i := 9) rfl) rfl, vv_t4 (List.mem_of_getElem? (i := 212) rfl) rfl, ⟨by decide, by decide, by decide +kernel⟩, by decide⟩
theorem mv_X8_159 : vv_mv RX8 159 7 yX8_readsPurse cX8_readsPurse 1 (some .boolean) 0 := ⟨TX8, 18, rfl, Or.inl (vv_t4 (List.mem_of_getElem? (i := 213) rfl) rfl), vv_t4 (List.mem_of_getElem? (i := 215) rfl) rfl, vv_sel (q := (⟨"StringTollModel", "readsPurse", "()Z"⟩, 18)) (List.mem_append_right _ (List.mem_append_right _ (List.mem_append_left _ (List.mem_of_getElem? (l := lw_privs_3) (i := 12) rfl)))), vv_t1 (List.mem_of_getElem? (i := 9) rfl) rfl, vv_t4 (List.mem_of_getElem? (i := 216) rfl) rfl, ⟨by decide, by decide, by decide +kernel⟩, by decide⟩
theorem mv_X8_162 : vv_mv RX8 162 7 yX8_readsSend cX8_readsSend 1 (some .boolean) 0 := ⟨TX8, 18, rfl, Or.inl (vv_t4 (List.mem_of_getElem? (i := 217) rfl) rfl), vv_t4 (List.mem_of_getElem? (i := 219) rfl) rfl, vv_sel (q := (⟨"StringTollModel", "readsSend", "()Z"⟩, 18)) (List.mem_append_right _ (List.mem_append_right _ (List.mem_append_left _ (List.mem_of_getElem? (l := lw_privs_3) (i := 13) rfl)))), vv_t1 (List.mem_of_getElem? (i := 9) rfl) rfl, vv_t4 (List.mem_of_getElem? (i := 220) rfl) rfl, ⟨by decide, by decide, by decide +kernel⟩, by decide⟩
theorem mv_X8_165 : vv_mv RX8 165 7 yX8_readsWait cX8_readsWait 1 (some .boolean) 0 := ⟨TX8, 18, rfl, Or.inl (vv_t5 (List.mem_of_getElem? (i := 22) rfl) rfl), vv_t5 (List.mem_of_getElem? (i := 24) rfl) rfl, vv_sel (q := (⟨"StringTollModel", "readsWait", "()Z"⟩, 18)) (List.mem_append_right _ (List.mem_append_right _ (List.mem_append_right _ (List.mem_append_left _ (List.mem_of_getElem? (l := lw_privs_4) (i := 3) rfl))))), vv_t1 (List.mem_of_getElem? (i := 9) rfl) rfl, vv_t5 (List.mem_of_getElem? (i := 25) rfl) rfl, ⟨by decide, by decide, by decide +kernel⟩, by decide⟩
theorem mv_X8_168 : vv_mv RX8 168 7 yX8_takesEnd cX8_takesEnd 1 (some .boolean) 0 := ⟨TX8, 18, rfl, Or.inl (vv_t5 (List.mem_of_getElem? (i := 26) rfl) rfl), vv_t5 (List.mem_of_getElem? (i := 28) rfl) rfl, vv_sel (q := (⟨"StringTollModel", "takesEnd", "()Z"⟩, 18)) (List.mem_append_right _ (List.mem_append_right _ (List.mem_append_right _ (List.mem_append_left _ (List.mem_of_getElem? (l := lw_privs_4) (i := 4) rfl))))), vv_t1 (List.mem_of_getElem? (i := 9) rfl) rfl, vv_t5 (List.mem_of_getElem? (i := 29) rfl) rfl, ⟨by decide, by decide, by decide +kernel⟩, by decide⟩
theorem mv_X8_171 : vv_mv RX8 171 7 yX8_readsItem cX8_readsItem 4 (some .boolean) 1 := ⟨TX8, 18, rfl, Or.inl (vv_t4 (List.mem_of_getElem? (i := 168) rfl) rfl), vv_t4 (List.mem_of_getElem? (i := 170) rfl) rfl, vv_sel (q := (⟨"StringTollModel", "readsItem", "(Z)Z"⟩, 18)) (List.mem_append_right _ (List.mem_append_right _ (List.mem_append_left _ (List.mem_of_getElem? (l := lw_privs_3) (i := 2) rfl)))), vv_t1 (List.mem_of_getElem? (i := 9) rfl) rfl, vv_t4 (List.mem_of_getElem? (i := 171) rfl) rfl, ⟨by decide, by decide, by decide +kernel⟩, by decide⟩
theorem mv_X8_175 : vv_mv RX8 175 7 yX8_copy cX8_copy 4 none 2 := ⟨TX8, 18, rfl, Or.inl (vv_t5 (List.mem_of_getElem? (i := 30) rfl) rfl), vv_t5 (List.mem_of_getElem? (i := 32) rfl) rfl, vv_sel (q := (⟨"StringTollModel", "copy", "(II)V"⟩, 18)) (List.mem_append_right _ (List.mem_append_right _ (List.mem_append_right _ (List.mem_append_left _ (List.mem_of_getElem? (l := lw_privs_4) (i := 5) rfl))))), vv_t1 (List.mem_of_getElem? (i := 9) rfl) rfl, vv_t5 (List.mem_of_getElem? (i := 33) rfl) rfl, ⟨by decide, by decide, by decide +kernel⟩, by decide⟩
theorem ms_X8_178 : vv_ms RX8 178 yX8_showOf cX8_showOf 3 (some .int) 3 := ⟨Or.inl (vv_t4 (List.mem_of_getElem? (i := 233) rfl) rfl), vv_t4 (List.mem_of_getElem? (i := 234) rfl) rfl, vv_t1 (List.mem_of_getElem? (i := 9) rfl) rfl, vv_t4 (List.mem_of_getElem? (i := 235) rfl) rfl, ⟨by decide, by decide, by decide +kernel⟩, by decide⟩
theorem mv_X8_182 : vv_mv RX8 182 7 yX8_showsIn cX8_showsIn 4 (some .int) 3 := ⟨TX8, 18, rfl, Or.inl (vv_t4 (List.mem_of_getElem? (i := 229) rfl) rfl), vv_t4 (List.mem_of_getElem? (i := 231) rfl) rfl, vv_sel (q := (⟨"StringTollModel", "showsIn", "(III)I"⟩, 18)) (List.mem_append_right _ (List.mem_append_right _ (List.mem_append_right _ (List.mem_append_left _ (List.mem_of_getElem? (l := lw_privs_4) (i := 0) rfl))))), vv_t1 (List.mem_of_getElem? (i := 9) rfl) rfl, vv_t4 (List.mem_of_getElem? (i := 232) rfl) rfl, ⟨by decide, by decide, by decide +kernel⟩, by decide⟩
theorem ms_X8_185 : vv_ms RX8 185 yX8_chargeOf cX8_chargeOf 3 (some .int) 3 := ⟨Or.inl (vv_t4 (List.mem_of_getElem? (i := 239) rfl) rfl), vv_t5 (List.mem_of_getElem? (i := 0) rfl) rfl, vv_t1 (List.mem_of_getElem? (i := 9) rfl) rfl, vv_t5 (List.mem_of_getElem? (i := 1) rfl) rfl, ⟨by decide, by decide, by decide +kernel⟩, by decide⟩
theorem ms_X8_188 : vv_ms RX8 188 yX8_bringsBy cX8_bringsBy 2 (some .int) 2 := ⟨Or.inl (vv_t5 (List.mem_of_getElem? (i := 19) rfl) rfl), vv_t5 (List.mem_of_getElem? (i := 20) rfl) rfl, vv_t1 (List.mem_of_getElem? (i := 9) rfl) rfl, vv_t5 (List.mem_of_getElem? (i := 21) rfl) rfl, ⟨by decide, by decide, by decide +kernel⟩, by decide⟩
theorem mv_X8_191 : vv_mv RX8 191 7 yX8_costIn cX8_costIn 5 (some .int) 3 := ⟨TX8, 18, rfl, Or.inl (vv_t4 (List.mem_of_getElem? (i := 225) rfl) rfl), vv_t4 (List.mem_of_getElem? (i := 227) rfl) rfl, vv_sel (q := (⟨"StringTollModel", "costIn", "(III)I"⟩, 18)) (List.mem_append_right _ (List.mem_append_right _ (List.mem_append_left _ (List.mem_of_getElem? (l := lw_privs_3) (i := 15) rfl)))), vv_t1 (List.mem_of_getElem? (i := 9) rfl) rfl, vv_t4 (List.mem_of_getElem? (i := 228) rfl) rfl, ⟨by decide, by decide, by decide +kernel⟩, by decide⟩
theorem mv_X8_194 : vv_mv RX8 194 7 yX8_bringsIn cX8_bringsIn 3 (some .int) 2 := ⟨TX8, 18, rfl, Or.inl (vv_t5 (List.mem_of_getElem? (i := 15) rfl) rfl), vv_t5 (List.mem_of_getElem? (i := 17) rfl) rfl, vv_sel (q := (⟨"StringTollModel", "bringsIn", "(II)I"⟩, 18)) (List.mem_append_right _ (List.mem_append_right _ (List.mem_append_right _ (List.mem_append_left _ (List.mem_of_getElem? (l := lw_privs_4) (i := 2) rfl))))), vv_t1 (List.mem_of_getElem? (i := 9) rfl) rfl, vv_t5 (List.mem_of_getElem? (i := 18) rfl) rfl, ⟨by decide, by decide, by decide +kernel⟩, by decide⟩
theorem mv_X8_197 : vv_mv RX8 197 7 yX8_isString cX8_isString 2 (some .boolean) 1 := ⟨TX8, 18, rfl, Or.inl (vv_t5 (List.mem_of_getElem? (i := 38) rfl) rfl), vv_t5 (List.mem_of_getElem? (i := 40) rfl) rfl, vv_sel (q := (⟨"StringTollModel", "isString", "(I)Z"⟩, 18)) (List.mem_append_right _ (List.mem_append_right _ (List.mem_append_right _ (List.mem_append_left _ (List.mem_of_getElem? (l := lw_privs_4) (i := 6) rfl))))), vv_t1 (List.mem_of_getElem? (i := 9) rfl) rfl, vv_t5 (List.mem_of_getElem? (i := 41) rfl) rfl, ⟨by decide, by decide, by decide +kernel⟩, by decide⟩
theorem mv_X8_200 : vv_mv RX8 200 7 yX8_no cX8_no 1 (some .int) 0 := ⟨TX8, 18, rfl, Or.inl (vv_t5 (List.mem_of_getElem? (i := 42) rfl) rfl), vv_t5 (List.mem_of_getElem? (i := 44) rfl) rfl, vv_sel (q := (⟨"StringTollModel", "no", "()I"⟩, 18)) (List.mem_append_right _ (List.mem_append_right _ (List.mem_append_right _ (List.mem_append_left _ (List.mem_of_getElem? (l := lw_privs_4) (i := 7) rfl))))), vv_t1 (List.mem_of_getElem? (i := 9) rfl) rfl, vv_t5 (List.mem_of_getElem? (i := 45) rfl) rfl, ⟨by decide, by decide, by decide +kernel⟩, by decide⟩
theorem mv_X8_203 : vv_mv RX8 203 7 yX8_minds cX8_minds 2 none 0 := ⟨TX8, 18, rfl, Or.inl (vv_t5 (List.mem_of_getElem? (i := 46) rfl) rfl), vv_t5 (List.mem_of_getElem? (i := 48) rfl) rfl, vv_sel (q := (⟨"StringTollModel", "minds", "()V"⟩, 18)) (List.mem_append_right _ (List.mem_append_right _ (List.mem_append_right _ (List.mem_append_left _ (List.mem_of_getElem? (l := lw_privs_4) (i := 8) rfl))))), vv_t1 (List.mem_of_getElem? (i := 9) rfl) rfl, vv_t5 (List.mem_of_getElem? (i := 49) rfl) rfl, ⟨by decide, by decide, by decide +kernel⟩, by decide⟩
theorem mv_X8_213 : vv_mv RX8 213 7 yX8_costOf cX8_costOf 4 (some .int) 2 := ⟨TX8, 18, rfl, Or.inl (vv_t5 (List.mem_of_getElem? (i := 82) rfl) rfl), vv_t5 (List.mem_of_getElem? (i := 84) rfl) rfl, vv_sel (q := (⟨"StringTollModel", "costOf", "(II)I"⟩, 18)) (List.mem_append_right _ (List.mem_append_right _ (List.mem_append_right _ (List.mem_append_left _ (List.mem_of_getElem? (l := lw_privs_4) (i := 9) rfl))))), vv_t1 (List.mem_of_getElem? (i := 9) rfl) rfl, vv_t5 (List.mem_of_getElem? (i := 85) rfl) rfl, ⟨by decide, by decide, by decide +kernel⟩, by decide⟩
theorem ms_X8_219 : vv_ms RX8 219 yX8_has cX8_has 2 (some .boolean) 2 := ⟨Or.inl (vv_t5 (List.mem_of_getElem? (i := 94) rfl) rfl), vv_t5 (List.mem_of_getElem? (i := 95) rfl) rfl, vv_t1 (List.mem_of_getElem? (i := 9) rfl) rfl, vv_t5 (List.mem_of_getElem? (i := 96) rfl) rfl, ⟨by decide, by decide, by decide +kernel⟩, by decide⟩
theorem mv_X8_222 : vv_mv RX8 222 7 yX8_bestHaul cX8_bestHaul 6 (some .int) 0 := ⟨TX8, 18, rfl, Or.inl (vv_t5 (List.mem_of_getElem? (i := 90) rfl) rfl), vv_t5 (List.mem_of_getElem? (i := 92) rfl) rfl, vv_sel (q := (⟨"StringTollModel", "bestHaul", "()I"⟩, 18)) (List.mem_append_right _ (List.mem_append_right _ (List.mem_append_right _ (List.mem_append_left _ (List.mem_of_getElem? (l := lw_privs_4) (i := 10) rfl))))), vv_t1 (List.mem_of_getElem? (i := 9) rfl) rfl, vv_t5 (List.mem_of_getElem? (i := 93) rfl) rfl, ⟨by decide, by decide, by decide +kernel⟩, by decide⟩
theorem mv_X8_225 : vv_mv RX8 225 7 yX8_fits cX8_fits 4 (some .boolean) 1 := ⟨TX8, 18, rfl, Or.inl (vv_t5 (List.mem_of_getElem? (i := 105) rfl) rfl), vv_t5 (List.mem_of_getElem? (i := 107) rfl) rfl, vv_sel (q := (⟨"StringTollModel", "fits", "(I)Z"⟩, 18)) (List.mem_append_right _ (List.mem_append_right _ (List.mem_append_right _ (List.mem_append_left _ (List.mem_of_getElem? (l := lw_privs_4) (i := 11) rfl))))), vv_t1 (List.mem_of_getElem? (i := 9) rfl) rfl, vv_t5 (List.mem_of_getElem? (i := 108) rfl) rfl, ⟨by decide, by decide, by decide +kernel⟩, by decide⟩
theorem mv_X8_232 : vv_mv RX8 232 7 yX8_kindsOf cX8_kindsOf 7 (some .int) 1 := ⟨TX8, 18, rfl, Or.inl (vv_t5 (List.mem_of_getElem? (i := 131) rfl) rfl), vv_t5 (List.mem_of_getElem? (i := 133) rfl) rfl, vv_sel (q := (⟨"StringTollModel", "kindsOf", "(I)I"⟩, 18)) (List.mem_append_right _ (List.mem_append_right _ (List.mem_append_right _ (List.mem_append_left _ (List.mem_of_getElem? (l := lw_privs_4) (i := 12) rfl))))), vv_t1 (List.mem_of_getElem? (i := 9) rfl) rfl, vv_t5 (List.mem_of_getElem? (i := 134) rfl) rfl, ⟨by decide, by decide, by decide +kernel⟩, by decide⟩
theorem mv_X8_235 : vv_mv RX8 235 7 yX8_greatest cX8_greatest 6 (some .int) 1 := ⟨TX8, 18, rfl, Or.inl (vv_t5 (List.mem_of_getElem? (i := 139) rfl) rfl), vv_t5 (List.mem_of_getElem? (i := 141) rfl) rfl, vv_sel (q := (⟨"StringTollModel", "greatest", "(I)I"⟩, 18)) (List.mem_append_right _ (List.mem_append_right _ (List.mem_append_right _ (List.mem_append_left _ (List.mem_of_getElem? (l := lw_privs_4) (i := 13) rfl))))), vv_t1 (List.mem_of_getElem? (i := 9) rfl) rfl, vv_t5 (List.mem_of_getElem? (i := 142) rfl) rfl, ⟨by decide, by decide, by decide +kernel⟩, by decide⟩
theorem mv_X8_238 : vv_mv RX8 238 7 yX8_housesOf cX8_housesOf 7 (some .int) 1 := ⟨TX8, 18, rfl, Or.inl (vv_t5 (List.mem_of_getElem? (i := 147) rfl) rfl), vv_t5 (List.mem_of_getElem? (i := 149) rfl) rfl, vv_sel (q := (⟨"StringTollModel", "housesOf", "(I)I"⟩, 18)) (List.mem_append_right _ (List.mem_append_right _ (List.mem_append_right _ (List.mem_append_left _ (List.mem_of_getElem? (l := lw_privs_4) (i := 14) rfl))))), vv_t1 (List.mem_of_getElem? (i := 9) rfl) rfl, vv_t5 (List.mem_of_getElem? (i := 150) rfl) rfl, ⟨by decide, by decide, by decide +kernel⟩, by decide⟩
theorem mv_X8_241 : vv_mv RX8 241 7 yX8_getsBy cX8_getsBy 10 (some .int) 3 := ⟨TX8, 18, rfl, Or.inl (vv_t5 (List.mem_of_getElem? (i := 163) rfl) rfl), vv_t5 (List.mem_of_getElem? (i := 165) rfl) rfl, vv_sel (q := (⟨"StringTollModel", "getsBy", "(III)I"⟩, 18)) (List.mem_append_right _ (List.mem_append_right _ (List.mem_append_right _ (List.mem_append_right _ (List.mem_of_getElem? (l := lw_privs_5) (i := 0) rfl))))), vv_t1 (List.mem_of_getElem? (i := 9) rfl) rfl, vv_t5 (List.mem_of_getElem? (i := 166) rfl) rfl, ⟨by decide, by decide, by decide +kernel⟩, by decide⟩
theorem mv_X8_244 : vv_mv RX8 244 7 yX8_rests cX8_rests 5 (some .boolean) 2 := ⟨TX8, 18, rfl, Or.inl (vv_t5 (List.mem_of_getElem? (i := 159) rfl) rfl), vv_t5 (List.mem_of_getElem? (i := 161) rfl) rfl, vv_sel (q := (⟨"StringTollModel", "rests", "(II)Z"⟩, 18)) (List.mem_append_right _ (List.mem_append_right _ (List.mem_append_right _ (List.mem_append_left _ (List.mem_of_getElem? (l := lw_privs_4) (i := 15) rfl))))), vv_t1 (List.mem_of_getElem? (i := 9) rfl) rfl, vv_t5 (List.mem_of_getElem? (i := 162) rfl) rfl, ⟨by decide, by decide, by decide +kernel⟩, by decide⟩
theorem mv_X8_259 : vv_mv RX8 259 7 yX8_countOf cX8_countOf 2 (some .int) 1 := ⟨TX8, 18, rfl, Or.inl (vv_t5 (List.mem_of_getElem? (i := 201) rfl) rfl), vv_t5 (List.mem_of_getElem? (i := 203) rfl) rfl, vv_sel (q := (⟨"StringTollModel", "countOf", "(I)I"⟩, 18)) (List.mem_append_right _ (List.mem_append_right _ (List.mem_append_right _ (List.mem_append_right _ (List.mem_of_getElem? (l := lw_privs_5) (i := 1) rfl))))), vv_t1 (List.mem_of_getElem? (i := 9) rfl) rfl, vv_t5 (List.mem_of_getElem? (i := 204) rfl) rfl, ⟨by decide, by decide, by decide +kernel⟩, by decide⟩
theorem mv_X8_269 : vv_mv RX8 269 7 yX8_mix cX8_mix 3 none 1 := ⟨TX8, 18, rfl, Or.inl (vv_t5 (List.mem_of_getElem? (i := 210) rfl) rfl), vv_t5 (List.mem_of_getElem? (i := 212) rfl) rfl, vv_sel (q := (⟨"StringTollModel", "mix", "(J)V"⟩, 18)) (List.mem_append_right _ (List.mem_append_right _ (List.mem_append_right _ (List.mem_append_right _ (List.mem_of_getElem? (l := lw_privs_5) (i := 2) rfl))))), vv_t1 (List.mem_of_getElem? (i := 9) rfl) rfl, vv_t5 (List.mem_of_getElem? (i := 213) rfl) rfl, ⟨by decide, by decide, by decide +kernel⟩, by decide⟩
theorem cw_X7_241 : Cond.constant RX7 241 999999 ∈ vv_gw := vv_t3 (List.mem_of_getElem? (i := 235) rfl) rfl
theorem cw_X8_212 : Cond.constant RX8 212 1000000 ∈ vv_gw := vv_t5 (List.mem_of_getElem? (i := 77) rfl) rfl
theorem cl_X7_242 : Cond.constantLong RX7 242 1103515245 ∈ vv_gw := vv_t3 (List.mem_of_getElem? (i := 236) rfl) rfl
theorem cl_X7_244 : Cond.constantLong RX7 244 12345 ∈ vv_gw := vv_t3 (List.mem_of_getElem? (i := 237) rfl) rfl
theorem cl_X7_246 : Cond.constantLong RX7 246 2147483648 ∈ vv_gw := vv_t3 (List.mem_of_getElem? (i := 238) rfl) rfl
theorem cl_X7_248 : Cond.constantLong RX7 248 65536 ∈ vv_gw := vv_t3 (List.mem_of_getElem? (i := 239) rfl) rfl
theorem cl_X7_250 : Cond.constantLong RX7 250 6 ∈ vv_gw := vv_t4 (List.mem_of_getElem? (i := 0) rfl) rfl
theorem cl_X7_274 : Cond.constantLong RX7 274 1579 ∈ vv_gw := vv_t4 (List.mem_of_getElem? (i := 40) rfl) rfl
theorem cl_X7_276 : Cond.constantLong RX7 276 31 ∈ vv_gw := vv_t4 (List.mem_of_getElem? (i := 41) rfl) rfl
theorem cl_X3_36 : Cond.constantLong RX3 36 31 ∈ vv_gw := vv_t4 (List.mem_of_getElem? (i := 46) rfl) rfl
theorem cl_X8_74 : Cond.constantLong RX8 74 60 ∈ vv_gw := vv_t4 (List.mem_of_getElem? (i := 118) rfl) rfl
theorem cl_X8_76 : Cond.constantLong RX8 76 9999 ∈ vv_gw := vv_t4 (List.mem_of_getElem? (i := 122) rfl) rfl
theorem cl_X8_85 : Cond.constantLong RX8 85 5 ∈ vv_gw := vv_t4 (List.mem_of_getElem? (i := 134) rfl) rfl
theorem cl_X8_94 : Cond.constantLong RX8 94 127 ∈ vv_gw := vv_t4 (List.mem_of_getElem? (i := 151) rfl) rfl
theorem cl_X8_108 : Cond.constantLong RX8 108 97 ∈ vv_gw := vv_t4 (List.mem_of_getElem? (i := 176) rfl) rfl
theorem cl_X8_110 : Cond.constantLong RX8 110 122 ∈ vv_gw := vv_t4 (List.mem_of_getElem? (i := 177) rfl) rfl
theorem cl_X8_127 : Cond.constantLong RX8 127 48 ∈ vv_gw := vv_t4 (List.mem_of_getElem? (i := 202) rfl) rfl
theorem cl_X8_129 : Cond.constantLong RX8 129 57 ∈ vv_gw := vv_t4 (List.mem_of_getElem? (i := 203) rfl) rfl
theorem cl_X8_131 : Cond.constantLong RX8 131 2 ∈ vv_gw := vv_t4 (List.mem_of_getElem? (i := 204) rfl) rfl
theorem cl_X8_206 : Cond.constantLong RX8 206 99 ∈ vv_gw := vv_t5 (List.mem_of_getElem? (i := 54) rfl) rfl
theorem cl_X8_208 : Cond.constantLong RX8 208 6 ∈ vv_gw := vv_t5 (List.mem_of_getElem? (i := 67) rfl) rfl
theorem cl_X8_210 : Cond.constantLong RX8 210 47 ∈ vv_gw := vv_t5 (List.mem_of_getElem? (i := 72) rfl) rfl
theorem cl_X8_228 : Cond.constantLong RX8 228 23 ∈ vv_gw := vv_t5 (List.mem_of_getElem? (i := 117) rfl) rfl
theorem cl_X8_230 : Cond.constantLong RX8 230 200 ∈ vv_gw := vv_t5 (List.mem_of_getElem? (i := 118) rfl) rfl
theorem cl_X8_247 : Cond.constantLong RX8 247 10 ∈ vv_gw := vv_t5 (List.mem_of_getElem? (i := 171) rfl) rfl
theorem cl_X8_249 : Cond.constantLong RX8 249 999999 ∈ vv_gw := vv_t5 (List.mem_of_getElem? (i := 176) rfl) rfl
theorem cl_X8_251 : Cond.constantLong RX8 251 1103515245 ∈ vv_gw := vv_t5 (List.mem_of_getElem? (i := 177) rfl) rfl
theorem cl_X8_253 : Cond.constantLong RX8 253 12345 ∈ vv_gw := vv_t5 (List.mem_of_getElem? (i := 178) rfl) rfl
theorem cl_X8_255 : Cond.constantLong RX8 255 2147483648 ∈ vv_gw := vv_t5 (List.mem_of_getElem? (i := 179) rfl) rfl
theorem cl_X8_257 : Cond.constantLong RX8 257 65536 ∈ vv_gw := vv_t5 (List.mem_of_getElem? (i := 180) rfl) rfl
theorem cl_X8_262 : Cond.constantLong RX8 262 31 ∈ vv_gw := vv_t5 (List.mem_of_getElem? (i := 214) rfl) rfl
theorem cl_X8_267 : Cond.constantLong RX8 267 1579 ∈ vv_gw := vv_t5 (List.mem_of_getElem? (i := 209) rfl) rfl
theorem st_max : Cond.static Lib.Math.max.name ∈ vv_gw := vv_t3 (List.mem_of_getElem? (i := 126) rfl) rfl
theorem co_max : Cond.code Lib.Math.max.name Lib.Math.max.code 2 (some .int) ∈ vv_gw := vv_t3 (List.mem_of_getElem? (i := 127) rfl) rfl
theorem st_min : Cond.static Lib.Math.min.name ∈ vv_gw := vv_t1 (List.mem_of_getElem? (i := 37) rfl) rfl
theorem co_min : Cond.code Lib.Math.min.name Lib.Math.min.code 2 (some .int) ∈ vv_gw := vv_t1 (List.mem_of_getElem? (i := 38) rfl) rfl
theorem in_Math : Cond.initialized "java/lang/Math" ∈ vv_gw := vv_t1 (List.mem_of_getElem? (i := 4) rfl) rfl
theorem in_System : Cond.initialized "java/lang/System" ∈ vv_gw := vv_t1 (List.mem_of_getElem? (i := 15) rfl) rfl
theorem st_copy : Cond.static arraycopyName ∈ vv_gw := vv_t4 (List.mem_of_getElem? (i := 18) rfl) rfl
theorem nat_copy : Cond.native arraycopyName ∈ vv_gw := vv_t4 (List.mem_of_getElem? (i := 19) rfl) rfl
theorem mm_X0_25 : Cond.methodLink RX0 25 Lib.Math.max.name ∈ vv_gw := vv_t3 (List.mem_of_getElem? (i := 125) rfl) rfl
theorem mm_X1_15 : Cond.methodLink RX1 15 Lib.Math.min.name ∈ vv_gw := vv_t2 (List.mem_of_getElem? (i := 192) rfl) rfl
theorem mm_X2_100 : Cond.methodLink RX2 100 Lib.Math.min.name ∈ vv_gw := vv_t2 (List.mem_of_getElem? (i := 216) rfl) rfl
theorem mm_X3_13 : Cond.methodLink RX3 13 Lib.Math.min.name ∈ vv_gw := vv_t1 (List.mem_of_getElem? (i := 36) rfl) rfl
theorem mm_X3_30 : Cond.methodLink RX3 30 arraycopyName ∈ vv_gw := vv_t4 (List.mem_of_getElem? (i := 17) rfl) rfl
theorem mm_X4_50 : Cond.methodLink RX4 50 Lib.Math.min.name ∈ vv_gw := vv_t3 (List.mem_of_getElem? (i := 80) rfl) rfl
theorem mm_X5_130 : Cond.methodLink RX5 130 Lib.Math.min.name ∈ vv_gw := vv_t2 (List.mem_of_getElem? (i := 79) rfl) rfl
end
section
/-! helpers of the printed walks -/
def vv_b (p : Prop) [Decidable p] : Int32 := if p then 1 else 0
theorem vv_b_t {p : Prop} [Decidable p] (h : p) : vv_b p = 1 := if_pos h
theorem vv_b_f {p : Prop} [Decidable p] (h : ¬ p) : vv_b p = 0 := if_neg h
theorem vv_bt {p : Prop} [Decidable p] (h : p) : some (Value.int (vv_b p)) = some (.int 1) := by rw [vv_b_t h]
theorem vv_bf {p : Prop} [Decidable p] (h : ¬ p) : some (Value.int (vv_b p)) = some (.int 0) := by rw [vv_b_f h]
theorem vv_b_nar (p : Prop) [Decidable p] : narrow .boolean (.int (vv_b p)) = .int (vv_b p) := by
  by_cases h : p
  · rw [vv_b_t h]; rfl
  · rw [vv_b_f h]; rfl
theorem vv_b_eq {p q : Prop} [Decidable p] [Decidable q] : (some (Value.int (vv_b p)) = some (.int (vv_b q))) ↔ (p ↔ q) := by
  by_cases h : p <;> by_cases h' : q <;> simp [vv_b, h, h']
def vv_rem (a b : Int32) : Int32 := a - a / b * b
def vv_remL (a b : Int64) : Int64 := a - a / b * b
theorem vv_ne {a v : Int32} (h : ¬ a = v) : ¬ a.toInt = v.toInt := fun z => h (Int32.toInt_inj.mp z)
section VVT
variable {x : vv_X} {cc : ByteArray} {nL pc d : Nat} {own : String} {lv lv' : List (Nat × Value)} {st rest : List Value} {ws ws' wc wc' : va_W} {r : Option Value}
theorem vv_topi {a : Int32} (v : Int32) (h : a = v) (k : vv_V x nL pc lv (.int v :: st) ws) : vv_V x nL pc lv (.int a :: st) ws := h ▸ k
theorem vv_topl {a : Int64} (v : Int64) (h : a = v) (k : vv_V x nL pc lv (.long v :: st) ws) : vv_V x nL pc lv (.long a :: st) ws := h ▸ k
theorem vv_iremR {a b : Int32} (F : vv_F x cc nL own d) (dg : decode cc pc = .ok (.irem, 1)) (hne : ¬ b = 0) (k : vv_V x nL (pc + 1) lv (.int (vv_rem a b) :: st) ws) : vv_V x nL pc lv (.int b :: .int a :: st) ws := vv_irem F dg hne k
theorem vv_lremR {a b : Int64} (F : vv_F x cc nL own d) (dg : decode cc pc = .ok (.lrem, 1)) (hne : ¬ b = 0) (k : vv_V x nL (pc + 1) lv (.long (vv_remL a b) :: st) ws) : vv_V x nL pc lv (.long b :: .long a :: st) ws := vv_lrem F dg hne k
theorem vv_ws (h : ws = ws') (k : vv_V x nL pc lv st ws') : vv_V x nL pc lv st ws := h ▸ k
theorem vv_ifz_eq {p : Prop} [Decidable p] {off : Int} {tgt : Nat} (F : vv_F x cc nL own d) (dg : decode cc pc = .ok (.ifCond .eq off, 3)) (ht : (pc : Int) + off = (tgt : Int)) (kt : ¬ p → vv_V x nL tgt lv st ws) (kf : p → vv_V x nL (pc + 3) lv st ws) : vv_V x nL pc lv (.int (vv_b p) :: st) ws :=
  vv_if_eq F dg ht (fun h => kt fun hp => by rw [vv_b_t hp] at h; exact absurd h (by decide)) (fun h => kf (Decidable.byContradiction fun hp => h (vv_b_f hp)))
theorem vv_ifz_ne {p : Prop} [Decidable p] {off : Int} {tgt : Nat} (F : vv_F x cc nL own d) (dg : decode cc pc = .ok (.ifCond .ne off, 3)) (ht : (pc : Int) + off = (tgt : Int)) (kt : p → vv_V x nL tgt lv st ws) (kf : ¬ p → vv_V x nL (pc + 3) lv st ws) : vv_V x nL pc lv (.int (vv_b p) :: st) ws :=
  vv_if_ne F dg ht (fun h => kt (Decidable.byContradiction fun hp => h (vv_b_f hp))) (fun h => kf fun hp => by rw [vv_b_t hp] at h; exact absurd h (by decide))
theorem vv_lg {a b : Int64} : (lg_cmp a b < 0 ↔ a < b) ∧ (0 < lg_cmp a b ↔ b < a) ∧ (lg_cmp a b = 0 ↔ a = b) := ⟨lg_cmp_lt a b, lg_cmp_gt a b, lg_cmp_eq a b⟩
theorem vv_lcmp_lt {a b : Int64} {off : Int} {tgt : Nat} (F : vv_F x cc nL own d) (dg : decode cc pc = .ok (.lcmp, 1)) (dg2 : decode cc (pc + 1) = .ok (.ifCond .lt off, 3)) (ht : ((pc + 1 : Nat) : Int) + off = (tgt : Int)) (kt : a < b → vv_V x nL tgt lv st ws) (kf : ¬ a < b → vv_V x nL (pc + 4) lv st ws) : vv_V x nL pc lv (.long b :: .long a :: st) ws :=
  vv_lcmp F dg (vv_if_lt F dg2 ht (fun h => kt (vv_lg.1.mp h)) (fun h => kf (fun z => h (vv_lg.1.mpr z))))
theorem vv_lcmp_gt {a b : Int64} {off : Int} {tgt : Nat} (F : vv_F x cc nL own d) (dg : decode cc pc = .ok (.lcmp, 1)) (dg2 : decode cc (pc + 1) = .ok (.ifCond .gt off, 3)) (ht : ((pc + 1 : Nat) : Int) + off = (tgt : Int)) (kt : b < a → vv_V x nL tgt lv st ws) (kf : ¬ b < a → vv_V x nL (pc + 4) lv st ws) : vv_V x nL pc lv (.long b :: .long a :: st) ws :=
  vv_lcmp F dg (vv_if_gt F dg2 ht (fun h => kt (vv_lg.2.1.mp h)) (fun h => kf (fun z => h (vv_lg.2.1.mpr z))))
theorem vv_lcmp_eq {a b : Int64} {off : Int} {tgt : Nat} (F : vv_F x cc nL own d) (dg : decode cc pc = .ok (.lcmp, 1)) (dg2 : decode cc (pc + 1) = .ok (.ifCond .eq off, 3)) (ht : ((pc + 1 : Nat) : Int) + off = (tgt : Int)) (kt : a = b → vv_V x nL tgt lv st ws) (kf : ¬ a = b → vv_V x nL (pc + 4) lv st ws) : vv_V x nL pc lv (.long b :: .long a :: st) ws :=
  vv_lcmp F dg (vv_if_eq F dg2 ht (fun h => kt (vv_lg.2.2.mp h)) (fun h => kf (fun z => h (vv_lg.2.2.mpr z))))
theorem vv_up_self : ∀ (is : List Nat) (wc ws : va_W), is.map (fun i => ws[i]?) = wc.map some → vv_up ws is wc = ws
  | [], wc, ws, _ => by cases wc <;> rfl
  | i :: is, [], ws, h => by simp at h
  | i :: is, c :: cs, ws, h => by
    simp only [List.map_cons, List.cons.injEq] at h
    have e : ws.set i c = ws := by
      obtain ⟨hi, hc⟩ := List.getElem?_eq_some_iff.mp h.1
      rw [← hc]; exact List.set_getElem_self hi
    show vv_up (ws.set i c) is cs = ws
    rw [e]
    exact vv_up_self is cs ws h.2
theorem vv_callVp {index ci nL' dc n b : Nat} {y : MethodName} {cc' : ByteArray} {ret : Option FieldType} {As : List Value} {fs : List Value} (is : List Nat) (q0 : Nat) (F : vv_F x cc nL own d) (hC : vv_C (vv_l x) (vv_k x) dc y cc' nL' ret (.ref b :: As) wc r wc) (mv : vv_mv own index ci y cc' nL' ret n) (dg : decode cc pc = .ok (.invokevirtual index, 3)) (hdc : dc + 1 ≤ d) (hn : As.length = n) (hst : st = As.reverse ++ .ref b :: rest) (hrs : (rest.map fun v => v.category).sum ≤ 8) (his : is.map (fun i => ws[i]?) = wc.map some) (hnd : va_nd is = true) (hre : ws[q0]? = some (b, .inr (ci, fs)))
    (k : vv_V x nL (pc + 3) lv (r.toList ++ rest) ws) : vv_V x nL pc lv st ws := vv_callV is q0 F hC mv dg hdc hn hst hrs his hnd rfl hre (vv_up_self is wc ws his) k
theorem vv_callSp {index nL' dc n : Nat} {y : MethodName} {cc' : ByteArray} {ret : Option FieldType} {As : List Value} (is : List Nat) (F : vv_F x cc nL own d) (hC : vv_C (vv_l x) (vv_k x) dc y cc' nL' ret As wc r wc) (ms : vv_ms own index y cc' nL' ret n) (dg : decode cc pc = .ok (.invokestatic index, 3)) (hdc : dc + 1 ≤ d) (hn : As.length = n) (hst : st = As.reverse ++ rest) (hrs : (rest.map fun v => v.category).sum ≤ 8) (his : is.map (fun i => ws[i]?) = wc.map some) (hnd : va_nd is = true)
    (k : vv_V x nL (pc + 3) lv (r.toList ++ rest) ws) : vv_V x nL pc lv st ws := vv_callS is F hC ms dg hdc hn hst hrs his hnd rfl (vv_up_self is wc ws his) k
end VVT
abbrev p_X7_within (v lo hi : Int32) : Prop := ((¬ (v < lo)) ∧ (¬ (hi < v)))
theorem c_X7_within (l : Launch) (K : vv_K) (v lo hi : Int32)  : vv_C l K 1 yX7_within cX7_within 3 (some .boolean) [.int v, .int lo, .int hi] [] (some (.int (vv_b (p_X7_within v lo hi)))) [] := by
  refine vv_C.of (lv := [(0, .int v), (1, .int lo), (2, .int hi)]) (by decide +kernel) (Nat.le_of_ble_eq_true rfl) rfl ?_
  intro x hl hK F hR; subst hl; obtain rfl := hK
  refine vv_iload_n F dX7_within_0 rfl rfl ?_
  refine vv_iload_n F dX7_within_1 rfl rfl ?_
  refine vv_icmp_lt (tgt := 14) F dX7_within_2 (by decide) (fun h_1 => ?_) (fun h_1 => ?_)
  · refine vv_iconst (v := 0) F dX7_within_14 (by decide) ?_
    exact vv_zret F hR dX7_within_15 rfl (vv_bf (fun z => z.1 h_1)) rfl
  · refine vv_iload_n F dX7_within_5 rfl rfl ?_
    refine vv_iload_n F dX7_within_6 rfl rfl ?_
    refine vv_icmp_gt (tgt := 14) F dX7_within_7 (by decide) (fun h_2 => ?_) (fun h_2 => ?_)
    · refine vv_iconst (v := 0) F dX7_within_14 (by decide) ?_
      exact vv_zret F hR dX7_within_15 rfl (vv_bf (fun z => (fun z => z h_2) z.2)) rfl
    · refine vv_iconst (v := 1) F dX7_within_10 (by decide) ?_
      refine vv_goto (tgt := 15) F dX7_within_11 (by decide) ?_
      exact vv_zret F hR dX7_within_15 rfl (vv_bt ⟨h_1, h_2⟩) rfl
theorem c_X1_known (l : Launch) (K : vv_K) (v : Int32)  : vv_C l K 2 yX1_known cX1_known 1 (some .boolean) [.int v] [] (some (.int (vv_b (p_X7_within v 0 5)))) [] := by
  refine vv_C.of (lv := [(0, .int v)]) (by decide +kernel) (Nat.le_of_ble_eq_true rfl) rfl ?_
  intro x hl hK F hR; subst hl; obtain rfl := hK
  refine vv_iload_n F dX1_known_0 rfl rfl ?_
  refine vv_iconst (v := 0) F dX1_known_1 (by decide) ?_
  refine vv_iconst (v := 5) F dX1_known_2 (by decide) ?_
  refine vv_callSp (As := [.int v, .int 0, .int 5]) (rest := []) [] F (c_X7_within (vv_l x) (vv_k x) v 0 5) ms_X1_11 dX1_known_3 (by decide) rfl rfl (Nat.le_of_ble_eq_true rfl) rfl (by decide) ?_
  exact vv_zret F hR dX1_known_6 (vv_b_nar _) rfl rfl
def f_X1_shown (k n h : Int32) : Int32 := (if (vv_rem h 24) < 6 then (if k = 1 then 0 else (if k = 2 then (if 10 < n then 10 else n) else (if k = 3 then (n + 5) else (if k = 4 then ((0 + 1) / 2) else (if k = 5 then (if 99 < (2 * (n + 5)) then 99 else (2 * (n + 5))) else n))))) else (if (vv_rem h 24) < 18 then (if k = 1 then n else (if k = 2 then (if 10 < n then 10 else n) else (if k = 3 then (n + 5) else (if k = 4 then ((n + 1) / 2) else (if k = 5 then (if 99 < (2 * (n + 5)) then 99 else (2 * (n + 5))) else n))))) else (if k = 1 then 0 else (if k = 2 then (if 10 < n then 10 else n) else (if k = 3 then (n + 5) else (if k = 4 then ((0 + 1) / 2) else (if k = 5 then (if 99 < (2 * (n + 5)) then 99 else (2 * (n + 5))) else n)))))))
theorem c_X1_shown (l : Launch) (K : vv_K) (k n h : Int32)  : vv_C l K 2 yX1_shown cX1_shown 6 (some .int) [.int k, .int n, .int h] [] (some (.int (f_X1_shown k n h))) [] := by
  refine vv_C.of (lv := [(0, .int k), (1, .int n), (2, .int h)]) (by decide +kernel) (Nat.le_of_ble_eq_true rfl) rfl ?_
  intro x hl hK F hR; subst hl; obtain rfl := hK
  refine vv_iload_n F dX1_shown_0 rfl rfl ?_
  refine vv_bipush (v := 24) F dX1_shown_1 (by decide) ?_
  refine vv_iremR F dX1_shown_3 (by decide) ?_
  refine vv_istore_n (lv' := [(3, .int (vv_rem h 24)), (0, .int k), (1, .int n), (2, .int h)]) F dX1_shown_4 rfl (by decide) rfl ?_
  refine vv_iload_n F dX1_shown_5 rfl rfl ?_
  refine vv_bipush (v := 6) F dX1_shown_6 (by decide) ?_
  refine vv_icmp_lt (tgt := 17) F dX1_shown_8 (by decide) (fun h_1 => ?_) (fun h_1 => ?_)
  · refine vv_iconst (v := 0) F dX1_shown_17 (by decide) ?_
    refine vv_goto (tgt := 22) F dX1_shown_18 (by decide) ?_
    refine vv_istore (lv' := [(4, .int 0), (3, .int (vv_rem h 24)), (0, .int k), (1, .int n), (2, .int h)]) F dX1_shown_22 (by decide) rfl ?_
    refine vv_iload_n F dX1_shown_24 rfl rfl ?_
    refine vv_iconst (v := 5) F dX1_shown_25 (by decide) ?_
    refine vv_iadd F dX1_shown_26 ?_
    refine vv_istore (lv' := [(5, .int (n + 5)), (4, .int 0), (3, .int (vv_rem h 24)), (0, .int k), (1, .int n), (2, .int h)]) F dX1_shown_27 (by decide) rfl ?_
    refine vv_iload_n F dX1_shown_29 rfl rfl ?_
    by_cases h_2 : k = 1
    · refine vv_tabIn (tgt := 64) (off := 34) F dX1_shown_30 (by rw [h_2]; decide) (by rw [h_2]; decide) (by rw [h_2]; rfl) (by decide) ?_
      refine vv_iload F dX1_shown_64 rfl ?_
      exact vv_iret F hR dX1_shown_66 (congrArg (fun z => some (Value.int z)) ((if_pos h_1).trans ((if_pos h_2).trans rfl))) rfl
    · by_cases h_3 : k = 2
      · refine vv_tabIn (tgt := 67) (off := 37) F dX1_shown_30 (by rw [h_3]; decide) (by rw [h_3]; decide) (by rw [h_3]; rfl) (by decide) ?_
        refine vv_iload_n F dX1_shown_67 rfl rfl ?_
        refine vv_bipush (v := 10) F dX1_shown_68 (by decide) ?_
        refine vv_mmin F mm_X1_15 st_min in_Math co_min (by decide) (Nat.le_of_ble_eq_true rfl) dX1_shown_70 ?_
        exact vv_iret F hR dX1_shown_73 (congrArg (fun z => some (Value.int z)) ((if_pos h_1).trans ((if_neg h_2).trans ((if_pos h_3).trans rfl)))) rfl
      · by_cases h_4 : k = 3
        · refine vv_tabIn (tgt := 74) (off := 44) F dX1_shown_30 (by rw [h_4]; decide) (by rw [h_4]; decide) (by rw [h_4]; rfl) (by decide) ?_
          refine vv_iload F dX1_shown_74 rfl ?_
          exact vv_iret F hR dX1_shown_76 (congrArg (fun z => some (Value.int z)) ((if_pos h_1).trans ((if_neg h_2).trans ((if_neg h_3).trans ((if_pos h_4).trans rfl))))) rfl
        · by_cases h_5 : k = 4
          · refine vv_tabIn (tgt := 77) (off := 47) F dX1_shown_30 (by rw [h_5]; decide) (by rw [h_5]; decide) (by rw [h_5]; rfl) (by decide) ?_
            refine vv_iload F dX1_shown_77 rfl ?_
            refine vv_iconst (v := 1) F dX1_shown_79 (by decide) ?_
            refine vv_iadd F dX1_shown_80 ?_
            refine vv_iconst (v := 2) F dX1_shown_81 (by decide) ?_
            refine vv_idiv F dX1_shown_82 (by decide) ?_
            exact vv_iret F hR dX1_shown_83 (congrArg (fun z => some (Value.int z)) ((if_pos h_1).trans ((if_neg h_2).trans ((if_neg h_3).trans ((if_neg h_4).trans ((if_pos h_5).trans rfl)))))) rfl
          · by_cases h_6 : k = 5
            · refine vv_tabIn (tgt := 84) (off := 54) F dX1_shown_30 (by rw [h_6]; decide) (by rw [h_6]; decide) (by rw [h_6]; rfl) (by decide) ?_
              refine vv_iconst (v := 2) F dX1_shown_84 (by decide) ?_
              refine vv_iload F dX1_shown_85 rfl ?_
              refine vv_imul F dX1_shown_87 ?_
              refine vv_bipush (v := 99) F dX1_shown_88 (by decide) ?_
              refine vv_mmin F mm_X1_15 st_min in_Math co_min (by decide) (Nat.le_of_ble_eq_true rfl) dX1_shown_90 ?_
              exact vv_iret F hR dX1_shown_93 (congrArg (fun z => some (Value.int z)) ((if_pos h_1).trans ((if_neg h_2).trans ((if_neg h_3).trans ((if_neg h_4).trans ((if_neg h_5).trans ((if_pos h_6).trans rfl))))))) rfl
            · refine vv_tabOut (tgt := 94) F dX1_shown_30 (by have h_2i : ¬ k.toInt = 1 := vv_ne h_2; have h_3i : ¬ k.toInt = 2 := vv_ne h_3; have h_4i : ¬ k.toInt = 3 := vv_ne h_4; have h_5i : ¬ k.toInt = 4 := vv_ne h_5; have h_6i : ¬ k.toInt = 5 := vv_ne h_6; omega) (by decide) ?_
              refine vv_iload_n F dX1_shown_94 rfl rfl ?_
              exact vv_iret F hR dX1_shown_95 (congrArg (fun z => some (Value.int z)) ((if_pos h_1).trans ((if_neg h_2).trans ((if_neg h_3).trans ((if_neg h_4).trans ((if_neg h_5).trans ((if_neg h_6).trans rfl))))))) rfl
  · refine vv_iload_n F dX1_shown_11 rfl rfl ?_
    refine vv_bipush (v := 18) F dX1_shown_12 (by decide) ?_
    refine vv_icmp_lt (tgt := 21) F dX1_shown_14 (by decide) (fun h_7 => ?_) (fun h_7 => ?_)
    · refine vv_iload_n F dX1_shown_21 rfl rfl ?_
      refine vv_istore (lv' := [(4, .int n), (3, .int (vv_rem h 24)), (0, .int k), (1, .int n), (2, .int h)]) F dX1_shown_22 (by decide) rfl ?_
      refine vv_iload_n F dX1_shown_24 rfl rfl ?_
      refine vv_iconst (v := 5) F dX1_shown_25 (by decide) ?_
      refine vv_iadd F dX1_shown_26 ?_
      refine vv_istore (lv' := [(5, .int (n + 5)), (4, .int n), (3, .int (vv_rem h 24)), (0, .int k), (1, .int n), (2, .int h)]) F dX1_shown_27 (by decide) rfl ?_
      refine vv_iload_n F dX1_shown_29 rfl rfl ?_
      by_cases h_8 : k = 1
      · refine vv_tabIn (tgt := 64) (off := 34) F dX1_shown_30 (by rw [h_8]; decide) (by rw [h_8]; decide) (by rw [h_8]; rfl) (by decide) ?_
        refine vv_iload F dX1_shown_64 rfl ?_
        exact vv_iret F hR dX1_shown_66 (congrArg (fun z => some (Value.int z)) ((if_neg h_1).trans ((if_pos h_7).trans ((if_pos h_8).trans rfl)))) rfl
      · by_cases h_9 : k = 2
        · refine vv_tabIn (tgt := 67) (off := 37) F dX1_shown_30 (by rw [h_9]; decide) (by rw [h_9]; decide) (by rw [h_9]; rfl) (by decide) ?_
          refine vv_iload_n F dX1_shown_67 rfl rfl ?_
          refine vv_bipush (v := 10) F dX1_shown_68 (by decide) ?_
          refine vv_mmin F mm_X1_15 st_min in_Math co_min (by decide) (Nat.le_of_ble_eq_true rfl) dX1_shown_70 ?_
          exact vv_iret F hR dX1_shown_73 (congrArg (fun z => some (Value.int z)) ((if_neg h_1).trans ((if_pos h_7).trans ((if_neg h_8).trans ((if_pos h_9).trans rfl))))) rfl
        · by_cases h_10 : k = 3
          · refine vv_tabIn (tgt := 74) (off := 44) F dX1_shown_30 (by rw [h_10]; decide) (by rw [h_10]; decide) (by rw [h_10]; rfl) (by decide) ?_
            refine vv_iload F dX1_shown_74 rfl ?_
            exact vv_iret F hR dX1_shown_76 (congrArg (fun z => some (Value.int z)) ((if_neg h_1).trans ((if_pos h_7).trans ((if_neg h_8).trans ((if_neg h_9).trans ((if_pos h_10).trans rfl)))))) rfl
          · by_cases h_11 : k = 4
            · refine vv_tabIn (tgt := 77) (off := 47) F dX1_shown_30 (by rw [h_11]; decide) (by rw [h_11]; decide) (by rw [h_11]; rfl) (by decide) ?_
              refine vv_iload F dX1_shown_77 rfl ?_
              refine vv_iconst (v := 1) F dX1_shown_79 (by decide) ?_
              refine vv_iadd F dX1_shown_80 ?_
              refine vv_iconst (v := 2) F dX1_shown_81 (by decide) ?_
              refine vv_idiv F dX1_shown_82 (by decide) ?_
              exact vv_iret F hR dX1_shown_83 (congrArg (fun z => some (Value.int z)) ((if_neg h_1).trans ((if_pos h_7).trans ((if_neg h_8).trans ((if_neg h_9).trans ((if_neg h_10).trans ((if_pos h_11).trans rfl))))))) rfl
            · by_cases h_12 : k = 5
              · refine vv_tabIn (tgt := 84) (off := 54) F dX1_shown_30 (by rw [h_12]; decide) (by rw [h_12]; decide) (by rw [h_12]; rfl) (by decide) ?_
                refine vv_iconst (v := 2) F dX1_shown_84 (by decide) ?_
                refine vv_iload F dX1_shown_85 rfl ?_
                refine vv_imul F dX1_shown_87 ?_
                refine vv_bipush (v := 99) F dX1_shown_88 (by decide) ?_
                refine vv_mmin F mm_X1_15 st_min in_Math co_min (by decide) (Nat.le_of_ble_eq_true rfl) dX1_shown_90 ?_
                exact vv_iret F hR dX1_shown_93 (congrArg (fun z => some (Value.int z)) ((if_neg h_1).trans ((if_pos h_7).trans ((if_neg h_8).trans ((if_neg h_9).trans ((if_neg h_10).trans ((if_neg h_11).trans ((if_pos h_12).trans rfl)))))))) rfl
              · refine vv_tabOut (tgt := 94) F dX1_shown_30 (by have h_8i : ¬ k.toInt = 1 := vv_ne h_8; have h_9i : ¬ k.toInt = 2 := vv_ne h_9; have h_10i : ¬ k.toInt = 3 := vv_ne h_10; have h_11i : ¬ k.toInt = 4 := vv_ne h_11; have h_12i : ¬ k.toInt = 5 := vv_ne h_12; omega) (by decide) ?_
                refine vv_iload_n F dX1_shown_94 rfl rfl ?_
                exact vv_iret F hR dX1_shown_95 (congrArg (fun z => some (Value.int z)) ((if_neg h_1).trans ((if_pos h_7).trans ((if_neg h_8).trans ((if_neg h_9).trans ((if_neg h_10).trans ((if_neg h_11).trans ((if_neg h_12).trans rfl)))))))) rfl
    · refine vv_iconst (v := 0) F dX1_shown_17 (by decide) ?_
      refine vv_goto (tgt := 22) F dX1_shown_18 (by decide) ?_
      refine vv_istore (lv' := [(4, .int 0), (3, .int (vv_rem h 24)), (0, .int k), (1, .int n), (2, .int h)]) F dX1_shown_22 (by decide) rfl ?_
      refine vv_iload_n F dX1_shown_24 rfl rfl ?_
      refine vv_iconst (v := 5) F dX1_shown_25 (by decide) ?_
      refine vv_iadd F dX1_shown_26 ?_
      refine vv_istore (lv' := [(5, .int (n + 5)), (4, .int 0), (3, .int (vv_rem h 24)), (0, .int k), (1, .int n), (2, .int h)]) F dX1_shown_27 (by decide) rfl ?_
      refine vv_iload_n F dX1_shown_29 rfl rfl ?_
      by_cases h_13 : k = 1
      · refine vv_tabIn (tgt := 64) (off := 34) F dX1_shown_30 (by rw [h_13]; decide) (by rw [h_13]; decide) (by rw [h_13]; rfl) (by decide) ?_
        refine vv_iload F dX1_shown_64 rfl ?_
        exact vv_iret F hR dX1_shown_66 (congrArg (fun z => some (Value.int z)) ((if_neg h_1).trans ((if_neg h_7).trans ((if_pos h_13).trans rfl)))) rfl
      · by_cases h_14 : k = 2
        · refine vv_tabIn (tgt := 67) (off := 37) F dX1_shown_30 (by rw [h_14]; decide) (by rw [h_14]; decide) (by rw [h_14]; rfl) (by decide) ?_
          refine vv_iload_n F dX1_shown_67 rfl rfl ?_
          refine vv_bipush (v := 10) F dX1_shown_68 (by decide) ?_
          refine vv_mmin F mm_X1_15 st_min in_Math co_min (by decide) (Nat.le_of_ble_eq_true rfl) dX1_shown_70 ?_
          exact vv_iret F hR dX1_shown_73 (congrArg (fun z => some (Value.int z)) ((if_neg h_1).trans ((if_neg h_7).trans ((if_neg h_13).trans ((if_pos h_14).trans rfl))))) rfl
        · by_cases h_15 : k = 3
          · refine vv_tabIn (tgt := 74) (off := 44) F dX1_shown_30 (by rw [h_15]; decide) (by rw [h_15]; decide) (by rw [h_15]; rfl) (by decide) ?_
            refine vv_iload F dX1_shown_74 rfl ?_
            exact vv_iret F hR dX1_shown_76 (congrArg (fun z => some (Value.int z)) ((if_neg h_1).trans ((if_neg h_7).trans ((if_neg h_13).trans ((if_neg h_14).trans ((if_pos h_15).trans rfl)))))) rfl
          · by_cases h_16 : k = 4
            · refine vv_tabIn (tgt := 77) (off := 47) F dX1_shown_30 (by rw [h_16]; decide) (by rw [h_16]; decide) (by rw [h_16]; rfl) (by decide) ?_
              refine vv_iload F dX1_shown_77 rfl ?_
              refine vv_iconst (v := 1) F dX1_shown_79 (by decide) ?_
              refine vv_iadd F dX1_shown_80 ?_
              refine vv_iconst (v := 2) F dX1_shown_81 (by decide) ?_
              refine vv_idiv F dX1_shown_82 (by decide) ?_
              exact vv_iret F hR dX1_shown_83 (congrArg (fun z => some (Value.int z)) ((if_neg h_1).trans ((if_neg h_7).trans ((if_neg h_13).trans ((if_neg h_14).trans ((if_neg h_15).trans ((if_pos h_16).trans rfl))))))) rfl
            · by_cases h_17 : k = 5
              · refine vv_tabIn (tgt := 84) (off := 54) F dX1_shown_30 (by rw [h_17]; decide) (by rw [h_17]; decide) (by rw [h_17]; rfl) (by decide) ?_
                refine vv_iconst (v := 2) F dX1_shown_84 (by decide) ?_
                refine vv_iload F dX1_shown_85 rfl ?_
                refine vv_imul F dX1_shown_87 ?_
                refine vv_bipush (v := 99) F dX1_shown_88 (by decide) ?_
                refine vv_mmin F mm_X1_15 st_min in_Math co_min (by decide) (Nat.le_of_ble_eq_true rfl) dX1_shown_90 ?_
                exact vv_iret F hR dX1_shown_93 (congrArg (fun z => some (Value.int z)) ((if_neg h_1).trans ((if_neg h_7).trans ((if_neg h_13).trans ((if_neg h_14).trans ((if_neg h_15).trans ((if_neg h_16).trans ((if_pos h_17).trans rfl)))))))) rfl
              · refine vv_tabOut (tgt := 94) F dX1_shown_30 (by have h_13i : ¬ k.toInt = 1 := vv_ne h_13; have h_14i : ¬ k.toInt = 2 := vv_ne h_14; have h_15i : ¬ k.toInt = 3 := vv_ne h_15; have h_16i : ¬ k.toInt = 4 := vv_ne h_16; have h_17i : ¬ k.toInt = 5 := vv_ne h_17; omega) (by decide) ?_
                refine vv_iload_n F dX1_shown_94 rfl rfl ?_
                exact vv_iret F hR dX1_shown_95 (congrArg (fun z => some (Value.int z)) ((if_neg h_1).trans ((if_neg h_7).trans ((if_neg h_13).trans ((if_neg h_14).trans ((if_neg h_15).trans ((if_neg h_16).trans ((if_neg h_17).trans rfl)))))))) rfl
def f_X1_charged (k s dy : Int32) : Int32 := (if s < 1 then (if k = 1 then (((s + 1) / 2) + (s / 10)) else (if k = 2 then (if (vv_rem dy 7) = 0 then 0 else ((s + 1) / 2)) else (if k = 3 then ((s + 1) / 2) else (if k = 4 then (if 25 < (((s + 1) / 2) + (s / 10)) then 25 else (((s + 1) / 2) + (s / 10))) else (if k = 5 then (((((s + 1) / 2) + 4) / 5) * 5) else ((s + 1) / 2)))))) else (if k = 1 then (((s + 1) / 2) + (s / 10)) else (if k = 2 then (if (vv_rem dy 7) = 0 then 0 else ((s + 1) / 2)) else (if k = 3 then (((s + 1) / 2) + 3) else (if k = 4 then (if 25 < (((s + 1) / 2) + (s / 10)) then 25 else (((s + 1) / 2) + (s / 10))) else (if k = 5 then ((((((s + 1) / 2) + 3) + 4) / 5) * 5) else ((s + 1) / 2)))))))
theorem c_X1_charged (l : Launch) (K : vv_K) (k s dy : Int32)  : vv_C l K 2 yX1_charged cX1_charged 6 (some .int) [.int k, .int s, .int dy] [] (some (.int (f_X1_charged k s dy))) [] := by
  refine vv_C.of (lv := [(0, .int k), (1, .int s), (2, .int dy)]) (by decide +kernel) (Nat.le_of_ble_eq_true rfl) rfl ?_
  intro x hl hK F hR; subst hl; obtain rfl := hK
  refine vv_iload_n F dX1_charged_0 rfl rfl ?_
  refine vv_iconst (v := 1) F dX1_charged_1 (by decide) ?_
  refine vv_iadd F dX1_charged_2 ?_
  refine vv_iconst (v := 2) F dX1_charged_3 (by decide) ?_
  refine vv_idiv F dX1_charged_4 (by decide) ?_
  refine vv_istore_n (lv' := [(3, .int ((s + 1) / 2)), (0, .int k), (1, .int s), (2, .int dy)]) F dX1_charged_5 rfl (by decide) rfl ?_
  refine vv_iload_n F dX1_charged_6 rfl rfl ?_
  refine vv_iload_n F dX1_charged_7 rfl rfl ?_
  refine vv_bipush (v := 10) F dX1_charged_8 (by decide) ?_
  refine vv_idiv F dX1_charged_10 (by decide) ?_
  refine vv_iadd F dX1_charged_11 ?_
  refine vv_istore (lv' := [(4, .int (((s + 1) / 2) + (s / 10))), (3, .int ((s + 1) / 2)), (0, .int k), (1, .int s), (2, .int dy)]) F dX1_charged_12 (by decide) rfl ?_
  refine vv_iload_n F dX1_charged_14 rfl rfl ?_
  refine vv_iconst (v := 1) F dX1_charged_15 (by decide) ?_
  refine vv_icmp_lt (tgt := 25) F dX1_charged_16 (by decide) (fun h_1 => ?_) (fun h_1 => ?_)
  · refine vv_iload_n F dX1_charged_25 rfl rfl ?_
    refine vv_istore (lv' := [(5, .int ((s + 1) / 2)), (4, .int (((s + 1) / 2) + (s / 10))), (3, .int ((s + 1) / 2)), (0, .int k), (1, .int s), (2, .int dy)]) F dX1_charged_26 (by decide) rfl ?_
    refine vv_iload_n F dX1_charged_28 rfl rfl ?_
    by_cases h_2 : k = 1
    · refine vv_tabIn (tgt := 64) (off := 35) F dX1_charged_29 (by rw [h_2]; decide) (by rw [h_2]; decide) (by rw [h_2]; rfl) (by decide) ?_
      refine vv_iload F dX1_charged_64 rfl ?_
      exact vv_iret F hR dX1_charged_66 (congrArg (fun z => some (Value.int z)) ((if_pos h_1).trans ((if_pos h_2).trans rfl))) rfl
    · by_cases h_3 : k = 2
      · refine vv_tabIn (tgt := 67) (off := 38) F dX1_charged_29 (by rw [h_3]; decide) (by rw [h_3]; decide) (by rw [h_3]; rfl) (by decide) ?_
        refine vv_iload_n F dX1_charged_67 rfl rfl ?_
        refine vv_bipush (v := 7) F dX1_charged_68 (by decide) ?_
        refine vv_iremR F dX1_charged_70 (by decide) ?_
        refine vv_if_ne (tgt := 78) F dX1_charged_71 (by decide) (fun h_4 => ?_) (fun h_4 => ?_)
        · refine vv_iload_n F dX1_charged_78 rfl rfl ?_
          exact vv_iret F hR dX1_charged_79 (congrArg (fun z => some (Value.int z)) ((if_pos h_1).trans ((if_neg h_2).trans ((if_pos h_3).trans ((if_neg h_4).trans rfl))))) rfl
        · refine vv_iconst (v := 0) F dX1_charged_74 (by decide) ?_
          refine vv_goto (tgt := 79) F dX1_charged_75 (by decide) ?_
          exact vv_iret F hR dX1_charged_79 (congrArg (fun z => some (Value.int z)) ((if_pos h_1).trans ((if_neg h_2).trans ((if_pos h_3).trans ((if_pos h_4).trans rfl))))) rfl
      · by_cases h_5 : k = 3
        · refine vv_tabIn (tgt := 80) (off := 51) F dX1_charged_29 (by rw [h_5]; decide) (by rw [h_5]; decide) (by rw [h_5]; rfl) (by decide) ?_
          refine vv_iload F dX1_charged_80 rfl ?_
          exact vv_iret F hR dX1_charged_82 (congrArg (fun z => some (Value.int z)) ((if_pos h_1).trans ((if_neg h_2).trans ((if_neg h_3).trans ((if_pos h_5).trans rfl))))) rfl
        · by_cases h_6 : k = 4
          · refine vv_tabIn (tgt := 83) (off := 54) F dX1_charged_29 (by rw [h_6]; decide) (by rw [h_6]; decide) (by rw [h_6]; rfl) (by decide) ?_
            refine vv_iload F dX1_charged_83 rfl ?_
            refine vv_bipush (v := 25) F dX1_charged_85 (by decide) ?_
            refine vv_mmin F mm_X1_15 st_min in_Math co_min (by decide) (Nat.le_of_ble_eq_true rfl) dX1_charged_87 ?_
            exact vv_iret F hR dX1_charged_90 (congrArg (fun z => some (Value.int z)) ((if_pos h_1).trans ((if_neg h_2).trans ((if_neg h_3).trans ((if_neg h_5).trans ((if_pos h_6).trans rfl)))))) rfl
          · by_cases h_7 : k = 5
            · refine vv_tabIn (tgt := 91) (off := 62) F dX1_charged_29 (by rw [h_7]; decide) (by rw [h_7]; decide) (by rw [h_7]; rfl) (by decide) ?_
              refine vv_iload F dX1_charged_91 rfl ?_
              refine vv_iconst (v := 4) F dX1_charged_93 (by decide) ?_
              refine vv_iadd F dX1_charged_94 ?_
              refine vv_iconst (v := 5) F dX1_charged_95 (by decide) ?_
              refine vv_idiv F dX1_charged_96 (by decide) ?_
              refine vv_iconst (v := 5) F dX1_charged_97 (by decide) ?_
              refine vv_imul F dX1_charged_98 ?_
              exact vv_iret F hR dX1_charged_99 (congrArg (fun z => some (Value.int z)) ((if_pos h_1).trans ((if_neg h_2).trans ((if_neg h_3).trans ((if_neg h_5).trans ((if_neg h_6).trans ((if_pos h_7).trans rfl))))))) rfl
            · refine vv_tabOut (tgt := 100) F dX1_charged_29 (by have h_2i : ¬ k.toInt = 1 := vv_ne h_2; have h_3i : ¬ k.toInt = 2 := vv_ne h_3; have h_5i : ¬ k.toInt = 3 := vv_ne h_5; have h_6i : ¬ k.toInt = 4 := vv_ne h_6; have h_7i : ¬ k.toInt = 5 := vv_ne h_7; omega) (by decide) ?_
              refine vv_iload_n F dX1_charged_100 rfl rfl ?_
              exact vv_iret F hR dX1_charged_101 (congrArg (fun z => some (Value.int z)) ((if_pos h_1).trans ((if_neg h_2).trans ((if_neg h_3).trans ((if_neg h_5).trans ((if_neg h_6).trans ((if_neg h_7).trans rfl))))))) rfl
  · refine vv_iload_n F dX1_charged_19 rfl rfl ?_
    refine vv_iconst (v := 3) F dX1_charged_20 (by decide) ?_
    refine vv_iadd F dX1_charged_21 ?_
    refine vv_goto (tgt := 26) F dX1_charged_22 (by decide) ?_
    refine vv_istore (lv' := [(5, .int (((s + 1) / 2) + 3)), (4, .int (((s + 1) / 2) + (s / 10))), (3, .int ((s + 1) / 2)), (0, .int k), (1, .int s), (2, .int dy)]) F dX1_charged_26 (by decide) rfl ?_
    refine vv_iload_n F dX1_charged_28 rfl rfl ?_
    by_cases h_8 : k = 1
    · refine vv_tabIn (tgt := 64) (off := 35) F dX1_charged_29 (by rw [h_8]; decide) (by rw [h_8]; decide) (by rw [h_8]; rfl) (by decide) ?_
      refine vv_iload F dX1_charged_64 rfl ?_
      exact vv_iret F hR dX1_charged_66 (congrArg (fun z => some (Value.int z)) ((if_neg h_1).trans ((if_pos h_8).trans rfl))) rfl
    · by_cases h_9 : k = 2
      · refine vv_tabIn (tgt := 67) (off := 38) F dX1_charged_29 (by rw [h_9]; decide) (by rw [h_9]; decide) (by rw [h_9]; rfl) (by decide) ?_
        refine vv_iload_n F dX1_charged_67 rfl rfl ?_
        refine vv_bipush (v := 7) F dX1_charged_68 (by decide) ?_
        refine vv_iremR F dX1_charged_70 (by decide) ?_
        refine vv_if_ne (tgt := 78) F dX1_charged_71 (by decide) (fun h_10 => ?_) (fun h_10 => ?_)
        · refine vv_iload_n F dX1_charged_78 rfl rfl ?_
          exact vv_iret F hR dX1_charged_79 (congrArg (fun z => some (Value.int z)) ((if_neg h_1).trans ((if_neg h_8).trans ((if_pos h_9).trans ((if_neg h_10).trans rfl))))) rfl
        · refine vv_iconst (v := 0) F dX1_charged_74 (by decide) ?_
          refine vv_goto (tgt := 79) F dX1_charged_75 (by decide) ?_
          exact vv_iret F hR dX1_charged_79 (congrArg (fun z => some (Value.int z)) ((if_neg h_1).trans ((if_neg h_8).trans ((if_pos h_9).trans ((if_pos h_10).trans rfl))))) rfl
      · by_cases h_11 : k = 3
        · refine vv_tabIn (tgt := 80) (off := 51) F dX1_charged_29 (by rw [h_11]; decide) (by rw [h_11]; decide) (by rw [h_11]; rfl) (by decide) ?_
          refine vv_iload F dX1_charged_80 rfl ?_
          exact vv_iret F hR dX1_charged_82 (congrArg (fun z => some (Value.int z)) ((if_neg h_1).trans ((if_neg h_8).trans ((if_neg h_9).trans ((if_pos h_11).trans rfl))))) rfl
        · by_cases h_12 : k = 4
          · refine vv_tabIn (tgt := 83) (off := 54) F dX1_charged_29 (by rw [h_12]; decide) (by rw [h_12]; decide) (by rw [h_12]; rfl) (by decide) ?_
            refine vv_iload F dX1_charged_83 rfl ?_
            refine vv_bipush (v := 25) F dX1_charged_85 (by decide) ?_
            refine vv_mmin F mm_X1_15 st_min in_Math co_min (by decide) (Nat.le_of_ble_eq_true rfl) dX1_charged_87 ?_
            exact vv_iret F hR dX1_charged_90 (congrArg (fun z => some (Value.int z)) ((if_neg h_1).trans ((if_neg h_8).trans ((if_neg h_9).trans ((if_neg h_11).trans ((if_pos h_12).trans rfl)))))) rfl
          · by_cases h_13 : k = 5
            · refine vv_tabIn (tgt := 91) (off := 62) F dX1_charged_29 (by rw [h_13]; decide) (by rw [h_13]; decide) (by rw [h_13]; rfl) (by decide) ?_
              refine vv_iload F dX1_charged_91 rfl ?_
              refine vv_iconst (v := 4) F dX1_charged_93 (by decide) ?_
              refine vv_iadd F dX1_charged_94 ?_
              refine vv_iconst (v := 5) F dX1_charged_95 (by decide) ?_
              refine vv_idiv F dX1_charged_96 (by decide) ?_
              refine vv_iconst (v := 5) F dX1_charged_97 (by decide) ?_
              refine vv_imul F dX1_charged_98 ?_
              exact vv_iret F hR dX1_charged_99 (congrArg (fun z => some (Value.int z)) ((if_neg h_1).trans ((if_neg h_8).trans ((if_neg h_9).trans ((if_neg h_11).trans ((if_neg h_12).trans ((if_pos h_13).trans rfl))))))) rfl
            · refine vv_tabOut (tgt := 100) F dX1_charged_29 (by have h_8i : ¬ k.toInt = 1 := vv_ne h_8; have h_9i : ¬ k.toInt = 2 := vv_ne h_9; have h_11i : ¬ k.toInt = 3 := vv_ne h_11; have h_12i : ¬ k.toInt = 4 := vv_ne h_12; have h_13i : ¬ k.toInt = 5 := vv_ne h_13; omega) (by decide) ?_
              refine vv_iload_n F dX1_charged_100 rfl rfl ?_
              exact vv_iret F hR dX1_charged_101 (congrArg (fun z => some (Value.int z)) ((if_neg h_1).trans ((if_neg h_8).trans ((if_neg h_9).trans ((if_neg h_11).trans ((if_neg h_12).trans ((if_neg h_13).trans rfl))))))) rfl
def f_X1_brought (n ln : Int32) : Int32 := (if n < ln then 0 else ((n + 1) - ln))
theorem c_X1_brought (l : Launch) (K : vv_K) (n ln : Int32)  : vv_C l K 1 yX1_brought cX1_brought 2 (some .int) [.int n, .int ln] [] (some (.int (f_X1_brought n ln))) [] := by
  refine vv_C.of (lv := [(0, .int n), (1, .int ln)]) (by decide +kernel) (Nat.le_of_ble_eq_true rfl) rfl ?_
  intro x hl hK F hR; subst hl; obtain rfl := hK
  refine vv_iload_n F dX1_brought_0 rfl rfl ?_
  refine vv_iload_n F dX1_brought_1 rfl rfl ?_
  refine vv_icmp_lt (tgt := 13) F dX1_brought_2 (by decide) (fun h_1 => ?_) (fun h_1 => ?_)
  · refine vv_iconst (v := 0) F dX1_brought_13 (by decide) ?_
    exact vv_iret F hR dX1_brought_14 (congrArg (fun z => some (Value.int z)) ((if_pos h_1).trans rfl)) rfl
  · refine vv_iload_n F dX1_brought_5 rfl rfl ?_
    refine vv_iconst (v := 1) F dX1_brought_6 (by decide) ?_
    refine vv_iadd F dX1_brought_7 ?_
    refine vv_iload_n F dX1_brought_8 rfl rfl ?_
    refine vv_isub F dX1_brought_9 ?_
    refine vv_goto (tgt := 14) F dX1_brought_10 (by decide) ?_
    exact vv_iret F hR dX1_brought_14 (congrArg (fun z => some (Value.int z)) ((if_neg h_1).trans rfl)) rfl
abbrev p_X8_in (v lo hi : Int64) : Prop := ((¬ (v < lo)) ∧ (¬ (hi < v)))
theorem c_X8_in (l : Launch) (K : vv_K) (v lo hi : Int64)  : vv_C l K 1 yX8_in cX8_in 6 (some .boolean) [.long v, .long lo, .long hi] [] (some (.int (vv_b (p_X8_in v lo hi)))) [] := by
  refine vv_C.of (lv := [(0, .long v), (2, .long lo), (4, .long hi)]) (by decide +kernel) (Nat.le_of_ble_eq_true rfl) rfl ?_
  intro x hl hK F hR; subst hl; obtain rfl := hK
  refine vv_lload_n F dX8_in_0 rfl rfl ?_
  refine vv_lload_n F dX8_in_1 rfl rfl ?_
  refine vv_lcmp_lt (tgt := 17) F dX8_in_2 dX8_in_3 (by decide) (fun h_1 => ?_) (fun h_1 => ?_)
  · refine vv_iconst (v := 0) F dX8_in_17 (by decide) ?_
    exact vv_zret F hR dX8_in_18 rfl (vv_bf (fun z => z.1 h_1)) rfl
  · refine vv_lload_n F dX8_in_6 rfl rfl ?_
    refine vv_lload F dX8_in_7 rfl ?_
    refine vv_lcmp_gt (tgt := 17) F dX8_in_9 dX8_in_10 (by decide) (fun h_2 => ?_) (fun h_2 => ?_)
    · refine vv_iconst (v := 0) F dX8_in_17 (by decide) ?_
      exact vv_zret F hR dX8_in_18 rfl (vv_bf (fun z => (fun z => z h_2) z.2)) rfl
    · refine vv_iconst (v := 1) F dX8_in_13 (by decide) ?_
      refine vv_goto (tgt := 18) F dX8_in_14 (by decide) ?_
      exact vv_zret F hR dX8_in_18 rfl (vv_bt ⟨h_1, h_2⟩) rfl
abbrev p_X8_has (s k : Int32) : Prop := (((s >>> (k &&& 31)) &&& 1) = 1)
theorem c_X8_has (l : Launch) (K : vv_K) (s k : Int32)  : vv_C l K 1 yX8_has cX8_has 2 (some .boolean) [.int s, .int k] [] (some (.int (vv_b (p_X8_has s k)))) [] := by
  refine vv_C.of (lv := [(0, .int s), (1, .int k)]) (by decide +kernel) (Nat.le_of_ble_eq_true rfl) rfl ?_
  intro x hl hK F hR; subst hl; obtain rfl := hK
  refine vv_iload_n F dX8_has_0 rfl rfl ?_
  refine vv_iload_n F dX8_has_1 rfl rfl ?_
  refine vv_ishr F dX8_has_2 ?_
  refine vv_iconst (v := 1) F dX8_has_3 (by decide) ?_
  refine vv_iand F dX8_has_4 ?_
  refine vv_iconst (v := 1) F dX8_has_5 (by decide) ?_
  refine vv_icmp_ne (tgt := 13) F dX8_has_6 (by decide) (fun h_1 => ?_) (fun h_1 => ?_)
  · refine vv_iconst (v := 0) F dX8_has_13 (by decide) ?_
    exact vv_zret F hR dX8_has_14 rfl (vv_bf h_1) rfl
  · refine vv_iconst (v := 1) F dX8_has_9 (by decide) ?_
    refine vv_goto (tgt := 14) F dX8_has_10 (by decide) ?_
    exact vv_zret F hR dX8_has_14 rfl (vv_bt h_1) rfl
theorem c_X8_isHouse (l : Launch) (K : vv_K) (v : Int32)  : vv_C l K 2 yX8_isHouse cX8_isHouse 1 (some .boolean) [.int v] [] (some (.int (vv_b (p_X8_in v.toInt64 0 1)))) [] := by
  refine vv_C.of (lv := [(0, .int v)]) (by decide +kernel) (Nat.le_of_ble_eq_true rfl) rfl ?_
  intro x hl hK F hR; subst hl; obtain rfl := hK
  refine vv_iload_n F dX8_isHouse_0 rfl rfl ?_
  refine vv_i2l F dX8_isHouse_1 ?_
  refine vv_lconst (v := 0) F dX8_isHouse_2 (by decide) ?_
  refine vv_lconst (v := 1) F dX8_isHouse_3 (by decide) ?_
  refine vv_callSp (As := [.long v.toInt64, .long 0, .long 1]) (rest := []) [] F (c_X8_in (vv_l x) (vv_k x) v.toInt64 0 1) ms_X8_56 dX8_isHouse_4 (by decide) rfl rfl (Nat.le_of_ble_eq_true rfl) rfl (by decide) ?_
  exact vv_zret F hR dX8_isHouse_7 (vv_b_nar _) rfl rfl
def f_X8_silk (n h : Int32) : Int32 := (if h < 6 then 0 else (if h < 18 then n else 0))
theorem c_X8_silk (l : Launch) (K : vv_K) (n h : Int32)  : vv_C l K 1 yX8_silk cX8_silk 2 (some .int) [.int n, .int h] [] (some (.int (f_X8_silk n h))) [] := by
  refine vv_C.of (lv := [(0, .int n), (1, .int h)]) (by decide +kernel) (Nat.le_of_ble_eq_true rfl) rfl ?_
  intro x hl hK F hR; subst hl; obtain rfl := hK
  refine vv_iload_n F dX8_silk_0 rfl rfl ?_
  refine vv_bipush (v := 6) F dX8_silk_1 (by decide) ?_
  refine vv_icmp_lt (tgt := 12) F dX8_silk_3 (by decide) (fun h_1 => ?_) (fun h_1 => ?_)
  · refine vv_iconst (v := 0) F dX8_silk_12 (by decide) ?_
    refine vv_goto (tgt := 17) F dX8_silk_13 (by decide) ?_
    exact vv_iret F hR dX8_silk_17 (congrArg (fun z => some (Value.int z)) ((if_pos h_1).trans rfl)) rfl
  · refine vv_iload_n F dX8_silk_6 rfl rfl ?_
    refine vv_bipush (v := 18) F dX8_silk_7 (by decide) ?_
    refine vv_icmp_lt (tgt := 16) F dX8_silk_9 (by decide) (fun h_2 => ?_) (fun h_2 => ?_)
    · refine vv_iload_n F dX8_silk_16 rfl rfl ?_
      exact vv_iret F hR dX8_silk_17 (congrArg (fun z => some (Value.int z)) ((if_neg h_1).trans ((if_pos h_2).trans rfl))) rfl
    · refine vv_iconst (v := 0) F dX8_silk_12 (by decide) ?_
      refine vv_goto (tgt := 17) F dX8_silk_13 (by decide) ?_
      exact vv_iret F hR dX8_silk_17 (congrArg (fun z => some (Value.int z)) ((if_neg h_1).trans ((if_neg h_2).trans rfl))) rfl
def f_X8_showOf (k n h : Int32) : Int32 := (if k = 1 then (f_X8_silk n h) else (if k = 2 then (if n ≤ 10 then n else 10) else (if k = 3 then (n + 5) else (if k = 4 then (((f_X8_silk n h) + 1) / 2) else (if k = 5 then (if (2 * (n + 5)) ≤ 99 then (2 * (n + 5)) else 99) else n)))))
theorem c_X8_showOf (l : Launch) (K : vv_K) (k n h : Int32)  : vv_C l K 2 yX8_showOf cX8_showOf 3 (some .int) [.int k, .int n, .int h] [] (some (.int (f_X8_showOf k n h))) [] := by
  refine vv_C.of (lv := [(0, .int k), (1, .int n), (2, .int h)]) (by decide +kernel) (Nat.le_of_ble_eq_true rfl) rfl ?_
  intro x hl hK F hR; subst hl; obtain rfl := hK
  refine vv_iload_n F dX8_showOf_0 rfl rfl ?_
  by_cases h_1 : k = 1
  · refine vv_tabIn (tgt := 36) (off := 35) F dX8_showOf_1 (by rw [h_1]; decide) (by rw [h_1]; decide) (by rw [h_1]; rfl) (by decide) ?_
    refine vv_iload_n F dX8_showOf_36 rfl rfl ?_
    refine vv_iload_n F dX8_showOf_37 rfl rfl ?_
    refine vv_callSp (As := [.int n, .int h]) (rest := []) [] F (c_X8_silk (vv_l x) (vv_k x) n h) ms_X8_60 dX8_showOf_38 (by decide) rfl rfl (Nat.le_of_ble_eq_true rfl) rfl (by decide) ?_
    exact vv_iret F hR dX8_showOf_41 (congrArg (fun z => some (Value.int z)) ((if_pos h_1).trans rfl)) rfl
  · by_cases h_2 : k = 2
    · refine vv_tabIn (tgt := 42) (off := 41) F dX8_showOf_1 (by rw [h_2]; decide) (by rw [h_2]; decide) (by rw [h_2]; rfl) (by decide) ?_
      refine vv_iload_n F dX8_showOf_42 rfl rfl ?_
      refine vv_bipush (v := 10) F dX8_showOf_43 (by decide) ?_
      refine vv_icmp_le (tgt := 53) F dX8_showOf_45 (by decide) (fun h_3 => ?_) (fun h_3 => ?_)
      · refine vv_iload_n F dX8_showOf_53 rfl rfl ?_
        exact vv_iret F hR dX8_showOf_54 (congrArg (fun z => some (Value.int z)) ((if_neg h_1).trans ((if_pos h_2).trans ((if_pos h_3).trans rfl)))) rfl
      · refine vv_bipush (v := 10) F dX8_showOf_48 (by decide) ?_
        refine vv_goto (tgt := 54) F dX8_showOf_50 (by decide) ?_
        exact vv_iret F hR dX8_showOf_54 (congrArg (fun z => some (Value.int z)) ((if_neg h_1).trans ((if_pos h_2).trans ((if_neg h_3).trans rfl)))) rfl
    · by_cases h_4 : k = 3
      · refine vv_tabIn (tgt := 55) (off := 54) F dX8_showOf_1 (by rw [h_4]; decide) (by rw [h_4]; decide) (by rw [h_4]; rfl) (by decide) ?_
        refine vv_iload_n F dX8_showOf_55 rfl rfl ?_
        refine vv_iconst (v := 5) F dX8_showOf_56 (by decide) ?_
        refine vv_iadd F dX8_showOf_57 ?_
        exact vv_iret F hR dX8_showOf_58 (congrArg (fun z => some (Value.int z)) ((if_neg h_1).trans ((if_neg h_2).trans ((if_pos h_4).trans rfl)))) rfl
      · by_cases h_5 : k = 4
        · refine vv_tabIn (tgt := 59) (off := 58) F dX8_showOf_1 (by rw [h_5]; decide) (by rw [h_5]; decide) (by rw [h_5]; rfl) (by decide) ?_
          refine vv_iload_n F dX8_showOf_59 rfl rfl ?_
          refine vv_iload_n F dX8_showOf_60 rfl rfl ?_
          refine vv_callSp (As := [.int n, .int h]) (rest := []) [] F (c_X8_silk (vv_l x) (vv_k x) n h) ms_X8_60 dX8_showOf_61 (by decide) rfl rfl (Nat.le_of_ble_eq_true rfl) rfl (by decide) ?_
          refine vv_iconst (v := 1) F dX8_showOf_64 (by decide) ?_
          refine vv_iadd F dX8_showOf_65 ?_
          refine vv_iconst (v := 2) F dX8_showOf_66 (by decide) ?_
          refine vv_idiv F dX8_showOf_67 (by decide) ?_
          exact vv_iret F hR dX8_showOf_68 (congrArg (fun z => some (Value.int z)) ((if_neg h_1).trans ((if_neg h_2).trans ((if_neg h_4).trans ((if_pos h_5).trans rfl))))) rfl
        · by_cases h_6 : k = 5
          · refine vv_tabIn (tgt := 69) (off := 68) F dX8_showOf_1 (by rw [h_6]; decide) (by rw [h_6]; decide) (by rw [h_6]; rfl) (by decide) ?_
            refine vv_iconst (v := 2) F dX8_showOf_69 (by decide) ?_
            refine vv_iload_n F dX8_showOf_70 rfl rfl ?_
            refine vv_iconst (v := 5) F dX8_showOf_71 (by decide) ?_
            refine vv_iadd F dX8_showOf_72 ?_
            refine vv_imul F dX8_showOf_73 ?_
            refine vv_bipush (v := 99) F dX8_showOf_74 (by decide) ?_
            refine vv_icmp_le (tgt := 84) F dX8_showOf_76 (by decide) (fun h_7 => ?_) (fun h_7 => ?_)
            · refine vv_iconst (v := 2) F dX8_showOf_84 (by decide) ?_
              refine vv_iload_n F dX8_showOf_85 rfl rfl ?_
              refine vv_iconst (v := 5) F dX8_showOf_86 (by decide) ?_
              refine vv_iadd F dX8_showOf_87 ?_
              refine vv_imul F dX8_showOf_88 ?_
              exact vv_iret F hR dX8_showOf_89 (congrArg (fun z => some (Value.int z)) ((if_neg h_1).trans ((if_neg h_2).trans ((if_neg h_4).trans ((if_neg h_5).trans ((if_pos h_6).trans ((if_pos h_7).trans rfl))))))) rfl
            · refine vv_bipush (v := 99) F dX8_showOf_79 (by decide) ?_
              refine vv_goto (tgt := 89) F dX8_showOf_81 (by decide) ?_
              exact vv_iret F hR dX8_showOf_89 (congrArg (fun z => some (Value.int z)) ((if_neg h_1).trans ((if_neg h_2).trans ((if_neg h_4).trans ((if_neg h_5).trans ((if_pos h_6).trans ((if_neg h_7).trans rfl))))))) rfl
          · refine vv_tabOut (tgt := 90) F dX8_showOf_1 (by have h_1i : ¬ k.toInt = 1 := vv_ne h_1; have h_2i : ¬ k.toInt = 2 := vv_ne h_2; have h_4i : ¬ k.toInt = 3 := vv_ne h_4; have h_5i : ¬ k.toInt = 4 := vv_ne h_5; have h_6i : ¬ k.toInt = 5 := vv_ne h_6; omega) (by decide) ?_
            refine vv_iload_n F dX8_showOf_90 rfl rfl ?_
            exact vv_iret F hR dX8_showOf_91 (congrArg (fun z => some (Value.int z)) ((if_neg h_1).trans ((if_neg h_2).trans ((if_neg h_4).trans ((if_neg h_5).trans ((if_neg h_6).trans rfl)))))) rfl
theorem c_X8_plain (l : Launch) (K : vv_K) (s : Int32)  : vv_C l K 1 yX8_plain cX8_plain 1 (some .int) [.int s] [] (some (.int ((s + 1) / 2))) [] := by
  refine vv_C.of (lv := [(0, .int s)]) (by decide +kernel) (Nat.le_of_ble_eq_true rfl) rfl ?_
  intro x hl hK F hR; subst hl; obtain rfl := hK
  refine vv_iload_n F dX8_plain_0 rfl rfl ?_
  refine vv_iconst (v := 1) F dX8_plain_1 (by decide) ?_
  refine vv_iadd F dX8_plain_2 ?_
  refine vv_iconst (v := 2) F dX8_plain_3 (by decide) ?_
  refine vv_idiv F dX8_plain_4 (by decide) ?_
  exact vv_iret F hR dX8_plain_5 rfl rfl
theorem c_X8_steep (l : Launch) (K : vv_K) (s : Int32)  : vv_C l K 2 yX8_steep cX8_steep 1 (some .int) [.int s] [] (some (.int (((s + 1) / 2) + (s / 10)))) [] := by
  refine vv_C.of (lv := [(0, .int s)]) (by decide +kernel) (Nat.le_of_ble_eq_true rfl) rfl ?_
  intro x hl hK F hR; subst hl; obtain rfl := hK
  refine vv_iload_n F dX8_steep_0 rfl rfl ?_
  refine vv_callSp (As := [.int s]) (rest := []) [] F (c_X8_plain (vv_l x) (vv_k x) s) ms_X8_64 dX8_steep_1 (by decide) rfl rfl (Nat.le_of_ble_eq_true rfl) rfl (by decide) ?_
  refine vv_iload_n F dX8_steep_4 rfl rfl ?_
  refine vv_bipush (v := 10) F dX8_steep_5 (by decide) ?_
  refine vv_idiv F dX8_steep_7 (by decide) ?_
  refine vv_iadd F dX8_steep_8 ?_
  exact vv_iret F hR dX8_steep_9 rfl rfl
def f_X8_greedy (s : Int32) : Int32 := (if s < 1 then ((s + 1) / 2) else (((s + 1) / 2) + 3))
theorem c_X8_greedy (l : Launch) (K : vv_K) (s : Int32)  : vv_C l K 2 yX8_greedy cX8_greedy 1 (some .int) [.int s] [] (some (.int (f_X8_greedy s))) [] := by
  refine vv_C.of (lv := [(0, .int s)]) (by decide +kernel) (Nat.le_of_ble_eq_true rfl) rfl ?_
  intro x hl hK F hR; subst hl; obtain rfl := hK
  refine vv_iload_n F dX8_greedy_0 rfl rfl ?_
  refine vv_iconst (v := 1) F dX8_greedy_1 (by decide) ?_
  refine vv_icmp_lt (tgt := 14) F dX8_greedy_2 (by decide) (fun h_1 => ?_) (fun h_1 => ?_)
  · refine vv_iload_n F dX8_greedy_14 rfl rfl ?_
    refine vv_callSp (As := [.int s]) (rest := []) [] F (c_X8_plain (vv_l x) (vv_k x) s) ms_X8_64 dX8_greedy_15 (by decide) rfl rfl (Nat.le_of_ble_eq_true rfl) rfl (by decide) ?_
    exact vv_iret F hR dX8_greedy_18 (congrArg (fun z => some (Value.int z)) ((if_pos h_1).trans rfl)) rfl
  · refine vv_iload_n F dX8_greedy_5 rfl rfl ?_
    refine vv_callSp (As := [.int s]) (rest := []) [] F (c_X8_plain (vv_l x) (vv_k x) s) ms_X8_64 dX8_greedy_6 (by decide) rfl rfl (Nat.le_of_ble_eq_true rfl) rfl (by decide) ?_
    refine vv_iconst (v := 3) F dX8_greedy_9 (by decide) ?_
    refine vv_iadd F dX8_greedy_10 ?_
    refine vv_goto (tgt := 18) F dX8_greedy_11 (by decide) ?_
    exact vv_iret F hR dX8_greedy_18 (congrArg (fun z => some (Value.int z)) ((if_neg h_1).trans rfl)) rfl
def f_X8_chargeOf (k s dy : Int32) : Int32 := (if k = 1 then (((s + 1) / 2) + (s / 10)) else (if k = 2 then (if (vv_rem dy 7) = 0 then 0 else ((s + 1) / 2)) else (if k = 3 then (f_X8_greedy s) else (if k = 4 then (if (((s + 1) / 2) + (s / 10)) ≤ 25 then (((s + 1) / 2) + (s / 10)) else 25) else (if k = 5 then ((((f_X8_greedy s) + 4) / 5) * 5) else ((s + 1) / 2))))))
theorem c_X8_chargeOf (l : Launch) (K : vv_K) (k s dy : Int32)  : vv_C l K 3 yX8_chargeOf cX8_chargeOf 3 (some .int) [.int k, .int s, .int dy] [] (some (.int (f_X8_chargeOf k s dy))) [] := by
  refine vv_C.of (lv := [(0, .int k), (1, .int s), (2, .int dy)]) (by decide +kernel) (Nat.le_of_ble_eq_true rfl) rfl ?_
  intro x hl hK F hR; subst hl; obtain rfl := hK
  refine vv_iload_n F dX8_chargeOf_0 rfl rfl ?_
  by_cases h_1 : k = 1
  · refine vv_tabIn (tgt := 36) (off := 35) F dX8_chargeOf_1 (by rw [h_1]; decide) (by rw [h_1]; decide) (by rw [h_1]; rfl) (by decide) ?_
    refine vv_iload_n F dX8_chargeOf_36 rfl rfl ?_
    refine vv_callSp (As := [.int s]) (rest := []) [] F (c_X8_steep (vv_l x) (vv_k x) s) ms_X8_68 dX8_chargeOf_37 (by decide) rfl rfl (Nat.le_of_ble_eq_true rfl) rfl (by decide) ?_
    exact vv_iret F hR dX8_chargeOf_40 (congrArg (fun z => some (Value.int z)) ((if_pos h_1).trans rfl)) rfl
  · by_cases h_2 : k = 2
    · refine vv_tabIn (tgt := 41) (off := 40) F dX8_chargeOf_1 (by rw [h_2]; decide) (by rw [h_2]; decide) (by rw [h_2]; rfl) (by decide) ?_
      refine vv_iload_n F dX8_chargeOf_41 rfl rfl ?_
      refine vv_bipush (v := 7) F dX8_chargeOf_42 (by decide) ?_
      refine vv_iremR F dX8_chargeOf_44 (by decide) ?_
      refine vv_if_ne (tgt := 52) F dX8_chargeOf_45 (by decide) (fun h_3 => ?_) (fun h_3 => ?_)
      · refine vv_iload_n F dX8_chargeOf_52 rfl rfl ?_
        refine vv_callSp (As := [.int s]) (rest := []) [] F (c_X8_plain (vv_l x) (vv_k x) s) ms_X8_64 dX8_chargeOf_53 (by decide) rfl rfl (Nat.le_of_ble_eq_true rfl) rfl (by decide) ?_
        exact vv_iret F hR dX8_chargeOf_56 (congrArg (fun z => some (Value.int z)) ((if_neg h_1).trans ((if_pos h_2).trans ((if_neg h_3).trans rfl)))) rfl
      · refine vv_iconst (v := 0) F dX8_chargeOf_48 (by decide) ?_
        refine vv_goto (tgt := 56) F dX8_chargeOf_49 (by decide) ?_
        exact vv_iret F hR dX8_chargeOf_56 (congrArg (fun z => some (Value.int z)) ((if_neg h_1).trans ((if_pos h_2).trans ((if_pos h_3).trans rfl)))) rfl
    · by_cases h_4 : k = 3
      · refine vv_tabIn (tgt := 57) (off := 56) F dX8_chargeOf_1 (by rw [h_4]; decide) (by rw [h_4]; decide) (by rw [h_4]; rfl) (by decide) ?_
        refine vv_iload_n F dX8_chargeOf_57 rfl rfl ?_
        refine vv_callSp (As := [.int s]) (rest := []) [] F (c_X8_greedy (vv_l x) (vv_k x) s) ms_X8_71 dX8_chargeOf_58 (by decide) rfl rfl (Nat.le_of_ble_eq_true rfl) rfl (by decide) ?_
        exact vv_iret F hR dX8_chargeOf_61 (congrArg (fun z => some (Value.int z)) ((if_neg h_1).trans ((if_neg h_2).trans ((if_pos h_4).trans rfl)))) rfl
      · by_cases h_5 : k = 4
        · refine vv_tabIn (tgt := 62) (off := 61) F dX8_chargeOf_1 (by rw [h_5]; decide) (by rw [h_5]; decide) (by rw [h_5]; rfl) (by decide) ?_
          refine vv_iload_n F dX8_chargeOf_62 rfl rfl ?_
          refine vv_callSp (As := [.int s]) (rest := []) [] F (c_X8_steep (vv_l x) (vv_k x) s) ms_X8_68 dX8_chargeOf_63 (by decide) rfl rfl (Nat.le_of_ble_eq_true rfl) rfl (by decide) ?_
          refine vv_bipush (v := 25) F dX8_chargeOf_66 (by decide) ?_
          refine vv_icmp_le (tgt := 76) F dX8_chargeOf_68 (by decide) (fun h_6 => ?_) (fun h_6 => ?_)
          · refine vv_iload_n F dX8_chargeOf_76 rfl rfl ?_
            refine vv_callSp (As := [.int s]) (rest := []) [] F (c_X8_steep (vv_l x) (vv_k x) s) ms_X8_68 dX8_chargeOf_77 (by decide) rfl rfl (Nat.le_of_ble_eq_true rfl) rfl (by decide) ?_
            exact vv_iret F hR dX8_chargeOf_80 (congrArg (fun z => some (Value.int z)) ((if_neg h_1).trans ((if_neg h_2).trans ((if_neg h_4).trans ((if_pos h_5).trans ((if_pos h_6).trans rfl)))))) rfl
          · refine vv_bipush (v := 25) F dX8_chargeOf_71 (by decide) ?_
            refine vv_goto (tgt := 80) F dX8_chargeOf_73 (by decide) ?_
            exact vv_iret F hR dX8_chargeOf_80 (congrArg (fun z => some (Value.int z)) ((if_neg h_1).trans ((if_neg h_2).trans ((if_neg h_4).trans ((if_pos h_5).trans ((if_neg h_6).trans rfl)))))) rfl
        · by_cases h_7 : k = 5
          · refine vv_tabIn (tgt := 81) (off := 80) F dX8_chargeOf_1 (by rw [h_7]; decide) (by rw [h_7]; decide) (by rw [h_7]; rfl) (by decide) ?_
            refine vv_iload_n F dX8_chargeOf_81 rfl rfl ?_
            refine vv_callSp (As := [.int s]) (rest := []) [] F (c_X8_greedy (vv_l x) (vv_k x) s) ms_X8_71 dX8_chargeOf_82 (by decide) rfl rfl (Nat.le_of_ble_eq_true rfl) rfl (by decide) ?_
            refine vv_iconst (v := 4) F dX8_chargeOf_85 (by decide) ?_
            refine vv_iadd F dX8_chargeOf_86 ?_
            refine vv_iconst (v := 5) F dX8_chargeOf_87 (by decide) ?_
            refine vv_idiv F dX8_chargeOf_88 (by decide) ?_
            refine vv_iconst (v := 5) F dX8_chargeOf_89 (by decide) ?_
            refine vv_imul F dX8_chargeOf_90 ?_
            exact vv_iret F hR dX8_chargeOf_91 (congrArg (fun z => some (Value.int z)) ((if_neg h_1).trans ((if_neg h_2).trans ((if_neg h_4).trans ((if_neg h_5).trans ((if_pos h_7).trans rfl)))))) rfl
          · refine vv_tabOut (tgt := 92) F dX8_chargeOf_1 (by have h_1i : ¬ k.toInt = 1 := vv_ne h_1; have h_2i : ¬ k.toInt = 2 := vv_ne h_2; have h_4i : ¬ k.toInt = 3 := vv_ne h_4; have h_5i : ¬ k.toInt = 4 := vv_ne h_5; have h_7i : ¬ k.toInt = 5 := vv_ne h_7; omega) (by decide) ?_
            refine vv_iload_n F dX8_chargeOf_92 rfl rfl ?_
            refine vv_callSp (As := [.int s]) (rest := []) [] F (c_X8_plain (vv_l x) (vv_k x) s) ms_X8_64 dX8_chargeOf_93 (by decide) rfl rfl (Nat.le_of_ble_eq_true rfl) rfl (by decide) ?_
            exact vv_iret F hR dX8_chargeOf_96 (congrArg (fun z => some (Value.int z)) ((if_neg h_1).trans ((if_neg h_2).trans ((if_neg h_4).trans ((if_neg h_5).trans ((if_neg h_7).trans rfl)))))) rfl
def f_X8_bringsBy (n ln : Int32) : Int32 := (if n < ln then 0 else ((n + 1) - ln))
theorem c_X8_bringsBy (l : Launch) (K : vv_K) (n ln : Int32)  : vv_C l K 1 yX8_bringsBy cX8_bringsBy 2 (some .int) [.int n, .int ln] [] (some (.int (f_X8_bringsBy n ln))) [] := by
  refine vv_C.of (lv := [(0, .int n), (1, .int ln)]) (by decide +kernel) (Nat.le_of_ble_eq_true rfl) rfl ?_
  intro x hl hK F hR; subst hl; obtain rfl := hK
  refine vv_iload_n F dX8_bringsBy_0 rfl rfl ?_
  refine vv_iload_n F dX8_bringsBy_1 rfl rfl ?_
  refine vv_icmp_lt (tgt := 13) F dX8_bringsBy_2 (by decide) (fun h_1 => ?_) (fun h_1 => ?_)
  · refine vv_iconst (v := 0) F dX8_bringsBy_13 (by decide) ?_
    exact vv_iret F hR dX8_bringsBy_14 (congrArg (fun z => some (Value.int z)) ((if_pos h_1).trans rfl)) rfl
  · refine vv_iload_n F dX8_bringsBy_5 rfl rfl ?_
    refine vv_iconst (v := 1) F dX8_bringsBy_6 (by decide) ?_
    refine vv_iadd F dX8_bringsBy_7 ?_
    refine vv_iload_n F dX8_bringsBy_8 rfl rfl ?_
    refine vv_isub F dX8_bringsBy_9 ?_
    refine vv_goto (tgt := 14) F dX8_bringsBy_10 (by decide) ?_
    exact vv_iret F hR dX8_bringsBy_14 (congrArg (fun z => some (Value.int z)) ((if_neg h_1).trans rfl)) rfl
end
