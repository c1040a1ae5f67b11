-- ===== PART A: goes FIRST, ahead of the names: the tables' words, and 'selects' of the private methods out of them =====
/-- a private method of a class that the tables say can be made, by its rows of tables_1 -/
def lw_okq (q : MethodName × Nat) : Prop := (q.1.cls ≠ "java/lang/invoke/MethodHandle" ∧ q.1.cls ≠ "java/lang/invoke/VarHandle") ∧ Cond.instantiable q.1.cls q.2 ∈ tables_1 ∧ Cond.privateMethod q.1 ∈ tables_1 ∧ Cond.instanceMethod q.1 ∈ tables_1
theorem lw_p0 : lw_okq (⟨"StringToll", "refuseBad", "()I"⟩, 15) := ⟨⟨by decide +kernel, by decide +kernel⟩, List.mem_of_getElem? (i := 17) (by decide +kernel), List.mem_of_getElem? (i := 241) (by decide +kernel), List.mem_of_getElem? (i := 242) (by decide +kernel)⟩
theorem lw_p1 : lw_okq (⟨"StringToll", "refuseFull", "()I"⟩, 15) := ⟨⟨by decide +kernel, by decide +kernel⟩, List.mem_of_getElem? (i := 17) (by decide +kernel), List.mem_of_getElem? (i := 278) (by decide +kernel), List.mem_of_getElem? (i := 279) (by decide +kernel)⟩
theorem lw_p2 : lw_okq (⟨"StringToll$Text", "readFirst", "(LStringToll$Province;)Z"⟩, 6) := ⟨⟨by decide +kernel, by decide +kernel⟩, List.mem_of_getElem? (i := 111) (by decide +kernel), List.mem_of_getElem? (i := 308) (by decide +kernel), List.mem_of_getElem? (i := 309) (by decide +kernel)⟩
theorem lw_p3 : lw_okq (⟨"StringToll$Text", "advance", "()V"⟩, 6) := ⟨⟨by decide +kernel, by decide +kernel⟩, List.mem_of_getElem? (i := 111) (by decide +kernel), List.mem_of_getElem? (i := 312) (by decide +kernel), List.mem_of_getElem? (i := 313) (by decide +kernel)⟩
theorem lw_p4 : lw_okq (⟨"StringToll$Text", "tokenAt", "(I)I"⟩, 6) := ⟨⟨by decide +kernel, by decide +kernel⟩, List.mem_of_getElem? (i := 111) (by decide +kernel), List.mem_of_getElem? (i := 316) (by decide +kernel), List.mem_of_getElem? (i := 317) (by decide +kernel)⟩
theorem lw_p5 : lw_okq (⟨"StringToll$Text", "takeFigures", "()V"⟩, 6) := ⟨⟨by decide +kernel, by decide +kernel⟩, List.mem_of_getElem? (i := 111) (by decide +kernel), List.mem_of_getElem? (i := 321) (by decide +kernel), List.mem_of_getElem? (i := 322) (by decide +kernel)⟩
theorem lw_p6 : lw_okq (⟨"StringToll$Text", "isWord", "(Ljava/lang/String;)Z"⟩, 6) := ⟨⟨by decide +kernel, by decide +kernel⟩, List.mem_of_getElem? (i := 111) (by decide +kernel), List.mem_of_getElem? (i := 326) (by decide +kernel), List.mem_of_getElem? (i := 327) (by decide +kernel)⟩
theorem lw_p7 : lw_okq (⟨"StringToll$Text", "takeNumber", "(II)Z"⟩, 6) := ⟨⟨by decide +kernel, by decide +kernel⟩, List.mem_of_getElem? (i := 111) (by decide +kernel), List.mem_of_getElem? (i := 378) (by decide +kernel), List.mem_of_getElem? (i := 379) (by decide +kernel)⟩
theorem lw_p8 : lw_okq (⟨"StringToll$Text", "stops", "()Z"⟩, 6) := ⟨⟨by decide +kernel, by decide +kernel⟩, List.mem_of_getElem? (i := 111) (by decide +kernel), List.mem_of_getElem? (i := 383) (by decide +kernel), List.mem_of_getElem? (i := 384) (by decide +kernel)⟩
theorem lw_p9 : lw_okq (⟨"StringToll$Text", "readItem", "(LStringToll$Province;)Z"⟩, 6) := ⟨⟨by decide +kernel, by decide +kernel⟩, List.mem_of_getElem? (i := 111) (by decide +kernel), List.mem_of_getElem? (i := 387) (by decide +kernel), List.mem_of_getElem? (i := 388) (by decide +kernel)⟩
theorem lw_p10 : lw_okq (⟨"StringToll$Text", "readHouse", "(LStringToll$Province;)Z"⟩, 6) := ⟨⟨by decide +kernel, by decide +kernel⟩, List.mem_of_getElem? (i := 111) (by decide +kernel), List.mem_of_getElem? (i := 392) (by decide +kernel), List.mem_of_getElem? (i := 393) (by decide +kernel)⟩
theorem lw_p11 : lw_okq (⟨"StringToll$Text", "readString", "(LStringToll$Province;)Z"⟩, 6) := ⟨⟨by decide +kernel, by decide +kernel⟩, List.mem_of_getElem? (i := 111) (by decide +kernel), List.mem_of_getElem? (i := 399) (by decide +kernel), List.mem_of_getElem? (i := 400) (by decide +kernel)⟩
theorem lw_p12 : lw_okq (⟨"StringToll$Text", "readPurse", "(LStringToll$Province;)Z"⟩, 6) := ⟨⟨by decide +kernel, by decide +kernel⟩, List.mem_of_getElem? (i := 111) (by decide +kernel), List.mem_of_getElem? (i := 405) (by decide +kernel), List.mem_of_getElem? (i := 406) (by decide +kernel)⟩
theorem lw_p13 : lw_okq (⟨"StringToll$Province", "tollOn", "(II)I"⟩, 12) := ⟨⟨by decide +kernel, by decide +kernel⟩, List.mem_of_getElem? (i := 25) (by decide +kernel), List.mem_of_getElem? (i := 434) (by decide +kernel), List.mem_of_getElem? (i := 435) (by decide +kernel)⟩
theorem lw_p14 : lw_okq (⟨"StringToll$Text", "readWait", "(LStringToll$Province;)Z"⟩, 6) := ⟨⟨by decide +kernel, by decide +kernel⟩, List.mem_of_getElem? (i := 111) (by decide +kernel), List.mem_of_getElem? (i := 449) (by decide +kernel), List.mem_of_getElem? (i := 450) (by decide +kernel)⟩
theorem lw_p15 : lw_okq (⟨"StringToll", "refuseNo", "()I"⟩, 15) := ⟨⟨by decide +kernel, by decide +kernel⟩, List.mem_of_getElem? (i := 17) (by decide +kernel), List.mem_of_getElem? (i := 471) (by decide +kernel), List.mem_of_getElem? (i := 472) (by decide +kernel)⟩
def lw_privs_1 : List (MethodName × Nat) := [(⟨"StringToll", "refuseBad", "()I"⟩, 15), (⟨"StringToll", "refuseFull", "()I"⟩, 15), (⟨"StringToll$Text", "readFirst", "(LStringToll$Province;)Z"⟩, 6), (⟨"StringToll$Text", "advance", "()V"⟩, 6), (⟨"StringToll$Text", "tokenAt", "(I)I"⟩, 6), (⟨"StringToll$Text", "takeFigures", "()V"⟩, 6), (⟨"StringToll$Text", "isWord", "(Ljava/lang/String;)Z"⟩, 6), (⟨"StringToll$Text", "takeNumber", "(II)Z"⟩, 6), (⟨"StringToll$Text", "stops", "()Z"⟩, 6), (⟨"StringToll$Text", "readItem", "(LStringToll$Province;)Z"⟩, 6), (⟨"StringToll$Text", "readHouse", "(LStringToll$Province;)Z"⟩, 6), (⟨"StringToll$Text", "readString", "(LStringToll$Province;)Z"⟩, 6), (⟨"StringToll$Text", "readPurse", "(LStringToll$Province;)Z"⟩, 6), (⟨"StringToll$Province", "tollOn", "(II)I"⟩, 12), (⟨"StringToll$Text", "readWait", "(LStringToll$Province;)Z"⟩, 6), (⟨"StringToll", "refuseNo", "()I"⟩, 15)]
theorem lw_r1 : ∀ q ∈ lw_privs_1, lw_okq q := List.forall_mem_cons.mpr ⟨lw_p0, List.forall_mem_cons.mpr ⟨lw_p1, List.forall_mem_cons.mpr ⟨lw_p2, List.forall_mem_cons.mpr ⟨lw_p3, List.forall_mem_cons.mpr ⟨lw_p4, List.forall_mem_cons.mpr ⟨lw_p5, List.forall_mem_cons.mpr ⟨lw_p6, List.forall_mem_cons.mpr ⟨lw_p7, List.forall_mem_cons.mpr ⟨lw_p8, List.forall_mem_cons.mpr ⟨lw_p9, List.forall_mem_cons.mpr ⟨lw_p10, List.forall_mem_cons.mpr ⟨lw_p11, List.forall_mem_cons.mpr ⟨lw_p12, List.forall_mem_cons.mpr ⟨lw_p13, List.forall_mem_cons.mpr ⟨lw_p14, List.forall_mem_cons.mpr ⟨lw_p15, fun _ h => absurd h List.not_mem_nil⟩⟩⟩⟩⟩⟩⟩⟩⟩⟩⟩⟩⟩⟩⟩⟩
theorem lw_p16 : lw_okq (⟨"StringToll$RowSearch", "keepPath", "(II)V"⟩, 5) := ⟨⟨by decide +kernel, by decide +kernel⟩, List.mem_of_getElem? (i := 138) (by decide +kernel), List.mem_of_getElem? (i := 547) (by decide +kernel), List.mem_of_getElem? (i := 548) (by decide +kernel)⟩
theorem lw_p17 : lw_okq (⟨"StringToll$RowSearch", "isOnPath", "(II)Z"⟩, 5) := ⟨⟨by decide +kernel, by decide +kernel⟩, List.mem_of_getElem? (i := 138) (by decide +kernel), List.mem_of_getElem? (i := 552) (by decide +kernel), List.mem_of_getElem? (i := 553) (by decide +kernel)⟩
theorem lw_p18 : lw_okq (⟨"StringToll", "keep", "(LStringToll$Records;IIII)I"⟩, 15) := ⟨⟨by decide +kernel, by decide +kernel⟩, List.mem_of_getElem? (i := 17) (by decide +kernel), List.mem_of_getElem? (i := 571) (by decide +kernel), List.mem_of_getElem? (i := 572) (by decide +kernel)⟩
theorem lw_p19 : lw_okq (⟨"StringToll$Guess", "fits", "(LStringToll$Province;I)Z"⟩, 2) := ⟨⟨by decide +kernel, by decide +kernel⟩, List.mem_of_getElem? (i := 162) (by decide +kernel), List.mem_of_getElem? (i := 583) (by decide +kernel), List.mem_of_getElem? (i := 584) (by decide +kernel)⟩
theorem lw_p20 : lw_okq (⟨"StringToll$Guess", "notesFit", "(LStringToll$Province;II)Z"⟩, 2) := ⟨⟨by decide +kernel, by decide +kernel⟩, List.mem_of_getElem? (i := 162) (by decide +kernel), List.mem_of_getElem? (i := 629) (by decide +kernel), List.mem_of_getElem? (i := 630) (by decide +kernel)⟩
theorem lw_p21 : lw_okq (⟨"StringToll$Guess", "putAnswer", "(I)V"⟩, 2) := ⟨⟨by decide +kernel, by decide +kernel⟩, List.mem_of_getElem? (i := 162) (by decide +kernel), List.mem_of_getElem? (i := 644) (by decide +kernel), List.mem_of_getElem? (i := 645) (by decide +kernel)⟩
theorem lw_p22 : lw_okq (⟨"StringToll$Guess", "mostAlike", "()I"⟩, 2) := ⟨⟨by decide +kernel, by decide +kernel⟩, List.mem_of_getElem? (i := 162) (by decide +kernel), List.mem_of_getElem? (i := 649) (by decide +kernel), List.mem_of_getElem? (i := 650) (by decide +kernel)⟩
theorem lw_p23 : lw_okq (⟨"StringToll$Guess", "marksFit", "(LStringToll$Province;II)Z"⟩, 2) := ⟨⟨by decide +kernel, by decide +kernel⟩, List.mem_of_getElem? (i := 162) (by decide +kernel), List.mem_of_getElem? (i := 661) (by decide +kernel), List.mem_of_getElem? (i := 662) (by decide +kernel)⟩
theorem lw_p24 : lw_okq (⟨"StringToll$TwoEnds", "reckonPair", "(LStringToll$Province;II)V"⟩, 2) := ⟨⟨by decide +kernel, by decide +kernel⟩, List.mem_of_getElem? (i := 175) (by decide +kernel), List.mem_of_getElem? (i := 683) (by decide +kernel), List.mem_of_getElem? (i := 684) (by decide +kernel)⟩
theorem lw_p25 : lw_okq (⟨"StringToll$TwoEnds", "rests", "(II)Z"⟩, 2) := ⟨⟨by decide +kernel, by decide +kernel⟩, List.mem_of_getElem? (i := 175) (by decide +kernel), List.mem_of_getElem? (i := 695) (by decide +kernel), List.mem_of_getElem? (i := 696) (by decide +kernel)⟩
theorem lw_p26 : lw_okq (⟨"StringToll", "setFraction", "(I)V"⟩, 15) := ⟨⟨by decide +kernel, by decide +kernel⟩, List.mem_of_getElem? (i := 17) (by decide +kernel), List.mem_of_getElem? (i := 708) (by decide +kernel), List.mem_of_getElem? (i := 709) (by decide +kernel)⟩
theorem lw_p27 : lw_okq (⟨"StringToll", "howMany", "(I)I"⟩, 15) := ⟨⟨by decide +kernel, by decide +kernel⟩, List.mem_of_getElem? (i := 17) (by decide +kernel), List.mem_of_getElem? (i := 753) (by decide +kernel), List.mem_of_getElem? (i := 754) (by decide +kernel)⟩
theorem lw_p28 : lw_okq (⟨"StringTollModel", "begins", "(III)V"⟩, 18) := ⟨⟨by decide +kernel, by decide +kernel⟩, List.mem_of_getElem? (i := 769) (by decide +kernel), List.mem_of_getElem? (i := 775) (by decide +kernel), List.mem_of_getElem? (i := 776) (by decide +kernel)⟩
theorem lw_p29 : lw_okq (⟨"StringTollModel", "bad", "(I)I"⟩, 18) := ⟨⟨by decide +kernel, by decide +kernel⟩, List.mem_of_getElem? (i := 769) (by decide +kernel), List.mem_of_getElem? (i := 844) (by decide +kernel), List.mem_of_getElem? (i := 845) (by decide +kernel)⟩
theorem lw_p30 : lw_okq (⟨"StringTollModel", "full", "()I"⟩, 18) := ⟨⟨by decide +kernel, by decide +kernel⟩, List.mem_of_getElem? (i := 769) (by decide +kernel), List.mem_of_getElem? (i := 860) (by decide +kernel), List.mem_of_getElem? (i := 861) (by decide +kernel)⟩
theorem lw_p31 : lw_okq (⟨"StringTollModel", "adds", "(III)V"⟩, 18) := ⟨⟨by decide +kernel, by decide +kernel⟩, List.mem_of_getElem? (i := 769) (by decide +kernel), List.mem_of_getElem? (i := 864) (by decide +kernel), List.mem_of_getElem? (i := 865) (by decide +kernel)⟩
def lw_privs_2 : List (MethodName × Nat) := [(⟨"StringToll$RowSearch", "keepPath", "(II)V"⟩, 5), (⟨"StringToll$RowSearch", "isOnPath", "(II)Z"⟩, 5), (⟨"StringToll", "keep", "(LStringToll$Records;IIII)I"⟩, 15), (⟨"StringToll$Guess", "fits", "(LStringToll$Province;I)Z"⟩, 2), (⟨"StringToll$Guess", "notesFit", "(LStringToll$Province;II)Z"⟩, 2), (⟨"StringToll$Guess", "putAnswer", "(I)V"⟩, 2), (⟨"StringToll$Guess", "mostAlike", "()I"⟩, 2), (⟨"StringToll$Guess", "marksFit", "(LStringToll$Province;II)Z"⟩, 2), (⟨"StringToll$TwoEnds", "reckonPair", "(LStringToll$Province;II)V"⟩, 2), (⟨"StringToll$TwoEnds", "rests", "(II)Z"⟩, 2), (⟨"StringToll", "setFraction", "(I)V"⟩, 15), (⟨"StringToll", "howMany", "(I)I"⟩, 15), (⟨"StringTollModel", "begins", "(III)V"⟩, 18), (⟨"StringTollModel", "bad", "(I)I"⟩, 18), (⟨"StringTollModel", "full", "()I"⟩, 18), (⟨"StringTollModel", "adds", "(III)V"⟩, 18)]
theorem lw_r2 : ∀ q ∈ lw_privs_2, lw_okq q := List.forall_mem_cons.mpr ⟨lw_p16, List.forall_mem_cons.mpr ⟨lw_p17, List.forall_mem_cons.mpr ⟨lw_p18, List.forall_mem_cons.mpr ⟨lw_p19, List.forall_mem_cons.mpr ⟨lw_p20, List.forall_mem_cons.mpr ⟨lw_p21, List.forall_mem_cons.mpr ⟨lw_p22, List.forall_mem_cons.mpr ⟨lw_p23, List.forall_mem_cons.mpr ⟨lw_p24, List.forall_mem_cons.mpr ⟨lw_p25, List.forall_mem_cons.mpr ⟨lw_p26, List.forall_mem_cons.mpr ⟨lw_p27, List.forall_mem_cons.mpr ⟨lw_p28, List.forall_mem_cons.mpr ⟨lw_p29, List.forall_mem_cons.mpr ⟨lw_p30, List.forall_mem_cons.mpr ⟨lw_p31, fun _ h => absurd h List.not_mem_nil⟩⟩⟩⟩⟩⟩⟩⟩⟩⟩⟩⟩⟩⟩⟩⟩
theorem lw_p32 : lw_okq (⟨"StringTollModel", "blanks", "()V"⟩, 18) := ⟨⟨by decide +kernel, by decide +kernel⟩, List.mem_of_getElem? (i := 769) (by decide +kernel), List.mem_of_getElem? (i := 881) (by decide +kernel), List.mem_of_getElem? (i := 882) (by decide +kernel)⟩
theorem lw_p33 : lw_okq (⟨"StringTollModel", "byteAt", "(I)I"⟩, 18) := ⟨⟨by decide +kernel, by decide +kernel⟩, List.mem_of_getElem? (i := 769) (by decide +kernel), List.mem_of_getElem? (i := 885) (by decide +kernel), List.mem_of_getElem? (i := 886) (by decide +kernel)⟩
theorem lw_p34 : lw_okq (⟨"StringTollModel", "readsItem", "(Z)Z"⟩, 18) := ⟨⟨by decide +kernel, by decide +kernel⟩, List.mem_of_getElem? (i := 769) (by decide +kernel), List.mem_of_getElem? (i := 889) (by decide +kernel), List.mem_of_getElem? (i := 890) (by decide +kernel)⟩
theorem lw_p35 : lw_okq (⟨"StringTollModel", "takesWord", "()V"⟩, 18) := ⟨⟨by decide +kernel, by decide +kernel⟩, List.mem_of_getElem? (i := 769) (by decide +kernel), List.mem_of_getElem? (i := 893) (by decide +kernel), List.mem_of_getElem? (i := 894) (by decide +kernel)⟩
theorem lw_p36 : lw_okq (⟨"StringTollModel", "wordOf", "()I"⟩, 18) := ⟨⟨by decide +kernel, by decide +kernel⟩, List.mem_of_getElem? (i := 769) (by decide +kernel), List.mem_of_getElem? (i := 899) (by decide +kernel), List.mem_of_getElem? (i := 900) (by decide +kernel)⟩
theorem lw_p37 : lw_okq (⟨"StringTollModel", "isWord", "(IIIIIII)Z"⟩, 18) := ⟨⟨by decide +kernel, by decide +kernel⟩, List.mem_of_getElem? (i := 769) (by decide +kernel), List.mem_of_getElem? (i := 903) (by decide +kernel), List.mem_of_getElem? (i := 904) (by decide +kernel)⟩
theorem lw_p38 : lw_okq (⟨"StringTollModel", "isLetter", "(III)Z"⟩, 18) := ⟨⟨by decide +kernel, by decide +kernel⟩, List.mem_of_getElem? (i := 769) (by decide +kernel), List.mem_of_getElem? (i := 907) (by decide +kernel), List.mem_of_getElem? (i := 908) (by decide +kernel)⟩
theorem lw_p39 : lw_okq (⟨"StringTollModel", "isProvince", "()Z"⟩, 18) := ⟨⟨by decide +kernel, by decide +kernel⟩, List.mem_of_getElem? (i := 769) (by decide +kernel), List.mem_of_getElem? (i := 911) (by decide +kernel), List.mem_of_getElem? (i := 912) (by decide +kernel)⟩
theorem lw_p40 : lw_okq (⟨"StringTollModel", "readsProvince", "()Z"⟩, 18) := ⟨⟨by decide +kernel, by decide +kernel⟩, List.mem_of_getElem? (i := 769) (by decide +kernel), List.mem_of_getElem? (i := 915) (by decide +kernel), List.mem_of_getElem? (i := 916) (by decide +kernel)⟩
theorem lw_p41 : lw_okq (⟨"StringTollModel", "takesNumber", "(II)Z"⟩, 18) := ⟨⟨by decide +kernel, by decide +kernel⟩, List.mem_of_getElem? (i := 769) (by decide +kernel), List.mem_of_getElem? (i := 919) (by decide +kernel), List.mem_of_getElem? (i := 920) (by decide +kernel)⟩
theorem lw_p42 : lw_okq (⟨"StringTollModel", "readsHouse", "()Z"⟩, 18) := ⟨⟨by decide +kernel, by decide +kernel⟩, List.mem_of_getElem? (i := 769) (by decide +kernel), List.mem_of_getElem? (i := 926) (by decide +kernel), List.mem_of_getElem? (i := 927) (by decide +kernel)⟩
theorem lw_p43 : lw_okq (⟨"StringTollModel", "readsString", "()Z"⟩, 18) := ⟨⟨by decide +kernel, by decide +kernel⟩, List.mem_of_getElem? (i := 769) (by decide +kernel), List.mem_of_getElem? (i := 930) (by decide +kernel), List.mem_of_getElem? (i := 931) (by decide +kernel)⟩
theorem lw_p44 : lw_okq (⟨"StringTollModel", "readsPurse", "()Z"⟩, 18) := ⟨⟨by decide +kernel, by decide +kernel⟩, List.mem_of_getElem? (i := 769) (by decide +kernel), List.mem_of_getElem? (i := 934) (by decide +kernel), List.mem_of_getElem? (i := 935) (by decide +kernel)⟩
theorem lw_p45 : lw_okq (⟨"StringTollModel", "readsSend", "()Z"⟩, 18) := ⟨⟨by decide +kernel, by decide +kernel⟩, List.mem_of_getElem? (i := 769) (by decide +kernel), List.mem_of_getElem? (i := 938) (by decide +kernel), List.mem_of_getElem? (i := 939) (by decide +kernel)⟩
theorem lw_p46 : lw_okq (⟨"StringTollModel", "canSend", "(II)Z"⟩, 18) := ⟨⟨by decide +kernel, by decide +kernel⟩, List.mem_of_getElem? (i := 769) (by decide +kernel), List.mem_of_getElem? (i := 942) (by decide +kernel), List.mem_of_getElem? (i := 943) (by decide +kernel)⟩
theorem lw_p47 : lw_okq (⟨"StringTollModel", "costIn", "(III)I"⟩, 18) := ⟨⟨by decide +kernel, by decide +kernel⟩, List.mem_of_getElem? (i := 769) (by decide +kernel), List.mem_of_getElem? (i := 946) (by decide +kernel), List.mem_of_getElem? (i := 947) (by decide +kernel)⟩
def lw_privs_3 : List (MethodName × Nat) := [(⟨"StringTollModel", "blanks", "()V"⟩, 18), (⟨"StringTollModel", "byteAt", "(I)I"⟩, 18), (⟨"StringTollModel", "readsItem", "(Z)Z"⟩, 18), (⟨"StringTollModel", "takesWord", "()V"⟩, 18), (⟨"StringTollModel", "wordOf", "()I"⟩, 18), (⟨"StringTollModel", "isWord", "(IIIIIII)Z"⟩, 18), (⟨"StringTollModel", "isLetter", "(III)Z"⟩, 18), (⟨"StringTollModel", "isProvince", "()Z"⟩, 18), (⟨"StringTollModel", "readsProvince", "()Z"⟩, 18), (⟨"StringTollModel", "takesNumber", "(II)Z"⟩, 18), (⟨"StringTollModel", "readsHouse", "()Z"⟩, 18), (⟨"StringTollModel", "readsString", "()Z"⟩, 18), (⟨"StringTollModel", "readsPurse", "()Z"⟩, 18), (⟨"StringTollModel", "readsSend", "()Z"⟩, 18), (⟨"StringTollModel", "canSend", "(II)Z"⟩, 18), (⟨"StringTollModel", "costIn", "(III)I"⟩, 18)]
theorem lw_r3 : ∀ q ∈ lw_privs_3, lw_okq q := List.forall_mem_cons.mpr ⟨lw_p32, List.forall_mem_cons.mpr ⟨lw_p33, List.forall_mem_cons.mpr ⟨lw_p34, List.forall_mem_cons.mpr ⟨lw_p35, List.forall_mem_cons.mpr ⟨lw_p36, List.forall_mem_cons.mpr ⟨lw_p37, List.forall_mem_cons.mpr ⟨lw_p38, List.forall_mem_cons.mpr ⟨lw_p39, List.forall_mem_cons.mpr ⟨lw_p40, List.forall_mem_cons.mpr ⟨lw_p41, List.forall_mem_cons.mpr ⟨lw_p42, List.forall_mem_cons.mpr ⟨lw_p43, List.forall_mem_cons.mpr ⟨lw_p44, List.forall_mem_cons.mpr ⟨lw_p45, List.forall_mem_cons.mpr ⟨lw_p46, List.forall_mem_cons.mpr ⟨lw_p47, fun _ h => absurd h List.not_mem_nil⟩⟩⟩⟩⟩⟩⟩⟩⟩⟩⟩⟩⟩⟩⟩⟩
theorem lw_p48 : lw_okq (⟨"StringTollModel", "showsIn", "(III)I"⟩, 18) := ⟨⟨by decide +kernel, by decide +kernel⟩, List.mem_of_getElem? (i := 769) (by decide +kernel), List.mem_of_getElem? (i := 950) (by decide +kernel), List.mem_of_getElem? (i := 951) (by decide +kernel)⟩
theorem lw_p49 : lw_okq (⟨"StringTollModel", "isSent", "(II)V"⟩, 18) := ⟨⟨by decide +kernel, by decide +kernel⟩, List.mem_of_getElem? (i := 769) (by decide +kernel), List.mem_of_getElem? (i := 972) (by decide +kernel), List.mem_of_getElem? (i := 973) (by decide +kernel)⟩
theorem lw_p50 : lw_okq (⟨"StringTollModel", "bringsIn", "(II)I"⟩, 18) := ⟨⟨by decide +kernel, by decide +kernel⟩, List.mem_of_getElem? (i := 769) (by decide +kernel), List.mem_of_getElem? (i := 976) (by decide +kernel), List.mem_of_getElem? (i := 977) (by decide +kernel)⟩
theorem lw_p51 : lw_okq (⟨"StringTollModel", "readsWait", "()Z"⟩, 18) := ⟨⟨by decide +kernel, by decide +kernel⟩, List.mem_of_getElem? (i := 769) (by decide +kernel), List.mem_of_getElem? (i := 983) (by decide +kernel), List.mem_of_getElem? (i := 984) (by decide +kernel)⟩
theorem lw_p52 : lw_okq (⟨"StringTollModel", "takesEnd", "()Z"⟩, 18) := ⟨⟨by decide +kernel, by decide +kernel⟩, List.mem_of_getElem? (i := 769) (by decide +kernel), List.mem_of_getElem? (i := 987) (by decide +kernel), List.mem_of_getElem? (i := 988) (by decide +kernel)⟩
theorem lw_p53 : lw_okq (⟨"StringTollModel", "copy", "(II)V"⟩, 18) := ⟨⟨by decide +kernel, by decide +kernel⟩, List.mem_of_getElem? (i := 769) (by decide +kernel), List.mem_of_getElem? (i := 991) (by decide +kernel), List.mem_of_getElem? (i := 992) (by decide +kernel)⟩
theorem lw_p54 : lw_okq (⟨"StringTollModel", "isString", "(I)Z"⟩, 18) := ⟨⟨by decide +kernel, by decide +kernel⟩, List.mem_of_getElem? (i := 769) (by decide +kernel), List.mem_of_getElem? (i := 999) (by decide +kernel), List.mem_of_getElem? (i := 1000) (by decide +kernel)⟩
theorem lw_p55 : lw_okq (⟨"StringTollModel", "no", "()I"⟩, 18) := ⟨⟨by decide +kernel, by decide +kernel⟩, List.mem_of_getElem? (i := 769) (by decide +kernel), List.mem_of_getElem? (i := 1003) (by decide +kernel), List.mem_of_getElem? (i := 1004) (by decide +kernel)⟩
theorem lw_p56 : lw_okq (⟨"StringTollModel", "minds", "()V"⟩, 18) := ⟨⟨by decide +kernel, by decide +kernel⟩, List.mem_of_getElem? (i := 769) (by decide +kernel), List.mem_of_getElem? (i := 1007) (by decide +kernel), List.mem_of_getElem? (i := 1008) (by decide +kernel)⟩
theorem lw_p57 : lw_okq (⟨"StringTollModel", "costOf", "(II)I"⟩, 18) := ⟨⟨by decide +kernel, by decide +kernel⟩, List.mem_of_getElem? (i := 769) (by decide +kernel), List.mem_of_getElem? (i := 1043) (by decide +kernel), List.mem_of_getElem? (i := 1044) (by decide +kernel)⟩
theorem lw_p58 : lw_okq (⟨"StringTollModel", "bestHaul", "()I"⟩, 18) := ⟨⟨by decide +kernel, by decide +kernel⟩, List.mem_of_getElem? (i := 769) (by decide +kernel), List.mem_of_getElem? (i := 1051) (by decide +kernel), List.mem_of_getElem? (i := 1052) (by decide +kernel)⟩
theorem lw_p59 : lw_okq (⟨"StringTollModel", "fits", "(I)Z"⟩, 18) := ⟨⟨by decide +kernel, by decide +kernel⟩, List.mem_of_getElem? (i := 769) (by decide +kernel), List.mem_of_getElem? (i := 1066) (by decide +kernel), List.mem_of_getElem? (i := 1067) (by decide +kernel)⟩
theorem lw_p60 : lw_okq (⟨"StringTollModel", "kindsOf", "(I)I"⟩, 18) := ⟨⟨by decide +kernel, by decide +kernel⟩, List.mem_of_getElem? (i := 769) (by decide +kernel), List.mem_of_getElem? (i := 1092) (by decide +kernel), List.mem_of_getElem? (i := 1093) (by decide +kernel)⟩
theorem lw_p61 : lw_okq (⟨"StringTollModel", "greatest", "(I)I"⟩, 18) := ⟨⟨by decide +kernel, by decide +kernel⟩, List.mem_of_getElem? (i := 769) (by decide +kernel), List.mem_of_getElem? (i := 1100) (by decide +kernel), List.mem_of_getElem? (i := 1101) (by decide +kernel)⟩
theorem lw_p62 : lw_okq (⟨"StringTollModel", "housesOf", "(I)I"⟩, 18) := ⟨⟨by decide +kernel, by decide +kernel⟩, List.mem_of_getElem? (i := 769) (by decide +kernel), List.mem_of_getElem? (i := 1108) (by decide +kernel), List.mem_of_getElem? (i := 1109) (by decide +kernel)⟩
theorem lw_p63 : lw_okq (⟨"StringTollModel", "rests", "(II)Z"⟩, 18) := ⟨⟨by decide +kernel, by decide +kernel⟩, List.mem_of_getElem? (i := 769) (by decide +kernel), List.mem_of_getElem? (i := 1120) (by decide +kernel), List.mem_of_getElem? (i := 1121) (by decide +kernel)⟩
def lw_privs_4 : List (MethodName × Nat) := [(⟨"StringTollModel", "showsIn", "(III)I"⟩, 18), (⟨"StringTollModel", "isSent", "(II)V"⟩, 18), (⟨"StringTollModel", "bringsIn", "(II)I"⟩, 18), (⟨"StringTollModel", "readsWait", "()Z"⟩, 18), (⟨"StringTollModel", "takesEnd", "()Z"⟩, 18), (⟨"StringTollModel", "copy", "(II)V"⟩, 18), (⟨"StringTollModel", "isString", "(I)Z"⟩, 18), (⟨"StringTollModel", "no", "()I"⟩, 18), (⟨"StringTollModel", "minds", "()V"⟩, 18), (⟨"StringTollModel", "costOf", "(II)I"⟩, 18), (⟨"StringTollModel", "bestHaul", "()I"⟩, 18), (⟨"StringTollModel", "fits", "(I)Z"⟩, 18), (⟨"StringTollModel", "kindsOf", "(I)I"⟩, 18), (⟨"StringTollModel", "greatest", "(I)I"⟩, 18), (⟨"StringTollModel", "housesOf", "(I)I"⟩, 18), (⟨"StringTollModel", "rests", "(II)Z"⟩, 18)]
theorem lw_r4 : ∀ q ∈ lw_privs_4, lw_okq q := List.forall_mem_cons.mpr ⟨lw_p48, List.forall_mem_cons.mpr ⟨lw_p49, List.forall_mem_cons.mpr ⟨lw_p50, List.forall_mem_cons.mpr ⟨lw_p51, List.forall_mem_cons.mpr ⟨lw_p52, List.forall_mem_cons.mpr ⟨lw_p53, List.forall_mem_cons.mpr ⟨lw_p54, List.forall_mem_cons.mpr ⟨lw_p55, List.forall_mem_cons.mpr ⟨lw_p56, List.forall_mem_cons.mpr ⟨lw_p57, List.forall_mem_cons.mpr ⟨lw_p58, List.forall_mem_cons.mpr ⟨lw_p59, List.forall_mem_cons.mpr ⟨lw_p60, List.forall_mem_cons.mpr ⟨lw_p61, List.forall_mem_cons.mpr ⟨lw_p62, List.forall_mem_cons.mpr ⟨lw_p63, fun _ h => absurd h List.not_mem_nil⟩⟩⟩⟩⟩⟩⟩⟩⟩⟩⟩⟩⟩⟩⟩⟩
theorem lw_p64 : lw_okq (⟨"StringTollModel", "getsBy", "(III)I"⟩, 18) := ⟨⟨by decide +kernel, by decide +kernel⟩, List.mem_of_getElem? (i := 769) (by decide +kernel), List.mem_of_getElem? (i := 1124) (by decide +kernel), List.mem_of_getElem? (i := 1125) (by decide +kernel)⟩
theorem lw_p65 : lw_okq (⟨"StringTollModel", "countOf", "(I)I"⟩, 18) := ⟨⟨by decide +kernel, by decide +kernel⟩, List.mem_of_getElem? (i := 769) (by decide +kernel), List.mem_of_getElem? (i := 1162) (by decide +kernel), List.mem_of_getElem? (i := 1163) (by decide +kernel)⟩
theorem lw_p66 : lw_okq (⟨"StringTollModel", "mix", "(J)V"⟩, 18) := ⟨⟨by decide +kernel, by decide +kernel⟩, List.mem_of_getElem? (i := 769) (by decide +kernel), List.mem_of_getElem? (i := 1171) (by decide +kernel), List.mem_of_getElem? (i := 1172) (by decide +kernel)⟩
def lw_privs_5 : List (MethodName × Nat) := [(⟨"StringTollModel", "getsBy", "(III)I"⟩, 18), (⟨"StringTollModel", "countOf", "(I)I"⟩, 18), (⟨"StringTollModel", "mix", "(J)V"⟩, 18)]
theorem lw_r5 : ∀ q ∈ lw_privs_5, lw_okq q := List.forall_mem_cons.mpr ⟨lw_p64, List.forall_mem_cons.mpr ⟨lw_p65, List.forall_mem_cons.mpr ⟨lw_p66, fun _ h => absurd h List.not_mem_nil⟩⟩⟩
def lw_privs : List (MethodName × Nat) := lw_privs_1 ++ (lw_privs_2 ++ (lw_privs_3 ++ (lw_privs_4 ++ (lw_privs_5))))
def lw_tbl : List Cond := k2_sels lw_privs ++ tables_1
theorem lw_privs_ok : ∀ q ∈ lw_privs, lw_okq q := by
  show ∀ q ∈ lw_privs_1 ++ (lw_privs_2 ++ (lw_privs_3 ++ (lw_privs_4 ++ (lw_privs_5)))), lw_okq q
  exact List.forall_mem_append.mpr ⟨lw_r1, List.forall_mem_append.mpr ⟨lw_r2, List.forall_mem_append.mpr ⟨lw_r3, List.forall_mem_append.mpr ⟨lw_r4, lw_r5⟩⟩⟩⟩
def RX0 : String := "StringToll$Guess"
def TX0 : u_T := fun k => match k with
  | 0 => ("StringToll$Guess", "answers", "[I", true)
  | _ => ("StringToll$Guess", "answered", "I", false)
def tyX0 : Nat → FieldType := fun k => match k with
  | 0 => .array .int
  | _ => .int
abbrev wsX00 : List Cond := u_ws RX0 TX0 2
theorem nmX0 : ∀ a, a < 2 → ∀ b, b < 2 → a ≠ b → (TX0 a).2.1 ≠ (TX0 b).2.1 := by decide +kernel
theorem tyX0_ok : ∀ k, k < 2 → parseFieldDescriptor (TX0 k).2.2.1 = some (tyX0 k) := by decide +kernel
abbrev cX0_init : ByteArray := prog_2_method_1_code
def yX0_init : MethodName := ⟨RX0, "<init>", "()V"⟩
abbrev cX0_linesThatFit : ByteArray := prog_2_method_2_code
def yX0_linesThatFit : MethodName := ⟨RX0, "linesThatFit", "(LStringToll$Province;)I"⟩
abbrev cX0_leastLine : ByteArray := prog_2_method_3_code
def yX0_leastLine : MethodName := ⟨RX0, "leastLine", "(LStringToll$Province;)I"⟩
abbrev cX0_greatestLine : ByteArray := prog_2_method_4_code
def yX0_greatestLine : MethodName := ⟨RX0, "greatestLine", "(LStringToll$Province;)I"⟩
abbrev cX0_nextLength : ByteArray := prog_2_method_5_code
def yX0_nextLength : MethodName := ⟨RX0, "nextLength", "(LStringToll$Province;)I"⟩
abbrev cX0_stringKinds : ByteArray := prog_2_method_6_code
def yX0_stringKinds : MethodName := ⟨RX0, "stringKinds", "(LStringToll$Province;I)I"⟩
abbrev cX0_nextHour : ByteArray := prog_2_method_7_code
def yX0_nextHour : MethodName := ⟨RX0, "nextHour", "(LStringToll$Province;I)I"⟩
abbrev cX0_houseKinds : ByteArray := prog_2_method_8_code
def yX0_houseKinds : MethodName := ⟨RX0, "houseKinds", "(LStringToll$Province;I)I"⟩
abbrev cX0_nextQuestion : ByteArray := prog_2_method_9_code
def yX0_nextQuestion : MethodName := ⟨RX0, "nextQuestion", "(LStringToll$Province;I)I"⟩
abbrev cX0_fits : ByteArray := prog_2_method_10_code
def yX0_fits : MethodName := ⟨RX0, "fits", "(LStringToll$Province;I)Z"⟩
abbrev cX0_notesFit : ByteArray := prog_2_method_11_code
def yX0_notesFit : MethodName := ⟨RX0, "notesFit", "(LStringToll$Province;II)Z"⟩
abbrev cX0_marksFit : ByteArray := prog_2_method_12_code
def yX0_marksFit : MethodName := ⟨RX0, "marksFit", "(LStringToll$Province;II)Z"⟩
abbrev cX0_putAnswer : ByteArray := prog_2_method_13_code
def yX0_putAnswer : MethodName := ⟨RX0, "putAnswer", "(I)V"⟩
abbrev cX0_mostAlike : ByteArray := prog_2_method_14_code
def yX0_mostAlike : MethodName := ⟨RX0, "mostAlike", "()I"⟩
def RX1 : String := "StringToll$Kinds"
def TX1 : u_T := fun k => match k with
  | _ => ("", "", "", false)
def tyX1 : Nat → FieldType := fun k => match k with
  | _ => .int
abbrev wsX10 : List Cond := u_ws RX1 TX1 0
theorem nmX1 : ∀ a, a < 0 → ∀ b, b < 0 → a ≠ b → (TX1 a).2.1 ≠ (TX1 b).2.1 := by decide +kernel
theorem tyX1_ok : ∀ k, k < 0 → parseFieldDescriptor (TX1 k).2.2.1 = some (tyX1 k) := by decide +kernel
abbrev cX1_known : ByteArray := prog_3_method_2_code
def yX1_known : MethodName := ⟨RX1, "known", "(I)Z"⟩
abbrev cX1_shown : ByteArray := prog_3_method_3_code
def yX1_shown : MethodName := ⟨RX1, "shown", "(III)I"⟩
abbrev cX1_charged : ByteArray := prog_3_method_4_code
def yX1_charged : MethodName := ⟨RX1, "charged", "(III)I"⟩
abbrev cX1_brought : ByteArray := prog_3_method_5_code
def yX1_brought : MethodName := ⟨RX1, "brought", "(II)I"⟩
def RX2 : String := "StringToll$Province"
def TX2 : u_T := fun k => match k with
  | 0 => ("StringToll$Province", "line", "I", false)
  | 1 => ("StringToll$Province", "houseBelow", "I", false)
  | 2 => ("StringToll$Province", "houseAbove", "I", false)
  | 3 => ("StringToll$Province", "purse", "I", false)
  | 4 => ("StringToll$Province", "haul", "I", false)
  | 5 => ("StringToll$Province", "stamps", "I", false)
  | 6 => ("StringToll$Province", "hour", "I", false)
  | 7 => ("StringToll$Province", "strings", "LStringToll$Records;", true)
  | 8 => ("StringToll$Province", "came", "LStringToll$Records;", true)
  | 9 => ("StringToll$Province", "notes", "LStringToll$Records;", true)
  | 10 => ("StringToll$Province", "marks", "LStringToll$Records;", true)
  | _ => ("StringToll$Province", "past", "LStringToll$Records;", true)
def tyX2 : Nat → FieldType := fun k => match k with
  | 0 => .int
  | 1 => .int
  | 2 => .int
  | 3 => .int
  | 4 => .int
  | 5 => .int
  | 6 => .int
  | 7 => .object "StringToll$Records"
  | 8 => .object "StringToll$Records"
  | 9 => .object "StringToll$Records"
  | 10 => .object "StringToll$Records"
  | _ => .object "StringToll$Records"
abbrev wsX20 : List Cond := u_ws RX2 TX2 12
theorem nmX2 : ∀ a, a < 12 → ∀ b, b < 12 → a ≠ b → (TX2 a).2.1 ≠ (TX2 b).2.1 := by decide +kernel
theorem tyX2_ok : ∀ k, k < 12 → parseFieldDescriptor (TX2 k).2.2.1 = some (tyX2 k) := by decide +kernel
abbrev cX2_init : ByteArray := prog_4_method_1_code
def yX2_init : MethodName := ⟨RX2, "<init>", "()V"⟩
abbrev cX2_start : ByteArray := prog_4_method_2_code
def yX2_start : MethodName := ⟨RX2, "start", "(II)V"⟩
abbrev cX2_copyFrom : ByteArray := prog_4_method_3_code
def yX2_copyFrom : MethodName := ⟨RX2, "copyFrom", "(LStringToll$Province;)V"⟩
abbrev cX2_figure : ByteArray := prog_4_method_4_code
def yX2_figure : MethodName := ⟨RX2, "figure", "(I)I"⟩
abbrev cX2_houseKind : ByteArray := prog_4_method_5_code
def yX2_houseKind : MethodName := ⟨RX2, "houseKind", "(I)I"⟩
abbrev cX2_setHouse : ByteArray := prog_4_method_6_code
def yX2_setHouse : MethodName := ⟨RX2, "setHouse", "(II)V"⟩
abbrev cX2_has : ByteArray := prog_4_method_7_code
def yX2_has : MethodName := ⟨RX2, "has", "(I)Z"⟩
abbrev cX2_kindOf : ByteArray := prog_4_method_8_code
def yX2_kindOf : MethodName := ⟨RX2, "kindOf", "(I)I"⟩
abbrev cX2_lengthOf : ByteArray := prog_4_method_9_code
def yX2_lengthOf : MethodName := ⟨RX2, "lengthOf", "(I)I"⟩
abbrev cX2_shownIn : ByteArray := prog_4_method_10_code
def yX2_shownIn : MethodName := ⟨RX2, "shownIn", "(II)I"⟩
abbrev cX2_costIn : ByteArray := prog_4_method_11_code
def yX2_costIn : MethodName := ⟨RX2, "costIn", "(II)I"⟩
abbrev cX2_costOfCut : ByteArray := prog_4_method_12_code
def yX2_costOfCut : MethodName := ⟨RX2, "costOfCut", "(III)I"⟩
abbrev cX2_bringing : ByteArray := prog_4_method_13_code
def yX2_bringing : MethodName := ⟨RX2, "bringing", "(I)I"⟩
abbrev cX2_sendString : ByteArray := prog_4_method_14_code
def yX2_sendString : MethodName := ⟨RX2, "sendString", "(I)Z"⟩
abbrev cX2_waitHours : ByteArray := prog_4_method_15_code
def yX2_waitHours : MethodName := ⟨RX2, "waitHours", "(I)V"⟩
abbrev cX2_remember : ByteArray := prog_4_method_16_code
def yX2_remember : MethodName := ⟨RX2, "remember", "()V"⟩
abbrev cX2_stepBack : ByteArray := prog_4_method_17_code
def yX2_stepBack : MethodName := ⟨RX2, "stepBack", "()Z"⟩
abbrev cX2_tollOn : ByteArray := prog_4_method_18_code
def yX2_tollOn : MethodName := ⟨RX2, "tollOn", "(II)I"⟩
def RX3 : String := "StringToll$Records"
def TX3 : u_T := fun k => match k with
  | 0 => ("StringToll$Records", "cells", "[I", true)
  | 1 => ("StringToll$Records", "most", "I", true)
  | _ => ("StringToll$Records", "size", "I", false)
def tyX3 : Nat → FieldType := fun k => match k with
  | 0 => .array .int
  | 1 => .int
  | _ => .int
abbrev wsX30 : List Cond := u_ws RX3 TX3 3
theorem nmX3 : ∀ a, a < 3 → ∀ b, b < 3 → a ≠ b → (TX3 a).2.1 ≠ (TX3 b).2.1 := by decide +kernel
theorem tyX3_ok : ∀ k, k < 3 → parseFieldDescriptor (TX3 k).2.2.1 = some (tyX3 k) := by decide +kernel
abbrev cX3_init : ByteArray := prog_5_method_1_code
def yX3_init : MethodName := ⟨RX3, "<init>", "(I)V"⟩
abbrev cX3_isFull : ByteArray := prog_5_method_2_code
def yX3_isFull : MethodName := ⟨RX3, "isFull", "()Z"⟩
abbrev cX3_wipe : ByteArray := prog_5_method_3_code
def yX3_wipe : MethodName := ⟨RX3, "wipe", "()V"⟩
abbrev cX3_put : ByteArray := prog_5_method_4_code
def yX3_put : MethodName := ⟨RX3, "put", "(IIII)V"⟩
abbrev cX3_cell : ByteArray := prog_5_method_5_code
def yX3_cell : MethodName := ⟨RX3, "cell", "(II)I"⟩
abbrev cX3_dropFirst : ByteArray := prog_5_method_6_code
def yX3_dropFirst : MethodName := ⟨RX3, "dropFirst", "()V"⟩
abbrev cX3_dropLast : ByteArray := prog_5_method_7_code
def yX3_dropLast : MethodName := ⟨RX3, "dropLast", "()V"⟩
abbrev cX3_copyFrom : ByteArray := prog_5_method_8_code
def yX3_copyFrom : MethodName := ⟨RX3, "copyFrom", "(LStringToll$Records;)V"⟩
abbrev cX3_digestOn : ByteArray := prog_5_method_9_code
def yX3_digestOn : MethodName := ⟨RX3, "digestOn", "(JI)J"⟩
def RX4 : String := "StringToll$RowSearch"
def TX4 : u_T := fun k => match k with
  | 0 => ("StringToll$RowSearch", "costs", "[I", true)
  | 1 => ("StringToll$RowSearch", "path", "[I", true)
  | 2 => ("StringToll$RowSearch", "best", "[I", true)
  | 3 => ("StringToll$RowSearch", "bestLength", "I", false)
  | _ => ("StringToll$RowSearch", "bestHaul", "I", false)
def tyX4 : Nat → FieldType := fun k => match k with
  | 0 => .array .int
  | 1 => .array .int
  | 2 => .array .int
  | 3 => .int
  | _ => .int
abbrev wsX40 : List Cond := u_ws RX4 TX4 5
theorem nmX4 : ∀ a, a < 5 → ∀ b, b < 5 → a ≠ b → (TX4 a).2.1 ≠ (TX4 b).2.1 := by decide +kernel
theorem tyX4_ok : ∀ k, k < 5 → parseFieldDescriptor (TX4 k).2.2.1 = some (tyX4 k) := by decide +kernel
abbrev cX4_init : ByteArray := prog_6_method_1_code
def yX4_init : MethodName := ⟨RX4, "<init>", "()V"⟩
abbrev cX4_search : ByteArray := prog_6_method_2_code
def yX4_search : MethodName := ⟨RX4, "search", "(LStringToll$Province;)V"⟩
abbrev cX4_isSent : ByteArray := prog_6_method_3_code
def yX4_isSent : MethodName := ⟨RX4, "isSent", "(I)Z"⟩
abbrev cX4_sent : ByteArray := prog_6_method_4_code
def yX4_sent : MethodName := ⟨RX4, "sent", "(I)I"⟩
abbrev cX4_extend : ByteArray := prog_6_method_5_code
def yX4_extend : MethodName := ⟨RX4, "extend", "(LStringToll$RowSearch;LStringToll$Province;III)V"⟩
abbrev cX4_keepPath : ByteArray := prog_6_method_6_code
def yX4_keepPath : MethodName := ⟨RX4, "keepPath", "(II)V"⟩
abbrev cX4_isOnPath : ByteArray := prog_6_method_7_code
def yX4_isOnPath : MethodName := ⟨RX4, "isOnPath", "(II)Z"⟩
def RX5 : String := "StringToll$Text"
def TX5 : u_T := fun k => match k with
  | 0 => ("StringToll$Text", "bytes", "[B", true)
  | 1 => ("StringToll$Text", "length", "I", false)
  | 2 => ("StringToll$Text", "start", "I", false)
  | 3 => ("StringToll$Text", "next", "I", false)
  | 4 => ("StringToll$Text", "token", "I", false)
  | _ => ("StringToll$Text", "number", "I", false)
def tyX5 : Nat → FieldType := fun k => match k with
  | 0 => .array .byte
  | 1 => .int
  | 2 => .int
  | 3 => .int
  | 4 => .int
  | _ => .int
abbrev wsX50 : List Cond := u_ws RX5 TX5 6
theorem nmX5 : ∀ a, a < 6 → ∀ b, b < 6 → a ≠ b → (TX5 a).2.1 ≠ (TX5 b).2.1 := by decide +kernel
theorem tyX5_ok : ∀ k, k < 6 → parseFieldDescriptor (TX5 k).2.2.1 = some (tyX5 k) := by decide +kernel
abbrev cX5_init : ByteArray := prog_7_method_1_code
def yX5_init : MethodName := ⟨RX5, "<init>", "()V"⟩
abbrev cX5_put : ByteArray := prog_7_method_2_code
def yX5_put : MethodName := ⟨RX5, "put", "(I)Z"⟩
abbrev cX5_readInto : ByteArray := prog_7_method_3_code
def yX5_readInto : MethodName := ⟨RX5, "readInto", "(LStringToll$Province;)I"⟩
abbrev cX5_readFirst : ByteArray := prog_7_method_4_code
def yX5_readFirst : MethodName := ⟨RX5, "readFirst", "(LStringToll$Province;)Z"⟩
abbrev cX5_readItem : ByteArray := prog_7_method_5_code
def yX5_readItem : MethodName := ⟨RX5, "readItem", "(LStringToll$Province;)Z"⟩
abbrev cX5_readHouse : ByteArray := prog_7_method_6_code
def yX5_readHouse : MethodName := ⟨RX5, "readHouse", "(LStringToll$Province;)Z"⟩
abbrev cX5_readString : ByteArray := prog_7_method_7_code
def yX5_readString : MethodName := ⟨RX5, "readString", "(LStringToll$Province;)Z"⟩
abbrev cX5_readPurse : ByteArray := prog_7_method_8_code
def yX5_readPurse : MethodName := ⟨RX5, "readPurse", "(LStringToll$Province;)Z"⟩
abbrev cX5_readWait : ByteArray := prog_7_method_9_code
def yX5_readWait : MethodName := ⟨RX5, "readWait", "(LStringToll$Province;)Z"⟩
abbrev cX5_takeNumber : ByteArray := prog_7_method_10_code
def yX5_takeNumber : MethodName := ⟨RX5, "takeNumber", "(II)Z"⟩
abbrev cX5_stops : ByteArray := prog_7_method_11_code
def yX5_stops : MethodName := ⟨RX5, "stops", "()Z"⟩
abbrev cX5_isWord : ByteArray := prog_7_method_12_code
def yX5_isWord : MethodName := ⟨RX5, "isWord", "(Ljava/lang/String;)Z"⟩
abbrev cX5_advance : ByteArray := prog_7_method_13_code
def yX5_advance : MethodName := ⟨RX5, "advance", "()V"⟩
abbrev cX5_takeFigures : ByteArray := prog_7_method_14_code
def yX5_takeFigures : MethodName := ⟨RX5, "takeFigures", "()V"⟩
abbrev cX5_tokenAt : ByteArray := prog_7_method_15_code
def yX5_tokenAt : MethodName := ⟨RX5, "tokenAt", "(I)I"⟩
def RX6 : String := "StringToll$TwoEnds"
def TX6 : u_T := fun k => match k with
  | 0 => ("StringToll$TwoEnds", "toBelow", "[I", true)
  | _ => ("StringToll$TwoEnds", "toAbove", "[I", true)
def tyX6 : Nat → FieldType := fun k => match k with
  | 0 => .array .int
  | _ => .array .int
abbrev wsX60 : List Cond := u_ws RX6 TX6 2
theorem nmX6 : ∀ a, a < 2 → ∀ b, b < 2 → a ≠ b → (TX6 a).2.1 ≠ (TX6 b).2.1 := by decide +kernel
theorem tyX6_ok : ∀ k, k < 2 → parseFieldDescriptor (TX6 k).2.2.1 = some (tyX6 k) := by decide +kernel
abbrev cX6_init : ByteArray := prog_8_method_1_code
def yX6_init : MethodName := ⟨RX6, "<init>", "()V"⟩
abbrev cX6_reckon : ByteArray := prog_8_method_2_code
def yX6_reckon : MethodName := ⟨RX6, "reckon", "(LStringToll$Province;)V"⟩
abbrev cX6_pairs : ByteArray := prog_8_method_3_code
def yX6_pairs : MethodName := ⟨RX6, "pairs", "()I"⟩
abbrev cX6_pair : ByteArray := prog_8_method_4_code
def yX6_pair : MethodName := ⟨RX6, "pair", "(I)I"⟩
abbrev cX6_reckonPair : ByteArray := prog_8_method_5_code
def yX6_reckonPair : MethodName := ⟨RX6, "reckonPair", "(LStringToll$Province;II)V"⟩
abbrev cX6_rests : ByteArray := prog_8_method_6_code
def yX6_rests : MethodName := ⟨RX6, "rests", "(II)Z"⟩
def RX7 : String := "StringToll"
def TX7 : u_T := fun k => match k with
  | 0 => ("StringToll", "here", "LStringToll$Province;", false)
  | 1 => ("StringToll", "draft", "LStringToll$Province;", false)
  | 2 => ("StringToll", "image0", "LStringToll$Province;", true)
  | 3 => ("StringToll", "image1", "LStringToll$Province;", true)
  | 4 => ("StringToll", "kept0", "Z", false)
  | 5 => ("StringToll", "kept1", "Z", false)
  | 6 => ("StringToll", "text", "LStringToll$Text;", true)
  | 7 => ("StringToll", "rows", "LStringToll$RowSearch;", true)
  | 8 => ("StringToll", "guess", "LStringToll$Guess;", true)
  | 9 => ("StringToll", "twoEnds", "LStringToll$TwoEnds;", true)
  | 10 => ("StringToll", "above", "J", false)
  | 11 => ("StringToll", "below", "J", false)
  | 12 => ("StringToll", "refusedBad", "I", false)
  | 13 => ("StringToll", "refusedNo", "I", false)
  | _ => ("StringToll", "refusedFull", "I", false)
def tyX7 : Nat → FieldType := fun k => match k with
  | 0 => .object "StringToll$Province"
  | 1 => .object "StringToll$Province"
  | 2 => .object "StringToll$Province"
  | 3 => .object "StringToll$Province"
  | 4 => .boolean
  | 5 => .boolean
  | 6 => .object "StringToll$Text"
  | 7 => .object "StringToll$RowSearch"
  | 8 => .object "StringToll$Guess"
  | 9 => .object "StringToll$TwoEnds"
  | 10 => .long
  | 11 => .long
  | 12 => .int
  | 13 => .int
  | _ => .int
abbrev wsX70 : List Cond := u_ws RX7 TX7 15
theorem nmX7 : ∀ a, a < 15 → ∀ b, b < 15 → a ≠ b → (TX7 a).2.1 ≠ (TX7 b).2.1 := by decide +kernel
theorem tyX7_ok : ∀ k, k < 15 → parseFieldDescriptor (TX7 k).2.2.1 = some (tyX7 k) := by decide +kernel
abbrev cX7_init : ByteArray := prog_1_method_1_code
def yX7_init : MethodName := ⟨RX7, "<init>", "()V"⟩
abbrev cX7_province : ByteArray := prog_1_method_2_code
def yX7_province : MethodName := ⟨RX7, "province", "(II)I"⟩
abbrev cX7_house : ByteArray := prog_1_method_3_code
def yX7_house : MethodName := ⟨RX7, "house", "(II)I"⟩
abbrev cX7_string : ByteArray := prog_1_method_4_code
def yX7_string : MethodName := ⟨RX7, "string", "(II)I"⟩
abbrev cX7_type : ByteArray := prog_1_method_5_code
def yX7_type : MethodName := ⟨RX7, "type", "(I)I"⟩
abbrev cX7_clear : ByteArray := prog_1_method_6_code
def yX7_clear : MethodName := ⟨RX7, "clear", "()I"⟩
abbrev cX7_read : ByteArray := prog_1_method_7_code
def yX7_read : MethodName := ⟨RX7, "read", "()I"⟩
abbrev cX7_sends : ByteArray := prog_1_method_8_code
def yX7_sends : MethodName := ⟨RX7, "sends", "(I)I"⟩
abbrev cX7_waits : ByteArray := prog_1_method_9_code
def yX7_waits : MethodName := ⟨RX7, "waits", "(I)I"⟩
abbrev cX7_undo : ByteArray := prog_1_method_10_code
def yX7_undo : MethodName := ⟨RX7, "undo", "()I"⟩
abbrev cX7_of : ByteArray := prog_1_method_11_code
def yX7_of : MethodName := ⟨RX7, "of", "(II)I"⟩
abbrev cX7_now : ByteArray := prog_1_method_12_code
def yX7_now : MethodName := ⟨RX7, "now", "(I)I"⟩
abbrev cX7_asks : ByteArray := prog_1_method_13_code
def yX7_asks : MethodName := ⟨RX7, "asks", "(III)I"⟩
abbrev cX7_cheapest : ByteArray := prog_1_method_14_code
def yX7_cheapest : MethodName := ⟨RX7, "cheapest", "(II)I"⟩
abbrev cX7_cuts : ByteArray := prog_1_method_15_code
def yX7_cuts : MethodName := ⟨RX7, "cuts", "(III)I"⟩
abbrev cX7_row : ByteArray := prog_1_method_16_code
def yX7_row : MethodName := ⟨RX7, "row", "(I)I"⟩
abbrev cX7_came : ByteArray := prog_1_method_17_code
def yX7_came : MethodName := ⟨RX7, "came", "(II)I"⟩
abbrev cX7_lines : ByteArray := prog_1_method_18_code
def yX7_lines : MethodName := ⟨RX7, "lines", "(I)I"⟩
abbrev cX7_tries : ByteArray := prog_1_method_19_code
def yX7_tries : MethodName := ⟨RX7, "tries", "()I"⟩
abbrev cX7_note : ByteArray := prog_1_method_20_code
def yX7_note : MethodName := ⟨RX7, "note", "(IIII)I"⟩
abbrev cX7_mark : ByteArray := prog_1_method_21_code
def yX7_mark : MethodName := ⟨RX7, "mark", "(IIII)I"⟩
abbrev cX7_forget : ByteArray := prog_1_method_22_code
def yX7_forget : MethodName := ⟨RX7, "forget", "(I)I"⟩
abbrev cX7_is : ByteArray := prog_1_method_23_code
def yX7_is : MethodName := ⟨RX7, "is", "(I)I"⟩
abbrev cX7_look : ByteArray := prog_1_method_24_code
def yX7_look : MethodName := ⟨RX7, "look", "(I)I"⟩
abbrev cX7_kinds : ByteArray := prog_1_method_25_code
def yX7_kinds : MethodName := ⟨RX7, "kinds", "(I)I"⟩
abbrev cX7_ask : ByteArray := prog_1_method_26_code
def yX7_ask : MethodName := ⟨RX7, "ask", "(I)I"⟩
abbrev cX7_ends : ByteArray := prog_1_method_27_code
def yX7_ends : MethodName := ⟨RX7, "ends", "(I)I"⟩
abbrev cX7_scissors : ByteArray := prog_1_method_28_code
def yX7_scissors : MethodName := ⟨RX7, "scissors", "(I)I"⟩
abbrev cX7_nights : ByteArray := prog_1_method_29_code
def yX7_nights : MethodName := ⟨RX7, "nights", "(II)I"⟩
abbrev cX7_part : ByteArray := prog_1_method_30_code
def yX7_part : MethodName := ⟨RX7, "part", "(I)J"⟩
abbrev cX7_image : ByteArray := prog_1_method_31_code
def yX7_image : MethodName := ⟨RX7, "image", "(I)I"⟩
abbrev cX7_from : ByteArray := prog_1_method_32_code
def yX7_from : MethodName := ⟨RX7, "from", "(I)I"⟩
abbrev cX7_status : ByteArray := prog_1_method_33_code
def yX7_status : MethodName := ⟨RX7, "status", "(I)I"⟩
abbrev cX7_count : ByteArray := prog_1_method_34_code
def yX7_count : MethodName := ⟨RX7, "count", "(I)I"⟩
abbrev cX7_digest : ByteArray := prog_1_method_35_code
def yX7_digest : MethodName := ⟨RX7, "digest", "()J"⟩
abbrev cX7_within : ByteArray := prog_1_method_36_code
def yX7_within : MethodName := ⟨RX7, "within", "(III)Z"⟩
abbrev cX7_refuseBad : ByteArray := prog_1_method_37_code
def yX7_refuseBad : MethodName := ⟨RX7, "refuseBad", "()I"⟩
abbrev cX7_refuseNo : ByteArray := prog_1_method_38_code
def yX7_refuseNo : MethodName := ⟨RX7, "refuseNo", "()I"⟩
abbrev cX7_refuseFull : ByteArray := prog_1_method_39_code
def yX7_refuseFull : MethodName := ⟨RX7, "refuseFull", "()I"⟩
abbrev cX7_keep : ByteArray := prog_1_method_40_code
def yX7_keep : MethodName := ⟨RX7, "keep", "(LStringToll$Records;IIII)I"⟩
abbrev cX7_howMany : ByteArray := prog_1_method_41_code
def yX7_howMany : MethodName := ⟨RX7, "howMany", "(I)I"⟩
abbrev cX7_setFraction : ByteArray := prog_1_method_42_code
def yX7_setFraction : MethodName := ⟨RX7, "setFraction", "(I)V"⟩
def RX8 : String := "StringTollModel"
def TX8 : u_T := fun k => match k with
  | 0 => ("StringTollModel", "w", "[I", true)
  | 1 => ("StringTollModel", "isKept", "[Z", true)
  | 2 => ("StringTollModel", "text", "[I", true)
  | 3 => ("StringTollModel", "texted", "I", false)
  | 4 => ("StringTollModel", "above", "J", false)
  | 5 => ("StringTollModel", "below", "J", false)
  | 6 => ("StringTollModel", "statuses", "[I", true)
  | 7 => ("StringTollModel", "at", "I", false)
  | 8 => ("StringTollModel", "start", "I", false)
  | 9 => ("StringTollModel", "number", "I", false)
  | 10 => ("StringTollModel", "tried", "[I", true)
  | 11 => ("StringTollModel", "purses", "[I", true)
  | 12 => ("StringTollModel", "hauls", "[I", true)
  | 13 => ("StringTollModel", "bestRow", "[I", true)
  | 14 => ("StringTollModel", "bestMany", "I", false)
  | 15 => ("StringTollModel", "alike", "[I", true)
  | 16 => ("StringTollModel", "sixOf", "[I", true)
  | _ => ("StringTollModel", "h", "J", false)
def tyX8 : Nat → FieldType := fun k => match k with
  | 0 => .array .int
  | 1 => .array .boolean
  | 2 => .array .int
  | 3 => .int
  | 4 => .long
  | 5 => .long
  | 6 => .array .int
  | 7 => .int
  | 8 => .int
  | 9 => .int
  | 10 => .array .int
  | 11 => .array .int
  | 12 => .array .int
  | 13 => .array .int
  | 14 => .int
  | 15 => .array .int
  | 16 => .array .int
  | _ => .long
abbrev wsX80 : List Cond := u_ws RX8 TX8 18
theorem nmX8 : ∀ a, a < 18 → ∀ b, b < 18 → a ≠ b → (TX8 a).2.1 ≠ (TX8 b).2.1 := by decide +kernel
theorem tyX8_ok : ∀ k, k < 18 → parseFieldDescriptor (TX8 k).2.2.1 = some (tyX8 k) := by decide +kernel
abbrev cX8_init : ByteArray := prog_10_method_1_code
def yX8_init : MethodName := ⟨RX8, "<init>", "()V"⟩
abbrev cX8_in : ByteArray := prog_10_method_3_code
def yX8_in : MethodName := ⟨RX8, "in", "(JJJ)Z"⟩
abbrev cX8_has : ByteArray := prog_10_method_4_code
def yX8_has : MethodName := ⟨RX8, "has", "(II)Z"⟩
abbrev cX8_bad : ByteArray := prog_10_method_5_code
def yX8_bad : MethodName := ⟨RX8, "bad", "(I)I"⟩
abbrev cX8_no : ByteArray := prog_10_method_6_code
def yX8_no : MethodName := ⟨RX8, "no", "()I"⟩
abbrev cX8_full : ByteArray := prog_10_method_7_code
def yX8_full : MethodName := ⟨RX8, "full", "()I"⟩
abbrev cX8_copy : ByteArray := prog_10_method_8_code
def yX8_copy : MethodName := ⟨RX8, "copy", "(II)V"⟩
abbrev cX8_begins : ByteArray := prog_10_method_9_code
def yX8_begins : MethodName := ⟨RX8, "begins", "(III)V"⟩
abbrev cX8_isString : ByteArray := prog_10_method_10_code
def yX8_isString : MethodName := ⟨RX8, "isString", "(I)Z"⟩
abbrev cX8_isHouse : ByteArray := prog_10_method_11_code
def yX8_isHouse : MethodName := ⟨RX8, "isHouse", "(I)Z"⟩
abbrev cX8_silk : ByteArray := prog_10_method_12_code
def yX8_silk : MethodName := ⟨RX8, "silk", "(II)I"⟩
abbrev cX8_showOf : ByteArray := prog_10_method_13_code
def yX8_showOf : MethodName := ⟨RX8, "showOf", "(III)I"⟩
abbrev cX8_plain : ByteArray := prog_10_method_14_code
def yX8_plain : MethodName := ⟨RX8, "plain", "(I)I"⟩
abbrev cX8_steep : ByteArray := prog_10_method_15_code
def yX8_steep : MethodName := ⟨RX8, "steep", "(I)I"⟩
abbrev cX8_greedy : ByteArray := prog_10_method_16_code
def yX8_greedy : MethodName := ⟨RX8, "greedy", "(I)I"⟩
abbrev cX8_chargeOf : ByteArray := prog_10_method_17_code
def yX8_chargeOf : MethodName := ⟨RX8, "chargeOf", "(III)I"⟩
abbrev cX8_bringsBy : ByteArray := prog_10_method_18_code
def yX8_bringsBy : MethodName := ⟨RX8, "bringsBy", "(II)I"⟩
abbrev cX8_province : ByteArray := prog_10_method_19_code
def yX8_province : MethodName := ⟨RX8, "province", "(II)I"⟩
abbrev cX8_house : ByteArray := prog_10_method_20_code
def yX8_house : MethodName := ⟨RX8, "house", "(II)I"⟩
abbrev cX8_adds : ByteArray := prog_10_method_21_code
def yX8_adds : MethodName := ⟨RX8, "adds", "(III)V"⟩
abbrev cX8_string : ByteArray := prog_10_method_22_code
def yX8_string : MethodName := ⟨RX8, "string", "(II)I"⟩
abbrev cX8_type : ByteArray := prog_10_method_23_code
def yX8_type : MethodName := ⟨RX8, "type", "(I)I"⟩
abbrev cX8_clear : ByteArray := prog_10_method_24_code
def yX8_clear : MethodName := ⟨RX8, "clear", "()I"⟩
abbrev cX8_byteAt : ByteArray := prog_10_method_25_code
def yX8_byteAt : MethodName := ⟨RX8, "byteAt", "(I)I"⟩
abbrev cX8_blanks : ByteArray := prog_10_method_26_code
def yX8_blanks : MethodName := ⟨RX8, "blanks", "()V"⟩
abbrev cX8_takesWord : ByteArray := prog_10_method_27_code
def yX8_takesWord : MethodName := ⟨RX8, "takesWord", "()V"⟩
abbrev cX8_isWord : ByteArray := prog_10_method_28_code
def yX8_isWord : MethodName := ⟨RX8, "isWord", "(IIIIIII)Z"⟩
abbrev cX8_isLetter : ByteArray := prog_10_method_29_code
def yX8_isLetter : MethodName := ⟨RX8, "isLetter", "(III)Z"⟩
abbrev cX8_wordOf : ByteArray := prog_10_method_30_code
def yX8_wordOf : MethodName := ⟨RX8, "wordOf", "()I"⟩
abbrev cX8_isProvince : ByteArray := prog_10_method_31_code
def yX8_isProvince : MethodName := ⟨RX8, "isProvince", "()Z"⟩
abbrev cX8_takesNumber : ByteArray := prog_10_method_32_code
def yX8_takesNumber : MethodName := ⟨RX8, "takesNumber", "(II)Z"⟩
abbrev cX8_takesEnd : ByteArray := prog_10_method_33_code
def yX8_takesEnd : MethodName := ⟨RX8, "takesEnd", "()Z"⟩
abbrev cX8_readsHouse : ByteArray := prog_10_method_34_code
def yX8_readsHouse : MethodName := ⟨RX8, "readsHouse", "()Z"⟩
abbrev cX8_readsString : ByteArray := prog_10_method_35_code
def yX8_readsString : MethodName := ⟨RX8, "readsString", "()Z"⟩
abbrev cX8_readsPurse : ByteArray := prog_10_method_36_code
def yX8_readsPurse : MethodName := ⟨RX8, "readsPurse", "()Z"⟩
abbrev cX8_readsSend : ByteArray := prog_10_method_37_code
def yX8_readsSend : MethodName := ⟨RX8, "readsSend", "()Z"⟩
abbrev cX8_readsWait : ByteArray := prog_10_method_38_code
def yX8_readsWait : MethodName := ⟨RX8, "readsWait", "()Z"⟩
abbrev cX8_readsProvince : ByteArray := prog_10_method_39_code
def yX8_readsProvince : MethodName := ⟨RX8, "readsProvince", "()Z"⟩
abbrev cX8_readsItem : ByteArray := prog_10_method_40_code
def yX8_readsItem : MethodName := ⟨RX8, "readsItem", "(Z)Z"⟩
abbrev cX8_read : ByteArray := prog_10_method_41_code
def yX8_read : MethodName := ⟨RX8, "read", "()I"⟩
abbrev cX8_showsIn : ByteArray := prog_10_method_42_code
def yX8_showsIn : MethodName := ⟨RX8, "showsIn", "(III)I"⟩
abbrev cX8_costIn : ByteArray := prog_10_method_43_code
def yX8_costIn : MethodName := ⟨RX8, "costIn", "(III)I"⟩
abbrev cX8_bringsIn : ByteArray := prog_10_method_44_code
def yX8_bringsIn : MethodName := ⟨RX8, "bringsIn", "(II)I"⟩
abbrev cX8_canSend : ByteArray := prog_10_method_45_code
def yX8_canSend : MethodName := ⟨RX8, "canSend", "(II)Z"⟩
abbrev cX8_isSent : ByteArray := prog_10_method_46_code
def yX8_isSent : MethodName := ⟨RX8, "isSent", "(II)V"⟩
abbrev cX8_minds : ByteArray := prog_10_method_47_code
def yX8_minds : MethodName := ⟨RX8, "minds", "()V"⟩
abbrev cX8_sends : ByteArray := prog_10_method_48_code
def yX8_sends : MethodName := ⟨RX8, "sends", "(I)I"⟩
abbrev cX8_waits : ByteArray := prog_10_method_49_code
def yX8_waits : MethodName := ⟨RX8, "waits", "(I)I"⟩
abbrev cX8_undo : ByteArray := prog_10_method_50_code
def yX8_undo : MethodName := ⟨RX8, "undo", "()I"⟩
abbrev cX8_of : ByteArray := prog_10_method_51_code
def yX8_of : MethodName := ⟨RX8, "of", "(II)I"⟩
abbrev cX8_now : ByteArray := prog_10_method_52_code
def yX8_now : MethodName := ⟨RX8, "now", "(I)I"⟩
abbrev cX8_asks : ByteArray := prog_10_method_53_code
def yX8_asks : MethodName := ⟨RX8, "asks", "(III)I"⟩
abbrev cX8_cheapest : ByteArray := prog_10_method_54_code
def yX8_cheapest : MethodName := ⟨RX8, "cheapest", "(II)I"⟩
abbrev cX8_costOf : ByteArray := prog_10_method_55_code
def yX8_costOf : MethodName := ⟨RX8, "costOf", "(II)I"⟩
abbrev cX8_cuts : ByteArray := prog_10_method_56_code
def yX8_cuts : MethodName := ⟨RX8, "cuts", "(III)I"⟩
abbrev cX8_bestHaul : ByteArray := prog_10_method_57_code
def yX8_bestHaul : MethodName := ⟨RX8, "bestHaul", "()I"⟩
abbrev cX8_row : ByteArray := prog_10_method_58_code
def yX8_row : MethodName := ⟨RX8, "row", "(I)I"⟩
abbrev cX8_came : ByteArray := prog_10_method_59_code
def yX8_came : MethodName := ⟨RX8, "came", "(II)I"⟩
abbrev cX8_fits : ByteArray := prog_10_method_60_code
def yX8_fits : MethodName := ⟨RX8, "fits", "(I)Z"⟩
abbrev cX8_lines : ByteArray := prog_10_method_61_code
def yX8_lines : MethodName := ⟨RX8, "lines", "(I)I"⟩
abbrev cX8_tries : ByteArray := prog_10_method_62_code
def yX8_tries : MethodName := ⟨RX8, "tries", "()I"⟩
abbrev cX8_note : ByteArray := prog_10_method_63_code
def yX8_note : MethodName := ⟨RX8, "note", "(IIII)I"⟩
abbrev cX8_mark : ByteArray := prog_10_method_64_code
def yX8_mark : MethodName := ⟨RX8, "mark", "(IIII)I"⟩
abbrev cX8_forget : ByteArray := prog_10_method_65_code
def yX8_forget : MethodName := ⟨RX8, "forget", "(I)I"⟩
abbrev cX8_kindsOf : ByteArray := prog_10_method_66_code
def yX8_kindsOf : MethodName := ⟨RX8, "kindsOf", "(I)I"⟩
abbrev cX8_is : ByteArray := prog_10_method_67_code
def yX8_is : MethodName := ⟨RX8, "is", "(I)I"⟩
abbrev cX8_greatest : ByteArray := prog_10_method_68_code
def yX8_greatest : MethodName := ⟨RX8, "greatest", "(I)I"⟩
abbrev cX8_look : ByteArray := prog_10_method_69_code
def yX8_look : MethodName := ⟨RX8, "look", "(I)I"⟩
abbrev cX8_housesOf : ByteArray := prog_10_method_70_code
def yX8_housesOf : MethodName := ⟨RX8, "housesOf", "(I)I"⟩
abbrev cX8_kinds : ByteArray := prog_10_method_71_code
def yX8_kinds : MethodName := ⟨RX8, "kinds", "(I)I"⟩
abbrev cX8_ask : ByteArray := prog_10_method_72_code
def yX8_ask : MethodName := ⟨RX8, "ask", "(I)I"⟩
abbrev cX8_getsBy : ByteArray := prog_10_method_73_code
def yX8_getsBy : MethodName := ⟨RX8, "getsBy", "(III)I"⟩
abbrev cX8_rests : ByteArray := prog_10_method_74_code
def yX8_rests : MethodName := ⟨RX8, "rests", "(II)Z"⟩
abbrev cX8_ends : ByteArray := prog_10_method_75_code
def yX8_ends : MethodName := ⟨RX8, "ends", "(I)I"⟩
abbrev cX8_scissors : ByteArray := prog_10_method_76_code
def yX8_scissors : MethodName := ⟨RX8, "scissors", "(I)I"⟩
abbrev cX8_nights : ByteArray := prog_10_method_77_code
def yX8_nights : MethodName := ⟨RX8, "nights", "(II)I"⟩
abbrev cX8_part : ByteArray := prog_10_method_78_code
def yX8_part : MethodName := ⟨RX8, "part", "(I)J"⟩
abbrev cX8_image : ByteArray := prog_10_method_79_code
def yX8_image : MethodName := ⟨RX8, "image", "(I)I"⟩
abbrev cX8_from : ByteArray := prog_10_method_80_code
def yX8_from : MethodName := ⟨RX8, "from", "(I)I"⟩
abbrev cX8_status : ByteArray := prog_10_method_81_code
def yX8_status : MethodName := ⟨RX8, "status", "(I)I"⟩
abbrev cX8_countOf : ByteArray := prog_10_method_82_code
def yX8_countOf : MethodName := ⟨RX8, "countOf", "(I)I"⟩
abbrev cX8_count : ByteArray := prog_10_method_83_code
def yX8_count : MethodName := ⟨RX8, "count", "(I)I"⟩
abbrev cX8_mix : ByteArray := prog_10_method_84_code
def yX8_mix : MethodName := ⟨RX8, "mix", "(J)V"⟩
abbrev cX8_digest : ByteArray := prog_10_method_85_code
def yX8_digest : MethodName := ⟨RX8, "digest", "()J"⟩
def RJ9 : String := "java/lang/Math"
def TJ9 : u_T := fun k => match k with
  | _ => ("", "", "", false)
def tyJ9 : Nat → FieldType := fun k => match k with
  | _ => .int
abbrev wsJ90 : List Cond := u_ws RJ9 TJ9 0
theorem nmJ9 : ∀ a, a < 0 → ∀ b, b < 0 → a ≠ b → (TJ9 a).2.1 ≠ (TJ9 b).2.1 := by decide +kernel
theorem tyJ9_ok : ∀ k, k < 0 → parseFieldDescriptor (TJ9 k).2.2.1 = some (tyJ9 k) := by decide +kernel
abbrev cJ9_max_7cf53 : ByteArray := prog_11_method_65_code
def yJ9_max_7cf53 : MethodName := ⟨RJ9, "max", "(II)I"⟩
abbrev cJ9_min_7cf53 : ByteArray := prog_11_method_69_code
def yJ9_min_7cf53 : MethodName := ⟨RJ9, "min", "(II)I"⟩
def RJ0 : String := "java/lang/String"
def TJ0 : u_T := fun k => match k with
  | _ => ("", "", "", false)
def tyJ0 : Nat → FieldType := fun k => match k with
  | _ => .int
abbrev wsJ00 : List Cond := u_ws RJ0 TJ0 0
theorem nmJ0 : ∀ a, a < 0 → ∀ b, b < 0 → a ≠ b → (TJ0 a).2.1 ≠ (TJ0 b).2.1 := by decide +kernel
theorem tyJ0_ok : ∀ k, k < 0 → parseFieldDescriptor (TJ0 k).2.2.1 = some (tyJ0 k) := by decide +kernel
abbrev cJ0_length_8abf5 : ByteArray := prog_12_method_54_code
def yJ0_length_8abf5 : MethodName := ⟨RJ0, "length", "()I"⟩
abbrev cJ0_charAt_5068e : ByteArray := prog_12_method_56_code
def yJ0_charAt_5068e : MethodName := ⟨RJ0, "charAt", "(I)C"⟩
abbrev cJ0_coder_7d493 : ByteArray := prog_12_method_152_code
def yJ0_coder_7d493 : MethodName := ⟨RJ0, "coder", "()B"⟩
abbrev cJ0_isLatin1_aae02 : ByteArray := prog_12_method_154_code
def yJ0_isLatin1_aae02 : MethodName := ⟨RJ0, "isLatin1", "()Z"⟩
abbrev cJ0_checkIndex_df160 : ByteArray := prog_12_method_155_code
def yJ0_checkIndex_df160 : MethodName := ⟨RJ0, "checkIndex", "(II)V"⟩
def RJ1 : String := "java/lang/StringLatin1"
def TJ1 : u_T := fun k => match k with
  | _ => ("", "", "", false)
def tyJ1 : Nat → FieldType := fun k => match k with
  | _ => .int
abbrev wsJ10 : List Cond := u_ws RJ1 TJ1 0
theorem nmJ1 : ∀ a, a < 0 → ∀ b, b < 0 → a ≠ b → (TJ1 a).2.1 ≠ (TJ1 b).2.1 := by decide +kernel
theorem tyJ1_ok : ∀ k, k < 0 → parseFieldDescriptor (TJ1 k).2.2.1 = some (tyJ1 k) := by decide +kernel
abbrev cJ1_charAt_3b067 : ByteArray := prog_13_method_2_code
def yJ1_charAt_3b067 : MethodName := ⟨RJ1, "charAt", "([BI)C"⟩
def RJ2 : String := "java/lang/StringUTF16"
def TJ2 : u_T := fun k => match k with
  | _ => ("", "", "", false)
def tyJ2 : Nat → FieldType := fun k => match k with
  | _ => .int
abbrev wsJ20 : List Cond := u_ws RJ2 TJ2 0
theorem nmJ2 : ∀ a, a < 0 → ∀ b, b < 0 → a ≠ b → (TJ2 a).2.1 ≠ (TJ2 b).2.1 := by decide +kernel
theorem tyJ2_ok : ∀ k, k < 0 → parseFieldDescriptor (TJ2 k).2.2.1 = some (tyJ2 k) := by decide +kernel
abbrev cJ2_getChar_3b067 : ByteArray := prog_14_method_5_code
def yJ2_getChar_3b067 : MethodName := ⟨RJ2, "getChar", "([BI)C"⟩
abbrev cJ2_length_9d52b : ByteArray := prog_14_method_6_code
def yJ2_length_9d52b : MethodName := ⟨RJ2, "length", "([B)I"⟩
abbrev cJ2_charAt_3b067 : ByteArray := prog_14_method_83_code
def yJ2_charAt_3b067 : MethodName := ⟨RJ2, "charAt", "([BI)C"⟩
abbrev cJ2_checkIndex_2214a : ByteArray := prog_14_method_91_code
def yJ2_checkIndex_2214a : MethodName := ⟨RJ2, "checkIndex", "(I[B)V"⟩
def RJ10 : String := "java/lang/System"
def TJ10 : u_T := fun k => match k with
  | _ => ("", "", "", false)
def tyJ10 : Nat → FieldType := fun k => match k with
  | _ => .int
abbrev wsJ100 : List Cond := u_ws RJ10 TJ10 0
theorem nmJ10 : ∀ a, a < 0 → ∀ b, b < 0 → a ≠ b → (TJ10 a).2.1 ≠ (TJ10 b).2.1 := by decide +kernel
theorem tyJ10_ok : ∀ k, k < 0 → parseFieldDescriptor (TJ10 k).2.2.1 = some (tyJ10 k) := by decide +kernel
def RJ3 : String := "jdk/internal/util/Preconditions"
def TJ3 : u_T := fun k => match k with
  | _ => ("", "", "", false)
def tyJ3 : Nat → FieldType := fun k => match k with
  | _ => .int
abbrev wsJ30 : List Cond := u_ws RJ3 TJ3 0
theorem nmJ3 : ∀ a, a < 0 → ∀ b, b < 0 → a ≠ b → (TJ3 a).2.1 ≠ (TJ3 b).2.1 := by decide +kernel
theorem tyJ3_ok : ∀ k, k < 0 → parseFieldDescriptor (TJ3 k).2.2.1 = some (tyJ3 k) := by decide +kernel
abbrev cJ3_checkIndex_8e157 : ByteArray := prog_16_method_11_code
def yJ3_checkIndex_8e157 : MethodName := ⟨RJ3, "checkIndex", "(IILjava/util/function/BiFunction;)I"⟩
def RL : String := "StringTollLaw"
abbrev cL_law : ByteArray := code
def yL_law : MethodName := ⟨RL, "law", "([I)Z"⟩
