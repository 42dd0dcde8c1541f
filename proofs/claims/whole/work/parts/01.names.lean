-- ===== PART A: goes FIRST, ahead of the names: the tables' words, and 'selects' of the private methods out of them =====
/-- a private method of a class that the tables say can be made, by its rows of tables_1 -/
def lw_okq (q : MethodName × Nat) : Prop := (q.1.cls ≠ "java/lang/invoke/MethodHandle" ∧ q.1.cls ≠ "java/lang/invoke/VarHandle") ∧ Cond.instantiable q.1.cls q.2 ∈ tables_1 ∧ Cond.privateMethod q.1 ∈ tables_1 ∧ Cond.instanceMethod q.1 ∈ tables_1
theorem lw_p0 : lw_okq (⟨"TwoViews$Reader", "takeDefaults", "(LTwoViews$Scene;)V"⟩, 6) := ⟨⟨by decide +kernel, by decide +kernel⟩, List.mem_of_getElem? (i := 133) (by decide +kernel), List.mem_of_getElem? (i := 390) (by decide +kernel), List.mem_of_getElem? (i := 391) (by decide +kernel)⟩
theorem lw_p1 : lw_okq (⟨"TwoViews$Reader", "takeSize", "()V"⟩, 6) := ⟨⟨by decide +kernel, by decide +kernel⟩, List.mem_of_getElem? (i := 133) (by decide +kernel), List.mem_of_getElem? (i := 396) (by decide +kernel), List.mem_of_getElem? (i := 397) (by decide +kernel)⟩
theorem lw_p2 : lw_okq (⟨"TwoViews$Reader", "advance", "()V"⟩, 6) := ⟨⟨by decide +kernel, by decide +kernel⟩, List.mem_of_getElem? (i := 133) (by decide +kernel), List.mem_of_getElem? (i := 400) (by decide +kernel), List.mem_of_getElem? (i := 401) (by decide +kernel)⟩
theorem lw_p3 : lw_okq (⟨"TwoViews$Reader", "isToken", "(Ljava/lang/String;)Z"⟩, 6) := ⟨⟨by decide +kernel, by decide +kernel⟩, List.mem_of_getElem? (i := 133) (by decide +kernel), List.mem_of_getElem? (i := 415) (by decide +kernel), List.mem_of_getElem? (i := 416) (by decide +kernel)⟩
theorem lw_p4 : lw_okq (⟨"TwoViews$Reader", "fail", "(II)V"⟩, 6) := ⟨⟨by decide +kernel, by decide +kernel⟩, List.mem_of_getElem? (i := 133) (by decide +kernel), List.mem_of_getElem? (i := 467) (by decide +kernel), List.mem_of_getElem? (i := 468) (by decide +kernel)⟩
theorem lw_p5 : lw_okq (⟨"TwoViews$Reader", "takeNumber", "(II)I"⟩, 6) := ⟨⟨by decide +kernel, by decide +kernel⟩, List.mem_of_getElem? (i := 133) (by decide +kernel), List.mem_of_getElem? (i := 471) (by decide +kernel), List.mem_of_getElem? (i := 472) (by decide +kernel)⟩
theorem lw_p6 : lw_okq (⟨"TwoViews$Reader", "numberTold", "()I"⟩, 6) := ⟨⟨by decide +kernel, by decide +kernel⟩, List.mem_of_getElem? (i := 133) (by decide +kernel), List.mem_of_getElem? (i := 475) (by decide +kernel), List.mem_of_getElem? (i := 476) (by decide +kernel)⟩
theorem lw_p7 : lw_okq (⟨"TwoViews$Reader", "takeLine", "()V"⟩, 6) := ⟨⟨by decide +kernel, by decide +kernel⟩, List.mem_of_getElem? (i := 133) (by decide +kernel), List.mem_of_getElem? (i := 486) (by decide +kernel), List.mem_of_getElem? (i := 487) (by decide +kernel)⟩
theorem lw_p8 : lw_okq (⟨"TwoViews$Reader", "takeDial", "(I)V"⟩, 6) := ⟨⟨by decide +kernel, by decide +kernel⟩, List.mem_of_getElem? (i := 133) (by decide +kernel), List.mem_of_getElem? (i := 492) (by decide +kernel), List.mem_of_getElem? (i := 493) (by decide +kernel)⟩
theorem lw_p9 : lw_okq (⟨"TwoViews$Reader", "takePenalties", "()V"⟩, 6) := ⟨⟨by decide +kernel, by decide +kernel⟩, List.mem_of_getElem? (i := 133) (by decide +kernel), List.mem_of_getElem? (i := 502) (by decide +kernel), List.mem_of_getElem? (i := 503) (by decide +kernel)⟩
theorem lw_p10 : lw_okq (⟨"TwoViews$Reader", "takeRow", "(I)V"⟩, 6) := ⟨⟨by decide +kernel, by decide +kernel⟩, List.mem_of_getElem? (i := 133) (by decide +kernel), List.mem_of_getElem? (i := 509) (by decide +kernel), List.mem_of_getElem? (i := 510) (by decide +kernel)⟩
theorem lw_p11 : lw_okq (⟨"TwoViews", "beginAct", "(I)V"⟩, 12) := ⟨⟨by decide +kernel, by decide +kernel⟩, List.mem_of_getElem? (i := 26) (by decide +kernel), List.mem_of_getElem? (i := 520) (by decide +kernel), List.mem_of_getElem? (i := 521) (by decide +kernel)⟩
theorem lw_p12 : lw_okq (⟨"TwoViews", "keepUpTo", "(I)V"⟩, 12) := ⟨⟨by decide +kernel, by decide +kernel⟩, List.mem_of_getElem? (i := 26) (by decide +kernel), List.mem_of_getElem? (i := 535) (by decide +kernel), List.mem_of_getElem? (i := 536) (by decide +kernel)⟩
theorem lw_p13 : lw_okq (⟨"TwoViews", "reach", "(I)V"⟩, 12) := ⟨⟨by decide +kernel, by decide +kernel⟩, List.mem_of_getElem? (i := 26) (by decide +kernel), List.mem_of_getElem? (i := 625) (by decide +kernel), List.mem_of_getElem? (i := 626) (by decide +kernel)⟩
theorem lw_p14 : lw_okq (⟨"TwoViews$Matcher", "codeBits", "(III)I"⟩, 6) := ⟨⟨by decide +kernel, by decide +kernel⟩, List.mem_of_getElem? (i := 204) (by decide +kernel), List.mem_of_getElem? (i := 634) (by decide +kernel), List.mem_of_getElem? (i := 635) (by decide +kernel)⟩
theorem lw_p15 : lw_okq (⟨"TwoViews$Matcher", "unlikeBits", "(III)I"⟩, 6) := ⟨⟨by decide +kernel, by decide +kernel⟩, List.mem_of_getElem? (i := 204) (by decide +kernel), List.mem_of_getElem? (i := 648) (by decide +kernel), List.mem_of_getElem? (i := 649) (by decide +kernel)⟩
def lw_privs_1 : List (MethodName × Nat) := [(⟨"TwoViews$Reader", "takeDefaults", "(LTwoViews$Scene;)V"⟩, 6), (⟨"TwoViews$Reader", "takeSize", "()V"⟩, 6), (⟨"TwoViews$Reader", "advance", "()V"⟩, 6), (⟨"TwoViews$Reader", "isToken", "(Ljava/lang/String;)Z"⟩, 6), (⟨"TwoViews$Reader", "fail", "(II)V"⟩, 6), (⟨"TwoViews$Reader", "takeNumber", "(II)I"⟩, 6), (⟨"TwoViews$Reader", "numberTold", "()I"⟩, 6), (⟨"TwoViews$Reader", "takeLine", "()V"⟩, 6), (⟨"TwoViews$Reader", "takeDial", "(I)V"⟩, 6), (⟨"TwoViews$Reader", "takePenalties", "()V"⟩, 6), (⟨"TwoViews$Reader", "takeRow", "(I)V"⟩, 6), (⟨"TwoViews", "beginAct", "(I)V"⟩, 12), (⟨"TwoViews", "keepUpTo", "(I)V"⟩, 12), (⟨"TwoViews", "reach", "(I)V"⟩, 12), (⟨"TwoViews$Matcher", "codeBits", "(III)I"⟩, 6), (⟨"TwoViews$Matcher", "unlikeBits", "(III)I"⟩, 6)]
theorem lw_r1 : ∀ q ∈ lw_privs_1, lw_okq q := List.forall_mem_cons.mpr ⟨lw_p0, List.forall_mem_cons.mpr ⟨lw_p1, List.forall_mem_cons.mpr ⟨lw_p2, List.forall_mem_cons.mpr ⟨lw_p3, List.forall_mem_cons.mpr ⟨lw_p4, List.forall_mem_cons.mpr ⟨lw_p5, List.forall_mem_cons.mpr ⟨lw_p6, List.forall_mem_cons.mpr ⟨lw_p7, List.forall_mem_cons.mpr ⟨lw_p8, List.forall_mem_cons.mpr ⟨lw_p9, List.forall_mem_cons.mpr ⟨lw_p10, List.forall_mem_cons.mpr ⟨lw_p11, List.forall_mem_cons.mpr ⟨lw_p12, List.forall_mem_cons.mpr ⟨lw_p13, List.forall_mem_cons.mpr ⟨lw_p14, List.forall_mem_cons.mpr ⟨lw_p15, fun _ h => absurd h List.not_mem_nil⟩⟩⟩⟩⟩⟩⟩⟩⟩⟩⟩⟩⟩⟩⟩⟩
theorem lw_p16 : lw_okq (⟨"TwoViews$Matcher", "goOn", "(II)V"⟩, 6) := ⟨⟨by decide +kernel, by decide +kernel⟩, List.mem_of_getElem? (i := 204) (by decide +kernel), List.mem_of_getElem? (i := 675) (by decide +kernel), List.mem_of_getElem? (i := 676) (by decide +kernel)⟩
theorem lw_p17 : lw_okq (⟨"TwoViews$Matcher", "begin", "(I)V"⟩, 6) := ⟨⟨by decide +kernel, by decide +kernel⟩, List.mem_of_getElem? (i := 204) (by decide +kernel), List.mem_of_getElem? (i := 680) (by decide +kernel), List.mem_of_getElem? (i := 681) (by decide +kernel)⟩
theorem lw_p18 : lw_okq (⟨"TwoViews$Matcher", "addTold", "()V"⟩, 6) := ⟨⟨by decide +kernel, by decide +kernel⟩, List.mem_of_getElem? (i := 204) (by decide +kernel), List.mem_of_getElem? (i := 684) (by decide +kernel), List.mem_of_getElem? (i := 685) (by decide +kernel)⟩
theorem lw_p19 : lw_okq (⟨"TwoViews$Maps", "bestOfLeft", "(II)I"⟩, 6) := ⟨⟨by decide +kernel, by decide +kernel⟩, List.mem_of_getElem? (i := 236) (by decide +kernel), List.mem_of_getElem? (i := 693) (by decide +kernel), List.mem_of_getElem? (i := 694) (by decide +kernel)⟩
theorem lw_p20 : lw_okq (⟨"TwoViews$Maps", "bestOfRight", "(II)I"⟩, 6) := ⟨⟨by decide +kernel, by decide +kernel⟩, List.mem_of_getElem? (i := 236) (by decide +kernel), List.mem_of_getElem? (i := 698) (by decide +kernel), List.mem_of_getElem? (i := 699) (by decide +kernel)⟩
theorem lw_p21 : lw_okq (⟨"TwoViews$Maps", "kindBySight", "(III)I"⟩, 6) := ⟨⟨by decide +kernel, by decide +kernel⟩, List.mem_of_getElem? (i := 236) (by decide +kernel), List.mem_of_getElem? (i := 706) (by decide +kernel), List.mem_of_getElem? (i := 707) (by decide +kernel)⟩
theorem lw_p22 : lw_okq (⟨"TwoViews$Maps", "shiftSeen", "(IIII)I"⟩, 6) := ⟨⟨by decide +kernel, by decide +kernel⟩, List.mem_of_getElem? (i := 236) (by decide +kernel), List.mem_of_getElem? (i := 710) (by decide +kernel), List.mem_of_getElem? (i := 711) (by decide +kernel)⟩
theorem lw_p23 : lw_okq (⟨"TwoViews$Pieces", "grow", "(III)V"⟩, 7) := ⟨⟨by decide +kernel, by decide +kernel⟩, List.mem_of_getElem? (i := 268) (by decide +kernel), List.mem_of_getElem? (i := 723) (by decide +kernel), List.mem_of_getElem? (i := 724) (by decide +kernel)⟩
theorem lw_p24 : lw_okq (⟨"TwoViews$Pieces", "join", "(IIII)V"⟩, 7) := ⟨⟨by decide +kernel, by decide +kernel⟩, List.mem_of_getElem? (i := 268) (by decide +kernel), List.mem_of_getElem? (i := 727) (by decide +kernel), List.mem_of_getElem? (i := 728) (by decide +kernel)⟩
theorem lw_p25 : lw_okq (⟨"TwoViews$Pieces", "lookAround", "(III)V"⟩, 7) := ⟨⟨by decide +kernel, by decide +kernel⟩, List.mem_of_getElem? (i := 268) (by decide +kernel), List.mem_of_getElem? (i := 731) (by decide +kernel), List.mem_of_getElem? (i := 732) (by decide +kernel)⟩
theorem lw_p26 : lw_okq (⟨"TwoViews$Pieces", "isFree", "(II)Z"⟩, 7) := ⟨⟨by decide +kernel, by decide +kernel⟩, List.mem_of_getElem? (i := 268) (by decide +kernel), List.mem_of_getElem? (i := 738) (by decide +kernel), List.mem_of_getElem? (i := 739) (by decide +kernel)⟩
theorem lw_p27 : lw_okq (⟨"TwoViews$Pieces", "dropSmall", "(I)V"⟩, 7) := ⟨⟨by decide +kernel, by decide +kernel⟩, List.mem_of_getElem? (i := 268) (by decide +kernel), List.mem_of_getElem? (i := 743) (by decide +kernel), List.mem_of_getElem? (i := 744) (by decide +kernel)⟩
theorem lw_p28 : lw_okq (⟨"TwoViews$Pieces", "stays", "(II)Z"⟩, 7) := ⟨⟨by decide +kernel, by decide +kernel⟩, List.mem_of_getElem? (i := 268) (by decide +kernel), List.mem_of_getElem? (i := 747) (by decide +kernel), List.mem_of_getElem? (i := 748) (by decide +kernel)⟩
theorem lw_p29 : lw_okq (⟨"TwoViews$Maps", "fillingOf", "(III)I"⟩, 6) := ⟨⟨by decide +kernel, by decide +kernel⟩, List.mem_of_getElem? (i := 236) (by decide +kernel), List.mem_of_getElem? (i := 755) (by decide +kernel), List.mem_of_getElem? (i := 756) (by decide +kernel)⟩
theorem lw_p30 : lw_okq (⟨"TwoViews$Maps", "lesserBeside", "(III)I"⟩, 6) := ⟨⟨by decide +kernel, by decide +kernel⟩, List.mem_of_getElem? (i := 236) (by decide +kernel), List.mem_of_getElem? (i := 759) (by decide +kernel), List.mem_of_getElem? (i := 760) (by decide +kernel)⟩
theorem lw_p31 : lw_okq (⟨"TwoViews$Maps", "nearestSure", "(IIII)I"⟩, 6) := ⟨⟨by decide +kernel, by decide +kernel⟩, List.mem_of_getElem? (i := 236) (by decide +kernel), List.mem_of_getElem? (i := 763) (by decide +kernel), List.mem_of_getElem? (i := 764) (by decide +kernel)⟩
def lw_privs_2 : List (MethodName × Nat) := [(⟨"TwoViews$Matcher", "goOn", "(II)V"⟩, 6), (⟨"TwoViews$Matcher", "begin", "(I)V"⟩, 6), (⟨"TwoViews$Matcher", "addTold", "()V"⟩, 6), (⟨"TwoViews$Maps", "bestOfLeft", "(II)I"⟩, 6), (⟨"TwoViews$Maps", "bestOfRight", "(II)I"⟩, 6), (⟨"TwoViews$Maps", "kindBySight", "(III)I"⟩, 6), (⟨"TwoViews$Maps", "shiftSeen", "(IIII)I"⟩, 6), (⟨"TwoViews$Pieces", "grow", "(III)V"⟩, 7), (⟨"TwoViews$Pieces", "join", "(IIII)V"⟩, 7), (⟨"TwoViews$Pieces", "lookAround", "(III)V"⟩, 7), (⟨"TwoViews$Pieces", "isFree", "(II)Z"⟩, 7), (⟨"TwoViews$Pieces", "dropSmall", "(I)V"⟩, 7), (⟨"TwoViews$Pieces", "stays", "(II)Z"⟩, 7), (⟨"TwoViews$Maps", "fillingOf", "(III)I"⟩, 6), (⟨"TwoViews$Maps", "lesserBeside", "(III)I"⟩, 6), (⟨"TwoViews$Maps", "nearestSure", "(IIII)I"⟩, 6)]
theorem lw_r2 : ∀ q ∈ lw_privs_2, lw_okq q := List.forall_mem_cons.mpr ⟨lw_p16, List.forall_mem_cons.mpr ⟨lw_p17, List.forall_mem_cons.mpr ⟨lw_p18, List.forall_mem_cons.mpr ⟨lw_p19, List.forall_mem_cons.mpr ⟨lw_p20, List.forall_mem_cons.mpr ⟨lw_p21, List.forall_mem_cons.mpr ⟨lw_p22, List.forall_mem_cons.mpr ⟨lw_p23, List.forall_mem_cons.mpr ⟨lw_p24, List.forall_mem_cons.mpr ⟨lw_p25, List.forall_mem_cons.mpr ⟨lw_p26, List.forall_mem_cons.mpr ⟨lw_p27, List.forall_mem_cons.mpr ⟨lw_p28, List.forall_mem_cons.mpr ⟨lw_p29, List.forall_mem_cons.mpr ⟨lw_p30, List.forall_mem_cons.mpr ⟨lw_p31, fun _ h => absurd h List.not_mem_nil⟩⟩⟩⟩⟩⟩⟩⟩⟩⟩⟩⟩⟩⟩⟩⟩
theorem lw_p32 : lw_okq (⟨"TwoViews$Maps", "middleAround", "(III)I"⟩, 6) := ⟨⟨by decide +kernel, by decide +kernel⟩, List.mem_of_getElem? (i := 236) (by decide +kernel), List.mem_of_getElem? (i := 773) (by decide +kernel), List.mem_of_getElem? (i := 774) (by decide +kernel)⟩
theorem lw_p33 : lw_okq (⟨"TwoViews$Matcher", "wasBefore", "(III)Z"⟩, 6) := ⟨⟨by decide +kernel, by decide +kernel⟩, List.mem_of_getElem? (i := 204) (by decide +kernel), List.mem_of_getElem? (i := 781) (by decide +kernel), List.mem_of_getElem? (i := 782) (by decide +kernel)⟩
theorem lw_p34 : lw_okq (⟨"TwoViews$Pieces", "howManyBefore", "(II)I"⟩, 7) := ⟨⟨by decide +kernel, by decide +kernel⟩, List.mem_of_getElem? (i := 268) (by decide +kernel), List.mem_of_getElem? (i := 835) (by decide +kernel), List.mem_of_getElem? (i := 836) (by decide +kernel)⟩
theorem lw_p35 : lw_okq (⟨"TwoViews$Maps", "comesFrom", "(IIII)I"⟩, 6) := ⟨⟨by decide +kernel, by decide +kernel⟩, List.mem_of_getElem? (i := 236) (by decide +kernel), List.mem_of_getElem? (i := 882) (by decide +kernel), List.mem_of_getElem? (i := 883) (by decide +kernel)⟩
theorem lw_p36 : lw_okq (⟨"TwoViews$RowChoice", "bestBefore", "(II)I"⟩, 4) := ⟨⟨by decide +kernel, by decide +kernel⟩, List.mem_of_getElem? (i := 296) (by decide +kernel), List.mem_of_getElem? (i := 901) (by decide +kernel), List.mem_of_getElem? (i := 902) (by decide +kernel)⟩
theorem lw_p37 : lw_okq (⟨"TwoViews$RowChoice", "priceBefore", "(III)I"⟩, 4) := ⟨⟨by decide +kernel, by decide +kernel⟩, List.mem_of_getElem? (i := 296) (by decide +kernel), List.mem_of_getElem? (i := 905) (by decide +kernel), List.mem_of_getElem? (i := 906) (by decide +kernel)⟩
theorem lw_p38 : lw_okq (⟨"TwoViews", "isWrong", "(IIII)Z"⟩, 12) := ⟨⟨by decide +kernel, by decide +kernel⟩, List.mem_of_getElem? (i := 26) (by decide +kernel), List.mem_of_getElem? (i := 928) (by decide +kernel), List.mem_of_getElem? (i := 929) (by decide +kernel)⟩
theorem lw_p39 : lw_okq (⟨"TwoViews", "needPlace", "(III)V"⟩, 12) := ⟨⟨by decide +kernel, by decide +kernel⟩, List.mem_of_getElem? (i := 26) (by decide +kernel), List.mem_of_getElem? (i := 966) (by decide +kernel), List.mem_of_getElem? (i := 967) (by decide +kernel)⟩
theorem lw_p40 : lw_okq (⟨"java/lang/Throwable", "fillInStackTrace", "(I)Ljava/lang/Throwable;"⟩, 6) := ⟨⟨by decide +kernel, by decide +kernel⟩, List.mem_of_getElem? (i := 1006) (by decide +kernel), List.mem_of_getElem? (i := 1004) (by decide +kernel), List.mem_of_getElem? (i := 1005) (by decide +kernel)⟩
theorem lw_p41 : lw_okq (⟨"TwoViewsModel", "begins", "(II)V"⟩, 27) := ⟨⟨by decide +kernel, by decide +kernel⟩, List.mem_of_getElem? (i := 1103) (by decide +kernel), List.mem_of_getElem? (i := 1109) (by decide +kernel), List.mem_of_getElem? (i := 1110) (by decide +kernel)⟩
theorem lw_p42 : lw_okq (⟨"TwoViewsModel", "empties", "()V"⟩, 27) := ⟨⟨by decide +kernel, by decide +kernel⟩, List.mem_of_getElem? (i := 1103) (by decide +kernel), List.mem_of_getElem? (i := 1113) (by decide +kernel), List.mem_of_getElem? (i := 1114) (by decide +kernel)⟩
theorem lw_p43 : lw_okq (⟨"TwoViewsModel", "puts", "(I)V"⟩, 27) := ⟨⟨by decide +kernel, by decide +kernel⟩, List.mem_of_getElem? (i := 1103) (by decide +kernel), List.mem_of_getElem? (i := 1207) (by decide +kernel), List.mem_of_getElem? (i := 1208) (by decide +kernel)⟩
theorem lw_p44 : lw_okq (⟨"TwoViewsModel", "go", "()V"⟩, 27) := ⟨⟨by decide +kernel, by decide +kernel⟩, List.mem_of_getElem? (i := 1103) (by decide +kernel), List.mem_of_getElem? (i := 1218) (by decide +kernel), List.mem_of_getElem? (i := 1219) (by decide +kernel)⟩
theorem lw_p45 : lw_okq (⟨"TwoViewsModel", "byteAt", "(I)I"⟩, 27) := ⟨⟨by decide +kernel, by decide +kernel⟩, List.mem_of_getElem? (i := 1103) (by decide +kernel), List.mem_of_getElem? (i := 1222) (by decide +kernel), List.mem_of_getElem? (i := 1223) (by decide +kernel)⟩
theorem lw_p46 : lw_okq (⟨"TwoViewsModel", "isWord", "(IIIIIII)Z"⟩, 27) := ⟨⟨by decide +kernel, by decide +kernel⟩, List.mem_of_getElem? (i := 1103) (by decide +kernel), List.mem_of_getElem? (i := 1229) (by decide +kernel), List.mem_of_getElem? (i := 1230) (by decide +kernel)⟩
theorem lw_p47 : lw_okq (⟨"TwoViewsModel", "tells", "(III)Z"⟩, 27) := ⟨⟨by decide +kernel, by decide +kernel⟩, List.mem_of_getElem? (i := 1103) (by decide +kernel), List.mem_of_getElem? (i := 1233) (by decide +kernel), List.mem_of_getElem? (i := 1234) (by decide +kernel)⟩
def lw_privs_3 : List (MethodName × Nat) := [(⟨"TwoViews$Maps", "middleAround", "(III)I"⟩, 6), (⟨"TwoViews$Matcher", "wasBefore", "(III)Z"⟩, 6), (⟨"TwoViews$Pieces", "howManyBefore", "(II)I"⟩, 7), (⟨"TwoViews$Maps", "comesFrom", "(IIII)I"⟩, 6), (⟨"TwoViews$RowChoice", "bestBefore", "(II)I"⟩, 4), (⟨"TwoViews$RowChoice", "priceBefore", "(III)I"⟩, 4), (⟨"TwoViews", "isWrong", "(IIII)Z"⟩, 12), (⟨"TwoViews", "needPlace", "(III)V"⟩, 12), (⟨"java/lang/Throwable", "fillInStackTrace", "(I)Ljava/lang/Throwable;"⟩, 6), (⟨"TwoViewsModel", "begins", "(II)V"⟩, 27), (⟨"TwoViewsModel", "empties", "()V"⟩, 27), (⟨"TwoViewsModel", "puts", "(I)V"⟩, 27), (⟨"TwoViewsModel", "go", "()V"⟩, 27), (⟨"TwoViewsModel", "byteAt", "(I)I"⟩, 27), (⟨"TwoViewsModel", "isWord", "(IIIIIII)Z"⟩, 27), (⟨"TwoViewsModel", "tells", "(III)Z"⟩, 27)]
theorem lw_r3 : ∀ q ∈ lw_privs_3, lw_okq q := List.forall_mem_cons.mpr ⟨lw_p32, List.forall_mem_cons.mpr ⟨lw_p33, List.forall_mem_cons.mpr ⟨lw_p34, List.forall_mem_cons.mpr ⟨lw_p35, List.forall_mem_cons.mpr ⟨lw_p36, List.forall_mem_cons.mpr ⟨lw_p37, List.forall_mem_cons.mpr ⟨lw_p38, List.forall_mem_cons.mpr ⟨lw_p39, List.forall_mem_cons.mpr ⟨lw_p40, List.forall_mem_cons.mpr ⟨lw_p41, List.forall_mem_cons.mpr ⟨lw_p42, List.forall_mem_cons.mpr ⟨lw_p43, List.forall_mem_cons.mpr ⟨lw_p44, List.forall_mem_cons.mpr ⟨lw_p45, List.forall_mem_cons.mpr ⟨lw_p46, List.forall_mem_cons.mpr ⟨lw_p47, fun _ h => absurd h List.not_mem_nil⟩⟩⟩⟩⟩⟩⟩⟩⟩⟩⟩⟩⟩⟩⟩⟩
theorem lw_p48 : lw_okq (⟨"TwoViewsModel", "number", "(II)Z"⟩, 27) := ⟨⟨by decide +kernel, by decide +kernel⟩, List.mem_of_getElem? (i := 1103) (by decide +kernel), List.mem_of_getElem? (i := 1237) (by decide +kernel), List.mem_of_getElem? (i := 1238) (by decide +kernel)⟩
theorem lw_p49 : lw_okq (⟨"TwoViewsModel", "isNumber", "()Z"⟩, 27) := ⟨⟨by decide +kernel, by decide +kernel⟩, List.mem_of_getElem? (i := 1103) (by decide +kernel), List.mem_of_getElem? (i := 1241) (by decide +kernel), List.mem_of_getElem? (i := 1242) (by decide +kernel)⟩
theorem lw_p50 : lw_okq (⟨"TwoViewsModel", "bad", "(II)Z"⟩, 27) := ⟨⟨by decide +kernel, by decide +kernel⟩, List.mem_of_getElem? (i := 1103) (by decide +kernel), List.mem_of_getElem? (i := 1245) (by decide +kernel), List.mem_of_getElem? (i := 1246) (by decide +kernel)⟩
theorem lw_p51 : lw_okq (⟨"TwoViewsModel", "line", "()Z"⟩, 27) := ⟨⟨by decide +kernel, by decide +kernel⟩, List.mem_of_getElem? (i := 1103) (by decide +kernel), List.mem_of_getElem? (i := 1249) (by decide +kernel), List.mem_of_getElem? (i := 1250) (by decide +kernel)⟩
theorem lw_p52 : lw_okq (⟨"TwoViewsModel", "penalty", "()Z"⟩, 27) := ⟨⟨by decide +kernel, by decide +kernel⟩, List.mem_of_getElem? (i := 1103) (by decide +kernel), List.mem_of_getElem? (i := 1253) (by decide +kernel), List.mem_of_getElem? (i := 1254) (by decide +kernel)⟩
theorem lw_p53 : lw_okq (⟨"TwoViewsModel", "row", "(I)Z"⟩, 27) := ⟨⟨by decide +kernel, by decide +kernel⟩, List.mem_of_getElem? (i := 1103) (by decide +kernel), List.mem_of_getElem? (i := 1257) (by decide +kernel), List.mem_of_getElem? (i := 1258) (by decide +kernel)⟩
theorem lw_p54 : lw_okq (⟨"TwoViewsModel", "keeps", "()V"⟩, 27) := ⟨⟨by decide +kernel, by decide +kernel⟩, List.mem_of_getElem? (i := 1103) (by decide +kernel), List.mem_of_getElem? (i := 1267) (by decide +kernel), List.mem_of_getElem? (i := 1268) (by decide +kernel)⟩
theorem lw_p55 : lw_okq (⟨"TwoViewsModel", "isAt", "(III)Z"⟩, 27) := ⟨⟨by decide +kernel, by decide +kernel⟩, List.mem_of_getElem? (i := 1103) (by decide +kernel), List.mem_of_getElem? (i := 1279) (by decide +kernel), List.mem_of_getElem? (i := 1280) (by decide +kernel)⟩
theorem lw_p56 : lw_okq (⟨"TwoViewsModel", "isPlace", "(II)Z"⟩, 27) := ⟨⟨by decide +kernel, by decide +kernel⟩, List.mem_of_getElem? (i := 1103) (by decide +kernel), List.mem_of_getElem? (i := 1283) (by decide +kernel), List.mem_of_getElem? (i := 1284) (by decide +kernel)⟩
theorem lw_p57 : lw_okq (⟨"TwoViewsModel", "valueAt", "(III)I"⟩, 27) := ⟨⟨by decide +kernel, by decide +kernel⟩, List.mem_of_getElem? (i := 1103) (by decide +kernel), List.mem_of_getElem? (i := 1287) (by decide +kernel), List.mem_of_getElem? (i := 1288) (by decide +kernel)⟩
theorem lw_p58 : lw_okq (⟨"TwoViewsModel", "canTune", "(II)Z"⟩, 27) := ⟨⟨by decide +kernel, by decide +kernel⟩, List.mem_of_getElem? (i := 1103) (by decide +kernel), List.mem_of_getElem? (i := 1295) (by decide +kernel), List.mem_of_getElem? (i := 1296) (by decide +kernel)⟩
theorem lw_p59 : lw_okq (⟨"TwoViewsModel", "texture", "(III)I"⟩, 27) := ⟨⟨by decide +kernel, by decide +kernel⟩, List.mem_of_getElem? (i := 1103) (by decide +kernel), List.mem_of_getElem? (i := 1311) (by decide +kernel), List.mem_of_getElem? (i := 1312) (by decide +kernel)⟩
theorem lw_p60 : lw_okq (⟨"TwoViewsModel", "layerAt", "(III)I"⟩, 27) := ⟨⟨by decide +kernel, by decide +kernel⟩, List.mem_of_getElem? (i := 1103) (by decide +kernel), List.mem_of_getElem? (i := 1315) (by decide +kernel), List.mem_of_getElem? (i := 1316) (by decide +kernel)⟩
theorem lw_p61 : lw_okq (⟨"TwoViewsModel", "edge", "(II)I"⟩, 27) := ⟨⟨by decide +kernel, by decide +kernel⟩, List.mem_of_getElem? (i := 1103) (by decide +kernel), List.mem_of_getElem? (i := 1319) (by decide +kernel), List.mem_of_getElem? (i := 1320) (by decide +kernel)⟩
theorem lw_p62 : lw_okq (⟨"TwoViewsModel", "truthAt", "(II)I"⟩, 27) := ⟨⟨by decide +kernel, by decide +kernel⟩, List.mem_of_getElem? (i := 1103) (by decide +kernel), List.mem_of_getElem? (i := 1329) (by decide +kernel), List.mem_of_getElem? (i := 1330) (by decide +kernel)⟩
theorem lw_p63 : lw_okq (⟨"TwoViewsModel", "isCovered", "(II)Z"⟩, 27) := ⟨⟨by decide +kernel, by decide +kernel⟩, List.mem_of_getElem? (i := 1103) (by decide +kernel), List.mem_of_getElem? (i := 1333) (by decide +kernel), List.mem_of_getElem? (i := 1334) (by decide +kernel)⟩
def lw_privs_4 : List (MethodName × Nat) := [(⟨"TwoViewsModel", "number", "(II)Z"⟩, 27), (⟨"TwoViewsModel", "isNumber", "()Z"⟩, 27), (⟨"TwoViewsModel", "bad", "(II)Z"⟩, 27), (⟨"TwoViewsModel", "line", "()Z"⟩, 27), (⟨"TwoViewsModel", "penalty", "()Z"⟩, 27), (⟨"TwoViewsModel", "row", "(I)Z"⟩, 27), (⟨"TwoViewsModel", "keeps", "()V"⟩, 27), (⟨"TwoViewsModel", "isAt", "(III)Z"⟩, 27), (⟨"TwoViewsModel", "isPlace", "(II)Z"⟩, 27), (⟨"TwoViewsModel", "valueAt", "(III)I"⟩, 27), (⟨"TwoViewsModel", "canTune", "(II)Z"⟩, 27), (⟨"TwoViewsModel", "texture", "(III)I"⟩, 27), (⟨"TwoViewsModel", "layerAt", "(III)I"⟩, 27), (⟨"TwoViewsModel", "edge", "(II)I"⟩, 27), (⟨"TwoViewsModel", "truthAt", "(II)I"⟩, 27), (⟨"TwoViewsModel", "isCovered", "(II)Z"⟩, 27)]
theorem lw_r4 : ∀ q ∈ lw_privs_4, lw_okq q := List.forall_mem_cons.mpr ⟨lw_p48, List.forall_mem_cons.mpr ⟨lw_p49, List.forall_mem_cons.mpr ⟨lw_p50, List.forall_mem_cons.mpr ⟨lw_p51, List.forall_mem_cons.mpr ⟨lw_p52, List.forall_mem_cons.mpr ⟨lw_p53, List.forall_mem_cons.mpr ⟨lw_p54, List.forall_mem_cons.mpr ⟨lw_p55, List.forall_mem_cons.mpr ⟨lw_p56, List.forall_mem_cons.mpr ⟨lw_p57, List.forall_mem_cons.mpr ⟨lw_p58, List.forall_mem_cons.mpr ⟨lw_p59, List.forall_mem_cons.mpr ⟨lw_p60, List.forall_mem_cons.mpr ⟨lw_p61, List.forall_mem_cons.mpr ⟨lw_p62, List.forall_mem_cons.mpr ⟨lw_p63, fun _ h => absurd h List.not_mem_nil⟩⟩⟩⟩⟩⟩⟩⟩⟩⟩⟩⟩⟩⟩⟩⟩
theorem lw_p64 : lw_okq (⟨"TwoViewsModel", "codeAt", "(III)I"⟩, 27) := ⟨⟨by decide +kernel, by decide +kernel⟩, List.mem_of_getElem? (i := 1103) (by decide +kernel), List.mem_of_getElem? (i := 1345) (by decide +kernel), List.mem_of_getElem? (i := 1346) (by decide +kernel)⟩
theorem lw_p65 : lw_okq (⟨"TwoViewsModel", "nearest", "(II)I"⟩, 27) := ⟨⟨by decide +kernel, by decide +kernel⟩, List.mem_of_getElem? (i := 1103) (by decide +kernel), List.mem_of_getElem? (i := 1349) (by decide +kernel), List.mem_of_getElem? (i := 1350) (by decide +kernel)⟩
theorem lw_p66 : lw_okq (⟨"TwoViewsModel", "laysCodes", "()V"⟩, 27) := ⟨⟨by decide +kernel, by decide +kernel⟩, List.mem_of_getElem? (i := 1103) (by decide +kernel), List.mem_of_getElem? (i := 1357) (by decide +kernel), List.mem_of_getElem? (i := 1358) (by decide +kernel)⟩
theorem lw_p67 : lw_okq (⟨"TwoViewsModel", "isFirst", "(III)Z"⟩, 27) := ⟨⟨by decide +kernel, by decide +kernel⟩, List.mem_of_getElem? (i := 1103) (by decide +kernel), List.mem_of_getElem? (i := 1368) (by decide +kernel), List.mem_of_getElem? (i := 1369) (by decide +kernel)⟩
theorem lw_p68 : lw_okq (⟨"TwoViewsModel", "isShift", "(III)Z"⟩, 27) := ⟨⟨by decide +kernel, by decide +kernel⟩, List.mem_of_getElem? (i := 1103) (by decide +kernel), List.mem_of_getElem? (i := 1376) (by decide +kernel), List.mem_of_getElem? (i := 1377) (by decide +kernel)⟩
theorem lw_p69 : lw_okq (⟨"TwoViewsModel", "costAt", "(III)I"⟩, 27) := ⟨⟨by decide +kernel, by decide +kernel⟩, List.mem_of_getElem? (i := 1103) (by decide +kernel), List.mem_of_getElem? (i := 1380) (by decide +kernel), List.mem_of_getElem? (i := 1381) (by decide +kernel)⟩
theorem lw_p70 : lw_okq (⟨"TwoViewsModel", "laysWay", "(I)V"⟩, 27) := ⟨⟨by decide +kernel, by decide +kernel⟩, List.mem_of_getElem? (i := 1103) (by decide +kernel), List.mem_of_getElem? (i := 1391) (by decide +kernel), List.mem_of_getElem? (i := 1392) (by decide +kernel)⟩
theorem lw_p71 : lw_okq (⟨"TwoViewsModel", "tellsBy", "(III)I"⟩, 27) := ⟨⟨by decide +kernel, by decide +kernel⟩, List.mem_of_getElem? (i := 1103) (by decide +kernel), List.mem_of_getElem? (i := 1401) (by decide +kernel), List.mem_of_getElem? (i := 1402) (by decide +kernel)⟩
theorem lw_p72 : lw_okq (⟨"TwoViewsModel", "leastOf", "([III)I"⟩, 27) := ⟨⟨by decide +kernel, by decide +kernel⟩, List.mem_of_getElem? (i := 1103) (by decide +kernel), List.mem_of_getElem? (i := 1405) (by decide +kernel), List.mem_of_getElem? (i := 1406) (by decide +kernel)⟩
theorem lw_p73 : lw_okq (⟨"TwoViewsModel", "laysSums", "()V"⟩, 27) := ⟨⟨by decide +kernel, by decide +kernel⟩, List.mem_of_getElem? (i := 1103) (by decide +kernel), List.mem_of_getElem? (i := 1417) (by decide +kernel), List.mem_of_getElem? (i := 1418) (by decide +kernel)⟩
theorem lw_p74 : lw_okq (⟨"TwoViewsModel", "laysShifts", "()V"⟩, 27) := ⟨⟨by decide +kernel, by decide +kernel⟩, List.mem_of_getElem? (i := 1103) (by decide +kernel), List.mem_of_getElem? (i := 1425) (by decide +kernel), List.mem_of_getElem? (i := 1426) (by decide +kernel)⟩
theorem lw_p75 : lw_okq (⟨"TwoViewsModel", "leftShift", "(II)I"⟩, 27) := ⟨⟨by decide +kernel, by decide +kernel⟩, List.mem_of_getElem? (i := 1103) (by decide +kernel), List.mem_of_getElem? (i := 1429) (by decide +kernel), List.mem_of_getElem? (i := 1430) (by decide +kernel)⟩
theorem lw_p76 : lw_okq (⟨"TwoViewsModel", "rightShift", "(II)I"⟩, 27) := ⟨⟨by decide +kernel, by decide +kernel⟩, List.mem_of_getElem? (i := 1103) (by decide +kernel), List.mem_of_getElem? (i := 1433) (by decide +kernel), List.mem_of_getElem? (i := 1434) (by decide +kernel)⟩
theorem lw_p77 : lw_okq (⟨"TwoViewsModel", "laysKinds", "()V"⟩, 27) := ⟨⟨by decide +kernel, by decide +kernel⟩, List.mem_of_getElem? (i := 1103) (by decide +kernel), List.mem_of_getElem? (i := 1445) (by decide +kernel), List.mem_of_getElem? (i := 1446) (by decide +kernel)⟩
theorem lw_p78 : lw_okq (⟨"TwoViewsModel", "kindAt", "(III)I"⟩, 27) := ⟨⟨by decide +kernel, by decide +kernel⟩, List.mem_of_getElem? (i := 1103) (by decide +kernel), List.mem_of_getElem? (i := 1449) (by decide +kernel), List.mem_of_getElem? (i := 1450) (by decide +kernel)⟩
theorem lw_p79 : lw_okq (⟨"TwoViewsModel", "laysPieces", "(I)V"⟩, 27) := ⟨⟨by decide +kernel, by decide +kernel⟩, List.mem_of_getElem? (i := 1103) (by decide +kernel), List.mem_of_getElem? (i := 1456) (by decide +kernel), List.mem_of_getElem? (i := 1457) (by decide +kernel)⟩
def lw_privs_5 : List (MethodName × Nat) := [(⟨"TwoViewsModel", "codeAt", "(III)I"⟩, 27), (⟨"TwoViewsModel", "nearest", "(II)I"⟩, 27), (⟨"TwoViewsModel", "laysCodes", "()V"⟩, 27), (⟨"TwoViewsModel", "isFirst", "(III)Z"⟩, 27), (⟨"TwoViewsModel", "isShift", "(III)Z"⟩, 27), (⟨"TwoViewsModel", "costAt", "(III)I"⟩, 27), (⟨"TwoViewsModel", "laysWay", "(I)V"⟩, 27), (⟨"TwoViewsModel", "tellsBy", "(III)I"⟩, 27), (⟨"TwoViewsModel", "leastOf", "([III)I"⟩, 27), (⟨"TwoViewsModel", "laysSums", "()V"⟩, 27), (⟨"TwoViewsModel", "laysShifts", "()V"⟩, 27), (⟨"TwoViewsModel", "leftShift", "(II)I"⟩, 27), (⟨"TwoViewsModel", "rightShift", "(II)I"⟩, 27), (⟨"TwoViewsModel", "laysKinds", "()V"⟩, 27), (⟨"TwoViewsModel", "kindAt", "(III)I"⟩, 27), (⟨"TwoViewsModel", "laysPieces", "(I)V"⟩, 27)]
theorem lw_r5 : ∀ q ∈ lw_privs_5, lw_okq q := List.forall_mem_cons.mpr ⟨lw_p64, List.forall_mem_cons.mpr ⟨lw_p65, List.forall_mem_cons.mpr ⟨lw_p66, List.forall_mem_cons.mpr ⟨lw_p67, List.forall_mem_cons.mpr ⟨lw_p68, List.forall_mem_cons.mpr ⟨lw_p69, List.forall_mem_cons.mpr ⟨lw_p70, List.forall_mem_cons.mpr ⟨lw_p71, List.forall_mem_cons.mpr ⟨lw_p72, List.forall_mem_cons.mpr ⟨lw_p73, List.forall_mem_cons.mpr ⟨lw_p74, List.forall_mem_cons.mpr ⟨lw_p75, List.forall_mem_cons.mpr ⟨lw_p76, List.forall_mem_cons.mpr ⟨lw_p77, List.forall_mem_cons.mpr ⟨lw_p78, List.forall_mem_cons.mpr ⟨lw_p79, fun _ h => absurd h List.not_mem_nil⟩⟩⟩⟩⟩⟩⟩⟩⟩⟩⟩⟩⟩⟩⟩⟩
theorem lw_p80 : lw_okq (⟨"TwoViewsModel", "lowers", "(IIIII)Z"⟩, 27) := ⟨⟨by decide +kernel, by decide +kernel⟩, List.mem_of_getElem? (i := 1103) (by decide +kernel), List.mem_of_getElem? (i := 1460) (by decide +kernel), List.mem_of_getElem? (i := 1461) (by decide +kernel)⟩
theorem lw_p81 : lw_okq (⟨"TwoViewsModel", "hang", "(IIIII)Z"⟩, 27) := ⟨⟨by decide +kernel, by decide +kernel⟩, List.mem_of_getElem? (i := 1103) (by decide +kernel), List.mem_of_getElem? (i := 1464) (by decide +kernel), List.mem_of_getElem? (i := 1465) (by decide +kernel)⟩
theorem lw_p82 : lw_okq (⟨"TwoViewsModel", "kindNow", "(III)I"⟩, 27) := ⟨⟨by decide +kernel, by decide +kernel⟩, List.mem_of_getElem? (i := 1103) (by decide +kernel), List.mem_of_getElem? (i := 1468) (by decide +kernel), List.mem_of_getElem? (i := 1469) (by decide +kernel)⟩
theorem lw_p83 : lw_okq (⟨"TwoViewsModel", "manyAt", "(III)I"⟩, 27) := ⟨⟨by decide +kernel, by decide +kernel⟩, List.mem_of_getElem? (i := 1103) (by decide +kernel), List.mem_of_getElem? (i := 1472) (by decide +kernel), List.mem_of_getElem? (i := 1473) (by decide +kernel)⟩
theorem lw_p84 : lw_okq (⟨"TwoViewsModel", "isKept", "(I)Z"⟩, 27) := ⟨⟨by decide +kernel, by decide +kernel⟩, List.mem_of_getElem? (i := 1103) (by decide +kernel), List.mem_of_getElem? (i := 1488) (by decide +kernel), List.mem_of_getElem? (i := 1489) (by decide +kernel)⟩
theorem lw_p85 : lw_okq (⟨"TwoViewsModel", "aheadOf", "(II)I"⟩, 27) := ⟨⟨by decide +kernel, by decide +kernel⟩, List.mem_of_getElem? (i := 1103) (by decide +kernel), List.mem_of_getElem? (i := 1496) (by decide +kernel), List.mem_of_getElem? (i := 1497) (by decide +kernel)⟩
theorem lw_p86 : lw_okq (⟨"TwoViewsModel", "tellsPiece", "(III)I"⟩, 27) := ⟨⟨by decide +kernel, by decide +kernel⟩, List.mem_of_getElem? (i := 1103) (by decide +kernel), List.mem_of_getElem? (i := 1500) (by decide +kernel), List.mem_of_getElem? (i := 1501) (by decide +kernel)⟩
theorem lw_p87 : lw_okq (⟨"TwoViewsModel", "laysFills", "()V"⟩, 27) := ⟨⟨by decide +kernel, by decide +kernel⟩, List.mem_of_getElem? (i := 1103) (by decide +kernel), List.mem_of_getElem? (i := 1508) (by decide +kernel), List.mem_of_getElem? (i := 1509) (by decide +kernel)⟩
theorem lw_p88 : lw_okq (⟨"TwoViewsModel", "hiddenFill", "(III)I"⟩, 27) := ⟨⟨by decide +kernel, by decide +kernel⟩, List.mem_of_getElem? (i := 1103) (by decide +kernel), List.mem_of_getElem? (i := 1512) (by decide +kernel), List.mem_of_getElem? (i := 1513) (by decide +kernel)⟩
theorem lw_p89 : lw_okq (⟨"TwoViewsModel", "nearestSure", "(IIIII)I"⟩, 27) := ⟨⟨by decide +kernel, by decide +kernel⟩, List.mem_of_getElem? (i := 1103) (by decide +kernel), List.mem_of_getElem? (i := 1516) (by decide +kernel), List.mem_of_getElem? (i := 1517) (by decide +kernel)⟩
theorem lw_p90 : lw_okq (⟨"TwoViewsModel", "unlikeFill", "(III)I"⟩, 27) := ⟨⟨by decide +kernel, by decide +kernel⟩, List.mem_of_getElem? (i := 1103) (by decide +kernel), List.mem_of_getElem? (i := 1520) (by decide +kernel), List.mem_of_getElem? (i := 1521) (by decide +kernel)⟩
theorem lw_p91 : lw_okq (⟨"TwoViewsModel", "votesFor", "(II)I"⟩, 27) := ⟨⟨by decide +kernel, by decide +kernel⟩, List.mem_of_getElem? (i := 1103) (by decide +kernel), List.mem_of_getElem? (i := 1537) (by decide +kernel), List.mem_of_getElem? (i := 1538) (by decide +kernel)⟩
theorem lw_p92 : lw_okq (⟨"TwoViewsModel", "betweenAt", "(III)I"⟩, 27) := ⟨⟨by decide +kernel, by decide +kernel⟩, List.mem_of_getElem? (i := 1103) (by decide +kernel), List.mem_of_getElem? (i := 1549) (by decide +kernel), List.mem_of_getElem? (i := 1550) (by decide +kernel)⟩
theorem lw_p93 : lw_okq (⟨"TwoViewsModel", "comesTo", "(IIII)I"⟩, 27) := ⟨⟨by decide +kernel, by decide +kernel⟩, List.mem_of_getElem? (i := 1103) (by decide +kernel), List.mem_of_getElem? (i := 1553) (by decide +kernel), List.mem_of_getElem? (i := 1554) (by decide +kernel)⟩
theorem lw_p94 : lw_okq (⟨"TwoViewsModel", "laysRow", "(I)I"⟩, 27) := ⟨⟨by decide +kernel, by decide +kernel⟩, List.mem_of_getElem? (i := 1103) (by decide +kernel), List.mem_of_getElem? (i := 1565) (by decide +kernel), List.mem_of_getElem? (i := 1566) (by decide +kernel)⟩
theorem lw_p95 : lw_okq (⟨"TwoViewsModel", "stepCost", "(II)I"⟩, 27) := ⟨⟨by decide +kernel, by decide +kernel⟩, List.mem_of_getElem? (i := 1103) (by decide +kernel), List.mem_of_getElem? (i := 1569) (by decide +kernel), List.mem_of_getElem? (i := 1570) (by decide +kernel)⟩
def lw_privs_6 : List (MethodName × Nat) := [(⟨"TwoViewsModel", "lowers", "(IIIII)Z"⟩, 27), (⟨"TwoViewsModel", "hang", "(IIIII)Z"⟩, 27), (⟨"TwoViewsModel", "kindNow", "(III)I"⟩, 27), (⟨"TwoViewsModel", "manyAt", "(III)I"⟩, 27), (⟨"TwoViewsModel", "isKept", "(I)Z"⟩, 27), (⟨"TwoViewsModel", "aheadOf", "(II)I"⟩, 27), (⟨"TwoViewsModel", "tellsPiece", "(III)I"⟩, 27), (⟨"TwoViewsModel", "laysFills", "()V"⟩, 27), (⟨"TwoViewsModel", "hiddenFill", "(III)I"⟩, 27), (⟨"TwoViewsModel", "nearestSure", "(IIIII)I"⟩, 27), (⟨"TwoViewsModel", "unlikeFill", "(III)I"⟩, 27), (⟨"TwoViewsModel", "votesFor", "(II)I"⟩, 27), (⟨"TwoViewsModel", "betweenAt", "(III)I"⟩, 27), (⟨"TwoViewsModel", "comesTo", "(IIII)I"⟩, 27), (⟨"TwoViewsModel", "laysRow", "(I)I"⟩, 27), (⟨"TwoViewsModel", "stepCost", "(II)I"⟩, 27)]
theorem lw_r6 : ∀ q ∈ lw_privs_6, lw_okq q := List.forall_mem_cons.mpr ⟨lw_p80, List.forall_mem_cons.mpr ⟨lw_p81, List.forall_mem_cons.mpr ⟨lw_p82, List.forall_mem_cons.mpr ⟨lw_p83, List.forall_mem_cons.mpr ⟨lw_p84, List.forall_mem_cons.mpr ⟨lw_p85, List.forall_mem_cons.mpr ⟨lw_p86, List.forall_mem_cons.mpr ⟨lw_p87, List.forall_mem_cons.mpr ⟨lw_p88, List.forall_mem_cons.mpr ⟨lw_p89, List.forall_mem_cons.mpr ⟨lw_p90, List.forall_mem_cons.mpr ⟨lw_p91, List.forall_mem_cons.mpr ⟨lw_p92, List.forall_mem_cons.mpr ⟨lw_p93, List.forall_mem_cons.mpr ⟨lw_p94, List.forall_mem_cons.mpr ⟨lw_p95, fun _ h => absurd h List.not_mem_nil⟩⟩⟩⟩⟩⟩⟩⟩⟩⟩⟩⟩⟩⟩⟩⟩
theorem lw_p96 : lw_okq (⟨"TwoViewsModel", "energyOf", "([I)I"⟩, 27) := ⟨⟨by decide +kernel, by decide +kernel⟩, List.mem_of_getElem? (i := 1103) (by decide +kernel), List.mem_of_getElem? (i := 1577) (by decide +kernel), List.mem_of_getElem? (i := 1578) (by decide +kernel)⟩
def lw_privs_7 : List (MethodName × Nat) := [(⟨"TwoViewsModel", "energyOf", "([I)I"⟩, 27)]
theorem lw_r7 : ∀ q ∈ lw_privs_7, lw_okq q := List.forall_mem_cons.mpr ⟨lw_p96, fun _ h => absurd h List.not_mem_nil⟩
def lw_privs : List (MethodName × Nat) := lw_privs_1 ++ (lw_privs_2 ++ (lw_privs_3 ++ (lw_privs_4 ++ (lw_privs_5 ++ (lw_privs_6 ++ (lw_privs_7))))))
def lw_tbl : List Cond := k2_sels lw_privs ++ tables_1
theorem lw_privs_ok : ∀ q ∈ lw_privs, lw_okq q := by
  show ∀ q ∈ lw_privs_1 ++ (lw_privs_2 ++ (lw_privs_3 ++ (lw_privs_4 ++ (lw_privs_5 ++ (lw_privs_6 ++ (lw_privs_7)))))), lw_okq q
  exact List.forall_mem_append.mpr ⟨lw_r1, List.forall_mem_append.mpr ⟨lw_r2, List.forall_mem_append.mpr ⟨lw_r3, List.forall_mem_append.mpr ⟨lw_r4, List.forall_mem_append.mpr ⟨lw_r5, List.forall_mem_append.mpr ⟨lw_r6, lw_r7⟩⟩⟩⟩⟩⟩
def RX0 : String := "TwoViews$Image"
def TX0 : u_T := fun k => match k with
  | 0 => ("TwoViews$Image", "made", "Z", false)
  | 1 => ("TwoViews$Image", "scene", "LTwoViews$Scene;", true)
  | _ => ("TwoViews$Image", "layers", "LTwoViews$Layers;", true)
def tyX0 : Nat → FieldType := fun k => match k with
  | 0 => .boolean
  | 1 => .object "TwoViews$Scene"
  | _ => .object "TwoViews$Layers"
abbrev wsX00 : List Cond := u_ws RX0 TX0 3
theorem nmX0 : ∀ a, a < 3 → ∀ b, b < 3 → a ≠ b → (TX0 a).2.1 ≠ (TX0 b).2.1 := by decide +kernel
theorem tyX0_ok : ∀ k, k < 3 → parseFieldDescriptor (TX0 k).2.2.1 = some (tyX0 k) := by decide +kernel
abbrev cX0_init : ByteArray := prog_2_method_1_code
def yX0_init : MethodName := ⟨RX0, "<init>", "()V"⟩
def RX1 : String := "TwoViews$Layers"
def TX1 : u_T := fun k => match k with
  | 0 => ("TwoViews$Layers", "held", "I", false)
  | 1 => ("TwoViews$Layers", "x", "[I", true)
  | 2 => ("TwoViews$Layers", "y", "[I", true)
  | 3 => ("TwoViews$Layers", "w", "[I", true)
  | 4 => ("TwoViews$Layers", "h", "[I", true)
  | 5 => ("TwoViews$Layers", "shift", "[I", true)
  | _ => ("TwoViews$Layers", "seed", "[I", true)
def tyX1 : Nat → FieldType := fun k => match k with
  | 0 => .int
  | 1 => .array .int
  | 2 => .array .int
  | 3 => .array .int
  | 4 => .array .int
  | 5 => .array .int
  | _ => .array .int
abbrev wsX10 : List Cond := u_ws RX1 TX1 7
theorem nmX1 : ∀ a, a < 7 → ∀ b, b < 7 → a ≠ b → (TX1 a).2.1 ≠ (TX1 b).2.1 := by decide +kernel
theorem tyX1_ok : ∀ k, k < 7 → parseFieldDescriptor (TX1 k).2.2.1 = some (tyX1 k) := by decide +kernel
abbrev cX1_init : ByteArray := prog_3_method_1_code
def yX1_init : MethodName := ⟨RX1, "<init>", "()V"⟩
abbrev cX1_become : ByteArray := prog_3_method_2_code
def yX1_become : MethodName := ⟨RX1, "become", "(LTwoViews$Layers;)V"⟩
abbrev cX1_leftEdge : ByteArray := prog_3_method_3_code
def yX1_leftEdge : MethodName := ⟨RX1, "leftEdge", "(II)I"⟩
abbrev cX1_seenAt : ByteArray := prog_3_method_4_code
def yX1_seenAt : MethodName := ⟨RX1, "seenAt", "(III)I"⟩
abbrev cX1_textureAt : ByteArray := prog_3_method_5_code
def yX1_textureAt : MethodName := ⟨RX1, "textureAt", "(IIII)I"⟩
abbrev cX1_isCovered : ByteArray := prog_3_method_6_code
def yX1_isCovered : MethodName := ⟨RX1, "isCovered", "(III)Z"⟩
def RX2 : String := "TwoViews$Lines"
def TX2 : u_T := fun k => match k with
  | 0 => ("TwoViews$Lines", "scene", "LTwoViews$Scene;", true)
  | 1 => ("TwoViews$Lines", "maps", "LTwoViews$Maps;", true)
  | _ => ("TwoViews$Lines", "inRow", "[I", true)
def tyX2 : Nat → FieldType := fun k => match k with
  | 0 => .object "TwoViews$Scene"
  | 1 => .object "TwoViews$Maps"
  | _ => .array .int
abbrev wsX20 : List Cond := u_ws RX2 TX2 3
theorem nmX2 : ∀ a, a < 3 → ∀ b, b < 3 → a ≠ b → (TX2 a).2.1 ≠ (TX2 b).2.1 := by decide +kernel
theorem tyX2_ok : ∀ k, k < 3 → parseFieldDescriptor (TX2 k).2.2.1 = some (tyX2 k) := by decide +kernel
abbrev cX2_init : ByteArray := prog_4_method_1_code
def yX2_init : MethodName := ⟨RX2, "<init>", "(LTwoViews$Scene;LTwoViews$Maps;)V"⟩
abbrev cX2_gather : ByteArray := prog_4_method_2_code
def yX2_gather : MethodName := ⟨RX2, "gather", "()I"⟩
abbrev cX2_votesFor : ByteArray := prog_4_method_3_code
def yX2_votesFor : MethodName := ⟨RX2, "votesFor", "(II)I"⟩
abbrev cX2_bestLine : ByteArray := prog_4_method_4_code
def yX2_bestLine : MethodName := ⟨RX2, "bestLine", "(I)I"⟩
def RX3 : String := "TwoViews$Maps"
def TX3 : u_T := fun k => match k with
  | 0 => ("TwoViews$Maps", "shifts", "[I", true)
  | 1 => ("TwoViews$Maps", "kinds", "[I", true)
  | 2 => ("TwoViews$Maps", "filled", "[I", true)
  | 3 => ("TwoViews$Maps", "scene", "LTwoViews$Scene;", true)
  | 4 => ("TwoViews$Maps", "matcher", "LTwoViews$Matcher;", true)
  | _ => ("TwoViews$Maps", "found", "[I", true)
def tyX3 : Nat → FieldType := fun k => match k with
  | 0 => .array .int
  | 1 => .array .int
  | 2 => .array .int
  | 3 => .object "TwoViews$Scene"
  | 4 => .object "TwoViews$Matcher"
  | _ => .array .int
abbrev wsX30 : List Cond := u_ws RX3 TX3 6
theorem nmX3 : ∀ a, a < 6 → ∀ b, b < 6 → a ≠ b → (TX3 a).2.1 ≠ (TX3 b).2.1 := by decide +kernel
theorem tyX3_ok : ∀ k, k < 6 → parseFieldDescriptor (TX3 k).2.2.1 = some (tyX3 k) := by decide +kernel
abbrev cX3_init : ByteArray := prog_5_method_1_code
def yX3_init : MethodName := ⟨RX3, "<init>", "(LTwoViews$Scene;LTwoViews$Matcher;)V"⟩
abbrev cX3_makeShifts : ByteArray := prog_5_method_2_code
def yX3_makeShifts : MethodName := ⟨RX3, "makeShifts", "()V"⟩
abbrev cX3_bestOfLeft : ByteArray := prog_5_method_3_code
def yX3_bestOfLeft : MethodName := ⟨RX3, "bestOfLeft", "(II)I"⟩
abbrev cX3_bestOfRight : ByteArray := prog_5_method_4_code
def yX3_bestOfRight : MethodName := ⟨RX3, "bestOfRight", "(II)I"⟩
abbrev cX3_marginAt : ByteArray := prog_5_method_5_code
def yX3_marginAt : MethodName := ⟨RX3, "marginAt", "(II)I"⟩
abbrev cX3_fineAt : ByteArray := prog_5_method_6_code
def yX3_fineAt : MethodName := ⟨RX3, "fineAt", "(II)I"⟩
abbrev cX3_makeKinds : ByteArray := prog_5_method_7_code
def yX3_makeKinds : MethodName := ⟨RX3, "makeKinds", "()V"⟩
abbrev cX3_kindBySight : ByteArray := prog_5_method_8_code
def yX3_kindBySight : MethodName := ⟨RX3, "kindBySight", "(III)I"⟩
abbrev cX3_shiftSeen : ByteArray := prog_5_method_9_code
def yX3_shiftSeen : MethodName := ⟨RX3, "shiftSeen", "(IIII)I"⟩
abbrev cX3_howManyOf : ByteArray := prog_5_method_10_code
def yX3_howManyOf : MethodName := ⟨RX3, "howManyOf", "(II)I"⟩
abbrev cX3_makeFilled : ByteArray := prog_5_method_11_code
def yX3_makeFilled : MethodName := ⟨RX3, "makeFilled", "()V"⟩
abbrev cX3_fillingOf : ByteArray := prog_5_method_12_code
def yX3_fillingOf : MethodName := ⟨RX3, "fillingOf", "(III)I"⟩
abbrev cX3_lesserBeside : ByteArray := prog_5_method_13_code
def yX3_lesserBeside : MethodName := ⟨RX3, "lesserBeside", "(III)I"⟩
abbrev cX3_middleAround : ByteArray := prog_5_method_14_code
def yX3_middleAround : MethodName := ⟨RX3, "middleAround", "(III)I"⟩
abbrev cX3_nearestSure : ByteArray := prog_5_method_15_code
def yX3_nearestSure : MethodName := ⟨RX3, "nearestSure", "(IIII)I"⟩
abbrev cX3_valueBetween : ByteArray := prog_5_method_16_code
def yX3_valueBetween : MethodName := ⟨RX3, "valueBetween", "(III)I"⟩
abbrev cX3_comesFrom : ByteArray := prog_5_method_17_code
def yX3_comesFrom : MethodName := ⟨RX3, "comesFrom", "(IIII)I"⟩
abbrev cX3_quarters : ByteArray := prog_5_method_18_code
def yX3_quarters : MethodName := ⟨RX3, "quarters", "(II)I"⟩
abbrev cX3_priceOf : ByteArray := prog_5_method_19_code
def yX3_priceOf : MethodName := ⟨RX3, "priceOf", "([I)I"⟩
def RX4 : String := "TwoViews$Matcher"
def TX4 : u_T := fun k => match k with
  | 0 => ("TwoViews$Matcher", "codes", "[I", true)
  | 1 => ("TwoViews$Matcher", "costs", "[I", true)
  | 2 => ("TwoViews$Matcher", "sums", "[I", true)
  | 3 => ("TwoViews$Matcher", "told", "[I", true)
  | 4 => ("TwoViews$Matcher", "scene", "LTwoViews$Scene;", true)
  | _ => ("TwoViews$Matcher", "toldWay", "I", false)
def tyX4 : Nat → FieldType := fun k => match k with
  | 0 => .array .int
  | 1 => .array .int
  | 2 => .array .int
  | 3 => .array .int
  | 4 => .object "TwoViews$Scene"
  | _ => .int
abbrev wsX40 : List Cond := u_ws RX4 TX4 6
theorem nmX4 : ∀ a, a < 6 → ∀ b, b < 6 → a ≠ b → (TX4 a).2.1 ≠ (TX4 b).2.1 := by decide +kernel
theorem tyX4_ok : ∀ k, k < 6 → parseFieldDescriptor (TX4 k).2.2.1 = some (tyX4 k) := by decide +kernel
abbrev cX4_init : ByteArray := prog_6_method_1_code
def yX4_init : MethodName := ⟨RX4, "<init>", "(LTwoViews$Scene;)V"⟩
abbrev cX4_makeCodes : ByteArray := prog_6_method_2_code
def yX4_makeCodes : MethodName := ⟨RX4, "makeCodes", "()V"⟩
abbrev cX4_codeBits : ByteArray := prog_6_method_3_code
def yX4_codeBits : MethodName := ⟨RX4, "codeBits", "(III)I"⟩
abbrev cX4_nearest : ByteArray := prog_6_method_4_code
def yX4_nearest : MethodName := ⟨RX4, "nearest", "(II)I"⟩
abbrev cX4_makeCosts : ByteArray := prog_6_method_5_code
def yX4_makeCosts : MethodName := ⟨RX4, "makeCosts", "()V"⟩
abbrev cX4_unlikeBits : ByteArray := prog_6_method_6_code
def yX4_unlikeBits : MethodName := ⟨RX4, "unlikeBits", "(III)I"⟩
abbrev cX4_howOften : ByteArray := prog_6_method_7_code
def yX4_howOften : MethodName := ⟨RX4, "howOften", "(II)I"⟩
abbrev cX4_unlikeCodes : ByteArray := prog_6_method_8_code
def yX4_unlikeCodes : MethodName := ⟨RX4, "unlikeCodes", "(I)I"⟩
abbrev cX4_wasBefore : ByteArray := prog_6_method_9_code
def yX4_wasBefore : MethodName := ⟨RX4, "wasBefore", "(III)Z"⟩
abbrev cX4_forgetWay : ByteArray := prog_6_method_10_code
def yX4_forgetWay : MethodName := ⟨RX4, "forgetWay", "()V"⟩
abbrev cX4_makeSums : ByteArray := prog_6_method_11_code
def yX4_makeSums : MethodName := ⟨RX4, "makeSums", "()V"⟩
abbrev cX4_addTold : ByteArray := prog_6_method_12_code
def yX4_addTold : MethodName := ⟨RX4, "addTold", "()V"⟩
abbrev cX4_tell : ByteArray := prog_6_method_13_code
def yX4_tell : MethodName := ⟨RX4, "tell", "(I)V"⟩
abbrev cX4_begin : ByteArray := prog_6_method_14_code
def yX4_begin : MethodName := ⟨RX4, "begin", "(I)V"⟩
abbrev cX4_goOn : ByteArray := prog_6_method_15_code
def yX4_goOn : MethodName := ⟨RX4, "goOn", "(II)V"⟩
def RX5 : String := "TwoViews$Past"
def TX5 : u_T := fun k => match k with
  | 0 => ("TwoViews$Past", "held", "I", false)
  | 1 => ("TwoViews$Past", "next", "I", false)
  | _ => ("TwoViews$Past", "kept", "[LTwoViews$Scene;", true)
def tyX5 : Nat → FieldType := fun k => match k with
  | 0 => .int
  | 1 => .int
  | _ => .array (.object "TwoViews$Scene")
abbrev wsX50 : List Cond := u_ws RX5 TX5 3
theorem nmX5 : ∀ a, a < 3 → ∀ b, b < 3 → a ≠ b → (TX5 a).2.1 ≠ (TX5 b).2.1 := by decide +kernel
theorem tyX5_ok : ∀ k, k < 3 → parseFieldDescriptor (TX5 k).2.2.1 = some (tyX5 k) := by decide +kernel
abbrev cX5_init : ByteArray := prog_7_method_1_code
def yX5_init : MethodName := ⟨RX5, "<init>", "()V"⟩
abbrev cX5_keep : ByteArray := prog_7_method_2_code
def yX5_keep : MethodName := ⟨RX5, "keep", "(LTwoViews$Scene;)V"⟩
abbrev cX5_giveBack : ByteArray := prog_7_method_3_code
def yX5_giveBack : MethodName := ⟨RX5, "giveBack", "(LTwoViews$Scene;)V"⟩
def RX6 : String := "TwoViews$Pieces"
def TX6 : u_T := fun k => match k with
  | 0 => ("TwoViews$Pieces", "scene", "LTwoViews$Scene;", true)
  | 1 => ("TwoViews$Pieces", "maps", "LTwoViews$Maps;", true)
  | 2 => ("TwoViews$Pieces", "pieceOf", "[I", true)
  | 3 => ("TwoViews$Pieces", "sizes", "[I", true)
  | 4 => ("TwoViews$Pieces", "made", "[I", true)
  | 5 => ("TwoViews$Pieces", "waiting", "[I", true)
  | _ => ("TwoViews$Pieces", "waits", "I", false)
def tyX6 : Nat → FieldType := fun k => match k with
  | 0 => .object "TwoViews$Scene"
  | 1 => .object "TwoViews$Maps"
  | 2 => .array .int
  | 3 => .array .int
  | 4 => .array .int
  | 5 => .array .int
  | _ => .int
abbrev wsX60 : List Cond := u_ws RX6 TX6 7
theorem nmX6 : ∀ a, a < 7 → ∀ b, b < 7 → a ≠ b → (TX6 a).2.1 ≠ (TX6 b).2.1 := by decide +kernel
theorem tyX6_ok : ∀ k, k < 7 → parseFieldDescriptor (TX6 k).2.2.1 = some (tyX6 k) := by decide +kernel
abbrev cX6_init : ByteArray := prog_8_method_1_code
def yX6_init : MethodName := ⟨RX6, "<init>", "(LTwoViews$Scene;LTwoViews$Maps;)V"⟩
abbrev cX6_makePieces : ByteArray := prog_8_method_2_code
def yX6_makePieces : MethodName := ⟨RX6, "makePieces", "(I)V"⟩
abbrev cX6_grow : ByteArray := prog_8_method_3_code
def yX6_grow : MethodName := ⟨RX6, "grow", "(III)V"⟩
abbrev cX6_join : ByteArray := prog_8_method_4_code
def yX6_join : MethodName := ⟨RX6, "join", "(IIII)V"⟩
abbrev cX6_lookAround : ByteArray := prog_8_method_5_code
def yX6_lookAround : MethodName := ⟨RX6, "lookAround", "(III)V"⟩
abbrev cX6_isFree : ByteArray := prog_8_method_6_code
def yX6_isFree : MethodName := ⟨RX6, "isFree", "(II)Z"⟩
abbrev cX6_dropSmall : ByteArray := prog_8_method_7_code
def yX6_dropSmall : MethodName := ⟨RX6, "dropSmall", "(I)V"⟩
abbrev cX6_stays : ByteArray := prog_8_method_8_code
def yX6_stays : MethodName := ⟨RX6, "stays", "(II)Z"⟩
abbrev cX6_sizeAt : ByteArray := prog_8_method_9_code
def yX6_sizeAt : MethodName := ⟨RX6, "sizeAt", "(II)I"⟩
abbrev cX6_howManyStay : ByteArray := prog_8_method_10_code
def yX6_howManyStay : MethodName := ⟨RX6, "howManyStay", "(I)I"⟩
abbrev cX6_greatest : ByteArray := prog_8_method_11_code
def yX6_greatest : MethodName := ⟨RX6, "greatest", "(I)I"⟩
abbrev cX6_ranked : ByteArray := prog_8_method_12_code
def yX6_ranked : MethodName := ⟨RX6, "ranked", "(II)I"⟩
abbrev cX6_howManyBefore : ByteArray := prog_8_method_13_code
def yX6_howManyBefore : MethodName := ⟨RX6, "howManyBefore", "(II)I"⟩
abbrev cX6_tellOf : ByteArray := prog_8_method_14_code
def yX6_tellOf : MethodName := ⟨RX6, "tellOf", "(III)I"⟩
def RX7 : String := "TwoViews$Reader"
def TX7 : u_T := fun k => match k with
  | 0 => ("TwoViews$Reader", "told", "LTwoViews$Scene;", true)
  | 1 => ("TwoViews$Reader", "tape", "LTwoViews$Tape;", true)
  | 2 => ("TwoViews$Reader", "end", "I", false)
  | 3 => ("TwoViews$Reader", "start", "I", false)
  | 4 => ("TwoViews$Reader", "stop", "I", false)
  | _ => ("TwoViews$Reader", "fault", "I", false)
def tyX7 : Nat → FieldType := fun k => match k with
  | 0 => .object "TwoViews$Scene"
  | 1 => .object "TwoViews$Tape"
  | 2 => .int
  | 3 => .int
  | 4 => .int
  | _ => .int
abbrev wsX70 : List Cond := u_ws RX7 TX7 6
theorem nmX7 : ∀ a, a < 6 → ∀ b, b < 6 → a ≠ b → (TX7 a).2.1 ≠ (TX7 b).2.1 := by decide +kernel
theorem tyX7_ok : ∀ k, k < 6 → parseFieldDescriptor (TX7 k).2.2.1 = some (tyX7 k) := by decide +kernel
abbrev cX7_init : ByteArray := prog_9_method_1_code
def yX7_init : MethodName := ⟨RX7, "<init>", "(LTwoViews$Tape;)V"⟩
abbrev cX7_readText : ByteArray := prog_9_method_2_code
def yX7_readText : MethodName := ⟨RX7, "readText", "(ILTwoViews$Scene;)I"⟩
abbrev cX7_takeDefaults : ByteArray := prog_9_method_3_code
def yX7_takeDefaults : MethodName := ⟨RX7, "takeDefaults", "(LTwoViews$Scene;)V"⟩
abbrev cX7_takeSize : ByteArray := prog_9_method_4_code
def yX7_takeSize : MethodName := ⟨RX7, "takeSize", "()V"⟩
abbrev cX7_takeLine : ByteArray := prog_9_method_5_code
def yX7_takeLine : MethodName := ⟨RX7, "takeLine", "()V"⟩
abbrev cX7_takeDial : ByteArray := prog_9_method_6_code
def yX7_takeDial : MethodName := ⟨RX7, "takeDial", "(I)V"⟩
abbrev cX7_takePenalties : ByteArray := prog_9_method_7_code
def yX7_takePenalties : MethodName := ⟨RX7, "takePenalties", "()V"⟩
abbrev cX7_takeRow : ByteArray := prog_9_method_8_code
def yX7_takeRow : MethodName := ⟨RX7, "takeRow", "(I)V"⟩
abbrev cX7_takeNumber : ByteArray := prog_9_method_9_code
def yX7_takeNumber : MethodName := ⟨RX7, "takeNumber", "(II)I"⟩
abbrev cX7_numberTold : ByteArray := prog_9_method_10_code
def yX7_numberTold : MethodName := ⟨RX7, "numberTold", "()I"⟩
abbrev cX7_advance : ByteArray := prog_9_method_11_code
def yX7_advance : MethodName := ⟨RX7, "advance", "()V"⟩
abbrev cX7_isToken : ByteArray := prog_9_method_12_code
def yX7_isToken : MethodName := ⟨RX7, "isToken", "(Ljava/lang/String;)Z"⟩
abbrev cX7_fail : ByteArray := prog_9_method_13_code
def yX7_fail : MethodName := ⟨RX7, "fail", "(II)V"⟩
abbrev cX7_isBlank : ByteArray := prog_9_method_14_code
def yX7_isBlank : MethodName := ⟨RX7, "isBlank", "(I)Z"⟩
abbrev cX7_isDigit : ByteArray := prog_9_method_15_code
def yX7_isDigit : MethodName := ⟨RX7, "isDigit", "(I)Z"⟩
abbrev cX7_isWordSign : ByteArray := prog_9_method_16_code
def yX7_isWordSign : MethodName := ⟨RX7, "isWordSign", "(I)Z"⟩
abbrev cX7_valueOf : ByteArray := prog_9_method_17_code
def yX7_valueOf : MethodName := ⟨RX7, "valueOf", "(I)I"⟩
def RX8 : String := "TwoViews$RowChoice"
def TX8 : u_T := fun k => match k with
  | 0 => ("TwoViews$RowChoice", "chosen", "[I", true)
  | 1 => ("TwoViews$RowChoice", "scene", "LTwoViews$Scene;", true)
  | 2 => ("TwoViews$RowChoice", "matcher", "LTwoViews$Matcher;", true)
  | _ => ("TwoViews$RowChoice", "totals", "[I", true)
def tyX8 : Nat → FieldType := fun k => match k with
  | 0 => .array .int
  | 1 => .object "TwoViews$Scene"
  | 2 => .object "TwoViews$Matcher"
  | _ => .array .int
abbrev wsX80 : List Cond := u_ws RX8 TX8 4
theorem nmX8 : ∀ a, a < 4 → ∀ b, b < 4 → a ≠ b → (TX8 a).2.1 ≠ (TX8 b).2.1 := by decide +kernel
theorem tyX8_ok : ∀ k, k < 4 → parseFieldDescriptor (TX8 k).2.2.1 = some (tyX8 k) := by decide +kernel
abbrev cX8_init : ByteArray := prog_10_method_1_code
def yX8_init : MethodName := ⟨RX8, "<init>", "(LTwoViews$Scene;LTwoViews$Matcher;)V"⟩
abbrev cX8_choose : ByteArray := prog_10_method_2_code
def yX8_choose : MethodName := ⟨RX8, "choose", "(I)I"⟩
abbrev cX8_bestBefore : ByteArray := prog_10_method_3_code
def yX8_bestBefore : MethodName := ⟨RX8, "bestBefore", "(II)I"⟩
abbrev cX8_priceBefore : ByteArray := prog_10_method_4_code
def yX8_priceBefore : MethodName := ⟨RX8, "priceBefore", "(III)I"⟩
def RX9 : String := "TwoViews$Scene"
def TX9 : u_T := fun k => match k with
  | 0 => ("TwoViews$Scene", "w", "I", false)
  | 1 => ("TwoViews$Scene", "h", "I", false)
  | 2 => ("TwoViews$Scene", "dials", "[I", true)
  | _ => ("TwoViews$Scene", "values", "[I", true)
def tyX9 : Nat → FieldType := fun k => match k with
  | 0 => .int
  | 1 => .int
  | 2 => .array .int
  | _ => .array .int
abbrev wsX90 : List Cond := u_ws RX9 TX9 4
theorem nmX9 : ∀ a, a < 4 → ∀ b, b < 4 → a ≠ b → (TX9 a).2.1 ≠ (TX9 b).2.1 := by decide +kernel
theorem tyX9_ok : ∀ k, k < 4 → parseFieldDescriptor (TX9 k).2.2.1 = some (tyX9 k) := by decide +kernel
abbrev cX9_init : ByteArray := prog_11_method_1_code
def yX9_init : MethodName := ⟨RX9, "<init>", "()V"⟩
abbrev cX9_become : ByteArray := prog_11_method_2_code
def yX9_become : MethodName := ⟨RX9, "become", "(LTwoViews$Scene;)V"⟩
abbrev cX9_blank : ByteArray := prog_11_method_3_code
def yX9_blank : MethodName := ⟨RX9, "blank", "(II)V"⟩
abbrev cX9_hasSpot : ByteArray := prog_11_method_4_code
def yX9_hasSpot : MethodName := ⟨RX9, "hasSpot", "(II)Z"⟩
abbrev cX9_has : ByteArray := prog_11_method_5_code
def yX9_has : MethodName := ⟨RX9, "has", "(III)Z"⟩
abbrev cX9_isShift : ByteArray := prog_11_method_6_code
def yX9_isShift : MethodName := ⟨RX9, "isShift", "(I)Z"⟩
abbrev cX9_mayTune : ByteArray := prog_11_method_7_code
def yX9_mayTune : MethodName := ⟨RX9, "mayTune", "(II)Z"⟩
abbrev cX9_bits : ByteArray := prog_11_method_8_code
def yX9_bits : MethodName := ⟨RX9, "bits", "()I"⟩
abbrev cX9_stepPrice : ByteArray := prog_11_method_9_code
def yX9_stepPrice : MethodName := ⟨RX9, "stepPrice", "(II)I"⟩
def RX10 : String := "TwoViews$Tape"
def TX10 : u_T := fun k => match k with
  | 0 => ("TwoViews$Tape", "length", "I", false)
  | _ => ("TwoViews$Tape", "bytes", "[B", true)
def tyX10 : Nat → FieldType := fun k => match k with
  | 0 => .int
  | _ => .array .byte
abbrev wsX100 : List Cond := u_ws RX10 TX10 2
theorem nmX10 : ∀ a, a < 2 → ∀ b, b < 2 → a ≠ b → (TX10 a).2.1 ≠ (TX10 b).2.1 := by decide +kernel
theorem tyX10_ok : ∀ k, k < 2 → parseFieldDescriptor (TX10 k).2.2.1 = some (tyX10 k) := by decide +kernel
abbrev cX10_init : ByteArray := prog_12_method_1_code
def yX10_init : MethodName := ⟨RX10, "<init>", "()V"⟩
abbrev cX10_hasRoomFor : ByteArray := prog_12_method_2_code
def yX10_hasRoomFor : MethodName := ⟨RX10, "hasRoomFor", "(I)Z"⟩
abbrev cX10_append : ByteArray := prog_12_method_3_code
def yX10_append : MethodName := ⟨RX10, "append", "(I)V"⟩
abbrev cX10_signAt : ByteArray := prog_12_method_4_code
def yX10_signAt : MethodName := ⟨RX10, "signAt", "(I)I"⟩
def RX11 : String := "TwoViews"
def TX11 : u_T := fun k => match k with
  | 0 => ("TwoViews", "scene", "LTwoViews$Scene;", true)
  | 1 => ("TwoViews", "layers", "LTwoViews$Layers;", true)
  | 2 => ("TwoViews", "tape", "LTwoViews$Tape;", true)
  | 3 => ("TwoViews", "reader", "LTwoViews$Reader;", true)
  | 4 => ("TwoViews", "past", "LTwoViews$Past;", true)
  | 5 => ("TwoViews", "images", "[LTwoViews$Image;", true)
  | 6 => ("TwoViews", "matcher", "LTwoViews$Matcher;", true)
  | 7 => ("TwoViews", "maps", "LTwoViews$Maps;", true)
  | 8 => ("TwoViews", "parts", "LTwoViews$Pieces;", true)
  | 9 => ("TwoViews", "rowChoice", "LTwoViews$RowChoice;", true)
  | 10 => ("TwoViews", "lines", "LTwoViews$Lines;", true)
  | _ => ("TwoViews", "stage", "I", false)
def tyX11 : Nat → FieldType := fun k => match k with
  | 0 => .object "TwoViews$Scene"
  | 1 => .object "TwoViews$Layers"
  | 2 => .object "TwoViews$Tape"
  | 3 => .object "TwoViews$Reader"
  | 4 => .object "TwoViews$Past"
  | 5 => .array (.object "TwoViews$Image")
  | 6 => .object "TwoViews$Matcher"
  | 7 => .object "TwoViews$Maps"
  | 8 => .object "TwoViews$Pieces"
  | 9 => .object "TwoViews$RowChoice"
  | 10 => .object "TwoViews$Lines"
  | _ => .int
abbrev wsX110 : List Cond := u_ws RX11 TX11 12
theorem nmX11 : ∀ a, a < 12 → ∀ b, b < 12 → a ≠ b → (TX11 a).2.1 ≠ (TX11 b).2.1 := by decide +kernel
theorem tyX11_ok : ∀ k, k < 12 → parseFieldDescriptor (TX11 k).2.2.1 = some (tyX11 k) := by decide +kernel
abbrev cX11_init : ByteArray := prog_1_method_1_code
def yX11_init : MethodName := ⟨RX11, "<init>", "()V"⟩
abbrev cX11_feed : ByteArray := prog_1_method_2_code
def yX11_feed : MethodName := ⟨RX11, "feed", "(IIIII)I"⟩
abbrev cX11_text : ByteArray := prog_1_method_3_code
def yX11_text : MethodName := ⟨RX11, "text", "(I)I"⟩
abbrev cX11_size : ByteArray := prog_1_method_4_code
def yX11_size : MethodName := ⟨RX11, "size", "(II)Z"⟩
abbrev cX11_value : ByteArray := prog_1_method_5_code
def yX11_value : MethodName := ⟨RX11, "value", "(IIII)I"⟩
abbrev cX11_tune : ByteArray := prog_1_method_6_code
def yX11_tune : MethodName := ⟨RX11, "tune", "(II)I"⟩
abbrev cX11_layer : ByteArray := prog_1_method_7_code
def yX11_layer : MethodName := ⟨RX11, "layer", "(IIIIII)I"⟩
abbrev cX11_clear : ByteArray := prog_1_method_8_code
def yX11_clear : MethodName := ⟨RX11, "clear", "()I"⟩
abbrev cX11_draw : ByteArray := prog_1_method_9_code
def yX11_draw : MethodName := ⟨RX11, "draw", "()I"⟩
abbrev cX11_truth : ByteArray := prog_1_method_10_code
def yX11_truth : MethodName := ⟨RX11, "truth", "(III)I"⟩
abbrev cX11_at : ByteArray := prog_1_method_11_code
def yX11_at : MethodName := ⟨RX11, "at", "(III)I"⟩
abbrev cX11_code : ByteArray := prog_1_method_12_code
def yX11_code : MethodName := ⟨RX11, "code", "(III)I"⟩
abbrev cX11_same : ByteArray := prog_1_method_13_code
def yX11_same : MethodName := ⟨RX11, "same", "(III)I"⟩
abbrev cX11_codes : ByteArray := prog_1_method_14_code
def yX11_codes : MethodName := ⟨RX11, "codes", "(I)I"⟩
abbrev cX11_cost : ByteArray := prog_1_method_15_code
def yX11_cost : MethodName := ⟨RX11, "cost", "(III)I"⟩
abbrev cX11_path : ByteArray := prog_1_method_16_code
def yX11_path : MethodName := ⟨RX11, "path", "(IIII)I"⟩
abbrev cX11_sum : ByteArray := prog_1_method_17_code
def yX11_sum : MethodName := ⟨RX11, "sum", "(III)I"⟩
abbrev cX11_shift : ByteArray := prog_1_method_18_code
def yX11_shift : MethodName := ⟨RX11, "shift", "(III)I"⟩
abbrev cX11_margin : ByteArray := prog_1_method_19_code
def yX11_margin : MethodName := ⟨RX11, "margin", "(II)I"⟩
abbrev cX11_kind : ByteArray := prog_1_method_20_code
def yX11_kind : MethodName := ⟨RX11, "kind", "(III)I"⟩
abbrev cX11_kinds : ByteArray := prog_1_method_21_code
def yX11_kinds : MethodName := ⟨RX11, "kinds", "(II)I"⟩
abbrev cX11_piece : ByteArray := prog_1_method_22_code
def yX11_piece : MethodName := ⟨RX11, "piece", "(III)I"⟩
abbrev cX11_pieces : ByteArray := prog_1_method_23_code
def yX11_pieces : MethodName := ⟨RX11, "pieces", "(II)I"⟩
abbrev cX11_pieceAt : ByteArray := prog_1_method_24_code
def yX11_pieceAt : MethodName := ⟨RX11, "pieceAt", "(III)I"⟩
abbrev cX11_fine : ByteArray := prog_1_method_25_code
def yX11_fine : MethodName := ⟨RX11, "fine", "(II)I"⟩
abbrev cX11_ground : ByteArray := prog_1_method_26_code
def yX11_ground : MethodName := ⟨RX11, "ground", "(I)I"⟩
abbrev cX11_votes : ByteArray := prog_1_method_27_code
def yX11_votes : MethodName := ⟨RX11, "votes", "(II)I"⟩
abbrev cX11_between : ByteArray := prog_1_method_28_code
def yX11_between : MethodName := ⟨RX11, "between", "(III)I"⟩
abbrev cX11_holes : ByteArray := prog_1_method_29_code
def yX11_holes : MethodName := ⟨RX11, "holes", "(I)I"⟩
abbrev cX11_filled : ByteArray := prog_1_method_30_code
def yX11_filled : MethodName := ⟨RX11, "filled", "(III)I"⟩
abbrev cX11_depth : ByteArray := prog_1_method_31_code
def yX11_depth : MethodName := ⟨RX11, "depth", "(II)I"⟩
abbrev cX11_row : ByteArray := prog_1_method_32_code
def yX11_row : MethodName := ⟨RX11, "row", "(II)I"⟩
abbrev cX11_energy : ByteArray := prog_1_method_33_code
def yX11_energy : MethodName := ⟨RX11, "energy", "(I)I"⟩
abbrev cX11_wrong : ByteArray := prog_1_method_34_code
def yX11_wrong : MethodName := ⟨RX11, "wrong", "(II)I"⟩
abbrev cX11_undo : ByteArray := prog_1_method_35_code
def yX11_undo : MethodName := ⟨RX11, "undo", "()I"⟩
abbrev cX11_image : ByteArray := prog_1_method_36_code
def yX11_image : MethodName := ⟨RX11, "image", "(I)Z"⟩
abbrev cX11_back : ByteArray := prog_1_method_37_code
def yX11_back : MethodName := ⟨RX11, "back", "(I)Z"⟩
abbrev cX11_count : ByteArray := prog_1_method_38_code
def yX11_count : MethodName := ⟨RX11, "count", "(I)I"⟩
abbrev cX11_isWithin : ByteArray := prog_1_method_39_code
def yX11_isWithin : MethodName := ⟨RX11, "isWithin", "(III)Z"⟩
abbrev cX11_isView : ByteArray := prog_1_method_40_code
def yX11_isView : MethodName := ⟨RX11, "isView", "(I)Z"⟩
abbrev cX11_spotOf : ByteArray := prog_1_method_41_code
def yX11_spotOf : MethodName := ⟨RX11, "spotOf", "(III)I"⟩
abbrev cX11_cellOf : ByteArray := prog_1_method_42_code
def yX11_cellOf : MethodName := ⟨RX11, "cellOf", "(III)I"⟩
abbrev cX11_needPlace : ByteArray := prog_1_method_43_code
def yX11_needPlace : MethodName := ⟨RX11, "needPlace", "(III)V"⟩
abbrev cX11_beginAct : ByteArray := prog_1_method_44_code
def yX11_beginAct : MethodName := ⟨RX11, "beginAct", "(I)V"⟩
abbrev cX11_keepUpTo : ByteArray := prog_1_method_45_code
def yX11_keepUpTo : MethodName := ⟨RX11, "keepUpTo", "(I)V"⟩
abbrev cX11_reach : ByteArray := prog_1_method_46_code
def yX11_reach : MethodName := ⟨RX11, "reach", "(I)V"⟩
abbrev cX11_isWrong : ByteArray := prog_1_method_47_code
def yX11_isWrong : MethodName := ⟨RX11, "isWrong", "(IIII)Z"⟩
def RX12 : String := "TwoViewsModel"
def TX12 : u_T := fun k => match k with
  | 0 => ("TwoViewsModel", "thrown", "I", false)
  | 1 => ("TwoViewsModel", "m", "[I", true)
  | 2 => ("TwoViewsModel", "past", "[I", true)
  | 3 => ("TwoViewsModel", "pastMany", "I", false)
  | 4 => ("TwoViewsModel", "layers", "[I", true)
  | 5 => ("TwoViewsModel", "layerMany", "I", false)
  | 6 => ("TwoViewsModel", "tape", "[B", true)
  | 7 => ("TwoViewsModel", "taped", "I", false)
  | 8 => ("TwoViewsModel", "size", "I", false)
  | 9 => ("TwoViewsModel", "from", "I", false)
  | 10 => ("TwoViewsModel", "next", "I", false)
  | 11 => ("TwoViewsModel", "token", "I", false)
  | 12 => ("TwoViewsModel", "fault", "I", false)
  | 13 => ("TwoViewsModel", "read", "[I", true)
  | 14 => ("TwoViewsModel", "number", "I", false)
  | 15 => ("TwoViewsModel", "codes", "[I", true)
  | 16 => ("TwoViewsModel", "way", "[I", true)
  | 17 => ("TwoViewsModel", "sums", "[I", true)
  | 18 => ("TwoViewsModel", "shifts", "[I", true)
  | 19 => ("TwoViewsModel", "kinds", "[I", true)
  | 20 => ("TwoViewsModel", "pieceOf", "[I", true)
  | 21 => ("TwoViewsModel", "pieceMany", "[I", true)
  | 22 => ("TwoViewsModel", "fills", "[I", true)
  | 23 => ("TwoViewsModel", "costs", "[I", true)
  | 24 => ("TwoViewsModel", "row", "[I", true)
  | 25 => ("TwoViewsModel", "images", "[I", true)
  | _ => ("TwoViewsModel", "imaged", "I", false)
def tyX12 : Nat → FieldType := fun k => match k with
  | 0 => .int
  | 1 => .array .int
  | 2 => .array .int
  | 3 => .int
  | 4 => .array .int
  | 5 => .int
  | 6 => .array .byte
  | 7 => .int
  | 8 => .int
  | 9 => .int
  | 10 => .int
  | 11 => .int
  | 12 => .int
  | 13 => .array .int
  | 14 => .int
  | 15 => .array .int
  | 16 => .array .int
  | 17 => .array .int
  | 18 => .array .int
  | 19 => .array .int
  | 20 => .array .int
  | 21 => .array .int
  | 22 => .array .int
  | 23 => .array .int
  | 24 => .array .int
  | 25 => .array .int
  | _ => .int
abbrev wsX120 : List Cond := u_ws RX12 TX12 27
theorem nmX12 : ∀ a, a < 27 → ∀ b, b < 27 → a ≠ b → (TX12 a).2.1 ≠ (TX12 b).2.1 := by decide +kernel
theorem tyX12_ok : ∀ k, k < 27 → parseFieldDescriptor (TX12 k).2.2.1 = some (tyX12 k) := by decide +kernel
abbrev cX12_thrown : ByteArray := prog_14_method_1_code
def yX12_thrown : MethodName := ⟨RX12, "thrown", "()I"⟩
abbrev cX12_within : ByteArray := prog_14_method_2_code
def yX12_within : MethodName := ⟨RX12, "within", "(III)Z"⟩
abbrev cX12_init : ByteArray := prog_14_method_3_code
def yX12_init : MethodName := ⟨RX12, "<init>", "()V"⟩
abbrev cX12_begins : ByteArray := prog_14_method_4_code
def yX12_begins : MethodName := ⟨RX12, "begins", "(II)V"⟩
abbrev cX12_empties : ByteArray := prog_14_method_5_code
def yX12_empties : MethodName := ⟨RX12, "empties", "()V"⟩
abbrev cX12_keeps : ByteArray := prog_14_method_6_code
def yX12_keeps : MethodName := ⟨RX12, "keeps", "()V"⟩
abbrev cX12_undo : ByteArray := prog_14_method_7_code
def yX12_undo : MethodName := ⟨RX12, "undo", "()I"⟩
abbrev cX12_isPlace : ByteArray := prog_14_method_8_code
def yX12_isPlace : MethodName := ⟨RX12, "isPlace", "(II)Z"⟩
abbrev cX12_isAt : ByteArray := prog_14_method_9_code
def yX12_isAt : MethodName := ⟨RX12, "isAt", "(III)Z"⟩
abbrev cX12_cell : ByteArray := prog_14_method_10_code
def yX12_cell : MethodName := ⟨RX12, "cell", "(III)I"⟩
abbrev cX12_valueAt : ByteArray := prog_14_method_11_code
def yX12_valueAt : MethodName := ⟨RX12, "valueAt", "(III)I"⟩
abbrev cX12_feed : ByteArray := prog_14_method_12_code
def yX12_feed : MethodName := ⟨RX12, "feed", "(IIIII)I"⟩
abbrev cX12_puts : ByteArray := prog_14_method_13_code
def yX12_puts : MethodName := ⟨RX12, "puts", "(I)V"⟩
abbrev cX12_byteAt : ByteArray := prog_14_method_14_code
def yX12_byteAt : MethodName := ⟨RX12, "byteAt", "(I)I"⟩
abbrev cX12_isRun : ByteArray := prog_14_method_15_code
def yX12_isRun : MethodName := ⟨RX12, "isRun", "(I)Z"⟩
abbrev cX12_go : ByteArray := prog_14_method_16_code
def yX12_go : MethodName := ⟨RX12, "go", "()V"⟩
abbrev cX12_bad : ByteArray := prog_14_method_17_code
def yX12_bad : MethodName := ⟨RX12, "bad", "(II)Z"⟩
abbrev cX12_isWord : ByteArray := prog_14_method_18_code
def yX12_isWord : MethodName := ⟨RX12, "isWord", "(IIIIIII)Z"⟩
abbrev cX12_isNumber : ByteArray := prog_14_method_19_code
def yX12_isNumber : MethodName := ⟨RX12, "isNumber", "()Z"⟩
abbrev cX12_number : ByteArray := prog_14_method_20_code
def yX12_number : MethodName := ⟨RX12, "number", "(II)Z"⟩
abbrev cX12_tells : ByteArray := prog_14_method_21_code
def yX12_tells : MethodName := ⟨RX12, "tells", "(III)Z"⟩
abbrev cX12_hexOf : ByteArray := prog_14_method_22_code
def yX12_hexOf : MethodName := ⟨RX12, "hexOf", "(I)I"⟩
abbrev cX12_row : ByteArray := prog_14_method_23_code
def yX12_row : MethodName := ⟨RX12, "row", "(I)Z"⟩
abbrev cX12_penalty : ByteArray := prog_14_method_24_code
def yX12_penalty : MethodName := ⟨RX12, "penalty", "()Z"⟩
abbrev cX12_line : ByteArray := prog_14_method_25_code
def yX12_line : MethodName := ⟨RX12, "line", "()Z"⟩
abbrev cX12_text : ByteArray := prog_14_method_26_code
def yX12_text : MethodName := ⟨RX12, "text", "(I)I"⟩
abbrev cX12_size : ByteArray := prog_14_method_27_code
def yX12_size : MethodName := ⟨RX12, "size", "(II)Z"⟩
abbrev cX12_value : ByteArray := prog_14_method_28_code
def yX12_value : MethodName := ⟨RX12, "value", "(IIII)I"⟩
abbrev cX12_canTune : ByteArray := prog_14_method_29_code
def yX12_canTune : MethodName := ⟨RX12, "canTune", "(II)Z"⟩
abbrev cX12_tune : ByteArray := prog_14_method_30_code
def yX12_tune : MethodName := ⟨RX12, "tune", "(II)I"⟩
abbrev cX12_layer : ByteArray := prog_14_method_31_code
def yX12_layer : MethodName := ⟨RX12, "layer", "(IIIIII)I"⟩
abbrev cX12_clear : ByteArray := prog_14_method_32_code
def yX12_clear : MethodName := ⟨RX12, "clear", "()I"⟩
abbrev cX12_edge : ByteArray := prog_14_method_33_code
def yX12_edge : MethodName := ⟨RX12, "edge", "(II)I"⟩
abbrev cX12_layerAt : ByteArray := prog_14_method_34_code
def yX12_layerAt : MethodName := ⟨RX12, "layerAt", "(III)I"⟩
abbrev cX12_texture : ByteArray := prog_14_method_35_code
def yX12_texture : MethodName := ⟨RX12, "texture", "(III)I"⟩
abbrev cX12_draw : ByteArray := prog_14_method_36_code
def yX12_draw : MethodName := ⟨RX12, "draw", "()I"⟩
abbrev cX12_truthAt : ByteArray := prog_14_method_37_code
def yX12_truthAt : MethodName := ⟨RX12, "truthAt", "(II)I"⟩
abbrev cX12_isCovered : ByteArray := prog_14_method_38_code
def yX12_isCovered : MethodName := ⟨RX12, "isCovered", "(II)Z"⟩
abbrev cX12_truth : ByteArray := prog_14_method_39_code
def yX12_truth : MethodName := ⟨RX12, "truth", "(III)I"⟩
abbrev cX12_at : ByteArray := prog_14_method_40_code
def yX12_at : MethodName := ⟨RX12, "at", "(III)I"⟩
abbrev cX12_nearest : ByteArray := prog_14_method_41_code
def yX12_nearest : MethodName := ⟨RX12, "nearest", "(II)I"⟩
abbrev cX12_codeAt : ByteArray := prog_14_method_42_code
def yX12_codeAt : MethodName := ⟨RX12, "codeAt", "(III)I"⟩
abbrev cX12_codeCell : ByteArray := prog_14_method_43_code
def yX12_codeCell : MethodName := ⟨RX12, "codeCell", "(III)I"⟩
abbrev cX12_laysCodes : ByteArray := prog_14_method_44_code
def yX12_laysCodes : MethodName := ⟨RX12, "laysCodes", "()V"⟩
abbrev cX12_code : ByteArray := prog_14_method_45_code
def yX12_code : MethodName := ⟨RX12, "code", "(III)I"⟩
abbrev cX12_same : ByteArray := prog_14_method_46_code
def yX12_same : MethodName := ⟨RX12, "same", "(III)I"⟩
abbrev cX12_isFirst : ByteArray := prog_14_method_47_code
def yX12_isFirst : MethodName := ⟨RX12, "isFirst", "(III)Z"⟩
abbrev cX12_codes : ByteArray := prog_14_method_48_code
def yX12_codes : MethodName := ⟨RX12, "codes", "(I)I"⟩
abbrev cX12_bitsOf : ByteArray := prog_14_method_49_code
def yX12_bitsOf : MethodName := ⟨RX12, "bitsOf", "(I)I"⟩
abbrev cX12_costAt : ByteArray := prog_14_method_50_code
def yX12_costAt : MethodName := ⟨RX12, "costAt", "(III)I"⟩
abbrev cX12_isShift : ByteArray := prog_14_method_51_code
def yX12_isShift : MethodName := ⟨RX12, "isShift", "(III)Z"⟩
abbrev cX12_cost : ByteArray := prog_14_method_52_code
def yX12_cost : MethodName := ⟨RX12, "cost", "(III)I"⟩
abbrev cX12_byX : ByteArray := prog_14_method_53_code
def yX12_byX : MethodName := ⟨RX12, "byX", "(I)I"⟩
abbrev cX12_byY : ByteArray := prog_14_method_54_code
def yX12_byY : MethodName := ⟨RX12, "byY", "(I)I"⟩
abbrev cX12_sumCell : ByteArray := prog_14_method_55_code
def yX12_sumCell : MethodName := ⟨RX12, "sumCell", "(III)I"⟩
abbrev cX12_leastOf : ByteArray := prog_14_method_56_code
def yX12_leastOf : MethodName := ⟨RX12, "leastOf", "([III)I"⟩
abbrev cX12_tellsBy : ByteArray := prog_14_method_57_code
def yX12_tellsBy : MethodName := ⟨RX12, "tellsBy", "(III)I"⟩
abbrev cX12_laysWay : ByteArray := prog_14_method_58_code
def yX12_laysWay : MethodName := ⟨RX12, "laysWay", "(I)V"⟩
abbrev cX12_laysSums : ByteArray := prog_14_method_59_code
def yX12_laysSums : MethodName := ⟨RX12, "laysSums", "()V"⟩
abbrev cX12_path : ByteArray := prog_14_method_60_code
def yX12_path : MethodName := ⟨RX12, "path", "(IIII)I"⟩
abbrev cX12_sum : ByteArray := prog_14_method_61_code
def yX12_sum : MethodName := ⟨RX12, "sum", "(III)I"⟩
abbrev cX12_leftShift : ByteArray := prog_14_method_62_code
def yX12_leftShift : MethodName := ⟨RX12, "leftShift", "(II)I"⟩
abbrev cX12_rightShift : ByteArray := prog_14_method_63_code
def yX12_rightShift : MethodName := ⟨RX12, "rightShift", "(II)I"⟩
abbrev cX12_laysShifts : ByteArray := prog_14_method_64_code
def yX12_laysShifts : MethodName := ⟨RX12, "laysShifts", "()V"⟩
abbrev cX12_across : ByteArray := prog_14_method_65_code
def yX12_across : MethodName := ⟨RX12, "across", "(III)I"⟩
abbrev cX12_kindAt : ByteArray := prog_14_method_66_code
def yX12_kindAt : MethodName := ⟨RX12, "kindAt", "(III)I"⟩
abbrev cX12_laysKinds : ByteArray := prog_14_method_67_code
def yX12_laysKinds : MethodName := ⟨RX12, "laysKinds", "()V"⟩
abbrev cX12_hang : ByteArray := prog_14_method_68_code
def yX12_hang : MethodName := ⟨RX12, "hang", "(IIIII)Z"⟩
abbrev cX12_lowers : ByteArray := prog_14_method_69_code
def yX12_lowers : MethodName := ⟨RX12, "lowers", "(IIIII)Z"⟩
abbrev cX12_laysPieces : ByteArray := prog_14_method_70_code
def yX12_laysPieces : MethodName := ⟨RX12, "laysPieces", "(I)V"⟩
abbrev cX12_manyAt : ByteArray := prog_14_method_71_code
def yX12_manyAt : MethodName := ⟨RX12, "manyAt", "(III)I"⟩
abbrev cX12_kindNow : ByteArray := prog_14_method_72_code
def yX12_kindNow : MethodName := ⟨RX12, "kindNow", "(III)I"⟩
abbrev cX12_shift : ByteArray := prog_14_method_73_code
def yX12_shift : MethodName := ⟨RX12, "shift", "(III)I"⟩
abbrev cX12_margin : ByteArray := prog_14_method_74_code
def yX12_margin : MethodName := ⟨RX12, "margin", "(II)I"⟩
abbrev cX12_kind : ByteArray := prog_14_method_75_code
def yX12_kind : MethodName := ⟨RX12, "kind", "(III)I"⟩
abbrev cX12_kinds : ByteArray := prog_14_method_76_code
def yX12_kinds : MethodName := ⟨RX12, "kinds", "(II)I"⟩
abbrev cX12_piece : ByteArray := prog_14_method_77_code
def yX12_piece : MethodName := ⟨RX12, "piece", "(III)I"⟩
abbrev cX12_isKept : ByteArray := prog_14_method_78_code
def yX12_isKept : MethodName := ⟨RX12, "isKept", "(I)Z"⟩
abbrev cX12_pieces : ByteArray := prog_14_method_79_code
def yX12_pieces : MethodName := ⟨RX12, "pieces", "(II)I"⟩
abbrev cX12_aheadOf : ByteArray := prog_14_method_80_code
def yX12_aheadOf : MethodName := ⟨RX12, "aheadOf", "(II)I"⟩
abbrev cX12_tellsPiece : ByteArray := prog_14_method_81_code
def yX12_tellsPiece : MethodName := ⟨RX12, "tellsPiece", "(III)I"⟩
abbrev cX12_pieceAt : ByteArray := prog_14_method_82_code
def yX12_pieceAt : MethodName := ⟨RX12, "pieceAt", "(III)I"⟩
abbrev cX12_nearestSure : ByteArray := prog_14_method_83_code
def yX12_nearestSure : MethodName := ⟨RX12, "nearestSure", "(IIIII)I"⟩
abbrev cX12_hiddenFill : ByteArray := prog_14_method_84_code
def yX12_hiddenFill : MethodName := ⟨RX12, "hiddenFill", "(III)I"⟩
abbrev cX12_unlikeFill : ByteArray := prog_14_method_85_code
def yX12_unlikeFill : MethodName := ⟨RX12, "unlikeFill", "(III)I"⟩
abbrev cX12_laysFills : ByteArray := prog_14_method_86_code
def yX12_laysFills : MethodName := ⟨RX12, "laysFills", "()V"⟩
abbrev cX12_filled : ByteArray := prog_14_method_87_code
def yX12_filled : MethodName := ⟨RX12, "filled", "(III)I"⟩
abbrev cX12_depth : ByteArray := prog_14_method_88_code
def yX12_depth : MethodName := ⟨RX12, "depth", "(II)I"⟩
abbrev cX12_fine : ByteArray := prog_14_method_89_code
def yX12_fine : MethodName := ⟨RX12, "fine", "(II)I"⟩
abbrev cX12_votesFor : ByteArray := prog_14_method_90_code
def yX12_votesFor : MethodName := ⟨RX12, "votesFor", "(II)I"⟩
abbrev cX12_votes : ByteArray := prog_14_method_91_code
def yX12_votes : MethodName := ⟨RX12, "votes", "(II)I"⟩
abbrev cX12_ground : ByteArray := prog_14_method_92_code
def yX12_ground : MethodName := ⟨RX12, "ground", "(I)I"⟩
abbrev cX12_comesTo : ByteArray := prog_14_method_93_code
def yX12_comesTo : MethodName := ⟨RX12, "comesTo", "(IIII)I"⟩
abbrev cX12_betweenAt : ByteArray := prog_14_method_94_code
def yX12_betweenAt : MethodName := ⟨RX12, "betweenAt", "(III)I"⟩
abbrev cX12_between : ByteArray := prog_14_method_95_code
def yX12_between : MethodName := ⟨RX12, "between", "(III)I"⟩
abbrev cX12_holes : ByteArray := prog_14_method_96_code
def yX12_holes : MethodName := ⟨RX12, "holes", "(I)I"⟩
abbrev cX12_stepCost : ByteArray := prog_14_method_97_code
def yX12_stepCost : MethodName := ⟨RX12, "stepCost", "(II)I"⟩
abbrev cX12_laysRow : ByteArray := prog_14_method_98_code
def yX12_laysRow : MethodName := ⟨RX12, "laysRow", "(I)I"⟩
abbrev cX12_row_ : ByteArray := prog_14_method_99_code
def yX12_row_ : MethodName := ⟨RX12, "row", "(II)I"⟩
abbrev cX12_energyOf : ByteArray := prog_14_method_100_code
def yX12_energyOf : MethodName := ⟨RX12, "energyOf", "([I)I"⟩
abbrev cX12_energy : ByteArray := prog_14_method_101_code
def yX12_energy : MethodName := ⟨RX12, "energy", "(I)I"⟩
abbrev cX12_wrong : ByteArray := prog_14_method_102_code
def yX12_wrong : MethodName := ⟨RX12, "wrong", "(II)I"⟩
abbrev cX12_image : ByteArray := prog_14_method_103_code
def yX12_image : MethodName := ⟨RX12, "image", "(I)Z"⟩
abbrev cX12_back : ByteArray := prog_14_method_104_code
def yX12_back : MethodName := ⟨RX12, "back", "(I)Z"⟩
abbrev cX12_count : ByteArray := prog_14_method_105_code
def yX12_count : MethodName := ⟨RX12, "count", "(I)I"⟩
def RJx145de : String := "java/io/Serializable"
def TJx145de : u_T := fun k => match k with
  | _ => ("", "", "", false)
def tyJx145de : Nat → FieldType := fun k => match k with
  | _ => .int
abbrev wsJx145de0 : List Cond := u_ws RJx145de TJx145de 0
theorem nmJx145de : ∀ a, a < 0 → ∀ b, b < 0 → a ≠ b → (TJx145de a).2.1 ≠ (TJx145de b).2.1 := by decide +kernel
theorem tyJx145de_ok : ∀ k, k < 0 → parseFieldDescriptor (TJx145de k).2.2.1 = some (tyJx145de k) := by decide +kernel
def RJx9f9b0 : String := "java/lang/CharSequence"
def TJx9f9b0 : u_T := fun k => match k with
  | _ => ("", "", "", false)
def tyJx9f9b0 : Nat → FieldType := fun k => match k with
  | _ => .int
abbrev wsJx9f9b00 : List Cond := u_ws RJx9f9b0 TJx9f9b0 0
theorem nmJx9f9b0 : ∀ a, a < 0 → ∀ b, b < 0 → a ≠ b → (TJx9f9b0 a).2.1 ≠ (TJx9f9b0 b).2.1 := by decide +kernel
theorem tyJx9f9b0_ok : ∀ k, k < 0 → parseFieldDescriptor (TJx9f9b0 k).2.2.1 = some (tyJx9f9b0 k) := by decide +kernel
def RJxb160c : String := "java/lang/Comparable"
def TJxb160c : u_T := fun k => match k with
  | _ => ("", "", "", false)
def tyJxb160c : Nat → FieldType := fun k => match k with
  | _ => .int
abbrev wsJxb160c0 : List Cond := u_ws RJxb160c TJxb160c 0
theorem nmJxb160c : ∀ a, a < 0 → ∀ b, b < 0 → a ≠ b → (TJxb160c a).2.1 ≠ (TJxb160c b).2.1 := by decide +kernel
theorem tyJxb160c_ok : ∀ k, k < 0 → parseFieldDescriptor (TJxb160c k).2.2.1 = some (tyJxb160c k) := by decide +kernel
def RJ6 : String := "java/lang/Integer"
def TJ6 : u_T := fun k => match k with
  | _ => ("", "", "", false)
def tyJ6 : Nat → FieldType := fun k => match k with
  | _ => .int
abbrev wsJ60 : List Cond := u_ws RJ6 TJ6 0
theorem nmJ6 : ∀ a, a < 0 → ∀ b, b < 0 → a ≠ b → (TJ6 a).2.1 ≠ (TJ6 b).2.1 := by decide +kernel
theorem tyJ6_ok : ∀ k, k < 0 → parseFieldDescriptor (TJ6 k).2.2.1 = some (tyJ6 k) := by decide +kernel
abbrev cJ6_bitCount_0f7a4 : ByteArray := prog_19_method_49_code
def yJ6_bitCount_0f7a4 : MethodName := ⟨RJ6, "bitCount", "(I)I"⟩
def RJ9 : String := "java/lang/Math"
def TJ9 : u_T := fun k => match k with
  | _ => ("", "", "", false)
def tyJ9 : Nat → FieldType := fun k => match k with
  | _ => .int
abbrev wsJ90 : List Cond := u_ws RJ9 TJ9 0
theorem nmJ9 : ∀ a, a < 0 → ∀ b, b < 0 → a ≠ b → (TJ9 a).2.1 ≠ (TJ9 b).2.1 := by decide +kernel
theorem tyJ9_ok : ∀ k, k < 0 → parseFieldDescriptor (TJ9 k).2.2.1 = some (tyJ9 k) := by decide +kernel
abbrev cJ9_floorDiv_7cf53 : ByteArray := prog_20_method_47_code
def yJ9_floorDiv_7cf53 : MethodName := ⟨RJ9, "floorDiv", "(II)I"⟩
abbrev cJ9_abs_0f7a4 : ByteArray := prog_20_method_59_code
def yJ9_abs_0f7a4 : MethodName := ⟨RJ9, "abs", "(I)I"⟩
abbrev cJ9_max_7cf53 : ByteArray := prog_20_method_65_code
def yJ9_max_7cf53 : MethodName := ⟨RJ9, "max", "(II)I"⟩
abbrev cJ9_min_7cf53 : ByteArray := prog_20_method_69_code
def yJ9_min_7cf53 : MethodName := ⟨RJ9, "min", "(II)I"⟩
def RJ0 : String := "java/lang/String"
def TJ0 : u_T := fun k => match k with
  | _ => ("", "", "", false)
def tyJ0 : Nat → FieldType := fun k => match k with
  | _ => .int
abbrev wsJ00 : List Cond := u_ws RJ0 TJ0 0
theorem nmJ0 : ∀ a, a < 0 → ∀ b, b < 0 → a ≠ b → (TJ0 a).2.1 ≠ (TJ0 b).2.1 := by decide +kernel
theorem tyJ0_ok : ∀ k, k < 0 → parseFieldDescriptor (TJ0 k).2.2.1 = some (tyJ0 k) := by decide +kernel
abbrev cJ0_length_8abf5 : ByteArray := prog_22_method_54_code
def yJ0_length_8abf5 : MethodName := ⟨RJ0, "length", "()I"⟩
abbrev cJ0_charAt_5068e : ByteArray := prog_22_method_56_code
def yJ0_charAt_5068e : MethodName := ⟨RJ0, "charAt", "(I)C"⟩
abbrev cJ0_coder_7d493 : ByteArray := prog_22_method_152_code
def yJ0_coder_7d493 : MethodName := ⟨RJ0, "coder", "()B"⟩
abbrev cJ0_isLatin1_aae02 : ByteArray := prog_22_method_154_code
def yJ0_isLatin1_aae02 : MethodName := ⟨RJ0, "isLatin1", "()Z"⟩
abbrev cJ0_checkIndex_df160 : ByteArray := prog_22_method_155_code
def yJ0_checkIndex_df160 : MethodName := ⟨RJ0, "checkIndex", "(II)V"⟩
def RJ1 : String := "java/lang/StringLatin1"
def TJ1 : u_T := fun k => match k with
  | _ => ("", "", "", false)
def tyJ1 : Nat → FieldType := fun k => match k with
  | _ => .int
abbrev wsJ10 : List Cond := u_ws RJ1 TJ1 0
theorem nmJ1 : ∀ a, a < 0 → ∀ b, b < 0 → a ≠ b → (TJ1 a).2.1 ≠ (TJ1 b).2.1 := by decide +kernel
theorem tyJ1_ok : ∀ k, k < 0 → parseFieldDescriptor (TJ1 k).2.2.1 = some (tyJ1 k) := by decide +kernel
abbrev cJ1_charAt_3b067 : ByteArray := prog_23_method_2_code
def yJ1_charAt_3b067 : MethodName := ⟨RJ1, "charAt", "([BI)C"⟩
def RJ2 : String := "java/lang/StringUTF16"
def TJ2 : u_T := fun k => match k with
  | _ => ("", "", "", false)
def tyJ2 : Nat → FieldType := fun k => match k with
  | _ => .int
abbrev wsJ20 : List Cond := u_ws RJ2 TJ2 0
theorem nmJ2 : ∀ a, a < 0 → ∀ b, b < 0 → a ≠ b → (TJ2 a).2.1 ≠ (TJ2 b).2.1 := by decide +kernel
theorem tyJ2_ok : ∀ k, k < 0 → parseFieldDescriptor (TJ2 k).2.2.1 = some (tyJ2 k) := by decide +kernel
abbrev cJ2_getChar_3b067 : ByteArray := prog_24_method_5_code
def yJ2_getChar_3b067 : MethodName := ⟨RJ2, "getChar", "([BI)C"⟩
abbrev cJ2_length_9d52b : ByteArray := prog_24_method_6_code
def yJ2_length_9d52b : MethodName := ⟨RJ2, "length", "([B)I"⟩
abbrev cJ2_charAt_3b067 : ByteArray := prog_24_method_83_code
def yJ2_charAt_3b067 : MethodName := ⟨RJ2, "charAt", "([BI)C"⟩
abbrev cJ2_checkIndex_2214a : ByteArray := prog_24_method_91_code
def yJ2_checkIndex_2214a : MethodName := ⟨RJ2, "checkIndex", "(I[B)V"⟩
def RJ10 : String := "java/lang/System"
def TJ10 : u_T := fun k => match k with
  | _ => ("", "", "", false)
def tyJ10 : Nat → FieldType := fun k => match k with
  | _ => .int
abbrev wsJ100 : List Cond := u_ws RJ10 TJ10 0
theorem nmJ10 : ∀ a, a < 0 → ∀ b, b < 0 → a ≠ b → (TJ10 a).2.1 ≠ (TJ10 b).2.1 := by decide +kernel
theorem tyJ10_ok : ∀ k, k < 0 → parseFieldDescriptor (TJ10 k).2.2.1 = some (tyJ10 k) := by decide +kernel
def RJxfd54e : String := "java/lang/constant/Constable"
def TJxfd54e : u_T := fun k => match k with
  | _ => ("", "", "", false)
def tyJxfd54e : Nat → FieldType := fun k => match k with
  | _ => .int
abbrev wsJxfd54e0 : List Cond := u_ws RJxfd54e TJxfd54e 0
theorem nmJxfd54e : ∀ a, a < 0 → ∀ b, b < 0 → a ≠ b → (TJxfd54e a).2.1 ≠ (TJxfd54e b).2.1 := by decide +kernel
theorem tyJxfd54e_ok : ∀ k, k < 0 → parseFieldDescriptor (TJxfd54e k).2.2.1 = some (tyJxfd54e k) := by decide +kernel
def RJx3cf43 : String := "java/lang/constant/ConstantDesc"
def TJx3cf43 : u_T := fun k => match k with
  | _ => ("", "", "", false)
def tyJx3cf43 : Nat → FieldType := fun k => match k with
  | _ => .int
abbrev wsJx3cf430 : List Cond := u_ws RJx3cf43 TJx3cf43 0
theorem nmJx3cf43 : ∀ a, a < 0 → ∀ b, b < 0 → a ≠ b → (TJx3cf43 a).2.1 ≠ (TJx3cf43 b).2.1 := by decide +kernel
theorem tyJx3cf43_ok : ∀ k, k < 0 → parseFieldDescriptor (TJx3cf43 k).2.2.1 = some (tyJx3cf43 k) := by decide +kernel
def RJ3 : String := "jdk/internal/util/Preconditions"
def TJ3 : u_T := fun k => match k with
  | _ => ("", "", "", false)
def tyJ3 : Nat → FieldType := fun k => match k with
  | _ => .int
abbrev wsJ30 : List Cond := u_ws RJ3 TJ3 0
theorem nmJ3 : ∀ a, a < 0 → ∀ b, b < 0 → a ≠ b → (TJ3 a).2.1 ≠ (TJ3 b).2.1 := by decide +kernel
theorem tyJ3_ok : ∀ k, k < 0 → parseFieldDescriptor (TJ3 k).2.2.1 = some (tyJ3 k) := by decide +kernel
abbrev cJ3_checkIndex_8e157 : ByteArray := prog_30_method_11_code
def yJ3_checkIndex_8e157 : MethodName := ⟨RJ3, "checkIndex", "(IILjava/util/function/BiFunction;)I"⟩
def RL : String := "TwoViewsLaw"
abbrev cL_at : ByteArray := method_3_code
def yL_at : MethodName := ⟨RL, "at", "(LTwoViews;III[J)I"⟩
abbrev cL_code : ByteArray := method_4_code
def yL_code : MethodName := ⟨RL, "code", "(LTwoViews;III[J)I"⟩
abbrev cL_same : ByteArray := method_5_code
def yL_same : MethodName := ⟨RL, "same", "(LTwoViews;III[J)I"⟩
abbrev cL_shift : ByteArray := method_6_code
def yL_shift : MethodName := ⟨RL, "shift", "(LTwoViews;III[J)I"⟩
abbrev cL_margin : ByteArray := method_7_code
def yL_margin : MethodName := ⟨RL, "margin", "(LTwoViews;II[J)I"⟩
abbrev cL_fine : ByteArray := method_8_code
def yL_fine : MethodName := ⟨RL, "fine", "(LTwoViews;II[J)I"⟩
abbrev cL_filled : ByteArray := method_9_code
def yL_filled : MethodName := ⟨RL, "filled", "(LTwoViews;III[J)I"⟩
abbrev cL_depth : ByteArray := method_10_code
def yL_depth : MethodName := ⟨RL, "depth", "(LTwoViews;II[J)I"⟩
abbrev cL_law : ByteArray := code
def yL_law : MethodName := ⟨RL, "law", "([I)Z"⟩
abbrev vwCl : List vw_C := [(RX0, TX0, 3), (RX1, TX1, 7), (RX2, TX2, 3), (RX3, TX3, 6), (RX4, TX4, 6), (RX5, TX5, 3), (RX6, TX6, 7), (RX7, TX7, 6), (RX8, TX8, 4), (RX9, TX9, 4), (RX10, TX10, 2), (RX11, TX11, 12), (RX12, TX12, 27)]
