section
-- ===== PART A: goes FIRST, ahead of the names: the tables' words, and 'selects' of the private methods out of them =====
/-- a private method of a class that the tables say can be made, by its rows of tables_1 -/
def lw_okq (q : MethodName × Nat) : Prop := (q.1.cls ≠ "java/lang/invoke/MethodHandle" ∧ q.1.cls ≠ "java/lang/invoke/VarHandle") ∧ Cond.instantiable q.1.cls q.2 ∈ tables_1 ∧ Cond.privateMethod q.1 ∈ tables_1 ∧ Cond.instanceMethod q.1 ∈ tables_1
theorem lw_p0 : lw_okq (⟨"TwoViews$Reader", "takeDefaults", "(LTwoViews$Scene;)V"⟩, 6) := ⟨⟨by decide +kernel, by decide +kernel⟩, List.mem_of_getElem? (i := 133) (by decide +kernel), List.mem_of_getElem? (i := 390) (by decide +kernel), List.mem_of_getElem? (i := 391) (by decide +kernel)⟩
theorem lw_p1 : lw_okq (⟨"TwoViews$Reader", "takeSize", "()V"⟩, 6) := ⟨⟨by decide +kernel, by decide +kernel⟩, List.mem_of_getElem? (i := 133) (by decide +kernel), List.mem_of_getElem? (i := 396) (by decide +kernel), List.mem_of_getElem? (i := 397) (by decide +kernel)⟩
theorem lw_p2 : lw_okq (⟨"TwoViews$Reader", "advance", "()V"⟩, 6) := ⟨⟨by decide +kernel, by decide +kernel⟩, List.mem_of_getElem? (i := 133) (by decide +kernel), List.mem_of_getElem? (i := 400) (by decide +kernel), List.mem_of_getElem? (i := 401) (by decide +kernel)⟩
theorem lw_p3 : lw_okq (⟨"TwoViews$Reader", "isToken", "(Ljava/lang/String;)Z"⟩, 6) := ⟨⟨by decide +kernel, by decide +kernel⟩, List.mem_of_getElem? (i := 133) (by decide +kernel), List.mem_of_getElem? (i := 415) (by decide +kernel), List.mem_of_getElem? (i := 416) (by decide +kernel)⟩
theorem lw_p4 : lw_okq (⟨"TwoViews$Reader", "fail", "(II)V"⟩, 6) := ⟨⟨by decide +kernel, by decide +kernel⟩, List.mem_of_getElem? (i := 133) (by decide +kernel), List.mem_of_getElem? (i := 467) (by decide +kernel), List.mem_of_getElem? (i := 468) (by decide +kernel)⟩
theorem lw_p5 : lw_okq (⟨"TwoViews$Reader", "takeNumber", "(II)I"⟩, 6) := ⟨⟨by decide +kernel, by decide +kernel⟩, List.mem_of_getElem? (i := 133) (by decide +kernel), List.mem_of_getElem? (i := 471) (by decide +kernel), List.mem_of_getElem? (i := 472) (by decide +kernel)⟩
theorem lw_p6 : lw_okq (⟨"TwoViews$Reader", "numberTold", "()I"⟩, 6) := ⟨⟨by decide +kernel, by decide +kernel⟩, List.mem_of_getElem? (i := 133) (by decide +kernel), List.mem_of_getElem? (i := 475) (by decide +kernel), List.mem_of_getElem? (i := 476) (by decide +kernel)⟩
theorem lw_p7 : lw_okq (⟨"TwoViews$Reader", "takeLine", "()V"⟩, 6) := ⟨⟨by decide +kernel, by decide +kernel⟩, List.mem_of_getElem? (i := 133) (by decide +kernel), List.mem_of_getElem? (i := 486) (by decide +kernel), List.mem_of_getElem? (i := 487) (by decide +kernel)⟩
theorem lw_p8 : lw_okq (⟨"TwoViews$Reader", "takeDial", "(I)V"⟩, 6) := ⟨⟨by decide +kernel, by decide +kernel⟩, List.mem_of_getElem? (i := 133) (by decide +kernel), List.mem_of_getElem? (i := 492) (by decide +kernel), List.mem_of_getElem? (i := 493) (by decide +kernel)⟩
theorem lw_p9 : lw_okq (⟨"TwoViews$Reader", "takePenalties", "()V"⟩, 6) := ⟨⟨by decide +kernel, by decide +kernel⟩, List.mem_of_getElem? (i := 133) (by decide +kernel), List.mem_of_getElem? (i := 502) (by decide +kernel), List.mem_of_getElem? (i := 503) (by decide +kernel)⟩
theorem lw_p10 : lw_okq (⟨"TwoViews$Reader", "takeRow", "(I)V"⟩, 6) := ⟨⟨by decide +kernel, by decide +kernel⟩, List.mem_of_getElem? (i := 133) (by decide +kernel), List.mem_of_getElem? (i := 509) (by decide +kernel), List.mem_of_getElem? (i := 510) (by decide +kernel)⟩
theorem lw_p11 : lw_okq (⟨"TwoViews", "beginAct", "(I)V"⟩, 12) := ⟨⟨by decide +kernel, by decide +kernel⟩, List.mem_of_getElem? (i := 26) (by decide +kernel), List.mem_of_getElem? (i := 520) (by decide +kernel), List.mem_of_getElem? (i := 521) (by decide +kernel)⟩
theorem lw_p12 : lw_okq (⟨"TwoViews", "keepUpTo", "(I)V"⟩, 12) := ⟨⟨by decide +kernel, by decide +kernel⟩, List.mem_of_getElem? (i := 26) (by decide +kernel), List.mem_of_getElem? (i := 535) (by decide +kernel), List.mem_of_getElem? (i := 536) (by decide +kernel)⟩
theorem lw_p13 : lw_okq (⟨"TwoViews", "reach", "(I)V"⟩, 12) := ⟨⟨by decide +kernel, by decide +kernel⟩, List.mem_of_getElem? (i := 26) (by decide +kernel), List.mem_of_getElem? (i := 625) (by decide +kernel), List.mem_of_getElem? (i := 626) (by decide +kernel)⟩
theorem lw_p14 : lw_okq (⟨"TwoViews$Matcher", "codeBits", "(III)I"⟩, 6) := ⟨⟨by decide +kernel, by decide +kernel⟩, List.mem_of_getElem? (i := 204) (by decide +kernel), List.mem_of_getElem? (i := 634) (by decide +kernel), List.mem_of_getElem? (i := 635) (by decide +kernel)⟩
theorem lw_p15 : lw_okq (⟨"TwoViews$Matcher", "unlikeBits", "(III)I"⟩, 6) := ⟨⟨by decide +kernel, by decide +kernel⟩, List.mem_of_getElem? (i := 204) (by decide +kernel), List.mem_of_getElem? (i := 648) (by decide +kernel), List.mem_of_getElem? (i := 649) (by decide +kernel)⟩
def lw_privs_1 : List (MethodName × Nat) := [(⟨"TwoViews$Reader", "takeDefaults", "(LTwoViews$Scene;)V"⟩, 6), (⟨"TwoViews$Reader", "takeSize", "()V"⟩, 6), (⟨"TwoViews$Reader", "advance", "()V"⟩, 6), (⟨"TwoViews$Reader", "isToken", "(Ljava/lang/String;)Z"⟩, 6), (⟨"TwoViews$Reader", "fail", "(II)V"⟩, 6), (⟨"TwoViews$Reader", "takeNumber", "(II)I"⟩, 6), (⟨"TwoViews$Reader", "numberTold", "()I"⟩, 6), (⟨"TwoViews$Reader", "takeLine", "()V"⟩, 6), (⟨"TwoViews$Reader", "takeDial", "(I)V"⟩, 6), (⟨"TwoViews$Reader", "takePenalties", "()V"⟩, 6), (⟨"TwoViews$Reader", "takeRow", "(I)V"⟩, 6), (⟨"TwoViews", "beginAct", "(I)V"⟩, 12), (⟨"TwoViews", "keepUpTo", "(I)V"⟩, 12), (⟨"TwoViews", "reach", "(I)V"⟩, 12), (⟨"TwoViews$Matcher", "codeBits", "(III)I"⟩, 6), (⟨"TwoViews$Matcher", "unlikeBits", "(III)I"⟩, 6)]
theorem lw_r1 : ∀ q ∈ lw_privs_1, lw_okq q := List.forall_mem_cons.mpr ⟨lw_p0, List.forall_mem_cons.mpr ⟨lw_p1, List.forall_mem_cons.mpr ⟨lw_p2, List.forall_mem_cons.mpr ⟨lw_p3, List.forall_mem_cons.mpr ⟨lw_p4, List.forall_mem_cons.mpr ⟨lw_p5, List.forall_mem_cons.mpr ⟨lw_p6, List.forall_mem_cons.mpr ⟨lw_p7, List.forall_mem_cons.mpr ⟨lw_p8, List.forall_mem_cons.mpr ⟨lw_p9, List.forall_mem_cons.mpr ⟨lw_p10, List.forall_mem_cons.mpr ⟨lw_p11, List.forall_mem_cons.mpr ⟨lw_p12, List.forall_mem_cons.mpr ⟨lw_p13, List.forall_mem_cons.mpr ⟨lw_p14, List.forall_mem_cons.mpr ⟨lw_p15, fun _ h => absurd h List.not_mem_nil⟩⟩⟩⟩⟩⟩⟩⟩⟩⟩⟩⟩⟩⟩⟩⟩
theorem lw_p16 : lw_okq (⟨"TwoViews$Matcher", "goOn", "(II)V"⟩, 6) := ⟨⟨by decide +kernel, by decide +kernel⟩, List.mem_of_getElem? (i := 204) (by decide +kernel), List.mem_of_getElem? (i := 675) (by decide +kernel), List.mem_of_getElem? (i := 676) (by decide +kernel)⟩
theorem lw_p17 : lw_okq (⟨"TwoViews$Matcher", "begin", "(I)V"⟩, 6) := ⟨⟨by decide +kernel, by decide +kernel⟩, List.mem_of_getElem? (i := 204) (by decide +kernel), List.mem_of_getElem? (i := 680) (by decide +kernel), List.mem_of_getElem? (i := 681) (by decide +kernel)⟩
theorem lw_p18 : lw_okq (⟨"TwoViews$Matcher", "addTold", "()V"⟩, 6) := ⟨⟨by decide +kernel, by decide +kernel⟩, List.mem_of_getElem? (i := 204) (by decide +kernel), List.mem_of_getElem? (i := 684) (by decide +kernel), List.mem_of_getElem? (i := 685) (by decide +kernel)⟩
theorem lw_p19 : lw_okq (⟨"TwoViews$Maps", "bestOfLeft", "(II)I"⟩, 6) := ⟨⟨by decide +kernel, by decide +kernel⟩, List.mem_of_getElem? (i := 236) (by decide +kernel), List.mem_of_getElem? (i := 693) (by decide +kernel), List.mem_of_getElem? (i := 694) (by decide +kernel)⟩
theorem lw_p20 : lw_okq (⟨"TwoViews$Maps", "bestOfRight", "(II)I"⟩, 6) := ⟨⟨by decide +kernel, by decide +kernel⟩, List.mem_of_getElem? (i := 236) (by decide +kernel), List.mem_of_getElem? (i := 698) (by decide +kernel), List.mem_of_getElem? (i := 699) (by decide +kernel)⟩
theorem lw_p21 : lw_okq (⟨"TwoViews$Maps", "kindBySight", "(III)I"⟩, 6) := ⟨⟨by decide +kernel, by decide +kernel⟩, List.mem_of_getElem? (i := 236) (by decide +kernel), List.mem_of_getElem? (i := 706) (by decide +kernel), List.mem_of_getElem? (i := 707) (by decide +kernel)⟩
theorem lw_p22 : lw_okq (⟨"TwoViews$Maps", "shiftSeen", "(IIII)I"⟩, 6) := ⟨⟨by decide +kernel, by decide +kernel⟩, List.mem_of_getElem? (i := 236) (by decide +kernel), List.mem_of_getElem? (i := 710) (by decide +kernel), List.mem_of_getElem? (i := 711) (by decide +kernel)⟩
theorem lw_p23 : lw_okq (⟨"TwoViews$Pieces", "grow", "(III)V"⟩, 7) := ⟨⟨by decide +kernel, by decide +kernel⟩, List.mem_of_getElem? (i := 268) (by decide +kernel), List.mem_of_getElem? (i := 723) (by decide +kernel), List.mem_of_getElem? (i := 724) (by decide +kernel)⟩
theorem lw_p24 : lw_okq (⟨"TwoViews$Pieces", "join", "(IIII)V"⟩, 7) := ⟨⟨by decide +kernel, by decide +kernel⟩, List.mem_of_getElem? (i := 268) (by decide +kernel), List.mem_of_getElem? (i := 727) (by decide +kernel), List.mem_of_getElem? (i := 728) (by decide +kernel)⟩
theorem lw_p25 : lw_okq (⟨"TwoViews$Pieces", "lookAround", "(III)V"⟩, 7) := ⟨⟨by decide +kernel, by decide +kernel⟩, List.mem_of_getElem? (i := 268) (by decide +kernel), List.mem_of_getElem? (i := 731) (by decide +kernel), List.mem_of_getElem? (i := 732) (by decide +kernel)⟩
theorem lw_p26 : lw_okq (⟨"TwoViews$Pieces", "isFree", "(II)Z"⟩, 7) := ⟨⟨by decide +kernel, by decide +kernel⟩, List.mem_of_getElem? (i := 268) (by decide +kernel), List.mem_of_getElem? (i := 738) (by decide +kernel), List.mem_of_getElem? (i := 739) (by decide +kernel)⟩
theorem lw_p27 : lw_okq (⟨"TwoViews$Pieces", "dropSmall", "(I)V"⟩, 7) := ⟨⟨by decide +kernel, by decide +kernel⟩, List.mem_of_getElem? (i := 268) (by decide +kernel), List.mem_of_getElem? (i := 743) (by decide +kernel), List.mem_of_getElem? (i := 744) (by decide +kernel)⟩
theorem lw_p28 : lw_okq (⟨"TwoViews$Pieces", "stays", "(II)Z"⟩, 7) := ⟨⟨by decide +kernel, by decide +kernel⟩, List.mem_of_getElem? (i := 268) (by decide +kernel), List.mem_of_getElem? (i := 747) (by decide +kernel), List.mem_of_getElem? (i := 748) (by decide +kernel)⟩
theorem lw_p29 : lw_okq (⟨"TwoViews$Maps", "fillingOf", "(III)I"⟩, 6) := ⟨⟨by decide +kernel, by decide +kernel⟩, List.mem_of_getElem? (i := 236) (by decide +kernel), List.mem_of_getElem? (i := 755) (by decide +kernel), List.mem_of_getElem? (i := 756) (by decide +kernel)⟩
theorem lw_p30 : lw_okq (⟨"TwoViews$Maps", "lesserBeside", "(III)I"⟩, 6) := ⟨⟨by decide +kernel, by decide +kernel⟩, List.mem_of_getElem? (i := 236) (by decide +kernel), List.mem_of_getElem? (i := 759) (by decide +kernel), List.mem_of_getElem? (i := 760) (by decide +kernel)⟩
theorem lw_p31 : lw_okq (⟨"TwoViews$Maps", "nearestSure", "(IIII)I"⟩, 6) := ⟨⟨by decide +kernel, by decide +kernel⟩, List.mem_of_getElem? (i := 236) (by decide +kernel), List.mem_of_getElem? (i := 763) (by decide +kernel), List.mem_of_getElem? (i := 764) (by decide +kernel)⟩
def lw_privs_2 : List (MethodName × Nat) := [(⟨"TwoViews$Matcher", "goOn", "(II)V"⟩, 6), (⟨"TwoViews$Matcher", "begin", "(I)V"⟩, 6), (⟨"TwoViews$Matcher", "addTold", "()V"⟩, 6), (⟨"TwoViews$Maps", "bestOfLeft", "(II)I"⟩, 6), (⟨"TwoViews$Maps", "bestOfRight", "(II)I"⟩, 6), (⟨"TwoViews$Maps", "kindBySight", "(III)I"⟩, 6), (⟨"TwoViews$Maps", "shiftSeen", "(IIII)I"⟩, 6), (⟨"TwoViews$Pieces", "grow", "(III)V"⟩, 7), (⟨"TwoViews$Pieces", "join", "(IIII)V"⟩, 7), (⟨"TwoViews$Pieces", "lookAround", "(III)V"⟩, 7), (⟨"TwoViews$Pieces", "isFree", "(II)Z"⟩, 7), (⟨"TwoViews$Pieces", "dropSmall", "(I)V"⟩, 7), (⟨"TwoViews$Pieces", "stays", "(II)Z"⟩, 7), (⟨"TwoViews$Maps", "fillingOf", "(III)I"⟩, 6), (⟨"TwoViews$Maps", "lesserBeside", "(III)I"⟩, 6), (⟨"TwoViews$Maps", "nearestSure", "(IIII)I"⟩, 6)]
theorem lw_r2 : ∀ q ∈ lw_privs_2, lw_okq q := List.forall_mem_cons.mpr ⟨lw_p16, List.forall_mem_cons.mpr ⟨lw_p17, List.forall_mem_cons.mpr ⟨lw_p18, List.forall_mem_cons.mpr ⟨lw_p19, List.forall_mem_cons.mpr ⟨lw_p20, List.forall_mem_cons.mpr ⟨lw_p21, List.forall_mem_cons.mpr ⟨lw_p22, List.forall_mem_cons.mpr ⟨lw_p23, List.forall_mem_cons.mpr ⟨lw_p24, List.forall_mem_cons.mpr ⟨lw_p25, List.forall_mem_cons.mpr ⟨lw_p26, List.forall_mem_cons.mpr ⟨lw_p27, List.forall_mem_cons.mpr ⟨lw_p28, List.forall_mem_cons.mpr ⟨lw_p29, List.forall_mem_cons.mpr ⟨lw_p30, List.forall_mem_cons.mpr ⟨lw_p31, fun _ h => absurd h List.not_mem_nil⟩⟩⟩⟩⟩⟩⟩⟩⟩⟩⟩⟩⟩⟩⟩⟩
theorem lw_p32 : lw_okq (⟨"TwoViews$Maps", "middleAround", "(III)I"⟩, 6) := ⟨⟨by decide +kernel, by decide +kernel⟩, List.mem_of_getElem? (i := 236) (by decide +kernel), List.mem_of_getElem? (i := 773) (by decide +kernel), List.mem_of_getElem? (i := 774) (by decide +kernel)⟩
theorem lw_p33 : lw_okq (⟨"TwoViews$Matcher", "wasBefore", "(III)Z"⟩, 6) := ⟨⟨by decide +kernel, by decide +kernel⟩, List.mem_of_getElem? (i := 204) (by decide +kernel), List.mem_of_getElem? (i := 781) (by decide +kernel), List.mem_of_getElem? (i := 782) (by decide +kernel)⟩
theorem lw_p34 : lw_okq (⟨"TwoViews$Pieces", "howManyBefore", "(II)I"⟩, 7) := ⟨⟨by decide +kernel, by decide +kernel⟩, List.mem_of_getElem? (i := 268) (by decide +kernel), List.mem_of_getElem? (i := 835) (by decide +kernel), List.mem_of_getElem? (i := 836) (by decide +kernel)⟩
theorem lw_p35 : lw_okq (⟨"TwoViews$Maps", "comesFrom", "(IIII)I"⟩, 6) := ⟨⟨by decide +kernel, by decide +kernel⟩, List.mem_of_getElem? (i := 236) (by decide +kernel), List.mem_of_getElem? (i := 882) (by decide +kernel), List.mem_of_getElem? (i := 883) (by decide +kernel)⟩
theorem lw_p36 : lw_okq (⟨"TwoViews$RowChoice", "bestBefore", "(II)I"⟩, 4) := ⟨⟨by decide +kernel, by decide +kernel⟩, List.mem_of_getElem? (i := 296) (by decide +kernel), List.mem_of_getElem? (i := 901) (by decide +kernel), List.mem_of_getElem? (i := 902) (by decide +kernel)⟩
theorem lw_p37 : lw_okq (⟨"TwoViews$RowChoice", "priceBefore", "(III)I"⟩, 4) := ⟨⟨by decide +kernel, by decide +kernel⟩, List.mem_of_getElem? (i := 296) (by decide +kernel), List.mem_of_getElem? (i := 905) (by decide +kernel), List.mem_of_getElem? (i := 906) (by decide +kernel)⟩
theorem lw_p38 : lw_okq (⟨"TwoViews", "isWrong", "(IIII)Z"⟩, 12) := ⟨⟨by decide +kernel, by decide +kernel⟩, List.mem_of_getElem? (i := 26) (by decide +kernel), List.mem_of_getElem? (i := 928) (by decide +kernel), List.mem_of_getElem? (i := 929) (by decide +kernel)⟩
theorem lw_p39 : lw_okq (⟨"TwoViews", "needPlace", "(III)V"⟩, 12) := ⟨⟨by decide +kernel, by decide +kernel⟩, List.mem_of_getElem? (i := 26) (by decide +kernel), List.mem_of_getElem? (i := 966) (by decide +kernel), List.mem_of_getElem? (i := 967) (by decide +kernel)⟩
theorem lw_p40 : lw_okq (⟨"java/lang/Throwable", "fillInStackTrace", "(I)Ljava/lang/Throwable;"⟩, 6) := ⟨⟨by decide +kernel, by decide +kernel⟩, List.mem_of_getElem? (i := 1006) (by decide +kernel), List.mem_of_getElem? (i := 1004) (by decide +kernel), List.mem_of_getElem? (i := 1005) (by decide +kernel)⟩
theorem lw_p41 : lw_okq (⟨"TwoViewsModel", "begins", "(II)V"⟩, 27) := ⟨⟨by decide +kernel, by decide +kernel⟩, List.mem_of_getElem? (i := 1103) (by decide +kernel), List.mem_of_getElem? (i := 1109) (by decide +kernel), List.mem_of_getElem? (i := 1110) (by decide +kernel)⟩
theorem lw_p42 : lw_okq (⟨"TwoViewsModel", "empties", "()V"⟩, 27) := ⟨⟨by decide +kernel, by decide +kernel⟩, List.mem_of_getElem? (i := 1103) (by decide +kernel), List.mem_of_getElem? (i := 1113) (by decide +kernel), List.mem_of_getElem? (i := 1114) (by decide +kernel)⟩
theorem lw_p43 : lw_okq (⟨"TwoViewsModel", "puts", "(I)V"⟩, 27) := ⟨⟨by decide +kernel, by decide +kernel⟩, List.mem_of_getElem? (i := 1103) (by decide +kernel), List.mem_of_getElem? (i := 1207) (by decide +kernel), List.mem_of_getElem? (i := 1208) (by decide +kernel)⟩
theorem lw_p44 : lw_okq (⟨"TwoViewsModel", "go", "()V"⟩, 27) := ⟨⟨by decide +kernel, by decide +kernel⟩, List.mem_of_getElem? (i := 1103) (by decide +kernel), List.mem_of_getElem? (i := 1218) (by decide +kernel), List.mem_of_getElem? (i := 1219) (by decide +kernel)⟩
theorem lw_p45 : lw_okq (⟨"TwoViewsModel", "byteAt", "(I)I"⟩, 27) := ⟨⟨by decide +kernel, by decide +kernel⟩, List.mem_of_getElem? (i := 1103) (by decide +kernel), List.mem_of_getElem? (i := 1222) (by decide +kernel), List.mem_of_getElem? (i := 1223) (by decide +kernel)⟩
theorem lw_p46 : lw_okq (⟨"TwoViewsModel", "isWord", "(IIIIIII)Z"⟩, 27) := ⟨⟨by decide +kernel, by decide +kernel⟩, List.mem_of_getElem? (i := 1103) (by decide +kernel), List.mem_of_getElem? (i := 1229) (by decide +kernel), List.mem_of_getElem? (i := 1230) (by decide +kernel)⟩
theorem lw_p47 : lw_okq (⟨"TwoViewsModel", "tells", "(III)Z"⟩, 27) := ⟨⟨by decide +kernel, by decide +kernel⟩, List.mem_of_getElem? (i := 1103) (by decide +kernel), List.mem_of_getElem? (i := 1233) (by decide +kernel), List.mem_of_getElem? (i := 1234) (by decide +kernel)⟩
def lw_privs_3 : List (MethodName × Nat) := [(⟨"TwoViews$Maps", "middleAround", "(III)I"⟩, 6), (⟨"TwoViews$Matcher", "wasBefore", "(III)Z"⟩, 6), (⟨"TwoViews$Pieces", "howManyBefore", "(II)I"⟩, 7), (⟨"TwoViews$Maps", "comesFrom", "(IIII)I"⟩, 6), (⟨"TwoViews$RowChoice", "bestBefore", "(II)I"⟩, 4), (⟨"TwoViews$RowChoice", "priceBefore", "(III)I"⟩, 4), (⟨"TwoViews", "isWrong", "(IIII)Z"⟩, 12), (⟨"TwoViews", "needPlace", "(III)V"⟩, 12), (⟨"java/lang/Throwable", "fillInStackTrace", "(I)Ljava/lang/Throwable;"⟩, 6), (⟨"TwoViewsModel", "begins", "(II)V"⟩, 27), (⟨"TwoViewsModel", "empties", "()V"⟩, 27), (⟨"TwoViewsModel", "puts", "(I)V"⟩, 27), (⟨"TwoViewsModel", "go", "()V"⟩, 27), (⟨"TwoViewsModel", "byteAt", "(I)I"⟩, 27), (⟨"TwoViewsModel", "isWord", "(IIIIIII)Z"⟩, 27), (⟨"TwoViewsModel", "tells", "(III)Z"⟩, 27)]
theorem lw_r3 : ∀ q ∈ lw_privs_3, lw_okq q := List.forall_mem_cons.mpr ⟨lw_p32, List.forall_mem_cons.mpr ⟨lw_p33, List.forall_mem_cons.mpr ⟨lw_p34, List.forall_mem_cons.mpr ⟨lw_p35, List.forall_mem_cons.mpr ⟨lw_p36, List.forall_mem_cons.mpr ⟨lw_p37, List.forall_mem_cons.mpr ⟨lw_p38, List.forall_mem_cons.mpr ⟨lw_p39, List.forall_mem_cons.mpr ⟨lw_p40, List.forall_mem_cons.mpr ⟨lw_p41, List.forall_mem_cons.mpr ⟨lw_p42, List.forall_mem_cons.mpr ⟨lw_p43, List.forall_mem_cons.mpr ⟨lw_p44, List.forall_mem_cons.mpr ⟨lw_p45, List.forall_mem_cons.mpr ⟨lw_p46, List.forall_mem_cons.mpr ⟨lw_p47, fun _ h => absurd h List.not_mem_nil⟩⟩⟩⟩⟩⟩⟩⟩⟩⟩⟩⟩⟩⟩⟩⟩
theorem lw_p48 : lw_okq (⟨"TwoViewsModel", "number", "(II)Z"⟩, 27) := ⟨⟨by decide +kernel, by decide +kernel⟩, List.mem_of_getElem? (i := 1103) (by decide +kernel), List.mem_of_getElem? (i := 1237) (by decide +kernel), List.mem_of_getElem? (i := 1238) (by decide +kernel)⟩
theorem lw_p49 : lw_okq (⟨"TwoViewsModel", "isNumber", "()Z"⟩, 27) := ⟨⟨by decide +kernel, by decide +kernel⟩, List.mem_of_getElem? (i := 1103) (by decide +kernel), List.mem_of_getElem? (i := 1241) (by decide +kernel), List.mem_of_getElem? (i := 1242) (by decide +kernel)⟩
theorem lw_p50 : lw_okq (⟨"TwoViewsModel", "bad", "(II)Z"⟩, 27) := ⟨⟨by decide +kernel, by decide +kernel⟩, List.mem_of_getElem? (i := 1103) (by decide +kernel), List.mem_of_getElem? (i := 1245) (by decide +kernel), List.mem_of_getElem? (i := 1246) (by decide +kernel)⟩
theorem lw_p51 : lw_okq (⟨"TwoViewsModel", "line", "()Z"⟩, 27) := ⟨⟨by decide +kernel, by decide +kernel⟩, List.mem_of_getElem? (i := 1103) (by decide +kernel), List.mem_of_getElem? (i := 1249) (by decide +kernel), List.mem_of_getElem? (i := 1250) (by decide +kernel)⟩
theorem lw_p52 : lw_okq (⟨"TwoViewsModel", "penalty", "()Z"⟩, 27) := ⟨⟨by decide +kernel, by decide +kernel⟩, List.mem_of_getElem? (i := 1103) (by decide +kernel), List.mem_of_getElem? (i := 1253) (by decide +kernel), List.mem_of_getElem? (i := 1254) (by decide +kernel)⟩
theorem lw_p53 : lw_okq (⟨"TwoViewsModel", "row", "(I)Z"⟩, 27) := ⟨⟨by decide +kernel, by decide +kernel⟩, List.mem_of_getElem? (i := 1103) (by decide +kernel), List.mem_of_getElem? (i := 1257) (by decide +kernel), List.mem_of_getElem? (i := 1258) (by decide +kernel)⟩
theorem lw_p54 : lw_okq (⟨"TwoViewsModel", "keeps", "()V"⟩, 27) := ⟨⟨by decide +kernel, by decide +kernel⟩, List.mem_of_getElem? (i := 1103) (by decide +kernel), List.mem_of_getElem? (i := 1267) (by decide +kernel), List.mem_of_getElem? (i := 1268) (by decide +kernel)⟩
theorem lw_p55 : lw_okq (⟨"TwoViewsModel", "isAt", "(III)Z"⟩, 27) := ⟨⟨by decide +kernel, by decide +kernel⟩, List.mem_of_getElem? (i := 1103) (by decide +kernel), List.mem_of_getElem? (i := 1279) (by decide +kernel), List.mem_of_getElem? (i := 1280) (by decide +kernel)⟩
theorem lw_p56 : lw_okq (⟨"TwoViewsModel", "isPlace", "(II)Z"⟩, 27) := ⟨⟨by decide +kernel, by decide +kernel⟩, List.mem_of_getElem? (i := 1103) (by decide +kernel), List.mem_of_getElem? (i := 1283) (by decide +kernel), List.mem_of_getElem? (i := 1284) (by decide +kernel)⟩
theorem lw_p57 : lw_okq (⟨"TwoViewsModel", "valueAt", "(III)I"⟩, 27) := ⟨⟨by decide +kernel, by decide +kernel⟩, List.mem_of_getElem? (i := 1103) (by decide +kernel), List.mem_of_getElem? (i := 1287) (by decide +kernel), List.mem_of_getElem? (i := 1288) (by decide +kernel)⟩
theorem lw_p58 : lw_okq (⟨"TwoViewsModel", "canTune", "(II)Z"⟩, 27) := ⟨⟨by decide +kernel, by decide +kernel⟩, List.mem_of_getElem? (i := 1103) (by decide +kernel), List.mem_of_getElem? (i := 1295) (by decide +kernel), List.mem_of_getElem? (i := 1296) (by decide +kernel)⟩
theorem lw_p59 : lw_okq (⟨"TwoViewsModel", "texture", "(III)I"⟩, 27) := ⟨⟨by decide +kernel, by decide +kernel⟩, List.mem_of_getElem? (i := 1103) (by decide +kernel), List.mem_of_getElem? (i := 1311) (by decide +kernel), List.mem_of_getElem? (i := 1312) (by decide +kernel)⟩
theorem lw_p60 : lw_okq (⟨"TwoViewsModel", "layerAt", "(III)I"⟩, 27) := ⟨⟨by decide +kernel, by decide +kernel⟩, List.mem_of_getElem? (i := 1103) (by decide +kernel), List.mem_of_getElem? (i := 1315) (by decide +kernel), List.mem_of_getElem? (i := 1316) (by decide +kernel)⟩
theorem lw_p61 : lw_okq (⟨"TwoViewsModel", "edge", "(II)I"⟩, 27) := ⟨⟨by decide +kernel, by decide +kernel⟩, List.mem_of_getElem? (i := 1103) (by decide +kernel), List.mem_of_getElem? (i := 1319) (by decide +kernel), List.mem_of_getElem? (i := 1320) (by decide +kernel)⟩
theorem lw_p62 : lw_okq (⟨"TwoViewsModel", "truthAt", "(II)I"⟩, 27) := ⟨⟨by decide +kernel, by decide +kernel⟩, List.mem_of_getElem? (i := 1103) (by decide +kernel), List.mem_of_getElem? (i := 1329) (by decide +kernel), List.mem_of_getElem? (i := 1330) (by decide +kernel)⟩
theorem lw_p63 : lw_okq (⟨"TwoViewsModel", "isCovered", "(II)Z"⟩, 27) := ⟨⟨by decide +kernel, by decide +kernel⟩, List.mem_of_getElem? (i := 1103) (by decide +kernel), List.mem_of_getElem? (i := 1333) (by decide +kernel), List.mem_of_getElem? (i := 1334) (by decide +kernel)⟩
def lw_privs_4 : List (MethodName × Nat) := [(⟨"TwoViewsModel", "number", "(II)Z"⟩, 27), (⟨"TwoViewsModel", "isNumber", "()Z"⟩, 27), (⟨"TwoViewsModel", "bad", "(II)Z"⟩, 27), (⟨"TwoViewsModel", "line", "()Z"⟩, 27), (⟨"TwoViewsModel", "penalty", "()Z"⟩, 27), (⟨"TwoViewsModel", "row", "(I)Z"⟩, 27), (⟨"TwoViewsModel", "keeps", "()V"⟩, 27), (⟨"TwoViewsModel", "isAt", "(III)Z"⟩, 27), (⟨"TwoViewsModel", "isPlace", "(II)Z"⟩, 27), (⟨"TwoViewsModel", "valueAt", "(III)I"⟩, 27), (⟨"TwoViewsModel", "canTune", "(II)Z"⟩, 27), (⟨"TwoViewsModel", "texture", "(III)I"⟩, 27), (⟨"TwoViewsModel", "layerAt", "(III)I"⟩, 27), (⟨"TwoViewsModel", "edge", "(II)I"⟩, 27), (⟨"TwoViewsModel", "truthAt", "(II)I"⟩, 27), (⟨"TwoViewsModel", "isCovered", "(II)Z"⟩, 27)]
theorem lw_r4 : ∀ q ∈ lw_privs_4, lw_okq q := List.forall_mem_cons.mpr ⟨lw_p48, List.forall_mem_cons.mpr ⟨lw_p49, List.forall_mem_cons.mpr ⟨lw_p50, List.forall_mem_cons.mpr ⟨lw_p51, List.forall_mem_cons.mpr ⟨lw_p52, List.forall_mem_cons.mpr ⟨lw_p53, List.forall_mem_cons.mpr ⟨lw_p54, List.forall_mem_cons.mpr ⟨lw_p55, List.forall_mem_cons.mpr ⟨lw_p56, List.forall_mem_cons.mpr ⟨lw_p57, List.forall_mem_cons.mpr ⟨lw_p58, List.forall_mem_cons.mpr ⟨lw_p59, List.forall_mem_cons.mpr ⟨lw_p60, List.forall_mem_cons.mpr ⟨lw_p61, List.forall_mem_cons.mpr ⟨lw_p62, List.forall_mem_cons.mpr ⟨lw_p63, fun _ h => absurd h List.not_mem_nil⟩⟩⟩⟩⟩⟩⟩⟩⟩⟩⟩⟩⟩⟩⟩⟩
theorem lw_p64 : lw_okq (⟨"TwoViewsModel", "codeAt", "(III)I"⟩, 27) := ⟨⟨by decide +kernel, by decide +kernel⟩, List.mem_of_getElem? (i := 1103) (by decide +kernel), List.mem_of_getElem? (i := 1345) (by decide +kernel), List.mem_of_getElem? (i := 1346) (by decide +kernel)⟩
theorem lw_p65 : lw_okq (⟨"TwoViewsModel", "nearest", "(II)I"⟩, 27) := ⟨⟨by decide +kernel, by decide +kernel⟩, List.mem_of_getElem? (i := 1103) (by decide +kernel), List.mem_of_getElem? (i := 1349) (by decide +kernel), List.mem_of_getElem? (i := 1350) (by decide +kernel)⟩
theorem lw_p66 : lw_okq (⟨"TwoViewsModel", "laysCodes", "()V"⟩, 27) := ⟨⟨by decide +kernel, by decide +kernel⟩, List.mem_of_getElem? (i := 1103) (by decide +kernel), List.mem_of_getElem? (i := 1357) (by decide +kernel), List.mem_of_getElem? (i := 1358) (by decide +kernel)⟩
theorem lw_p67 : lw_okq (⟨"TwoViewsModel", "isFirst", "(III)Z"⟩, 27) := ⟨⟨by decide +kernel, by decide +kernel⟩, List.mem_of_getElem? (i := 1103) (by decide +kernel), List.mem_of_getElem? (i := 1368) (by decide +kernel), List.mem_of_getElem? (i := 1369) (by decide +kernel)⟩
theorem lw_p68 : lw_okq (⟨"TwoViewsModel", "isShift", "(III)Z"⟩, 27) := ⟨⟨by decide +kernel, by decide +kernel⟩, List.mem_of_getElem? (i := 1103) (by decide +kernel), List.mem_of_getElem? (i := 1376) (by decide +kernel), List.mem_of_getElem? (i := 1377) (by decide +kernel)⟩
theorem lw_p69 : lw_okq (⟨"TwoViewsModel", "costAt", "(III)I"⟩, 27) := ⟨⟨by decide +kernel, by decide +kernel⟩, List.mem_of_getElem? (i := 1103) (by decide +kernel), List.mem_of_getElem? (i := 1380) (by decide +kernel), List.mem_of_getElem? (i := 1381) (by decide +kernel)⟩
theorem lw_p70 : lw_okq (⟨"TwoViewsModel", "laysWay", "(I)V"⟩, 27) := ⟨⟨by decide +kernel, by decide +kernel⟩, List.mem_of_getElem? (i := 1103) (by decide +kernel), List.mem_of_getElem? (i := 1391) (by decide +kernel), List.mem_of_getElem? (i := 1392) (by decide +kernel)⟩
theorem lw_p71 : lw_okq (⟨"TwoViewsModel", "tellsBy", "(III)I"⟩, 27) := ⟨⟨by decide +kernel, by decide +kernel⟩, List.mem_of_getElem? (i := 1103) (by decide +kernel), List.mem_of_getElem? (i := 1401) (by decide +kernel), List.mem_of_getElem? (i := 1402) (by decide +kernel)⟩
theorem lw_p72 : lw_okq (⟨"TwoViewsModel", "leastOf", "([III)I"⟩, 27) := ⟨⟨by decide +kernel, by decide +kernel⟩, List.mem_of_getElem? (i := 1103) (by decide +kernel), List.mem_of_getElem? (i := 1405) (by decide +kernel), List.mem_of_getElem? (i := 1406) (by decide +kernel)⟩
theorem lw_p73 : lw_okq (⟨"TwoViewsModel", "laysSums", "()V"⟩, 27) := ⟨⟨by decide +kernel, by decide +kernel⟩, List.mem_of_getElem? (i := 1103) (by decide +kernel), List.mem_of_getElem? (i := 1417) (by decide +kernel), List.mem_of_getElem? (i := 1418) (by decide +kernel)⟩
theorem lw_p74 : lw_okq (⟨"TwoViewsModel", "laysShifts", "()V"⟩, 27) := ⟨⟨by decide +kernel, by decide +kernel⟩, List.mem_of_getElem? (i := 1103) (by decide +kernel), List.mem_of_getElem? (i := 1425) (by decide +kernel), List.mem_of_getElem? (i := 1426) (by decide +kernel)⟩
theorem lw_p75 : lw_okq (⟨"TwoViewsModel", "leftShift", "(II)I"⟩, 27) := ⟨⟨by decide +kernel, by decide +kernel⟩, List.mem_of_getElem? (i := 1103) (by decide +kernel), List.mem_of_getElem? (i := 1429) (by decide +kernel), List.mem_of_getElem? (i := 1430) (by decide +kernel)⟩
theorem lw_p76 : lw_okq (⟨"TwoViewsModel", "rightShift", "(II)I"⟩, 27) := ⟨⟨by decide +kernel, by decide +kernel⟩, List.mem_of_getElem? (i := 1103) (by decide +kernel), List.mem_of_getElem? (i := 1433) (by decide +kernel), List.mem_of_getElem? (i := 1434) (by decide +kernel)⟩
theorem lw_p77 : lw_okq (⟨"TwoViewsModel", "laysKinds", "()V"⟩, 27) := ⟨⟨by decide +kernel, by decide +kernel⟩, List.mem_of_getElem? (i := 1103) (by decide +kernel), List.mem_of_getElem? (i := 1445) (by decide +kernel), List.mem_of_getElem? (i := 1446) (by decide +kernel)⟩
theorem lw_p78 : lw_okq (⟨"TwoViewsModel", "kindAt", "(III)I"⟩, 27) := ⟨⟨by decide +kernel, by decide +kernel⟩, List.mem_of_getElem? (i := 1103) (by decide +kernel), List.mem_of_getElem? (i := 1449) (by decide +kernel), List.mem_of_getElem? (i := 1450) (by decide +kernel)⟩
theorem lw_p79 : lw_okq (⟨"TwoViewsModel", "laysPieces", "(I)V"⟩, 27) := ⟨⟨by decide +kernel, by decide +kernel⟩, List.mem_of_getElem? (i := 1103) (by decide +kernel), List.mem_of_getElem? (i := 1456) (by decide +kernel), List.mem_of_getElem? (i := 1457) (by decide +kernel)⟩
def lw_privs_5 : List (MethodName × Nat) := [(⟨"TwoViewsModel", "codeAt", "(III)I"⟩, 27), (⟨"TwoViewsModel", "nearest", "(II)I"⟩, 27), (⟨"TwoViewsModel", "laysCodes", "()V"⟩, 27), (⟨"TwoViewsModel", "isFirst", "(III)Z"⟩, 27), (⟨"TwoViewsModel", "isShift", "(III)Z"⟩, 27), (⟨"TwoViewsModel", "costAt", "(III)I"⟩, 27), (⟨"TwoViewsModel", "laysWay", "(I)V"⟩, 27), (⟨"TwoViewsModel", "tellsBy", "(III)I"⟩, 27), (⟨"TwoViewsModel", "leastOf", "([III)I"⟩, 27), (⟨"TwoViewsModel", "laysSums", "()V"⟩, 27), (⟨"TwoViewsModel", "laysShifts", "()V"⟩, 27), (⟨"TwoViewsModel", "leftShift", "(II)I"⟩, 27), (⟨"TwoViewsModel", "rightShift", "(II)I"⟩, 27), (⟨"TwoViewsModel", "laysKinds", "()V"⟩, 27), (⟨"TwoViewsModel", "kindAt", "(III)I"⟩, 27), (⟨"TwoViewsModel", "laysPieces", "(I)V"⟩, 27)]
theorem lw_r5 : ∀ q ∈ lw_privs_5, lw_okq q := List.forall_mem_cons.mpr ⟨lw_p64, List.forall_mem_cons.mpr ⟨lw_p65, List.forall_mem_cons.mpr ⟨lw_p66, List.forall_mem_cons.mpr ⟨lw_p67, List.forall_mem_cons.mpr ⟨lw_p68, List.forall_mem_cons.mpr ⟨lw_p69, List.forall_mem_cons.mpr ⟨lw_p70, List.forall_mem_cons.mpr ⟨lw_p71, List.forall_mem_cons.mpr ⟨lw_p72, List.forall_mem_cons.mpr ⟨lw_p73, List.forall_mem_cons.mpr ⟨lw_p74, List.forall_mem_cons.mpr ⟨lw_p75, List.forall_mem_cons.mpr ⟨lw_p76, List.forall_mem_cons.mpr ⟨lw_p77, List.forall_mem_cons.mpr ⟨lw_p78, List.forall_mem_cons.mpr ⟨lw_p79, fun _ h => absurd h List.not_mem_nil⟩⟩⟩⟩⟩⟩⟩⟩⟩⟩⟩⟩⟩⟩⟩⟩
theorem lw_p80 : lw_okq (⟨"TwoViewsModel", "lowers", "(IIIII)Z"⟩, 27) := ⟨⟨by decide +kernel, by decide +kernel⟩, List.mem_of_getElem? (i := 1103) (by decide +kernel), List.mem_of_getElem? (i := 1460) (by decide +kernel), List.mem_of_getElem? (i := 1461) (by decide +kernel)⟩
theorem lw_p81 : lw_okq (⟨"TwoViewsModel", "hang", "(IIIII)Z"⟩, 27) := ⟨⟨by decide +kernel, by decide +kernel⟩, List.mem_of_getElem? (i := 1103) (by decide +kernel), List.mem_of_getElem? (i := 1464) (by decide +kernel), List.mem_of_getElem? (i := 1465) (by decide +kernel)⟩
theorem lw_p82 : lw_okq (⟨"TwoViewsModel", "kindNow", "(III)I"⟩, 27) := ⟨⟨by decide +kernel, by decide +kernel⟩, List.mem_of_getElem? (i := 1103) (by decide +kernel), List.mem_of_getElem? (i := 1468) (by decide +kernel), List.mem_of_getElem? (i := 1469) (by decide +kernel)⟩
theorem lw_p83 : lw_okq (⟨"TwoViewsModel", "manyAt", "(III)I"⟩, 27) := ⟨⟨by decide +kernel, by decide +kernel⟩, List.mem_of_getElem? (i := 1103) (by decide +kernel), List.mem_of_getElem? (i := 1472) (by decide +kernel), List.mem_of_getElem? (i := 1473) (by decide +kernel)⟩
theorem lw_p84 : lw_okq (⟨"TwoViewsModel", "isKept", "(I)Z"⟩, 27) := ⟨⟨by decide +kernel, by decide +kernel⟩, List.mem_of_getElem? (i := 1103) (by decide +kernel), List.mem_of_getElem? (i := 1488) (by decide +kernel), List.mem_of_getElem? (i := 1489) (by decide +kernel)⟩
theorem lw_p85 : lw_okq (⟨"TwoViewsModel", "aheadOf", "(II)I"⟩, 27) := ⟨⟨by decide +kernel, by decide +kernel⟩, List.mem_of_getElem? (i := 1103) (by decide +kernel), List.mem_of_getElem? (i := 1496) (by decide +kernel), List.mem_of_getElem? (i := 1497) (by decide +kernel)⟩
theorem lw_p86 : lw_okq (⟨"TwoViewsModel", "tellsPiece", "(III)I"⟩, 27) := ⟨⟨by decide +kernel, by decide +kernel⟩, List.mem_of_getElem? (i := 1103) (by decide +kernel), List.mem_of_getElem? (i := 1500) (by decide +kernel), List.mem_of_getElem? (i := 1501) (by decide +kernel)⟩
theorem lw_p87 : lw_okq (⟨"TwoViewsModel", "laysFills", "()V"⟩, 27) := ⟨⟨by decide +kernel, by decide +kernel⟩, List.mem_of_getElem? (i := 1103) (by decide +kernel), List.mem_of_getElem? (i := 1508) (by decide +kernel), List.mem_of_getElem? (i := 1509) (by decide +kernel)⟩
theorem lw_p88 : lw_okq (⟨"TwoViewsModel", "hiddenFill", "(III)I"⟩, 27) := ⟨⟨by decide +kernel, by decide +kernel⟩, List.mem_of_getElem? (i := 1103) (by decide +kernel), List.mem_of_getElem? (i := 1512) (by decide +kernel), List.mem_of_getElem? (i := 1513) (by decide +kernel)⟩
theorem lw_p89 : lw_okq (⟨"TwoViewsModel", "nearestSure", "(IIIII)I"⟩, 27) := ⟨⟨by decide +kernel, by decide +kernel⟩, List.mem_of_getElem? (i := 1103) (by decide +kernel), List.mem_of_getElem? (i := 1516) (by decide +kernel), List.mem_of_getElem? (i := 1517) (by decide +kernel)⟩
theorem lw_p90 : lw_okq (⟨"TwoViewsModel", "unlikeFill", "(III)I"⟩, 27) := ⟨⟨by decide +kernel, by decide +kernel⟩, List.mem_of_getElem? (i := 1103) (by decide +kernel), List.mem_of_getElem? (i := 1520) (by decide +kernel), List.mem_of_getElem? (i := 1521) (by decide +kernel)⟩
theorem lw_p91 : lw_okq (⟨"TwoViewsModel", "votesFor", "(II)I"⟩, 27) := ⟨⟨by decide +kernel, by decide +kernel⟩, List.mem_of_getElem? (i := 1103) (by decide +kernel), List.mem_of_getElem? (i := 1537) (by decide +kernel), List.mem_of_getElem? (i := 1538) (by decide +kernel)⟩
theorem lw_p92 : lw_okq (⟨"TwoViewsModel", "betweenAt", "(III)I"⟩, 27) := ⟨⟨by decide +kernel, by decide +kernel⟩, List.mem_of_getElem? (i := 1103) (by decide +kernel), List.mem_of_getElem? (i := 1549) (by decide +kernel), List.mem_of_getElem? (i := 1550) (by decide +kernel)⟩
theorem lw_p93 : lw_okq (⟨"TwoViewsModel", "comesTo", "(IIII)I"⟩, 27) := ⟨⟨by decide +kernel, by decide +kernel⟩, List.mem_of_getElem? (i := 1103) (by decide +kernel), List.mem_of_getElem? (i := 1553) (by decide +kernel), List.mem_of_getElem? (i := 1554) (by decide +kernel)⟩
theorem lw_p94 : lw_okq (⟨"TwoViewsModel", "laysRow", "(I)I"⟩, 27) := ⟨⟨by decide +kernel, by decide +kernel⟩, List.mem_of_getElem? (i := 1103) (by decide +kernel), List.mem_of_getElem? (i := 1565) (by decide +kernel), List.mem_of_getElem? (i := 1566) (by decide +kernel)⟩
theorem lw_p95 : lw_okq (⟨"TwoViewsModel", "stepCost", "(II)I"⟩, 27) := ⟨⟨by decide +kernel, by decide +kernel⟩, List.mem_of_getElem? (i := 1103) (by decide +kernel), List.mem_of_getElem? (i := 1569) (by decide +kernel), List.mem_of_getElem? (i := 1570) (by decide +kernel)⟩
def lw_privs_6 : List (MethodName × Nat) := [(⟨"TwoViewsModel", "lowers", "(IIIII)Z"⟩, 27), (⟨"TwoViewsModel", "hang", "(IIIII)Z"⟩, 27), (⟨"TwoViewsModel", "kindNow", "(III)I"⟩, 27), (⟨"TwoViewsModel", "manyAt", "(III)I"⟩, 27), (⟨"TwoViewsModel", "isKept", "(I)Z"⟩, 27), (⟨"TwoViewsModel", "aheadOf", "(II)I"⟩, 27), (⟨"TwoViewsModel", "tellsPiece", "(III)I"⟩, 27), (⟨"TwoViewsModel", "laysFills", "()V"⟩, 27), (⟨"TwoViewsModel", "hiddenFill", "(III)I"⟩, 27), (⟨"TwoViewsModel", "nearestSure", "(IIIII)I"⟩, 27), (⟨"TwoViewsModel", "unlikeFill", "(III)I"⟩, 27), (⟨"TwoViewsModel", "votesFor", "(II)I"⟩, 27), (⟨"TwoViewsModel", "betweenAt", "(III)I"⟩, 27), (⟨"TwoViewsModel", "comesTo", "(IIII)I"⟩, 27), (⟨"TwoViewsModel", "laysRow", "(I)I"⟩, 27), (⟨"TwoViewsModel", "stepCost", "(II)I"⟩, 27)]
theorem lw_r6 : ∀ q ∈ lw_privs_6, lw_okq q := List.forall_mem_cons.mpr ⟨lw_p80, List.forall_mem_cons.mpr ⟨lw_p81, List.forall_mem_cons.mpr ⟨lw_p82, List.forall_mem_cons.mpr ⟨lw_p83, List.forall_mem_cons.mpr ⟨lw_p84, List.forall_mem_cons.mpr ⟨lw_p85, List.forall_mem_cons.mpr ⟨lw_p86, List.forall_mem_cons.mpr ⟨lw_p87, List.forall_mem_cons.mpr ⟨lw_p88, List.forall_mem_cons.mpr ⟨lw_p89, List.forall_mem_cons.mpr ⟨lw_p90, List.forall_mem_cons.mpr ⟨lw_p91, List.forall_mem_cons.mpr ⟨lw_p92, List.forall_mem_cons.mpr ⟨lw_p93, List.forall_mem_cons.mpr ⟨lw_p94, List.forall_mem_cons.mpr ⟨lw_p95, fun _ h => absurd h List.not_mem_nil⟩⟩⟩⟩⟩⟩⟩⟩⟩⟩⟩⟩⟩⟩⟩⟩
theorem lw_p96 : lw_okq (⟨"TwoViewsModel", "energyOf", "([I)I"⟩, 27) := ⟨⟨by decide +kernel, by decide +kernel⟩, List.mem_of_getElem? (i := 1103) (by decide +kernel), List.mem_of_getElem? (i := 1577) (by decide +kernel), List.mem_of_getElem? (i := 1578) (by decide +kernel)⟩
def lw_privs_7 : List (MethodName × Nat) := [(⟨"TwoViewsModel", "energyOf", "([I)I"⟩, 27)]
theorem lw_r7 : ∀ q ∈ lw_privs_7, lw_okq q := List.forall_mem_cons.mpr ⟨lw_p96, fun _ h => absurd h List.not_mem_nil⟩
def lw_privs : List (MethodName × Nat) := lw_privs_1 ++ (lw_privs_2 ++ (lw_privs_3 ++ (lw_privs_4 ++ (lw_privs_5 ++ (lw_privs_6 ++ (lw_privs_7))))))
def lw_tbl : List Cond := k2_sels lw_privs ++ tables_1
theorem lw_privs_ok : ∀ q ∈ lw_privs, lw_okq q := by
  show ∀ q ∈ lw_privs_1 ++ (lw_privs_2 ++ (lw_privs_3 ++ (lw_privs_4 ++ (lw_privs_5 ++ (lw_privs_6 ++ (lw_privs_7)))))), lw_okq q
  exact List.forall_mem_append.mpr ⟨lw_r1, List.forall_mem_append.mpr ⟨lw_r2, List.forall_mem_append.mpr ⟨lw_r3, List.forall_mem_append.mpr ⟨lw_r4, List.forall_mem_append.mpr ⟨lw_r5, List.forall_mem_append.mpr ⟨lw_r6, lw_r7⟩⟩⟩⟩⟩⟩
def RX0 : String := "TwoViews$Image"
def TX0 : u_T := fun k => match k with
  | 0 => ("TwoViews$Image", "made", "Z", false)
  | 1 => ("TwoViews$Image", "scene", "LTwoViews$Scene;", true)
  | _ => ("TwoViews$Image", "layers", "LTwoViews$Layers;", true)
def tyX0 : Nat → FieldType := fun k => match k with
  | 0 => .boolean
  | 1 => .object "TwoViews$Scene"
  | _ => .object "TwoViews$Layers"
abbrev wsX00 : List Cond := u_ws RX0 TX0 3
theorem nmX0 : ∀ a, a < 3 → ∀ b, b < 3 → a ≠ b → (TX0 a).2.1 ≠ (TX0 b).2.1 := by decide +kernel
theorem tyX0_ok : ∀ k, k < 3 → parseFieldDescriptor (TX0 k).2.2.1 = some (tyX0 k) := by decide +kernel
abbrev cX0_init : ByteArray := prog_2_method_1_code
def yX0_init : MethodName := ⟨RX0, "<init>", "()V"⟩
def RX1 : String := "TwoViews$Layers"
def TX1 : u_T := fun k => match k with
  | 0 => ("TwoViews$Layers", "held", "I", false)
  | 1 => ("TwoViews$Layers", "x", "[I", true)
  | 2 => ("TwoViews$Layers", "y", "[I", true)
  | 3 => ("TwoViews$Layers", "w", "[I", true)
  | 4 => ("TwoViews$Layers", "h", "[I", true)
  | 5 => ("TwoViews$Layers", "shift", "[I", true)
  | _ => ("TwoViews$Layers", "seed", "[I", true)
def tyX1 : Nat → FieldType := fun k => match k with
  | 0 => .int
  | 1 => .array .int
  | 2 => .array .int
  | 3 => .array .int
  | 4 => .array .int
  | 5 => .array .int
  | _ => .array .int
abbrev wsX10 : List Cond := u_ws RX1 TX1 7
theorem nmX1 : ∀ a, a < 7 → ∀ b, b < 7 → a ≠ b → (TX1 a).2.1 ≠ (TX1 b).2.1 := by decide +kernel
theorem tyX1_ok : ∀ k, k < 7 → parseFieldDescriptor (TX1 k).2.2.1 = some (tyX1 k) := by decide +kernel
abbrev cX1_init : ByteArray := prog_3_method_1_code
def yX1_init : MethodName := ⟨RX1, "<init>", "()V"⟩
abbrev cX1_become : ByteArray := prog_3_method_2_code
def yX1_become : MethodName := ⟨RX1, "become", "(LTwoViews$Layers;)V"⟩
abbrev cX1_leftEdge : ByteArray := prog_3_method_3_code
def yX1_leftEdge : MethodName := ⟨RX1, "leftEdge", "(II)I"⟩
abbrev cX1_seenAt : ByteArray := prog_3_method_4_code
def yX1_seenAt : MethodName := ⟨RX1, "seenAt", "(III)I"⟩
abbrev cX1_textureAt : ByteArray := prog_3_method_5_code
def yX1_textureAt : MethodName := ⟨RX1, "textureAt", "(IIII)I"⟩
abbrev cX1_isCovered : ByteArray := prog_3_method_6_code
def yX1_isCovered : MethodName := ⟨RX1, "isCovered", "(III)Z"⟩
def RX2 : String := "TwoViews$Lines"
def TX2 : u_T := fun k => match k with
  | 0 => ("TwoViews$Lines", "scene", "LTwoViews$Scene;", true)
  | 1 => ("TwoViews$Lines", "maps", "LTwoViews$Maps;", true)
  | _ => ("TwoViews$Lines", "inRow", "[I", true)
def tyX2 : Nat → FieldType := fun k => match k with
  | 0 => .object "TwoViews$Scene"
  | 1 => .object "TwoViews$Maps"
  | _ => .array .int
abbrev wsX20 : List Cond := u_ws RX2 TX2 3
theorem nmX2 : ∀ a, a < 3 → ∀ b, b < 3 → a ≠ b → (TX2 a).2.1 ≠ (TX2 b).2.1 := by decide +kernel
theorem tyX2_ok : ∀ k, k < 3 → parseFieldDescriptor (TX2 k).2.2.1 = some (tyX2 k) := by decide +kernel
abbrev cX2_init : ByteArray := prog_4_method_1_code
def yX2_init : MethodName := ⟨RX2, "<init>", "(LTwoViews$Scene;LTwoViews$Maps;)V"⟩
abbrev cX2_gather : ByteArray := prog_4_method_2_code
def yX2_gather : MethodName := ⟨RX2, "gather", "()I"⟩
abbrev cX2_votesFor : ByteArray := prog_4_method_3_code
def yX2_votesFor : MethodName := ⟨RX2, "votesFor", "(II)I"⟩
abbrev cX2_bestLine : ByteArray := prog_4_method_4_code
def yX2_bestLine : MethodName := ⟨RX2, "bestLine", "(I)I"⟩
def RX3 : String := "TwoViews$Maps"
def TX3 : u_T := fun k => match k with
  | 0 => ("TwoViews$Maps", "shifts", "[I", true)
  | 1 => ("TwoViews$Maps", "kinds", "[I", true)
  | 2 => ("TwoViews$Maps", "filled", "[I", true)
  | 3 => ("TwoViews$Maps", "scene", "LTwoViews$Scene;", true)
  | 4 => ("TwoViews$Maps", "matcher", "LTwoViews$Matcher;", true)
  | _ => ("TwoViews$Maps", "found", "[I", true)
def tyX3 : Nat → FieldType := fun k => match k with
  | 0 => .array .int
  | 1 => .array .int
  | 2 => .array .int
  | 3 => .object "TwoViews$Scene"
  | 4 => .object "TwoViews$Matcher"
  | _ => .array .int
abbrev wsX30 : List Cond := u_ws RX3 TX3 6
theorem nmX3 : ∀ a, a < 6 → ∀ b, b < 6 → a ≠ b → (TX3 a).2.1 ≠ (TX3 b).2.1 := by decide +kernel
theorem tyX3_ok : ∀ k, k < 6 → parseFieldDescriptor (TX3 k).2.2.1 = some (tyX3 k) := by decide +kernel
abbrev cX3_init : ByteArray := prog_5_method_1_code
def yX3_init : MethodName := ⟨RX3, "<init>", "(LTwoViews$Scene;LTwoViews$Matcher;)V"⟩
abbrev cX3_makeShifts : ByteArray := prog_5_method_2_code
def yX3_makeShifts : MethodName := ⟨RX3, "makeShifts", "()V"⟩
abbrev cX3_bestOfLeft : ByteArray := prog_5_method_3_code
def yX3_bestOfLeft : MethodName := ⟨RX3, "bestOfLeft", "(II)I"⟩
abbrev cX3_bestOfRight : ByteArray := prog_5_method_4_code
def yX3_bestOfRight : MethodName := ⟨RX3, "bestOfRight", "(II)I"⟩
abbrev cX3_marginAt : ByteArray := prog_5_method_5_code
def yX3_marginAt : MethodName := ⟨RX3, "marginAt", "(II)I"⟩
abbrev cX3_fineAt : ByteArray := prog_5_method_6_code
def yX3_fineAt : MethodName := ⟨RX3, "fineAt", "(II)I"⟩
abbrev cX3_makeKinds : ByteArray := prog_5_method_7_code
def yX3_makeKinds : MethodName := ⟨RX3, "makeKinds", "()V"⟩
abbrev cX3_kindBySight : ByteArray := prog_5_method_8_code
def yX3_kindBySight : MethodName := ⟨RX3, "kindBySight", "(III)I"⟩
abbrev cX3_shiftSeen : ByteArray := prog_5_method_9_code
def yX3_shiftSeen : MethodName := ⟨RX3, "shiftSeen", "(IIII)I"⟩
abbrev cX3_howManyOf : ByteArray := prog_5_method_10_code
def yX3_howManyOf : MethodName := ⟨RX3, "howManyOf", "(II)I"⟩
abbrev cX3_makeFilled : ByteArray := prog_5_method_11_code
def yX3_makeFilled : MethodName := ⟨RX3, "makeFilled", "()V"⟩
abbrev cX3_fillingOf : ByteArray := prog_5_method_12_code
def yX3_fillingOf : MethodName := ⟨RX3, "fillingOf", "(III)I"⟩
abbrev cX3_lesserBeside : ByteArray := prog_5_method_13_code
def yX3_lesserBeside : MethodName := ⟨RX3, "lesserBeside", "(III)I"⟩
abbrev cX3_middleAround : ByteArray := prog_5_method_14_code
def yX3_middleAround : MethodName := ⟨RX3, "middleAround", "(III)I"⟩
abbrev cX3_nearestSure : ByteArray := prog_5_method_15_code
def yX3_nearestSure : MethodName := ⟨RX3, "nearestSure", "(IIII)I"⟩
abbrev cX3_valueBetween : ByteArray := prog_5_method_16_code
def yX3_valueBetween : MethodName := ⟨RX3, "valueBetween", "(III)I"⟩
abbrev cX3_comesFrom : ByteArray := prog_5_method_17_code
def yX3_comesFrom : MethodName := ⟨RX3, "comesFrom", "(IIII)I"⟩
abbrev cX3_quarters : ByteArray := prog_5_method_18_code
def yX3_quarters : MethodName := ⟨RX3, "quarters", "(II)I"⟩
abbrev cX3_priceOf : ByteArray := prog_5_method_19_code
def yX3_priceOf : MethodName := ⟨RX3, "priceOf", "([I)I"⟩
def RX4 : String := "TwoViews$Matcher"
def TX4 : u_T := fun k => match k with
  | 0 => ("TwoViews$Matcher", "codes", "[I", true)
  | 1 => ("TwoViews$Matcher", "costs", "[I", true)
  | 2 => ("TwoViews$Matcher", "sums", "[I", true)
  | 3 => ("TwoViews$Matcher", "told", "[I", true)
  | 4 => ("TwoViews$Matcher", "scene", "LTwoViews$Scene;", true)
  | _ => ("TwoViews$Matcher", "toldWay", "I", false)
def tyX4 : Nat → FieldType := fun k => match k with
  | 0 => .array .int
  | 1 => .array .int
  | 2 => .array .int
  | 3 => .array .int
  | 4 => .object "TwoViews$Scene"
  | _ => .int
abbrev wsX40 : List Cond := u_ws RX4 TX4 6
theorem nmX4 : ∀ a, a < 6 → ∀ b, b < 6 → a ≠ b → (TX4 a).2.1 ≠ (TX4 b).2.1 := by decide +kernel
theorem tyX4_ok : ∀ k, k < 6 → parseFieldDescriptor (TX4 k).2.2.1 = some (tyX4 k) := by decide +kernel
abbrev cX4_init : ByteArray := prog_6_method_1_code
def yX4_init : MethodName := ⟨RX4, "<init>", "(LTwoViews$Scene;)V"⟩
abbrev cX4_makeCodes : ByteArray := prog_6_method_2_code
def yX4_makeCodes : MethodName := ⟨RX4, "makeCodes", "()V"⟩
abbrev cX4_codeBits : ByteArray := prog_6_method_3_code
def yX4_codeBits : MethodName := ⟨RX4, "codeBits", "(III)I"⟩
abbrev cX4_nearest : ByteArray := prog_6_method_4_code
def yX4_nearest : MethodName := ⟨RX4, "nearest", "(II)I"⟩
abbrev cX4_makeCosts : ByteArray := prog_6_method_5_code
def yX4_makeCosts : MethodName := ⟨RX4, "makeCosts", "()V"⟩
abbrev cX4_unlikeBits : ByteArray := prog_6_method_6_code
def yX4_unlikeBits : MethodName := ⟨RX4, "unlikeBits", "(III)I"⟩
abbrev cX4_howOften : ByteArray := prog_6_method_7_code
def yX4_howOften : MethodName := ⟨RX4, "howOften", "(II)I"⟩
abbrev cX4_unlikeCodes : ByteArray := prog_6_method_8_code
def yX4_unlikeCodes : MethodName := ⟨RX4, "unlikeCodes", "(I)I"⟩
abbrev cX4_wasBefore : ByteArray := prog_6_method_9_code
def yX4_wasBefore : MethodName := ⟨RX4, "wasBefore", "(III)Z"⟩
abbrev cX4_forgetWay : ByteArray := prog_6_method_10_code
def yX4_forgetWay : MethodName := ⟨RX4, "forgetWay", "()V"⟩
abbrev cX4_makeSums : ByteArray := prog_6_method_11_code
def yX4_makeSums : MethodName := ⟨RX4, "makeSums", "()V"⟩
abbrev cX4_addTold : ByteArray := prog_6_method_12_code
def yX4_addTold : MethodName := ⟨RX4, "addTold", "()V"⟩
abbrev cX4_tell : ByteArray := prog_6_method_13_code
def yX4_tell : MethodName := ⟨RX4, "tell", "(I)V"⟩
abbrev cX4_begin : ByteArray := prog_6_method_14_code
def yX4_begin : MethodName := ⟨RX4, "begin", "(I)V"⟩
abbrev cX4_goOn : ByteArray := prog_6_method_15_code
def yX4_goOn : MethodName := ⟨RX4, "goOn", "(II)V"⟩
def RX5 : String := "TwoViews$Past"
def TX5 : u_T := fun k => match k with
  | 0 => ("TwoViews$Past", "held", "I", false)
  | 1 => ("TwoViews$Past", "next", "I", false)
  | _ => ("TwoViews$Past", "kept", "[LTwoViews$Scene;", true)
def tyX5 : Nat → FieldType := fun k => match k with
  | 0 => .int
  | 1 => .int
  | _ => .array (.object "TwoViews$Scene")
abbrev wsX50 : List Cond := u_ws RX5 TX5 3
theorem nmX5 : ∀ a, a < 3 → ∀ b, b < 3 → a ≠ b → (TX5 a).2.1 ≠ (TX5 b).2.1 := by decide +kernel
theorem tyX5_ok : ∀ k, k < 3 → parseFieldDescriptor (TX5 k).2.2.1 = some (tyX5 k) := by decide +kernel
abbrev cX5_init : ByteArray := prog_7_method_1_code
def yX5_init : MethodName := ⟨RX5, "<init>", "()V"⟩
abbrev cX5_keep : ByteArray := prog_7_method_2_code
def yX5_keep : MethodName := ⟨RX5, "keep", "(LTwoViews$Scene;)V"⟩
abbrev cX5_giveBack : ByteArray := prog_7_method_3_code
def yX5_giveBack : MethodName := ⟨RX5, "giveBack", "(LTwoViews$Scene;)V"⟩
def RX6 : String := "TwoViews$Pieces"
def TX6 : u_T := fun k => match k with
  | 0 => ("TwoViews$Pieces", "scene", "LTwoViews$Scene;", true)
  | 1 => ("TwoViews$Pieces", "maps", "LTwoViews$Maps;", true)
  | 2 => ("TwoViews$Pieces", "pieceOf", "[I", true)
  | 3 => ("TwoViews$Pieces", "sizes", "[I", true)
  | 4 => ("TwoViews$Pieces", "made", "[I", true)
  | 5 => ("TwoViews$Pieces", "waiting", "[I", true)
  | _ => ("TwoViews$Pieces", "waits", "I", false)
def tyX6 : Nat → FieldType := fun k => match k with
  | 0 => .object "TwoViews$Scene"
  | 1 => .object "TwoViews$Maps"
  | 2 => .array .int
  | 3 => .array .int
  | 4 => .array .int
  | 5 => .array .int
  | _ => .int
abbrev wsX60 : List Cond := u_ws RX6 TX6 7
theorem nmX6 : ∀ a, a < 7 → ∀ b, b < 7 → a ≠ b → (TX6 a).2.1 ≠ (TX6 b).2.1 := by decide +kernel
theorem tyX6_ok : ∀ k, k < 7 → parseFieldDescriptor (TX6 k).2.2.1 = some (tyX6 k) := by decide +kernel
abbrev cX6_init : ByteArray := prog_8_method_1_code
def yX6_init : MethodName := ⟨RX6, "<init>", "(LTwoViews$Scene;LTwoViews$Maps;)V"⟩
abbrev cX6_makePieces : ByteArray := prog_8_method_2_code
def yX6_makePieces : MethodName := ⟨RX6, "makePieces", "(I)V"⟩
abbrev cX6_grow : ByteArray := prog_8_method_3_code
def yX6_grow : MethodName := ⟨RX6, "grow", "(III)V"⟩
abbrev cX6_join : ByteArray := prog_8_method_4_code
def yX6_join : MethodName := ⟨RX6, "join", "(IIII)V"⟩
abbrev cX6_lookAround : ByteArray := prog_8_method_5_code
def yX6_lookAround : MethodName := ⟨RX6, "lookAround", "(III)V"⟩
abbrev cX6_isFree : ByteArray := prog_8_method_6_code
def yX6_isFree : MethodName := ⟨RX6, "isFree", "(II)Z"⟩
abbrev cX6_dropSmall : ByteArray := prog_8_method_7_code
def yX6_dropSmall : MethodName := ⟨RX6, "dropSmall", "(I)V"⟩
abbrev cX6_stays : ByteArray := prog_8_method_8_code
def yX6_stays : MethodName := ⟨RX6, "stays", "(II)Z"⟩
abbrev cX6_sizeAt : ByteArray := prog_8_method_9_code
def yX6_sizeAt : MethodName := ⟨RX6, "sizeAt", "(II)I"⟩
abbrev cX6_howManyStay : ByteArray := prog_8_method_10_code
def yX6_howManyStay : MethodName := ⟨RX6, "howManyStay", "(I)I"⟩
abbrev cX6_greatest : ByteArray := prog_8_method_11_code
def yX6_greatest : MethodName := ⟨RX6, "greatest", "(I)I"⟩
abbrev cX6_ranked : ByteArray := prog_8_method_12_code
def yX6_ranked : MethodName := ⟨RX6, "ranked", "(II)I"⟩
abbrev cX6_howManyBefore : ByteArray := prog_8_method_13_code
def yX6_howManyBefore : MethodName := ⟨RX6, "howManyBefore", "(II)I"⟩
abbrev cX6_tellOf : ByteArray := prog_8_method_14_code
def yX6_tellOf : MethodName := ⟨RX6, "tellOf", "(III)I"⟩
def RX7 : String := "TwoViews$Reader"
def TX7 : u_T := fun k => match k with
  | 0 => ("TwoViews$Reader", "told", "LTwoViews$Scene;", true)
  | 1 => ("TwoViews$Reader", "tape", "LTwoViews$Tape;", true)
  | 2 => ("TwoViews$Reader", "end", "I", false)
  | 3 => ("TwoViews$Reader", "start", "I", false)
  | 4 => ("TwoViews$Reader", "stop", "I", false)
  | _ => ("TwoViews$Reader", "fault", "I", false)
def tyX7 : Nat → FieldType := fun k => match k with
  | 0 => .object "TwoViews$Scene"
  | 1 => .object "TwoViews$Tape"
  | 2 => .int
  | 3 => .int
  | 4 => .int
  | _ => .int
abbrev wsX70 : List Cond := u_ws RX7 TX7 6
theorem nmX7 : ∀ a, a < 6 → ∀ b, b < 6 → a ≠ b → (TX7 a).2.1 ≠ (TX7 b).2.1 := by decide +kernel
theorem tyX7_ok : ∀ k, k < 6 → parseFieldDescriptor (TX7 k).2.2.1 = some (tyX7 k) := by decide +kernel
abbrev cX7_init : ByteArray := prog_9_method_1_code
def yX7_init : MethodName := ⟨RX7, "<init>", "(LTwoViews$Tape;)V"⟩
abbrev cX7_readText : ByteArray := prog_9_method_2_code
def yX7_readText : MethodName := ⟨RX7, "readText", "(ILTwoViews$Scene;)I"⟩
abbrev cX7_takeDefaults : ByteArray := prog_9_method_3_code
def yX7_takeDefaults : MethodName := ⟨RX7, "takeDefaults", "(LTwoViews$Scene;)V"⟩
abbrev cX7_takeSize : ByteArray := prog_9_method_4_code
def yX7_takeSize : MethodName := ⟨RX7, "takeSize", "()V"⟩
abbrev cX7_takeLine : ByteArray := prog_9_method_5_code
def yX7_takeLine : MethodName := ⟨RX7, "takeLine", "()V"⟩
abbrev cX7_takeDial : ByteArray := prog_9_method_6_code
def yX7_takeDial : MethodName := ⟨RX7, "takeDial", "(I)V"⟩
abbrev cX7_takePenalties : ByteArray := prog_9_method_7_code
def yX7_takePenalties : MethodName := ⟨RX7, "takePenalties", "()V"⟩
abbrev cX7_takeRow : ByteArray := prog_9_method_8_code
def yX7_takeRow : MethodName := ⟨RX7, "takeRow", "(I)V"⟩
abbrev cX7_takeNumber : ByteArray := prog_9_method_9_code
def yX7_takeNumber : MethodName := ⟨RX7, "takeNumber", "(II)I"⟩
abbrev cX7_numberTold : ByteArray := prog_9_method_10_code
def yX7_numberTold : MethodName := ⟨RX7, "numberTold", "()I"⟩
abbrev cX7_advance : ByteArray := prog_9_method_11_code
def yX7_advance : MethodName := ⟨RX7, "advance", "()V"⟩
abbrev cX7_isToken : ByteArray := prog_9_method_12_code
def yX7_isToken : MethodName := ⟨RX7, "isToken", "(Ljava/lang/String;)Z"⟩
abbrev cX7_fail : ByteArray := prog_9_method_13_code
def yX7_fail : MethodName := ⟨RX7, "fail", "(II)V"⟩
abbrev cX7_isBlank : ByteArray := prog_9_method_14_code
def yX7_isBlank : MethodName := ⟨RX7, "isBlank", "(I)Z"⟩
abbrev cX7_isDigit : ByteArray := prog_9_method_15_code
def yX7_isDigit : MethodName := ⟨RX7, "isDigit", "(I)Z"⟩
abbrev cX7_isWordSign : ByteArray := prog_9_method_16_code
def yX7_isWordSign : MethodName := ⟨RX7, "isWordSign", "(I)Z"⟩
abbrev cX7_valueOf : ByteArray := prog_9_method_17_code
def yX7_valueOf : MethodName := ⟨RX7, "valueOf", "(I)I"⟩
def RX8 : String := "TwoViews$RowChoice"
def TX8 : u_T := fun k => match k with
  | 0 => ("TwoViews$RowChoice", "chosen", "[I", true)
  | 1 => ("TwoViews$RowChoice", "scene", "LTwoViews$Scene;", true)
  | 2 => ("TwoViews$RowChoice", "matcher", "LTwoViews$Matcher;", true)
  | _ => ("TwoViews$RowChoice", "totals", "[I", true)
def tyX8 : Nat → FieldType := fun k => match k with
  | 0 => .array .int
  | 1 => .object "TwoViews$Scene"
  | 2 => .object "TwoViews$Matcher"
  | _ => .array .int
abbrev wsX80 : List Cond := u_ws RX8 TX8 4
theorem nmX8 : ∀ a, a < 4 → ∀ b, b < 4 → a ≠ b → (TX8 a).2.1 ≠ (TX8 b).2.1 := by decide +kernel
theorem tyX8_ok : ∀ k, k < 4 → parseFieldDescriptor (TX8 k).2.2.1 = some (tyX8 k) := by decide +kernel
abbrev cX8_init : ByteArray := prog_10_method_1_code
def yX8_init : MethodName := ⟨RX8, "<init>", "(LTwoViews$Scene;LTwoViews$Matcher;)V"⟩
abbrev cX8_choose : ByteArray := prog_10_method_2_code
def yX8_choose : MethodName := ⟨RX8, "choose", "(I)I"⟩
abbrev cX8_bestBefore : ByteArray := prog_10_method_3_code
def yX8_bestBefore : MethodName := ⟨RX8, "bestBefore", "(II)I"⟩
abbrev cX8_priceBefore : ByteArray := prog_10_method_4_code
def yX8_priceBefore : MethodName := ⟨RX8, "priceBefore", "(III)I"⟩
def RX9 : String := "TwoViews$Scene"
def TX9 : u_T := fun k => match k with
  | 0 => ("TwoViews$Scene", "w", "I", false)
  | 1 => ("TwoViews$Scene", "h", "I", false)
  | 2 => ("TwoViews$Scene", "dials", "[I", true)
  | _ => ("TwoViews$Scene", "values", "[I", true)
def tyX9 : Nat → FieldType := fun k => match k with
  | 0 => .int
  | 1 => .int
  | 2 => .array .int
  | _ => .array .int
abbrev wsX90 : List Cond := u_ws RX9 TX9 4
theorem nmX9 : ∀ a, a < 4 → ∀ b, b < 4 → a ≠ b → (TX9 a).2.1 ≠ (TX9 b).2.1 := by decide +kernel
theorem tyX9_ok : ∀ k, k < 4 → parseFieldDescriptor (TX9 k).2.2.1 = some (tyX9 k) := by decide +kernel
abbrev cX9_init : ByteArray := prog_11_method_1_code
def yX9_init : MethodName := ⟨RX9, "<init>", "()V"⟩
abbrev cX9_become : ByteArray := prog_11_method_2_code
def yX9_become : MethodName := ⟨RX9, "become", "(LTwoViews$Scene;)V"⟩
abbrev cX9_blank : ByteArray := prog_11_method_3_code
def yX9_blank : MethodName := ⟨RX9, "blank", "(II)V"⟩
abbrev cX9_hasSpot : ByteArray := prog_11_method_4_code
def yX9_hasSpot : MethodName := ⟨RX9, "hasSpot", "(II)Z"⟩
abbrev cX9_has : ByteArray := prog_11_method_5_code
def yX9_has : MethodName := ⟨RX9, "has", "(III)Z"⟩
abbrev cX9_isShift : ByteArray := prog_11_method_6_code
def yX9_isShift : MethodName := ⟨RX9, "isShift", "(I)Z"⟩
abbrev cX9_mayTune : ByteArray := prog_11_method_7_code
def yX9_mayTune : MethodName := ⟨RX9, "mayTune", "(II)Z"⟩
abbrev cX9_bits : ByteArray := prog_11_method_8_code
def yX9_bits : MethodName := ⟨RX9, "bits", "()I"⟩
abbrev cX9_stepPrice : ByteArray := prog_11_method_9_code
def yX9_stepPrice : MethodName := ⟨RX9, "stepPrice", "(II)I"⟩
def RX10 : String := "TwoViews$Tape"
def TX10 : u_T := fun k => match k with
  | 0 => ("TwoViews$Tape", "length", "I", false)
  | _ => ("TwoViews$Tape", "bytes", "[B", true)
def tyX10 : Nat → FieldType := fun k => match k with
  | 0 => .int
  | _ => .array .byte
abbrev wsX100 : List Cond := u_ws RX10 TX10 2
theorem nmX10 : ∀ a, a < 2 → ∀ b, b < 2 → a ≠ b → (TX10 a).2.1 ≠ (TX10 b).2.1 := by decide +kernel
theorem tyX10_ok : ∀ k, k < 2 → parseFieldDescriptor (TX10 k).2.2.1 = some (tyX10 k) := by decide +kernel
abbrev cX10_init : ByteArray := prog_12_method_1_code
def yX10_init : MethodName := ⟨RX10, "<init>", "()V"⟩
abbrev cX10_hasRoomFor : ByteArray := prog_12_method_2_code
def yX10_hasRoomFor : MethodName := ⟨RX10, "hasRoomFor", "(I)Z"⟩
abbrev cX10_append : ByteArray := prog_12_method_3_code
def yX10_append : MethodName := ⟨RX10, "append", "(I)V"⟩
abbrev cX10_signAt : ByteArray := prog_12_method_4_code
def yX10_signAt : MethodName := ⟨RX10, "signAt", "(I)I"⟩
def RX11 : String := "TwoViews"
def TX11 : u_T := fun k => match k with
  | 0 => ("TwoViews", "scene", "LTwoViews$Scene;", true)
  | 1 => ("TwoViews", "layers", "LTwoViews$Layers;", true)
  | 2 => ("TwoViews", "tape", "LTwoViews$Tape;", true)
  | 3 => ("TwoViews", "reader", "LTwoViews$Reader;", true)
  | 4 => ("TwoViews", "past", "LTwoViews$Past;", true)
  | 5 => ("TwoViews", "images", "[LTwoViews$Image;", true)
  | 6 => ("TwoViews", "matcher", "LTwoViews$Matcher;", true)
  | 7 => ("TwoViews", "maps", "LTwoViews$Maps;", true)
  | 8 => ("TwoViews", "parts", "LTwoViews$Pieces;", true)
  | 9 => ("TwoViews", "rowChoice", "LTwoViews$RowChoice;", true)
  | 10 => ("TwoViews", "lines", "LTwoViews$Lines;", true)
  | _ => ("TwoViews", "stage", "I", false)
def tyX11 : Nat → FieldType := fun k => match k with
  | 0 => .object "TwoViews$Scene"
  | 1 => .object "TwoViews$Layers"
  | 2 => .object "TwoViews$Tape"
  | 3 => .object "TwoViews$Reader"
  | 4 => .object "TwoViews$Past"
  | 5 => .array (.object "TwoViews$Image")
  | 6 => .object "TwoViews$Matcher"
  | 7 => .object "TwoViews$Maps"
  | 8 => .object "TwoViews$Pieces"
  | 9 => .object "TwoViews$RowChoice"
  | 10 => .object "TwoViews$Lines"
  | _ => .int
abbrev wsX110 : List Cond := u_ws RX11 TX11 12
theorem nmX11 : ∀ a, a < 12 → ∀ b, b < 12 → a ≠ b → (TX11 a).2.1 ≠ (TX11 b).2.1 := by decide +kernel
theorem tyX11_ok : ∀ k, k < 12 → parseFieldDescriptor (TX11 k).2.2.1 = some (tyX11 k) := by decide +kernel
abbrev cX11_init : ByteArray := prog_1_method_1_code
def yX11_init : MethodName := ⟨RX11, "<init>", "()V"⟩
abbrev cX11_feed : ByteArray := prog_1_method_2_code
def yX11_feed : MethodName := ⟨RX11, "feed", "(IIIII)I"⟩
abbrev cX11_text : ByteArray := prog_1_method_3_code
def yX11_text : MethodName := ⟨RX11, "text", "(I)I"⟩
abbrev cX11_size : ByteArray := prog_1_method_4_code
def yX11_size : MethodName := ⟨RX11, "size", "(II)Z"⟩
abbrev cX11_value : ByteArray := prog_1_method_5_code
def yX11_value : MethodName := ⟨RX11, "value", "(IIII)I"⟩
abbrev cX11_tune : ByteArray := prog_1_method_6_code
def yX11_tune : MethodName := ⟨RX11, "tune", "(II)I"⟩
abbrev cX11_layer : ByteArray := prog_1_method_7_code
def yX11_layer : MethodName := ⟨RX11, "layer", "(IIIIII)I"⟩
abbrev cX11_clear : ByteArray := prog_1_method_8_code
def yX11_clear : MethodName := ⟨RX11, "clear", "()I"⟩
abbrev cX11_draw : ByteArray := prog_1_method_9_code
def yX11_draw : MethodName := ⟨RX11, "draw", "()I"⟩
abbrev cX11_truth : ByteArray := prog_1_method_10_code
def yX11_truth : MethodName := ⟨RX11, "truth", "(III)I"⟩
abbrev cX11_at : ByteArray := prog_1_method_11_code
def yX11_at : MethodName := ⟨RX11, "at", "(III)I"⟩
abbrev cX11_code : ByteArray := prog_1_method_12_code
def yX11_code : MethodName := ⟨RX11, "code", "(III)I"⟩
abbrev cX11_same : ByteArray := prog_1_method_13_code
def yX11_same : MethodName := ⟨RX11, "same", "(III)I"⟩
abbrev cX11_codes : ByteArray := prog_1_method_14_code
def yX11_codes : MethodName := ⟨RX11, "codes", "(I)I"⟩
abbrev cX11_cost : ByteArray := prog_1_method_15_code
def yX11_cost : MethodName := ⟨RX11, "cost", "(III)I"⟩
abbrev cX11_path : ByteArray := prog_1_method_16_code
def yX11_path : MethodName := ⟨RX11, "path", "(IIII)I"⟩
abbrev cX11_sum : ByteArray := prog_1_method_17_code
def yX11_sum : MethodName := ⟨RX11, "sum", "(III)I"⟩
abbrev cX11_shift : ByteArray := prog_1_method_18_code
def yX11_shift : MethodName := ⟨RX11, "shift", "(III)I"⟩
abbrev cX11_margin : ByteArray := prog_1_method_19_code
def yX11_margin : MethodName := ⟨RX11, "margin", "(II)I"⟩
abbrev cX11_kind : ByteArray := prog_1_method_20_code
def yX11_kind : MethodName := ⟨RX11, "kind", "(III)I"⟩
abbrev cX11_kinds : ByteArray := prog_1_method_21_code
def yX11_kinds : MethodName := ⟨RX11, "kinds", "(II)I"⟩
abbrev cX11_piece : ByteArray := prog_1_method_22_code
def yX11_piece : MethodName := ⟨RX11, "piece", "(III)I"⟩
abbrev cX11_pieces : ByteArray := prog_1_method_23_code
def yX11_pieces : MethodName := ⟨RX11, "pieces", "(II)I"⟩
abbrev cX11_pieceAt : ByteArray := prog_1_method_24_code
def yX11_pieceAt : MethodName := ⟨RX11, "pieceAt", "(III)I"⟩
abbrev cX11_fine : ByteArray := prog_1_method_25_code
def yX11_fine : MethodName := ⟨RX11, "fine", "(II)I"⟩
abbrev cX11_ground : ByteArray := prog_1_method_26_code
def yX11_ground : MethodName := ⟨RX11, "ground", "(I)I"⟩
abbrev cX11_votes : ByteArray := prog_1_method_27_code
def yX11_votes : MethodName := ⟨RX11, "votes", "(II)I"⟩
abbrev cX11_between : ByteArray := prog_1_method_28_code
def yX11_between : MethodName := ⟨RX11, "between", "(III)I"⟩
abbrev cX11_holes : ByteArray := prog_1_method_29_code
def yX11_holes : MethodName := ⟨RX11, "holes", "(I)I"⟩
abbrev cX11_filled : ByteArray := prog_1_method_30_code
def yX11_filled : MethodName := ⟨RX11, "filled", "(III)I"⟩
abbrev cX11_depth : ByteArray := prog_1_method_31_code
def yX11_depth : MethodName := ⟨RX11, "depth", "(II)I"⟩
abbrev cX11_row : ByteArray := prog_1_method_32_code
def yX11_row : MethodName := ⟨RX11, "row", "(II)I"⟩
abbrev cX11_energy : ByteArray := prog_1_method_33_code
def yX11_energy : MethodName := ⟨RX11, "energy", "(I)I"⟩
abbrev cX11_wrong : ByteArray := prog_1_method_34_code
def yX11_wrong : MethodName := ⟨RX11, "wrong", "(II)I"⟩
abbrev cX11_undo : ByteArray := prog_1_method_35_code
def yX11_undo : MethodName := ⟨RX11, "undo", "()I"⟩
abbrev cX11_image : ByteArray := prog_1_method_36_code
def yX11_image : MethodName := ⟨RX11, "image", "(I)Z"⟩
abbrev cX11_back : ByteArray := prog_1_method_37_code
def yX11_back : MethodName := ⟨RX11, "back", "(I)Z"⟩
abbrev cX11_count : ByteArray := prog_1_method_38_code
def yX11_count : MethodName := ⟨RX11, "count", "(I)I"⟩
abbrev cX11_isWithin : ByteArray := prog_1_method_39_code
def yX11_isWithin : MethodName := ⟨RX11, "isWithin", "(III)Z"⟩
abbrev cX11_isView : ByteArray := prog_1_method_40_code
def yX11_isView : MethodName := ⟨RX11, "isView", "(I)Z"⟩
abbrev cX11_spotOf : ByteArray := prog_1_method_41_code
def yX11_spotOf : MethodName := ⟨RX11, "spotOf", "(III)I"⟩
abbrev cX11_cellOf : ByteArray := prog_1_method_42_code
def yX11_cellOf : MethodName := ⟨RX11, "cellOf", "(III)I"⟩
abbrev cX11_needPlace : ByteArray := prog_1_method_43_code
def yX11_needPlace : MethodName := ⟨RX11, "needPlace", "(III)V"⟩
abbrev cX11_beginAct : ByteArray := prog_1_method_44_code
def yX11_beginAct : MethodName := ⟨RX11, "beginAct", "(I)V"⟩
abbrev cX11_keepUpTo : ByteArray := prog_1_method_45_code
def yX11_keepUpTo : MethodName := ⟨RX11, "keepUpTo", "(I)V"⟩
abbrev cX11_reach : ByteArray := prog_1_method_46_code
def yX11_reach : MethodName := ⟨RX11, "reach", "(I)V"⟩
abbrev cX11_isWrong : ByteArray := prog_1_method_47_code
def yX11_isWrong : MethodName := ⟨RX11, "isWrong", "(IIII)Z"⟩
def RX12 : String := "TwoViewsModel"
def TX12 : u_T := fun k => match k with
  | 0 => ("TwoViewsModel", "thrown", "I", false)
  | 1 => ("TwoViewsModel", "m", "[I", true)
  | 2 => ("TwoViewsModel", "past", "[I", true)
  | 3 => ("TwoViewsModel", "pastMany", "I", false)
  | 4 => ("TwoViewsModel", "layers", "[I", true)
  | 5 => ("TwoViewsModel", "layerMany", "I", false)
  | 6 => ("TwoViewsModel", "tape", "[B", true)
  | 7 => ("TwoViewsModel", "taped", "I", false)
  | 8 => ("TwoViewsModel", "size", "I", false)
  | 9 => ("TwoViewsModel", "from", "I", false)
  | 10 => ("TwoViewsModel", "next", "I", false)
  | 11 => ("TwoViewsModel", "token", "I", false)
  | 12 => ("TwoViewsModel", "fault", "I", false)
  | 13 => ("TwoViewsModel", "read", "[I", true)
  | 14 => ("TwoViewsModel", "number", "I", false)
  | 15 => ("TwoViewsModel", "codes", "[I", true)
  | 16 => ("TwoViewsModel", "way", "[I", true)
  | 17 => ("TwoViewsModel", "sums", "[I", true)
  | 18 => ("TwoViewsModel", "shifts", "[I", true)
  | 19 => ("TwoViewsModel", "kinds", "[I", true)
  | 20 => ("TwoViewsModel", "pieceOf", "[I", true)
  | 21 => ("TwoViewsModel", "pieceMany", "[I", true)
  | 22 => ("TwoViewsModel", "fills", "[I", true)
  | 23 => ("TwoViewsModel", "costs", "[I", true)
  | 24 => ("TwoViewsModel", "row", "[I", true)
  | 25 => ("TwoViewsModel", "images", "[I", true)
  | _ => ("TwoViewsModel", "imaged", "I", false)
def tyX12 : Nat → FieldType := fun k => match k with
  | 0 => .int
  | 1 => .array .int
  | 2 => .array .int
  | 3 => .int
  | 4 => .array .int
  | 5 => .int
  | 6 => .array .byte
  | 7 => .int
  | 8 => .int
  | 9 => .int
  | 10 => .int
  | 11 => .int
  | 12 => .int
  | 13 => .array .int
  | 14 => .int
  | 15 => .array .int
  | 16 => .array .int
  | 17 => .array .int
  | 18 => .array .int
  | 19 => .array .int
  | 20 => .array .int
  | 21 => .array .int
  | 22 => .array .int
  | 23 => .array .int
  | 24 => .array .int
  | 25 => .array .int
  | _ => .int
abbrev wsX120 : List Cond := u_ws RX12 TX12 27
theorem nmX12 : ∀ a, a < 27 → ∀ b, b < 27 → a ≠ b → (TX12 a).2.1 ≠ (TX12 b).2.1 := by decide +kernel
theorem tyX12_ok : ∀ k, k < 27 → parseFieldDescriptor (TX12 k).2.2.1 = some (tyX12 k) := by decide +kernel
abbrev cX12_thrown : ByteArray := prog_14_method_1_code
def yX12_thrown : MethodName := ⟨RX12, "thrown", "()I"⟩
abbrev cX12_within : ByteArray := prog_14_method_2_code
def yX12_within : MethodName := ⟨RX12, "within", "(III)Z"⟩
abbrev cX12_init : ByteArray := prog_14_method_3_code
def yX12_init : MethodName := ⟨RX12, "<init>", "()V"⟩
abbrev cX12_begins : ByteArray := prog_14_method_4_code
def yX12_begins : MethodName := ⟨RX12, "begins", "(II)V"⟩
abbrev cX12_empties : ByteArray := prog_14_method_5_code
def yX12_empties : MethodName := ⟨RX12, "empties", "()V"⟩
abbrev cX12_keeps : ByteArray := prog_14_method_6_code
def yX12_keeps : MethodName := ⟨RX12, "keeps", "()V"⟩
abbrev cX12_undo : ByteArray := prog_14_method_7_code
def yX12_undo : MethodName := ⟨RX12, "undo", "()I"⟩
abbrev cX12_isPlace : ByteArray := prog_14_method_8_code
def yX12_isPlace : MethodName := ⟨RX12, "isPlace", "(II)Z"⟩
abbrev cX12_isAt : ByteArray := prog_14_method_9_code
def yX12_isAt : MethodName := ⟨RX12, "isAt", "(III)Z"⟩
abbrev cX12_cell : ByteArray := prog_14_method_10_code
def yX12_cell : MethodName := ⟨RX12, "cell", "(III)I"⟩
abbrev cX12_valueAt : ByteArray := prog_14_method_11_code
def yX12_valueAt : MethodName := ⟨RX12, "valueAt", "(III)I"⟩
abbrev cX12_feed : ByteArray := prog_14_method_12_code
def yX12_feed : MethodName := ⟨RX12, "feed", "(IIIII)I"⟩
abbrev cX12_puts : ByteArray := prog_14_method_13_code
def yX12_puts : MethodName := ⟨RX12, "puts", "(I)V"⟩
abbrev cX12_byteAt : ByteArray := prog_14_method_14_code
def yX12_byteAt : MethodName := ⟨RX12, "byteAt", "(I)I"⟩
abbrev cX12_isRun : ByteArray := prog_14_method_15_code
def yX12_isRun : MethodName := ⟨RX12, "isRun", "(I)Z"⟩
abbrev cX12_go : ByteArray := prog_14_method_16_code
def yX12_go : MethodName := ⟨RX12, "go", "()V"⟩
abbrev cX12_bad : ByteArray := prog_14_method_17_code
def yX12_bad : MethodName := ⟨RX12, "bad", "(II)Z"⟩
abbrev cX12_isWord : ByteArray := prog_14_method_18_code
def yX12_isWord : MethodName := ⟨RX12, "isWord", "(IIIIIII)Z"⟩
abbrev cX12_isNumber : ByteArray := prog_14_method_19_code
def yX12_isNumber : MethodName := ⟨RX12, "isNumber", "()Z"⟩
abbrev cX12_number : ByteArray := prog_14_method_20_code
def yX12_number : MethodName := ⟨RX12, "number", "(II)Z"⟩
abbrev cX12_tells : ByteArray := prog_14_method_21_code
def yX12_tells : MethodName := ⟨RX12, "tells", "(III)Z"⟩
abbrev cX12_hexOf : ByteArray := prog_14_method_22_code
def yX12_hexOf : MethodName := ⟨RX12, "hexOf", "(I)I"⟩
abbrev cX12_row : ByteArray := prog_14_method_23_code
def yX12_row : MethodName := ⟨RX12, "row", "(I)Z"⟩
abbrev cX12_penalty : ByteArray := prog_14_method_24_code
def yX12_penalty : MethodName := ⟨RX12, "penalty", "()Z"⟩
abbrev cX12_line : ByteArray := prog_14_method_25_code
def yX12_line : MethodName := ⟨RX12, "line", "()Z"⟩
abbrev cX12_text : ByteArray := prog_14_method_26_code
def yX12_text : MethodName := ⟨RX12, "text", "(I)I"⟩
abbrev cX12_size : ByteArray := prog_14_method_27_code
def yX12_size : MethodName := ⟨RX12, "size", "(II)Z"⟩
abbrev cX12_value : ByteArray := prog_14_method_28_code
def yX12_value : MethodName := ⟨RX12, "value", "(IIII)I"⟩
abbrev cX12_canTune : ByteArray := prog_14_method_29_code
def yX12_canTune : MethodName := ⟨RX12, "canTune", "(II)Z"⟩
abbrev cX12_tune : ByteArray := prog_14_method_30_code
def yX12_tune : MethodName := ⟨RX12, "tune", "(II)I"⟩
abbrev cX12_layer : ByteArray := prog_14_method_31_code
def yX12_layer : MethodName := ⟨RX12, "layer", "(IIIIII)I"⟩
abbrev cX12_clear : ByteArray := prog_14_method_32_code
def yX12_clear : MethodName := ⟨RX12, "clear", "()I"⟩
abbrev cX12_edge : ByteArray := prog_14_method_33_code
def yX12_edge : MethodName := ⟨RX12, "edge", "(II)I"⟩
abbrev cX12_layerAt : ByteArray := prog_14_method_34_code
def yX12_layerAt : MethodName := ⟨RX12, "layerAt", "(III)I"⟩
abbrev cX12_texture : ByteArray := prog_14_method_35_code
def yX12_texture : MethodName := ⟨RX12, "texture", "(III)I"⟩
abbrev cX12_draw : ByteArray := prog_14_method_36_code
def yX12_draw : MethodName := ⟨RX12, "draw", "()I"⟩
abbrev cX12_truthAt : ByteArray := prog_14_method_37_code
def yX12_truthAt : MethodName := ⟨RX12, "truthAt", "(II)I"⟩
abbrev cX12_isCovered : ByteArray := prog_14_method_38_code
def yX12_isCovered : MethodName := ⟨RX12, "isCovered", "(II)Z"⟩
abbrev cX12_truth : ByteArray := prog_14_method_39_code
def yX12_truth : MethodName := ⟨RX12, "truth", "(III)I"⟩
abbrev cX12_at : ByteArray := prog_14_method_40_code
def yX12_at : MethodName := ⟨RX12, "at", "(III)I"⟩
abbrev cX12_nearest : ByteArray := prog_14_method_41_code
def yX12_nearest : MethodName := ⟨RX12, "nearest", "(II)I"⟩
abbrev cX12_codeAt : ByteArray := prog_14_method_42_code
def yX12_codeAt : MethodName := ⟨RX12, "codeAt", "(III)I"⟩
abbrev cX12_codeCell : ByteArray := prog_14_method_43_code
def yX12_codeCell : MethodName := ⟨RX12, "codeCell", "(III)I"⟩
abbrev cX12_laysCodes : ByteArray := prog_14_method_44_code
def yX12_laysCodes : MethodName := ⟨RX12, "laysCodes", "()V"⟩
abbrev cX12_code : ByteArray := prog_14_method_45_code
def yX12_code : MethodName := ⟨RX12, "code", "(III)I"⟩
abbrev cX12_same : ByteArray := prog_14_method_46_code
def yX12_same : MethodName := ⟨RX12, "same", "(III)I"⟩
abbrev cX12_isFirst : ByteArray := prog_14_method_47_code
def yX12_isFirst : MethodName := ⟨RX12, "isFirst", "(III)Z"⟩
abbrev cX12_codes : ByteArray := prog_14_method_48_code
def yX12_codes : MethodName := ⟨RX12, "codes", "(I)I"⟩
abbrev cX12_bitsOf : ByteArray := prog_14_method_49_code
def yX12_bitsOf : MethodName := ⟨RX12, "bitsOf", "(I)I"⟩
abbrev cX12_costAt : ByteArray := prog_14_method_50_code
def yX12_costAt : MethodName := ⟨RX12, "costAt", "(III)I"⟩
abbrev cX12_isShift : ByteArray := prog_14_method_51_code
def yX12_isShift : MethodName := ⟨RX12, "isShift", "(III)Z"⟩
abbrev cX12_cost : ByteArray := prog_14_method_52_code
def yX12_cost : MethodName := ⟨RX12, "cost", "(III)I"⟩
abbrev cX12_byX : ByteArray := prog_14_method_53_code
def yX12_byX : MethodName := ⟨RX12, "byX", "(I)I"⟩
abbrev cX12_byY : ByteArray := prog_14_method_54_code
def yX12_byY : MethodName := ⟨RX12, "byY", "(I)I"⟩
abbrev cX12_sumCell : ByteArray := prog_14_method_55_code
def yX12_sumCell : MethodName := ⟨RX12, "sumCell", "(III)I"⟩
abbrev cX12_leastOf : ByteArray := prog_14_method_56_code
def yX12_leastOf : MethodName := ⟨RX12, "leastOf", "([III)I"⟩
abbrev cX12_tellsBy : ByteArray := prog_14_method_57_code
def yX12_tellsBy : MethodName := ⟨RX12, "tellsBy", "(III)I"⟩
abbrev cX12_laysWay : ByteArray := prog_14_method_58_code
def yX12_laysWay : MethodName := ⟨RX12, "laysWay", "(I)V"⟩
abbrev cX12_laysSums : ByteArray := prog_14_method_59_code
def yX12_laysSums : MethodName := ⟨RX12, "laysSums", "()V"⟩
abbrev cX12_path : ByteArray := prog_14_method_60_code
def yX12_path : MethodName := ⟨RX12, "path", "(IIII)I"⟩
abbrev cX12_sum : ByteArray := prog_14_method_61_code
def yX12_sum : MethodName := ⟨RX12, "sum", "(III)I"⟩
abbrev cX12_leftShift : ByteArray := prog_14_method_62_code
def yX12_leftShift : MethodName := ⟨RX12, "leftShift", "(II)I"⟩
abbrev cX12_rightShift : ByteArray := prog_14_method_63_code
def yX12_rightShift : MethodName := ⟨RX12, "rightShift", "(II)I"⟩
abbrev cX12_laysShifts : ByteArray := prog_14_method_64_code
def yX12_laysShifts : MethodName := ⟨RX12, "laysShifts", "()V"⟩
abbrev cX12_across : ByteArray := prog_14_method_65_code
def yX12_across : MethodName := ⟨RX12, "across", "(III)I"⟩
abbrev cX12_kindAt : ByteArray := prog_14_method_66_code
def yX12_kindAt : MethodName := ⟨RX12, "kindAt", "(III)I"⟩
abbrev cX12_laysKinds : ByteArray := prog_14_method_67_code
def yX12_laysKinds : MethodName := ⟨RX12, "laysKinds", "()V"⟩
abbrev cX12_hang : ByteArray := prog_14_method_68_code
def yX12_hang : MethodName := ⟨RX12, "hang", "(IIIII)Z"⟩
abbrev cX12_lowers : ByteArray := prog_14_method_69_code
def yX12_lowers : MethodName := ⟨RX12, "lowers", "(IIIII)Z"⟩
abbrev cX12_laysPieces : ByteArray := prog_14_method_70_code
def yX12_laysPieces : MethodName := ⟨RX12, "laysPieces", "(I)V"⟩
abbrev cX12_manyAt : ByteArray := prog_14_method_71_code
def yX12_manyAt : MethodName := ⟨RX12, "manyAt", "(III)I"⟩
abbrev cX12_kindNow : ByteArray := prog_14_method_72_code
def yX12_kindNow : MethodName := ⟨RX12, "kindNow", "(III)I"⟩
abbrev cX12_shift : ByteArray := prog_14_method_73_code
def yX12_shift : MethodName := ⟨RX12, "shift", "(III)I"⟩
abbrev cX12_margin : ByteArray := prog_14_method_74_code
def yX12_margin : MethodName := ⟨RX12, "margin", "(II)I"⟩
abbrev cX12_kind : ByteArray := prog_14_method_75_code
def yX12_kind : MethodName := ⟨RX12, "kind", "(III)I"⟩
abbrev cX12_kinds : ByteArray := prog_14_method_76_code
def yX12_kinds : MethodName := ⟨RX12, "kinds", "(II)I"⟩
abbrev cX12_piece : ByteArray := prog_14_method_77_code
def yX12_piece : MethodName := ⟨RX12, "piece", "(III)I"⟩
abbrev cX12_isKept : ByteArray := prog_14_method_78_code
def yX12_isKept : MethodName := ⟨RX12, "isKept", "(I)Z"⟩
abbrev cX12_pieces : ByteArray := prog_14_method_79_code
def yX12_pieces : MethodName := ⟨RX12, "pieces", "(II)I"⟩
abbrev cX12_aheadOf : ByteArray := prog_14_method_80_code
def yX12_aheadOf : MethodName := ⟨RX12, "aheadOf", "(II)I"⟩
abbrev cX12_tellsPiece : ByteArray := prog_14_method_81_code
def yX12_tellsPiece : MethodName := ⟨RX12, "tellsPiece", "(III)I"⟩
abbrev cX12_pieceAt : ByteArray := prog_14_method_82_code
def yX12_pieceAt : MethodName := ⟨RX12, "pieceAt", "(III)I"⟩
abbrev cX12_nearestSure : ByteArray := prog_14_method_83_code
def yX12_nearestSure : MethodName := ⟨RX12, "nearestSure", "(IIIII)I"⟩
abbrev cX12_hiddenFill : ByteArray := prog_14_method_84_code
def yX12_hiddenFill : MethodName := ⟨RX12, "hiddenFill", "(III)I"⟩
abbrev cX12_unlikeFill : ByteArray := prog_14_method_85_code
def yX12_unlikeFill : MethodName := ⟨RX12, "unlikeFill", "(III)I"⟩
abbrev cX12_laysFills : ByteArray := prog_14_method_86_code
def yX12_laysFills : MethodName := ⟨RX12, "laysFills", "()V"⟩
abbrev cX12_filled : ByteArray := prog_14_method_87_code
def yX12_filled : MethodName := ⟨RX12, "filled", "(III)I"⟩
abbrev cX12_depth : ByteArray := prog_14_method_88_code
def yX12_depth : MethodName := ⟨RX12, "depth", "(II)I"⟩
abbrev cX12_fine : ByteArray := prog_14_method_89_code
def yX12_fine : MethodName := ⟨RX12, "fine", "(II)I"⟩
abbrev cX12_votesFor : ByteArray := prog_14_method_90_code
def yX12_votesFor : MethodName := ⟨RX12, "votesFor", "(II)I"⟩
abbrev cX12_votes : ByteArray := prog_14_method_91_code
def yX12_votes : MethodName := ⟨RX12, "votes", "(II)I"⟩
abbrev cX12_ground : ByteArray := prog_14_method_92_code
def yX12_ground : MethodName := ⟨RX12, "ground", "(I)I"⟩
abbrev cX12_comesTo : ByteArray := prog_14_method_93_code
def yX12_comesTo : MethodName := ⟨RX12, "comesTo", "(IIII)I"⟩
abbrev cX12_betweenAt : ByteArray := prog_14_method_94_code
def yX12_betweenAt : MethodName := ⟨RX12, "betweenAt", "(III)I"⟩
abbrev cX12_between : ByteArray := prog_14_method_95_code
def yX12_between : MethodName := ⟨RX12, "between", "(III)I"⟩
abbrev cX12_holes : ByteArray := prog_14_method_96_code
def yX12_holes : MethodName := ⟨RX12, "holes", "(I)I"⟩
abbrev cX12_stepCost : ByteArray := prog_14_method_97_code
def yX12_stepCost : MethodName := ⟨RX12, "stepCost", "(II)I"⟩
abbrev cX12_laysRow : ByteArray := prog_14_method_98_code
def yX12_laysRow : MethodName := ⟨RX12, "laysRow", "(I)I"⟩
abbrev cX12_row_ : ByteArray := prog_14_method_99_code
def yX12_row_ : MethodName := ⟨RX12, "row", "(II)I"⟩
abbrev cX12_energyOf : ByteArray := prog_14_method_100_code
def yX12_energyOf : MethodName := ⟨RX12, "energyOf", "([I)I"⟩
abbrev cX12_energy : ByteArray := prog_14_method_101_code
def yX12_energy : MethodName := ⟨RX12, "energy", "(I)I"⟩
abbrev cX12_wrong : ByteArray := prog_14_method_102_code
def yX12_wrong : MethodName := ⟨RX12, "wrong", "(II)I"⟩
abbrev cX12_image : ByteArray := prog_14_method_103_code
def yX12_image : MethodName := ⟨RX12, "image", "(I)Z"⟩
abbrev cX12_back : ByteArray := prog_14_method_104_code
def yX12_back : MethodName := ⟨RX12, "back", "(I)Z"⟩
abbrev cX12_count : ByteArray := prog_14_method_105_code
def yX12_count : MethodName := ⟨RX12, "count", "(I)I"⟩
def RJx145de : String := "java/io/Serializable"
def TJx145de : u_T := fun k => match k with
  | _ => ("", "", "", false)
def tyJx145de : Nat → FieldType := fun k => match k with
  | _ => .int
abbrev wsJx145de0 : List Cond := u_ws RJx145de TJx145de 0
theorem nmJx145de : ∀ a, a < 0 → ∀ b, b < 0 → a ≠ b → (TJx145de a).2.1 ≠ (TJx145de b).2.1 := by decide +kernel
theorem tyJx145de_ok : ∀ k, k < 0 → parseFieldDescriptor (TJx145de k).2.2.1 = some (tyJx145de k) := by decide +kernel
def RJx9f9b0 : String := "java/lang/CharSequence"
def TJx9f9b0 : u_T := fun k => match k with
  | _ => ("", "", "", false)
def tyJx9f9b0 : Nat → FieldType := fun k => match k with
  | _ => .int
abbrev wsJx9f9b00 : List Cond := u_ws RJx9f9b0 TJx9f9b0 0
theorem nmJx9f9b0 : ∀ a, a < 0 → ∀ b, b < 0 → a ≠ b → (TJx9f9b0 a).2.1 ≠ (TJx9f9b0 b).2.1 := by decide +kernel
theorem tyJx9f9b0_ok : ∀ k, k < 0 → parseFieldDescriptor (TJx9f9b0 k).2.2.1 = some (tyJx9f9b0 k) := by decide +kernel
def RJxb160c : String := "java/lang/Comparable"
def TJxb160c : u_T := fun k => match k with
  | _ => ("", "", "", false)
def tyJxb160c : Nat → FieldType := fun k => match k with
  | _ => .int
abbrev wsJxb160c0 : List Cond := u_ws RJxb160c TJxb160c 0
theorem nmJxb160c : ∀ a, a < 0 → ∀ b, b < 0 → a ≠ b → (TJxb160c a).2.1 ≠ (TJxb160c b).2.1 := by decide +kernel
theorem tyJxb160c_ok : ∀ k, k < 0 → parseFieldDescriptor (TJxb160c k).2.2.1 = some (tyJxb160c k) := by decide +kernel
def RJ6 : String := "java/lang/Integer"
def TJ6 : u_T := fun k => match k with
  | _ => ("", "", "", false)
def tyJ6 : Nat → FieldType := fun k => match k with
  | _ => .int
abbrev wsJ60 : List Cond := u_ws RJ6 TJ6 0
theorem nmJ6 : ∀ a, a < 0 → ∀ b, b < 0 → a ≠ b → (TJ6 a).2.1 ≠ (TJ6 b).2.1 := by decide +kernel
theorem tyJ6_ok : ∀ k, k < 0 → parseFieldDescriptor (TJ6 k).2.2.1 = some (tyJ6 k) := by decide +kernel
abbrev cJ6_bitCount_0f7a4 : ByteArray := prog_19_method_49_code
def yJ6_bitCount_0f7a4 : MethodName := ⟨RJ6, "bitCount", "(I)I"⟩
def RJ9 : String := "java/lang/Math"
def TJ9 : u_T := fun k => match k with
  | _ => ("", "", "", false)
def tyJ9 : Nat → FieldType := fun k => match k with
  | _ => .int
abbrev wsJ90 : List Cond := u_ws RJ9 TJ9 0
theorem nmJ9 : ∀ a, a < 0 → ∀ b, b < 0 → a ≠ b → (TJ9 a).2.1 ≠ (TJ9 b).2.1 := by decide +kernel
theorem tyJ9_ok : ∀ k, k < 0 → parseFieldDescriptor (TJ9 k).2.2.1 = some (tyJ9 k) := by decide +kernel
abbrev cJ9_floorDiv_7cf53 : ByteArray := prog_20_method_47_code
def yJ9_floorDiv_7cf53 : MethodName := ⟨RJ9, "floorDiv", "(II)I"⟩
abbrev cJ9_abs_0f7a4 : ByteArray := prog_20_method_59_code
def yJ9_abs_0f7a4 : MethodName := ⟨RJ9, "abs", "(I)I"⟩
abbrev cJ9_max_7cf53 : ByteArray := prog_20_method_65_code
def yJ9_max_7cf53 : MethodName := ⟨RJ9, "max", "(II)I"⟩
abbrev cJ9_min_7cf53 : ByteArray := prog_20_method_69_code
def yJ9_min_7cf53 : MethodName := ⟨RJ9, "min", "(II)I"⟩
def RJ0 : String := "java/lang/String"
def TJ0 : u_T := fun k => match k with
  | _ => ("", "", "", false)
def tyJ0 : Nat → FieldType := fun k => match k with
  | _ => .int
abbrev wsJ00 : List Cond := u_ws RJ0 TJ0 0
theorem nmJ0 : ∀ a, a < 0 → ∀ b, b < 0 → a ≠ b → (TJ0 a).2.1 ≠ (TJ0 b).2.1 := by decide +kernel
theorem tyJ0_ok : ∀ k, k < 0 → parseFieldDescriptor (TJ0 k).2.2.1 = some (tyJ0 k) := by decide +kernel
abbrev cJ0_length_8abf5 : ByteArray := prog_22_method_54_code
def yJ0_length_8abf5 : MethodName := ⟨RJ0, "length", "()I"⟩
abbrev cJ0_charAt_5068e : ByteArray := prog_22_method_56_code
def yJ0_charAt_5068e : MethodName := ⟨RJ0, "charAt", "(I)C"⟩
abbrev cJ0_coder_7d493 : ByteArray := prog_22_method_152_code
def yJ0_coder_7d493 : MethodName := ⟨RJ0, "coder", "()B"⟩
abbrev cJ0_isLatin1_aae02 : ByteArray := prog_22_method_154_code
def yJ0_isLatin1_aae02 : MethodName := ⟨RJ0, "isLatin1", "()Z"⟩
abbrev cJ0_checkIndex_df160 : ByteArray := prog_22_method_155_code
def yJ0_checkIndex_df160 : MethodName := ⟨RJ0, "checkIndex", "(II)V"⟩
def RJ1 : String := "java/lang/StringLatin1"
def TJ1 : u_T := fun k => match k with
  | _ => ("", "", "", false)
def tyJ1 : Nat → FieldType := fun k => match k with
  | _ => .int
abbrev wsJ10 : List Cond := u_ws RJ1 TJ1 0
theorem nmJ1 : ∀ a, a < 0 → ∀ b, b < 0 → a ≠ b → (TJ1 a).2.1 ≠ (TJ1 b).2.1 := by decide +kernel
theorem tyJ1_ok : ∀ k, k < 0 → parseFieldDescriptor (TJ1 k).2.2.1 = some (tyJ1 k) := by decide +kernel
abbrev cJ1_charAt_3b067 : ByteArray := prog_23_method_2_code
def yJ1_charAt_3b067 : MethodName := ⟨RJ1, "charAt", "([BI)C"⟩
def RJ2 : String := "java/lang/StringUTF16"
def TJ2 : u_T := fun k => match k with
  | _ => ("", "", "", false)
def tyJ2 : Nat → FieldType := fun k => match k with
  | _ => .int
abbrev wsJ20 : List Cond := u_ws RJ2 TJ2 0
theorem nmJ2 : ∀ a, a < 0 → ∀ b, b < 0 → a ≠ b → (TJ2 a).2.1 ≠ (TJ2 b).2.1 := by decide +kernel
theorem tyJ2_ok : ∀ k, k < 0 → parseFieldDescriptor (TJ2 k).2.2.1 = some (tyJ2 k) := by decide +kernel
abbrev cJ2_getChar_3b067 : ByteArray := prog_24_method_5_code
def yJ2_getChar_3b067 : MethodName := ⟨RJ2, "getChar", "([BI)C"⟩
abbrev cJ2_length_9d52b : ByteArray := prog_24_method_6_code
def yJ2_length_9d52b : MethodName := ⟨RJ2, "length", "([B)I"⟩
abbrev cJ2_charAt_3b067 : ByteArray := prog_24_method_83_code
def yJ2_charAt_3b067 : MethodName := ⟨RJ2, "charAt", "([BI)C"⟩
abbrev cJ2_checkIndex_2214a : ByteArray := prog_24_method_91_code
def yJ2_checkIndex_2214a : MethodName := ⟨RJ2, "checkIndex", "(I[B)V"⟩
def RJ10 : String := "java/lang/System"
def TJ10 : u_T := fun k => match k with
  | _ => ("", "", "", false)
def tyJ10 : Nat → FieldType := fun k => match k with
  | _ => .int
abbrev wsJ100 : List Cond := u_ws RJ10 TJ10 0
theorem nmJ10 : ∀ a, a < 0 → ∀ b, b < 0 → a ≠ b → (TJ10 a).2.1 ≠ (TJ10 b).2.1 := by decide +kernel
theorem tyJ10_ok : ∀ k, k < 0 → parseFieldDescriptor (TJ10 k).2.2.1 = some (tyJ10 k) := by decide +kernel
def RJxfd54e : String := "java/lang/constant/Constable"
def TJxfd54e : u_T := fun k => match k with
  | _ => ("", "", "", false)
def tyJxfd54e : Nat → FieldType := fun k => match k with
  | _ => .int
abbrev wsJxfd54e0 : List Cond := u_ws RJxfd54e TJxfd54e 0
theorem nmJxfd54e : ∀ a, a < 0 → ∀ b, b < 0 → a ≠ b → (TJxfd54e a).2.1 ≠ (TJxfd54e b).2.1 := by decide +kernel
theorem tyJxfd54e_ok : ∀ k, k < 0 → parseFieldDescriptor (TJxfd54e k).2.2.1 = some (tyJxfd54e k) := by decide +kernel
def RJx3cf43 : String := "java/lang/constant/ConstantDesc"
def TJx3cf43 : u_T := fun k => match k with
  | _ => ("", "", "", false)
def tyJx3cf43 : Nat → FieldType := fun k => match k with
  | _ => .int
abbrev wsJx3cf430 : List Cond := u_ws RJx3cf43 TJx3cf43 0
theorem nmJx3cf43 : ∀ a, a < 0 → ∀ b, b < 0 → a ≠ b → (TJx3cf43 a).2.1 ≠ (TJx3cf43 b).2.1 := by decide +kernel
theorem tyJx3cf43_ok : ∀ k, k < 0 → parseFieldDescriptor (TJx3cf43 k).2.2.1 = some (tyJx3cf43 k) := by decide +kernel
def RJ3 : String := "jdk/internal/util/Preconditions"
def TJ3 : u_T := fun k => match k with
  | _ => ("", "", "", false)
def tyJ3 : Nat → FieldType := fun k => match k with
  | _ => .int
abbrev wsJ30 : List Cond := u_ws RJ3 TJ3 0
theorem nmJ3 : ∀ a, a < 0 → ∀ b, b < 0 → a ≠ b → (TJ3 a).2.1 ≠ (TJ3 b).2.1 := by decide +kernel
theorem tyJ3_ok : ∀ k, k < 0 → parseFieldDescriptor (TJ3 k).2.2.1 = some (tyJ3 k) := by decide +kernel
abbrev cJ3_checkIndex_8e157 : ByteArray := prog_30_method_11_code
def yJ3_checkIndex_8e157 : MethodName := ⟨RJ3, "checkIndex", "(IILjava/util/function/BiFunction;)I"⟩
def RL : String := "TwoViewsLaw"
abbrev cL_at : ByteArray := method_3_code
def yL_at : MethodName := ⟨RL, "at", "(LTwoViews;III[J)I"⟩
abbrev cL_code : ByteArray := method_4_code
def yL_code : MethodName := ⟨RL, "code", "(LTwoViews;III[J)I"⟩
abbrev cL_same : ByteArray := method_5_code
def yL_same : MethodName := ⟨RL, "same", "(LTwoViews;III[J)I"⟩
abbrev cL_shift : ByteArray := method_6_code
def yL_shift : MethodName := ⟨RL, "shift", "(LTwoViews;III[J)I"⟩
abbrev cL_margin : ByteArray := method_7_code
def yL_margin : MethodName := ⟨RL, "margin", "(LTwoViews;II[J)I"⟩
abbrev cL_fine : ByteArray := method_8_code
def yL_fine : MethodName := ⟨RL, "fine", "(LTwoViews;II[J)I"⟩
abbrev cL_filled : ByteArray := method_9_code
def yL_filled : MethodName := ⟨RL, "filled", "(LTwoViews;III[J)I"⟩
abbrev cL_depth : ByteArray := method_10_code
def yL_depth : MethodName := ⟨RL, "depth", "(LTwoViews;II[J)I"⟩
abbrev cL_law : ByteArray := code
def yL_law : MethodName := ⟨RL, "law", "([I)Z"⟩
abbrev vwCl : List vw_C := [(RX0, TX0, 3), (RX1, TX1, 7), (RX2, TX2, 3), (RX3, TX3, 6), (RX4, TX4, 6), (RX5, TX5, 3), (RX6, TX6, 7), (RX7, TX7, 6), (RX8, TX8, 4), (RX9, TX9, 4), (RX10, TX10, 2), (RX11, TX11, 12), (RX12, TX12, 27)]
end
section
/-! ===== BEGIN words of one list among another's, by their places ===== -/
theorem goodIn_r {big : List Cond} (ws : List Cond) (ps : List Nat) (hp : ws = ps.filterMap (fun i => big[i]?)) (h : ws.all goodWord = true) : GoodIn big ws := by
  intro w hw
  have h1 := List.all_eq_true.mp h w hw
  rw [hp] at hw
  obtain ⟨i, -, hi⟩ := List.mem_filterMap.mp hw
  have hm : w ∈ big := by first | exact List.mem_of_getElem? hi | exact List.getElem?_mem hi
  exact ⟨hm, good_of_word h1⟩
theorem goodIn_app {big a b : List Cond} (ha : GoodIn big a) (hb : GoodIn big b) : GoodIn big (a ++ b) := fun w h => (List.mem_append.mp h).elim (ha w) (hb w)
theorem goodIn_ca {big a b : List Cond} {c : Cond} (ha : GoodIn big (c :: a)) (hb : GoodIn big b) : GoodIn big (c :: (a ++ b)) := fun w h => (List.mem_cons.mp h).elim (fun e => ha w (List.mem_cons.mpr (Or.inl e))) (fun h => (List.mem_append.mp h).elim (fun h => ha w (List.mem_cons.mpr (Or.inr h))) (hb w))
theorem goodIn_sub {big ws : List Cond} (hm : ∀ w ∈ ws, w ∈ big) (h : ws.all goodWord = true) : GoodIn big ws := fun w hw => ⟨hm w hw, good_of_word (List.all_eq_true.mp h w hw)⟩
/-! ===== END ===== -/
/-! ===== BEGIN exceptions that leave a method, and their catching by the caller (launches without stack traces) ===== -/
section VXA
/-! The laws vx_back, vx_callV, vx_callS, vx_callSW, vx_throw0, vx_throwS follow proofs of the library, with one case more: JvmDerived/Free/Laws.lean (Back.of_free), Shelf42/LK1.lean (callV, callS), Shelf/KitTraced.lean (throwNew0V, throwNewS). -/
/-- where a method has thrown q: the class by its name, the cell, what was written, the world -/
def vx_T (XC : String → State → State → Prop) (st : State) (q : Addr) (t : State) (mc ms : Nat) (free : Addr → Prop) : Prop :=
  ∃ (E : String) (ce : Cell) (L : List Loc), XC E st t ∧ t.heap[q]? = some ce ∧ ce.vm = .none ∧ st.vm.findClass E = some ce.cls ∧ st.WarmedH t.vm ∧ st.sameButNew ({ t with vm := st.vm } : State) L mc ms ∧ ∀ z ∈ L, free z.base
def vx_Q (Qc : Array Value → State → Outcome → State → Prop) (XC : String → State → State → Prop) (mc ms : Nat) (free : Addr → Prop) : Array Value → State → Outcome → State → Prop := fun a st o t =>
  (Qc a st o t ∧ ∃ L, FrameEnd st o t L mc ms ∧ ∀ q ∈ L, free q.base) ∨ ∃ q, o = .threw q ∧ vx_T XC st q t mc ms free
/-- a callee that returns or throws -/
def vx_Met (l : Launch) (y : MethodName) (ws : List Cond) (rm : Room) (Pc : Array Value → State → Prop) (Qc : Array Value → State → Outcome → State → Prop) (XC : String → State → State → Prop) (mc ms : Nat) (free : Addr → Prop) : Prop :=
  MetFree l y (headSpec ws rm) Pc (fun _ _ _ _ _ => True) (vx_Q Qc XC mc ms free)
def vx_Post (XC : String → State → State → Prop) (mc ms : Nat) (free : Addr → Prop) : Pt → Array Value → Addr → Pt → Prop := fun A a q B =>
  ∃ (g : JFrame) (mk : MethodId) (t : State) (L : List Loc) (E : String) (ce : Cell), B.U.heap = t.heap ∧ B.U.vm = t.vm ∧ XC E (A.U.calling g mk a) t ∧ t.heap[q]? = some ce ∧ ce.vm = .none ∧ A.U.vm.findClass E = some ce.cls ∧ B.locs = A.locs ++ L ∧ (∀ z ∈ L, free z.base) ∧ B.cells = A.cells + mc ∧ B.slots = A.slots + ms
def vx_Back (l : Launch) (R : Room) (p : Program) (e : Env) (below : List Frame) (s : State) (sargs : Array Value) (y : MethodName) (len W9 : Nat)
    (Pre : Pt → Array Value → Prop) (Post : Pt → Array Value → Option Value → Pt → Prop) (PostX : Pt → Array Value → Addr → Pt → Prop) : Prop :=
  ∀ (m : MethodId) (meth : Method) (c : Code) (A : Pt) (g : JFrame) (ig : Instr) (mk : MethodId) (a : Array Value),
    Stand p l e R s m sargs below meth c A.U A.locs A.cells A.slots → g.method = m → g.locals.size = c.maxLocals → decode c.code g.pc = .ok (ig, len) →
    2 * g.monitorRoom + (g.stack.map fun v => v.category).sum ≤ W9 → A.U.methodNamed? y = some mk → Pre A a →
    (∃ (v : Option Value) (B : Pt), Stand p l e R s m sargs below meth c B.U B.locs B.cells B.slots ∧ Post A a v B ∧
      Steps p.tables e below (doInvoke e (A.U.setTop g) [] mk a).1 (B.U.setTop { g with pc := g.pc + len, stack := v.toList ++ g.stack })) ∨
    (∃ (q : Addr) (B : Pt), Stand p l e R s m sargs below meth c B.U B.locs B.cells B.slots ∧ PostX A a q B ∧
      Steps p.tables e below (doInvoke e (A.U.setTop g) [] mk a).1 ((B.U.setTop g).pushFrame (.throwing q)))
section Payer
variable {l : Launch} {R : Room} {p : Program} {e : Env} {below : List Frame} {s : State} {sargs : Array Value} {y : MethodName} {len W9 : Nat}
theorem vx_back {ws : List Cond} {rm : Room} {Pc : Array Value → State → Prop} {Qc : Array Value → State → Outcome → State → Prop} {XC : String → State → State → Prop} {mc ms : Nat} {free : Addr → Prop} {bytes : ByteArray} {maxL : Nat} {ret : Option FieldType}
    (hM : vx_Met l y ws rm Pc Qc XC mc ms free) (hblind : FrameBlind Pc) (hrc : rm.cells = mc) (hrs : rm.slots = ms)
    (hframes : rm.frames + 1 ≤ R.frames) (hlocals : W9 + (maxL + 11) + rm.locals ≤ R.locals)
    (hws : ∀ w ∈ ws, ∀ a' U, s.WarmedH U.vm → w.before a' U = true) (hcode : Cond.code y bytes maxL ret ∈ ws) (hinit : ∀ a' U, s.WarmedH U.vm → (Cond.initialized y.cls).before a' U = true) :
    vx_Back l R p e below s sargs y len W9 (PreOf R mc ms Pc) (PostOf Qc mc ms free) (vx_Post XC mc ms free) := by
  intro m meth c A g ig mk a X hg hsize hdg hW hn hp
  have h1 : (headSpec ws rm).pre.before a A.U = true := atoms_intro fun w hw => hws w hw _ _ X.warmed
  have h2 : (Cond.code y bytes maxL ret).before a A.U = true := hws _ hcode _ _ X.warmed
  have h3 : (Cond.initialized y.cls).before a A.U = true := hinit _ _ X.warmed
  have h4 : A.cells + (headSpec ws rm).room.cells ≤ R.cells := by rw [show (headSpec ws rm).room.cells = mc from hrc]; exact hp.1
  have h5 : A.slots + (headSpec ws rm).room.slots ≤ R.slots := by rw [show (headSpec ws rm).room.slots = ms from hrs]; exact hp.2.1
  have hPc : Pc a (A.U.calling g mk a) := hblind _ _ _ _ hp.2.2
  obtain ⟨U, Ls, c0, s0⟩ := A
  dsimp only [Pt.U, Pt.locs, Pt.cells, Pt.slots] at h1 h2 h3 h4 h5 X hn hPc ⊢
  obtain ⟨methY, cY, hmY, hcY, -, hlY, -, -, -, -⟩ := Cond.code_spec hn h2
  obtain ⟨kY, hkY, -⟩ := className_of_methodNamed hn
  have hinitY : kY.init = .initialized := Cond.initialized_spec (findClass_of_methodNamed hn) hkY h3
  have h : At U g.method c below := by rw [hg]; exact X.here
  have hlocals9 : W9 + (maxL + 11) + (headSpec ws rm).room.locals ≤ R.locals := hlocals
  have happ : (headSpec ws rm).appliesLoose y e.platform (U.calling g mk a) = true :=
    Spec.appliesLoose_calling (g := g) h hdg hn hkY hinitY
      (X.room_calling (g := g) (R' := (headSpec ws rm).room) hsize hmY hcY hframes (by rw [hlY]; omega) h4 h5) h1
  obtain ⟨mid, hmid⟩ := h.above
  have hfr : (U.setTop g).frames = (.java g :: mid) ++ below := by rw [State.frames_setTop' g h.top, hmid]; rfl
  obtain ⟨o, s₂, hsteps, -, hend, hq⟩ := Steps.callFree hM p X.admits X.cas X.clock (acts := []) hfr happ hPc trivial
  have hq' : vx_Q Qc XC mc ms free a (U.calling g mk a) o s₂ := hq
  rw [State.frames_setTop' g h.top] at hend
  obtain ⟨g₀, hg0⟩ := Option.isSome_iff_exists.mp h.top
  obtain ⟨r, hr⟩ := State.topJava?_eq_some.mp hg0
  have hr' : (({ U with heap := s₂.heap, slotsUsed := s₂.slotsUsed } : State).setVm s₂.vm).frames = .java g₀ :: r := hr
  rcases hq' with ⟨hqc, L, hfe, hL⟩ | ⟨q, rfl, E, ce, L, hx, hce, hcv, hcl, hW₂, hsm, hL⟩
  · obtain ⟨⟨v, rfl⟩, hW₂, e2, q2, q3, q4, q5, q6⟩ := id hfe
    have e3 : s₂ = ({ (U.calling g mk a).setFrames s₂.frames with heap := s₂.heap, slotsUsed := s₂.slotsUsed } : State).setVm s₂.vm := by
      have : s₂ = ({ s₂ with vm := (U.calling g mk a).vm } : State).setVm s₂.vm := rfl
      rw [e2] at this
      exact this
    obtain ⟨c₂, i₂, len₂, hc₂, hd₂, hf₂⟩ := hend
    have hW' : U.WarmedH s₂.vm := hW₂
    have hcc : c₂ = c := by
      have h1 : s₂.code? g.method = U.code? g.method := by
        rw [State.code?_eq, State.code?_eq, hW'.alike.method?]
      exact Option.some.inj (hc₂.symm.trans (h1.trans h.code))
    subst hcc
    have hlen : len₂ = len := by rw [hdg] at hd₂; cases hd₂; rfl
    subst hlen
    have hs₂ : s₂ = (({ U with heap := s₂.heap, slotsUsed := s₂.slotsUsed } : State).setVm s₂.vm).setTop { g with pc := g.pc + len₂, stack := v.toList ++ g.stack } := by
      refine e3.trans ?_
      rw [hf₂, State.calling_eq h.top, State.setFrames_setFrames, State.setTop_of_frames _ hr', hr]
      rfl
    have hsame : U.sameButNew ({ U with heap := s₂.heap, slotsUsed := s₂.slotsUsed } : State) L mc ms := by
      refine ⟨?_, q2, q3, q4, q5, q6⟩
      obtain ⟨t, ht, -⟩ := State.frames_cons hr
      show ({ U with heap := s₂.heap, slotsUsed := s₂.slotsUsed } : State) = { U.setFrames U.frames with heap := s₂.heap, slotsUsed := s₂.slotsUsed }
      rw [State.setFrames_self ht]
    subst hg
    refine Or.inl ⟨v, ⟨(({ U with heap := s₂.heap, slotsUsed := s₂.slotsUsed } : State).setVm s₂.vm), Ls ++ L, c0 + mc, s0 + ms⟩,
      ⟨X.admits, X.cas, X.clock, X.frames, X.room, X.hears, X.method, X.code, (X.here.setHeapUsed s₂.heap s₂.slotsUsed).setVm hW'.alike, X.tail, State.WarmedH.trans X.warmed hW', X.limits, X.bytes, X.same.trans (hsame.setVm s.vm)⟩,
      ⟨g, mk, s₂, L, rfl, rfl, hqc, rfl, hL, rfl, rfl⟩, ?_⟩
    show Steps p.tables e below _ ((({ U with heap := s₂.heap, slotsUsed := s₂.slotsUsed } : State).setVm s₂.vm).setTop { g with pc := g.pc + len₂, stack := v.toList ++ g.stack })
    rw [← hs₂]
    exact hsteps
  · obtain ⟨e2, q2, q3, q4, q5, q6⟩ := id hsm
    have e3 : s₂ = ({ (U.calling g mk a).setFrames s₂.frames with heap := s₂.heap, slotsUsed := s₂.slotsUsed } : State).setVm s₂.vm := by
      have : s₂ = ({ s₂ with vm := (U.calling g mk a).vm } : State).setVm s₂.vm := rfl
      rw [e2] at this
      exact this
    have hf₂ : s₂.frames = .throwing q :: .java g :: U.frames.tail := hend
    have hW' : U.WarmedH s₂.vm := hW₂
    have hs₂ : s₂ = ((({ U with heap := s₂.heap, slotsUsed := s₂.slotsUsed } : State).setVm s₂.vm).setTop g).pushFrame (.throwing q) := by
      refine e3.trans ?_
      rw [hf₂, State.calling_eq h.top, State.setFrames_setFrames, State.pushFrame, State.frames_setTop _ hr', State.setTop_of_frames _ hr', State.setFrames_setFrames, hr]
      rfl
    have hsame : U.sameButNew ({ U with heap := s₂.heap, slotsUsed := s₂.slotsUsed } : State) L mc ms := by
      refine ⟨?_, q2, q3, q4, q5, q6⟩
      obtain ⟨t, ht, -⟩ := State.frames_cons hr
      show ({ U with heap := s₂.heap, slotsUsed := s₂.slotsUsed } : State) = { U.setFrames U.frames with heap := s₂.heap, slotsUsed := s₂.slotsUsed }
      rw [State.setFrames_self ht]
    subst hg
    refine Or.inr ⟨q, ⟨(({ U with heap := s₂.heap, slotsUsed := s₂.slotsUsed } : State).setVm s₂.vm), Ls ++ L, c0 + mc, s0 + ms⟩,
      ⟨X.admits, X.cas, X.clock, X.frames, X.room, X.hears, X.method, X.code, (X.here.setHeapUsed s₂.heap s₂.slotsUsed).setVm hW'.alike, X.tail, State.WarmedH.trans X.warmed hW', X.limits, X.bytes, X.same.trans (hsame.setVm s.vm)⟩,
      ⟨g, mk, s₂, L, E, ce, rfl, rfl, hx, hce, hcv, hcl, rfl, hL, rfl, rfl⟩, ?_⟩
    show Steps p.tables e below _ (((({ U with heap := s₂.heap, slotsUsed := s₂.slotsUsed } : State).setVm s₂.vm).setTop g).pushFrame (.throwing q))
    rw [← hs₂]
    exact hsteps
end Payer
section Calls
variable {p : Program} {l : Launch} {e : Env} {R : Room} {s : State} {m : MethodId} {args : Array Value} {below : List Frame} {meth : Method} {c : Code} {T : State} {locs : List Loc} {cells slots : Nat}
theorem vx_callV (X : Stand p l e R s m args below meth c T locs cells slots) (hexec : p.tables.exec = Jvm.exec) {own C : String} {index : Nat} {y : MethodName} {bytes : ByteArray} {maxL : Nat} {ret : Option FieldType}
    (hown : s.vm.findClass own = some m.cls) (hlink : (Cond.methodLink own index y).before args s = true) (hinst : (Cond.instanceMethod y).before args s = true) (hsel : (Cond.selects C y y).before args s = true)
    (hcode : (Cond.code y bytes maxL ret).before args s = true) (hy : y.cls ≠ "java/lang/invoke/MethodHandle" ∧ y.cls ≠ "java/lang/invoke/VarHandle")
    {W9 : Nat} {Pre : Pt → Array Value → Prop} {Post : Pt → Array Value → Option Value → Pt → Prop} {PostX : Pt → Array Value → Addr → Pt → Prop} (hK : vx_Back l R p e below s args y 3 W9 Pre Post PostX)
    {b : Addr} {cellB : Cell} (hcell : T.heap[b]? = some cellB) (hobj : cellB.vm.isStatics = false) (hcls : s.vm.findClass C = some cellB.cls)
    {g : JFrame} (hg : g.method = m) (hsize : g.locals.size = c.maxLocals) {argsL rest : List Value} (hlen : ∀ sig, parseMethodDescriptor y.desc = some sig → argsL.length = sig.parameters.length)
    (hstack : g.stack = argsL.reverse ++ .ref b :: rest) (hW : 2 * g.monitorRoom + (rest.map fun v => v.category).sum ≤ W9) (hdg : decode c.code g.pc = .ok (.invokevirtual index, 3))
    (hpre : ∀ vm₁, s.WarmedH vm₁ → Pre ⟨T.setVm vm₁, locs, cells, slots⟩ (Value.ref b :: argsL).toArray) :
    (∃ (v : Option Value) (vm₁ : Vm) (B : Pt), s.WarmedH vm₁ ∧ Stand p l e R s m args below meth c B.U B.locs B.cells B.slots ∧ Post ⟨T.setVm vm₁, locs, cells, slots⟩ (Value.ref b :: argsL).toArray v B ∧
      ∀ target, Steps p.tables e below (B.U.setTop { g with pc := g.pc + 3, stack := v.toList ++ rest }) target → Steps p.tables e below (T.setTop g) target) ∨
    (∃ (q : Addr) (vm₁ : Vm) (B : Pt), s.WarmedH vm₁ ∧ Stand p l e R s m args below meth c B.U B.locs B.cells B.slots ∧ PostX ⟨T.setVm vm₁, locs, cells, slots⟩ (Value.ref b :: argsL).toArray q B ∧
      Steps p.tables e below (T.setTop g) ((B.U.setTop { g with stack := rest }).pushFrame (.throwing q))) := by
  obtain ⟨mk, methM, hnamed, hmethM, hstM, habM⟩ := Cond.instanceMethod_spec hinst
  obtain ⟨methM', cM, hmethM', -, -, -, -, -, -, hsigM⟩ := Cond.code_spec hnamed hcode
  cases hmethM.symm.trans hmethM'
  obtain ⟨c2, r2, m2, q1, q2, q3, q4, kP, hkP, hkPi⟩ := Cond.selects_spec hsel
  cases hcls.symm.trans q1
  cases (State.methodFound?_of_named hnamed hy).symm.trans q2
  cases hnamed.symm.trans q3
  have hselP : selectMethod e.platform s.vm cellB.cls mk = .method mk := by rw [Launch.admits_selectMethod X.admits]; exact q4
  obtain ⟨vm₁, X₁, hstep₁⟩ := X.invokevirtual hexec hown hlink hnamed hmethM hstM hkP hkPi hy (a := b) (cell := cellB) hcell
    (fun z h => by rw [h] at hobj; cases hobj) hselP hmethM habM hkP hkPi (g := g) hg (argsL := argsL) (rest := rest) (hlen _ hsigM) hstack hdg
  rcases hK m meth c ⟨T.setVm vm₁, locs, cells, slots⟩ { g with stack := rest } (.invokevirtual index) mk (Value.ref b :: argsL).toArray X₁ hg hsize hdg hW (X₁.named hnamed) (hpre vm₁ X₁.warmed) with ⟨v, B, X', hpost, hsteps⟩ | ⟨q, B, X', hpost, hsteps⟩
  · exact Or.inl ⟨v, vm₁, B, X₁.warmed, X', hpost, fun target h => hstep₁ _ fun acts => by rw [doInvoke_state]; exact hsteps.trans h⟩
  · exact Or.inr ⟨q, vm₁, B, X₁.warmed, X', hpost, hstep₁ _ fun acts => by rw [doInvoke_state]; exact hsteps⟩
theorem vx_callS (X : Stand p l e R s m args below meth c T locs cells slots) (hexec : p.tables.exec = Jvm.exec) {own : String} {index : Nat} {y : MethodName} {bytes : ByteArray} {maxL : Nat} {ret : Option FieldType}
    (hown : s.vm.findClass own = some m.cls) (hlink : (Cond.methodLink own index y).before args s = true) (hstat : (Cond.static y).before args s = true) (hinit : (Cond.initialized y.cls).before args s = true)
    (hcode : (Cond.code y bytes maxL ret).before args s = true) (hy : y.cls ≠ "java/lang/invoke/MethodHandle" ∧ y.cls ≠ "java/lang/invoke/VarHandle")
    {W9 : Nat} {Pre : Pt → Array Value → Prop} {Post : Pt → Array Value → Option Value → Pt → Prop} {PostX : Pt → Array Value → Addr → Pt → Prop} (hK : vx_Back l R p e below s args y 3 W9 Pre Post PostX)
    {g : JFrame} (hg : g.method = m) (hsize : g.locals.size = c.maxLocals) {argsL rest : List Value} (hlen : ∀ sig, parseMethodDescriptor y.desc = some sig → argsL.length = sig.parameters.length)
    (hstack : g.stack = argsL.reverse ++ rest) (hW : 2 * g.monitorRoom + (rest.map fun v => v.category).sum ≤ W9) (hdg : decode c.code g.pc = .ok (.invokestatic index, 3))
    (hpre : ∀ vm₁, s.WarmedH vm₁ → Pre ⟨T.setVm vm₁, locs, cells, slots⟩ argsL.toArray) :
    (∃ (v : Option Value) (vm₁ : Vm) (B : Pt), s.WarmedH vm₁ ∧ Stand p l e R s m args below meth c B.U B.locs B.cells B.slots ∧ Post ⟨T.setVm vm₁, locs, cells, slots⟩ argsL.toArray v B ∧
      ∀ target, Steps p.tables e below (B.U.setTop { g with pc := g.pc + 3, stack := v.toList ++ rest }) target → Steps p.tables e below (T.setTop g) target) ∨
    (∃ (q : Addr) (vm₁ : Vm) (B : Pt), s.WarmedH vm₁ ∧ Stand p l e R s m args below meth c B.U B.locs B.cells B.slots ∧ PostX ⟨T.setVm vm₁, locs, cells, slots⟩ argsL.toArray q B ∧
      Steps p.tables e below (T.setTop g) ((B.U.setTop { g with stack := rest }).pushFrame (.throwing q))) := by
  obtain ⟨mk, hnamed⟩ := Cond.code_named hcode
  obtain ⟨methM, cM, hmethM, -, -, -, -, -, -, hsigM⟩ := Cond.code_spec hnamed hcode
  have hstatic : methM.isStatic = true := Cond.static_spec hnamed hmethM hstat
  obtain ⟨kP, hkP, -⟩ := className_of_methodNamed hnamed
  have hinitP : kP.init = .initialized := Cond.initialized_spec (findClass_of_methodNamed hnamed) hkP hinit
  obtain ⟨vm₁, X₁, hstep₁⟩ := X.invokestatic hexec hown hlink hnamed hmethM hstatic hkP hinitP hy (g := g) hg (argsL := argsL) (rest := rest) (hlen _ hsigM) hstack hdg
  rcases hK m meth c ⟨T.setVm vm₁, locs, cells, slots⟩ { g with stack := rest } (.invokestatic index) mk argsL.toArray X₁ hg hsize hdg hW (X₁.named hnamed) (hpre vm₁ X₁.warmed) with ⟨v, B, X', hpost, hsteps⟩ | ⟨q, B, X', hpost, hsteps⟩
  · exact Or.inl ⟨v, vm₁, B, X₁.warmed, X', hpost, fun target h => hstep₁ _ fun acts => by rw [doInvoke_state]; exact hsteps.trans h⟩
  · exact Or.inr ⟨q, vm₁, B, X₁.warmed, X', hpost, hstep₁ _ fun acts => by rw [doInvoke_state]; exact hsteps⟩
end Calls
theorem vx_cls {s : State} {T : State} {vm₁ : Vm} {E : String} {k : ClassId} (hW : s.WarmedH vm₁) (h : (T.setVm vm₁).vm.findClass E = some k) : s.vm.findClass E = some k := by
  have h1 : vm₁.findClass E = some k := h
  rw [hW.alike.findClass] at h1
  exact h1
/-- the method's frame g, with q thrown over it -/
def vx_W (p : Program) (l : Launch) (e : Env) (R : Room) (s : State) (m : MethodId) (args : Array Value) (below : List Frame) (meth : Method) (c : Code) (H : Heap) (locs : List Loc) (cells slots : Nat) (Q : State → Prop) (g : JFrame) (q : Addr) : Prop :=
  ∀ T : State, T.heap = H → Stand p l e R s m args below meth c T locs cells slots → ∃ t, Steps p.tables e below ((T.setTop g).pushFrame (.throwing q)) t ∧ Q t
def vx_Run (p : Program) (l : Launch) (e : Env) (R : Room) (s : State) (m : MethodId) (args : Array Value) (below : List Frame) (meth : Method) (c : Code) (H : Heap) (locs : List Loc) (cells slots mc ms : Nat) (g : JFrame) (rest : List Value) (Qa : State → Outcome → State → Prop) (XC : String → State → State → Prop) (free : Addr → Prop) : Prop :=
  ∀ T : State, T.heap = H → Stand p l e R s m args below meth c T locs cells slots →
    (∃ (v : Option Value) (st₀ t T' : State) (L : List Loc), st₀.heap = H ∧ Stand p l e R s m args below meth c T' (locs ++ L) (cells + mc) (slots + ms) ∧ (∀ q ∈ L, free q.base) ∧ T'.heap = t.heap ∧ T'.vm = t.vm ∧ Qa st₀ (.returned v) t ∧
      Goes p e below T g T' { g with pc := g.pc + 3, stack := v.toList ++ rest }) ∨
    (∃ (q : Addr) (st₀ t T' : State) (L : List Loc) (E : String) (ce : Cell), st₀.heap = H ∧ Stand p l e R s m args below meth c T' (locs ++ L) (cells + mc) (slots + ms) ∧ (∀ z ∈ L, free z.base) ∧ T'.heap = t.heap ∧ T'.vm = t.vm ∧ XC E st₀ t ∧ t.heap[q]? = some ce ∧ ce.vm = .none ∧ s.vm.findClass E = some ce.cls ∧
      Steps p.tables e below (T.setTop g) ((T'.setTop { g with stack := rest }).pushFrame (.throwing q)))
def vx_X {S : Type} (px : S → Prop) (B : String → S → State → Prop) (A : Nat → Prop) : String → State → State → Prop := fun E st t => ∃ u : S, px u ∧ B E u t ∧ va_F A st t
section Runs
variable {p : Program} {l : Launch} {e : Env} {R : Room} {s : State} {m : MethodId} {args : Array Value} {below : List Frame} {meth : Method} {c : Code} {H : Heap} {locs : List Loc} {cells slots : Nat}
variable {y : MethodName} {bytes cc : ByteArray} {maxL nL mc ms n index : Nat} {ret : Option FieldType} {ws : List Cond} {rm : Room} {Pc : Array Value → State → Prop} {Qc : Array Value → State → Outcome → State → Prop} {XC : String → State → State → Prop} {free : Addr → Prop} {Ts : List Cond} {own C : String} {b : Addr} {As rest : List Value} {g : JFrame}
theorem vx_callBack (cb : CallB R s args own index y bytes maxL ret ws rm mc ms n) (hM : vx_Met l y ws rm Pc Qc XC mc ms free) (hbl : FrameBlind Pc) : vx_Back l R p e below s args y 3 8 (PreOf R mc ms Pc) (PostOf Qc mc ms free) (vx_Post XC mc ms free) := by
  obtain ⟨hrc, hrs, hfr, hlo, hws, hcw, -, hini, -⟩ := cb
  exact vx_back (bytes := bytes) (maxL := maxL) (ret := ret) hM hbl hrc hrs hfr hlo hws hcw (fun a' U hW => word_at hW (Or.inl (by first | rfl | simp [Cond.onTables, Cond.keeps, Cond.steady])) hini)
theorem vx_runV (S : CallFix p m c cc nL s args Ts own) (hM : vx_Met l y ws rm Pc Qc XC mc ms free) (cw : CallW R s args own C index y bytes maxL ret ws rm mc ms n) (hp : PreV s H C b Pc As)
    (hg : g.method = m) (hn : As.length = n) (hsize : g.locals.size = nL) (hstack : g.stack = As.reverse ++ .ref b :: rest) (hW : 2 * g.monitorRoom + (rest.map fun v => v.category).sum ≤ 8) (hdg : decode cc g.pc = .ok (.invokevirtual index, 3)) (hf : cells + mc ≤ R.cells ∧ slots + ms ≤ R.slots) :
    vx_Run p l e R s m args below meth c H locs cells slots mc ms g rest (Qc (Value.ref b :: As).toArray) XC free := by
  have hK : vx_Back l R p e below s args y 3 8 (PreOf R mc ms Pc) (PostOf Qc mc ms free) (vx_Post XC mc ms free) := vx_callBack cw.1 hM hp.1
  obtain ⟨⟨-, -, -, -, -, -, hcode, -, hy, hlen, hl⟩, hin, hse⟩ := cw
  obtain ⟨hx, hb, hml, ho, -⟩ := S
  obtain ⟨-, ⟨cellB, hcB, hoB, hclB⟩, hPc⟩ := hp
  intro T hT X
  rcases vx_callV X hx (C := C) (bytes := bytes) (maxL := maxL) (ret := ret) ho hl hin hse hcode hy hK (by rw [hT]; exact hcB) hoB hclB hg (hsize.trans hml.symm) (argsL := As) (rest := rest) (fun sig h => hn.trans (hlen sig h)) hstack hW (by rw [hb]; exact hdg)
    (fun vm₁ hW₁ => ⟨hf.1, hf.2, hPc (T.setVm vm₁) hT hW₁⟩) with ⟨v, vm₁, ⟨U', l2, c2, s2⟩, hW₁, X', ⟨g', mk, t, L, e1, e2, hq, h1, hL, h2, h3⟩, st⟩ | ⟨q, vm₁, ⟨U', l2, c2, s2⟩, hW₁, X', ⟨g', mk, t, L, E, ce, e1, e2, hq, hce, hcv, hcl, h1, hL, h2, h3⟩, st⟩
  · dsimp only [Pt.U, Pt.locs, Pt.cells, Pt.slots] at X' e1 e2 h1 h2 h3 st
    subst h1; subst h2; subst h3
    exact Or.inl ⟨v, (T.setVm vm₁).calling g' mk (Value.ref b :: As).toArray, t, U', L, hT, X', hL, e1, e2, hq, st⟩
  · dsimp only [Pt.U, Pt.locs, Pt.cells, Pt.slots] at X' e1 e2 h1 h2 h3 st hcl
    subst h1; subst h2; subst h3
    exact Or.inr ⟨q, (T.setVm vm₁).calling g' mk (Value.ref b :: As).toArray, t, U', L, E, ce, hT, X', hL, e1, e2, hq, hce, hcv, vx_cls hW₁ hcl, st⟩
theorem vx_runS (S : CallFix p m c cc nL s args Ts own) (hM : vx_Met l y ws rm Pc Qc XC mc ms free) (cw : CallB R s args own index y bytes maxL ret ws rm mc ms n ∧ (Cond.static y).before args s = true) (hp : PreS s H Pc As)
    (hg : g.method = m) (hn : As.length = n) (hsize : g.locals.size = nL) (hstack : g.stack = As.reverse ++ rest) (hW : 2 * g.monitorRoom + (rest.map fun v => v.category).sum ≤ 8) (hdg : decode cc g.pc = .ok (.invokestatic index, 3)) (hf : cells + mc ≤ R.cells ∧ slots + ms ≤ R.slots) :
    vx_Run p l e R s m args below meth c H locs cells slots mc ms g rest (Qc As.toArray) XC free := by
  have hK : vx_Back l R p e below s args y 3 8 (PreOf R mc ms Pc) (PostOf Qc mc ms free) (vx_Post XC mc ms free) := vx_callBack cw.1 hM hp.1
  obtain ⟨⟨-, -, -, -, -, -, hcode, hini, hy, hlen, hl⟩, hstt⟩ := cw
  obtain ⟨hx, hb, hml, ho, -⟩ := S
  intro T hT X
  rcases vx_callS X hx (bytes := bytes) (maxL := maxL) (ret := ret) ho hl hstt hini hcode hy hK hg (hsize.trans hml.symm) (argsL := As) (rest := rest) (fun sig h => hn.trans (hlen sig h)) hstack hW (by rw [hb]; exact hdg)
    (fun vm₁ hW₁ => ⟨hf.1, hf.2, hp.2 (T.setVm vm₁) hT hW₁⟩) with ⟨v, vm₁, ⟨U', l2, c2, s2⟩, hW₁, X', ⟨g', mk, t, L, e1, e2, hq, h1, hL, h2, h3⟩, st⟩ | ⟨q, vm₁, ⟨U', l2, c2, s2⟩, hW₁, X', ⟨g', mk, t, L, E, ce, e1, e2, hq, hce, hcv, hcl, h1, hL, h2, h3⟩, st⟩
  · dsimp only [Pt.U, Pt.locs, Pt.cells, Pt.slots] at X' e1 e2 h1 h2 h3 st
    subst h1; subst h2; subst h3
    exact Or.inl ⟨v, (T.setVm vm₁).calling g' mk As.toArray, t, U', L, hT, X', hL, e1, e2, hq, st⟩
  · dsimp only [Pt.U, Pt.locs, Pt.cells, Pt.slots] at X' e1 e2 h1 h2 h3 st hcl
    subst h1; subst h2; subst h3
    exact Or.inr ⟨q, (T.setVm vm₁).calling g' mk As.toArray, t, U', L, E, ce, hT, X', hL, e1, e2, hq, hce, hcv, vx_cls hW₁ hcl, st⟩
end Runs
section Rows
variable {p : Program} {l : Launch} {e : Env} {R : Room} {s : State} {m : MethodId} {args : Array Value} {below : List Frame} {meth : Method} {c : Code} {H : Heap} {locs : List Loc} {cells slots : Nat} {Q : State → Prop}
variable {mc ms : Nat} {free : Addr → Prop} {A0 A1 : Nat → Prop} {H0 : Heap} {a : Array Value} {pc : Nat} {ls : Array Slot} {st0 rest : List Value}
theorem vx_keep {st₀ t T' : State} {L : List Loc} (h0 : st₀.heap = H) (e1 : T'.heap = t.heap) (hS : va_S A0 H0 H locs) (hA : ∀ q, q < H.size → A1 q → A0 q) (hf : ∀ q, free q → A0 q) (hL : ∀ q ∈ L, free q.base) (hF : va_F A1 st₀ t) :
    H.size ≤ T'.heap.size ∧ (∀ q : Nat, q < H.size → ¬ A1 q → T'.heap[q]? = H[q]?) ∧ va_S A0 H0 T'.heap (locs ++ L) := by
  obtain ⟨hz, hk⟩ := hF
  rw [h0] at hz hk
  exact ⟨by rw [e1]; exact hz, fun q h1 h2 => by rw [e1]; exact hk q h1 h2,
    ⟨Nat.le_trans hS.1 (by rw [e1]; exact hz), fun q h1 h2 => by rw [e1, hk q (Nat.lt_of_lt_of_le h1 hS.1) (fun z => h2 (hA q (Nat.lt_of_lt_of_le h1 hS.1) z))]; exact hS.2.1 q h1 h2, fun q hq => by
      rcases List.mem_append.mp hq with h | h
      · exact hS.2.2 q h
      · exact hf _ (hL q h)⟩⟩
theorem vx_calli {S SX : Type} {post : Int32 → S → Prop} {px : SX → Prop} {B : S → State → Prop} {BX : String → SX → State → Prop} {AX : Nat → Prop} (hr : vx_Run p l e R s m args below meth c H locs cells slots mc ms (F0 m pc ls st0) rest (va_Qi post B A1 a) (vx_X px BX AX) free) (hS : va_S A0 H0 H locs) (hA : ∀ q, q < H.size → A1 q → A0 q) (hf : ∀ q, free q → A0 q) (hAX : ∀ q, q < H.size → AX q → A0 q)
    (kx : ∀ (E : String) (ce : Cell) (q9 : Addr) (u : SX) (t : State) (H1 : Heap) (locs1 : List Loc), t.heap = H1 → s.vm.Alike t.vm → px u → BX E u t → H.size ≤ H1.size → (∀ q : Nat, q < H.size → ¬ AX q → H1[q]? = H[q]?) → va_S A0 H0 H1 locs1 → H1[q9]? = some ce → ce.vm = .none → s.vm.findClass E = some ce.cls → vx_W p l e R s m args below meth c H1 locs1 (cells + mc) (slots + ms) Q (F0 m pc ls rest) q9)
    (kk : ∀ (r : Int32) (u : S) (t : State) (H1 : Heap) (locs1 : List Loc), t.heap = H1 → s.vm.Alike t.vm → post r u → B u t → H.size ≤ H1.size → (∀ q : Nat, q < H.size → ¬ A1 q → H1[q]? = H[q]?) → va_S A0 H0 H1 locs1 → W p l e R s m args below meth c H1 locs1 (cells + mc) (slots + ms) Q (F0 m (pc + 3) ls (.int r :: rest))) : W p l e R s m args below meth c H locs cells slots Q (F0 m pc ls st0) := by
  intro T hT X
  rcases hr T hT X with ⟨v, st₀, t, T', L, h0, X', hL, e1, e2, ⟨⟨r, u, hv, hp, hb⟩, hF⟩, st⟩ | ⟨q, st₀, t, T', L, E, ce, h0, X', hL, e1, e2, ⟨u, hp, hb, hF⟩, hce, hcv, hcl, st⟩
  · cases hv
    obtain ⟨k1, k2, k3⟩ := vx_keep h0 e1 hS hA hf hL hF
    obtain ⟨t2, a1, b1⟩ := kk r u t T'.heap (locs ++ L) e1.symm (by rw [← e2]; exact X'.warmed.alike) hp hb k1 k2 k3 T' rfl X'
    exact ⟨t2, st t2 a1, b1⟩
  · obtain ⟨k1, k2, k3⟩ := vx_keep h0 e1 hS hAX hf hL hF
    obtain ⟨t2, a1, b1⟩ := kx E ce q u t T'.heap (locs ++ L) e1.symm (by rw [← e2]; exact X'.warmed.alike) hp hb k1 k2 k3 (by rw [e1]; exact hce) hcv hcl T' rfl X'
    exact ⟨t2, st.trans a1, b1⟩
theorem vx_calll {S SX : Type} {post : Int64 → S → Prop} {px : SX → Prop} {B : S → State → Prop} {BX : String → SX → State → Prop} {AX : Nat → Prop} (hr : vx_Run p l e R s m args below meth c H locs cells slots mc ms (F0 m pc ls st0) rest (va_Ql post B A1 a) (vx_X px BX AX) free) (hS : va_S A0 H0 H locs) (hA : ∀ q, q < H.size → A1 q → A0 q) (hf : ∀ q, free q → A0 q) (hAX : ∀ q, q < H.size → AX q → A0 q)
    (kx : ∀ (E : String) (ce : Cell) (q9 : Addr) (u : SX) (t : State) (H1 : Heap) (locs1 : List Loc), t.heap = H1 → s.vm.Alike t.vm → px u → BX E u t → H.size ≤ H1.size → (∀ q : Nat, q < H.size → ¬ AX q → H1[q]? = H[q]?) → va_S A0 H0 H1 locs1 → H1[q9]? = some ce → ce.vm = .none → s.vm.findClass E = some ce.cls → vx_W p l e R s m args below meth c H1 locs1 (cells + mc) (slots + ms) Q (F0 m pc ls rest) q9)
    (kk : ∀ (r : Int64) (u : S) (t : State) (H1 : Heap) (locs1 : List Loc), t.heap = H1 → s.vm.Alike t.vm → post r u → B u t → H.size ≤ H1.size → (∀ q : Nat, q < H.size → ¬ A1 q → H1[q]? = H[q]?) → va_S A0 H0 H1 locs1 → W p l e R s m args below meth c H1 locs1 (cells + mc) (slots + ms) Q (F0 m (pc + 3) ls (.long r :: rest))) : W p l e R s m args below meth c H locs cells slots Q (F0 m pc ls st0) := by
  intro T hT X
  rcases hr T hT X with ⟨v, st₀, t, T', L, h0, X', hL, e1, e2, ⟨⟨r, u, hv, hp, hb⟩, hF⟩, st⟩ | ⟨q, st₀, t, T', L, E, ce, h0, X', hL, e1, e2, ⟨u, hp, hb, hF⟩, hce, hcv, hcl, st⟩
  · cases hv
    obtain ⟨k1, k2, k3⟩ := vx_keep h0 e1 hS hA hf hL hF
    obtain ⟨t2, a1, b1⟩ := kk r u t T'.heap (locs ++ L) e1.symm (by rw [← e2]; exact X'.warmed.alike) hp hb k1 k2 k3 T' rfl X'
    exact ⟨t2, st t2 a1, b1⟩
  · obtain ⟨k1, k2, k3⟩ := vx_keep h0 e1 hS hAX hf hL hF
    obtain ⟨t2, a1, b1⟩ := kx E ce q u t T'.heap (locs ++ L) e1.symm (by rw [← e2]; exact X'.warmed.alike) hp hb k1 k2 k3 (by rw [e1]; exact hce) hcv hcl T' rfl X'
    exact ⟨t2, st.trans a1, b1⟩
theorem vx_callf {S SX : Type} {post : UInt32 → S → Prop} {px : SX → Prop} {B : S → State → Prop} {BX : String → SX → State → Prop} {AX : Nat → Prop} (hr : vx_Run p l e R s m args below meth c H locs cells slots mc ms (F0 m pc ls st0) rest (va_Qf post B A1 a) (vx_X px BX AX) free) (hS : va_S A0 H0 H locs) (hA : ∀ q, q < H.size → A1 q → A0 q) (hf : ∀ q, free q → A0 q) (hAX : ∀ q, q < H.size → AX q → A0 q)
    (kx : ∀ (E : String) (ce : Cell) (q9 : Addr) (u : SX) (t : State) (H1 : Heap) (locs1 : List Loc), t.heap = H1 → s.vm.Alike t.vm → px u → BX E u t → H.size ≤ H1.size → (∀ q : Nat, q < H.size → ¬ AX q → H1[q]? = H[q]?) → va_S A0 H0 H1 locs1 → H1[q9]? = some ce → ce.vm = .none → s.vm.findClass E = some ce.cls → vx_W p l e R s m args below meth c H1 locs1 (cells + mc) (slots + ms) Q (F0 m pc ls rest) q9)
    (kk : ∀ (r : UInt32) (u : S) (t : State) (H1 : Heap) (locs1 : List Loc), t.heap = H1 → s.vm.Alike t.vm → post r u → B u t → H.size ≤ H1.size → (∀ q : Nat, q < H.size → ¬ A1 q → H1[q]? = H[q]?) → va_S A0 H0 H1 locs1 → W p l e R s m args below meth c H1 locs1 (cells + mc) (slots + ms) Q (F0 m (pc + 3) ls (.float r :: rest))) : W p l e R s m args below meth c H locs cells slots Q (F0 m pc ls st0) := by
  intro T hT X
  rcases hr T hT X with ⟨v, st₀, t, T', L, h0, X', hL, e1, e2, ⟨⟨r, u, hv, hp, hb⟩, hF⟩, st⟩ | ⟨q, st₀, t, T', L, E, ce, h0, X', hL, e1, e2, ⟨u, hp, hb, hF⟩, hce, hcv, hcl, st⟩
  · cases hv
    obtain ⟨k1, k2, k3⟩ := vx_keep h0 e1 hS hA hf hL hF
    obtain ⟨t2, a1, b1⟩ := kk r u t T'.heap (locs ++ L) e1.symm (by rw [← e2]; exact X'.warmed.alike) hp hb k1 k2 k3 T' rfl X'
    exact ⟨t2, st t2 a1, b1⟩
  · obtain ⟨k1, k2, k3⟩ := vx_keep h0 e1 hS hAX hf hL hF
    obtain ⟨t2, a1, b1⟩ := kx E ce q u t T'.heap (locs ++ L) e1.symm (by rw [← e2]; exact X'.warmed.alike) hp hb k1 k2 k3 (by rw [e1]; exact hce) hcv hcl T' rfl X'
    exact ⟨t2, st.trans a1, b1⟩
theorem vx_calld {S SX : Type} {post : UInt64 → S → Prop} {px : SX → Prop} {B : S → State → Prop} {BX : String → SX → State → Prop} {AX : Nat → Prop} (hr : vx_Run p l e R s m args below meth c H locs cells slots mc ms (F0 m pc ls st0) rest (va_Qd post B A1 a) (vx_X px BX AX) free) (hS : va_S A0 H0 H locs) (hA : ∀ q, q < H.size → A1 q → A0 q) (hf : ∀ q, free q → A0 q) (hAX : ∀ q, q < H.size → AX q → A0 q)
    (kx : ∀ (E : String) (ce : Cell) (q9 : Addr) (u : SX) (t : State) (H1 : Heap) (locs1 : List Loc), t.heap = H1 → s.vm.Alike t.vm → px u → BX E u t → H.size ≤ H1.size → (∀ q : Nat, q < H.size → ¬ AX q → H1[q]? = H[q]?) → va_S A0 H0 H1 locs1 → H1[q9]? = some ce → ce.vm = .none → s.vm.findClass E = some ce.cls → vx_W p l e R s m args below meth c H1 locs1 (cells + mc) (slots + ms) Q (F0 m pc ls rest) q9)
    (kk : ∀ (r : UInt64) (u : S) (t : State) (H1 : Heap) (locs1 : List Loc), t.heap = H1 → s.vm.Alike t.vm → post r u → B u t → H.size ≤ H1.size → (∀ q : Nat, q < H.size → ¬ A1 q → H1[q]? = H[q]?) → va_S A0 H0 H1 locs1 → W p l e R s m args below meth c H1 locs1 (cells + mc) (slots + ms) Q (F0 m (pc + 3) ls (.double r :: rest))) : W p l e R s m args below meth c H locs cells slots Q (F0 m pc ls st0) := by
  intro T hT X
  rcases hr T hT X with ⟨v, st₀, t, T', L, h0, X', hL, e1, e2, ⟨⟨r, u, hv, hp, hb⟩, hF⟩, st⟩ | ⟨q, st₀, t, T', L, E, ce, h0, X', hL, e1, e2, ⟨u, hp, hb, hF⟩, hce, hcv, hcl, st⟩
  · cases hv
    obtain ⟨k1, k2, k3⟩ := vx_keep h0 e1 hS hA hf hL hF
    obtain ⟨t2, a1, b1⟩ := kk r u t T'.heap (locs ++ L) e1.symm (by rw [← e2]; exact X'.warmed.alike) hp hb k1 k2 k3 T' rfl X'
    exact ⟨t2, st t2 a1, b1⟩
  · obtain ⟨k1, k2, k3⟩ := vx_keep h0 e1 hS hAX hf hL hF
    obtain ⟨t2, a1, b1⟩ := kx E ce q u t T'.heap (locs ++ L) e1.symm (by rw [← e2]; exact X'.warmed.alike) hp hb k1 k2 k3 (by rw [e1]; exact hce) hcv hcl T' rfl X'
    exact ⟨t2, st.trans a1, b1⟩
theorem vx_callv {S SX : Type} {post : S → Prop} {px : SX → Prop} {B : S → State → Prop} {BX : String → SX → State → Prop} {AX : Nat → Prop} (hr : vx_Run p l e R s m args below meth c H locs cells slots mc ms (F0 m pc ls st0) rest (va_Qv post B A1 a) (vx_X px BX AX) free) (hS : va_S A0 H0 H locs) (hA : ∀ q, q < H.size → A1 q → A0 q) (hf : ∀ q, free q → A0 q) (hAX : ∀ q, q < H.size → AX q → A0 q)
    (kx : ∀ (E : String) (ce : Cell) (q9 : Addr) (u : SX) (t : State) (H1 : Heap) (locs1 : List Loc), t.heap = H1 → s.vm.Alike t.vm → px u → BX E u t → H.size ≤ H1.size → (∀ q : Nat, q < H.size → ¬ AX q → H1[q]? = H[q]?) → va_S A0 H0 H1 locs1 → H1[q9]? = some ce → ce.vm = .none → s.vm.findClass E = some ce.cls → vx_W p l e R s m args below meth c H1 locs1 (cells + mc) (slots + ms) Q (F0 m pc ls rest) q9)
    (kk : ∀ (u : S) (t : State) (H1 : Heap) (locs1 : List Loc), t.heap = H1 → s.vm.Alike t.vm → post u → B u t → H.size ≤ H1.size → (∀ q : Nat, q < H.size → ¬ A1 q → H1[q]? = H[q]?) → va_S A0 H0 H1 locs1 → W p l e R s m args below meth c H1 locs1 (cells + mc) (slots + ms) Q (F0 m (pc + 3) ls (rest))) : W p l e R s m args below meth c H locs cells slots Q (F0 m pc ls st0) := by
  intro T hT X
  rcases hr T hT X with ⟨v, st₀, t, T', L, h0, X', hL, e1, e2, ⟨⟨u, hv, hp, hb⟩, hF⟩, st⟩ | ⟨q, st₀, t, T', L, E, ce, h0, X', hL, e1, e2, ⟨u, hp, hb, hF⟩, hce, hcv, hcl, st⟩
  · cases hv
    obtain ⟨k1, k2, k3⟩ := vx_keep h0 e1 hS hA hf hL hF
    obtain ⟨t2, a1, b1⟩ := kk u t T'.heap (locs ++ L) e1.symm (by rw [← e2]; exact X'.warmed.alike) hp hb k1 k2 k3 T' rfl X'
    exact ⟨t2, st t2 a1, b1⟩
  · obtain ⟨k1, k2, k3⟩ := vx_keep h0 e1 hS hAX hf hL hF
    obtain ⟨t2, a1, b1⟩ := kx E ce q u t T'.heap (locs ++ L) e1.symm (by rw [← e2]; exact X'.warmed.alike) hp hb k1 k2 k3 (by rw [e1]; exact hce) hcv hcl T' rfl X'
    exact ⟨t2, st.trans a1, b1⟩
/-- caught by the row x of this method's table; the rows ahead don't take it -/
theorem vx_catch {own name : String} {E : String} {ce : Cell} {q : Addr} (hown : s.vm.findClass own = some m.cls) (pre : List ExceptionTableEntry) (x : ExceptionTableEntry) (suf : List ExceptionTableEntry) (hsplit : c.exceptionTable.toList = pre ++ x :: suf)
    (hpass : ∀ z ∈ pre, covers z pc = false ∨ (z.catchType ≠ 0 ∧ ∃ nm : String, (Cond.classLink own z.catchType nm).before args s = true ∧ va_Nc E nm s)) (hx : covers x pc = true) (h0 : x.catchType ≠ 0)
    (hlink : (Cond.classLink own x.catchType name).before args s = true) (hcast : (Cond.castable E name).before args s = true) (hcell : H[q]? = some ce) (hv : ce.vm = .none) (hcl : s.vm.findClass E = some ce.cls)
    (kk : W p l e R s m args below meth c H locs cells slots Q (F0 m x.handlerPc ls [.ref q])) : vx_W p l e R s m args below meth c H locs cells slots Q (F0 m pc ls rest) q := by
  intro T hT X
  have hpl : e.platform.magicAccessors = ({} : Platform).magicAccessors := by rw [X.admits.platform]
  obtain ⟨c3, c4, hc3, hc4, hasg⟩ := Cond.castable_spec hcast
  cases Option.some.inj (hc3.symm.trans hcl)
  obtain ⟨c5, hc5, hcl5⟩ := Cond.classLink_spec hown hlink e.platform hpl
  cases Option.some.inj (hc4.symm.trans hc5)
  obtain ⟨vm', X', st⟩ := X.thenCaughtThrough q (g := F0 m pc ls rest) rfl (Steps.refl _) (by rw [hT]; exact hcell) (by rw [hv]; rfl) (by obtain ⟨k9, h9, -⟩ := Vm.findClass_spec hcl; exact ⟨k9, h9⟩) pre x suf hsplit
    (fun z hz => by
      rcases hpass z hz with h | ⟨hz0, nm, hl1, hn1⟩
      · exact Or.inl h
      · obtain ⟨c6, hc6, hcl6⟩ := Cond.classLink_spec hown hl1 e.platform hpl
        obtain ⟨a8, b8, h1, h2, h3⟩ := hn1
        cases Option.some.inj (h1.symm.trans hcl)
        cases Option.some.inj (h2.symm.trans hc6)
        exact Or.inr ⟨hz0, _, hcl6, h3⟩) hx (Or.inr ⟨h0, c4, hcl5, hasg⟩)
  obtain ⟨t, a1, b1⟩ := kk (T.setVm vm') hT X'
  exact ⟨t, st.trans a1, b1⟩
end Rows
section Ends
variable {p : Program} {l : Launch} {e : Env} {R : Room} {s : State} {m : MethodId} {args : Array Value} {below : List Frame} {meth : Method} {c : Code} {H : Heap} {locs : List Loc} {cells slots : Nat} {Q : State → Prop}
variable {mc ms : Nat} {free : Addr → Prop} {A0 A1 : Nat → Prop} {H0 : Heap} {a : Array Value} {ls : Array Slot} {st0 rest : List Value}
variable {Qc : Array Value → State → Outcome → State → Prop} {XC : String → State → State → Prop}
/-- what a body that may throw owes at its end -/
def vx_MQ (below : List Frame) (Qc : Array Value → State → Outcome → State → Prop) (XC : String → State → State → Prop) (a : Array Value) (s : State) (mc ms : Nat) (free : Addr → Prop) : State → Prop := fun t =>
  ∃ o, t.status = .running ∧ Ended t below o ∧ vx_Q Qc XC mc ms free a s o t
theorem vx_ret {g : JFrame} {mc ms : Nat} (k : W p l e R s m args below meth c H locs cells slots (MQ below Qc args s mc ms free) g) : W p l e R s m args below meth c H locs cells slots (vx_MQ below Qc XC args s mc ms free) g := by
  intro T hT X
  obtain ⟨t, a1, o, b1, b2, b3, b4⟩ := k T hT X
  exact ⟨t, a1, o, b1, b2, Or.inl ⟨b3, b4⟩⟩
/-- not caught here: it goes on to the caller -/
theorem vx_widen {g : JFrame} {q : Addr} {k n : Nat} (h1 : cells ≤ k) (h2 : slots ≤ n) (kk : vx_W p l e R s m args below meth c H locs k n Q g q) : vx_W p l e R s m args below meth c H locs cells slots Q g q := fun T hT X => kk T hT (stand_widen X h1 h2)
theorem vx_out {pc : Nat} {E : String} {ce : Cell} {q : Addr} {mc ms : Nat} (hout : ∀ x ∈ c.exceptionTable.toList, covers x pc = false) (hlocks : meth.locks = false) (hcell : H[q]? = some ce) (hv : ce.vm = .none) (hcl : s.vm.findClass E = some ce.cls)
    (hx : ∀ t : State, t.heap = H → s.vm.Alike t.vm → XC E s t) (hf : ∀ z ∈ locs, free z.base) (hc : cells ≤ mc) (hs : slots ≤ ms) :
    vx_W p l e R s m args below meth c H locs cells slots (vx_MQ below Qc XC args s mc ms free) (F0 m pc ls rest) q := by
  intro T hT X
  obtain ⟨st1, hrun, hend, hW, hsm⟩ := X.leaveThrown q (g := F0 m pc ls rest) rfl rfl rfl hout hlocks
  have hcell9 : (T.setFrames (.throwing q :: below)).heap[q]? = some ce := by
    show T.heap[q]? = some ce
    rw [hT]; exact hcell
  exact ⟨_, st1, .threw q, hrun, hend, Or.inr ⟨q, rfl, E, ce, locs, hx _ hT hW.alike, hcell9, hv, hcl, hW, hsm.mono hc hs, hf⟩⟩
theorem vx_frame {U : State} {k n : Nat} (h : s.sameButNew ({ U with vm := s.vm } : State) locs k n) : s.heap.size ≤ U.heap.size ∧ ∀ q : Nat, q < s.heap.size → (∀ z ∈ locs, z.base ≠ q) → U.heap[q]? = s.heap[q]? := by
  obtain ⟨-, h2, -, -, -, h6⟩ := h
  refine ⟨h2, fun q hq hz => ?_⟩
  obtain ⟨c9, e1, e2, e3, e4⟩ := h6 q _ (Array.getElem?_eq_getElem hq)
  have hs : c9.slots = (s.heap[q]).slots := Array.ext_getElem? fun i => e4 i fun hm => hz _ hm rfl
  have h9 : c9 = s.heap[q] := by
    rw [hs] at e2
    exact e2
  have e5 : U.heap[q]? = some c9 := e1
  rw [e5, h9, Array.getElem?_eq_getElem hq]
/-- the words of a throw but the four that speak of the heap -/
def vx_no (w : Cond) : Bool := decide (w ≠ .isRef (.static Bundle.tN "UNASSIGNED_STACK" Bundle.steD)) && decide (w ≠ .isRef (.static Bundle.tN "SUPPRESSED_SENTINEL" Bundle.listD)) && decide (w ≠ .laysStatic Bundle.tN "UNASSIGNED_STACK" Bundle.steD) && decide (w ≠ .laysStatic Bundle.tN "SUPPRESSED_SENTINEL" Bundle.listD)
def vx_at0 (own : String) (ic : Nat) (X : String) (names : List String) : List Cond := (Bundle.ownAtoms0 own ic X names).filter vx_no
def vx_atS (own : String) (ic : Nat) (X : String) (names : List String) : List Cond := (Bundle.ownAtoms own ic X names).filter vx_no
/-- a word that the tables alone decide, or a good one -/
def vx_ot (w : Cond) : Bool := w.onTables || goodWord w
theorem vx_ot_at {args a' : Array Value} {s U : State} {w : Cond} (hW : s.WarmedH U.vm) (hvm : s.vm = U.vm) (hg : vx_ot w = true) (h : w.before args s = true) : w.before a' U = true := by
  simp only [vx_ot, Bool.or_eq_true] at hg
  rcases hg with hg | hg
  · exact va_tabs hg hvm h
  · exact word_at hW (good_of_word hg) h
/-- a list's words: the good ones out of the method's own list, the others by premises of their own -/
theorem vx_hat {args : Array Value} {s : State} {L B : List Cond} (h1 : ∀ w ∈ L.filter goodWord, w.before args s = true) (h2 : ∀ w ∈ L.filter (fun w => !goodWord w), w ∈ B) (h3 : ∀ w ∈ B, w.before args s = true) : ∀ w ∈ L, w.before args s = true := by
  intro w hw
  by_cases g : goodWord w = true
  · exact h1 w (List.mem_filter.mpr ⟨hw, g⟩)
  · refine h3 w (h2 w (List.mem_filter.mpr ⟨hw, ?_⟩))
    show (!goodWord w) = true
    cases hgw : goodWord w
    · rfl
    · exact absurd hgw g
theorem vx_c {args : Array Value} {s : State} {w : Cond} {B : List Cond} (h : w.before args s = true) (t : ∀ w ∈ B, w.before args s = true) : ∀ w' ∈ w :: B, w'.before args s = true := fun w' h' => (List.mem_cons.mp h').elim (fun e => by rw [e]; exact h) (t w')
theorem vx_n {args : Array Value} {s : State} : ∀ w ∈ ([] : List Cond), w.before args s = true := fun _ h => nomatch h
theorem vx_own {args : Array Value} {s : State} {L : List Cond} (h1 : ∀ w ∈ L.filter vx_no, w.before args s = true)
    (hU : (Cond.isRef (.static Bundle.tN "UNASSIGNED_STACK" Bundle.steD)).before args s = true) (hN : (Cond.isRef (.static Bundle.tN "SUPPRESSED_SENTINEL" Bundle.listD)).before args s = true)
    (lU : (Cond.laysStatic Bundle.tN "UNASSIGNED_STACK" Bundle.steD).before args s = true) (lN : (Cond.laysStatic Bundle.tN "SUPPRESSED_SENTINEL" Bundle.listD).before args s = true) : ∀ w ∈ L, w.before args s = true := by
  intro w hw
  by_cases e1 : w = .isRef (.static Bundle.tN "UNASSIGNED_STACK" Bundle.steD)
  · rw [e1]; exact hU
  · by_cases e2 : w = .isRef (.static Bundle.tN "SUPPRESSED_SENTINEL" Bundle.listD)
    · rw [e2]; exact hN
    · by_cases e3 : w = .laysStatic Bundle.tN "UNASSIGNED_STACK" Bundle.steD
      · rw [e3]; exact lU
      · by_cases e4 : w = .laysStatic Bundle.tN "SUPPRESSED_SENTINEL" Bundle.listD
        · rw [e4]; exact lN
        · exact h1 w (List.mem_filter.mpr ⟨hw, by unfold vx_no; rw [decide_eq_true e1, decide_eq_true e2, decide_eq_true e3, decide_eq_true e4]; rfl⟩)
/-- where a static field lies, its class's statics cell in H -/
def vx_L (C n d : String) (A : Nat → Prop) (U : State) (H : Heap) : Prop := ∃ (c : ClassId) (k : Class) (i : Nat) (f : Field) (a : Nat) (cell : Cell), U.vm.findClass C = some c ∧ U.fieldFound? C n d = some (c, k, i, f) ∧ f.isStatic = true ∧ k.statics = some a ∧ H[a]? = some cell ∧ cell.vm.isStatics = true ∧ cell.cls = c ∧ f.slot < cell.slots.size ∧ k.staticTypes[f.slot]? = some f.type ∧ ¬ A a
theorem vx_L.moved {C n d : String} {A : Nat → Prop} {u U : State} {H : Heap} (hvm : u.vm.Alike U.vm) (h : vx_L C n d A u H) : vx_L C n d A U H := by
  obtain ⟨c, k, i, f, a, cell, h1, h2, h3, h4, h5, h6, h7, h8, h9, h10⟩ := h
  obtain ⟨k', hi', he⟩ := State.fieldFound?_setVm hvm h2
  exact ⟨c, k', i, f, a, cell, by rw [hvm.findClass]; exact h1, hi', h3, by rw [he]; exact h4, h5, h6, h7, h8, by rw [he]; exact h9, h10⟩
theorem vx_L.kept {C n d : String} {A : Nat → Prop} {U : State} {H H1 : Heap} (h : vx_L C n d A U H) (hq : ∀ a : Nat, a < H.size → ¬ A a → H1[a]? = H[a]?) : vx_L C n d A U H1 := by
  obtain ⟨c, k, i, f, a, cell, h1, h2, h3, h4, h5, h6, h7, h8, h9, h10⟩ := h
  exact ⟨c, k, i, f, a, cell, h1, h2, h3, h4, by rw [hq a (Array.getElem?_eq_some_iff.mp h5).1 h10]; exact h5, h6, h7, h8, h9, h10⟩
theorem vx_L.narrow {C n d : String} {A B : Nat → Prop} {U : State} {H : Heap} (h : vx_L C n d A U H) (hAB : ∀ q, B q → A q) : vx_L C n d B U H := by
  obtain ⟨c, k, i, f, a, cell, h1, h2, h3, h4, h5, h6, h7, h8, h9, h10⟩ := h
  exact ⟨c, k, i, f, a, cell, h1, h2, h3, h4, h5, h6, h7, h8, h9, fun z => h10 (hAB _ z)⟩
theorem vx_L.word {C n d : String} {A : Nat → Prop} {s : State} {args : Array Value} (h : vx_L C n d A s s.heap) : (Cond.laysStatic C n d).before args s = true := by
  obtain ⟨c, k, i, f, a, cell, h1, h2, h3, h4, h5, h6, h7, h8, h9, -⟩ := h
  show (Cond.laysStatic C n d).holds args s none s [] = true
  exact Cond.laysStatic_of h1 h2 h3 h4 h5 h6 h7 h8 h9
/-- .. and what it holds: null or some reference -/
def vx_Zq (C n d : String) (A : Nat → Prop) (U : State) (H : Heap) : Prop := va_Zq C n d A U H ∧ vx_L C n d A U H
theorem vx_Zq.moved {C n d : String} {A : Nat → Prop} {u U : State} {H : Heap} (hvm : u.vm.Alike U.vm) (h : vx_Zq C n d A u H) : vx_Zq C n d A U H := ⟨va_Zq.moved hvm h.1, vx_L.moved hvm h.2⟩
theorem vx_Zq.kept {C n d : String} {A : Nat → Prop} {U : State} {H H1 : Heap} (h : vx_Zq C n d A U H) (hq : ∀ a : Nat, a < H.size → ¬ A a → H1[a]? = H[a]?) : vx_Zq C n d A U H1 := ⟨va_Zq.kept h.1 hq, vx_L.kept h.2 hq⟩
theorem vx_Zq.narrow {C n d : String} {A B : Nat → Prop} {U : State} {H : Heap} (h : vx_Zq C n d A U H) (hAB : ∀ q, B q → A q) : vx_Zq C n d B U H := ⟨va_Zq.narrow h.1 hAB, vx_L.narrow h.2 hAB⟩
theorem vx_Zqof {args : Array Value} {s : State} {C n d : String} {A : Nat → Prop} (hl : (Cond.laysStatic C n d).before args s = true) (hini : (Cond.initialized C).before args s = true) (h : (Cond.isRef (.static C n d)).before args s = true) (hA : ∀ a : Nat, a < s.heap.size → ¬ A a) : vx_Zq C n d A s s.heap := by
  refine ⟨va_Zqof hl hini h hA, ?_⟩
  obtain ⟨c, k, i, f, a, cell, h1, h2, h3, h4, h5, h6, h7, h8, h9⟩ := Cond.laysStatic_spec hl
  exact ⟨c, k, i, f, a, cell, h1, h2, h3, h4, h5, h6, h7, h8, h9, hA a (Array.getElem?_eq_some_iff.mp h5).1⟩
theorem vx_isRef {C n d : String} {v : Value} {A : Nat → Prop} {s : State} {args : Array Value} (h : va_Z C n d v A s s.heap) (hv : v.isRef = true) : (Cond.isRef (.static C n d)).before args s = true := by
  obtain ⟨cf, kf, fi, f, a, cell, h1, h2, h3, h4, h5, h6, h7, -⟩ := h
  have he : (Term.static C n d).eval args s none [] s = some v := by
    simp [Term.eval, State.fieldNamed?, h1, h2, h4, h5, h6, h7]
  simp only [Cond.before, Cond.holds, Cond.value, he]
  cases v <;> simp_all [Value.isRef]
theorem vx_isRefq {C n d : String} {A : Nat → Prop} {s : State} {args : Array Value} (h : va_Zq C n d A s s.heap) : (Cond.isRef (.static C n d)).before args s = true := by
  rcases h with h | ⟨t, h⟩
  · exact vx_isRef h rfl
  · exact vx_isRef h rfl
/-- the same frame, seen from here: as if the method were called anew in this heap -/
theorem vx_rebase {T : State} (X : Stand p l e R s m args below meth c T locs cells slots) {R' : Room} (hf : R'.frames ≤ R.frames) (hl : R'.locals ≤ R.locals) (hc : cells + R'.cells ≤ R.cells) (hs : slots + R'.slots ≤ R.slots) :
    Stand p l e R' ((T.setVm s.vm).setFrames (.invoking m args :: below)) m args below meth c T [] 0 0 := by
  have htop : (T.setVm s.vm).topJava?.isSome := X.here.top
  have hF : ((T.setVm s.vm).setFrames (.invoking m args :: below)).frames = .invoking m args :: below := State.frames_setFrames _ (State.cur_lt_of_top htop)
  obtain ⟨g₀, hg0⟩ := Option.isSome_iff_exists.mp htop
  obtain ⟨r, hr⟩ := State.topJava?_eq_some.mp hg0
  have hl9 : e.platform.stackLimits (T.setVm s.vm).me = e.platform.stackLimits s.me := X.limits
  have hb9 : (T.setVm s.vm).me.stackBytes = s.me.stackBytes := X.bytes
  refine ⟨X.admits, X.cas, X.clock, hF, ?_, X.hears, X.method, X.code, X.here, X.tail, X.warmed, ?_, ?_, ?_⟩
  · have h := X.room
    have hU : ((T.setVm s.vm).setFrames (.invoking m args :: below)).localsInUse = s.localsInUse := by
      rw [State.localsInUse_invoking hF (meth := meth) (c := c) X.method X.code, State.localsInUse_invoking X.frames X.method X.code]
    simp only [State.hasRoom, Bool.and_eq_true, decide_eq_true_eq] at h ⊢
    obtain ⟨⟨⟨⟨h1, h2, h3, h4, h5, h6⟩, h7⟩, h8⟩, h9⟩ := h
    rw [X.frames, List.length_cons] at h2 h3
    have q1 := X.heapSize
    have q2 := X.used
    simp only [hF, hU, List.length_cons, State.stackLimits_setFrames, State.stackBytes_setFrames, hl9, hb9]
    refine ⟨⟨⟨⟨by omega, by omega, by omega, by omega, by omega, h6⟩, ?_⟩, ?_⟩, X.book⟩
    · show T.heap.size + R'.cells ≤ e.platform.maxCells
      omega
    · show T.slotsUsed + R'.slots ≤ e.platform.maxSlots
      omega
  · rw [State.stackLimits_setFrames]; rfl
  · rw [State.stackBytes_setFrames]; rfl
  · refine ⟨?_, Nat.le_refl _, Nat.le_refl _, ?_, ?_, fun a c9 h9 => ⟨c9, h9, rfl, rfl, fun _ _ => rfl⟩⟩
    · obtain ⟨t, ht, -⟩ := State.frames_cons hr
      show T.setVm s.vm = { ((T.setVm s.vm).setFrames (.invoking m args :: below)).setFrames (T.setVm s.vm).frames with heap := T.heap, slotsUsed := T.slotsUsed }
      rw [State.setFrames_setFrames, State.setFrames_self ht]
      rfl
    · show T.slotsUsed = T.slotsUsed + ((T.heap.toList.drop T.heap.size).map (·.slots.size)).sum
      rw [List.drop_eq_nil_of_le (Nat.le_of_eq Array.length_toList)]
      rfl
    · show ((T.heap.toList.drop T.heap.size).map (·.slots.size)).sum ≤ 0
      rw [List.drop_eq_nil_of_le (Nat.le_of_eq Array.length_toList)]
      exact Nat.le_refl _
/-- 'throw new E()': new; dup; invokespecial; athrow -/
theorem vx_throw0 {cc : ByteArray} {pc : Nat} (hexec : p.tables.exec = Jvm.exec) (hb : c.code = cc) (hl : l.stackTraces = false) {own cls : String} {names : List String} {ik ic mc ms : Nat} {A : Nat → Prop}
    (hown : s.vm.findClass own = some m.cls) (hcls : Bundle.fit cls = true) (hnames : ∀ n ∈ names, Bundle.fit n = true)
    (hk : (Cond.classLink own ik cls).before args s = true) (hini : (Cond.initialized cls).before args s = true) (hat : ∀ w ∈ vx_at0 own ic cls names, w.before args s = true)
    (hgood : ∀ w ∈ Cond.classLink own ik cls :: Cond.initialized cls :: vx_at0 own ic cls names, vx_ot w = true)
    (hU : vx_Zq Bundle.tN "UNASSIGNED_STACK" Bundle.steD A s s.heap) (hN : vx_Zq Bundle.tN "SUPPRESSED_SENTINEL" Bundle.listD A s s.heap) (hS : va_S A s.heap H locs) (hsize : ls.size = c.maxLocals)
    (d0 : decode cc pc = .ok (.new ik, 3)) (d3 : decode cc (pc + 3) = .ok (.dup, 1)) (d4 : decode cc (pc + 4) = .ok (.invokespecial ic, 3)) (d7 : decode cc (pc + 7) = .ok (.athrow, 1))
    (hout : ∀ x ∈ c.exceptionTable.toList, covers x (pc + 7) = false)
    (hRframes : names.length + 3 < R.frames) (hRlocals : (rest.map fun v => v.category).sum + (13 * (names.length + 1) + 42) ≤ R.locals) (hRcells : cells + 1 ≤ R.cells) (hRslots : slots + 6 ≤ R.slots) (hlocks : meth.locks = false)
    (hx : ∀ t : State, s.vm.Alike t.vm → H.size ≤ t.heap.size → (∀ q : Nat, q < H.size → t.heap[q]? = H[q]?) → XC cls s t)
    (hf : ∀ z ∈ locs, free z.base) (hc : cells + 1 ≤ mc) (hs : slots + 6 ≤ ms) :
    W p l e R s m args below meth c H locs cells slots (vx_MQ below Qc XC args s mc ms free) (F0 m pc ls rest) := by
  intro T hT X
  have htr : e.platform.stackTraces = false := (show e.platform.stackTraces = l.stackTraces by rw [X.admits.platform]).trans hl
  have Y := vx_rebase X (R' := { frames := R.frames, locals := R.locals, cells := 1, slots := 6 }) (Nat.le_refl _) (Nat.le_refl _) hRcells hRslots
  obtain ⟨s', hA⟩ : ∃ z, z = (T.setVm s.vm).setFrames (.invoking m args :: below) := ⟨_, rfl⟩
  rw [← hA] at Y
  have hvm : s'.vm = s.vm := by rw [hA]; rfl
  have hhp : s'.heap = H := by rw [hA]; exact hT
  have hW0 : s.WarmedH s'.vm := by rw [hvm]; exact State.WarmedH.refl s
  have hat' : ∀ w ∈ vx_at0 own ic cls names, w.before args s' = true := fun w hw => vx_ot_at hW0 hvm.symm (hgood w (List.mem_cons_of_mem _ (List.mem_cons_of_mem _ hw))) (hat w hw)
  have hk' : (Cond.classLink own ik cls).before args s' = true := vx_ot_at hW0 hvm.symm (hgood _ List.mem_cons_self) hk
  have hini' : (Cond.initialized cls).before args s' = true := vx_ot_at hW0 hvm.symm (hgood _ (List.mem_cons_of_mem _ List.mem_cons_self)) hini
  have hU' : vx_Zq Bundle.tN "UNASSIGNED_STACK" Bundle.steD A s' s'.heap := by rw [hhp]; exact vx_Zq.moved hW0.alike (hU.kept hS.2.1)
  have hN' : vx_Zq Bundle.tN "SUPPRESSED_SENTINEL" Bundle.listD A s' s'.heap := by rw [hhp]; exact vx_Zq.moved hW0.alike (hN.kept hS.2.1)
  have h : ∀ w ∈ Bundle.ownAtoms0 own ic cls names, w.before args s' = true := vx_own hat' (vx_isRefq hU'.1) (vx_isRefq hN'.1) hU'.2.word hN'.2.word
  have hown' : s'.vm.findClass own = some m.cls := by rw [hvm]; exact hown
  have hins : (Cond.instantiable cls 6).before args s' = true := h _ (by simp [Bundle.ownAtoms0])
  obtain ⟨vm₁, cX, kX, hfX, hkX, -, -, X₁, st1⟩ := Y.newCold hexec (own := own) (C := cls) (index := ik) (n := 6) hown' hk' hins hini'
    (g := F0 m pc ls rest) rfl (by rw [hb]; exact d0) (Nat.le_refl _) (Nat.le_refl _)
  generalize hT1 : (T.setVm vm₁).pushCell { cls := cX, slots := kX.instanceTypes.map defaultValue, vm := .none } = T1 at X₁ st1
  have hcat : (Value.ref T.heap.size).category = 1 := rfl
  have hcellA : T1.heap[T.heap.size]? = some (freshCell cX kX) := by rw [← hT1]; exact State.heap_pushCell_size _ _
  have d3' : decode c.code (pc + 3) = .ok (.dup, 1) := by rw [hb]; exact d3
  obtain ⟨U, hsteps, hrun, hend, hW, hsame, ce, hce, hO⟩ := X₁.ctorThrow0 hexec htr (own := own) (cls := cls) (names := names) (ic := ic) hown' hcls hnames h (fun x hx => nomatch hx) hfX hkX hcellA (by rw [hhp, hT]; exact Nat.le_refl _)
    (g := { method := m, pc := pc + 4, locals := ls, stack := .ref T.heap.size :: .ref T.heap.size :: rest, locked := none }) rfl hsize rfl rfl (rest := rest) rfl
    (by rw [hb]; exact d4) (by rw [hb]; exact d7) hout hRframes (by simp only [List.map_cons, List.sum_cons, hcat]; omega) hlocks
  obtain ⟨f1, f2⟩ := vx_frame hsame
  rw [hhp] at f1 f2
  have hWs : s.WarmedH U.vm := State.WarmedH.trans hW0 hW
  have hcl : s.vm.findClass cls = some ce.cls := by
    have h9 := hO.cls
    rw [hvm] at h9
    exact h9
  have hall : s.sameButNew ({ U with vm := s.vm } : State) locs mc ms := by
    subst hA
    obtain ⟨e1, e2⟩ := hsame
    rw [State.setFrames_setFrames] at e1
    have h2 : (T.setVm s.vm).sameButNew ({ U with vm := s.vm } : State) [] (0 + 1) (0 + 6) := ⟨e1, e2⟩
    have h3 := X.same.trans h2
    rw [List.append_nil] at h3
    exact h3.mono hc hs
  refine ⟨U, ?_, .threw T.heap.size, hrun, hend, Or.inr ⟨T.heap.size, rfl, cls, ce, locs, hx U hWs.alike f1 (fun q hq => f2 q hq (fun z hz => nomatch hz)), hce, hO.vm, hcl, hWs, hall, hf⟩⟩
  refine st1 _ ?_
  show Steps p.tables e below (T1.setTop { method := m, pc := pc + 3, locals := ls, stack := .ref T.heap.size :: rest, locked := none }) _
  jvm_step X₁.here [X₁.here.top, hexec, d3', Value.category]
  exact hsteps
/-- 'throw new E("text")': new; dup; ldc; invokespecial; athrow -/
theorem vx_throwS {cc : ByteArray} {pc : Nat} (hexec : p.tables.exec = Jvm.exec) (hb : c.code = cc) (hl : l.stackTraces = false) {own cls text : String} {names : List String} {ik is ic mc ms sa : Nat} {A : Nat → Prop}
    (hown : s.vm.findClass own = some m.cls) (hcls : Bundle.fit cls = true) (hnames : ∀ n ∈ names, Bundle.fit n = true)
    (hk : (Cond.classLink own ik cls).before args s = true) (hini : (Cond.initialized cls).before args s = true) (hstr : vk_R own is text sa s) (hat : ∀ w ∈ vx_atS own ic cls names, w.before args s = true)
    (hgood : ∀ w ∈ Cond.classLink own ik cls :: Cond.initialized cls :: vx_atS own ic cls names, vx_ot w = true)
    (hU : vx_Zq Bundle.tN "UNASSIGNED_STACK" Bundle.steD A s s.heap) (hN : vx_Zq Bundle.tN "SUPPRESSED_SENTINEL" Bundle.listD A s s.heap) (hS : va_S A s.heap H locs) (hsize : ls.size = c.maxLocals)
    (d0 : decode cc pc = .ok (.new ik, 3)) (d3 : decode cc (pc + 3) = .ok (.dup, 1)) (d4 : decode cc (pc + 4) = .ok (.ldc is, 2)) (d6 : decode cc (pc + 6) = .ok (.invokespecial ic, 3)) (d9 : decode cc (pc + 9) = .ok (.athrow, 1))
    (hout : ∀ x ∈ c.exceptionTable.toList, covers x (pc + 9) = false)
    (hRframes : names.length + 3 < R.frames) (hRlocals : (rest.map fun v => v.category).sum + (13 * (names.length + 1) + 43) ≤ R.locals) (hRcells : cells + 1 ≤ R.cells) (hRslots : slots + 6 ≤ R.slots) (hlocks : meth.locks = false)
    (hx : ∀ t : State, s.vm.Alike t.vm → H.size ≤ t.heap.size → (∀ q : Nat, q < H.size → t.heap[q]? = H[q]?) → XC cls s t)
    (hf : ∀ z ∈ locs, free z.base) (hc : cells + 1 ≤ mc) (hs : slots + 6 ≤ ms) :
    W p l e R s m args below meth c H locs cells slots (vx_MQ below Qc XC args s mc ms free) (F0 m pc ls rest) := by
  intro T hT X
  have htr : e.platform.stackTraces = false := (show e.platform.stackTraces = l.stackTraces by rw [X.admits.platform]).trans hl
  have Y := vx_rebase X (R' := { frames := R.frames, locals := R.locals, cells := 1, slots := 6 }) (Nat.le_refl _) (Nat.le_refl _) hRcells hRslots
  obtain ⟨s', hA⟩ : ∃ z, z = (T.setVm s.vm).setFrames (.invoking m args :: below) := ⟨_, rfl⟩
  rw [← hA] at Y
  have hvm : s'.vm = s.vm := by rw [hA]; rfl
  have hhp : s'.heap = H := by rw [hA]; exact hT
  have hW0 : s.WarmedH s'.vm := by rw [hvm]; exact State.WarmedH.refl s
  have hat' : ∀ w ∈ vx_atS own ic cls names, w.before args s' = true := fun w hw => vx_ot_at hW0 hvm.symm (hgood w (List.mem_cons_of_mem _ (List.mem_cons_of_mem _ hw))) (hat w hw)
  have hk' : (Cond.classLink own ik cls).before args s' = true := vx_ot_at hW0 hvm.symm (hgood _ List.mem_cons_self) hk
  have hini' : (Cond.initialized cls).before args s' = true := vx_ot_at hW0 hvm.symm (hgood _ (List.mem_cons_of_mem _ List.mem_cons_self)) hini
  have hU' : vx_Zq Bundle.tN "UNASSIGNED_STACK" Bundle.steD A s' s'.heap := by rw [hhp]; exact vx_Zq.moved hW0.alike (hU.kept hS.2.1)
  have hN' : vx_Zq Bundle.tN "SUPPRESSED_SENTINEL" Bundle.listD A s' s'.heap := by rw [hhp]; exact vx_Zq.moved hW0.alike (hN.kept hS.2.1)
  have h : ∀ w ∈ Bundle.ownAtoms own ic cls names, w.before args s' = true := vx_own hat' (vx_isRefq hU'.1) (vx_isRefq hN'.1) hU'.2.word hN'.2.word
  have hown' : s'.vm.findClass own = some m.cls := by rw [hvm]; exact hown
  have hins : (Cond.instantiable cls 6).before args s' = true := h _ (by simp [Bundle.ownAtoms])
  obtain ⟨vm₁, cX, kX, hfX, hkX, -, -, X₁, st1⟩ := Y.newCold hexec (own := own) (C := cls) (index := ik) (n := 6) hown' hk' hins hini'
    (g := F0 m pc ls rest) rfl (by rw [hb]; exact d0) (Nat.le_refl _) (Nat.le_refl _)
  generalize hT1 : (T.setVm vm₁).pushCell { cls := cX, slots := kX.instanceTypes.map defaultValue, vm := .none } = T1 at X₁ st1
  have hcat : (Value.ref T.heap.size).category = 1 := rfl
  have hcellA : T1.heap[T.heap.size]? = some (freshCell cX kX) := by rw [← hT1]; exact State.heap_pushCell_size _ _
  have d3' : decode c.code (pc + 3) = .ok (.dup, 1) := by rw [hb]; exact d3
  have d4' : decode c.code (pc + 4) = .ok (.ldc is, 2) := by rw [hb]; exact d4
  have hstr' : vk_R own is text sa s' := vk_R.warm hW0 hstr
  obtain ⟨U, hsteps, hrun, hend, hW, hsame, ce, hce, hO⟩ := X₁.ctorThrowS hexec htr (own := own) (cls := cls) (names := names) (ic := ic) hown' hcls hnames h (fun x hx => nomatch hx) hfX hkX hcellA (by rw [hhp, hT]; exact Nat.le_refl _) (msg := .ref sa) rfl
    (g := { method := m, pc := pc + 6, locals := ls, stack := .ref sa :: .ref T.heap.size :: .ref T.heap.size :: rest, locked := none }) rfl hsize rfl rfl (rest := rest) rfl
    (by rw [hb]; exact d6) (by rw [hb]; exact d9) hout hRframes (by simp only [List.map_cons, List.sum_cons, hcat]; omega) hlocks
  obtain ⟨f1, f2⟩ := vx_frame hsame
  rw [hhp] at f1 f2
  have hWs : s.WarmedH U.vm := State.WarmedH.trans hW0 hW
  have hcl : s.vm.findClass cls = some ce.cls := by
    have h9 := hO.cls
    rw [hvm] at h9
    exact h9
  have hall : s.sameButNew ({ U with vm := s.vm } : State) locs mc ms := by
    subst hA
    obtain ⟨e1, e2⟩ := hsame
    rw [State.setFrames_setFrames] at e1
    have h2 : (T.setVm s.vm).sameButNew ({ U with vm := s.vm } : State) [] (0 + 1) (0 + 6) := ⟨e1, e2⟩
    have h3 := X.same.trans h2
    rw [List.append_nil] at h3
    exact h3.mono hc hs
  refine ⟨U, ?_, .threw T.heap.size, hrun, hend, Or.inr ⟨T.heap.size, rfl, cls, ce, locs, hx U hWs.alike f1 (fun q hq => f2 q hq (fun z hz => nomatch hz)), hce, hO.vm, hcl, hWs, hall, hf⟩⟩
  refine st1 _ ?_
  show Steps p.tables e below (T1.setTop { method := m, pc := pc + 3, locals := ls, stack := .ref T.heap.size :: rest, locked := none }) _
  jvm_step X₁.here [X₁.here.top, hexec, d3', Value.category]
  exact X₁.ldcString hexec (own := own) (text := text) (index := is) (a := sa) hown' hstr'.1 hstr'.2
    (g := { method := m, pc := pc + 4, locals := ls, stack := .ref T.heap.size :: .ref T.heap.size :: rest, locked := none }) rfl d4' _ hsteps
/-- 'throw new E("text")', the text by a wide index -/
theorem vx_throwSW {cc : ByteArray} {pc : Nat} (hexec : p.tables.exec = Jvm.exec) (hb : c.code = cc) (hl : l.stackTraces = false) {own cls text : String} {names : List String} {ik is ic mc ms sa : Nat} {A : Nat → Prop}
    (hown : s.vm.findClass own = some m.cls) (hcls : Bundle.fit cls = true) (hnames : ∀ n ∈ names, Bundle.fit n = true)
    (hk : (Cond.classLink own ik cls).before args s = true) (hini : (Cond.initialized cls).before args s = true) (hstr : vk_R own is text sa s) (hat : ∀ w ∈ vx_atS own ic cls names, w.before args s = true)
    (hgood : ∀ w ∈ Cond.classLink own ik cls :: Cond.initialized cls :: vx_atS own ic cls names, vx_ot w = true)
    (hU : vx_Zq Bundle.tN "UNASSIGNED_STACK" Bundle.steD A s s.heap) (hN : vx_Zq Bundle.tN "SUPPRESSED_SENTINEL" Bundle.listD A s s.heap) (hS : va_S A s.heap H locs) (hsize : ls.size = c.maxLocals)
    (d0 : decode cc pc = .ok (.new ik, 3)) (d3 : decode cc (pc + 3) = .ok (.dup, 1)) (d4 : decode cc (pc + 4) = .ok (.ldc_w is, 3)) (d7 : decode cc (pc + 7) = .ok (.invokespecial ic, 3)) (d10 : decode cc (pc + 10) = .ok (.athrow, 1))
    (hout : ∀ x ∈ c.exceptionTable.toList, covers x (pc + 10) = false)
    (hRframes : names.length + 3 < R.frames) (hRlocals : (rest.map fun v => v.category).sum + (13 * (names.length + 1) + 43) ≤ R.locals) (hRcells : cells + 1 ≤ R.cells) (hRslots : slots + 6 ≤ R.slots) (hlocks : meth.locks = false)
    (hx : ∀ t : State, s.vm.Alike t.vm → H.size ≤ t.heap.size → (∀ q : Nat, q < H.size → t.heap[q]? = H[q]?) → XC cls s t)
    (hf : ∀ z ∈ locs, free z.base) (hc : cells + 1 ≤ mc) (hs : slots + 6 ≤ ms) :
    W p l e R s m args below meth c H locs cells slots (vx_MQ below Qc XC args s mc ms free) (F0 m pc ls rest) := by
  intro T hT X
  have htr : e.platform.stackTraces = false := (show e.platform.stackTraces = l.stackTraces by rw [X.admits.platform]).trans hl
  have Y := vx_rebase X (R' := { frames := R.frames, locals := R.locals, cells := 1, slots := 6 }) (Nat.le_refl _) (Nat.le_refl _) hRcells hRslots
  obtain ⟨s', hA⟩ : ∃ z, z = (T.setVm s.vm).setFrames (.invoking m args :: below) := ⟨_, rfl⟩
  rw [← hA] at Y
  have hvm : s'.vm = s.vm := by rw [hA]; rfl
  have hhp : s'.heap = H := by rw [hA]; exact hT
  have hW0 : s.WarmedH s'.vm := by rw [hvm]; exact State.WarmedH.refl s
  have hat' : ∀ w ∈ vx_atS own ic cls names, w.before args s' = true := fun w hw => vx_ot_at hW0 hvm.symm (hgood w (List.mem_cons_of_mem _ (List.mem_cons_of_mem _ hw))) (hat w hw)
  have hk' : (Cond.classLink own ik cls).before args s' = true := vx_ot_at hW0 hvm.symm (hgood _ List.mem_cons_self) hk
  have hini' : (Cond.initialized cls).before args s' = true := vx_ot_at hW0 hvm.symm (hgood _ (List.mem_cons_of_mem _ List.mem_cons_self)) hini
  have hU' : vx_Zq Bundle.tN "UNASSIGNED_STACK" Bundle.steD A s' s'.heap := by rw [hhp]; exact vx_Zq.moved hW0.alike (hU.kept hS.2.1)
  have hN' : vx_Zq Bundle.tN "SUPPRESSED_SENTINEL" Bundle.listD A s' s'.heap := by rw [hhp]; exact vx_Zq.moved hW0.alike (hN.kept hS.2.1)
  have h : ∀ w ∈ Bundle.ownAtoms own ic cls names, w.before args s' = true := vx_own hat' (vx_isRefq hU'.1) (vx_isRefq hN'.1) hU'.2.word hN'.2.word
  have hown' : s'.vm.findClass own = some m.cls := by rw [hvm]; exact hown
  have hins : (Cond.instantiable cls 6).before args s' = true := h _ (by simp [Bundle.ownAtoms])
  obtain ⟨vm₁, cX, kX, hfX, hkX, -, -, X₁, st1⟩ := Y.newCold hexec (own := own) (C := cls) (index := ik) (n := 6) hown' hk' hins hini'
    (g := F0 m pc ls rest) rfl (by rw [hb]; exact d0) (Nat.le_refl _) (Nat.le_refl _)
  generalize hT1 : (T.setVm vm₁).pushCell { cls := cX, slots := kX.instanceTypes.map defaultValue, vm := .none } = T1 at X₁ st1
  have hcat : (Value.ref T.heap.size).category = 1 := rfl
  have hcellA : T1.heap[T.heap.size]? = some (freshCell cX kX) := by rw [← hT1]; exact State.heap_pushCell_size _ _
  have d3' : decode c.code (pc + 3) = .ok (.dup, 1) := by rw [hb]; exact d3
  have d4' : decode c.code (pc + 4) = .ok (.ldc_w is, 3) := by rw [hb]; exact d4
  have hstr' : vk_R own is text sa s' := vk_R.warm hW0 hstr
  obtain ⟨U, hsteps, hrun, hend, hW, hsame, ce, hce, hO⟩ := X₁.ctorThrowS hexec htr (own := own) (cls := cls) (names := names) (ic := ic) hown' hcls hnames h (fun x hx => nomatch hx) hfX hkX hcellA (by rw [hhp, hT]; exact Nat.le_refl _) (msg := .ref sa) rfl
    (g := { method := m, pc := pc + 7, locals := ls, stack := .ref sa :: .ref T.heap.size :: .ref T.heap.size :: rest, locked := none }) rfl hsize rfl rfl (rest := rest) rfl
    (by rw [hb]; exact d7) (by rw [hb]; exact d10) hout hRframes (by simp only [List.map_cons, List.sum_cons, hcat]; omega) hlocks
  obtain ⟨f1, f2⟩ := vx_frame hsame
  rw [hhp] at f1 f2
  have hWs : s.WarmedH U.vm := State.WarmedH.trans hW0 hW
  have hcl : s.vm.findClass cls = some ce.cls := by
    have h9 := hO.cls
    rw [hvm] at h9
    exact h9
  have hall : s.sameButNew ({ U with vm := s.vm } : State) locs mc ms := by
    subst hA
    obtain ⟨e1, e2⟩ := hsame
    rw [State.setFrames_setFrames] at e1
    have h2 : (T.setVm s.vm).sameButNew ({ U with vm := s.vm } : State) [] (0 + 1) (0 + 6) := ⟨e1, e2⟩
    have h3 := X.same.trans h2
    rw [List.append_nil] at h3
    exact h3.mono hc hs
  refine ⟨U, ?_, .threw T.heap.size, hrun, hend, Or.inr ⟨T.heap.size, rfl, cls, ce, locs, hx U hWs.alike f1 (fun q hq => f2 q hq (fun z hz => nomatch hz)), hce, hO.vm, hcl, hWs, hall, hf⟩⟩
  refine st1 _ ?_
  show Steps p.tables e below (T1.setTop { method := m, pc := pc + 3, locals := ls, stack := .ref T.heap.size :: rest, locked := none }) _
  jvm_step X₁.here [X₁.here.top, hexec, d3', Value.category]
  exact X₁.ldcStringW hexec (own := own) (text := text) (index := is) (a := sa) hown' hstr'.1 hstr'.2
    (g := { method := m, pc := pc + 4, locals := ls, stack := .ref T.heap.size :: .ref T.heap.size :: rest, locked := none }) rfl d4' _ hsteps
end Ends
section Bodies
variable {l : Launch}
theorem vx_ofW {y : MethodName} {ws ws' : List Cond} {rm : Room} {Pc : Array Value → State → Prop} {Qc : Array Value → State → Outcome → State → Prop} {XC : String → State → State → Prop} {mc ms : Nat} {free : Addr → Prop} {cc : ByteArray} {maxL : Nat} {ret : Option FieldType}
    (hy : plainName y.cls = true) (hw : ws = Cond.code y cc maxL ret :: ws')
    (body : ∀ p e s m args below meth c s₁, BodyLoose p l y (headSpec ws rm) cc maxL ret e s m args below meth c s₁ → c.maxLocals = maxL → (∀ x ∈ c.exceptionTable.toList, False) → Pc args s →
      W p l e (headSpec ws rm).room s m args below meth c s.heap [] 0 0 (vx_MQ below Qc XC args s mc ms free) (entryFrame m args maxL)) : vx_Met l y ws rm Pc Qc XC mc ms free := by
  refine MetFree.of_bodyS (code := cc) (maxLocals := maxL) (ret := ret) hy ?_ ?_
  · intro args s m h hn
    obtain ⟨meth, c, h1, h2, h3, h4, h5, h6, -, -⟩ := Cond.code_spec hn (atoms_spec (ws := ws) h _ (by rw [hw]; exact List.mem_cons_self))
    exact ⟨meth, c, h1, h2, h3, h4, h5, h6⟩
  · intro p e s m args below meth c s₁ B hml hP _
    have hh0 : s₁.heap = s.heap := by rw [B.state]; rfl
    have ht : ∀ x ∈ c.exceptionTable.toList, False := by
      obtain ⟨meth9, c9, h1, h2, -, -, -, -, h7, -⟩ := Cond.code_spec B.named (atoms_spec (ws := ws) B.pre _ (by rw [hw]; exact List.mem_cons_self))
      cases Option.some.inj (h1.symm.trans B.method)
      cases Option.some.inj (h2.symm.trans (Stand.of_body B).code)
      intro x hx
      rw [Array.isEmpty_iff.mp h7] at hx
      cases hx
    obtain ⟨t, a1, o, b1, b2, b3⟩ := body p e s m args below meth c s₁ B hml ht hP s₁ hh0 (Stand.of_body B)
    exact ⟨t, o, a1, b1, b2, b3⟩
/-- the table of a body with handlers -/
theorem vx_table {p : Program} {x y : MethodName} {S : Spec} {cc bytes : ByteArray} {maxL maxL' : Nat} {ret ret' : Option FieldType} {e : Env} {s s₁ : State} {m : MethodId} {args : Array Value} {below : List Frame} {meth : Method} {c : Code} {hh : List (Nat × Nat × Nat × Nat)}
    (B : BodyLoose p l y S cc maxL ret e s m args below meth c s₁) (h : (Cond.codeWith y bytes maxL' ret' hh).before args s = true) : c.exceptionTable.toList = tableOf hh := by
  obtain ⟨m9, meth9, c9, hn9, h1, h2, -, -, h6, -⟩ := Cond.codeWith_spec h
  cases Option.some.inj (hn9.symm.trans B.named)
  cases Option.some.inj (h1.symm.trans B.method)
  cases Option.some.inj (h2.symm.trans (Stand.of_body B).code)
  rw [← h6, table_eq]
end Bodies
end VXA
/-! ===== END ===== -/
/-! ===== BEGIN a static call of a method with an exception table ===== -/
section VXS
variable {p : Program} {l : Launch} {e : Env} {R : Room} {s : State} {m : MethodId} {args : Array Value} {below : List Frame} {meth : Method} {c : Code} {T : State} {H : Heap} {locs : List Loc} {cells slots : Nat}
abbrev vx_CSW (R : Room) (s : State) (args : Array Value) (own : String) (index : Nat) (y : MethodName) (bytes : ByteArray) (maxL : Nat) (ret : Option FieldType) (hh : List (Nat × Nat × Nat × Nat)) (ws : List Cond) (rm : Room) (mc ms n : Nat) : Prop :=
  (rm.cells = mc ∧ rm.slots = ms ∧ rm.frames + 1 ≤ R.frames ∧ 8 + (maxL + 11) + rm.locals ≤ R.locals ∧ (∀ w ∈ ws, ∀ (a' : Array Value) (U : State), s.WarmedH U.vm → w.before a' U = true) ∧ Cond.codeWith y bytes maxL ret hh ∈ ws) ∧
  (Cond.codeWith y bytes maxL ret hh).before args s = true ∧ (Cond.initialized y.cls).before args s = true ∧ (y.cls ≠ "java/lang/invoke/MethodHandle" ∧ y.cls ≠ "java/lang/invoke/VarHandle") ∧
  (∀ sig, parseMethodDescriptor y.desc = some sig → n = sig.parameters.length) ∧ (Cond.methodLink own index y).before args s = true ∧ (Cond.static y).before args s = true
theorem vx_cwSW {own : String} {index maxL mc ms : Nat} {y : MethodName} {bytes : ByteArray} {ret : Option FieldType} {hh : List (Nat × Nat × Nat × Nat)} {Ts ws ws' : List Cond} {rm : Room} (n : Nat) (ht : ∀ w ∈ Ts, w.before args s = true) (hT : GoodIn Ts (va_wsS own index y ws)) (hw : ws = Cond.codeWith y bytes maxL ret hh :: ws') (hrc : rm.cells = mc) (hrs : rm.slots = ms)
    (hd : y.cls ≠ "java/lang/invoke/MethodHandle" ∧ y.cls ≠ "java/lang/invoke/VarHandle" ∧ (parseMethodDescriptor y.desc).map (fun d => d.parameters.length) = some n) (hR : rm.frames + 1 ≤ R.frames ∧ 8 + (maxL + 11) + rm.locals ≤ R.locals) :
    vx_CSW R s args own index y bytes maxL ret hh ws rm mc ms n := by
  have ok : ∀ w ∈ va_wsS own index y ws, w.before args s = true := fun w h => ht w (hT w h).1
  have hG : GoodIn Ts ws := fun w h => hT w (by unfold va_wsS; exact List.mem_append_right _ h)
  have hc : Cond.codeWith y bytes maxL ret hh ∈ ws := by rw [hw]; exact List.mem_cons_self
  refine ⟨⟨hrc, hrs, hR.1, hR.2, pay_in ht hG, hc⟩, ht _ (hG _ hc).1, ok _ (by simp [va_wsS]), ⟨hd.1, hd.2.1⟩, fun sig h => ?_, ok _ (by simp [va_wsS]), ok _ (by simp [va_wsS])⟩
  have h2 := hd.2.2
  rw [h] at h2
  exact (Option.some.inj h2).symm
theorem vx_callSW (X : Stand p l e R s m args below meth c T locs cells slots) (hexec : p.tables.exec = Jvm.exec) {own : String} {index : Nat} {y : MethodName} {bytes : ByteArray} {maxL : Nat} {ret : Option FieldType} {hh : List (Nat × Nat × Nat × Nat)}
    (hown : s.vm.findClass own = some m.cls) (hlink : (Cond.methodLink own index y).before args s = true) (hstat : (Cond.static y).before args s = true) (hinit : (Cond.initialized y.cls).before args s = true)
    (hcode : (Cond.codeWith y bytes maxL ret hh).before args s = true) (hy : y.cls ≠ "java/lang/invoke/MethodHandle" ∧ y.cls ≠ "java/lang/invoke/VarHandle")
    {W9 : Nat} {Pre : Pt → Array Value → Prop} {Post : Pt → Array Value → Option Value → Pt → Prop} (hK : Back l R p e below s args y 3 W9 Pre Post)
    {g : JFrame} (hg : g.method = m) (hsize : g.locals.size = c.maxLocals) {argsL rest : List Value} (hlen : ∀ sig, parseMethodDescriptor y.desc = some sig → argsL.length = sig.parameters.length)
    (hstack : g.stack = argsL.reverse ++ rest) (hW : 2 * g.monitorRoom + (rest.map fun v => v.category).sum ≤ W9) (hdg : decode c.code g.pc = .ok (.invokestatic index, 3))
    (hpre : ∀ vm₁, s.WarmedH vm₁ → Pre ⟨T.setVm vm₁, locs, cells, slots⟩ argsL.toArray) :
    ∃ (v : Option Value) (vm₁ : Vm) (B : Pt), s.WarmedH vm₁ ∧ Stand p l e R s m args below meth c B.U B.locs B.cells B.slots ∧ Post ⟨T.setVm vm₁, locs, cells, slots⟩ argsL.toArray v B ∧
      ∀ target, Steps p.tables e below (B.U.setTop { g with pc := g.pc + 3, stack := v.toList ++ rest }) target → Steps p.tables e below (T.setTop g) target := by
  obtain ⟨mk, methM, cM, hnamed, hmethM, -, -, -, -, -, -, hsigM⟩ := Cond.codeWith_spec hcode
  have hstatic : methM.isStatic = true := Cond.static_spec hnamed hmethM hstat
  obtain ⟨kP, hkP, -⟩ := className_of_methodNamed hnamed
  have hinitP : kP.init = .initialized := Cond.initialized_spec (findClass_of_methodNamed hnamed) hkP hinit
  obtain ⟨vm₁, X₁, hstep₁⟩ := X.invokestatic hexec hown hlink hnamed hmethM hstatic hkP hinitP hy (g := g) hg (argsL := argsL) (rest := rest) (hlen _ hsigM) hstack hdg
  obtain ⟨v, B, X', hpost, hsteps⟩ := hK m meth c ⟨T.setVm vm₁, locs, cells, slots⟩ { g with stack := rest } (.invokestatic index) mk argsL.toArray X₁ hg hsize hdg hW (X₁.named hnamed) (hpre vm₁ X₁.warmed)
  exact ⟨v, vm₁, B, X₁.warmed, X', hpost, fun target h => hstep₁ _ fun acts => by rw [doInvoke_state]; exact hsteps.trans h⟩
theorem vx_runSW {y : MethodName} {bytes cc : ByteArray} {maxL nL mc ms n index : Nat} {ret : Option FieldType} {hh : List (Nat × Nat × Nat × Nat)} {ws : List Cond} {rm : Room} {Pc : Array Value → State → Prop} {Qc : Array Value → State → Outcome → State → Prop} {free : Addr → Prop} {Ts : List Cond} {own : String} {As rest : List Value} {g : JFrame}
    (S : CallFix p m c cc nL s args Ts own) (hM : Met l y ws rm Pc Qc mc ms free) (cw : vx_CSW R s args own index y bytes maxL ret hh ws rm mc ms n) (hp : PreS s H Pc As)
    (hg : g.method = m) (hn : As.length = n) (hsize : g.locals.size = nL) (hstack : g.stack = As.reverse ++ rest) (hW : 2 * g.monitorRoom + (rest.map fun v => v.category).sum ≤ 8) (hdg : decode cc g.pc = .ok (.invokestatic index, 3)) (hf : cells + mc ≤ R.cells ∧ slots + ms ≤ R.slots) :
    va_Run p l e R s m args below meth c H locs cells slots mc ms g rest (Qc As.toArray) (free) := by
  obtain ⟨⟨hrc, hrs, hfr, hlo, hws, hcw⟩, hcode, hini, hy, hlen, hl, hstt⟩ := cw
  have hK : Back l R p e below s args y 3 8 (PreOf R mc ms Pc) (PostOf Qc mc ms free) := va_backW (hh := hh) (bytes := bytes) (maxL := maxL) (ret := ret) hM hp.1 hrc hrs hfr hlo hws hcw (fun a' U hW => word_at hW (Or.inl (by first | rfl | simp [Cond.onTables, Cond.keeps, Cond.steady])) hini)
  obtain ⟨hx, hb, hml, ho, -⟩ := S
  intro T hT X
  obtain ⟨v, vm₁, ⟨U', l2, c2, s2⟩, hW₁, X', ⟨g', mk, t, L, e1, e2, hq, h1, hL, h2, h3⟩, st⟩ := vx_callSW X hx (hh := hh) (bytes := bytes) (maxL := maxL) (ret := ret) ho hl hstt hini hcode hy hK hg (hsize.trans hml.symm) (argsL := As) (rest := rest) (fun sig h => hn.trans (hlen sig h)) hstack hW (by rw [hb]; exact hdg)
    (fun vm₁ hW₁ => ⟨hf.1, hf.2, hp.2 (T.setVm vm₁) hT hW₁⟩)
  dsimp only [Pt.U, Pt.locs, Pt.cells, Pt.slots] at X' e1 e2 h1 h2 h3 st
  subst h1; subst h2; subst h3
  exact ⟨v, (T.setVm vm₁).calling g' mk As.toArray, t, U', L, hT, X', hL, e1, e2, hq, st⟩
/-- not caught here, past rows that name other classes: it goes on to the caller -/
theorem vx_outP {p : Program} {l : Launch} {e : Env} {R : Room} {s : State} {m : MethodId} {args : Array Value} {below : List Frame} {meth : Method} {c : Code} {H : Heap} {locs : List Loc} {cells slots : Nat} {free : Addr → Prop} {ls : Array Slot} {rest : List Value} {Qc : Array Value → State → Outcome → State → Prop} {XC : String → State → State → Prop}
    {pc : Nat} {own E : String} {ce : Cell} {q : Addr} {mc ms : Nat} (hown : s.vm.findClass own = some m.cls) (hlocks : meth.locks = false)
    (hpass : ∀ z ∈ c.exceptionTable.toList, covers z pc = false ∨ (z.catchType ≠ 0 ∧ ∃ nm : String, (Cond.classLink own z.catchType nm).before args s = true ∧ va_Nc E nm s)) (hcell : H[q]? = some ce) (hv : ce.vm = .none) (hcl : s.vm.findClass E = some ce.cls)
    (hx : ∀ t : State, t.heap = H → s.vm.Alike t.vm → XC E s t) (hf : ∀ z ∈ locs, free z.base) (hc : cells ≤ mc) (hs : slots ≤ ms) :
    vx_W p l e R s m args below meth c H locs cells slots (vx_MQ below Qc XC args s mc ms free) (F0 m pc ls rest) q := by
  intro T hT X
  have hpl : e.platform.magicAccessors = ({} : Platform).magicAccessors := by rw [X.admits.platform]
  obtain ⟨vm', hW', X', st⟩ := X.outThrough hlocks q (g := F0 m pc ls rest) rfl rfl rfl (cell := ce) (by rw [hT]; exact hcell) (by rw [hv]; rfl)
    (by obtain ⟨k9, h9, -⟩ := Vm.findClass_spec hcl; exact ⟨k9, h9⟩) (fun z hz => by
      rcases hpass z hz with h | ⟨hz0, nm, hl1, hn1⟩
      · exact Or.inl h
      · obtain ⟨c6, hc6, hcl6⟩ := Cond.classLink_spec hown hl1 e.platform hpl
        obtain ⟨a8, b8, h1, h2, h3⟩ := hn1
        cases Option.some.inj (h1.symm.trans hcl)
        cases Option.some.inj (h2.symm.trans hc6)
        exact Or.inr ⟨hz0, _, hcl6, h3⟩)
  obtain ⟨g₀, hfr⟩ := X'.frames_eq
  have hcell9 : ((T.setVm vm').setFrames (.throwing q :: below)).heap[q]? = some ce := by
    show T.heap[q]? = some ce
    rw [hT]; exact hcell
  have hend : Ended ((T.setVm vm').setFrames (.throwing q :: below)) below (.threw q) := State.frames_setFrames _ (State.cur_lt_of_frames hfr)
  refine ⟨(T.setVm vm').setFrames (.throwing q :: below), ?_, .threw q, X'.here.running, hend, Or.inr ⟨q, rfl, E, ce, locs, hx _ hT (X'.ends _).1.alike, hcell9, hv, hcl, (X'.ends _).1, (X'.ends _).2.mono hc hs, hf⟩⟩
  rw [X.pushThrowing_eq]
  exact st
/-- a thing of a world lies in the heap -/
theorem vx_lt {D : va_G} {cl : List vw_C} {ws : va_W} {H1 : Heap} (h : va_P D cl ws H1) {k : Nat} {q : Nat × va_E} (hk : ws[k]? = some q) : q.1 < H1.size := (h k q hk).lt
end VXS
/-! ===== END ===== -/
/-! ===== BEGIN methods with a table of their own: called by a name, returning or throwing ===== -/
section VXH
/-! vx_backW, vx_callVX, vx_callSX, vx_callVW, vx_runVW, vx_runVX, vx_runSX, vx_ofWH follow the same proofs as their sisters above (Free/Laws.lean, Shelf42/LK1.lean); vx_outP calls Shelf42/NT130.lean (outThrough). -/
section
variable {l : Launch} {R : Room} {p : Program} {e : Env} {below : List Frame} {s : State} {sargs : Array Value} {y : MethodName} {len W9 : Nat}
theorem vx_backW {ws : List Cond} {rm : Room} {Pc : Array Value → State → Prop} {Qc : Array Value → State → Outcome → State → Prop} {XC : String → State → State → Prop} {mc ms : Nat} {free : Addr → Prop} {bytes : ByteArray} {maxL : Nat} {ret : Option FieldType} {hh : List (Nat × Nat × Nat × Nat)}
    (hM : vx_Met l y ws rm Pc Qc XC mc ms free) (hblind : FrameBlind Pc) (hrc : rm.cells = mc) (hrs : rm.slots = ms)
    (hframes : rm.frames + 1 ≤ R.frames) (hlocals : W9 + (maxL + 11) + rm.locals ≤ R.locals)
    (hws : ∀ w ∈ ws, ∀ a' U, s.WarmedH U.vm → w.before a' U = true) (hcode : Cond.codeWith y bytes maxL ret hh ∈ ws) (hinit : ∀ a' U, s.WarmedH U.vm → (Cond.initialized y.cls).before a' U = true) :
    vx_Back l R p e below s sargs y len W9 (PreOf R mc ms Pc) (PostOf Qc mc ms free) (vx_Post XC mc ms free) := by
  intro m meth c A g ig mk a X hg hsize hdg hW hn hp
  have h1 : (headSpec ws rm).pre.before a A.U = true := atoms_intro fun w hw => hws w hw _ _ X.warmed
  have h2 : (Cond.codeWith y bytes maxL ret hh).before a A.U = true := hws _ hcode _ _ X.warmed
  have h3 : (Cond.initialized y.cls).before a A.U = true := hinit _ _ X.warmed
  have h4 : A.cells + (headSpec ws rm).room.cells ≤ R.cells := by rw [show (headSpec ws rm).room.cells = mc from hrc]; exact hp.1
  have h5 : A.slots + (headSpec ws rm).room.slots ≤ R.slots := by rw [show (headSpec ws rm).room.slots = ms from hrs]; exact hp.2.1
  have hPc : Pc a (A.U.calling g mk a) := hblind _ _ _ _ hp.2.2
  obtain ⟨U, Ls, c0, s0⟩ := A
  dsimp only [Pt.U, Pt.locs, Pt.cells, Pt.slots] at h1 h2 h3 h4 h5 X hn hPc ⊢
  obtain ⟨m9, methY, cY, hn9, hmY, hcY, -, hlY, -⟩ := Cond.codeWith_spec h2
  cases Option.some.inj (hn9.symm.trans hn)
  obtain ⟨kY, hkY, -⟩ := className_of_methodNamed hn
  have hinitY : kY.init = .initialized := Cond.initialized_spec (findClass_of_methodNamed hn) hkY h3
  have h : At U g.method c below := by rw [hg]; exact X.here
  have hlocals9 : W9 + (maxL + 11) + (headSpec ws rm).room.locals ≤ R.locals := hlocals
  have happ : (headSpec ws rm).appliesLoose y e.platform (U.calling g mk a) = true :=
    Spec.appliesLoose_calling (g := g) h hdg hn hkY hinitY
      (X.room_calling (g := g) (R' := (headSpec ws rm).room) hsize hmY hcY hframes (by rw [hlY]; omega) h4 h5) h1
  obtain ⟨mid, hmid⟩ := h.above
  have hfr : (U.setTop g).frames = (.java g :: mid) ++ below := by rw [State.frames_setTop' g h.top, hmid]; rfl
  obtain ⟨o, s₂, hsteps, -, hend, hq⟩ := Steps.callFree hM p X.admits X.cas X.clock (acts := []) hfr happ hPc trivial
  have hq' : vx_Q Qc XC mc ms free a (U.calling g mk a) o s₂ := hq
  rw [State.frames_setTop' g h.top] at hend
  obtain ⟨g₀, hg0⟩ := Option.isSome_iff_exists.mp h.top
  obtain ⟨r, hr⟩ := State.topJava?_eq_some.mp hg0
  have hr' : (({ U with heap := s₂.heap, slotsUsed := s₂.slotsUsed } : State).setVm s₂.vm).frames = .java g₀ :: r := hr
  rcases hq' with ⟨hqc, L, hfe, hL⟩ | ⟨q, rfl, E, ce, L, hx, hce, hcv, hcl, hW₂, hsm, hL⟩
  · obtain ⟨⟨v, rfl⟩, hW₂, e2, q2, q3, q4, q5, q6⟩ := id hfe
    have e3 : s₂ = ({ (U.calling g mk a).setFrames s₂.frames with heap := s₂.heap, slotsUsed := s₂.slotsUsed } : State).setVm s₂.vm := by
      have : s₂ = ({ s₂ with vm := (U.calling g mk a).vm } : State).setVm s₂.vm := rfl
      rw [e2] at this
      exact this
    obtain ⟨c₂, i₂, len₂, hc₂, hd₂, hf₂⟩ := hend
    have hW' : U.WarmedH s₂.vm := hW₂
    have hcc : c₂ = c := by
      have h1 : s₂.code? g.method = U.code? g.method := by
        rw [State.code?_eq, State.code?_eq, hW'.alike.method?]
      exact Option.some.inj (hc₂.symm.trans (h1.trans h.code))
    subst hcc
    have hlen : len₂ = len := by rw [hdg] at hd₂; cases hd₂; rfl
    subst hlen
    have hs₂ : s₂ = (({ U with heap := s₂.heap, slotsUsed := s₂.slotsUsed } : State).setVm s₂.vm).setTop { g with pc := g.pc + len₂, stack := v.toList ++ g.stack } := by
      refine e3.trans ?_
      rw [hf₂, State.calling_eq h.top, State.setFrames_setFrames, State.setTop_of_frames _ hr', hr]
      rfl
    have hsame : U.sameButNew ({ U with heap := s₂.heap, slotsUsed := s₂.slotsUsed } : State) L mc ms := by
      refine ⟨?_, q2, q3, q4, q5, q6⟩
      obtain ⟨t, ht, -⟩ := State.frames_cons hr
      show ({ U with heap := s₂.heap, slotsUsed := s₂.slotsUsed } : State) = { U.setFrames U.frames with heap := s₂.heap, slotsUsed := s₂.slotsUsed }
      rw [State.setFrames_self ht]
    subst hg
    refine Or.inl ⟨v, ⟨(({ U with heap := s₂.heap, slotsUsed := s₂.slotsUsed } : State).setVm s₂.vm), Ls ++ L, c0 + mc, s0 + ms⟩,
      ⟨X.admits, X.cas, X.clock, X.frames, X.room, X.hears, X.method, X.code, (X.here.setHeapUsed s₂.heap s₂.slotsUsed).setVm hW'.alike, X.tail, State.WarmedH.trans X.warmed hW', X.limits, X.bytes, X.same.trans (hsame.setVm s.vm)⟩,
      ⟨g, mk, s₂, L, rfl, rfl, hqc, rfl, hL, rfl, rfl⟩, ?_⟩
    show Steps p.tables e below _ ((({ U with heap := s₂.heap, slotsUsed := s₂.slotsUsed } : State).setVm s₂.vm).setTop { g with pc := g.pc + len₂, stack := v.toList ++ g.stack })
    rw [← hs₂]
    exact hsteps
  · obtain ⟨e2, q2, q3, q4, q5, q6⟩ := id hsm
    have e3 : s₂ = ({ (U.calling g mk a).setFrames s₂.frames with heap := s₂.heap, slotsUsed := s₂.slotsUsed } : State).setVm s₂.vm := by
      have : s₂ = ({ s₂ with vm := (U.calling g mk a).vm } : State).setVm s₂.vm := rfl
      rw [e2] at this
      exact this
    have hf₂ : s₂.frames = .throwing q :: .java g :: U.frames.tail := hend
    have hW' : U.WarmedH s₂.vm := hW₂
    have hs₂ : s₂ = ((({ U with heap := s₂.heap, slotsUsed := s₂.slotsUsed } : State).setVm s₂.vm).setTop g).pushFrame (.throwing q) := by
      refine e3.trans ?_
      rw [hf₂, State.calling_eq h.top, State.setFrames_setFrames, State.pushFrame, State.frames_setTop _ hr', State.setTop_of_frames _ hr', State.setFrames_setFrames, hr]
      rfl
    have hsame : U.sameButNew ({ U with heap := s₂.heap, slotsUsed := s₂.slotsUsed } : State) L mc ms := by
      refine ⟨?_, q2, q3, q4, q5, q6⟩
      obtain ⟨t, ht, -⟩ := State.frames_cons hr
      show ({ U with heap := s₂.heap, slotsUsed := s₂.slotsUsed } : State) = { U.setFrames U.frames with heap := s₂.heap, slotsUsed := s₂.slotsUsed }
      rw [State.setFrames_self ht]
    subst hg
    refine Or.inr ⟨q, ⟨(({ U with heap := s₂.heap, slotsUsed := s₂.slotsUsed } : State).setVm s₂.vm), Ls ++ L, c0 + mc, s0 + ms⟩,
      ⟨X.admits, X.cas, X.clock, X.frames, X.room, X.hears, X.method, X.code, (X.here.setHeapUsed s₂.heap s₂.slotsUsed).setVm hW'.alike, X.tail, State.WarmedH.trans X.warmed hW', X.limits, X.bytes, X.same.trans (hsame.setVm s.vm)⟩,
      ⟨g, mk, s₂, L, E, ce, rfl, rfl, hx, hce, hcv, hcl, rfl, hL, rfl, rfl⟩, ?_⟩
    show Steps p.tables e below _ (((({ U with heap := s₂.heap, slotsUsed := s₂.slotsUsed } : State).setVm s₂.vm).setTop g).pushFrame (.throwing q))
    rw [← hs₂]
    exact hsteps
end
variable {p : Program} {l : Launch} {e : Env} {R : Room} {s : State} {m : MethodId} {args : Array Value} {below : List Frame} {meth : Method} {c : Code} {T : State} {H : Heap} {locs : List Loc} {cells slots : Nat}
theorem vx_callVX (X : Stand p l e R s m args below meth c T locs cells slots) (hexec : p.tables.exec = Jvm.exec) {own C : String} {index : Nat} {y : MethodName} {bytes : ByteArray} {maxL : Nat} {ret : Option FieldType} {hh : List (Nat × Nat × Nat × Nat)}
    (hown : s.vm.findClass own = some m.cls) (hlink : (Cond.methodLink own index y).before args s = true) (hinst : (Cond.instanceMethod y).before args s = true) (hsel : (Cond.selects C y y).before args s = true)
    (hcode : (Cond.codeWith y bytes maxL ret hh).before args s = true) (hy : y.cls ≠ "java/lang/invoke/MethodHandle" ∧ y.cls ≠ "java/lang/invoke/VarHandle")
    {W9 : Nat} {Pre : Pt → Array Value → Prop} {Post : Pt → Array Value → Option Value → Pt → Prop} {PostX : Pt → Array Value → Addr → Pt → Prop} (hK : vx_Back l R p e below s args y 3 W9 Pre Post PostX)
    {b : Addr} {cellB : Cell} (hcell : T.heap[b]? = some cellB) (hobj : cellB.vm.isStatics = false) (hcls : s.vm.findClass C = some cellB.cls)
    {g : JFrame} (hg : g.method = m) (hsize : g.locals.size = c.maxLocals) {argsL rest : List Value} (hlen : ∀ sig, parseMethodDescriptor y.desc = some sig → argsL.length = sig.parameters.length)
    (hstack : g.stack = argsL.reverse ++ .ref b :: rest) (hW : 2 * g.monitorRoom + (rest.map fun v => v.category).sum ≤ W9) (hdg : decode c.code g.pc = .ok (.invokevirtual index, 3))
    (hpre : ∀ vm₁, s.WarmedH vm₁ → Pre ⟨T.setVm vm₁, locs, cells, slots⟩ (Value.ref b :: argsL).toArray) :
    (∃ (v : Option Value) (vm₁ : Vm) (B : Pt), s.WarmedH vm₁ ∧ Stand p l e R s m args below meth c B.U B.locs B.cells B.slots ∧ Post ⟨T.setVm vm₁, locs, cells, slots⟩ (Value.ref b :: argsL).toArray v B ∧
      ∀ target, Steps p.tables e below (B.U.setTop { g with pc := g.pc + 3, stack := v.toList ++ rest }) target → Steps p.tables e below (T.setTop g) target) ∨
    (∃ (q : Addr) (vm₁ : Vm) (B : Pt), s.WarmedH vm₁ ∧ Stand p l e R s m args below meth c B.U B.locs B.cells B.slots ∧ PostX ⟨T.setVm vm₁, locs, cells, slots⟩ (Value.ref b :: argsL).toArray q B ∧
      Steps p.tables e below (T.setTop g) ((B.U.setTop { g with stack := rest }).pushFrame (.throwing q))) := by
  obtain ⟨mk, methM, hnamed, hmethM, hstM, habM⟩ := Cond.instanceMethod_spec hinst
  obtain ⟨m8, methM', cM, hn8, hmethM', -, -, -, -, -, -, hsigM⟩ := Cond.codeWith_spec hcode
  cases Option.some.inj (hn8.symm.trans hnamed)
  cases hmethM.symm.trans hmethM'
  obtain ⟨c2, r2, m2, q1, q2, q3, q4, kP, hkP, hkPi⟩ := Cond.selects_spec hsel
  cases hcls.symm.trans q1
  cases (State.methodFound?_of_named hnamed hy).symm.trans q2
  cases hnamed.symm.trans q3
  have hselP : selectMethod e.platform s.vm cellB.cls mk = .method mk := by rw [Launch.admits_selectMethod X.admits]; exact q4
  obtain ⟨vm₁, X₁, hstep₁⟩ := X.invokevirtual hexec hown hlink hnamed hmethM hstM hkP hkPi hy (a := b) (cell := cellB) hcell
    (fun z h => by rw [h] at hobj; cases hobj) hselP hmethM habM hkP hkPi (g := g) hg (argsL := argsL) (rest := rest) (hlen _ hsigM) hstack hdg
  rcases hK m meth c ⟨T.setVm vm₁, locs, cells, slots⟩ { g with stack := rest } (.invokevirtual index) mk (Value.ref b :: argsL).toArray X₁ hg hsize hdg hW (X₁.named hnamed) (hpre vm₁ X₁.warmed) with ⟨v, B, X', hpost, hsteps⟩ | ⟨q, B, X', hpost, hsteps⟩
  · exact Or.inl ⟨v, vm₁, B, X₁.warmed, X', hpost, fun target h => hstep₁ _ fun acts => by rw [doInvoke_state]; exact hsteps.trans h⟩
  · exact Or.inr ⟨q, vm₁, B, X₁.warmed, X', hpost, hstep₁ _ fun acts => by rw [doInvoke_state]; exact hsteps⟩
theorem vx_callSX (X : Stand p l e R s m args below meth c T locs cells slots) (hexec : p.tables.exec = Jvm.exec) {own : String} {index : Nat} {y : MethodName} {bytes : ByteArray} {maxL : Nat} {ret : Option FieldType} {hh : List (Nat × Nat × Nat × Nat)}
    (hown : s.vm.findClass own = some m.cls) (hlink : (Cond.methodLink own index y).before args s = true) (hstat : (Cond.static y).before args s = true) (hinit : (Cond.initialized y.cls).before args s = true)
    (hcode : (Cond.codeWith y bytes maxL ret hh).before args s = true) (hy : y.cls ≠ "java/lang/invoke/MethodHandle" ∧ y.cls ≠ "java/lang/invoke/VarHandle")
    {W9 : Nat} {Pre : Pt → Array Value → Prop} {Post : Pt → Array Value → Option Value → Pt → Prop} {PostX : Pt → Array Value → Addr → Pt → Prop} (hK : vx_Back l R p e below s args y 3 W9 Pre Post PostX)
    {g : JFrame} (hg : g.method = m) (hsize : g.locals.size = c.maxLocals) {argsL rest : List Value} (hlen : ∀ sig, parseMethodDescriptor y.desc = some sig → argsL.length = sig.parameters.length)
    (hstack : g.stack = argsL.reverse ++ rest) (hW : 2 * g.monitorRoom + (rest.map fun v => v.category).sum ≤ W9) (hdg : decode c.code g.pc = .ok (.invokestatic index, 3))
    (hpre : ∀ vm₁, s.WarmedH vm₁ → Pre ⟨T.setVm vm₁, locs, cells, slots⟩ argsL.toArray) :
    (∃ (v : Option Value) (vm₁ : Vm) (B : Pt), s.WarmedH vm₁ ∧ Stand p l e R s m args below meth c B.U B.locs B.cells B.slots ∧ Post ⟨T.setVm vm₁, locs, cells, slots⟩ argsL.toArray v B ∧
      ∀ target, Steps p.tables e below (B.U.setTop { g with pc := g.pc + 3, stack := v.toList ++ rest }) target → Steps p.tables e below (T.setTop g) target) ∨
    (∃ (q : Addr) (vm₁ : Vm) (B : Pt), s.WarmedH vm₁ ∧ Stand p l e R s m args below meth c B.U B.locs B.cells B.slots ∧ PostX ⟨T.setVm vm₁, locs, cells, slots⟩ argsL.toArray q B ∧
      Steps p.tables e below (T.setTop g) ((B.U.setTop { g with stack := rest }).pushFrame (.throwing q))) := by
  obtain ⟨mk, methM, cM, hnamed, hmethM, -, -, -, -, -, -, hsigM⟩ := Cond.codeWith_spec hcode
  have hstatic : methM.isStatic = true := Cond.static_spec hnamed hmethM hstat
  obtain ⟨kP, hkP, -⟩ := className_of_methodNamed hnamed
  have hinitP : kP.init = .initialized := Cond.initialized_spec (findClass_of_methodNamed hnamed) hkP hinit
  obtain ⟨vm₁, X₁, hstep₁⟩ := X.invokestatic hexec hown hlink hnamed hmethM hstatic hkP hinitP hy (g := g) hg (argsL := argsL) (rest := rest) (hlen _ hsigM) hstack hdg
  rcases hK m meth c ⟨T.setVm vm₁, locs, cells, slots⟩ { g with stack := rest } (.invokestatic index) mk argsL.toArray X₁ hg hsize hdg hW (X₁.named hnamed) (hpre vm₁ X₁.warmed) with ⟨v, B, X', hpost, hsteps⟩ | ⟨q, B, X', hpost, hsteps⟩
  · exact Or.inl ⟨v, vm₁, B, X₁.warmed, X', hpost, fun target h => hstep₁ _ fun acts => by rw [doInvoke_state]; exact hsteps.trans h⟩
  · exact Or.inr ⟨q, vm₁, B, X₁.warmed, X', hpost, hstep₁ _ fun acts => by rw [doInvoke_state]; exact hsteps⟩
theorem vx_callVW (X : Stand p l e R s m args below meth c T locs cells slots) (hexec : p.tables.exec = Jvm.exec) {own C : String} {index : Nat} {y : MethodName} {bytes : ByteArray} {maxL : Nat} {ret : Option FieldType} {hh : List (Nat × Nat × Nat × Nat)}
    (hown : s.vm.findClass own = some m.cls) (hlink : (Cond.methodLink own index y).before args s = true) (hinst : (Cond.instanceMethod y).before args s = true) (hsel : (Cond.selects C y y).before args s = true)
    (hcode : (Cond.codeWith y bytes maxL ret hh).before args s = true) (hy : y.cls ≠ "java/lang/invoke/MethodHandle" ∧ y.cls ≠ "java/lang/invoke/VarHandle")
    {W9 : Nat} {Pre : Pt → Array Value → Prop} {Post : Pt → Array Value → Option Value → Pt → Prop} (hK : Back l R p e below s args y 3 W9 Pre Post)
    {b : Addr} {cellB : Cell} (hcell : T.heap[b]? = some cellB) (hobj : cellB.vm.isStatics = false) (hcls : s.vm.findClass C = some cellB.cls)
    {g : JFrame} (hg : g.method = m) (hsize : g.locals.size = c.maxLocals) {argsL rest : List Value} (hlen : ∀ sig, parseMethodDescriptor y.desc = some sig → argsL.length = sig.parameters.length)
    (hstack : g.stack = argsL.reverse ++ .ref b :: rest) (hW : 2 * g.monitorRoom + (rest.map fun v => v.category).sum ≤ W9) (hdg : decode c.code g.pc = .ok (.invokevirtual index, 3))
    (hpre : ∀ vm₁, s.WarmedH vm₁ → Pre ⟨T.setVm vm₁, locs, cells, slots⟩ (Value.ref b :: argsL).toArray) :
    ∃ (v : Option Value) (vm₁ : Vm) (B : Pt), s.WarmedH vm₁ ∧ Stand p l e R s m args below meth c B.U B.locs B.cells B.slots ∧ Post ⟨T.setVm vm₁, locs, cells, slots⟩ (Value.ref b :: argsL).toArray v B ∧
      ∀ target, Steps p.tables e below (B.U.setTop { g with pc := g.pc + 3, stack := v.toList ++ rest }) target → Steps p.tables e below (T.setTop g) target := by
  obtain ⟨mk, methM, hnamed, hmethM, hstM, habM⟩ := Cond.instanceMethod_spec hinst
  obtain ⟨m8, methM', cM, hn8, hmethM', -, -, -, -, -, -, hsigM⟩ := Cond.codeWith_spec hcode
  cases Option.some.inj (hn8.symm.trans hnamed)
  cases hmethM.symm.trans hmethM'
  obtain ⟨c2, r2, m2, q1, q2, q3, q4, kP, hkP, hkPi⟩ := Cond.selects_spec hsel
  cases hcls.symm.trans q1
  cases (State.methodFound?_of_named hnamed hy).symm.trans q2
  cases hnamed.symm.trans q3
  have hselP : selectMethod e.platform s.vm cellB.cls mk = .method mk := by rw [Launch.admits_selectMethod X.admits]; exact q4
  obtain ⟨vm₁, X₁, hstep₁⟩ := X.invokevirtual hexec hown hlink hnamed hmethM hstM hkP hkPi hy (a := b) (cell := cellB) hcell
    (fun z h => by rw [h] at hobj; cases hobj) hselP hmethM habM hkP hkPi (g := g) hg (argsL := argsL) (rest := rest) (hlen _ hsigM) hstack hdg
  obtain ⟨v, B, X', hpost, hsteps⟩ := hK m meth c ⟨T.setVm vm₁, locs, cells, slots⟩ { g with stack := rest } (.invokevirtual index) mk (Value.ref b :: argsL).toArray X₁ hg hsize hdg hW (X₁.named hnamed) (hpre vm₁ X₁.warmed)
  exact ⟨v, vm₁, B, X₁.warmed, X', hpost, fun target h => hstep₁ _ fun acts => by rw [doInvoke_state]; exact hsteps.trans h⟩
abbrev vx_CVW (R : Room) (s : State) (args : Array Value) (own C : String) (index : Nat) (y : MethodName) (bytes : ByteArray) (maxL : Nat) (ret : Option FieldType) (hh : List (Nat × Nat × Nat × Nat)) (ws : List Cond) (rm : Room) (mc ms n : Nat) : Prop :=
  (rm.cells = mc ∧ rm.slots = ms ∧ rm.frames + 1 ≤ R.frames ∧ 8 + (maxL + 11) + rm.locals ≤ R.locals ∧ (∀ w ∈ ws, ∀ (a' : Array Value) (U : State), s.WarmedH U.vm → w.before a' U = true) ∧ Cond.codeWith y bytes maxL ret hh ∈ ws) ∧
  (Cond.codeWith y bytes maxL ret hh).before args s = true ∧ (Cond.initialized y.cls).before args s = true ∧ (y.cls ≠ "java/lang/invoke/MethodHandle" ∧ y.cls ≠ "java/lang/invoke/VarHandle") ∧
  (∀ sig, parseMethodDescriptor y.desc = some sig → n = sig.parameters.length) ∧ (Cond.methodLink own index y).before args s = true ∧ (Cond.instanceMethod y).before args s = true ∧ (Cond.selects C y y).before args s = true
theorem vx_cwVW {own C : String} {index maxL mc ms : Nat} {y : MethodName} {bytes : ByteArray} {ret : Option FieldType} {hh : List (Nat × Nat × Nat × Nat)} {Ts ws ws' : List Cond} {rm : Room} (n : Nat) (ht : ∀ w ∈ Ts, w.before args s = true) (hT : GoodIn Ts (wsV own index C y ws)) (hw : ws = Cond.codeWith y bytes maxL ret hh :: ws') (hrc : rm.cells = mc) (hrs : rm.slots = ms)
    (hd : y.cls = C ∧ y.cls ≠ "java/lang/invoke/MethodHandle" ∧ y.cls ≠ "java/lang/invoke/VarHandle" ∧ (parseMethodDescriptor y.desc).map (fun d => d.parameters.length) = some n) (hR : rm.frames + 1 ≤ R.frames ∧ 8 + (maxL + 11) + rm.locals ≤ R.locals) :
    vx_CVW R s args own C index y bytes maxL ret hh ws rm mc ms n := by
  obtain ⟨hC, hd⟩ := hd
  subst hC
  have ok : ∀ w ∈ wsV own index y.cls y ws, w.before args s = true := fun w h => ht w (hT w h).1
  have hG : GoodIn Ts ws := fun w h => hT w (by unfold wsV; exact List.mem_append_right _ h)
  have hc : Cond.codeWith y bytes maxL ret hh ∈ ws := by rw [hw]; exact List.mem_cons_self
  refine ⟨⟨hrc, hrs, hR.1, hR.2, pay_in ht hG, hc⟩, ht _ (hG _ hc).1, ok _ (by simp [wsV]), ⟨hd.1, hd.2.1⟩, fun sig h => ?_, ok _ (by simp [wsV]), ok _ (by simp [wsV]), ok _ (by simp [wsV])⟩
  have h2 := hd.2.2
  rw [h] at h2
  exact (Option.some.inj h2).symm
theorem vx_runVW {y : MethodName} {bytes cc : ByteArray} {maxL nL mc ms n index : Nat} {ret : Option FieldType} {hh : List (Nat × Nat × Nat × Nat)} {ws : List Cond} {rm : Room} {Pc : Array Value → State → Prop} {Qc : Array Value → State → Outcome → State → Prop} {free : Addr → Prop} {Ts : List Cond} {own C : String} {b : Addr} {As rest : List Value} {g : JFrame}
    (S : CallFix p m c cc nL s args Ts own) (hM : Met l y ws rm Pc Qc mc ms free) (cw : vx_CVW R s args own C index y bytes maxL ret hh ws rm mc ms n) (hp : PreV s H C b Pc As)
    (hg : g.method = m) (hn : As.length = n) (hsize : g.locals.size = nL) (hstack : g.stack = As.reverse ++ .ref b :: rest) (hW : 2 * g.monitorRoom + (rest.map fun v => v.category).sum ≤ 8) (hdg : decode cc g.pc = .ok (.invokevirtual index, 3)) (hf : cells + mc ≤ R.cells ∧ slots + ms ≤ R.slots) :
    va_Run p l e R s m args below meth c H locs cells slots mc ms g rest (Qc (Value.ref b :: As).toArray) free := by
  obtain ⟨⟨hrc, hrs, hfr, hlo, hws, hcw⟩, hcode, hini, hy, hlen, hl, hin, hse⟩ := cw
  have hK : Back l R p e below s args y 3 8 (PreOf R mc ms Pc) (PostOf Qc mc ms free) := va_backW (hh := hh) (bytes := bytes) (maxL := maxL) (ret := ret) hM hp.1 hrc hrs hfr hlo hws hcw (fun a' U hW => word_at hW (Or.inl (by first | rfl | simp [Cond.onTables, Cond.keeps, Cond.steady])) hini)
  obtain ⟨hx, hb, hml, ho, -⟩ := S
  obtain ⟨-, ⟨cellB, hcB, hoB, hclB⟩, hPc⟩ := hp
  intro T hT X
  obtain ⟨v, vm₁, ⟨U', l2, c2, s2⟩, hW₁, X', ⟨g', mk, t, L, e1, e2, hq, h1, hL, h2, h3⟩, st⟩ := vx_callVW X hx (C := C) (hh := hh) (bytes := bytes) (maxL := maxL) (ret := ret) ho hl hin hse hcode hy hK (by rw [hT]; exact hcB) hoB hclB hg (hsize.trans hml.symm) (argsL := As) (rest := rest) (fun sig h => hn.trans (hlen sig h)) hstack hW (by rw [hb]; exact hdg)
    (fun vm₁ hW₁ => ⟨hf.1, hf.2, hPc (T.setVm vm₁) hT hW₁⟩)
  dsimp only [Pt.U, Pt.locs, Pt.cells, Pt.slots] at X' e1 e2 h1 h2 h3 st
  subst h1; subst h2; subst h3
  exact ⟨v, (T.setVm vm₁).calling g' mk (Value.ref b :: As).toArray, t, U', L, hT, X', hL, e1, e2, hq, st⟩
section
variable {y : MethodName} {bytes cc : ByteArray} {maxL nL mc ms n index : Nat} {ret : Option FieldType} {ws : List Cond} {rm : Room} {Pc : Array Value → State → Prop} {Qc : Array Value → State → Outcome → State → Prop} {XC : String → State → State → Prop} {free : Addr → Prop} {Ts : List Cond} {own C : String} {b : Addr} {As rest : List Value} {g : JFrame}
theorem vx_runVX {hh : List (Nat × Nat × Nat × Nat)} (S : CallFix p m c cc nL s args Ts own) (hM : vx_Met l y ws rm Pc Qc XC mc ms free) (cw : vx_CVW R s args own C index y bytes maxL ret hh ws rm mc ms n) (hp : PreV s H C b Pc As)
    (hg : g.method = m) (hn : As.length = n) (hsize : g.locals.size = nL) (hstack : g.stack = As.reverse ++ .ref b :: rest) (hW : 2 * g.monitorRoom + (rest.map fun v => v.category).sum ≤ 8) (hdg : decode cc g.pc = .ok (.invokevirtual index, 3)) (hf : cells + mc ≤ R.cells ∧ slots + ms ≤ R.slots) :
    vx_Run p l e R s m args below meth c H locs cells slots mc ms g rest (Qc (Value.ref b :: As).toArray) XC free := by
  obtain ⟨⟨hrc, hrs, hfr, hlo, hws, hcw⟩, hcode, hini, hy, hlen, hl, hin, hse⟩ := cw
  have hK : vx_Back l R p e below s args y 3 8 (PreOf R mc ms Pc) (PostOf Qc mc ms free) (vx_Post XC mc ms free) := vx_backW (hh := hh) (bytes := bytes) (maxL := maxL) (ret := ret) hM hp.1 hrc hrs hfr hlo hws hcw (fun a' U hW => word_at hW (Or.inl (by first | rfl | simp [Cond.onTables, Cond.keeps, Cond.steady])) hini)
  obtain ⟨hx, hb, hml, ho, -⟩ := S
  obtain ⟨-, ⟨cellB, hcB, hoB, hclB⟩, hPc⟩ := hp
  intro T hT X
  rcases vx_callVX X hx (C := C) (hh := hh) (bytes := bytes) (maxL := maxL) (ret := ret) ho hl hin hse hcode hy hK (by rw [hT]; exact hcB) hoB hclB hg (hsize.trans hml.symm) (argsL := As) (rest := rest) (fun sig h => hn.trans (hlen sig h)) hstack hW (by rw [hb]; exact hdg)
    (fun vm₁ hW₁ => ⟨hf.1, hf.2, hPc (T.setVm vm₁) hT hW₁⟩) with ⟨v, vm₁, ⟨U', l2, c2, s2⟩, hW₁, X', ⟨g', mk, t, L, e1, e2, hq, h1, hL, h2, h3⟩, st⟩ | ⟨q, vm₁, ⟨U', l2, c2, s2⟩, hW₁, X', ⟨g', mk, t, L, E, ce, e1, e2, hq, hce, hcv, hcl, h1, hL, h2, h3⟩, st⟩
  · dsimp only [Pt.U, Pt.locs, Pt.cells, Pt.slots] at X' e1 e2 h1 h2 h3 st
    subst h1; subst h2; subst h3
    exact Or.inl ⟨v, (T.setVm vm₁).calling g' mk (Value.ref b :: As).toArray, t, U', L, hT, X', hL, e1, e2, hq, st⟩
  · dsimp only [Pt.U, Pt.locs, Pt.cells, Pt.slots] at X' e1 e2 h1 h2 h3 st hcl
    subst h1; subst h2; subst h3
    exact Or.inr ⟨q, (T.setVm vm₁).calling g' mk (Value.ref b :: As).toArray, t, U', L, E, ce, hT, X', hL, e1, e2, hq, hce, hcv, vx_cls hW₁ hcl, st⟩
theorem vx_runSX {hh : List (Nat × Nat × Nat × Nat)} (S : CallFix p m c cc nL s args Ts own) (hM : vx_Met l y ws rm Pc Qc XC mc ms free) (cw : vx_CSW R s args own index y bytes maxL ret hh ws rm mc ms n) (hp : PreS s H Pc As)
    (hg : g.method = m) (hn : As.length = n) (hsize : g.locals.size = nL) (hstack : g.stack = As.reverse ++ rest) (hW : 2 * g.monitorRoom + (rest.map fun v => v.category).sum ≤ 8) (hdg : decode cc g.pc = .ok (.invokestatic index, 3)) (hf : cells + mc ≤ R.cells ∧ slots + ms ≤ R.slots) :
    vx_Run p l e R s m args below meth c H locs cells slots mc ms g rest (Qc As.toArray) XC free := by
  obtain ⟨⟨hrc, hrs, hfr, hlo, hws, hcw⟩, hcode, hini, hy, hlen, hl, hstt⟩ := cw
  have hK : vx_Back l R p e below s args y 3 8 (PreOf R mc ms Pc) (PostOf Qc mc ms free) (vx_Post XC mc ms free) := vx_backW (hh := hh) (bytes := bytes) (maxL := maxL) (ret := ret) hM hp.1 hrc hrs hfr hlo hws hcw (fun a' U hW => word_at hW (Or.inl (by first | rfl | simp [Cond.onTables, Cond.keeps, Cond.steady])) hini)
  obtain ⟨hx, hb, hml, ho, -⟩ := S
  intro T hT X
  rcases vx_callSX X hx (hh := hh) (bytes := bytes) (maxL := maxL) (ret := ret) ho hl hstt hini hcode hy hK hg (hsize.trans hml.symm) (argsL := As) (rest := rest) (fun sig h => hn.trans (hlen sig h)) hstack hW (by rw [hb]; exact hdg)
    (fun vm₁ hW₁ => ⟨hf.1, hf.2, hp.2 (T.setVm vm₁) hT hW₁⟩) with ⟨v, vm₁, ⟨U', l2, c2, s2⟩, hW₁, X', ⟨g', mk, t, L, e1, e2, hq, h1, hL, h2, h3⟩, st⟩ | ⟨q, vm₁, ⟨U', l2, c2, s2⟩, hW₁, X', ⟨g', mk, t, L, E, ce, e1, e2, hq, hce, hcv, hcl, h1, hL, h2, h3⟩, st⟩
  · dsimp only [Pt.U, Pt.locs, Pt.cells, Pt.slots] at X' e1 e2 h1 h2 h3 st
    subst h1; subst h2; subst h3
    exact Or.inl ⟨v, (T.setVm vm₁).calling g' mk As.toArray, t, U', L, hT, X', hL, e1, e2, hq, st⟩
  · dsimp only [Pt.U, Pt.locs, Pt.cells, Pt.slots] at X' e1 e2 h1 h2 h3 st hcl
    subst h1; subst h2; subst h3
    exact Or.inr ⟨q, (T.setVm vm₁).calling g' mk As.toArray, t, U', L, E, ce, hT, X', hL, e1, e2, hq, hce, hcv, vx_cls hW₁ hcl, st⟩
end
end VXH
theorem vx_ofWH {l : Launch} {y : MethodName} {ws ws' : List Cond} {rm : Room} {Pc : Array Value → State → Prop} {Qc : Array Value → State → Outcome → State → Prop} {XC : String → State → State → Prop} {mc ms : Nat} {free : Addr → Prop} {cc : ByteArray} {maxL : Nat} {ret : Option FieldType} {hh : List (Nat × Nat × Nat × Nat)}
    (hy : plainName y.cls = true) (hw : ws = Cond.codeWith y cc maxL ret hh :: ws')
    (body : ∀ p e s m args below meth c s₁, BodyLoose p l y (headSpec ws rm) cc maxL ret e s m args below meth c s₁ → c.maxLocals = maxL → Pc args s →
      W p l e (headSpec ws rm).room s m args below meth c s.heap [] 0 0 (vx_MQ below Qc XC args s mc ms free) (entryFrame m args maxL)) : vx_Met l y ws rm Pc Qc XC mc ms free := by
  refine MetFree.of_bodyS (code := cc) (maxLocals := maxL) (ret := ret) hy ?_ ?_
  · intro args s m h hn
    obtain ⟨m9, meth, c, hn9, h1, h2, h3, h4, -, h5, h6, -⟩ := Cond.codeWith_spec (atoms_spec (ws := ws) h _ (by rw [hw]; exact List.mem_cons_self))
    cases hn.symm.trans hn9
    exact ⟨meth, c, h1, h2, h3, h4, h5, h6⟩
  · intro p e s m args below meth c s₁ B hml hP _
    have hh0 : s₁.heap = s.heap := by rw [B.state]; rfl
    obtain ⟨t, a1, o, b1, b2, b3⟩ := body p e s m args below meth c s₁ B hml hP s₁ hh0 (Stand.of_body B)
    exact ⟨t, o, a1, b1, b2, b3⟩
/-! ===== END ===== -/
/-! ===== BEGIN what the machine throws by itself, no traces kept ===== -/
section VXM
set_option maxHeartbeats 1000000 in
/-- the machine throws cls with the message text, no traces kept: from its note over the frame g to 'throwing' over the same frame (follows the proofs of Stand.vmThrowsMessage, Shelf/KitTracedVmS.lean, and Stand.throwsMessageColdBareV, StandMessageColdV.lean, without the step out of the frame) -/
theorem vx_vmAt {p : Program} {l : Launch} {e : Env} {R : Room} {s : State} {m₀ : MethodId} {args : Array Value} {below : List Frame} {meth : Method} {c : Code} {W : State} {locs : List Loc} {cells slots : Nat}
    (X : Stand p l e R s m₀ args below meth c W locs cells slots) (hexec : p.tables.exec = Jvm.exec) (htr : e.platform.stackTraces = false) {cls : String} {names : List String} {text : String}
    (hcls : Bundle.fit cls = true) (hnames : ∀ n ∈ names, Bundle.fit n = true) (hsoe : (cls == "java/lang/StackOverflowError") = false) (hoom : (cls == "java/lang/OutOfMemoryError") = false)
    (h : ∀ a ∈ Bundle.messageArmAtoms cls names, a.before args s = true)
    (hlocs : ∀ x ∈ locs, ∀ cell, s.heap[x.base]? = some cell → cell.vm.isStatics = false)
    (htext : (text == notModelled) = false) (hlimit : ¬ (stringBytes (stringToUtf16 text)).size > e.platform.arrayLengthLimit) (hheap : ¬ (stringBytes (stringToUtf16 text)).size * componentBytes .byte > e.platform.maxHeapBytes)
    {g : JFrame} (hg : g.method = m₀) (hsize : g.locals.size = c.maxLocals)
    (hRframes : names.length + 4 < R.frames) (hRlocals : 2 * g.monitorRoom + (g.stack.map fun v => v.category).sum + 10240 ≤ R.locals) (hshort : 13 * names.length + 55 ≤ 10240)
    (hRcells : cells + 3 ≤ R.cells) (hRslots : slots + ((stringBytes (stringToUtf16 text)).size + 4 + 6) ≤ R.slots) (hlocks : meth.locks = false) :
    ∃ (S : State) (q : Addr) (ce : Cell), (∀ target, Steps p.tables e below ((S.setTop g).pushFrame (.throwing q)) target → Steps p.tables e below ((W.setTop g).pushFrame (.throwNew cls (some text) none)) target) ∧
      Stand p l e R s m₀ args below meth c S locs (cells + 3) (slots + ((stringBytes (stringToUtf16 text)).size + 4 + 6)) ∧ S.heap[q]? = some ce ∧ s.vm.findClass cls = some ce.cls ∧ ce.vm = .none := by
  have howns : e.platform.frameOwnsMonitors = true := by rw [X.admits.platform]
  have hfin : e.platform.finalization = false := by rw [X.admits.platform]
  have hpl : e.platform.magicAccessors = ({} : Platform).magicAccessors := by rw [X.admits.platform]
  have a : ∀ x, x ∈ Bundle.messageArmAtoms cls names → x.holds args s none s [] = true := fun x hx => h x hx
  obtain ⟨T, Z0, L, -, Y⟩ := ThrowableC.of_atoms (args := args) howns hfin hpl (fun x hx => h x (by simp [Bundle.messageArmAtoms, hx]))
  obtain ⟨Z, M, LZ, LM, hnZ⟩ := Init0T.ofS_atoms (args := args) hpl L Y (fun x hx => h x (by simp [Bundle.messageArmAtoms, hx]))
  obtain ⟨P1, Ps, hlen, L1, hL, hP1m, hlink1, hlink⟩ := Bundle.chainS (args := args) hpl hnZ names cls hcls hnames (fun x hx => h x (by simp [Bundle.messageArmAtoms, hx]))
  obtain ⟨Zs, LZs, hn4, hfitv, hfitc⟩ := StringT.of_atoms (args := args) (fun x hx => h x (by simp [Bundle.messageArmAtoms, hx]))
  have hfound : s.vm.findClass cls = some P1.m.cls := findClass_of_methodNamed hP1m
  obtain ⟨c1, kX, hc1, hk, hord, -, -, hn6⟩ := Cond.instantiable_spec (a (.instantiable cls 6) (by simp [Bundle.messageArmAtoms]))
  cases Option.some.inj (hc1.symm.trans hfound)
  have hinit := Cond.initialized_spec hfound hk (a (.initialized cls) (by simp [Bundle.messageArmAtoms]))
  have hctor : kX.findMethod "<init>" "(Ljava/lang/String;)V" = some P1.m.idx := findMethod_of_methodNamed hP1m hk
  have hsel0 : selectMethod e.platform s.vm P1.m.cls T.fill0 = .method T.fill0 := by
    obtain ⟨c2, r2, m2, q1, q2, q3, q4, -⟩ := Cond.selects_spec (a (.selects cls Bundle.tFill0 Bundle.tFill0) (by simp [Bundle.messageArmAtoms]))
    cases Option.some.inj (q1.symm.trans hfound)
    cases Option.some.inj (q2.symm.trans (State.methodFound?_of_named Y.fill0 (by decide)))
    cases Option.some.inj (q3.symm.trans Y.fill0)
    rw [Launch.admits_selectMethod X.admits]; exact q4
  have hselF : selectMethod e.platform s.vm P1.m.cls T.fill = .method T.fill := by
    obtain ⟨c2, r2, m2, q1, q2, q3, q4, -⟩ := Cond.selects_spec (a (.selects cls Bundle.tFill Bundle.tFill) (by simp [Bundle.messageArmAtoms]))
    cases Option.some.inj (q1.symm.trans hfound)
    cases Option.some.inj (q2.symm.trans (State.methodFound?_of_named Y.fill (by decide)))
    cases Option.some.inj (q3.symm.trans Y.fill)
    rw [Launch.admits_selectMethod X.admits]; exact q4
  obtain ⟨cellS0, hcS0, hiss⟩ := Y.statics
  obtain ⟨u0, hu0⟩ := Cond.staticRefV Y.unassigned L.unassignedStatic L.statics hcS0 hiss (a (.isRef (.static Bundle.tN "UNASSIGNED_STACK" Bundle.steD)) (by simp [Bundle.messageArmAtoms]))
  obtain ⟨sen, hsen⟩ := Cond.staticRefV Y.sentinel L.sentinelStatic L.statics hcS0 hiss (a (.isRef (.static Bundle.tN "SUPPRESSED_SENTINEL" Bundle.listD)) (by simp [Bundle.messageArmAtoms]))
  obtain ⟨ci198, i198, fB, hk198, hg198, ha198, hsB, -, hnB, htB, hffB⟩ := Cond.ownField (t := .object "java/lang/Object") Y.found L.cls (by decide +kernel) (a (.fieldLink Bundle.tN 198 Bundle.tN "backtrace" "Ljava/lang/Object;") (by simp [Bundle.messageArmAtoms])) (a (.lays Bundle.tN Bundle.tN "backtrace" "Ljava/lang/Object;") (by simp [Bundle.messageArmAtoms])) e.platform hpl
  obtain ⟨cellS, hcS', heS, -, hkeep⟩ := X.same.2.2.2.2.2 T.aS cellS0 hcS0
  have hcellS : W.heap[T.aS]? = some cellS := hcS'
  have hout' : ∀ i, (⟨T.aS, i⟩ : Loc) ∉ locs := fun i hmem => by
    have := hlocs _ hmem cellS0 hcS0
    rw [hiss] at this; cases this
  have hknownS : cellS.vm ≠ .unknown := by
    rw [heS]; intro hu
    rw [show cellS0.vm = .unknown from hu] at hiss
    cases hiss
  have hvU : cellS.slots[T.fUnassigned.slot]? = some u0.v := by rw [hkeep _ (hout' _)]; exact hu0
  have hvSen : cellS.slots[T.fSentinel.slot]? = some sen.v := by rw [hkeep _ (hout' _)]; exact hsen
  obtain ⟨iM, hffM⟩ := Y.msg
  obtain ⟨tyC, dC, hdC, hdnC⟩ := Cond.laysAt hfound hk Y.cause (a (.lays cls Bundle.tN "cause" "Ljava/lang/Throwable;") (by simp [Bundle.messageArmAtoms]))
  obtain ⟨tyS, dS, hdS, hdnS⟩ := Cond.laysAt hfound hk Y.stack (a (.lays cls Bundle.tN "stackTrace" Bundle.steD) (by simp [Bundle.messageArmAtoms]))
  obtain ⟨tyP, dP, hdP, hdnP⟩ := Cond.laysAt hfound hk Y.supp (a (.lays cls Bundle.tN "suppressedExceptions" Bundle.listD) (by simp [Bundle.messageArmAtoms]))
  obtain ⟨tyM, dM, hdM, hdnM⟩ := Cond.laysAt hfound hk hffM (a (.lays cls Bundle.tN "detailMessage" "Ljava/lang/String;") (by simp [Bundle.messageArmAtoms]))
  obtain ⟨tyB, dB, hdB, hdnB⟩ := Cond.laysAt hfound hk hffB (a (.lays cls Bundle.tN "backtrace" "Ljava/lang/Object;") (by simp [Bundle.messageArmAtoms]))
  have bC := Cond.laysApart hdB hdC hdnB hdnC (by rw [hnB, Y.causeName]; decide)
  have bS := Cond.laysApart hdB hdS hdnB hdnS (by rw [hnB, Y.stackName]; decide)
  have bP := Cond.laysApart hdB hdP hdnB hdnP (by rw [hnB, Y.suppName]; decide)
  have hbk : ((preparedCellV T.toThrowableT (freshCell P1.m.cls kX) (W.heap.size + 2) u0 sen).withEntry W.cur).slots[fB.slot]? = some .null := by
    have := fresh_default (c := P1.m.cls) tyB
    rw [htB] at this
    simpa [preparedCellV, Cell.setSlot, Cell.withEntry, Array.getElem?_setIfInBounds, bC, bS, bP, bC.symm, bS.symm, bP.symm, defaultValue] using this
  have tkC := Takes.of_laid (v := .ref (W.heap.size + 2)) hk hord tyC (by rw [Y.causeType]; rfl)
  have tkS := Takes.of_laid (v := u0.v) hk hord tyS (by rw [Y.stackType]; exact fits_refV_array _ u0)
  have tkP := Takes.of_laid (v := sen.v) hk hord tyP (by rw [Y.suppType]; exact fits_refV_object _ sen)
  have tkM := Takes.of_laid (v := .ref (W.heap.size + 1)) hk hord tyM (by rw [Y.msgType]; rfl)
  have hskip : SkipFacts T e.platform s (fun u => u) u0 ((preparedCellV T.toThrowableT (freshCell P1.m.cls kX) (W.heap.size + 2) u0 sen).withEntry W.cur) := ⟨{ ci198 := ci198, i198 := i198, fBack := fB }, ⟨hk198, hg198, ha198, hsB⟩, hbk, fun _ _ => rfl⟩
  have h0 : At W g.method c below := by rw [hg]; exact X.here
  obtain ⟨hbeyond, hfreeW⟩ := X.vmMayThrow hsize (.throwNew cls (some text) none) (fun f hf => by cases hf) rfl hRlocals
  have hfr' : W.frames.length + Ps.length + 4 < (e.platform.stackLimits W.me).1 := by have := X.framesAbove hRframes; omega
  have hwd' : (stackUse (.java g :: W.frames.tail)).2 + 13 * Ps.length + 55 ≤ (e.platform.stackLimits W.me).2 := by have := X.stackAbove hsize (K := 13 * Ps.length + 55) (by omega); omega
  have hslots : W.slotsUsed + (stringBytes (stringToUtf16 text)).size + Zs.kS.instanceTypes.size + kX.instanceTypes.size ≤ e.platform.maxSlots := by
    have := X.slotsAbove hRslots
    rw [hn4, hn6]
    omega
  obtain ⟨vm', hW', st⟩ := Steps.vmThrowsMessageColdByV p (s₀ := s) (S := W) (g := g) h0 hexec T L Z LZ M LM X.warmed (t := W.cur) rfl Zs LZs P1 L1 Ps hL hlink1 hlink hsoe hoom hfound hk hinit hord hctor
    (Launch.admits_hotImplicitExceptions X.admits) hbeyond hfreeW htext hlimit hheap (X.cellsAbove hRcells) hslots (hfitv _) (hfitc _)
    (Nn := fun u => u) heapOnly_id (fun _ _ => rfl) (fun _ => rfl) (fun u x y => setCell_twice _ _ _ _) (fun _ => Nat.le_refl _) (cN := ((preparedCellV T.toThrowableT (freshCell P1.m.cls kX) (W.heap.size + 2) u0 sen).withEntry W.cur))
    hsel0 hcellS hknownS hvU tkS (fun _ hu => hu) (fun _ hu => hu) rfl rfl rfl (by simp [preparedCellV, Cell.setSlot, Cell.withEntry]) hskip (fun _ _ hA hW _ hroom _ hrest => L.nativeOff p htr hA hW hroom hrest) hselF hvSen tkC tkP tkM Y.objLocals rfl hfr' hwd'
  rw [plainBareV_eq T.toThrowableT (W.heap.size + 2) u0 sen (.ref (W.heap.size + 1)) W.cur rfl rfl] at st
  obtain ⟨-, -, w3, w4, -, -, -⟩ := withThrown_facts e.platform W Zs text P1.m.cls kX
  have X3 := ((X.pushed (bytesOf Zs.cB (stringToUtf16 text))).pushed (stringAt Zs.cS Zs.kS Zs.fv Zs.fc (stringToUtf16 text) W.heap.size)).pushed (freshCell P1.m.cls kX)
  rw [← withString_eq] at X3
  have X4 := X3.noted hW'
  have ha : (W.heap.size + 2) < ((withThrown W Zs text P1.m.cls kX).setVm vm').heap.size := by show _ < (withThrown W Zs text P1.m.cls kX).heap.size; rw [w3]; omega
  have hcell : ((withThrown W Zs text P1.m.cls kX).setVm vm').heap[(W.heap.size + 2)]? = some (freshCell P1.m.cls kX) := w4
  have X5 := ((((X4.stored hcell T.fCause.slot (.ref (W.heap.size + 2))).storedAgain ha T.fStack.slot u0.v).storedAgain ha T.fSupp.slot sen.v).storedAgain ha T.fStack.slot u0.v).storedAgain ha T.fMsg.slot (.ref (W.heap.size + 1))
  obtain ⟨g₁, hfrM⟩ := X5.frames_eq
  have hU : ((((withThrown W Zs text P1.m.cls kX).setVm vm').setCell (W.heap.size + 2) (plainBareV T.toThrowableT (freshCell P1.m.cls kX) (W.heap.size + 2) u0 sen (.ref (W.heap.size + 1)))).setTop g).pushFrame (.throwing (W.heap.size + 2)) = (((withThrown W Zs text P1.m.cls kX).setVm vm').setCell (W.heap.size + 2) (plainBareV T.toThrowableT (freshCell P1.m.cls kX) (W.heap.size + 2) u0 sen (.ref (W.heap.size + 1)))).setFrames (.throwing (W.heap.size + 2) :: .java g :: below) := by
    rw [State.pushFrame, State.frames_setTop _ hfrM, State.setTop_of_frames _ hfrM, State.setFrames_setFrames]
  have b1 : (bytesOf Zs.cB (stringToUtf16 text)).slots.size = (stringBytes (stringToUtf16 text)).size := by
    rw [(Cell.writeAll_facts _ _).2.2]; simp [bytes0]
  have b2 : (stringAt Zs.cS Zs.kS Zs.fv Zs.fc (stringToUtf16 text) W.heap.size).slots.size = 4 := by simp [string0, Cell.setSlot, hn4]
  have b3 : (freshCell P1.m.cls kX).slots.size = 6 := by simp [hn6]
  rw [b1, b2, b3] at X5
  have e9 : slots + (stringBytes (stringToUtf16 text)).size + 4 + 6 = slots + ((stringBytes (stringToUtf16 text)).size + 4 + 6) := by omega
  rw [e9] at X5
  simp only [List.append_assoc, List.cons_append, List.nil_append] at X5
  refine ⟨((withThrown W Zs text P1.m.cls kX).setVm vm').setCell (W.heap.size + 2) (plainBareV T.toThrowableT (freshCell P1.m.cls kX) (W.heap.size + 2) u0 sen (.ref (W.heap.size + 1))), W.heap.size + 2, _, fun target ht => st _ (by rw [X.tail, ← hU]; exact ht),
    X5.forget (fun y hy => ?_), heapAt_setCell_self _ ha, hfound, rfl⟩
  simp only [List.mem_cons, List.not_mem_nil, or_false] at hy
  have hge : s.heap.size ≤ W.heap.size := X.same.2.1
  rcases hy with rfl | rfl | rfl | rfl | rfl <;> exact Nat.le_trans hge (Nat.le_add_right _ 2)
set_option maxHeartbeats 1000000 in
/-- the machine throws NullPointerException, no traces kept: from its note over the frame g to 'throwing' over the same frame (follows the proof of Stand.vmThrowsNpe, Shelf42/KT2.lean; throwsNpeColdBareVAt, Shelf42/NT91.lean, called) -/
theorem vx_npeAt {p : Program} {l : Launch} {e : Env} {R : Room} {s : State} {m₀ : MethodId} {args : Array Value} {below : List Frame} {meth : Method} {c : Code} {W : State} {locs : List Loc} {cells slots : Nat}
    (X : Stand p l e R s m₀ args below meth c W locs cells slots) (hexec : p.tables.exec = Jvm.exec) (htr : e.platform.stackTraces = false) {n : Nat}
    (h : ∀ a ∈ Bundle.npeArmAtoms n, a.before args s = true)
    (hlocs : ∀ x ∈ locs, ∀ cell, s.heap[x.base]? = some cell → cell.vm.isStatics = false)
    {g : JFrame} (hg : g.method = m₀) (hsize : g.locals.size = c.maxLocals)
    (hRframes : 7 < R.frames) (hRlocals : 2 * g.monitorRoom + (g.stack.map fun v => v.category).sum + 10240 ≤ R.locals)
    (hRcells : cells + 1 ≤ R.cells) (hRslots : slots + n ≤ R.slots) (hlocks : meth.locks = false) :
    ∃ (S : State) (q : Addr) (ce : Cell), (∀ target, Steps p.tables e below ((S.setTop g).pushFrame (.throwing q)) target → Steps p.tables e below ((W.setTop g).pushFrame (.throwNew "java/lang/NullPointerException" none none)) target) ∧
      Stand p l e R s m₀ args below meth c S locs (cells + 1) (slots + n) ∧ S.heap[q]? = some ce ∧ s.vm.findClass "java/lang/NullPointerException" = some ce.cls ∧ ce.vm = .none := by
  have howns : e.platform.frameOwnsMonitors = true := by rw [X.admits.platform]
  have hfin : e.platform.finalization = false := by rw [X.admits.platform]
  have hpl : e.platform.magicAccessors = ({} : Platform).magicAccessors := by rw [X.admits.platform]
  have hpl2 : e.platform.arrayCloneIsPublic = true := by rw [X.admits.platform]
  have a' : ∀ x, x ∈ Bundle.npeArmAtoms n → x.holds args s none s [] = true := fun x hx => h x hx
  obtain ⟨T, Z, L, LZ, Y⟩ := ThrowableC.of_atoms (args := args) howns hfin hpl (fun x hx => h x (by simp [Bundle.npeArmAtoms, hx]))
  obtain ⟨N, LN, hcN, hnNF, hordN, hffS⟩ := NpeC.of_atoms (args := args) hpl hpl2 L Y (fun x hx => h x (by simp [Bundle.npeArmAtoms, hx]))
  obtain ⟨P1, L1, hP1m, hP1s⟩ := PassC.of_atoms (args := args) (s := s) hpl (X := Bundle.nN) (Y := Bundle.rN) (by decide) (by decide) LibCode.NullPointerException.Init0.at_0 LibCode.NullPointerException.Init0.at_1 LibCode.NullPointerException.Init0.at_4 (fun x hx => h x (by simp [Bundle.npeArmAtoms, hx]))
  obtain ⟨PR, LR, hPRm, hPRs⟩ := PassC.of_atoms (args := args) (s := s) hpl (X := Bundle.rN) (Y := Bundle.eN) (by decide) (by decide) LibCode.RuntimeException.Init0.at_0 LibCode.RuntimeException.Init0.at_1 LibCode.RuntimeException.Init0.at_4 (fun x hx => h x (by simp [Bundle.npeArmAtoms, hx]))
  obtain ⟨PE, LEx, hPEm, hPEs⟩ := PassC.of_atoms (args := args) (s := s) hpl (X := Bundle.eN) (Y := Bundle.tN) (by decide) (by decide) LibCode.Exception.Init0.at_0 LibCode.Exception.Init0.at_1 LibCode.Exception.Init0.at_4 (fun x hx => h x (by simp [Bundle.npeArmAtoms, hx]))
  have hfound : s.vm.findClass Bundle.nN = some P1.m.cls := findClass_of_methodNamed hP1m
  have ecls : N.cN = P1.m.cls := Option.some.inj (hcN.symm.trans hfound)
  have hk : s.vm.classes[P1.m.cls]? = some N.kN := by rw [← ecls]; exact LN.cls
  have hinit := Cond.initialized_spec hfound hk (a' (.initialized Bundle.nN) (by simp [Bundle.npeArmAtoms]))
  have hctor : N.kN.findMethod "<init>" "()V" = some P1.m.idx := findMethod_of_methodNamed hP1m hk
  obtain ⟨c1, k1, hc1, hk1, -, -, -, hn⟩ := Cond.instantiable_spec (a' (.instantiable Bundle.nN n) (by simp [Bundle.npeArmAtoms]))
  cases Option.some.inj (hc1.symm.trans hfound)
  cases Option.some.inj (hk1.symm.trans hk)
  have hfsz : (freshCell P1.m.cls N.kN).slots.size = n := by simp [hn]
  have hlink1 : P1.sup = PR.m := Option.some.inj (hP1s.symm.trans hPRm)
  have hlinkR : PR.sup = PE.m := Option.some.inj (hPRs.symm.trans hPEm)
  have hlinkE : PE.sup = Z.m T.toThrowableT := Option.some.inj (hPEs.symm.trans Y.init0)
  have hLs : ∀ P, P ∈ [PR, PE] → P.Links0 e.platform s := fun P hP => by
    simp only [List.mem_cons, List.not_mem_nil, or_false] at hP
    rcases hP with rfl | rfl
    · exact LR
    · exact LEx
  have hsel0 : selectMethod e.platform s.vm P1.m.cls T.fill0 = .method T.fill0 := by
    obtain ⟨c2, r2, m2, q1, q2, q3, q4, -⟩ := Cond.selects_spec (a' (.selects Bundle.nN Bundle.tFill0 Bundle.tFill0) (by simp [Bundle.npeArmAtoms]))
    cases Option.some.inj (q1.symm.trans hfound)
    cases Option.some.inj (q2.symm.trans (State.methodFound?_of_named Y.fill0 (by decide)))
    cases Option.some.inj (q3.symm.trans Y.fill0)
    rw [Launch.admits_selectMethod X.admits]; exact q4
  have hselF : selectMethod e.platform s.vm P1.m.cls T.fill = .method N.fill := by
    obtain ⟨c2, r2, m2, q1, q2, q3, q4, -⟩ := Cond.selects_spec (a' (.selects Bundle.nN Bundle.tFill Bundle.nFill) (by simp [Bundle.npeArmAtoms]))
    cases Option.some.inj (q1.symm.trans hfound)
    cases Option.some.inj (q2.symm.trans (State.methodFound?_of_named Y.fill (by decide)))
    cases Option.some.inj (q3.symm.trans hnNF)
    rw [Launch.admits_selectMethod X.admits]; exact q4
  obtain ⟨cellS0, hcS0, hiss⟩ := Y.statics
  obtain ⟨u0, hu0⟩ := Cond.staticRefV Y.unassigned L.unassignedStatic L.statics hcS0 hiss (a' (.isRef (.static Bundle.tN "UNASSIGNED_STACK" Bundle.steD)) (by simp [Bundle.npeArmAtoms]))
  obtain ⟨sen, hsen⟩ := Cond.staticRefV Y.sentinel L.sentinelStatic L.statics hcS0 hiss (a' (.isRef (.static Bundle.tN "SUPPRESSED_SENTINEL" Bundle.listD)) (by simp [Bundle.npeArmAtoms]))
  obtain ⟨ci198, i198, fB, hk198, hg198, ha198, hsB, -, hnB, htB, hffB⟩ := Cond.ownField (t := .object "java/lang/Object") Y.found L.cls (by decide +kernel) (a' (.fieldLink Bundle.tN 198 Bundle.tN "backtrace" Bundle.objD) (by simp [Bundle.npeArmAtoms])) (a' (.lays Bundle.tN Bundle.tN "backtrace" Bundle.objD) (by simp [Bundle.npeArmAtoms])) e.platform hpl
  obtain ⟨cellS, hcS', heS, -, hkeep⟩ := X.same.2.2.2.2.2 T.aS cellS0 hcS0
  have hcellS : W.heap[T.aS]? = some cellS := hcS'
  have hout' : ∀ i, (⟨T.aS, i⟩ : Loc) ∉ locs := fun i hmem => by
    have := hlocs _ hmem cellS0 hcS0
    rw [hiss] at this; cases this
  have hknownS : cellS.vm ≠ .unknown := by
    rw [heS]; intro hu
    rw [show cellS0.vm = .unknown from hu] at hiss
    cases hiss
  have hvU : cellS.slots[T.fUnassigned.slot]? = some u0.v := by rw [hkeep _ (hout' _)]; exact hu0
  have hvSen : cellS.slots[T.fSentinel.slot]? = some sen.v := by rw [hkeep _ (hout' _)]; exact hsen
  obtain ⟨tyC, dC, hdC, hdnC⟩ := Cond.laysAt hfound hk Y.cause (a' (.lays Bundle.nN Bundle.tN "cause" "Ljava/lang/Throwable;") (by simp [Bundle.npeArmAtoms]))
  obtain ⟨tyS, dS, hdS, hdnS⟩ := Cond.laysAt hfound hk Y.stack (a' (.lays Bundle.nN Bundle.tN "stackTrace" Bundle.steD) (by simp [Bundle.npeArmAtoms]))
  obtain ⟨tyP, dP, hdP, hdnP⟩ := Cond.laysAt hfound hk Y.supp (a' (.lays Bundle.nN Bundle.tN "suppressedExceptions" Bundle.listD) (by simp [Bundle.npeArmAtoms]))
  obtain ⟨tyX, dX, hdX, hdnX⟩ := Cond.laysAt hfound hk hffS (a' (.lays Bundle.nN Bundle.nN "extendedMessageState" "I") (by simp [Bundle.npeArmAtoms, Bundle.npeAtoms]))
  obtain ⟨hnX, htX⟩ := State.fieldFound?_type hffS (t := .int) (by decide +kernel)
  have xC := Cond.laysApart hdC hdX hdnC hdnX (by rw [hnX, Y.causeName]; decide)
  have xS := Cond.laysApart hdS hdX hdnS hdnX (by rw [hnX, Y.stackName]; decide)
  have xP := Cond.laysApart hdP hdX hdnP hdnX (by rw [hnX, Y.suppName]; decide)
  have hv0 : (freshCell P1.m.cls N.kN).slots[N.fState.slot]? = some (.int 0) := by
    have := fresh_default (c := P1.m.cls) tyX
    rw [htX] at this; exact this
  obtain ⟨tyB, dB, hdB, hdnB⟩ := Cond.laysAt hfound hk hffB (a' (.lays Bundle.nN Bundle.tN "backtrace" Bundle.objD) (by simp [Bundle.npeArmAtoms]))
  have bC := Cond.laysApart hdB hdC hdnB hdnC (by rw [hnB, Y.causeName]; decide)
  have bS := Cond.laysApart hdB hdS hdnB hdnS (by rw [hnB, Y.stackName]; decide)
  have bP := Cond.laysApart hdB hdP hdnB hdnP (by rw [hnB, Y.suppName]; decide)
  have bX := Cond.laysApart hdB hdX hdnB hdnX (by rw [hnB, hnX]; decide)
  have hbk : ((npeCell N.toNpeT (preparedCellV T.toThrowableT (freshCell P1.m.cls N.kN) W.heap.size u0 sen) W.cur).withEntry W.cur).slots[fB.slot]? = some .null := by
    have := fresh_default (c := P1.m.cls) tyB
    rw [htB] at this
    simpa [npeCell, preparedCellV, Cell.setSlot, Cell.withEntry, Array.getElem?_setIfInBounds, bC, bS, bP, bX, bC.symm, bS.symm, bP.symm, bX.symm, defaultValue] using this
  have tkC := Takes.of_laid (v := .ref W.heap.size) hk hordN tyC (by rw [Y.causeType]; rfl)
  have tkS := Takes.of_laid (v := u0.v) hk hordN tyS (by rw [Y.stackType]; exact fits_refV_array _ u0)
  have tkP := Takes.of_laid (v := sen.v) hk hordN tyP (by rw [Y.suppType]; exact fits_refV_object _ sen)
  have tkX := Takes.of_laid (v := .int 1) hk hordN tyX (by rw [htX]; rfl)
  have hskip : SkipFacts T e.platform s (fun u => u) u0 ((npeCell N.toNpeT (preparedCellV T.toThrowableT (freshCell P1.m.cls N.kN) W.heap.size u0 sen) W.cur).withEntry W.cur) := ⟨{ ci198 := ci198, i198 := i198, fBack := fB }, ⟨hk198, hg198, ha198, hsB⟩, hbk, fun _ _ => rfl⟩
  obtain ⟨vm', X3, st, -⟩ := X.throwsNpeColdBareVAt hexec hg hsize T L Z LZ N LN P1 L1 [PR, PE] hLs hlink1 ⟨hlinkR, hlinkE, trivial⟩ hfound hk hinit hordN hctor hsel0 hselF hcellS hknownS hvU hvSen
    hv0 xC xS xP tkC tkS tkP tkX Y.objLocals hskip (fun _ _ hA hW _ hroom _ hrest => L.nativeOff p htr hA hW hroom hrest) (by simpa using hRframes) hRlocals (by simp) hRcells (by rw [hn]; exact hRslots)
  have hlt : W.heap.size < ((W.pushCell (freshCell P1.m.cls N.kN)).setVm vm').heap.size := by
    show W.heap.size < (W.pushCell (freshCell P1.m.cls N.kN)).heap.size
    rw [State.heap_size_pushCell]; omega
  rw [hfsz] at X3
  obtain ⟨g₁, hfrM⟩ := X3.frames_eq
  have hU : ((((W.pushCell (freshCell P1.m.cls N.kN)).setVm vm').setCell W.heap.size (npeBareV T.toThrowableT N.toNpeT (freshCell P1.m.cls N.kN) W.heap.size u0 sen)).setTop g).pushFrame (.throwing W.heap.size) = (((W.pushCell (freshCell P1.m.cls N.kN)).setVm vm').setCell W.heap.size (npeBareV T.toThrowableT N.toNpeT (freshCell P1.m.cls N.kN) W.heap.size u0 sen)).setFrames (.throwing W.heap.size :: .java g :: below) := by
    rw [State.pushFrame, State.frames_setTop _ hfrM, State.setTop_of_frames _ hfrM, State.setFrames_setFrames]
  refine ⟨_, W.heap.size, _, fun target ht => st.trans (by rw [← hU]; exact ht), X3.forget (fun y hy => ?_), heapAt_setCell_self _ hlt, hfound, rfl⟩
  simp only [List.mem_cons, List.not_mem_nil, or_false] at hy
  have hge : s.heap.size ≤ W.heap.size := X.same.2.1
  rcases hy with rfl | rfl | rfl | rfl | rfl <;> exact hge
/-- the words of a machine's NullPointerException, but the four that speak of the heap -/
def vx_atN (n : Nat) : List Cond := (Bundle.npeArmAtoms n).filter vx_no
/-- the words of a machine's throw with a message, but the four that speak of the heap -/
def vx_atM (X : String) (names : List String) : List Cond := (Bundle.messageArmAtoms X names).filter vx_no
section
variable {p : Program} {l : Launch} {e : Env} {R : Room} {s : State} {m : MethodId} {args : Array Value} {below : List Frame} {meth : Method} {c : Code} {H : Heap} {locs : List Loc} {cells slots : Nat}
/-- a frame seen from a rebased start, seen from the first start again -/
theorem vx_back9 {T S : State} {R' : Room} {k n : Nat} (X : Stand p l e R s m args below meth c T locs cells slots) (Y : Stand p l e R' ((T.setVm s.vm).setFrames (.invoking m args :: below)) m args below meth c T [] 0 0) (Z : Stand p l e R' ((T.setVm s.vm).setFrames (.invoking m args :: below)) m args below meth c S [] k n) :
    Stand p l e R s m args below meth c S locs (cells + k) (slots + n) := by
  have hW0 : s.WarmedH ((T.setVm s.vm).setFrames (.invoking m args :: below)).vm := State.WarmedH.refl s
  refine { admits := X.admits, cas := X.cas, clock := X.clock, frames := X.frames, room := X.room, hears := X.hears, method := X.method, code := X.code, here := Z.here, tail := Z.tail, warmed := State.WarmedH.trans hW0 Z.warmed, limits := Z.limits.trans (Y.limits.symm.trans X.limits), bytes := Z.bytes.trans (Y.bytes.symm.trans X.bytes), same := ?_ }
  obtain ⟨e1, e2⟩ := Z.same
  rw [State.setFrames_setFrames] at e1
  have h2 : (T.setVm s.vm).sameButNew (S.setVm s.vm) [] k n := ⟨e1, e2⟩
  have h3 := X.same.trans h2
  rw [List.append_nil] at h3
  exact h3
/-- from the machine's note that E is thrown here with this text -/
def vx_Note (p : Program) (l : Launch) (e : Env) (R : Room) (s : State) (m : MethodId) (args : Array Value) (below : List Frame) (meth : Method) (c : Code) (H : Heap) (locs : List Loc) (cells slots : Nat) (Q : State → Prop) (g : JFrame) (E text : String) : Prop :=
  ∀ T : State, T.heap = H → Stand p l e R s m args below meth c T locs cells slots → ∃ t, Steps p.tables e below ((T.setTop g).pushFrame (.throwNew E (some text) none)) t ∧ Q t
theorem vx_vm {pc : Nat} {ls : Array Slot} {rest : List Value} {Q : State → Prop} (hexec : p.tables.exec = Jvm.exec) (hl : l.stackTraces = false) {cls text : String} {names : List String} {nb : Nat} {A : Nat → Prop}
    (hcls : Bundle.fit cls = true) (hnames : ∀ n ∈ names, Bundle.fit n = true) (hsoe : (cls == "java/lang/StackOverflowError") = false) (hoom : (cls == "java/lang/OutOfMemoryError") = false)
    (hat : ∀ w ∈ vx_atM cls names, w.before args s = true) (hgood : ∀ w ∈ vx_atM cls names, vx_ot w = true)
    (hU : vx_Zq Bundle.tN "UNASSIGNED_STACK" Bundle.steD A s s.heap) (hN : vx_Zq Bundle.tN "SUPPRESSED_SENTINEL" Bundle.listD A s s.heap) (hS : va_S A s.heap H locs) (hsize : ls.size = c.maxLocals)
    (htext : (text == notModelled) = false) (hnb : (stringBytes (stringToUtf16 text)).size ≤ nb) (hnb1 : nb ≤ 1000)
    (hRframes : names.length + 4 < R.frames) (hRlocals : (rest.map fun v => v.category).sum + 10240 ≤ R.locals) (hshort : 13 * names.length + 55 ≤ 10240) (hRcells : cells + 3 ≤ R.cells) (hRslots : slots + (nb + 10) ≤ R.slots) (hlocks : meth.locks = false)
    (k : ∀ (H1 : Heap) (q9 : Addr) (ce : Cell), H.size ≤ H1.size → (∀ q : Nat, q < H.size → H1[q]? = H[q]?) → va_S A s.heap H1 locs → H1[q9]? = some ce → ce.vm = .none → s.vm.findClass cls = some ce.cls → vx_W p l e R s m args below meth c H1 locs (cells + 3) (slots + (nb + 10)) Q (F0 m pc ls rest) q9) :
    vx_Note p l e R s m args below meth c H locs cells slots Q (F0 m pc ls rest) cls text := by
  intro T hT X
  have htr : e.platform.stackTraces = false := (show e.platform.stackTraces = l.stackTraces by rw [X.admits.platform]).trans hl
  have Y := vx_rebase X (R' := { frames := R.frames, locals := R.locals, cells := 3, slots := nb + 10 }) (Nat.le_refl _) (Nat.le_refl _) hRcells hRslots
  have hhp : ((T.setVm s.vm).setFrames (.invoking m args :: below)).heap = H := hT
  have hW0 : s.WarmedH ((T.setVm s.vm).setFrames (.invoking m args :: below)).vm := State.WarmedH.refl s
  have hat' : ∀ w ∈ vx_atM cls names, w.before args ((T.setVm s.vm).setFrames (.invoking m args :: below)) = true := fun w hw => vx_ot_at hW0 rfl (hgood w hw) (hat w hw)
  have hU' : vx_Zq Bundle.tN "UNASSIGNED_STACK" Bundle.steD A ((T.setVm s.vm).setFrames (.invoking m args :: below)) ((T.setVm s.vm).setFrames (.invoking m args :: below)).heap := by rw [hhp]; exact vx_Zq.moved hW0.alike (hU.kept hS.2.1)
  have hN' : vx_Zq Bundle.tN "SUPPRESSED_SENTINEL" Bundle.listD A ((T.setVm s.vm).setFrames (.invoking m args :: below)) ((T.setVm s.vm).setFrames (.invoking m args :: below)).heap := by rw [hhp]; exact vx_Zq.moved hW0.alike (hN.kept hS.2.1)
  obtain ⟨S, q, ce, st, Z, hce, hcl', hv⟩ := vx_vmAt Y hexec htr (cls := cls) (names := names) (text := text) hcls hnames hsoe hoom (vx_own hat' (vx_isRefq hU'.1) (vx_isRefq hN'.1) hU'.2.word hN'.2.word) (fun x hx => nomatch hx) htext
    (by rw [Launch.admits_arrayLengthLimit X.admits]; omega) (by rw [Launch.admits_maxHeapBytes X.admits]; simp only [componentBytes]; omega)
    (g := F0 m pc ls rest) rfl hsize hRframes (by show 2 * 0 + (rest.map fun v => v.category).sum + 10240 ≤ R.locals; omega) hshort (by show 0 + 3 ≤ 3; omega) (by show 0 + (_ + 4 + 6) ≤ nb + 10; omega) hlocks
  obtain ⟨f1, f2⟩ := vx_frame Z.same
  have f1' : H.size ≤ S.heap.size := by rw [← hT]; exact f1
  have f2' : ∀ q : Nat, q < H.size → S.heap[q]? = H[q]? := fun q hq => by
    rw [← hT]
    exact f2 q (by rw [← hT] at hq; exact hq) (fun z hz => nomatch hz)
  have X5 := vx_back9 X Y Z
  have X6 : Stand p l e R s m args below meth c S locs (cells + 3) (slots + (nb + 10)) := { X5 with same := X5.same.mono (by omega) (by omega) }
  obtain ⟨t, a1, b1⟩ := k S.heap q ce f1' f2' ⟨Nat.le_trans hS.1 f1', fun q h1 h2 => (f2' q (Nat.lt_of_lt_of_le h1 hS.1)).trans (hS.2.1 q h1 h2), hS.2.2⟩ hce hv hcl' S rfl X6
  exact ⟨t, st t a1, b1⟩
/-- from the machine's note that NullPointerException is thrown here -/
def vx_NoteN (p : Program) (l : Launch) (e : Env) (R : Room) (s : State) (m : MethodId) (args : Array Value) (below : List Frame) (meth : Method) (c : Code) (H : Heap) (locs : List Loc) (cells slots : Nat) (Q : State → Prop) (g : JFrame) : Prop :=
  ∀ T : State, T.heap = H → Stand p l e R s m args below meth c T locs cells slots → ∃ t, Steps p.tables e below ((T.setTop g).pushFrame (.throwNew "java/lang/NullPointerException" none none)) t ∧ Q t
theorem vx_npe {pc : Nat} {ls : Array Slot} {rest : List Value} {Q : State → Prop} (hexec : p.tables.exec = Jvm.exec) (hl : l.stackTraces = false) {nb : Nat} {A : Nat → Prop}
    (hat : ∀ w ∈ vx_atN nb, w.before args s = true) (hgood : ∀ w ∈ vx_atN nb, vx_ot w = true)
    (hU : vx_Zq Bundle.tN "UNASSIGNED_STACK" Bundle.steD A s s.heap) (hN : vx_Zq Bundle.tN "SUPPRESSED_SENTINEL" Bundle.listD A s s.heap) (hS : va_S A s.heap H locs) (hsize : ls.size = c.maxLocals)
    (hRframes : 7 < R.frames) (hRlocals : (rest.map fun v => v.category).sum + 10240 ≤ R.locals) (hRcells : cells + 1 ≤ R.cells) (hRslots : slots + nb ≤ R.slots) (hlocks : meth.locks = false)
    (k : ∀ (H1 : Heap) (q9 : Addr) (ce : Cell), H.size ≤ H1.size → (∀ q : Nat, q < H.size → H1[q]? = H[q]?) → va_S A s.heap H1 locs → H1[q9]? = some ce → ce.vm = .none → s.vm.findClass "java/lang/NullPointerException" = some ce.cls → vx_W p l e R s m args below meth c H1 locs (cells + 1) (slots + nb) Q (F0 m pc ls rest) q9) :
    vx_NoteN p l e R s m args below meth c H locs cells slots Q (F0 m pc ls rest) := by
  intro T hT X
  have htr : e.platform.stackTraces = false := (show e.platform.stackTraces = l.stackTraces by rw [X.admits.platform]).trans hl
  have Y := vx_rebase X (R' := { frames := R.frames, locals := R.locals, cells := 1, slots := nb }) (Nat.le_refl _) (Nat.le_refl _) hRcells hRslots
  have hhp : ((T.setVm s.vm).setFrames (.invoking m args :: below)).heap = H := hT
  have hW0 : s.WarmedH ((T.setVm s.vm).setFrames (.invoking m args :: below)).vm := State.WarmedH.refl s
  have hat' : ∀ w ∈ vx_atN nb, w.before args ((T.setVm s.vm).setFrames (.invoking m args :: below)) = true := fun w hw => vx_ot_at hW0 rfl (hgood w hw) (hat w hw)
  have hU' : vx_Zq Bundle.tN "UNASSIGNED_STACK" Bundle.steD A ((T.setVm s.vm).setFrames (.invoking m args :: below)) ((T.setVm s.vm).setFrames (.invoking m args :: below)).heap := by rw [hhp]; exact vx_Zq.moved hW0.alike (hU.kept hS.2.1)
  have hN' : vx_Zq Bundle.tN "SUPPRESSED_SENTINEL" Bundle.listD A ((T.setVm s.vm).setFrames (.invoking m args :: below)) ((T.setVm s.vm).setFrames (.invoking m args :: below)).heap := by rw [hhp]; exact vx_Zq.moved hW0.alike (hN.kept hS.2.1)
  obtain ⟨S, q, ce, st, Z, hce, hcl', hv⟩ := vx_npeAt Y hexec htr (n := nb) (vx_own hat' (vx_isRefq hU'.1) (vx_isRefq hN'.1) hU'.2.word hN'.2.word) (fun x hx => nomatch hx)
    (g := F0 m pc ls rest) rfl hsize hRframes (by show 2 * 0 + (rest.map fun v => v.category).sum + 10240 ≤ R.locals; omega) (by show 0 + 1 ≤ 1; omega) (by show 0 + nb ≤ nb; omega) hlocks
  obtain ⟨f1, f2⟩ := vx_frame Z.same
  have f1' : H.size ≤ S.heap.size := by rw [← hT]; exact f1
  have f2' : ∀ q : Nat, q < H.size → S.heap[q]? = H[q]? := fun q hq => by
    rw [← hT]
    exact f2 q (by rw [← hT] at hq; exact hq) (fun z hz => nomatch hz)
  have X5 := vx_back9 X Y Z
  have X6 : Stand p l e R s m args below meth c S locs (cells + 1) (slots + nb) := { X5 with same := X5.same.mono (by omega) (by omega) }
  obtain ⟨t, a1, b1⟩ := k S.heap q ce f1' f2' ⟨Nat.le_trans hS.1 f1', fun q h1 h2 => (f2' q (Nat.lt_of_lt_of_le h1 hS.1)).trans (hS.2.1 q h1 h2), hS.2.2⟩ hce hv hcl' S rfl X6
  exact ⟨t, st t a1, b1⟩
variable {Q : State → Prop} {cc : ByteArray} {pc : Nat} {ls : Array Slot} {rest : List Value}
theorem vx_idivZ (hexec : p.tables.exec = Jvm.exec) (hb : c.code = cc) {a b : Int32} (h0 : b = 0) (d : decode cc pc = .ok (.idiv, 1)) (k : vx_Note p l e R s m args below meth c H locs cells slots Q (F0 m pc ls rest) "java/lang/ArithmeticException" "/ by zero") :
    W p l e R s m args below meth c H locs cells slots Q (F0 m pc ls (.int b :: .int a :: rest)) := by
  intro T hT X
  obtain ⟨t, st, q⟩ := k T hT X
  exact ⟨t, X.idivZero hexec (g := F0 m pc ls (.int b :: .int a :: rest)) rfl (a := a) (rest := rest) (by rw [h0]) (by rw [hb]; exact d) t st, q⟩
theorem vx_iremZ (hexec : p.tables.exec = Jvm.exec) (hb : c.code = cc) {a b : Int32} (h0 : b = 0) (d : decode cc pc = .ok (.irem, 1)) (k : vx_Note p l e R s m args below meth c H locs cells slots Q (F0 m pc ls rest) "java/lang/ArithmeticException" "/ by zero") :
    W p l e R s m args below meth c H locs cells slots Q (F0 m pc ls (.int b :: .int a :: rest)) := by
  intro T hT X
  obtain ⟨t, st, q⟩ := k T hT X
  exact ⟨t, X.iremZero hexec (g := F0 m pc ls (.int b :: .int a :: rest)) rfl (a := a) (rest := rest) (by rw [h0]) (by rw [hb]; exact d) t st, q⟩
theorem vx_ldivZ (hexec : p.tables.exec = Jvm.exec) (hb : c.code = cc) {a b : Int64} (h0 : b = 0) (d : decode cc pc = .ok (.ldiv, 1)) (k : vx_Note p l e R s m args below meth c H locs cells slots Q (F0 m pc ls rest) "java/lang/ArithmeticException" "/ by zero") :
    W p l e R s m args below meth c H locs cells slots Q (F0 m pc ls (.long b :: .long a :: rest)) := by
  intro T hT X
  obtain ⟨t, st, q⟩ := k T hT X
  exact ⟨t, X.ldivZero hexec (g := F0 m pc ls (.long b :: .long a :: rest)) rfl (a := a) (rest := rest) (by rw [h0]) (by rw [hb]; exact d) t st, q⟩
theorem vx_lremZ (hexec : p.tables.exec = Jvm.exec) (hb : c.code = cc) {a b : Int64} (h0 : b = 0) (d : decode cc pc = .ok (.lrem, 1)) (k : vx_Note p l e R s m args below meth c H locs cells slots Q (F0 m pc ls rest) "java/lang/ArithmeticException" "/ by zero") :
    W p l e R s m args below meth c H locs cells slots Q (F0 m pc ls (.long b :: .long a :: rest)) := by
  intro T hT X
  obtain ⟨t, st, q⟩ := k T hT X
  exact ⟨t, X.lremZero hexec (g := F0 m pc ls (.long b :: .long a :: rest)) rfl (a := a) (rest := rest) (by rw [h0]) (by rw [hb]; exact d) t st, q⟩
theorem vx_ialdZ {D : va_G} {cl : List vw_C} {ws : va_W} {tys : List (ClassId × FieldType)} {a : Nat} (hexec : p.tables.exec = Jvm.exec) (hb : c.code = cc) (hK : va_K D cl tys s) (hP : va_P D cl ws H) (q0 t0 : Nat) {cA : ClassId} {n : Nat} {f : Nat → Int32} (ha : ws[q0]? = some (a, .inl (cA, n, .inl f))) (ht : tys[t0]? = some (cA, .int)) {i : Int32} (hout : ¬ vp_in i n) (hdg : decode cc pc = .ok (.iaload, 1))
    (k : ∀ tx : String, tx = (toString "Index " ++ toString i ++ toString " out of bounds for length " ++ toString n : String) → vx_Note p l e R s m args below meth c H locs cells slots Q (F0 m pc ls rest) "java/lang/ArrayIndexOutOfBoundsException" tx) : W p l e R s m args below meth c H locs cells slots Q (F0 m pc ls (.int i :: .ref a :: rest)) := by
  intro T hT X
  obtain ⟨t, st, q⟩ := k _ rfl T hT X
  refine ⟨t, ?_, q⟩
  have h1 := X.ialoadOut hexec (by rw [hT]; exact hP q0 _ ha) ((hK.2 t0 _ ht).1 n (fun j => .int (f j))) (j := i) (by show (i < 0 ∨ (arrV _ _ _).slots.size ≤ _); rw [arrV_size]; exact Classical.byContradiction hout) (g := F0 m pc ls (.int i :: .ref a :: rest)) rfl (rest := rest) rfl (by rw [hb]; exact hdg) t
  simp only [arrV_size] at h1
  exact h1 st
theorem vx_iastZ {D : va_G} {cl : List vw_C} {ws : va_W} {tys : List (ClassId × FieldType)} {a : Nat} (hexec : p.tables.exec = Jvm.exec) (hb : c.code = cc) (hK : va_K D cl tys s) (hP : va_P D cl ws H) (q0 t0 : Nat) {cA : ClassId} {n : Nat} {f : Nat → Int32} (ha : ws[q0]? = some (a, .inl (cA, n, .inl f))) (ht : tys[t0]? = some (cA, .int)) {i : Int32} {x : Int32} (hout : ¬ vp_in i n) (hdg : decode cc pc = .ok (.iastore, 1))
    (k : ∀ tx : String, tx = (toString "Index " ++ toString i ++ toString " out of bounds for length " ++ toString n : String) → vx_Note p l e R s m args below meth c H locs cells slots Q (F0 m pc ls rest) "java/lang/ArrayIndexOutOfBoundsException" tx) : W p l e R s m args below meth c H locs cells slots Q (F0 m pc ls (.int x :: .int i :: .ref a :: rest)) := by
  intro T hT X
  obtain ⟨t, st, q⟩ := k _ rfl T hT X
  refine ⟨t, ?_, q⟩
  have h1 := X.iastoreOut hexec (by rw [hT]; exact hP q0 _ ha) ((hK.2 t0 _ ht).1 n (fun j => .int (f j))) (j := i) (by show (i < 0 ∨ (arrV _ _ _).slots.size ≤ _); rw [arrV_size]; exact Classical.byContradiction hout) (g := F0 m pc ls (.int x :: .int i :: .ref a :: rest)) rfl (rest := rest) rfl (by rw [hb]; exact hdg) t
  simp only [arrV_size] at h1
  exact h1 st
theorem vx_baldZ {D : va_G} {cl : List vw_C} {ws : va_W} {tys : List (ClassId × FieldType)} {a : Nat} (hexec : p.tables.exec = Jvm.exec) (hb : c.code = cc) (hK : va_K D cl tys s) (hP : va_P D cl ws H) (q0 t0 : Nat) {cA : ClassId} {n : Nat} {f : Nat → Int32} (ha : ws[q0]? = some (a, .inl (cA, n, .inl f))) (ht : tys[t0]? = some (cA, .byte)) {i : Int32} (hout : ¬ vp_in i n) (hdg : decode cc pc = .ok (.baload, 1))
    (k : ∀ tx : String, tx = (toString "Index " ++ toString i ++ toString " out of bounds for length " ++ toString n : String) → vx_Note p l e R s m args below meth c H locs cells slots Q (F0 m pc ls rest) "java/lang/ArrayIndexOutOfBoundsException" tx) : W p l e R s m args below meth c H locs cells slots Q (F0 m pc ls (.int i :: .ref a :: rest)) := by
  intro T hT X
  obtain ⟨t, st, q⟩ := k _ rfl T hT X
  refine ⟨t, ?_, q⟩
  have h1 := X.baloadOut hexec (by rw [hT]; exact hP q0 _ ha) ((hK.2 t0 _ ht).1 n (fun j => .int (f j))) (j := i) (by show (i < 0 ∨ (arrV _ _ _).slots.size ≤ _); rw [arrV_size]; exact Classical.byContradiction hout) (g := F0 m pc ls (.int i :: .ref a :: rest)) rfl (rest := rest) rfl (by rw [hb]; exact hdg) t
  simp only [arrV_size] at h1
  exact h1 st
theorem vx_bastZ {D : va_G} {cl : List vw_C} {ws : va_W} {tys : List (ClassId × FieldType)} {a : Nat} (hexec : p.tables.exec = Jvm.exec) (hb : c.code = cc) (hK : va_K D cl tys s) (hP : va_P D cl ws H) (q0 t0 : Nat) {cA : ClassId} {n : Nat} {f : Nat → Int32} (ha : ws[q0]? = some (a, .inl (cA, n, .inl f))) (ht : tys[t0]? = some (cA, .byte)) {i : Int32} {x : Int32} (hout : ¬ vp_in i n) (hdg : decode cc pc = .ok (.bastore, 1))
    (k : ∀ tx : String, tx = (toString "Index " ++ toString i ++ toString " out of bounds for length " ++ toString n : String) → vx_Note p l e R s m args below meth c H locs cells slots Q (F0 m pc ls rest) "java/lang/ArrayIndexOutOfBoundsException" tx) : W p l e R s m args below meth c H locs cells slots Q (F0 m pc ls (.int x :: .int i :: .ref a :: rest)) := by
  intro T hT X
  obtain ⟨t, st, q⟩ := k _ rfl T hT X
  refine ⟨t, ?_, q⟩
  have h1 := X.bastoreOut hexec (by rw [hT]; exact hP q0 _ ha) ((hK.2 t0 _ ht).1 n (fun j => .int (f j))) (j := i) (by show (i < 0 ∨ (arrV _ _ _).slots.size ≤ _); rw [arrV_size]; exact Classical.byContradiction hout) (g := F0 m pc ls (.int x :: .int i :: .ref a :: rest)) rfl (rest := rest) rfl (by rw [hb]; exact hdg) t
  simp only [arrV_size] at h1
  exact h1 st
theorem vx_zaldZ {D : va_G} {cl : List vw_C} {ws : va_W} {tys : List (ClassId × FieldType)} {a : Nat} (hexec : p.tables.exec = Jvm.exec) (hb : c.code = cc) (hK : va_K D cl tys s) (hP : va_P D cl ws H) (q0 t0 : Nat) {cA : ClassId} {n : Nat} {f : Nat → Int32} (ha : ws[q0]? = some (a, .inl (cA, n, .inl f))) (ht : tys[t0]? = some (cA, .boolean)) {i : Int32} (hout : ¬ vp_in i n) (hdg : decode cc pc = .ok (.baload, 1))
    (k : ∀ tx : String, tx = (toString "Index " ++ toString i ++ toString " out of bounds for length " ++ toString n : String) → vx_Note p l e R s m args below meth c H locs cells slots Q (F0 m pc ls rest) "java/lang/ArrayIndexOutOfBoundsException" tx) : W p l e R s m args below meth c H locs cells slots Q (F0 m pc ls (.int i :: .ref a :: rest)) := by
  intro T hT X
  obtain ⟨t, st, q⟩ := k _ rfl T hT X
  refine ⟨t, ?_, q⟩
  have h1 := X.baloadOut hexec (by rw [hT]; exact hP q0 _ ha) ((hK.2 t0 _ ht).1 n (fun j => .int (f j))) (j := i) (by show (i < 0 ∨ (arrV _ _ _).slots.size ≤ _); rw [arrV_size]; exact Classical.byContradiction hout) (g := F0 m pc ls (.int i :: .ref a :: rest)) rfl (rest := rest) rfl (by rw [hb]; exact hdg) t
  simp only [arrV_size] at h1
  exact h1 st
theorem vx_zastZ {D : va_G} {cl : List vw_C} {ws : va_W} {tys : List (ClassId × FieldType)} {a : Nat} (hexec : p.tables.exec = Jvm.exec) (hb : c.code = cc) (hK : va_K D cl tys s) (hP : va_P D cl ws H) (q0 t0 : Nat) {cA : ClassId} {n : Nat} {f : Nat → Int32} (ha : ws[q0]? = some (a, .inl (cA, n, .inl f))) (ht : tys[t0]? = some (cA, .boolean)) {i : Int32} {x : Int32} (hout : ¬ vp_in i n) (hdg : decode cc pc = .ok (.bastore, 1))
    (k : ∀ tx : String, tx = (toString "Index " ++ toString i ++ toString " out of bounds for length " ++ toString n : String) → vx_Note p l e R s m args below meth c H locs cells slots Q (F0 m pc ls rest) "java/lang/ArrayIndexOutOfBoundsException" tx) : W p l e R s m args below meth c H locs cells slots Q (F0 m pc ls (.int x :: .int i :: .ref a :: rest)) := by
  intro T hT X
  obtain ⟨t, st, q⟩ := k _ rfl T hT X
  refine ⟨t, ?_, q⟩
  have h1 := X.bastoreOut hexec (by rw [hT]; exact hP q0 _ ha) ((hK.2 t0 _ ht).1 n (fun j => .int (f j))) (j := i) (by show (i < 0 ∨ (arrV _ _ _).slots.size ≤ _); rw [arrV_size]; exact Classical.byContradiction hout) (g := F0 m pc ls (.int x :: .int i :: .ref a :: rest)) rfl (rest := rest) rfl (by rw [hb]; exact hdg) t
  simp only [arrV_size] at h1
  exact h1 st
theorem vx_caldZ {D : va_G} {cl : List vw_C} {ws : va_W} {tys : List (ClassId × FieldType)} {a : Nat} (hexec : p.tables.exec = Jvm.exec) (hb : c.code = cc) (hK : va_K D cl tys s) (hP : va_P D cl ws H) (q0 t0 : Nat) {cA : ClassId} {n : Nat} {f : Nat → Int32} (ha : ws[q0]? = some (a, .inl (cA, n, .inl f))) (ht : tys[t0]? = some (cA, .char)) {i : Int32} (hout : ¬ vp_in i n) (hdg : decode cc pc = .ok (.caload, 1))
    (k : ∀ tx : String, tx = (toString "Index " ++ toString i ++ toString " out of bounds for length " ++ toString n : String) → vx_Note p l e R s m args below meth c H locs cells slots Q (F0 m pc ls rest) "java/lang/ArrayIndexOutOfBoundsException" tx) : W p l e R s m args below meth c H locs cells slots Q (F0 m pc ls (.int i :: .ref a :: rest)) := by
  intro T hT X
  obtain ⟨t, st, q⟩ := k _ rfl T hT X
  refine ⟨t, ?_, q⟩
  have h1 := X.caloadOut hexec (by rw [hT]; exact hP q0 _ ha) ((hK.2 t0 _ ht).1 n (fun j => .int (f j))) (j := i) (by show (i < 0 ∨ (arrV _ _ _).slots.size ≤ _); rw [arrV_size]; exact Classical.byContradiction hout) (g := F0 m pc ls (.int i :: .ref a :: rest)) rfl (rest := rest) rfl (by rw [hb]; exact hdg) t
  simp only [arrV_size] at h1
  exact h1 st
theorem vx_castZ {D : va_G} {cl : List vw_C} {ws : va_W} {tys : List (ClassId × FieldType)} {a : Nat} (hexec : p.tables.exec = Jvm.exec) (hb : c.code = cc) (hK : va_K D cl tys s) (hP : va_P D cl ws H) (q0 t0 : Nat) {cA : ClassId} {n : Nat} {f : Nat → Int32} (ha : ws[q0]? = some (a, .inl (cA, n, .inl f))) (ht : tys[t0]? = some (cA, .char)) {i : Int32} {x : Int32} (hout : ¬ vp_in i n) (hdg : decode cc pc = .ok (.castore, 1))
    (k : ∀ tx : String, tx = (toString "Index " ++ toString i ++ toString " out of bounds for length " ++ toString n : String) → vx_Note p l e R s m args below meth c H locs cells slots Q (F0 m pc ls rest) "java/lang/ArrayIndexOutOfBoundsException" tx) : W p l e R s m args below meth c H locs cells slots Q (F0 m pc ls (.int x :: .int i :: .ref a :: rest)) := by
  intro T hT X
  obtain ⟨t, st, q⟩ := k _ rfl T hT X
  refine ⟨t, ?_, q⟩
  have h1 := X.castoreOut hexec (by rw [hT]; exact hP q0 _ ha) ((hK.2 t0 _ ht).1 n (fun j => .int (f j))) (j := i) (by show (i < 0 ∨ (arrV _ _ _).slots.size ≤ _); rw [arrV_size]; exact Classical.byContradiction hout) (g := F0 m pc ls (.int x :: .int i :: .ref a :: rest)) rfl (rest := rest) rfl (by rw [hb]; exact hdg) t
  simp only [arrV_size] at h1
  exact h1 st
theorem vx_saldZ {D : va_G} {cl : List vw_C} {ws : va_W} {tys : List (ClassId × FieldType)} {a : Nat} (hexec : p.tables.exec = Jvm.exec) (hb : c.code = cc) (hK : va_K D cl tys s) (hP : va_P D cl ws H) (q0 t0 : Nat) {cA : ClassId} {n : Nat} {f : Nat → Int32} (ha : ws[q0]? = some (a, .inl (cA, n, .inl f))) (ht : tys[t0]? = some (cA, .short)) {i : Int32} (hout : ¬ vp_in i n) (hdg : decode cc pc = .ok (.saload, 1))
    (k : ∀ tx : String, tx = (toString "Index " ++ toString i ++ toString " out of bounds for length " ++ toString n : String) → vx_Note p l e R s m args below meth c H locs cells slots Q (F0 m pc ls rest) "java/lang/ArrayIndexOutOfBoundsException" tx) : W p l e R s m args below meth c H locs cells slots Q (F0 m pc ls (.int i :: .ref a :: rest)) := by
  intro T hT X
  obtain ⟨t, st, q⟩ := k _ rfl T hT X
  refine ⟨t, ?_, q⟩
  have h1 := X.saloadOut hexec (by rw [hT]; exact hP q0 _ ha) ((hK.2 t0 _ ht).1 n (fun j => .int (f j))) (j := i) (by show (i < 0 ∨ (arrV _ _ _).slots.size ≤ _); rw [arrV_size]; exact Classical.byContradiction hout) (g := F0 m pc ls (.int i :: .ref a :: rest)) rfl (rest := rest) rfl (by rw [hb]; exact hdg) t
  simp only [arrV_size] at h1
  exact h1 st
theorem vx_sastZ {D : va_G} {cl : List vw_C} {ws : va_W} {tys : List (ClassId × FieldType)} {a : Nat} (hexec : p.tables.exec = Jvm.exec) (hb : c.code = cc) (hK : va_K D cl tys s) (hP : va_P D cl ws H) (q0 t0 : Nat) {cA : ClassId} {n : Nat} {f : Nat → Int32} (ha : ws[q0]? = some (a, .inl (cA, n, .inl f))) (ht : tys[t0]? = some (cA, .short)) {i : Int32} {x : Int32} (hout : ¬ vp_in i n) (hdg : decode cc pc = .ok (.sastore, 1))
    (k : ∀ tx : String, tx = (toString "Index " ++ toString i ++ toString " out of bounds for length " ++ toString n : String) → vx_Note p l e R s m args below meth c H locs cells slots Q (F0 m pc ls rest) "java/lang/ArrayIndexOutOfBoundsException" tx) : W p l e R s m args below meth c H locs cells slots Q (F0 m pc ls (.int x :: .int i :: .ref a :: rest)) := by
  intro T hT X
  obtain ⟨t, st, q⟩ := k _ rfl T hT X
  refine ⟨t, ?_, q⟩
  have h1 := X.sastoreOut hexec (by rw [hT]; exact hP q0 _ ha) ((hK.2 t0 _ ht).1 n (fun j => .int (f j))) (j := i) (by show (i < 0 ∨ (arrV _ _ _).slots.size ≤ _); rw [arrV_size]; exact Classical.byContradiction hout) (g := F0 m pc ls (.int x :: .int i :: .ref a :: rest)) rfl (rest := rest) rfl (by rw [hb]; exact hdg) t
  simp only [arrV_size] at h1
  exact h1 st
theorem vx_laldZ {D : va_G} {cl : List vw_C} {ws : va_W} {tys : List (ClassId × FieldType)} {a : Nat} (hexec : p.tables.exec = Jvm.exec) (hb : c.code = cc) (hK : va_K D cl tys s) (hP : va_P D cl ws H) (q0 t0 : Nat) {cA : ClassId} {n : Nat} {f : Nat → Int64} (ha : ws[q0]? = some (a, .inl (cA, n, .inr (.inl f)))) (ht : tys[t0]? = some (cA, .long)) {i : Int32} (hout : ¬ vp_in i n) (hdg : decode cc pc = .ok (.laload, 1))
    (k : ∀ tx : String, tx = (toString "Index " ++ toString i ++ toString " out of bounds for length " ++ toString n : String) → vx_Note p l e R s m args below meth c H locs cells slots Q (F0 m pc ls rest) "java/lang/ArrayIndexOutOfBoundsException" tx) : W p l e R s m args below meth c H locs cells slots Q (F0 m pc ls (.int i :: .ref a :: rest)) := by
  intro T hT X
  obtain ⟨t, st, q⟩ := k _ rfl T hT X
  refine ⟨t, ?_, q⟩
  have h1 := X.laloadOut hexec (by rw [hT]; exact hP q0 _ ha) ((hK.2 t0 _ ht).1 n (fun j => .long (f j))) (j := i) (by show (i < 0 ∨ (arrV _ _ _).slots.size ≤ _); rw [arrV_size]; exact Classical.byContradiction hout) (g := F0 m pc ls (.int i :: .ref a :: rest)) rfl (rest := rest) rfl (by rw [hb]; exact hdg) t
  simp only [arrV_size] at h1
  exact h1 st
theorem vx_lastZ {D : va_G} {cl : List vw_C} {ws : va_W} {tys : List (ClassId × FieldType)} {a : Nat} (hexec : p.tables.exec = Jvm.exec) (hb : c.code = cc) (hK : va_K D cl tys s) (hP : va_P D cl ws H) (q0 t0 : Nat) {cA : ClassId} {n : Nat} {f : Nat → Int64} (ha : ws[q0]? = some (a, .inl (cA, n, .inr (.inl f)))) (ht : tys[t0]? = some (cA, .long)) {i : Int32} {x : Int64} (hout : ¬ vp_in i n) (hdg : decode cc pc = .ok (.lastore, 1))
    (k : ∀ tx : String, tx = (toString "Index " ++ toString i ++ toString " out of bounds for length " ++ toString n : String) → vx_Note p l e R s m args below meth c H locs cells slots Q (F0 m pc ls rest) "java/lang/ArrayIndexOutOfBoundsException" tx) : W p l e R s m args below meth c H locs cells slots Q (F0 m pc ls (.long x :: .int i :: .ref a :: rest)) := by
  intro T hT X
  obtain ⟨t, st, q⟩ := k _ rfl T hT X
  refine ⟨t, ?_, q⟩
  have h1 := X.lastoreOut hexec (by rw [hT]; exact hP q0 _ ha) ((hK.2 t0 _ ht).1 n (fun j => .long (f j))) (j := i) (by show (i < 0 ∨ (arrV _ _ _).slots.size ≤ _); rw [arrV_size]; exact Classical.byContradiction hout) (g := F0 m pc ls (.long x :: .int i :: .ref a :: rest)) rfl (rest := rest) rfl (by rw [hb]; exact hdg) t
  simp only [arrV_size] at h1
  exact h1 st
theorem vx_faldZ {D : va_G} {cl : List vw_C} {ws : va_W} {tys : List (ClassId × FieldType)} {a : Nat} (hexec : p.tables.exec = Jvm.exec) (hb : c.code = cc) (hK : va_K D cl tys s) (hP : va_P D cl ws H) (q0 t0 : Nat) {cA : ClassId} {n : Nat} {f : Nat → UInt32} (ha : ws[q0]? = some (a, .inl (cA, n, .inr (.inr (.inl f))))) (ht : tys[t0]? = some (cA, .float)) {i : Int32} (hout : ¬ vp_in i n) (hdg : decode cc pc = .ok (.faload, 1))
    (k : ∀ tx : String, tx = (toString "Index " ++ toString i ++ toString " out of bounds for length " ++ toString n : String) → vx_Note p l e R s m args below meth c H locs cells slots Q (F0 m pc ls rest) "java/lang/ArrayIndexOutOfBoundsException" tx) : W p l e R s m args below meth c H locs cells slots Q (F0 m pc ls (.int i :: .ref a :: rest)) := by
  intro T hT X
  obtain ⟨t, st, q⟩ := k _ rfl T hT X
  refine ⟨t, ?_, q⟩
  have h1 := X.faloadOut hexec (by rw [hT]; exact hP q0 _ ha) ((hK.2 t0 _ ht).1 n (fun j => .float (f j))) (j := i) (by show (i < 0 ∨ (arrV _ _ _).slots.size ≤ _); rw [arrV_size]; exact Classical.byContradiction hout) (g := F0 m pc ls (.int i :: .ref a :: rest)) rfl (rest := rest) rfl (by rw [hb]; exact hdg) t
  simp only [arrV_size] at h1
  exact h1 st
theorem vx_fastZ {D : va_G} {cl : List vw_C} {ws : va_W} {tys : List (ClassId × FieldType)} {a : Nat} (hexec : p.tables.exec = Jvm.exec) (hb : c.code = cc) (hK : va_K D cl tys s) (hP : va_P D cl ws H) (q0 t0 : Nat) {cA : ClassId} {n : Nat} {f : Nat → UInt32} (ha : ws[q0]? = some (a, .inl (cA, n, .inr (.inr (.inl f))))) (ht : tys[t0]? = some (cA, .float)) {i : Int32} {x : UInt32} (hout : ¬ vp_in i n) (hdg : decode cc pc = .ok (.fastore, 1))
    (k : ∀ tx : String, tx = (toString "Index " ++ toString i ++ toString " out of bounds for length " ++ toString n : String) → vx_Note p l e R s m args below meth c H locs cells slots Q (F0 m pc ls rest) "java/lang/ArrayIndexOutOfBoundsException" tx) : W p l e R s m args below meth c H locs cells slots Q (F0 m pc ls (.float x :: .int i :: .ref a :: rest)) := by
  intro T hT X
  obtain ⟨t, st, q⟩ := k _ rfl T hT X
  refine ⟨t, ?_, q⟩
  have h1 := X.fastoreOut hexec (by rw [hT]; exact hP q0 _ ha) ((hK.2 t0 _ ht).1 n (fun j => .float (f j))) (j := i) (by show (i < 0 ∨ (arrV _ _ _).slots.size ≤ _); rw [arrV_size]; exact Classical.byContradiction hout) (g := F0 m pc ls (.float x :: .int i :: .ref a :: rest)) rfl (rest := rest) rfl (by rw [hb]; exact hdg) t
  simp only [arrV_size] at h1
  exact h1 st
theorem vx_daldZ {D : va_G} {cl : List vw_C} {ws : va_W} {tys : List (ClassId × FieldType)} {a : Nat} (hexec : p.tables.exec = Jvm.exec) (hb : c.code = cc) (hK : va_K D cl tys s) (hP : va_P D cl ws H) (q0 t0 : Nat) {cA : ClassId} {n : Nat} {f : Nat → UInt64} (ha : ws[q0]? = some (a, .inl (cA, n, .inr (.inr (.inr (.inl f)))))) (ht : tys[t0]? = some (cA, .double)) {i : Int32} (hout : ¬ vp_in i n) (hdg : decode cc pc = .ok (.daload, 1))
    (k : ∀ tx : String, tx = (toString "Index " ++ toString i ++ toString " out of bounds for length " ++ toString n : String) → vx_Note p l e R s m args below meth c H locs cells slots Q (F0 m pc ls rest) "java/lang/ArrayIndexOutOfBoundsException" tx) : W p l e R s m args below meth c H locs cells slots Q (F0 m pc ls (.int i :: .ref a :: rest)) := by
  intro T hT X
  obtain ⟨t, st, q⟩ := k _ rfl T hT X
  refine ⟨t, ?_, q⟩
  have h1 := X.daloadOut hexec (by rw [hT]; exact hP q0 _ ha) ((hK.2 t0 _ ht).1 n (fun j => .double (f j))) (j := i) (by show (i < 0 ∨ (arrV _ _ _).slots.size ≤ _); rw [arrV_size]; exact Classical.byContradiction hout) (g := F0 m pc ls (.int i :: .ref a :: rest)) rfl (rest := rest) rfl (by rw [hb]; exact hdg) t
  simp only [arrV_size] at h1
  exact h1 st
theorem vx_dastZ {D : va_G} {cl : List vw_C} {ws : va_W} {tys : List (ClassId × FieldType)} {a : Nat} (hexec : p.tables.exec = Jvm.exec) (hb : c.code = cc) (hK : va_K D cl tys s) (hP : va_P D cl ws H) (q0 t0 : Nat) {cA : ClassId} {n : Nat} {f : Nat → UInt64} (ha : ws[q0]? = some (a, .inl (cA, n, .inr (.inr (.inr (.inl f)))))) (ht : tys[t0]? = some (cA, .double)) {i : Int32} {x : UInt64} (hout : ¬ vp_in i n) (hdg : decode cc pc = .ok (.dastore, 1))
    (k : ∀ tx : String, tx = (toString "Index " ++ toString i ++ toString " out of bounds for length " ++ toString n : String) → vx_Note p l e R s m args below meth c H locs cells slots Q (F0 m pc ls rest) "java/lang/ArrayIndexOutOfBoundsException" tx) : W p l e R s m args below meth c H locs cells slots Q (F0 m pc ls (.double x :: .int i :: .ref a :: rest)) := by
  intro T hT X
  obtain ⟨t, st, q⟩ := k _ rfl T hT X
  refine ⟨t, ?_, q⟩
  have h1 := X.dastoreOut hexec (by rw [hT]; exact hP q0 _ ha) ((hK.2 t0 _ ht).1 n (fun j => .double (f j))) (j := i) (by show (i < 0 ∨ (arrV _ _ _).slots.size ≤ _); rw [arrV_size]; exact Classical.byContradiction hout) (g := F0 m pc ls (.double x :: .int i :: .ref a :: rest)) rfl (rest := rest) rfl (by rw [hb]; exact hdg) t
  simp only [arrV_size] at h1
  exact h1 st
theorem vx_arraylengthN (hexec : p.tables.exec = Jvm.exec) (hb : c.code = cc) (hdg : decode cc pc = .ok (.arraylength, 1)) (k : vx_NoteN p l e R s m args below meth c H locs cells slots Q (F0 m pc ls rest)) : W p l e R s m args below meth c H locs cells slots Q (F0 m pc ls (.null :: rest)) := by
  intro T hT X
  obtain ⟨t, st, q⟩ := k T hT X
  exact ⟨t, X.arraylengthNull hexec (g := F0 m pc ls (.null :: rest)) rfl (rest := rest) rfl (by rw [hb]; exact hdg) t st, q⟩
theorem vx_ialoadN (hexec : p.tables.exec = Jvm.exec) (hb : c.code = cc) {i : Int32} (hdg : decode cc pc = .ok (.iaload, 1)) (k : vx_NoteN p l e R s m args below meth c H locs cells slots Q (F0 m pc ls rest)) : W p l e R s m args below meth c H locs cells slots Q (F0 m pc ls (.int i :: .null :: rest)) := by
  intro T hT X
  obtain ⟨t, st, q⟩ := k T hT X
  exact ⟨t, X.ialoadNull hexec (g := F0 m pc ls (.int i :: .null :: rest)) rfl (rest := rest) rfl (by rw [hb]; exact hdg) t st, q⟩
theorem vx_laloadN (hexec : p.tables.exec = Jvm.exec) (hb : c.code = cc) {i : Int32} (hdg : decode cc pc = .ok (.laload, 1)) (k : vx_NoteN p l e R s m args below meth c H locs cells slots Q (F0 m pc ls rest)) : W p l e R s m args below meth c H locs cells slots Q (F0 m pc ls (.int i :: .null :: rest)) := by
  intro T hT X
  obtain ⟨t, st, q⟩ := k T hT X
  exact ⟨t, X.laloadNull hexec (g := F0 m pc ls (.int i :: .null :: rest)) rfl (rest := rest) rfl (by rw [hb]; exact hdg) t st, q⟩
theorem vx_faloadN (hexec : p.tables.exec = Jvm.exec) (hb : c.code = cc) {i : Int32} (hdg : decode cc pc = .ok (.faload, 1)) (k : vx_NoteN p l e R s m args below meth c H locs cells slots Q (F0 m pc ls rest)) : W p l e R s m args below meth c H locs cells slots Q (F0 m pc ls (.int i :: .null :: rest)) := by
  intro T hT X
  obtain ⟨t, st, q⟩ := k T hT X
  exact ⟨t, X.faloadNull hexec (g := F0 m pc ls (.int i :: .null :: rest)) rfl (rest := rest) rfl (by rw [hb]; exact hdg) t st, q⟩
theorem vx_daloadN (hexec : p.tables.exec = Jvm.exec) (hb : c.code = cc) {i : Int32} (hdg : decode cc pc = .ok (.daload, 1)) (k : vx_NoteN p l e R s m args below meth c H locs cells slots Q (F0 m pc ls rest)) : W p l e R s m args below meth c H locs cells slots Q (F0 m pc ls (.int i :: .null :: rest)) := by
  intro T hT X
  obtain ⟨t, st, q⟩ := k T hT X
  exact ⟨t, X.daloadNull hexec (g := F0 m pc ls (.int i :: .null :: rest)) rfl (rest := rest) rfl (by rw [hb]; exact hdg) t st, q⟩
theorem vx_aaloadN (hexec : p.tables.exec = Jvm.exec) (hb : c.code = cc) {i : Int32} (hdg : decode cc pc = .ok (.aaload, 1)) (k : vx_NoteN p l e R s m args below meth c H locs cells slots Q (F0 m pc ls rest)) : W p l e R s m args below meth c H locs cells slots Q (F0 m pc ls (.int i :: .null :: rest)) := by
  intro T hT X
  obtain ⟨t, st, q⟩ := k T hT X
  exact ⟨t, X.aaloadNull hexec (g := F0 m pc ls (.int i :: .null :: rest)) rfl (rest := rest) rfl (by rw [hb]; exact hdg) t st, q⟩
theorem vx_baloadN (hexec : p.tables.exec = Jvm.exec) (hb : c.code = cc) {i : Int32} (hdg : decode cc pc = .ok (.baload, 1)) (k : vx_NoteN p l e R s m args below meth c H locs cells slots Q (F0 m pc ls rest)) : W p l e R s m args below meth c H locs cells slots Q (F0 m pc ls (.int i :: .null :: rest)) := by
  intro T hT X
  obtain ⟨t, st, q⟩ := k T hT X
  exact ⟨t, X.baloadNull hexec (g := F0 m pc ls (.int i :: .null :: rest)) rfl (rest := rest) rfl (by rw [hb]; exact hdg) t st, q⟩
theorem vx_caloadN (hexec : p.tables.exec = Jvm.exec) (hb : c.code = cc) {i : Int32} (hdg : decode cc pc = .ok (.caload, 1)) (k : vx_NoteN p l e R s m args below meth c H locs cells slots Q (F0 m pc ls rest)) : W p l e R s m args below meth c H locs cells slots Q (F0 m pc ls (.int i :: .null :: rest)) := by
  intro T hT X
  obtain ⟨t, st, q⟩ := k T hT X
  exact ⟨t, X.caloadNull hexec (g := F0 m pc ls (.int i :: .null :: rest)) rfl (rest := rest) rfl (by rw [hb]; exact hdg) t st, q⟩
theorem vx_saloadN (hexec : p.tables.exec = Jvm.exec) (hb : c.code = cc) {i : Int32} (hdg : decode cc pc = .ok (.saload, 1)) (k : vx_NoteN p l e R s m args below meth c H locs cells slots Q (F0 m pc ls rest)) : W p l e R s m args below meth c H locs cells slots Q (F0 m pc ls (.int i :: .null :: rest)) := by
  intro T hT X
  obtain ⟨t, st, q⟩ := k T hT X
  exact ⟨t, X.saloadNull hexec (g := F0 m pc ls (.int i :: .null :: rest)) rfl (rest := rest) rfl (by rw [hb]; exact hdg) t st, q⟩
theorem vx_iastoreN (hexec : p.tables.exec = Jvm.exec) (hb : c.code = cc) {x : Int32} {i : Int32} (hdg : decode cc pc = .ok (.iastore, 1)) (k : vx_NoteN p l e R s m args below meth c H locs cells slots Q (F0 m pc ls rest)) : W p l e R s m args below meth c H locs cells slots Q (F0 m pc ls (.int x :: .int i :: .null :: rest)) := by
  intro T hT X
  obtain ⟨t, st, q⟩ := k T hT X
  exact ⟨t, X.iastoreNull hexec (g := F0 m pc ls (.int x :: .int i :: .null :: rest)) rfl (rest := rest) rfl (by rw [hb]; exact hdg) t st, q⟩
theorem vx_lastoreN (hexec : p.tables.exec = Jvm.exec) (hb : c.code = cc) {x : Int64} {i : Int32} (hdg : decode cc pc = .ok (.lastore, 1)) (k : vx_NoteN p l e R s m args below meth c H locs cells slots Q (F0 m pc ls rest)) : W p l e R s m args below meth c H locs cells slots Q (F0 m pc ls (.long x :: .int i :: .null :: rest)) := by
  intro T hT X
  obtain ⟨t, st, q⟩ := k T hT X
  exact ⟨t, X.lastoreNull hexec (g := F0 m pc ls (.long x :: .int i :: .null :: rest)) rfl (rest := rest) rfl (by rw [hb]; exact hdg) t st, q⟩
theorem vx_fastoreN (hexec : p.tables.exec = Jvm.exec) (hb : c.code = cc) {x : UInt32} {i : Int32} (hdg : decode cc pc = .ok (.fastore, 1)) (k : vx_NoteN p l e R s m args below meth c H locs cells slots Q (F0 m pc ls rest)) : W p l e R s m args below meth c H locs cells slots Q (F0 m pc ls (.float x :: .int i :: .null :: rest)) := by
  intro T hT X
  obtain ⟨t, st, q⟩ := k T hT X
  exact ⟨t, X.fastoreNull hexec (g := F0 m pc ls (.float x :: .int i :: .null :: rest)) rfl (rest := rest) rfl (by rw [hb]; exact hdg) t st, q⟩
theorem vx_dastoreN (hexec : p.tables.exec = Jvm.exec) (hb : c.code = cc) {x : UInt64} {i : Int32} (hdg : decode cc pc = .ok (.dastore, 1)) (k : vx_NoteN p l e R s m args below meth c H locs cells slots Q (F0 m pc ls rest)) : W p l e R s m args below meth c H locs cells slots Q (F0 m pc ls (.double x :: .int i :: .null :: rest)) := by
  intro T hT X
  obtain ⟨t, st, q⟩ := k T hT X
  exact ⟨t, X.dastoreNull hexec (g := F0 m pc ls (.double x :: .int i :: .null :: rest)) rfl (rest := rest) rfl (by rw [hb]; exact hdg) t st, q⟩
theorem vx_bastoreN (hexec : p.tables.exec = Jvm.exec) (hb : c.code = cc) {x : Int32} {i : Int32} (hdg : decode cc pc = .ok (.bastore, 1)) (k : vx_NoteN p l e R s m args below meth c H locs cells slots Q (F0 m pc ls rest)) : W p l e R s m args below meth c H locs cells slots Q (F0 m pc ls (.int x :: .int i :: .null :: rest)) := by
  intro T hT X
  obtain ⟨t, st, q⟩ := k T hT X
  exact ⟨t, X.bastoreNull hexec (g := F0 m pc ls (.int x :: .int i :: .null :: rest)) rfl (rest := rest) rfl (by rw [hb]; exact hdg) t st, q⟩
theorem vx_castoreN (hexec : p.tables.exec = Jvm.exec) (hb : c.code = cc) {x : Int32} {i : Int32} (hdg : decode cc pc = .ok (.castore, 1)) (k : vx_NoteN p l e R s m args below meth c H locs cells slots Q (F0 m pc ls rest)) : W p l e R s m args below meth c H locs cells slots Q (F0 m pc ls (.int x :: .int i :: .null :: rest)) := by
  intro T hT X
  obtain ⟨t, st, q⟩ := k T hT X
  exact ⟨t, X.castoreNull hexec (g := F0 m pc ls (.int x :: .int i :: .null :: rest)) rfl (rest := rest) rfl (by rw [hb]; exact hdg) t st, q⟩
theorem vx_sastoreN (hexec : p.tables.exec = Jvm.exec) (hb : c.code = cc) {x : Int32} {i : Int32} (hdg : decode cc pc = .ok (.sastore, 1)) (k : vx_NoteN p l e R s m args below meth c H locs cells slots Q (F0 m pc ls rest)) : W p l e R s m args below meth c H locs cells slots Q (F0 m pc ls (.int x :: .int i :: .null :: rest)) := by
  intro T hT X
  obtain ⟨t, st, q⟩ := k T hT X
  exact ⟨t, X.sastoreNull hexec (g := F0 m pc ls (.int x :: .int i :: .null :: rest)) rfl (rest := rest) rfl (by rw [hb]; exact hdg) t st, q⟩
theorem vx_invokeN {own C : String} {index maxL : Nat} {y : MethodName} {bytes : ByteArray} {ret : Option FieldType} (hexec : p.tables.exec = Jvm.exec) (hb : c.code = cc) (hown : s.vm.findClass own = some m.cls) (hlink : (Cond.methodLink own index y).before args s = true) (hinst : (Cond.instanceMethod y).before args s = true) (hcode : (Cond.code y bytes maxL ret).before args s = true) (hsel : (Cond.selects C y y).before args s = true)
    (hx : y.cls ≠ "java/lang/invoke/MethodHandle" ∧ y.cls ≠ "java/lang/invoke/VarHandle") {As : List Value} (hlen : (parseMethodDescriptor y.desc).map (fun d => d.parameters.length) = some As.length) (hdg : decode cc pc = .ok (.invokevirtual index, 3))
    (k : vx_NoteN p l e R s m args below meth c H locs cells slots Q (F0 m pc ls rest)) {st0 : List Value} (hst : st0 = As.reverse ++ .null :: rest) : W p l e R s m args below meth c H locs cells slots Q (F0 m pc ls st0) := by
  intro T hT X
  obtain ⟨r0, r, hn, hrm, hstR, hsigR⟩ := va_Decl.of hinst hcode
  obtain ⟨c2, r2, m2, q1, q2, q3, q4, kP, hkP, hkPi⟩ := Cond.selects_spec hsel
  cases hn.symm.trans q3
  have hl9 : As.length = r.sig.parameters.length := by
    rw [hsigR] at hlen
    exact (Option.some.inj hlen).symm
  obtain ⟨vm', X1, st1⟩ := X.invokevirtualNull hexec hown hlink hn hrm hstR hkP hkPi hx (g := F0 m pc ls st0) rfl (argsL := As) (rest := rest) hl9 hst (by rw [hb]; exact hdg)
  obtain ⟨t, st, q⟩ := k (T.setVm vm') hT X1
  exact ⟨t, st1 t st, q⟩
theorem vx_newarrayZ {atype : ArrayType} (hexec : p.tables.exec = Jvm.exec) (hb : c.code = cc) {n : Int32} (h0 : n < 0) (hdg : decode cc pc = .ok (.newarray atype, 2)) (k : ∀ tx : String, tx = toString n → vx_Note p l e R s m args below meth c H locs cells slots Q (F0 m pc ls rest) "java/lang/NegativeArraySizeException" tx) : W p l e R s m args below meth c H locs cells slots Q (F0 m pc ls (.int n :: rest)) := by
  intro T hT X
  obtain ⟨t, st, q⟩ := k _ rfl T hT X
  exact ⟨t, X.newarrayNegative hexec (g := F0 m pc ls (.int n :: rest)) rfl h0 (rest := rest) rfl (by rw [hb]; exact hdg) t st, q⟩
end
end VXM
/-! ===== END ===== -/
/-! ===== BEGIN an exception as an object: made, kept, thrown later (no traces kept) ===== -/
section VXK
variable {p : Program} {l : Launch} {e : Env} {R : Room} {s : State} {m₀ : MethodId} {args : Array Value} {below : List Frame} {meth : Method} {c : Code} {W : State} {locs : List Loc} {cells slots : Nat}
set_option maxHeartbeats 1000000 in
theorem vx_ctorMadeS (X : Stand p l e R s m₀ args below meth c W locs cells slots) (hexec : p.tables.exec = Jvm.exec) (htr : e.platform.stackTraces = false) {own cls : String} {names : List String} {ic : Nat}
    (hown : s.vm.findClass own = some m₀.cls) (hcls : Bundle.fit cls = true) (hnames : ∀ n ∈ names, Bundle.fit n = true)
    (h : ∀ a ∈ Bundle.ownAtoms own ic cls names, a.before args s = true)
    (hlocs : ∀ x ∈ locs, ∀ cell, s.heap[x.base]? = some cell → cell.vm.isStatics = false)
    {a : Addr} {cX : ClassId} {kX : Class} (hfoundX : s.vm.findClass cls = some cX) (hkX : s.vm.classes[cX]? = some kX) (hcell : W.heap[a]? = some (freshCell cX kX)) (hnew : s.heap.size ≤ a)
    {msg : Value} (hmsg : msg.isRef = true)
    {g : JFrame} (hg : g.method = m₀) (hsize : g.locals.size = c.maxLocals) {rest : List Value} (hstack : g.stack = msg :: .ref a :: .ref a :: rest)
    (hd6 : decode c.code g.pc = .ok (.invokespecial ic, 3))
    (hRframes : names.length + 3 < R.frames) (hRlocals : 2 * g.monitorRoom + ((Value.ref a :: rest).map fun v => v.category).sum + (13 * (names.length + 1) + 42) ≤ R.locals) :
    ∃ (V : State) (ce : Cell) (L : List Loc), Stand p l e R s m₀ args below meth c (V.setCell a ce) (locs ++ L) cells slots ∧ (∀ y ∈ L, y.base = a) ∧ a < V.heap.size ∧ ce.cls = cX ∧ ce.vm = .none ∧
      ∀ target, Steps p.tables e below ((V.setCell a ce).setTop { g with stack := .ref a :: rest, pc := g.pc + 3 }) target → Steps p.tables e below (W.setTop g) target := by
  have howns : e.platform.frameOwnsMonitors = true := by rw [X.admits.platform]
  have hfin : e.platform.finalization = false := by rw [X.admits.platform]
  have hpl : e.platform.magicAccessors = ({} : Platform).magicAccessors := by rw [X.admits.platform]
  have a' : ∀ x, x ∈ Bundle.ownAtoms own ic cls names → x.holds args s none s [] = true := fun x hx => h x hx
  obtain ⟨T, Z0, L, -, Y⟩ := ThrowableC.of_atoms (args := args) howns hfin hpl (fun x hx => h x (by simp [Bundle.ownAtoms, hx]))
  obtain ⟨Z, M, LZ, LM, hnZ⟩ := Init0T.ofS_atoms (args := args) hpl L Y (fun x hx => h x (by simp [Bundle.ownAtoms, hx]))
  obtain ⟨P1, Ps, hlen, L1, hL, hP1m, hlink1, hlink⟩ := Bundle.chainS (args := args) hpl hnZ names cls hcls hnames (fun x hx => h x (by simp [Bundle.ownAtoms, hx]))
  have hfound : s.vm.findClass cls = some P1.m.cls := findClass_of_methodNamed hP1m
  cases Option.some.inj (hfoundX.symm.trans hfound)
  obtain ⟨c1, kX', hc1, hk, hord, -, -, hn6⟩ := Cond.instantiable_spec (a' (.instantiable cls 6) (by simp [Bundle.ownAtoms]))
  cases Option.some.inj (hc1.symm.trans hfound)
  cases Option.some.inj (hkX.symm.trans hk)
  have hsel0 : selectMethod e.platform s.vm P1.m.cls T.fill0 = .method T.fill0 := by
    obtain ⟨c2, r2, m2, q1, q2, q3, q4, -⟩ := Cond.selects_spec (a' (.selects cls Bundle.tFill0 Bundle.tFill0) (by simp [Bundle.ownAtoms]))
    cases Option.some.inj (q1.symm.trans hfound)
    cases Option.some.inj (q2.symm.trans (State.methodFound?_of_named Y.fill0 (by decide)))
    cases Option.some.inj (q3.symm.trans Y.fill0)
    rw [Launch.admits_selectMethod X.admits]; exact q4
  have hselF : selectMethod e.platform s.vm P1.m.cls T.fill = .method T.fill := by
    obtain ⟨c2, r2, m2, q1, q2, q3, q4, -⟩ := Cond.selects_spec (a' (.selects cls Bundle.tFill Bundle.tFill) (by simp [Bundle.ownAtoms]))
    cases Option.some.inj (q1.symm.trans hfound)
    cases Option.some.inj (q2.symm.trans (State.methodFound?_of_named Y.fill (by decide)))
    cases Option.some.inj (q3.symm.trans Y.fill)
    rw [Launch.admits_selectMethod X.admits]; exact q4
  obtain ⟨cellS0, hcS0, hiss⟩ := Y.statics
  obtain ⟨u0, hu0⟩ := Cond.staticRefV Y.unassigned L.unassignedStatic L.statics hcS0 hiss (a' (.isRef (.static Bundle.tN "UNASSIGNED_STACK" Bundle.steD)) (by simp [Bundle.ownAtoms]))
  obtain ⟨sen, hsen⟩ := Cond.staticRefV Y.sentinel L.sentinelStatic L.statics hcS0 hiss (a' (.isRef (.static Bundle.tN "SUPPRESSED_SENTINEL" Bundle.listD)) (by simp [Bundle.ownAtoms]))
  obtain ⟨ci198, i198, fB, hk198, hg198, ha198, hsB, -, hnB, htB, hffB⟩ := Cond.ownField (t := .object "java/lang/Object") Y.found L.cls (by decide +kernel) (a' (.fieldLink Bundle.tN 198 Bundle.tN "backtrace" "Ljava/lang/Object;") (by simp [Bundle.ownAtoms])) (a' (.lays Bundle.tN Bundle.tN "backtrace" "Ljava/lang/Object;") (by simp [Bundle.ownAtoms])) e.platform hpl
  obtain ⟨cellS, hcS', heS, -, hkeep⟩ := X.same.2.2.2.2.2 T.aS cellS0 hcS0
  have hcellS : W.heap[T.aS]? = some cellS := hcS'
  have hout' : ∀ i, (⟨T.aS, i⟩ : Loc) ∉ locs := fun i hmem => by
    have := hlocs _ hmem cellS0 hcS0
    rw [hiss] at this; cases this
  have hknownS : cellS.vm ≠ .unknown := by
    rw [heS]; intro hu
    rw [show cellS0.vm = .unknown from hu] at hiss
    cases hiss
  have hneS : T.aS ≠ a := Nat.ne_of_lt (Nat.lt_of_lt_of_le (Array.getElem?_eq_some_iff.mp hcS0).1 hnew)
  obtain ⟨iM, hffM⟩ := Y.msg
  obtain ⟨tyC, dC, hdC, hdnC⟩ := Cond.laysAt hfound hk Y.cause (a' (.lays cls Bundle.tN "cause" "Ljava/lang/Throwable;") (by simp [Bundle.ownAtoms]))
  obtain ⟨tyS, dS, hdS, hdnS⟩ := Cond.laysAt hfound hk Y.stack (a' (.lays cls Bundle.tN "stackTrace" Bundle.steD) (by simp [Bundle.ownAtoms]))
  obtain ⟨tyP, dP, hdP, hdnP⟩ := Cond.laysAt hfound hk Y.supp (a' (.lays cls Bundle.tN "suppressedExceptions" Bundle.listD) (by simp [Bundle.ownAtoms]))
  obtain ⟨tyM, dM, hdM, hdnM⟩ := Cond.laysAt hfound hk hffM (a' (.lays cls Bundle.tN "detailMessage" "Ljava/lang/String;") (by simp [Bundle.ownAtoms]))
  obtain ⟨tyB, dB, hdB, hdnB⟩ := Cond.laysAt hfound hk hffB (a' (.lays cls Bundle.tN "backtrace" "Ljava/lang/Object;") (by simp [Bundle.ownAtoms]))
  have bC := Cond.laysApart hdB hdC hdnB hdnC (by rw [hnB, Y.causeName]; decide)
  have bS := Cond.laysApart hdB hdS hdnB hdnS (by rw [hnB, Y.stackName]; decide)
  have bP := Cond.laysApart hdB hdP hdnB hdnP (by rw [hnB, Y.suppName]; decide)
  have hskip : SkipFacts T e.platform s (fun u => u) u0 ((preparedCellV T.toThrowableT (freshCell P1.m.cls kX) a u0 sen).withEntry W.cur) :=
    ⟨{ ci198 := ci198, i198 := i198, fBack := fB }, ⟨hk198, hg198, ha198, hsB⟩, by
      have := fresh_default (c := P1.m.cls) tyB
      rw [htB] at this
      simpa [preparedCellV, Cell.setSlot, Cell.withEntry, Array.getElem?_setIfInBounds, bC, bS, bP, bC.symm, bS.symm, bP.symm, defaultValue] using this, fun _ _ => rfl⟩
  obtain ⟨tm, methC, cdC, kC, vm₁, hnC, -, -, -, -, -, -, -, hW₁, st1⟩ := Steps.initColdS (tb := p.tables) (e := e) (below := below) (s := s) (U := W) X.here hexec X.warmed hpl hown (t := Bundle.initS cls) rfl rfl (Bundle.fit_spec hcls).2
    (a' (.methodLink own ic (Bundle.initS cls)) (by simp [Bundle.ownAtoms])) (h (.instanceMethod (Bundle.initS cls)) (by cases names <;> simp [Bundle.ownAtoms, Bundle.chainSAtoms, Bundle.passSAtoms])) (bytes := Bundle.six) (maxL := 2) (h (.code (Bundle.initS cls) Bundle.six 2 none) (by cases names <;> simp [Bundle.ownAtoms, Bundle.chainSAtoms, Bundle.passSAtoms]))
    (f := g) hg (a := a) (msg := msg) (rest := .ref a :: rest) hstack hd6
  cases Option.some.inj (hnC.symm.trans hP1m)
  have X₁ := X.noted hW₁
  obtain ⟨vm₂, X₂, st2⟩ := X₁.ctorMessageOffV hexec (g := { g with stack := .ref a :: rest }) hg hsize T L Z LZ M LM (P1 :: Ps)
    (fun P hP => by rcases List.mem_cons.mp hP with rfl | hP; exact L1; exact hL P hP) ⟨hlink1, hlink⟩ (u0 := u0) (sen := sen) (self := a) hmsg (cell := freshCell P1.m.cls kX) (cellS := cellS)
    hcell (fun _ => by simp) (by simp) rfl rfl hsel0 hselF hcellS hneS hknownS (by rw [hkeep _ (hout' _)]; exact hu0) (by rw [hkeep _ (hout' _)]; exact hsen)
    (Takes.of_laid hk hord tyC (by rw [Y.causeType]; rfl)) (Takes.of_laid hk hord tyS (by rw [Y.stackType]; exact fits_refV_array _ u0)) (Takes.of_laid hk hord tyP (by rw [Y.suppType]; exact fits_refV_object _ sen))
    (Takes.of_laid hk hord tyM (by rw [Y.msgType]; exact fits_refV_object _ ⟨msg, hmsg⟩)) Y.objLocals hskip htr [] hd6
    (by simp only [List.length_cons, hlen]; omega) (by simp only [List.length_cons, hlen]; exact hRlocals)
  have hlt : a < ((W.setVm vm₁).setVm vm₂).heap.size := (Array.getElem?_eq_some_iff.mp hcell).1
  refine ⟨(W.setVm vm₁).setVm vm₂, _, _, X₂, fun y hy => ?_, hlt, rfl, rfl, fun target hwalk => st1 _ (fun acts => ?_)⟩
  · simp only [List.mem_cons, List.not_mem_nil, or_false] at hy
    rcases hy with rfl | rfl | rfl | rfl | rfl <;> rfl
  · rw [doInvoke_state]
    exact st2 _ hwalk
set_option maxHeartbeats 1000000 in
theorem vx_ctorMade0 (X : Stand p l e R s m₀ args below meth c W locs cells slots) (hexec : p.tables.exec = Jvm.exec) (htr : e.platform.stackTraces = false) {own cls : String} {names : List String} {ic : Nat}
    (hown : s.vm.findClass own = some m₀.cls) (hcls : Bundle.fit cls = true) (hnames : ∀ n ∈ names, Bundle.fit n = true)
    (h : ∀ a ∈ Bundle.ownAtoms0 own ic cls names, a.before args s = true)
    (hlocs : ∀ x ∈ locs, ∀ cell, s.heap[x.base]? = some cell → cell.vm.isStatics = false)
    {a : Addr} {cX : ClassId} {kX : Class} (hfoundX : s.vm.findClass cls = some cX) (hkX : s.vm.classes[cX]? = some kX) (hcell : W.heap[a]? = some (freshCell cX kX)) (hnew : s.heap.size ≤ a)
    {g : JFrame} (hg : g.method = m₀) (hsize : g.locals.size = c.maxLocals) {rest : List Value} (hstack : g.stack = .ref a :: .ref a :: rest)
    (hd6 : decode c.code g.pc = .ok (.invokespecial ic, 3))
    (hRframes : names.length + 3 < R.frames) (hRlocals : 2 * g.monitorRoom + ((Value.ref a :: rest).map fun v => v.category).sum + (13 * (names.length + 1) + 41) ≤ R.locals) :
    ∃ (V : State) (ce : Cell) (L : List Loc), Stand p l e R s m₀ args below meth c (V.setCell a ce) (locs ++ L) cells slots ∧ (∀ y ∈ L, y.base = a) ∧ a < V.heap.size ∧ ce.cls = cX ∧ ce.vm = .none ∧
      ∀ target, Steps p.tables e below ((V.setCell a ce).setTop { g with stack := .ref a :: rest, pc := g.pc + 3 }) target → Steps p.tables e below (W.setTop g) target := by
  have howns : e.platform.frameOwnsMonitors = true := by rw [X.admits.platform]
  have hfin : e.platform.finalization = false := by rw [X.admits.platform]
  have hpl : e.platform.magicAccessors = ({} : Platform).magicAccessors := by rw [X.admits.platform]
  have a' : ∀ x, x ∈ Bundle.ownAtoms0 own ic cls names → x.holds args s none s [] = true := fun x hx => h x hx
  obtain ⟨T, Z, L, LZ, Y⟩ := ThrowableC.of_atoms (args := args) howns hfin hpl (fun x hx => h x (by simp [Bundle.ownAtoms0, hx]))
  obtain ⟨P1, Ps, hlen, L1, hL, hP1m, hlink1, hlink⟩ := Bundle.chain0 (args := args) hpl Y.init0 names cls hcls hnames (fun x hx => h x (by simp [Bundle.ownAtoms0, hx]))
  have hfound : s.vm.findClass cls = some P1.m.cls := findClass_of_methodNamed hP1m
  cases Option.some.inj (hfoundX.symm.trans hfound)
  obtain ⟨c1, kX', hc1, hk, hord, -, -, hn6⟩ := Cond.instantiable_spec (a' (.instantiable cls 6) (by simp [Bundle.ownAtoms0]))
  cases Option.some.inj (hc1.symm.trans hfound)
  cases Option.some.inj (hkX.symm.trans hk)
  have hsel0 : selectMethod e.platform s.vm P1.m.cls T.fill0 = .method T.fill0 := by
    obtain ⟨c2, r2, m2, q1, q2, q3, q4, -⟩ := Cond.selects_spec (a' (.selects cls Bundle.tFill0 Bundle.tFill0) (by simp [Bundle.ownAtoms0]))
    cases Option.some.inj (q1.symm.trans hfound)
    cases Option.some.inj (q2.symm.trans (State.methodFound?_of_named Y.fill0 (by decide)))
    cases Option.some.inj (q3.symm.trans Y.fill0)
    rw [Launch.admits_selectMethod X.admits]; exact q4
  have hselF : selectMethod e.platform s.vm P1.m.cls T.fill = .method T.fill := by
    obtain ⟨c2, r2, m2, q1, q2, q3, q4, -⟩ := Cond.selects_spec (a' (.selects cls Bundle.tFill Bundle.tFill) (by simp [Bundle.ownAtoms0]))
    cases Option.some.inj (q1.symm.trans hfound)
    cases Option.some.inj (q2.symm.trans (State.methodFound?_of_named Y.fill (by decide)))
    cases Option.some.inj (q3.symm.trans Y.fill)
    rw [Launch.admits_selectMethod X.admits]; exact q4
  obtain ⟨cellS0, hcS0, hiss⟩ := Y.statics
  obtain ⟨u0, hu0⟩ := Cond.staticRefV Y.unassigned L.unassignedStatic L.statics hcS0 hiss (a' (.isRef (.static Bundle.tN "UNASSIGNED_STACK" Bundle.steD)) (by simp [Bundle.ownAtoms0]))
  obtain ⟨sen, hsen⟩ := Cond.staticRefV Y.sentinel L.sentinelStatic L.statics hcS0 hiss (a' (.isRef (.static Bundle.tN "SUPPRESSED_SENTINEL" Bundle.listD)) (by simp [Bundle.ownAtoms0]))
  obtain ⟨ci198, i198, fB, hk198, hg198, ha198, hsB, -, hnB, htB, hffB⟩ := Cond.ownField (t := .object "java/lang/Object") Y.found L.cls (by decide +kernel) (a' (.fieldLink Bundle.tN 198 Bundle.tN "backtrace" "Ljava/lang/Object;") (by simp [Bundle.ownAtoms0])) (a' (.lays Bundle.tN Bundle.tN "backtrace" "Ljava/lang/Object;") (by simp [Bundle.ownAtoms0])) e.platform hpl
  obtain ⟨cellS, hcS', heS, -, hkeep⟩ := X.same.2.2.2.2.2 T.aS cellS0 hcS0
  have hcellS : W.heap[T.aS]? = some cellS := hcS'
  have hout' : ∀ i, (⟨T.aS, i⟩ : Loc) ∉ locs := fun i hmem => by
    have := hlocs _ hmem cellS0 hcS0
    rw [hiss] at this; cases this
  have hknownS : cellS.vm ≠ .unknown := by
    rw [heS]; intro hu
    rw [show cellS0.vm = .unknown from hu] at hiss
    cases hiss
  have hneS : T.aS ≠ a := Nat.ne_of_lt (Nat.lt_of_lt_of_le (Array.getElem?_eq_some_iff.mp hcS0).1 hnew)
  obtain ⟨iM, hffM⟩ := Y.msg
  obtain ⟨tyC, dC, hdC, hdnC⟩ := Cond.laysAt hfound hk Y.cause (a' (.lays cls Bundle.tN "cause" "Ljava/lang/Throwable;") (by simp [Bundle.ownAtoms0]))
  obtain ⟨tyS, dS, hdS, hdnS⟩ := Cond.laysAt hfound hk Y.stack (a' (.lays cls Bundle.tN "stackTrace" Bundle.steD) (by simp [Bundle.ownAtoms0]))
  obtain ⟨tyP, dP, hdP, hdnP⟩ := Cond.laysAt hfound hk Y.supp (a' (.lays cls Bundle.tN "suppressedExceptions" Bundle.listD) (by simp [Bundle.ownAtoms0]))
  obtain ⟨tyM, dM, hdM, hdnM⟩ := Cond.laysAt hfound hk hffM (a' (.lays cls Bundle.tN "detailMessage" "Ljava/lang/String;") (by simp [Bundle.ownAtoms0]))
  obtain ⟨tyB, dB, hdB, hdnB⟩ := Cond.laysAt hfound hk hffB (a' (.lays cls Bundle.tN "backtrace" "Ljava/lang/Object;") (by simp [Bundle.ownAtoms0]))
  have bC := Cond.laysApart hdB hdC hdnB hdnC (by rw [hnB, Y.causeName]; decide)
  have bS := Cond.laysApart hdB hdS hdnB hdnS (by rw [hnB, Y.stackName]; decide)
  have bP := Cond.laysApart hdB hdP hdnB hdnP (by rw [hnB, Y.suppName]; decide)
  have hskip : SkipFacts T e.platform s (fun u => u) u0 ((preparedCellV T.toThrowableT (freshCell P1.m.cls kX) a u0 sen).withEntry W.cur) :=
    ⟨{ ci198 := ci198, i198 := i198, fBack := fB }, ⟨hk198, hg198, ha198, hsB⟩, by
      have := fresh_default (c := P1.m.cls) tyB
      rw [htB] at this
      simpa [preparedCellV, Cell.setSlot, Cell.withEntry, Array.getElem?_setIfInBounds, bC, bS, bP, bC.symm, bS.symm, bP.symm, defaultValue] using this, fun _ _ => rfl⟩
  obtain ⟨tm, methC, cdC, kC, vm₁, hnC, -, -, -, -, -, -, -, hW₁, st1⟩ := Steps.initCold (tb := p.tables) (e := e) (below := below) (s := s) (U := W) X.here hexec X.warmed hpl hown (t := Bundle.init0 cls) rfl rfl (Bundle.fit_spec hcls).2
    (a' (.methodLink own ic (Bundle.init0 cls)) (by simp [Bundle.ownAtoms0])) (h (.instanceMethod (Bundle.init0 cls)) (by cases names <;> simp [Bundle.ownAtoms0, Bundle.chain0Atoms, Bundle.passAtoms])) (bytes := Bundle.five) (maxL := 1) (h (.code (Bundle.init0 cls) Bundle.five 1 none) (by cases names <;> simp [Bundle.ownAtoms0, Bundle.chain0Atoms, Bundle.passAtoms]))
    (f := g) hg (a := a) (rest := .ref a :: rest) hstack hd6
  cases Option.some.inj (hnC.symm.trans hP1m)
  have X₁ := X.noted hW₁
  obtain ⟨vm₂, X₂, st2⟩ := X₁.ctorPlainOffV hexec (g := { g with stack := .ref a :: rest }) hg hsize T L Z LZ (P1 :: Ps)
    (fun P hP => by rcases List.mem_cons.mp hP with rfl | hP; exact L1; exact hL P hP) ⟨hlink1, hlink⟩ (u0 := u0) (sen := sen) (self := a) (cell := freshCell P1.m.cls kX) (cellS := cellS)
    hcell (fun _ => by simp) (by simp) rfl rfl hsel0 hselF hcellS hneS hknownS (by rw [hkeep _ (hout' _)]; exact hu0) (by rw [hkeep _ (hout' _)]; exact hsen)
    (Takes.of_laid hk hord tyC (by rw [Y.causeType]; rfl)) (Takes.of_laid hk hord tyS (by rw [Y.stackType]; exact fits_refV_array _ u0)) (Takes.of_laid hk hord tyP (by rw [Y.suppType]; exact fits_refV_object _ sen)) Y.objLocals hskip htr [] hd6
    (by simp only [List.length_cons, hlen]; omega) (by simp only [List.length_cons, hlen]; exact hRlocals)
  have hlt : a < ((W.setVm vm₁).setVm vm₂).heap.size := (Array.getElem?_eq_some_iff.mp hcell).1
  refine ⟨(W.setVm vm₁).setVm vm₂, _, _, X₂, fun y hy => ?_, hlt, rfl, rfl, fun target hwalk => st1 _ (fun acts => ?_)⟩
  · simp only [List.mem_cons, List.not_mem_nil, or_false] at hy
    rcases hy with rfl | rfl | rfl | rfl <;> rfl
  · rw [doInvoke_state]
    exact st2 _ hwalk
end VXK
section VXK2
variable {p : Program} {l : Launch} {e : Env} {R : Room} {s : State} {m : MethodId} {args : Array Value} {below : List Frame} {meth : Method} {c : Code} {H : Heap} {locs : List Loc} {cells slots : Nat} {Q : State → Prop}
variable {ls : Array Slot} {rest : List Value} {D : va_G} {cl : List vw_C} {tys : List (ClassId × FieldType)} {ws : va_W}
/-- 'new E("text")' that isn't thrown at once: the object goes on the stack -/
theorem vx_makeS {cc : ByteArray} {pc : Nat} (hexec : p.tables.exec = Jvm.exec) (hb : c.code = cc) (hl : l.stackTraces = false) {own cls text : String} {names : List String} {ik is ic sa ci : Nat} {A : Nat → Prop} {T0 : u_T}
    (hown : s.vm.findClass own = some m.cls) (hcls : Bundle.fit cls = true) (hnames : ∀ n ∈ names, Bundle.fit n = true)
    (hk : (Cond.classLink own ik cls).before args s = true) (hini : (Cond.initialized cls).before args s = true) (hstr : vk_R own is text sa s) (hat : ∀ w ∈ vx_atS own ic cls names, w.before args s = true)
    (hgood : ∀ w ∈ Cond.classLink own ik cls :: Cond.initialized cls :: vx_atS own ic cls names, vx_ot w = true)
    (hU : vx_Zq Bundle.tN "UNASSIGNED_STACK" Bundle.steD A s s.heap) (hN : vx_Zq Bundle.tN "SUPPRESSED_SENTINEL" Bundle.listD A s s.heap) (hS : va_S A s.heap H locs) (hsize : ls.size = c.maxLocals)
    (d0 : decode cc pc = .ok (.new ik, 3)) (d3 : decode cc (pc + 3) = .ok (.dup, 1)) (d4 : decode cc (pc + 4) = .ok (.ldc is, 2)) (d6 : decode cc (pc + 6) = .ok (.invokespecial ic, 3))
    (hK : va_K D cl tys s) (hP : va_P D cl ws H) (hD : va_D A ws) (hA : ∀ q, s.heap.size ≤ q → A q) (hc : cl[ci]? = some (cls, T0, 0))
    (hRframes : names.length + 3 < R.frames) (hRlocals : (rest.map fun v => v.category).sum + (13 * (names.length + 1) + 43) ≤ R.locals) (hRcells : cells + 1 ≤ R.cells) (hRslots : slots + 6 ≤ R.slots)
    (kk : ∀ (q : Nat) (H1 : Heap), va_P D cl (ws ++ [(q, .inr (ci, []))]) H1 → va_D A (ws ++ [(q, .inr (ci, []))]) → va_S A s.heap H1 locs → W p l e R s m args below meth c H1 locs (cells + 1) (slots + 6) Q (F0 m (pc + 9) ls (.ref q :: rest))) :
    W p l e R s m args below meth c H locs cells slots Q (F0 m pc ls rest) := by
  intro T hT X
  subst hT
  have htr : e.platform.stackTraces = false := (show e.platform.stackTraces = l.stackTraces by rw [X.admits.platform]).trans hl
  have Y := vx_rebase X (R' := { frames := R.frames, locals := R.locals, cells := 1, slots := 6 }) (Nat.le_refl _) (Nat.le_refl _) hRcells hRslots
  obtain ⟨s', hA'⟩ : ∃ z, z = (T.setVm s.vm).setFrames (.invoking m args :: below) := ⟨_, rfl⟩
  rw [← hA'] at Y
  have hvm : s'.vm = s.vm := by rw [hA']; rfl
  have hhp : s'.heap = T.heap := by rw [hA']; rfl
  have hW0 : s.WarmedH s'.vm := by rw [hvm]; exact State.WarmedH.refl s
  have hat' : ∀ w ∈ vx_atS own ic cls names, w.before args s' = true := fun w hw => vx_ot_at hW0 hvm.symm (hgood w (List.mem_cons_of_mem _ (List.mem_cons_of_mem _ hw))) (hat w hw)
  have hk' : (Cond.classLink own ik cls).before args s' = true := vx_ot_at hW0 hvm.symm (hgood _ List.mem_cons_self) hk
  have hini' : (Cond.initialized cls).before args s' = true := vx_ot_at hW0 hvm.symm (hgood _ (List.mem_cons_of_mem _ List.mem_cons_self)) hini
  have hU' : vx_Zq Bundle.tN "UNASSIGNED_STACK" Bundle.steD A s' s'.heap := by rw [hhp]; exact vx_Zq.moved hW0.alike (hU.kept hS.2.1)
  have hN' : vx_Zq Bundle.tN "SUPPRESSED_SENTINEL" Bundle.listD A s' s'.heap := by rw [hhp]; exact vx_Zq.moved hW0.alike (hN.kept hS.2.1)
  have h : ∀ w ∈ Bundle.ownAtoms own ic cls names, w.before args s' = true := vx_own hat' (vx_isRefq hU'.1) (vx_isRefq hN'.1) hU'.2.word hN'.2.word
  have hown' : s'.vm.findClass own = some m.cls := by rw [hvm]; exact hown
  have hins : (Cond.instantiable cls 6).before args s' = true := h _ (by simp [Bundle.ownAtoms])
  obtain ⟨vm₁, cX, kX, hfX, hkX, -, -, X₁, st1⟩ := Y.newCold hexec (own := own) (C := cls) (index := ik) (n := 6) hown' hk' hins hini'
    (g := F0 m pc ls rest) rfl (by rw [hb]; exact d0) (Nat.le_refl _) (Nat.le_refl _)
  generalize hT1 : (T.setVm vm₁).pushCell { cls := cX, slots := kX.instanceTypes.map defaultValue, vm := .none } = T1 at X₁ st1
  have hcat : (Value.ref T.heap.size).category = 1 := rfl
  have hcellA : T1.heap[T.heap.size]? = some (freshCell cX kX) := by rw [← hT1]; exact State.heap_pushCell_size _ _
  have d3' : decode c.code (pc + 3) = .ok (.dup, 1) := by rw [hb]; exact d3
  have d4' : decode c.code (pc + 4) = .ok (.ldc is, 2) := by rw [hb]; exact d4
  have hstr' : vk_R own is text sa s' := vk_R.warm hW0 hstr
  obtain ⟨V, ce, L, Z, hL, hlt, hcl9, hvm9, st⟩ := vx_ctorMadeS X₁ hexec htr (own := own) (cls := cls) (names := names) (ic := ic) hown' hcls hnames h (fun x hx => nomatch hx) hfX hkX hcellA (by rw [hhp]; exact Nat.le_refl _) (msg := .ref sa) rfl
    (g := { method := m, pc := pc + 6, locals := ls, stack := .ref sa :: .ref T.heap.size :: .ref T.heap.size :: rest, locked := none }) rfl hsize (rest := rest) rfl
    (by rw [hb]; exact d6) hRframes (by simp only [List.map_cons, List.sum_cons, hcat]; omega)
  have Z0 := Stand.forget (locs := []) Z (fun y hy => by rw [hL y hy, hhp]; exact Nat.le_refl _)
  obtain ⟨f1, f2⟩ := vx_frame Z0.same
  rw [hhp] at f1 f2
  have hcid : ce.cls = D.1 ci := by
    rw [hcl9]
    have h1 := (hK.1 ci _ hc).2.1
    rw [hvm] at hfX
    exact Option.some.inj (hfX.symm.trans h1)
  have hh : (V.setCell T.heap.size ce).heap[T.heap.size]? = some ce := heapAt_setCell_self (s := V) ce hlt
  subst hA'
  have X5 := vx_back9 X Y Z0
  have X6 : Stand p l e R s m args below meth c (V.setCell T.heap.size ce) locs (cells + 1) (slots + 6) := { X5 with same := X5.same.mono (by omega) (by omega) }
  have hk9 : ∀ (k : Nat) (x : Nat × va_E), ws[k]? = some x → (V.setCell T.heap.size ce).heap[x.1]? = T.heap[x.1]? := fun k x hx => f2 x.1 ((hP k x hx).lt) (fun z hz => nomatch hz)
  obtain ⟨t, a1, b1⟩ := kk T.heap.size (V.setCell T.heap.size ce).heap ((hP.kept hk9).app (fun k x hx => by
      have hz : k < 1 := (List.getElem?_eq_some_iff.mp hx).1
      rw [show k = 0 by omega] at hx
      cases hx
      exact ⟨_, hc, ce, hh, hcid, hvm9, fun k hk => absurd hk (Nat.not_lt_zero k)⟩)) (hD.push hP rfl (hA _ hS.1)) ⟨Nat.le_trans hS.1 f1, fun q h1 h2 => (f2 q (Nat.lt_of_lt_of_le h1 hS.1) (fun z hz => nomatch hz)).trans (hS.2.1 q h1 h2), hS.2.2⟩ _ rfl X6
  refine ⟨t, st1 _ ?_, b1⟩
  show Steps p.tables e below (T1.setTop { method := m, pc := pc + 3, locals := ls, stack := .ref T.heap.size :: rest, locked := none }) _
  jvm_step X₁.here [X₁.here.top, hexec, d3', Value.category]
  exact X₁.ldcString hexec (own := own) (text := text) (index := is) (a := sa) hown' hstr'.1 hstr'.2
    (g := { method := m, pc := pc + 4, locals := ls, stack := .ref T.heap.size :: .ref T.heap.size :: rest, locked := none }) rfl d4' _ (st _ a1)
/-- 'new E()' that isn't thrown at once: the object goes on the stack -/
theorem vx_make0 {cc : ByteArray} {pc : Nat} (hexec : p.tables.exec = Jvm.exec) (hb : c.code = cc) (hl : l.stackTraces = false) {own cls : String} {names : List String} {ik ic ci : Nat} {A : Nat → Prop} {T0 : u_T}
    (hown : s.vm.findClass own = some m.cls) (hcls : Bundle.fit cls = true) (hnames : ∀ n ∈ names, Bundle.fit n = true)
    (hk : (Cond.classLink own ik cls).before args s = true) (hini : (Cond.initialized cls).before args s = true) (hat : ∀ w ∈ vx_at0 own ic cls names, w.before args s = true)
    (hgood : ∀ w ∈ Cond.classLink own ik cls :: Cond.initialized cls :: vx_at0 own ic cls names, vx_ot w = true)
    (hU : vx_Zq Bundle.tN "UNASSIGNED_STACK" Bundle.steD A s s.heap) (hN : vx_Zq Bundle.tN "SUPPRESSED_SENTINEL" Bundle.listD A s s.heap) (hS : va_S A s.heap H locs) (hsize : ls.size = c.maxLocals)
    (d0 : decode cc pc = .ok (.new ik, 3)) (d3 : decode cc (pc + 3) = .ok (.dup, 1)) (d4 : decode cc (pc + 4) = .ok (.invokespecial ic, 3))
    (hK : va_K D cl tys s) (hP : va_P D cl ws H) (hD : va_D A ws) (hA : ∀ q, s.heap.size ≤ q → A q) (hc : cl[ci]? = some (cls, T0, 0))
    (hRframes : names.length + 3 < R.frames) (hRlocals : (rest.map fun v => v.category).sum + (13 * (names.length + 1) + 42) ≤ R.locals) (hRcells : cells + 1 ≤ R.cells) (hRslots : slots + 6 ≤ R.slots)
    (kk : ∀ (q : Nat) (H1 : Heap), va_P D cl (ws ++ [(q, .inr (ci, []))]) H1 → va_D A (ws ++ [(q, .inr (ci, []))]) → va_S A s.heap H1 locs → W p l e R s m args below meth c H1 locs (cells + 1) (slots + 6) Q (F0 m (pc + 7) ls (.ref q :: rest))) :
    W p l e R s m args below meth c H locs cells slots Q (F0 m pc ls rest) := by
  intro T hT X
  subst hT
  have htr : e.platform.stackTraces = false := (show e.platform.stackTraces = l.stackTraces by rw [X.admits.platform]).trans hl
  have Y := vx_rebase X (R' := { frames := R.frames, locals := R.locals, cells := 1, slots := 6 }) (Nat.le_refl _) (Nat.le_refl _) hRcells hRslots
  obtain ⟨s', hA'⟩ : ∃ z, z = (T.setVm s.vm).setFrames (.invoking m args :: below) := ⟨_, rfl⟩
  rw [← hA'] at Y
  have hvm : s'.vm = s.vm := by rw [hA']; rfl
  have hhp : s'.heap = T.heap := by rw [hA']; rfl
  have hW0 : s.WarmedH s'.vm := by rw [hvm]; exact State.WarmedH.refl s
  have hat' : ∀ w ∈ vx_at0 own ic cls names, w.before args s' = true := fun w hw => vx_ot_at hW0 hvm.symm (hgood w (List.mem_cons_of_mem _ (List.mem_cons_of_mem _ hw))) (hat w hw)
  have hk' : (Cond.classLink own ik cls).before args s' = true := vx_ot_at hW0 hvm.symm (hgood _ List.mem_cons_self) hk
  have hini' : (Cond.initialized cls).before args s' = true := vx_ot_at hW0 hvm.symm (hgood _ (List.mem_cons_of_mem _ List.mem_cons_self)) hini
  have hU' : vx_Zq Bundle.tN "UNASSIGNED_STACK" Bundle.steD A s' s'.heap := by rw [hhp]; exact vx_Zq.moved hW0.alike (hU.kept hS.2.1)
  have hN' : vx_Zq Bundle.tN "SUPPRESSED_SENTINEL" Bundle.listD A s' s'.heap := by rw [hhp]; exact vx_Zq.moved hW0.alike (hN.kept hS.2.1)
  have h : ∀ w ∈ Bundle.ownAtoms0 own ic cls names, w.before args s' = true := vx_own hat' (vx_isRefq hU'.1) (vx_isRefq hN'.1) hU'.2.word hN'.2.word
  have hown' : s'.vm.findClass own = some m.cls := by rw [hvm]; exact hown
  have hins : (Cond.instantiable cls 6).before args s' = true := h _ (by simp [Bundle.ownAtoms0])
  obtain ⟨vm₁, cX, kX, hfX, hkX, -, -, X₁, st1⟩ := Y.newCold hexec (own := own) (C := cls) (index := ik) (n := 6) hown' hk' hins hini'
    (g := F0 m pc ls rest) rfl (by rw [hb]; exact d0) (Nat.le_refl _) (Nat.le_refl _)
  generalize hT1 : (T.setVm vm₁).pushCell { cls := cX, slots := kX.instanceTypes.map defaultValue, vm := .none } = T1 at X₁ st1
  have hcat : (Value.ref T.heap.size).category = 1 := rfl
  have hcellA : T1.heap[T.heap.size]? = some (freshCell cX kX) := by rw [← hT1]; exact State.heap_pushCell_size _ _
  have d3' : decode c.code (pc + 3) = .ok (.dup, 1) := by rw [hb]; exact d3
  obtain ⟨V, ce, L, Z, hL, hlt, hcl9, hvm9, st⟩ := vx_ctorMade0 X₁ hexec htr (own := own) (cls := cls) (names := names) (ic := ic) hown' hcls hnames h (fun x hx => nomatch hx) hfX hkX hcellA (by rw [hhp]; exact Nat.le_refl _)
    (g := { method := m, pc := pc + 4, locals := ls, stack := .ref T.heap.size :: .ref T.heap.size :: rest, locked := none }) rfl hsize (rest := rest) rfl
    (by rw [hb]; exact d4) hRframes (by simp only [List.map_cons, List.sum_cons, hcat]; omega)
  have Z0 := Stand.forget (locs := []) Z (fun y hy => by rw [hL y hy, hhp]; exact Nat.le_refl _)
  obtain ⟨f1, f2⟩ := vx_frame Z0.same
  rw [hhp] at f1 f2
  have hcid : ce.cls = D.1 ci := by
    rw [hcl9]
    have h1 := (hK.1 ci _ hc).2.1
    rw [hvm] at hfX
    exact Option.some.inj (hfX.symm.trans h1)
  have hh : (V.setCell T.heap.size ce).heap[T.heap.size]? = some ce := heapAt_setCell_self (s := V) ce hlt
  subst hA'
  have X5 := vx_back9 X Y Z0
  have X6 : Stand p l e R s m args below meth c (V.setCell T.heap.size ce) locs (cells + 1) (slots + 6) := { X5 with same := X5.same.mono (by omega) (by omega) }
  have hk9 : ∀ (k : Nat) (x : Nat × va_E), ws[k]? = some x → (V.setCell T.heap.size ce).heap[x.1]? = T.heap[x.1]? := fun k x hx => f2 x.1 ((hP k x hx).lt) (fun z hz => nomatch hz)
  obtain ⟨t, a1, b1⟩ := kk T.heap.size (V.setCell T.heap.size ce).heap ((hP.kept hk9).app (fun k x hx => by
      have hz : k < 1 := (List.getElem?_eq_some_iff.mp hx).1
      rw [show k = 0 by omega] at hx
      cases hx
      exact ⟨_, hc, ce, hh, hcid, hvm9, fun k hk => absurd hk (Nat.not_lt_zero k)⟩)) (hD.push hP rfl (hA _ hS.1)) ⟨Nat.le_trans hS.1 f1, fun q h1 h2 => (f2 q (Nat.lt_of_lt_of_le h1 hS.1) (fun z hz => nomatch hz)).trans (hS.2.1 q h1 h2), hS.2.2⟩ _ rfl X6
  refine ⟨t, st1 _ ?_, b1⟩
  show Steps p.tables e below (T1.setTop { method := m, pc := pc + 3, locals := ls, stack := .ref T.heap.size :: rest, locked := none }) _
  jvm_step X₁.here [X₁.here.top, hexec, d3', Value.category]
  exact st _ a1
/-- 'throw x' of an object that was made before -/
theorem vx_athrow {cc : ByteArray} {pc : Nat} (hexec : p.tables.exec = Jvm.exec) (hb : c.code = cc) {q : Addr} (hdg : decode cc pc = .ok (.athrow, 1)) (k : vx_W p l e R s m args below meth c H locs cells slots Q (F0 m pc ls rest) q) : W p l e R s m args below meth c H locs cells slots Q (F0 m pc ls (.ref q :: rest)) := by
  intro T hT X
  obtain ⟨t, st, hq⟩ := k T hT X
  refine ⟨t, ?_, hq⟩
  have hdg' : decode c.code pc = .ok (.athrow, 1) := by rw [hb]; exact hdg
  jvm_step X.here [X.here.top, hexec, hdg', athrow.wp_sem]
  exact st
end VXK2
/-! ===== END ===== -/
/-! ===== BEGIN a constructor that throws (launches without stack traces) ===== -/
section VXIA
variable {p : Program} {l : Launch} {e : Env} {R : Room} {s : State} {m : MethodId} {args : Array Value} {below : List Frame} {meth : Method} {c : Code} {T : State} {locs : List Loc} {cells slots : Nat}
theorem vx_callI (X : Stand p l e R s m args below meth c T locs cells slots) (hexec : p.tables.exec = Jvm.exec) {own : String} {index : Nat} {y : MethodName} {bytes : ByteArray} {maxL : Nat}
    (hown : s.vm.findClass own = some m.cls) (hy1 : y.name = "<init>") (hlink : (Cond.methodLink own index y).before args s = true) (hinst : (Cond.instanceMethod y).before args s = true)
    (hcode : (Cond.code y bytes maxL none).before args s = true) (hy : y.cls ≠ "java/lang/invoke/MethodHandle" ∧ y.cls ≠ "java/lang/invoke/VarHandle")
    {W9 : Nat} {Pre : Pt → Array Value → Prop} {Post : Pt → Array Value → Option Value → Pt → Prop} {PostX : Pt → Array Value → Addr → Pt → Prop} (hK : vx_Back l R p e below s args y 3 W9 Pre Post PostX)
    {g : JFrame} (hg : g.method = m) (hsize : g.locals.size = c.maxLocals) {a : Addr} {argsL rest : List Value} (hlen : ∀ sig, parseMethodDescriptor y.desc = some sig → argsL.length = sig.parameters.length)
    (hstack : g.stack = argsL.reverse ++ .ref a :: rest) (hW : 2 * g.monitorRoom + (rest.map fun v => v.category).sum ≤ W9) (hdg : decode c.code g.pc = .ok (.invokespecial index, 3))
    (hpre : ∀ vm₁, s.WarmedH vm₁ → Pre ⟨T.setVm vm₁, locs, cells, slots⟩ (Value.ref a :: argsL).toArray) :
    (∃ (v : Option Value) (vm₁ : Vm) (B : Pt), s.WarmedH vm₁ ∧ Stand p l e R s m args below meth c B.U B.locs B.cells B.slots ∧ Post ⟨T.setVm vm₁, locs, cells, slots⟩ (Value.ref a :: argsL).toArray v B ∧
      ∀ target, Steps p.tables e below (B.U.setTop { g with pc := g.pc + 3, stack := v.toList ++ rest }) target → Steps p.tables e below (T.setTop g) target) ∨
    (∃ (q : Addr) (vm₁ : Vm) (B : Pt), s.WarmedH vm₁ ∧ Stand p l e R s m args below meth c B.U B.locs B.cells B.slots ∧ PostX ⟨T.setVm vm₁, locs, cells, slots⟩ (Value.ref a :: argsL).toArray q B ∧
      Steps p.tables e below (T.setTop g) ((B.U.setTop { g with stack := rest }).pushFrame (.throwing q))) := by
  subst hg
  have hpl : e.platform.magicAccessors = ({} : Platform).magicAccessors := by rw [X.admits.platform]
  obtain ⟨mk, methM, cM, kP, vm₁, hnamed, hmethM, hcodeM, -, hlocalsM, -, hkP, -, hW₁, hstep₁⟩ := Steps.initColdArgs (e := e) X.here hexec X.warmed hpl hown hy1 hy hlink hinst hcode (f := g) rfl hlen hstack hdg
  have X₁ := X.noted hW₁
  rcases hK g.method meth c ⟨T.setVm vm₁, locs, cells, slots⟩ { g with stack := rest } (.invokespecial index) mk (Value.ref a :: argsL).toArray X₁ rfl hsize hdg hW (X₁.named hnamed) (hpre vm₁ X₁.warmed) with ⟨v, B, X', hpost, hsteps⟩ | ⟨q, B, X', hpost, hsteps⟩
  · exact Or.inl ⟨v, vm₁, B, X₁.warmed, X', hpost, fun target h => hstep₁ _ fun acts => by rw [doInvoke_state]; exact hsteps.trans h⟩
  · exact Or.inr ⟨q, vm₁, B, X₁.warmed, X', hpost, hstep₁ _ fun acts => by rw [doInvoke_state]; exact hsteps⟩
end VXIA
section VXIB
variable {p : Program} {l : Launch} {e : Env} {R : Room} {s : State} {m : MethodId} {args : Array Value} {below : List Frame} {meth : Method} {c : Code} {H : Heap} {locs : List Loc} {cells slots : Nat}
variable {y : MethodName} {bytes cc : ByteArray} {maxL nL mc ms n index : Nat} {ret : Option FieldType} {ws : List Cond} {rm : Room} {Pc : Array Value → State → Prop} {Qc : Array Value → State → Outcome → State → Prop} {XC : String → State → State → Prop} {free : Addr → Prop} {Ts : List Cond} {own C : String} {b : Addr} {As rest : List Value} {g : JFrame}
theorem vx_runI (S : CallFix p m c cc nL s args Ts own) (hM : vx_Met l y ws rm Pc Qc XC mc ms free) (cw : CallB R s args own index y bytes maxL none ws rm mc ms n ∧ y.name = "<init>" ∧ (Cond.instanceMethod y).before args s = true) (hp : PreS s H Pc (.ref b :: As))
    (hg : g.method = m) (hn : As.length = n) (hsize : g.locals.size = nL) (hstack : g.stack = As.reverse ++ .ref b :: rest) (hW : 2 * g.monitorRoom + (rest.map fun v => v.category).sum ≤ 8) (hdg : decode cc g.pc = .ok (.invokespecial index, 3)) (hf : cells + mc ≤ R.cells ∧ slots + ms ≤ R.slots) :
    vx_Run p l e R s m args below meth c H locs cells slots mc ms g rest (Qc (Value.ref b :: As).toArray) XC free := by
  have hK : vx_Back l R p e below s args y 3 8 (PreOf R mc ms Pc) (PostOf Qc mc ms free) (vx_Post XC mc ms free) := vx_callBack cw.1 hM hp.1
  obtain ⟨⟨-, -, -, -, -, -, hcode, -, hy, hlen, hl⟩, hy1, hin⟩ := cw
  obtain ⟨hx, hb, hml, ho, -⟩ := S
  have hPc := hp.2
  intro T hT X
  rcases vx_callI X hx (bytes := bytes) (maxL := maxL) ho hy1 hl hin hcode hy hK hg (hsize.trans hml.symm) (a := b) (argsL := As) (rest := rest) (fun sig h => hn.trans (hlen sig h)) hstack hW (by rw [hb]; exact hdg)
    (fun vm₁ hW₁ => ⟨hf.1, hf.2, hPc (T.setVm vm₁) hT hW₁⟩) with ⟨v, vm₁, ⟨U', l2, c2, s2⟩, hW₁, X', ⟨g', mk, t, L, e1, e2, hq, h1, hL, h2, h3⟩, st⟩ | ⟨q, vm₁, ⟨U', l2, c2, s2⟩, hW₁, X', ⟨g', mk, t, L, E, ce, e1, e2, hq, hce, hcv, hcl, h1, hL, h2, h3⟩, st⟩
  · dsimp only [Pt.U, Pt.locs, Pt.cells, Pt.slots] at X' e1 e2 h1 h2 h3 st
    subst h1; subst h2; subst h3
    exact Or.inl ⟨v, (T.setVm vm₁).calling g' mk (Value.ref b :: As).toArray, t, U', L, hT, X', hL, e1, e2, hq, st⟩
  · dsimp only [Pt.U, Pt.locs, Pt.cells, Pt.slots] at X' e1 e2 h1 h2 h3 st hcl
    subst h1; subst h2; subst h3
    exact Or.inr ⟨q, (T.setVm vm₁).calling g' mk (Value.ref b :: As).toArray, t, U', L, E, ce, hT, X', hL, e1, e2, hq, hce, hcv, vx_cls hW₁ hcl, st⟩
end VXIB
/-! ===== END ===== -/
/-! ===== BEGIN a private constructor of a nest mate that throws ===== -/
section VXIC
variable {p : Program} {l : Launch} {e : Env} {R : Room} {s : State} {m : MethodId} {args : Array Value} {below : List Frame} {meth : Method} {c : Code} {T : State} {locs : List Loc} {cells slots : Nat}
theorem vx_callIN (X : Stand p l e R s m args below meth c T locs cells slots) (hexec : p.tables.exec = Jvm.exec) {own : String} {index : Nat} {host : String} {y : MethodName} {bytes : ByteArray} {maxL : Nat}
    (hown : s.vm.findClass own = some m.cls) (hy1 : y.name = "<init>") (hlink : (Cond.methodLinkNest own index y host).before args s = true) (hinst : (Cond.instanceMethod y).before args s = true)
    (hcode : (Cond.code y bytes maxL none).before args s = true) (hy : y.cls ≠ "java/lang/invoke/MethodHandle" ∧ y.cls ≠ "java/lang/invoke/VarHandle")
    {W9 : Nat} {Pre : Pt → Array Value → Prop} {Post : Pt → Array Value → Option Value → Pt → Prop} {PostX : Pt → Array Value → Addr → Pt → Prop} (hK : vx_Back l R p e below s args y 3 W9 Pre Post PostX)
    {g : JFrame} (hg : g.method = m) (hsize : g.locals.size = c.maxLocals) {a : Addr} {argsL rest : List Value} (hlen : ∀ sig, parseMethodDescriptor y.desc = some sig → argsL.length = sig.parameters.length)
    (hstack : g.stack = argsL.reverse ++ .ref a :: rest) (hW : 2 * g.monitorRoom + (rest.map fun v => v.category).sum ≤ W9) (hdg : decode c.code g.pc = .ok (.invokespecial index, 3))
    (hpre : ∀ vm₁, s.WarmedH vm₁ → Pre ⟨T.setVm vm₁, locs, cells, slots⟩ (Value.ref a :: argsL).toArray) :
    (∃ (v : Option Value) (vm₁ : Vm) (B : Pt), s.WarmedH vm₁ ∧ Stand p l e R s m args below meth c B.U B.locs B.cells B.slots ∧ Post ⟨T.setVm vm₁, locs, cells, slots⟩ (Value.ref a :: argsL).toArray v B ∧
      ∀ target, Steps p.tables e below (B.U.setTop { g with pc := g.pc + 3, stack := v.toList ++ rest }) target → Steps p.tables e below (T.setTop g) target) ∨
    (∃ (q : Addr) (vm₁ : Vm) (B : Pt), s.WarmedH vm₁ ∧ Stand p l e R s m args below meth c B.U B.locs B.cells B.slots ∧ PostX ⟨T.setVm vm₁, locs, cells, slots⟩ (Value.ref a :: argsL).toArray q B ∧
      Steps p.tables e below (T.setTop g) ((B.U.setTop { g with stack := rest }).pushFrame (.throwing q))) := by
  subst hg
  have hpl : e.platform.magicAccessors = ({} : Platform).magicAccessors := by rw [X.admits.platform]
  obtain ⟨mk, methM, cM, kP, vm₁, hnamed, hmethM, hcodeM, -, hlocalsM, -, hkP, -, hW₁, hstep₁⟩ := Steps.initColdArgsNest (e := e) X.here hexec X.warmed hpl hown hy1 hy hlink hinst hcode (f := g) rfl hlen hstack hdg
  have X₁ := X.noted hW₁
  rcases hK g.method meth c ⟨T.setVm vm₁, locs, cells, slots⟩ { g with stack := rest } (.invokespecial index) mk (Value.ref a :: argsL).toArray X₁ rfl hsize hdg hW (X₁.named hnamed) (hpre vm₁ X₁.warmed) with ⟨v, B, X', hpost, hsteps⟩ | ⟨q, B, X', hpost, hsteps⟩
  · exact Or.inl ⟨v, vm₁, B, X₁.warmed, X', hpost, fun target h => hstep₁ _ fun acts => by rw [doInvoke_state]; exact hsteps.trans h⟩
  · exact Or.inr ⟨q, vm₁, B, X₁.warmed, X', hpost, hstep₁ _ fun acts => by rw [doInvoke_state]; exact hsteps⟩
end VXIC
section VXID
variable {p : Program} {l : Launch} {e : Env} {R : Room} {s : State} {m : MethodId} {args : Array Value} {below : List Frame} {meth : Method} {c : Code} {H : Heap} {locs : List Loc} {cells slots : Nat}
theorem vx_runIN {y : MethodName} {bytes cc : ByteArray} {maxL nL mc ms n index : Nat} {ws : List Cond} {rm : Room} {Pc : Array Value → State → Prop} {Qc : Array Value → State → Outcome → State → Prop} {XC : String → State → State → Prop} {free : Addr → Prop} {Ts : List Cond} {own host : String} {b : Addr} {As rest : List Value} {g : JFrame}
    (S : CallFix p m c cc nL s args Ts own) (hM : vx_Met l y ws rm Pc Qc XC mc ms free) (cw : va_CN R s args own index y host bytes maxL none ws rm mc ms n ∧ y.name = "<init>" ∧ (Cond.instanceMethod y).before args s = true) (hp : PreS s H Pc (.ref b :: As))
    (hg : g.method = m) (hn : As.length = n) (hsize : g.locals.size = nL) (hstack : g.stack = As.reverse ++ .ref b :: rest) (hW : 2 * g.monitorRoom + (rest.map fun v => v.category).sum ≤ 8) (hdg : decode cc g.pc = .ok (.invokespecial index, 3)) (hf : cells + mc ≤ R.cells ∧ slots + ms ≤ R.slots) :
    vx_Run p l e R s m args below meth c H locs cells slots mc ms g rest (Qc (Value.ref b :: As).toArray) XC free := by
  obtain ⟨⟨⟨hrc, hrs, hfr, hlo, hws, hcw⟩, hcode, hini, hy, hlen, hl⟩, hx1, hx2⟩ := cw
  have hK : vx_Back l R p e below s args y 3 8 (PreOf R mc ms Pc) (PostOf Qc mc ms free) (vx_Post XC mc ms free) := vx_back (bytes := bytes) (maxL := maxL) (ret := none) hM hp.1 hrc hrs hfr hlo hws hcw (fun a' U hW => word_at hW (Or.inl (by first | rfl | simp [Cond.onTables, Cond.keeps, Cond.steady])) hini)
  obtain ⟨hx, hb, hml, ho, -⟩ := S
  have hPc := hp.2
  intro T hT X
  rcases vx_callIN X hx (bytes := bytes) (maxL := maxL) ho hx1 hl hx2 hcode hy hK hg (hsize.trans hml.symm) (a := b) (argsL := As) (rest := rest) (fun sig h => hn.trans (hlen sig h)) hstack hW (by rw [hb]; exact hdg)
    (fun vm₁ hW₁ => ⟨hf.1, hf.2, hPc (T.setVm vm₁) hT hW₁⟩) with ⟨v, vm₁, ⟨U', l2, c2, s2⟩, hW₁, X', ⟨g', mk, t, L, e1, e2, hq, h1, hL, h2, h3⟩, st⟩ | ⟨q, vm₁, ⟨U', l2, c2, s2⟩, hW₁, X', ⟨g', mk, t, L, E, ce, e1, e2, hq, hce, hcv, hcl, h1, hL, h2, h3⟩, st⟩
  · dsimp only [Pt.U, Pt.locs, Pt.cells, Pt.slots] at X' e1 e2 h1 h2 h3 st
    subst h1; subst h2; subst h3
    exact Or.inl ⟨v, (T.setVm vm₁).calling g' mk (Value.ref b :: As).toArray, t, U', L, hT, X', hL, e1, e2, hq, st⟩
  · dsimp only [Pt.U, Pt.locs, Pt.cells, Pt.slots] at X' e1 e2 h1 h2 h3 st hcl
    subst h1; subst h2; subst h3
    exact Or.inr ⟨q, (T.setVm vm₁).calling g' mk (Value.ref b :: As).toArray, t, U', L, E, ce, hT, X', hL, e1, e2, hq, hce, hcv, vx_cls hW₁ hcl, st⟩
end VXID
/-! ===== END ===== -/
/-! ===== BEGIN a method of a class above, found by the receiver, that may throw (follows va_callVU, va_runU of this kit) ===== -/
section
variable {p : Program} {l : Launch} {e : Env} {R : Room} {s : State} {m : MethodId} {args : Array Value} {below : List Frame} {meth : Method} {c : Code} {H : Heap} {locs : List Loc} {cells slots : Nat}
theorem vx_callVU {T : State} {locs : List Loc} {cells slots : Nat} (X : Stand p l e R s m args below meth c T locs cells slots) (hexec : p.tables.exec = Jvm.exec) {own C owner : String} {index : Nat} {x y : MethodName} {bytes : ByteArray} {maxL : Nat} {ret : Option FieldType}
    (hown : s.vm.findClass own = some m.cls) (hlink : (Cond.methodLink own index x).before args s = true) (hsame : (Cond.sameMethod x.cls owner x.name x.desc).before args s = true)
    (hd0 : va_Decl s ⟨owner, x.name, x.desc⟩) (howner : owner ≠ "java/lang/invoke/MethodHandle" ∧ owner ≠ "java/lang/invoke/VarHandle")
    (hsel : (Cond.selects C x y).before args s = true) (hinst : (Cond.instanceMethod y).before args s = true) (hcode : (Cond.code y bytes maxL ret).before args s = true)
    {W : Nat} {Pre : Pt → Array Value → Prop} {Post : Pt → Array Value → Option Value → Pt → Prop} {PostX : Pt → Array Value → Addr → Pt → Prop} (hK : vx_Back l R p e below s args y 3 W Pre Post PostX)
    {b : Addr} {cellB : Cell} (hcell : T.heap[b]? = some cellB) (hobj : cellB.vm.isStatics = false) (hcls : s.vm.findClass C = some cellB.cls)
    {g : JFrame} (hg : g.method = m) (hsize : g.locals.size = c.maxLocals) {argsL rest : List Value} (hlen : ∀ sig, parseMethodDescriptor x.desc = some sig → argsL.length = sig.parameters.length)
    (hstack : g.stack = argsL.reverse ++ .ref b :: rest) (hW : 2 * g.monitorRoom + (rest.map fun v => v.category).sum ≤ W) (hdg : decode c.code g.pc = .ok (.invokevirtual index, 3))
    (hpre : ∀ vm₁, s.WarmedH vm₁ → Pre ⟨T.setVm vm₁, locs, cells, slots⟩ (Value.ref b :: argsL).toArray) :
    (∃ (v : Option Value) (vm₁ : Vm) (B : Pt), s.WarmedH vm₁ ∧ Stand p l e R s m args below meth c B.U B.locs B.cells B.slots ∧ Post ⟨T.setVm vm₁, locs, cells, slots⟩ (Value.ref b :: argsL).toArray v B ∧
      ∀ target, Steps p.tables e below (B.U.setTop { g with pc := g.pc + 3, stack := v.toList ++ rest }) target → Steps p.tables e below (T.setTop g) target) ∨
    (∃ (q : Addr) (vm₁ : Vm) (B : Pt), s.WarmedH vm₁ ∧ Stand p l e R s m args below meth c B.U B.locs B.cells B.slots ∧ PostX ⟨T.setVm vm₁, locs, cells, slots⟩ (Value.ref b :: argsL).toArray q B ∧
      Steps p.tables e below (T.setTop g) ((B.U.setTop { g with stack := rest }).pushFrame (.throwing q))) := by
  obtain ⟨r0, r, hn, hrm, hstR, hsigR⟩ := hd0
  obtain ⟨cn, ck, r1, hcn, hck, hni, hf, hn1⟩ := Cond.sameMethod_found hsame
  cases hn.symm.trans hn1
  obtain ⟨mk, methM, hnamed, hmethM, -, habM⟩ := Cond.instanceMethod_spec hinst
  obtain ⟨c2, r2, m2, q1, q2, q3, q4, kP, hkP, hkPi⟩ := Cond.selects_spec hsel
  cases hcls.symm.trans q1
  cases hf.symm.trans q2
  cases hnamed.symm.trans q3
  have hselP : selectMethod e.platform s.vm cellB.cls r0 = .method mk := by rw [Launch.admits_selectMethod X.admits]; exact q4
  obtain ⟨vm₁, X₁, hstep₁⟩ := X.invokevirtualUp hexec hown hlink hsame howner hn hrm hstR (a := b) (cell := cellB) hcell
    (fun z h => by rw [h] at hobj; cases hobj) hselP hmethM habM hkP hkPi (g := g) hg (argsL := argsL) (rest := rest) (hlen _ hsigR) hstack hdg
  rcases hK m meth c ⟨T.setVm vm₁, locs, cells, slots⟩ { g with stack := rest } (.invokevirtual index) mk (Value.ref b :: argsL).toArray X₁ hg hsize hdg hW (X₁.named hnamed) (hpre vm₁ X₁.warmed) with ⟨v, B, X', hpost, hsteps⟩ | ⟨q, B, X', hpost, hsteps⟩
  · exact Or.inl ⟨v, vm₁, B, X₁.warmed, X', hpost, fun target h => hstep₁ _ fun acts => by rw [doInvoke_state]; exact hsteps.trans h⟩
  · exact Or.inr ⟨q, vm₁, B, X₁.warmed, X', hpost, hstep₁ _ fun acts => by rw [doInvoke_state]; exact hsteps⟩
theorem vx_runU {x y : MethodName} {bytes cc : ByteArray} {maxL nL mc ms n index : Nat} {ret : Option FieldType} {ws : List Cond} {rm : Room} {Pc : Array Value → State → Prop} {Qc : Array Value → State → Outcome → State → Prop} {XC : String → State → State → Prop} {free : Addr → Prop} {Ts : List Cond} {own C owner : String} {b : Addr} {As rest : List Value} {g : JFrame}
    (S : CallFix p m c cc nL s args Ts own) (hM : vx_Met l y ws rm Pc Qc XC mc ms free) (cw : va_CU R s args own C owner index x y bytes maxL ret ws rm mc ms n) (hp : PreV s H C b Pc As)
    (hg : g.method = m) (hn : As.length = n) (hsize : g.locals.size = nL) (hstack : g.stack = As.reverse ++ .ref b :: rest) (hW : 2 * g.monitorRoom + (rest.map fun v => v.category).sum ≤ 8) (hdg : decode cc g.pc = .ok (.invokevirtual index, 3)) (hf : cells + mc ≤ R.cells ∧ slots + ms ≤ R.slots) :
    vx_Run p l e R s m args below meth c H locs cells slots mc ms g rest (Qc (Value.ref b :: As).toArray) XC free := by
  obtain ⟨hrc, hrs, hfr, hlo, hws, hcw⟩ := cw.back
  have hini := cw.init
  have hK : vx_Back l R p e below s args y 3 8 (PreOf R mc ms Pc) (PostOf Qc mc ms free) (vx_Post XC mc ms free) := vx_back (bytes := bytes) (maxL := maxL) (ret := ret) hM hp.1 hrc hrs hfr hlo hws hcw (fun a' U hW => word_at hW (Or.inl (by first | rfl | simp [Cond.onTables, Cond.keeps, Cond.steady])) hini)
  obtain ⟨hx, hb, hml, ho, -⟩ := S
  obtain ⟨-, ⟨cellB, hcB, hoB, hclB⟩, hPc⟩ := hp
  intro T hT X
  rcases vx_callVU X hx (C := C) (owner := owner) (bytes := bytes) (maxL := maxL) (ret := ret) ho cw.link cw.same cw.decl cw.notMH cw.sel cw.inst cw.code hK (by rw [hT]; exact hcB) hoB hclB hg (hsize.trans hml.symm) (argsL := As) (rest := rest) (fun sig h => hn.trans (cw.len sig h)) hstack hW (by rw [hb]; exact hdg)
    (fun vm₁ hW₁ => ⟨hf.1, hf.2, hPc (T.setVm vm₁) hT hW₁⟩) with ⟨v, vm₁, ⟨U', l2, c2, s2⟩, hW₁, X', ⟨g', mk, t, L, e1, e2, hq, h1, hL, h2, h3⟩, st⟩ | ⟨q, vm₁, ⟨U', l2, c2, s2⟩, hW₁, X', ⟨g', mk, t, L, E, ce, e1, e2, hq, hce, hcv, hcl, h1, hL, h2, h3⟩, st⟩
  · dsimp only [Pt.U, Pt.locs, Pt.cells, Pt.slots] at X' e1 e2 h1 h2 h3 st
    subst h1; subst h2; subst h3
    exact Or.inl ⟨v, (T.setVm vm₁).calling g' mk (Value.ref b :: As).toArray, t, U', L, hT, X', hL, e1, e2, hq, st⟩
  · dsimp only [Pt.U, Pt.locs, Pt.cells, Pt.slots] at X' e1 e2 h1 h2 h3 st hcl
    subst h1; subst h2; subst h3
    exact Or.inr ⟨q, (T.setVm vm₁).calling g' mk (Value.ref b :: As).toArray, t, U', L, E, ce, hT, X', hL, e1, e2, hq, hce, hcv, vx_cls hW₁ hcl, st⟩
end
/-! ===== END ===== -/
/-! ===== BEGIN super.m(..) that may throw (follows va_callSU, va_runSU) ===== -/
section
variable {p : Program} {l : Launch} {e : Env} {R : Room} {s : State} {m : MethodId} {args : Array Value} {below : List Frame} {meth : Method} {c : Code} {H : Heap} {locs : List Loc} {cells slots : Nat}
theorem vx_callSU {T : State} {locs : List Loc} {cells slots : Nat} (X : Stand p l e R s m args below meth c T locs cells slots) (hexec : p.tables.exec = Jvm.exec) {own : String} {index : Nat} {y : MethodName} {bytes : ByteArray} {maxL : Nat} {ret : Option FieldType}
    (hown : s.vm.findClass own = some m.cls) (hlink : (Cond.methodLink own index y).before args s = true) (hsame : (Cond.sameMethod y.cls y.cls y.name y.desc).before args s = true) (hsup : (Cond.superclass own y.cls).before args s = true)
    (hinst : (Cond.instanceMethod y).before args s = true) (hcode : (Cond.code y bytes maxL ret).before args s = true) (hno : y.name ≠ "<init>")
    {W : Nat} {Pre : Pt → Array Value → Prop} {Post : Pt → Array Value → Option Value → Pt → Prop} {PostX : Pt → Array Value → Addr → Pt → Prop} (hK : vx_Back l R p e below s args y 3 W Pre Post PostX)
    {b : Addr} {cellB : Cell} {kB : Class} (hcell : T.heap[b]? = some cellB) (hobj : cellB.vm.isStatics = false) (hkB : s.vm.classes[cellB.cls]? = some kB)
    {g : JFrame} (hg : g.method = m) (hsize : g.locals.size = c.maxLocals) {argsL rest : List Value} (hlen : ∀ sig, parseMethodDescriptor y.desc = some sig → argsL.length = sig.parameters.length)
    (hstack : g.stack = argsL.reverse ++ .ref b :: rest) (hW : 2 * g.monitorRoom + (rest.map fun v => v.category).sum ≤ W) (hdg : decode c.code g.pc = .ok (.invokespecial index, 3))
    (hpre : ∀ vm₁, s.WarmedH vm₁ → Pre ⟨T.setVm vm₁, locs, cells, slots⟩ (Value.ref b :: argsL).toArray) :
    (∃ (v : Option Value) (vm₁ : Vm) (B : Pt), s.WarmedH vm₁ ∧ Stand p l e R s m args below meth c B.U B.locs B.cells B.slots ∧ Post ⟨T.setVm vm₁, locs, cells, slots⟩ (Value.ref b :: argsL).toArray v B ∧
      ∀ target, Steps p.tables e below (B.U.setTop { g with pc := g.pc + 3, stack := v.toList ++ rest }) target → Steps p.tables e below (T.setTop g) target) ∨
    (∃ (q : Addr) (vm₁ : Vm) (B : Pt), s.WarmedH vm₁ ∧ Stand p l e R s m args below meth c B.U B.locs B.cells B.slots ∧ PostX ⟨T.setVm vm₁, locs, cells, slots⟩ (Value.ref b :: argsL).toArray q B ∧
      Steps p.tables e below (T.setTop g) ((B.U.setTop { g with stack := rest }).pushFrame (.throwing q))) := by
  obtain ⟨mk, methM, hnamed, hmethM, hstM, habM⟩ := Cond.instanceMethod_spec hinst
  obtain ⟨methM', cM, hmethM', -, -, -, -, -, -, hsigM⟩ := Cond.code_spec hnamed hcode
  cases hmethM.symm.trans hmethM'
  obtain ⟨ps, dk, kp, hps, hdk, hkp, hsuper, -, -, hnid⟩ := Cond.superclass_spec hown hsup
  have hn : s.methodNamed? ⟨y.cls, y.name, y.desc⟩ = some mk := hnamed
  have hpm : ps = mk.cls := Option.some.inj (hps.symm.trans (findClass_of_methodNamed hnamed))
  have hsub : s.vm.isSubclass ps mk.cls = true := by rw [hpm]; simp [Vm.isSubclass, Vm.isSubclassAux]
  obtain ⟨vm₁, X₁, hstep₁⟩ := X.invokespecialUp hexec hown hlink hsame hn hmethM hstM habM hno hdk hnid hps hsuper hsub (a := b) (cell := cellB) hcell
    (fun z h => by rw [h] at hobj; cases hobj) hkB (g := g) hg (argsL := argsL) (rest := rest) (hlen _ hsigM) hstack hdg
  rcases hK m meth c ⟨T.setVm vm₁, locs, cells, slots⟩ { g with stack := rest } (.invokespecial index) mk (Value.ref b :: argsL).toArray X₁ hg hsize hdg hW (X₁.named hnamed) (hpre vm₁ X₁.warmed) with ⟨v, B, X', hpost, hsteps⟩ | ⟨q, B, X', hpost, hsteps⟩
  · exact Or.inl ⟨v, vm₁, B, X₁.warmed, X', hpost, fun target h => hstep₁ _ (by rw [doInvoke_state]; exact hsteps.trans h)⟩
  · exact Or.inr ⟨q, vm₁, B, X₁.warmed, X', hpost, hstep₁ _ (by rw [doInvoke_state]; exact hsteps)⟩
theorem vx_runSU {y : MethodName} {bytes cc : ByteArray} {maxL nL mc ms n index : Nat} {ret : Option FieldType} {ws : List Cond} {rm : Room} {Pc : Array Value → State → Prop} {Qc : Array Value → State → Outcome → State → Prop} {XC : String → State → State → Prop} {free : Addr → Prop} {Ts : List Cond} {own C : String} {cC : ClassId} {b : Addr} {As rest : List Value} {g : JFrame}
    (hat : ClassAt s C cC) (S : CallFix p m c cc nL s args Ts own) (hM : vx_Met l y ws rm Pc Qc XC mc ms free) (cw : va_CS R s args own index y bytes maxL ret ws rm mc ms n) (hp : PreV s H C b Pc As)
    (hg : g.method = m) (hn : As.length = n) (hsize : g.locals.size = nL) (hstack : g.stack = As.reverse ++ .ref b :: rest) (hW : 2 * g.monitorRoom + (rest.map fun v => v.category).sum ≤ 8) (hdg : decode cc g.pc = .ok (.invokespecial index, 3)) (hf : cells + mc ≤ R.cells ∧ slots + ms ≤ R.slots) :
    vx_Run p l e R s m args below meth c H locs cells slots mc ms g rest (Qc (Value.ref b :: As).toArray) XC free := by
  obtain ⟨⟨hrc, hrs, hfr, hlo, hws, hcw⟩, hl1, hl2, hl3, hl4, hini, hcode, hno, hlen⟩ := cw
  have hK : vx_Back l R p e below s args y 3 8 (PreOf R mc ms Pc) (PostOf Qc mc ms free) (vx_Post XC mc ms free) := vx_back (bytes := bytes) (maxL := maxL) (ret := ret) hM hp.1 hrc hrs hfr hlo hws hcw (fun a' U hW => word_at hW (Or.inl (by first | rfl | simp [Cond.onTables, Cond.keeps, Cond.steady])) hini)
  obtain ⟨hx, hb, hml, ho, -⟩ := S
  obtain ⟨-, ⟨cellB, hcB, hoB, hclB⟩, hPc⟩ := hp
  obtain ⟨hfc, kB, hkB, -⟩ := hat
  cases hfc.symm.trans hclB
  intro T hT X
  rcases vx_callSU X hx (bytes := bytes) (maxL := maxL) (ret := ret) ho hl1 hl2 hl3 hl4 hcode hno hK (by rw [hT]; exact hcB) hoB hkB hg (hsize.trans hml.symm) (argsL := As) (rest := rest) (fun sig h => hn.trans (hlen sig h)) hstack hW (by rw [hb]; exact hdg)
    (fun vm₁ hW₁ => ⟨hf.1, hf.2, hPc (T.setVm vm₁) hT hW₁⟩) with ⟨v, vm₁, ⟨U', l2, c2, s2⟩, hW₁, X', ⟨g', mk, t, L, e1, e2, hq, h1, hL, h2, h3⟩, st⟩ | ⟨q, vm₁, ⟨U', l2, c2, s2⟩, hW₁, X', ⟨g', mk, t, L, E, ce, e1, e2, hq, hce, hcv, hcl, h1, hL, h2, h3⟩, st⟩
  · dsimp only [Pt.U, Pt.locs, Pt.cells, Pt.slots] at X' e1 e2 h1 h2 h3 st
    subst h1; subst h2; subst h3
    exact Or.inl ⟨v, (T.setVm vm₁).calling g' mk (Value.ref b :: As).toArray, t, U', L, hT, X', hL, e1, e2, hq, st⟩
  · dsimp only [Pt.U, Pt.locs, Pt.cells, Pt.slots] at X' e1 e2 h1 h2 h3 st hcl
    subst h1; subst h2; subst h3
    exact Or.inr ⟨q, (T.setVm vm₁).calling g' mk (Value.ref b :: As).toArray, t, U', L, E, ce, hT, X', hL, e1, e2, hq, hce, hcv, vx_cls hW₁ hcl, st⟩
end
/-! ===== END ===== -/
/-! ===== BEGIN a private method of a nest mate that may throw (follows va_callVN, va_callSN, va_runVN, va_runSN) ===== -/
section
variable {p : Program} {l : Launch} {e : Env} {R : Room} {s : State} {m : MethodId} {args : Array Value} {below : List Frame} {meth : Method} {c : Code} {H : Heap} {locs : List Loc} {cells slots : Nat}
variable {T : State}
theorem vx_callVN (X : Stand p l e R s m args below meth c T locs cells slots) (hexec : p.tables.exec = Jvm.exec) {own C : String} {index : Nat} {host : String} {y : MethodName} {bytes : ByteArray} {maxL : Nat} {ret : Option FieldType}
    (hown : s.vm.findClass own = some m.cls) (hlink : (Cond.methodLinkNest own index y host).before args s = true) (hinst : (Cond.instanceMethod y).before args s = true) (hsel : (Cond.selects C y y).before args s = true)
    (hcode : (Cond.code y bytes maxL ret).before args s = true) (hy : y.cls ≠ "java/lang/invoke/MethodHandle" ∧ y.cls ≠ "java/lang/invoke/VarHandle")
    {W : Nat} {Pre : Pt → Array Value → Prop} {Post : Pt → Array Value → Option Value → Pt → Prop} {PostX : Pt → Array Value → Addr → Pt → Prop} (hK : vx_Back l R p e below s args y 3 W Pre Post PostX)
    {b : Addr} {cellB : Cell} (hcell : T.heap[b]? = some cellB) (hobj : cellB.vm.isStatics = false) (hcls : s.vm.findClass C = some cellB.cls)
    {g : JFrame} (hg : g.method = m) (hsize : g.locals.size = c.maxLocals) {argsL rest : List Value} (hlen : ∀ sig, parseMethodDescriptor y.desc = some sig → argsL.length = sig.parameters.length)
    (hstack : g.stack = argsL.reverse ++ .ref b :: rest) (hW : 2 * g.monitorRoom + (rest.map fun v => v.category).sum ≤ W) (hdg : decode c.code g.pc = .ok (.invokevirtual index, 3))
    (hpre : ∀ vm₁, s.WarmedH vm₁ → Pre ⟨T.setVm vm₁, locs, cells, slots⟩ (Value.ref b :: argsL).toArray) :
    (∃ (v : Option Value) (vm₁ : Vm) (B : Pt), s.WarmedH vm₁ ∧ Stand p l e R s m args below meth c B.U B.locs B.cells B.slots ∧ Post ⟨T.setVm vm₁, locs, cells, slots⟩ (Value.ref b :: argsL).toArray v B ∧
      ∀ target, Steps p.tables e below (B.U.setTop { g with pc := g.pc + 3, stack := v.toList ++ rest }) target → Steps p.tables e below (T.setTop g) target) ∨
    (∃ (q : Addr) (vm₁ : Vm) (B : Pt), s.WarmedH vm₁ ∧ Stand p l e R s m args below meth c B.U B.locs B.cells B.slots ∧ PostX ⟨T.setVm vm₁, locs, cells, slots⟩ (Value.ref b :: argsL).toArray q B ∧
      Steps p.tables e below (T.setTop g) ((B.U.setTop { g with stack := rest }).pushFrame (.throwing q))) := by
  obtain ⟨mk, methM, hnamed, hmethM, hstM, habM⟩ := Cond.instanceMethod_spec hinst
  obtain ⟨methM', cM, hmethM', -, -, -, -, -, -, hsigM⟩ := Cond.code_spec hnamed hcode
  cases hmethM.symm.trans hmethM'
  obtain ⟨c2, r2, m2, q1, q2, q3, q4, kP, hkP, hkPi⟩ := Cond.selects_spec hsel
  cases hcls.symm.trans q1
  cases (State.methodFound?_of_named hnamed hy).symm.trans q2
  cases hnamed.symm.trans q3
  have hselP : selectMethod e.platform s.vm cellB.cls mk = .method mk := by rw [Launch.admits_selectMethod X.admits]; exact q4
  obtain ⟨vm₁, X₁, hstep₁⟩ := X.invokevirtualNest hexec hown hlink hnamed hmethM hstM hkP hkPi hy (a := b) (cell := cellB) hcell
    (fun z h => by rw [h] at hobj; cases hobj) hselP hmethM habM hkP hkPi (g := g) hg (argsL := argsL) (rest := rest) (hlen _ hsigM) hstack hdg
  rcases hK m meth c ⟨T.setVm vm₁, locs, cells, slots⟩ { g with stack := rest } (.invokevirtual index) mk (Value.ref b :: argsL).toArray X₁ hg hsize hdg hW (X₁.named hnamed) (hpre vm₁ X₁.warmed) with ⟨v, B, X', hpost, hsteps⟩ | ⟨q, B, X', hpost, hsteps⟩
  · exact Or.inl ⟨v, vm₁, B, X₁.warmed, X', hpost, fun target h => hstep₁ _ fun acts => by rw [doInvoke_state]; exact hsteps.trans h⟩
  · exact Or.inr ⟨q, vm₁, B, X₁.warmed, X', hpost, hstep₁ _ fun acts => by rw [doInvoke_state]; exact hsteps⟩
theorem vx_callSN (X : Stand p l e R s m args below meth c T locs cells slots) (hexec : p.tables.exec = Jvm.exec) {own : String} {index : Nat} {host : String} {y : MethodName} {bytes : ByteArray} {maxL : Nat} {ret : Option FieldType}
    (hown : s.vm.findClass own = some m.cls) (hlink : (Cond.methodLinkNest own index y host).before args s = true) (hstat : (Cond.static y).before args s = true) (hinit : (Cond.initialized y.cls).before args s = true)
    (hcode : (Cond.code y bytes maxL ret).before args s = true) (hy : y.cls ≠ "java/lang/invoke/MethodHandle" ∧ y.cls ≠ "java/lang/invoke/VarHandle")
    {W : Nat} {Pre : Pt → Array Value → Prop} {Post : Pt → Array Value → Option Value → Pt → Prop} {PostX : Pt → Array Value → Addr → Pt → Prop} (hK : vx_Back l R p e below s args y 3 W Pre Post PostX)
    {g : JFrame} (hg : g.method = m) (hsize : g.locals.size = c.maxLocals) {argsL rest : List Value} (hlen : ∀ sig, parseMethodDescriptor y.desc = some sig → argsL.length = sig.parameters.length)
    (hstack : g.stack = argsL.reverse ++ rest) (hW : 2 * g.monitorRoom + (rest.map fun v => v.category).sum ≤ W) (hdg : decode c.code g.pc = .ok (.invokestatic index, 3))
    (hpre : ∀ vm₁, s.WarmedH vm₁ → Pre ⟨T.setVm vm₁, locs, cells, slots⟩ argsL.toArray) :
    (∃ (v : Option Value) (vm₁ : Vm) (B : Pt), s.WarmedH vm₁ ∧ Stand p l e R s m args below meth c B.U B.locs B.cells B.slots ∧ Post ⟨T.setVm vm₁, locs, cells, slots⟩ argsL.toArray v B ∧
      ∀ target, Steps p.tables e below (B.U.setTop { g with pc := g.pc + 3, stack := v.toList ++ rest }) target → Steps p.tables e below (T.setTop g) target) ∨
    (∃ (q : Addr) (vm₁ : Vm) (B : Pt), s.WarmedH vm₁ ∧ Stand p l e R s m args below meth c B.U B.locs B.cells B.slots ∧ PostX ⟨T.setVm vm₁, locs, cells, slots⟩ argsL.toArray q B ∧
      Steps p.tables e below (T.setTop g) ((B.U.setTop { g with stack := rest }).pushFrame (.throwing q))) := by
  obtain ⟨mk, hnamed⟩ := Cond.code_named hcode
  obtain ⟨methM, cM, hmethM, -, -, -, -, -, -, hsigM⟩ := Cond.code_spec hnamed hcode
  have hstatic : methM.isStatic = true := Cond.static_spec hnamed hmethM hstat
  obtain ⟨kP, hkP, -⟩ := className_of_methodNamed hnamed
  have hinitP : kP.init = .initialized := Cond.initialized_spec (findClass_of_methodNamed hnamed) hkP hinit
  obtain ⟨vm₁, X₁, hstep₁⟩ := X.invokestaticNest hexec hown hlink hnamed hmethM hstatic hkP hinitP hy (g := g) hg (argsL := argsL) (rest := rest) (hlen _ hsigM) hstack hdg
  rcases hK m meth c ⟨T.setVm vm₁, locs, cells, slots⟩ { g with stack := rest } (.invokestatic index) mk argsL.toArray X₁ hg hsize hdg hW (X₁.named hnamed) (hpre vm₁ X₁.warmed) with ⟨v, B, X', hpost, hsteps⟩ | ⟨q, B, X', hpost, hsteps⟩
  · exact Or.inl ⟨v, vm₁, B, X₁.warmed, X', hpost, fun target h => hstep₁ _ fun acts => by rw [doInvoke_state]; exact hsteps.trans h⟩
  · exact Or.inr ⟨q, vm₁, B, X₁.warmed, X', hpost, hstep₁ _ fun acts => by rw [doInvoke_state]; exact hsteps⟩
theorem vx_runVN {y : MethodName} {bytes cc : ByteArray} {maxL nL mc ms n index : Nat} {ret : Option FieldType} {ws : List Cond} {rm : Room} {Pc : Array Value → State → Prop} {Qc : Array Value → State → Outcome → State → Prop} {XC : String → State → State → Prop} {free : Addr → Prop} {Ts : List Cond} {own C host : String} {b : Addr} {As rest : List Value} {g : JFrame}
    (S : CallFix p m c cc nL s args Ts own) (hM : vx_Met l y ws rm Pc Qc XC mc ms free) (cw : va_CN R s args own index y host bytes maxL ret ws rm mc ms n ∧ (Cond.instanceMethod y).before args s = true ∧ (Cond.selects C y y).before args s = true) (hp : PreV s H C b Pc As)
    (hg : g.method = m) (hn : As.length = n) (hsize : g.locals.size = nL) (hstack : g.stack = As.reverse ++ .ref b :: rest) (hW : 2 * g.monitorRoom + (rest.map fun v => v.category).sum ≤ 8) (hdg : decode cc g.pc = .ok (.invokevirtual index, 3)) (hf : cells + mc ≤ R.cells ∧ slots + ms ≤ R.slots) :
    vx_Run p l e R s m args below meth c H locs cells slots mc ms g rest (Qc (Value.ref b :: As).toArray) XC free := by
  obtain ⟨⟨⟨hrc, hrs, hfr, hlo, hws, hcw⟩, hcode, hini, hy, hlen, hl⟩, hx1, hx2⟩ := cw
  have hK : vx_Back l R p e below s args y 3 8 (PreOf R mc ms Pc) (PostOf Qc mc ms free) (vx_Post XC mc ms free) := vx_back (bytes := bytes) (maxL := maxL) (ret := ret) hM hp.1 hrc hrs hfr hlo hws hcw (fun a' U hW => word_at hW (Or.inl (by first | rfl | simp [Cond.onTables, Cond.keeps, Cond.steady])) hini)
  obtain ⟨hx, hb, hml, ho, -⟩ := S
  obtain ⟨-, ⟨cellB, hcB, hoB, hclB⟩, hPc⟩ := hp
  intro T hT X
  rcases vx_callVN X hx (C := C) (bytes := bytes) (maxL := maxL) (ret := ret) ho hl hx1 hx2 hcode hy hK (by rw [hT]; exact hcB) hoB hclB hg (hsize.trans hml.symm) (argsL := As) (rest := rest) (fun sig h => hn.trans (hlen sig h)) hstack hW (by rw [hb]; exact hdg)
    (fun vm₁ hW₁ => ⟨hf.1, hf.2, hPc (T.setVm vm₁) hT hW₁⟩) with ⟨v, vm₁, ⟨U', l2, c2, s2⟩, hW₁, X', ⟨g', mk, t, L, e1, e2, hq, h1, hL, h2, h3⟩, st⟩ | ⟨q, vm₁, ⟨U', l2, c2, s2⟩, hW₁, X', ⟨g', mk, t, L, E, ce, e1, e2, hq, hce, hcv, hcl, h1, hL, h2, h3⟩, st⟩
  · dsimp only [Pt.U, Pt.locs, Pt.cells, Pt.slots] at X' e1 e2 h1 h2 h3 st
    subst h1; subst h2; subst h3
    exact Or.inl ⟨v, (T.setVm vm₁).calling g' mk (Value.ref b :: As).toArray, t, U', L, hT, X', hL, e1, e2, hq, st⟩
  · dsimp only [Pt.U, Pt.locs, Pt.cells, Pt.slots] at X' e1 e2 h1 h2 h3 st hcl
    subst h1; subst h2; subst h3
    exact Or.inr ⟨q, (T.setVm vm₁).calling g' mk (Value.ref b :: As).toArray, t, U', L, E, ce, hT, X', hL, e1, e2, hq, hce, hcv, vx_cls hW₁ hcl, st⟩
theorem vx_runSN {y : MethodName} {bytes cc : ByteArray} {maxL nL mc ms n index : Nat} {ret : Option FieldType} {ws : List Cond} {rm : Room} {Pc : Array Value → State → Prop} {Qc : Array Value → State → Outcome → State → Prop} {XC : String → State → State → Prop} {free : Addr → Prop} {Ts : List Cond} {own host : String} {As rest : List Value} {g : JFrame}
    (S : CallFix p m c cc nL s args Ts own) (hM : vx_Met l y ws rm Pc Qc XC mc ms free) (cw : va_CN R s args own index y host bytes maxL ret ws rm mc ms n ∧ (Cond.static y).before args s = true ∧ True) (hp : PreS s H Pc As)
    (hg : g.method = m) (hn : As.length = n) (hsize : g.locals.size = nL) (hstack : g.stack = As.reverse ++ rest) (hW : 2 * g.monitorRoom + (rest.map fun v => v.category).sum ≤ 8) (hdg : decode cc g.pc = .ok (.invokestatic index, 3)) (hf : cells + mc ≤ R.cells ∧ slots + ms ≤ R.slots) :
    vx_Run p l e R s m args below meth c H locs cells slots mc ms g rest (Qc As.toArray) XC free := by
  obtain ⟨⟨⟨hrc, hrs, hfr, hlo, hws, hcw⟩, hcode, hini, hy, hlen, hl⟩, hx1, hx2⟩ := cw
  have hK : vx_Back l R p e below s args y 3 8 (PreOf R mc ms Pc) (PostOf Qc mc ms free) (vx_Post XC mc ms free) := vx_back (bytes := bytes) (maxL := maxL) (ret := ret) hM hp.1 hrc hrs hfr hlo hws hcw (fun a' U hW => word_at hW (Or.inl (by first | rfl | simp [Cond.onTables, Cond.keeps, Cond.steady])) hini)
  obtain ⟨hx, hb, hml, ho, -⟩ := S
  have hPc := hp.2
  intro T hT X
  rcases vx_callSN X hx (bytes := bytes) (maxL := maxL) (ret := ret) ho hl hx1 hini hcode hy hK hg (hsize.trans hml.symm) (argsL := As) (rest := rest) (fun sig h => hn.trans (hlen sig h)) hstack hW (by rw [hb]; exact hdg)
    (fun vm₁ hW₁ => ⟨hf.1, hf.2, hPc (T.setVm vm₁) hT hW₁⟩) with ⟨v, vm₁, ⟨U', l2, c2, s2⟩, hW₁, X', ⟨g', mk, t, L, e1, e2, hq, h1, hL, h2, h3⟩, st⟩ | ⟨q, vm₁, ⟨U', l2, c2, s2⟩, hW₁, X', ⟨g', mk, t, L, E, ce, e1, e2, hq, hce, hcv, hcl, h1, hL, h2, h3⟩, st⟩
  · dsimp only [Pt.U, Pt.locs, Pt.cells, Pt.slots] at X' e1 e2 h1 h2 h3 st
    subst h1; subst h2; subst h3
    exact Or.inl ⟨v, (T.setVm vm₁).calling g' mk As.toArray, t, U', L, hT, X', hL, e1, e2, hq, st⟩
  · dsimp only [Pt.U, Pt.locs, Pt.cells, Pt.slots] at X' e1 e2 h1 h2 h3 st hcl
    subst h1; subst h2; subst h3
    exact Or.inr ⟨q, (T.setVm vm₁).calling g' mk As.toArray, t, U', L, E, ce, hT, X', hL, e1, e2, hq, hce, hcv, vx_cls hW₁ hcl, st⟩
end
/-! ===== END ===== -/
/-! ===== BEGIN calls by an interface of methods that may throw (vx_callIF, vx_runF follow va_callIF, va_runF of this kit) ===== -/
section
variable {p : Program} {l : Launch} {e : Env} {R : Room} {s : State} {m : MethodId} {args : Array Value} {below : List Frame} {meth : Method} {c : Code} {H : Heap} {locs : List Loc} {cells slots : Nat} {Q : State → Prop}
variable {mc ms : Nat} {free : Addr → Prop} {A0 A1 : Nat → Prop} {H0 : Heap} {a : Array Value} {pc : Nat} {ls : Array Slot} {st0 rest : List Value}
def vx_Run5 (p : Program) (l : Launch) (e : Env) (R : Room) (s : State) (m : MethodId) (args : Array Value) (below : List Frame) (meth : Method) (c : Code) (H : Heap) (locs : List Loc) (cells slots mc ms : Nat) (g : JFrame) (rest : List Value) (Qa : State → Outcome → State → Prop) (XC : String → State → State → Prop) (free : Addr → Prop) : Prop :=
  ∀ T : State, T.heap = H → Stand p l e R s m args below meth c T locs cells slots →
    (∃ (v : Option Value) (st₀ t T' : State) (L : List Loc), st₀.heap = H ∧ Stand p l e R s m args below meth c T' (locs ++ L) (cells + mc) (slots + ms) ∧ (∀ q ∈ L, free q.base) ∧ T'.heap = t.heap ∧ T'.vm = t.vm ∧ Qa st₀ (.returned v) t ∧
      Goes p e below T g T' { g with pc := g.pc + 5, stack := v.toList ++ rest }) ∨
    (∃ (q : Addr) (st₀ t T' : State) (L : List Loc) (E : String) (ce : Cell), st₀.heap = H ∧ Stand p l e R s m args below meth c T' (locs ++ L) (cells + mc) (slots + ms) ∧ (∀ z ∈ L, free z.base) ∧ T'.heap = t.heap ∧ T'.vm = t.vm ∧ XC E st₀ t ∧ t.heap[q]? = some ce ∧ ce.vm = .none ∧ s.vm.findClass E = some ce.cls ∧
      Steps p.tables e below (T.setTop g) ((T'.setTop { g with stack := rest }).pushFrame (.throwing q)))
theorem vx_callIF {T : State} (X : Stand p l e R s m args below meth c T locs cells slots) (hexec : p.tables.exec = Jvm.exec) {own C : String} {index count : Nat} {x y : MethodName} {bytes : ByteArray} {maxL : Nat} {ret : Option FieldType}
    (hown : s.vm.findClass own = some m.cls) (hlink : (Cond.methodLink own index x).before args s = true) (hdecl : (Cond.declares x).before args s = true) (hface : (Cond.interfaceMethod x.cls x.cls x.name x.desc).before args s = true)
    (hsel : (Cond.selects C x y).before args s = true) (hinst : (Cond.instanceMethod y).before args s = true) (hpub : (Cond.publicMethod y).before args s = true) (hunh : (Cond.unhidden C x.name x.desc).before args s = true)
    (hcast : (Cond.castable C x.cls).before args s = true) (hcode : (Cond.code y bytes maxL ret).before args s = true) (hx : x.cls ≠ "java/lang/invoke/MethodHandle" ∧ x.cls ≠ "java/lang/invoke/VarHandle")
    {W9 : Nat} {Pre : Pt → Array Value → Prop} {Post : Pt → Array Value → Option Value → Pt → Prop} {PostX : Pt → Array Value → Addr → Pt → Prop} (hK : vx_Back l R p e below s args y 5 W9 Pre Post PostX)
    {b : Addr} {cellB : Cell} {kB : Class} (hcell : T.heap[b]? = some cellB) (hobj : cellB.vm.isStatics = false) (hcls : s.vm.findClass C = some cellB.cls) (hkB : s.vm.classes[cellB.cls]? = some kB)
    {g : JFrame} (hg : g.method = m) (hsize : g.locals.size = c.maxLocals) {argsL rest : List Value} (hlen : ∀ sig, parseMethodDescriptor x.desc = some sig → argsL.length = sig.parameters.length)
    (hstack : g.stack = argsL.reverse ++ .ref b :: rest) (hW : 2 * g.monitorRoom + (rest.map fun v => v.category).sum ≤ W9) (hdg : decode c.code g.pc = .ok (.invokeinterface index count, 5))
    (hpre : ∀ vm₁, s.WarmedH vm₁ → Pre ⟨T.setVm vm₁, locs, cells, slots⟩ (Value.ref b :: argsL).toArray) :
    (∃ (v : Option Value) (vm₁ : Vm) (B : Pt), s.WarmedH vm₁ ∧ Stand p l e R s m args below meth c B.U B.locs B.cells B.slots ∧ Post ⟨T.setVm vm₁, locs, cells, slots⟩ (Value.ref b :: argsL).toArray v B ∧
      ∀ target, Steps p.tables e below (B.U.setTop { g with pc := g.pc + 5, stack := v.toList ++ rest }) target → Steps p.tables e below (T.setTop g) target) ∨
    (∃ (q : Addr) (vm₁ : Vm) (B : Pt), s.WarmedH vm₁ ∧ Stand p l e R s m args below meth c B.U B.locs B.cells B.slots ∧ PostX ⟨T.setVm vm₁, locs, cells, slots⟩ (Value.ref b :: argsL).toArray q B ∧
      Steps p.tables e below (T.setTop g) ((B.U.setTop { g with stack := rest }).pushFrame (.throwing q))) := by
  obtain ⟨r0, r, hn, hrm, hstR, hsigR⟩ := Cond.declares_spec hdecl
  obtain ⟨cL, kL, r1, hcL, hkL, hiL, hfoundL, hn1⟩ := Cond.interfaceMethod_spec hface
  cases hn.symm.trans hn1
  have hr0cls : r0.cls = cL := Option.some.inj ((findClass_of_methodNamed hn).symm.trans hcL)
  obtain ⟨hnameR, hdescR⟩ := name_of_methodNamed hn hrm
  obtain ⟨mk, methM, hnamed, hmethM, -, habM⟩ := Cond.instanceMethod_spec hinst
  obtain ⟨c2, r2, m2, q1, q2, q3, q4, -⟩ := Cond.selects_spec hsel
  cases hcls.symm.trans q1
  cases hfoundL.symm.trans q2
  cases hnamed.symm.trans q3
  have hselP : selectMethod e.platform s.vm cellB.cls r0 = .method mk := by rw [Launch.admits_selectMethod X.admits]; exact q4
  have hpubM : hasFlag methM.accessFlags Acc.public_ = true := Cond.publicMethod_spec hnamed hmethM hpub
  have hway : ((cellB.cls :: s.vm.superclasses cellB.cls).any fun k => (declaredIn s.vm r.name r.desc k).any fun (_, z) => z.isPrivate || z.isStatic) = false := by
    rw [hnameR, hdescR]; exact Cond.unhidden_spec hcls hunh
  obtain ⟨c3, t3, w1, w2, w3⟩ := Cond.castable_spec hcast
  cases hcls.symm.trans w1
  cases hcL.symm.trans w2
  obtain ⟨vm₁, X₁, hstep₁⟩ := X.invokeinterface hexec hown hlink hn hrm hstR (by rw [hr0cls]; exact hkL) hiL hx (a := b) (cell := cellB) (kcell := kB) hcell
    (fun z h => by rw [h] at hobj; cases hobj) hkB (by rw [hr0cls]; exact w3) hselP hmethM hway hpubM habM (g := g) hg (argsL := argsL) (rest := rest) (hlen _ hsigR) hstack hdg
  rcases hK m meth c ⟨T.setVm vm₁, locs, cells, slots⟩ { g with stack := rest } (.invokeinterface index count) mk (Value.ref b :: argsL).toArray X₁ hg hsize hdg hW (X₁.named hnamed) (hpre vm₁ X₁.warmed) with ⟨v, B, X', hpost, hsteps⟩ | ⟨q, B, X', hpost, hsteps⟩
  · exact Or.inl ⟨v, vm₁, B, X₁.warmed, X', hpost, fun target h => hstep₁ _ fun acts => by rw [doInvoke_state]; exact hsteps.trans h⟩
  · exact Or.inr ⟨q, vm₁, B, X₁.warmed, X', hpost, hstep₁ _ fun acts => by rw [doInvoke_state]; exact hsteps⟩
theorem vx_runF {x y : MethodName} {bytes cc : ByteArray} {maxL nL mc ms n index count : Nat} {ret : Option FieldType} {ws : List Cond} {rm : Room} {Pc : Array Value → State → Prop} {Qc : Array Value → State → Outcome → State → Prop} {XC : String → State → State → Prop} {free : Addr → Prop} {Ts : List Cond} {own C : String} {cC : ClassId} {b : Addr} {As rest : List Value} {g : JFrame}
    (hat : ClassAt s C cC) (S : CallFix p m c cc nL s args Ts own) (hM : vx_Met l y ws rm Pc Qc XC mc ms free) (cw : va_CI R s args own C index x y bytes maxL ret ws rm mc ms n) (hp : PreV s H C b Pc As)
    (hg : g.method = m) (hn : As.length = n) (hsize : g.locals.size = nL) (hstack : g.stack = As.reverse ++ .ref b :: rest) (hW : 2 * g.monitorRoom + (rest.map fun v => v.category).sum ≤ 8) (hdg : decode cc g.pc = .ok (.invokeinterface index count, 5)) (hf : cells + mc ≤ R.cells ∧ slots + ms ≤ R.slots) :
    vx_Run5 p l e R s m args below meth c H locs cells slots mc ms g rest (Qc (Value.ref b :: As).toArray) XC free := by
  obtain ⟨hrc, hrs, hfr, hlo, hws, hcw⟩ := cw.back
  have hini := cw.init
  have hK : vx_Back l R p e below s args y 5 8 (PreOf R mc ms Pc) (PostOf Qc mc ms free) (vx_Post XC mc ms free) := vx_back (bytes := bytes) (maxL := maxL) (ret := ret) hM hp.1 hrc hrs hfr hlo hws hcw (fun a' U hW => word_at hW (Or.inl (by first | rfl | simp [Cond.onTables, Cond.keeps, Cond.steady])) hini)
  obtain ⟨hx, hb, hml, ho, -⟩ := S
  obtain ⟨-, ⟨cellB, hcB, hoB, hclB⟩, hPc⟩ := hp
  obtain ⟨hfc, kB, hkB, -⟩ := hat
  cases hfc.symm.trans hclB
  intro T hT X
  rcases vx_callIF X hx (C := C) (bytes := bytes) (maxL := maxL) (ret := ret) ho cw.link cw.decl cw.face cw.sel cw.inst cw.pub cw.unh cw.cast cw.code cw.notMH hK (by rw [hT]; exact hcB) hoB hclB hkB hg (hsize.trans hml.symm) (argsL := As) (rest := rest) (fun sig h => hn.trans (cw.len sig h)) hstack hW (by rw [hb]; exact hdg)
    (fun vm₁ hW₁ => ⟨hf.1, hf.2, hPc (T.setVm vm₁) hT hW₁⟩) with ⟨v, vm₁, ⟨U', l2, c2, s2⟩, hW₁, X', ⟨g', mk, t, L, e1, e2, hq, h1, hL, h2, h3⟩, st⟩ | ⟨q, vm₁, ⟨U', l2, c2, s2⟩, hW₁, X', ⟨g', mk, t, L, E, ce, e1, e2, hq, hce, hcv, hcl, h1, hL, h2, h3⟩, st⟩
  · dsimp only [Pt.U, Pt.locs, Pt.cells, Pt.slots] at X' e1 e2 h1 h2 h3 st
    subst h1; subst h2; subst h3
    exact Or.inl ⟨v, (T.setVm vm₁).calling g' mk (Value.ref b :: As).toArray, t, U', L, hT, X', hL, e1, e2, hq, st⟩
  · dsimp only [Pt.U, Pt.locs, Pt.cells, Pt.slots] at X' e1 e2 h1 h2 h3 st hcl
    subst h1; subst h2; subst h3
    exact Or.inr ⟨q, (T.setVm vm₁).calling g' mk (Value.ref b :: As).toArray, t, U', L, E, ce, hT, X', hL, e1, e2, hq, hce, hcv, vx_cls hW₁ hcl, st⟩
theorem vx_callFv {S SX : Type} {post : S → Prop} {px : SX → Prop} {B : S → State → Prop} {BX : String → SX → State → Prop} {AX : Nat → Prop} (hr : vx_Run5 p l e R s m args below meth c H locs cells slots mc ms (F0 m pc ls st0) rest (va_Qv post B A1 a) (vx_X px BX AX) free) (hS : va_S A0 H0 H locs) (hA : ∀ q, q < H.size → A1 q → A0 q) (hf : ∀ q, free q → A0 q) (hAX : ∀ q, q < H.size → AX q → A0 q)
    (kx : ∀ (E : String) (ce : Cell) (q9 : Addr) (u : SX) (t : State) (H1 : Heap) (locs1 : List Loc), t.heap = H1 → s.vm.Alike t.vm → px u → BX E u t → H.size ≤ H1.size → (∀ q : Nat, q < H.size → ¬ AX q → H1[q]? = H[q]?) → va_S A0 H0 H1 locs1 → H1[q9]? = some ce → ce.vm = .none → s.vm.findClass E = some ce.cls → vx_W p l e R s m args below meth c H1 locs1 (cells + mc) (slots + ms) Q (F0 m pc ls rest) q9)
    (kk : ∀ (u : S) (t : State) (H1 : Heap) (locs1 : List Loc), t.heap = H1 → s.vm.Alike t.vm → post u → B u t → H.size ≤ H1.size → (∀ q : Nat, q < H.size → ¬ A1 q → H1[q]? = H[q]?) → va_S A0 H0 H1 locs1 → W p l e R s m args below meth c H1 locs1 (cells + mc) (slots + ms) Q (F0 m (pc + 5) ls (rest))) : W p l e R s m args below meth c H locs cells slots Q (F0 m pc ls st0) := by
  intro T hT X
  rcases hr T hT X with ⟨v, st₀, t, T', L, h0, X', hL, e1, e2, ⟨⟨u, hv, hp, hb⟩, hF⟩, st⟩ | ⟨q, st₀, t, T', L, E, ce, h0, X', hL, e1, e2, ⟨u, hp, hb, hF⟩, hce, hcv, hcl, st⟩
  · cases hv
    obtain ⟨k1, k2, k3⟩ := vx_keep h0 e1 hS hA hf hL hF
    obtain ⟨t2, a1, b1⟩ := kk u t T'.heap (locs ++ L) e1.symm (by rw [← e2]; exact X'.warmed.alike) hp hb k1 k2 k3 T' rfl X'
    exact ⟨t2, st t2 a1, b1⟩
  · obtain ⟨k1, k2, k3⟩ := vx_keep h0 e1 hS hAX hf hL hF
    obtain ⟨t2, a1, b1⟩ := kx E ce q u t T'.heap (locs ++ L) e1.symm (by rw [← e2]; exact X'.warmed.alike) hp hb k1 k2 k3 (by rw [e1]; exact hce) hcv hcl T' rfl X'
    exact ⟨t2, st.trans a1, b1⟩
theorem vx_callFi {S SX : Type} {post : Int32 → S → Prop} {px : SX → Prop} {B : S → State → Prop} {BX : String → SX → State → Prop} {AX : Nat → Prop} (hr : vx_Run5 p l e R s m args below meth c H locs cells slots mc ms (F0 m pc ls st0) rest (va_Qi post B A1 a) (vx_X px BX AX) free) (hS : va_S A0 H0 H locs) (hA : ∀ q, q < H.size → A1 q → A0 q) (hf : ∀ q, free q → A0 q) (hAX : ∀ q, q < H.size → AX q → A0 q)
    (kx : ∀ (E : String) (ce : Cell) (q9 : Addr) (u : SX) (t : State) (H1 : Heap) (locs1 : List Loc), t.heap = H1 → s.vm.Alike t.vm → px u → BX E u t → H.size ≤ H1.size → (∀ q : Nat, q < H.size → ¬ AX q → H1[q]? = H[q]?) → va_S A0 H0 H1 locs1 → H1[q9]? = some ce → ce.vm = .none → s.vm.findClass E = some ce.cls → vx_W p l e R s m args below meth c H1 locs1 (cells + mc) (slots + ms) Q (F0 m pc ls rest) q9)
    (kk : ∀ (r : Int32) (u : S) (t : State) (H1 : Heap) (locs1 : List Loc), t.heap = H1 → s.vm.Alike t.vm → post r u → B u t → H.size ≤ H1.size → (∀ q : Nat, q < H.size → ¬ A1 q → H1[q]? = H[q]?) → va_S A0 H0 H1 locs1 → W p l e R s m args below meth c H1 locs1 (cells + mc) (slots + ms) Q (F0 m (pc + 5) ls (.int r :: rest))) : W p l e R s m args below meth c H locs cells slots Q (F0 m pc ls st0) := by
  intro T hT X
  rcases hr T hT X with ⟨v, st₀, t, T', L, h0, X', hL, e1, e2, ⟨⟨r, u, hv, hp, hb⟩, hF⟩, st⟩ | ⟨q, st₀, t, T', L, E, ce, h0, X', hL, e1, e2, ⟨u, hp, hb, hF⟩, hce, hcv, hcl, st⟩
  · cases hv
    obtain ⟨k1, k2, k3⟩ := vx_keep h0 e1 hS hA hf hL hF
    obtain ⟨t2, a1, b1⟩ := kk r u t T'.heap (locs ++ L) e1.symm (by rw [← e2]; exact X'.warmed.alike) hp hb k1 k2 k3 T' rfl X'
    exact ⟨t2, st t2 a1, b1⟩
  · obtain ⟨k1, k2, k3⟩ := vx_keep h0 e1 hS hAX hf hL hF
    obtain ⟨t2, a1, b1⟩ := kx E ce q u t T'.heap (locs ++ L) e1.symm (by rw [← e2]; exact X'.warmed.alike) hp hb k1 k2 k3 (by rw [e1]; exact hce) hcv hcl T' rfl X'
    exact ⟨t2, st.trans a1, b1⟩
theorem vx_callFl {S SX : Type} {post : Int64 → S → Prop} {px : SX → Prop} {B : S → State → Prop} {BX : String → SX → State → Prop} {AX : Nat → Prop} (hr : vx_Run5 p l e R s m args below meth c H locs cells slots mc ms (F0 m pc ls st0) rest (va_Ql post B A1 a) (vx_X px BX AX) free) (hS : va_S A0 H0 H locs) (hA : ∀ q, q < H.size → A1 q → A0 q) (hf : ∀ q, free q → A0 q) (hAX : ∀ q, q < H.size → AX q → A0 q)
    (kx : ∀ (E : String) (ce : Cell) (q9 : Addr) (u : SX) (t : State) (H1 : Heap) (locs1 : List Loc), t.heap = H1 → s.vm.Alike t.vm → px u → BX E u t → H.size ≤ H1.size → (∀ q : Nat, q < H.size → ¬ AX q → H1[q]? = H[q]?) → va_S A0 H0 H1 locs1 → H1[q9]? = some ce → ce.vm = .none → s.vm.findClass E = some ce.cls → vx_W p l e R s m args below meth c H1 locs1 (cells + mc) (slots + ms) Q (F0 m pc ls rest) q9)
    (kk : ∀ (r : Int64) (u : S) (t : State) (H1 : Heap) (locs1 : List Loc), t.heap = H1 → s.vm.Alike t.vm → post r u → B u t → H.size ≤ H1.size → (∀ q : Nat, q < H.size → ¬ A1 q → H1[q]? = H[q]?) → va_S A0 H0 H1 locs1 → W p l e R s m args below meth c H1 locs1 (cells + mc) (slots + ms) Q (F0 m (pc + 5) ls (.long r :: rest))) : W p l e R s m args below meth c H locs cells slots Q (F0 m pc ls st0) := by
  intro T hT X
  rcases hr T hT X with ⟨v, st₀, t, T', L, h0, X', hL, e1, e2, ⟨⟨r, u, hv, hp, hb⟩, hF⟩, st⟩ | ⟨q, st₀, t, T', L, E, ce, h0, X', hL, e1, e2, ⟨u, hp, hb, hF⟩, hce, hcv, hcl, st⟩
  · cases hv
    obtain ⟨k1, k2, k3⟩ := vx_keep h0 e1 hS hA hf hL hF
    obtain ⟨t2, a1, b1⟩ := kk r u t T'.heap (locs ++ L) e1.symm (by rw [← e2]; exact X'.warmed.alike) hp hb k1 k2 k3 T' rfl X'
    exact ⟨t2, st t2 a1, b1⟩
  · obtain ⟨k1, k2, k3⟩ := vx_keep h0 e1 hS hAX hf hL hF
    obtain ⟨t2, a1, b1⟩ := kx E ce q u t T'.heap (locs ++ L) e1.symm (by rw [← e2]; exact X'.warmed.alike) hp hb k1 k2 k3 (by rw [e1]; exact hce) hcv hcl T' rfl X'
    exact ⟨t2, st.trans a1, b1⟩
theorem vx_callFf {S SX : Type} {post : UInt32 → S → Prop} {px : SX → Prop} {B : S → State → Prop} {BX : String → SX → State → Prop} {AX : Nat → Prop} (hr : vx_Run5 p l e R s m args below meth c H locs cells slots mc ms (F0 m pc ls st0) rest (va_Qf post B A1 a) (vx_X px BX AX) free) (hS : va_S A0 H0 H locs) (hA : ∀ q, q < H.size → A1 q → A0 q) (hf : ∀ q, free q → A0 q) (hAX : ∀ q, q < H.size → AX q → A0 q)
    (kx : ∀ (E : String) (ce : Cell) (q9 : Addr) (u : SX) (t : State) (H1 : Heap) (locs1 : List Loc), t.heap = H1 → s.vm.Alike t.vm → px u → BX E u t → H.size ≤ H1.size → (∀ q : Nat, q < H.size → ¬ AX q → H1[q]? = H[q]?) → va_S A0 H0 H1 locs1 → H1[q9]? = some ce → ce.vm = .none → s.vm.findClass E = some ce.cls → vx_W p l e R s m args below meth c H1 locs1 (cells + mc) (slots + ms) Q (F0 m pc ls rest) q9)
    (kk : ∀ (r : UInt32) (u : S) (t : State) (H1 : Heap) (locs1 : List Loc), t.heap = H1 → s.vm.Alike t.vm → post r u → B u t → H.size ≤ H1.size → (∀ q : Nat, q < H.size → ¬ A1 q → H1[q]? = H[q]?) → va_S A0 H0 H1 locs1 → W p l e R s m args below meth c H1 locs1 (cells + mc) (slots + ms) Q (F0 m (pc + 5) ls (.float r :: rest))) : W p l e R s m args below meth c H locs cells slots Q (F0 m pc ls st0) := by
  intro T hT X
  rcases hr T hT X with ⟨v, st₀, t, T', L, h0, X', hL, e1, e2, ⟨⟨r, u, hv, hp, hb⟩, hF⟩, st⟩ | ⟨q, st₀, t, T', L, E, ce, h0, X', hL, e1, e2, ⟨u, hp, hb, hF⟩, hce, hcv, hcl, st⟩
  · cases hv
    obtain ⟨k1, k2, k3⟩ := vx_keep h0 e1 hS hA hf hL hF
    obtain ⟨t2, a1, b1⟩ := kk r u t T'.heap (locs ++ L) e1.symm (by rw [← e2]; exact X'.warmed.alike) hp hb k1 k2 k3 T' rfl X'
    exact ⟨t2, st t2 a1, b1⟩
  · obtain ⟨k1, k2, k3⟩ := vx_keep h0 e1 hS hAX hf hL hF
    obtain ⟨t2, a1, b1⟩ := kx E ce q u t T'.heap (locs ++ L) e1.symm (by rw [← e2]; exact X'.warmed.alike) hp hb k1 k2 k3 (by rw [e1]; exact hce) hcv hcl T' rfl X'
    exact ⟨t2, st.trans a1, b1⟩
theorem vx_callFd {S SX : Type} {post : UInt64 → S → Prop} {px : SX → Prop} {B : S → State → Prop} {BX : String → SX → State → Prop} {AX : Nat → Prop} (hr : vx_Run5 p l e R s m args below meth c H locs cells slots mc ms (F0 m pc ls st0) rest (va_Qd post B A1 a) (vx_X px BX AX) free) (hS : va_S A0 H0 H locs) (hA : ∀ q, q < H.size → A1 q → A0 q) (hf : ∀ q, free q → A0 q) (hAX : ∀ q, q < H.size → AX q → A0 q)
    (kx : ∀ (E : String) (ce : Cell) (q9 : Addr) (u : SX) (t : State) (H1 : Heap) (locs1 : List Loc), t.heap = H1 → s.vm.Alike t.vm → px u → BX E u t → H.size ≤ H1.size → (∀ q : Nat, q < H.size → ¬ AX q → H1[q]? = H[q]?) → va_S A0 H0 H1 locs1 → H1[q9]? = some ce → ce.vm = .none → s.vm.findClass E = some ce.cls → vx_W p l e R s m args below meth c H1 locs1 (cells + mc) (slots + ms) Q (F0 m pc ls rest) q9)
    (kk : ∀ (r : UInt64) (u : S) (t : State) (H1 : Heap) (locs1 : List Loc), t.heap = H1 → s.vm.Alike t.vm → post r u → B u t → H.size ≤ H1.size → (∀ q : Nat, q < H.size → ¬ A1 q → H1[q]? = H[q]?) → va_S A0 H0 H1 locs1 → W p l e R s m args below meth c H1 locs1 (cells + mc) (slots + ms) Q (F0 m (pc + 5) ls (.double r :: rest))) : W p l e R s m args below meth c H locs cells slots Q (F0 m pc ls st0) := by
  intro T hT X
  rcases hr T hT X with ⟨v, st₀, t, T', L, h0, X', hL, e1, e2, ⟨⟨r, u, hv, hp, hb⟩, hF⟩, st⟩ | ⟨q, st₀, t, T', L, E, ce, h0, X', hL, e1, e2, ⟨u, hp, hb, hF⟩, hce, hcv, hcl, st⟩
  · cases hv
    obtain ⟨k1, k2, k3⟩ := vx_keep h0 e1 hS hA hf hL hF
    obtain ⟨t2, a1, b1⟩ := kk r u t T'.heap (locs ++ L) e1.symm (by rw [← e2]; exact X'.warmed.alike) hp hb k1 k2 k3 T' rfl X'
    exact ⟨t2, st t2 a1, b1⟩
  · obtain ⟨k1, k2, k3⟩ := vx_keep h0 e1 hS hAX hf hL hF
    obtain ⟨t2, a1, b1⟩ := kx E ce q u t T'.heap (locs ++ L) e1.symm (by rw [← e2]; exact X'.warmed.alike) hp hb k1 k2 k3 (by rw [e1]; exact hce) hcv hcl T' rfl X'
    exact ⟨t2, st.trans a1, b1⟩
end
/-! ===== END ===== -/
/-! ===== BEGIN by an interface, a method with a table of its own that may throw (follows va_callIFW, va_runFW) ===== -/
section
variable {p : Program} {l : Launch} {e : Env} {R : Room} {s : State} {m : MethodId} {args : Array Value} {below : List Frame} {meth : Method} {c : Code} {H : Heap} {locs : List Loc} {cells slots : Nat}
theorem vx_callIFW {T : State} (X : Stand p l e R s m args below meth c T locs cells slots) (hexec : p.tables.exec = Jvm.exec) {own C : String} {index count : Nat} {x y : MethodName} {bytes : ByteArray} {maxL : Nat} {ret : Option FieldType} {hh : List (Nat × Nat × Nat × Nat)}
    (hown : s.vm.findClass own = some m.cls) (hlink : (Cond.methodLink own index x).before args s = true) (hdecl : (Cond.declares x).before args s = true) (hface : (Cond.interfaceMethod x.cls x.cls x.name x.desc).before args s = true)
    (hsel : (Cond.selects C x y).before args s = true) (hinst : (Cond.instanceMethod y).before args s = true) (hpub : (Cond.publicMethod y).before args s = true) (hunh : (Cond.unhidden C x.name x.desc).before args s = true)
    (hcast : (Cond.castable C x.cls).before args s = true) (hcode : (Cond.codeWith y bytes maxL ret hh).before args s = true) (hx : x.cls ≠ "java/lang/invoke/MethodHandle" ∧ x.cls ≠ "java/lang/invoke/VarHandle")
    {W : Nat} {Pre : Pt → Array Value → Prop} {Post : Pt → Array Value → Option Value → Pt → Prop} {PostX : Pt → Array Value → Addr → Pt → Prop} (hK : vx_Back l R p e below s args y 5 W Pre Post PostX)
    {b : Addr} {cellB : Cell} {kB : Class} (hcell : T.heap[b]? = some cellB) (hobj : cellB.vm.isStatics = false) (hcls : s.vm.findClass C = some cellB.cls) (hkB : s.vm.classes[cellB.cls]? = some kB)
    {g : JFrame} (hg : g.method = m) (hsize : g.locals.size = c.maxLocals) {argsL rest : List Value} (hlen : ∀ sig, parseMethodDescriptor x.desc = some sig → argsL.length = sig.parameters.length)
    (hstack : g.stack = argsL.reverse ++ .ref b :: rest) (hW : 2 * g.monitorRoom + (rest.map fun v => v.category).sum ≤ W) (hdg : decode c.code g.pc = .ok (.invokeinterface index count, 5))
    (hpre : ∀ vm₁, s.WarmedH vm₁ → Pre ⟨T.setVm vm₁, locs, cells, slots⟩ (Value.ref b :: argsL).toArray) :
    (∃ (v : Option Value) (vm₁ : Vm) (B : Pt), s.WarmedH vm₁ ∧ Stand p l e R s m args below meth c B.U B.locs B.cells B.slots ∧ Post ⟨T.setVm vm₁, locs, cells, slots⟩ (Value.ref b :: argsL).toArray v B ∧
      ∀ target, Steps p.tables e below (B.U.setTop { g with pc := g.pc + 5, stack := v.toList ++ rest }) target → Steps p.tables e below (T.setTop g) target) ∨
    (∃ (q : Addr) (vm₁ : Vm) (B : Pt), s.WarmedH vm₁ ∧ Stand p l e R s m args below meth c B.U B.locs B.cells B.slots ∧ PostX ⟨T.setVm vm₁, locs, cells, slots⟩ (Value.ref b :: argsL).toArray q B ∧
      Steps p.tables e below (T.setTop g) ((B.U.setTop { g with stack := rest }).pushFrame (.throwing q))) := by
  obtain ⟨r0, r, hn, hrm, hstR, hsigR⟩ := Cond.declares_spec hdecl
  obtain ⟨cL, kL, r1, hcL, hkL, hiL, hfoundL, hn1⟩ := Cond.interfaceMethod_spec hface
  cases hn.symm.trans hn1
  have hr0cls : r0.cls = cL := Option.some.inj ((findClass_of_methodNamed hn).symm.trans hcL)
  obtain ⟨hnameR, hdescR⟩ := name_of_methodNamed hn hrm
  obtain ⟨mk, methM, hnamed, hmethM, -, habM⟩ := Cond.instanceMethod_spec hinst
  obtain ⟨c2, r2, m2, q1, q2, q3, q4, -⟩ := Cond.selects_spec hsel
  cases hcls.symm.trans q1
  cases hfoundL.symm.trans q2
  cases hnamed.symm.trans q3
  have hselP : selectMethod e.platform s.vm cellB.cls r0 = .method mk := by rw [Launch.admits_selectMethod X.admits]; exact q4
  have hpubM : hasFlag methM.accessFlags Acc.public_ = true := Cond.publicMethod_spec hnamed hmethM hpub
  have hway : ((cellB.cls :: s.vm.superclasses cellB.cls).any fun k => (declaredIn s.vm r.name r.desc k).any fun (_, z) => z.isPrivate || z.isStatic) = false := by
    rw [hnameR, hdescR]; exact Cond.unhidden_spec hcls hunh
  obtain ⟨c3, t3, w1, w2, w3⟩ := Cond.castable_spec hcast
  cases hcls.symm.trans w1
  cases hcL.symm.trans w2
  obtain ⟨vm₁, X₁, hstep₁⟩ := X.invokeinterface hexec hown hlink hn hrm hstR (by rw [hr0cls]; exact hkL) hiL hx (a := b) (cell := cellB) (kcell := kB) hcell
    (fun z h => by rw [h] at hobj; cases hobj) hkB (by rw [hr0cls]; exact w3) hselP hmethM hway hpubM habM (g := g) hg (argsL := argsL) (rest := rest) (hlen _ hsigR) hstack hdg
  rcases hK m meth c ⟨T.setVm vm₁, locs, cells, slots⟩ { g with stack := rest } (.invokeinterface index count) mk (Value.ref b :: argsL).toArray X₁ hg hsize hdg hW (X₁.named hnamed) (hpre vm₁ X₁.warmed) with ⟨v, B, X', hpost, hsteps⟩ | ⟨q, B, X', hpost, hsteps⟩
  · exact Or.inl ⟨v, vm₁, B, X₁.warmed, X', hpost, fun target h => hstep₁ _ fun acts => by rw [doInvoke_state]; exact hsteps.trans h⟩
  · exact Or.inr ⟨q, vm₁, B, X₁.warmed, X', hpost, hstep₁ _ fun acts => by rw [doInvoke_state]; exact hsteps⟩
theorem vx_runFW {x y : MethodName} {bytes cc : ByteArray} {maxL nL mc ms n index count : Nat} {ret : Option FieldType} {hh : List (Nat × Nat × Nat × Nat)} {ws : List Cond} {rm : Room} {Pc : Array Value → State → Prop} {Qc : Array Value → State → Outcome → State → Prop} {XC : String → State → State → Prop} {free : Addr → Prop} {Ts : List Cond} {own C : String} {cC : ClassId} {b : Addr} {As rest : List Value} {g : JFrame}
    (hat : ClassAt s C cC) (S : CallFix p m c cc nL s args Ts own) (hM : vx_Met l y ws rm Pc Qc XC mc ms free) (cw : va_CIW R s args own C index x y bytes maxL ret hh ws rm mc ms n) (hp : PreV s H C b Pc As)
    (hg : g.method = m) (hn : As.length = n) (hsize : g.locals.size = nL) (hstack : g.stack = As.reverse ++ .ref b :: rest) (hW : 2 * g.monitorRoom + (rest.map fun v => v.category).sum ≤ 8) (hdg : decode cc g.pc = .ok (.invokeinterface index count, 5)) (hf : cells + mc ≤ R.cells ∧ slots + ms ≤ R.slots) :
    vx_Run5 p l e R s m args below meth c H locs cells slots mc ms g rest (Qc (Value.ref b :: As).toArray) XC free := by
  obtain ⟨hrc, hrs, hfr, hlo, hws, hcw⟩ := cw.back
  have hini := cw.init
  have hK : vx_Back l R p e below s args y 5 8 (PreOf R mc ms Pc) (PostOf Qc mc ms free) (vx_Post XC mc ms free) := vx_backW (hh := hh) (bytes := bytes) (maxL := maxL) (ret := ret) hM hp.1 hrc hrs hfr hlo hws hcw (fun a' U hW => word_at hW (Or.inl (by first | rfl | simp [Cond.onTables, Cond.keeps, Cond.steady])) hini)
  obtain ⟨hx, hb, hml, ho, -⟩ := S
  obtain ⟨-, ⟨cellB, hcB, hoB, hclB⟩, hPc⟩ := hp
  obtain ⟨hfc, kB, hkB, -⟩ := hat
  cases hfc.symm.trans hclB
  intro T hT X
  rcases vx_callIFW X hx (C := C) (hh := hh) (bytes := bytes) (maxL := maxL) (ret := ret) ho cw.link cw.decl cw.face cw.sel cw.inst cw.pub cw.unh cw.cast cw.code cw.notMH hK (by rw [hT]; exact hcB) hoB hclB hkB hg (hsize.trans hml.symm) (argsL := As) (rest := rest) (fun sig h => hn.trans (cw.len sig h)) hstack hW (by rw [hb]; exact hdg)
    (fun vm₁ hW₁ => ⟨hf.1, hf.2, hPc (T.setVm vm₁) hT hW₁⟩) with ⟨v, vm₁, ⟨U', l2, c2, s2⟩, hW₁, X', ⟨g', mk, t, L, e1, e2, hq, h1, hL, h2, h3⟩, st⟩ | ⟨q, vm₁, ⟨U', l2, c2, s2⟩, hW₁, X', ⟨g', mk, t, L, E, ce, e1, e2, hq, hce, hcv, hcl, h1, hL, h2, h3⟩, st⟩
  · dsimp only [Pt.U, Pt.locs, Pt.cells, Pt.slots] at X' e1 e2 h1 h2 h3 st
    subst h1; subst h2; subst h3
    exact Or.inl ⟨v, (T.setVm vm₁).calling g' mk (Value.ref b :: As).toArray, t, U', L, hT, X', hL, e1, e2, hq, st⟩
  · dsimp only [Pt.U, Pt.locs, Pt.cells, Pt.slots] at X' e1 e2 h1 h2 h3 st hcl
    subst h1; subst h2; subst h3
    exact Or.inr ⟨q, (T.setVm vm₁).calling g' mk (Value.ref b :: As).toArray, t, U', L, E, ce, hT, X', hL, e1, e2, hq, hce, hcv, vx_cls hW₁ hcl, st⟩
end
/-! ===== END ===== -/
/-! ===== BEGIN .. of methods that hand back an object of the pool ===== -/
section
variable {p : Program} {l : Launch} {e : Env} {R : Room} {s : State} {m : MethodId} {args : Array Value} {below : List Frame} {meth : Method} {c : Code} {H : Heap} {locs : List Loc} {cells slots : Nat} {Q : State → Prop}
variable {mc ms : Nat} {free : Addr → Prop} {A0 A1 : Nat → Prop} {H0 : Heap} {a : Array Value} {pc : Nat} {ls : Array Slot} {st0 rest : List Value}
theorem vx_callq {S SX : Type} {post : Option Nat → S → Prop} {px : SX → Prop} {B : S → State → Prop} {BX : String → SX → State → Prop} {AX : Nat → Prop} (hr : vx_Run p l e R s m args below meth c H locs cells slots mc ms (F0 m pc ls st0) rest (va_Qq post B A1 a) (vx_X px BX AX) free) (hS : va_S A0 H0 H locs) (hA : ∀ q, q < H.size → A1 q → A0 q) (hf : ∀ q, free q → A0 q) (hAX : ∀ q, q < H.size → AX q → A0 q)
    (kx : ∀ (E : String) (ce : Cell) (q9 : Addr) (u : SX) (t : State) (H1 : Heap) (locs1 : List Loc), t.heap = H1 → s.vm.Alike t.vm → px u → BX E u t → H.size ≤ H1.size → (∀ q : Nat, q < H.size → ¬ AX q → H1[q]? = H[q]?) → va_S A0 H0 H1 locs1 → H1[q9]? = some ce → ce.vm = .none → s.vm.findClass E = some ce.cls → vx_W p l e R s m args below meth c H1 locs1 (cells + mc) (slots + ms) Q (F0 m pc ls rest) q9)
    (kk : ∀ (r : Option Nat) (u : S) (t : State) (H1 : Heap) (locs1 : List Loc), t.heap = H1 → s.vm.Alike t.vm → post r u → B u t → H.size ≤ H1.size → (∀ q : Nat, q < H.size → ¬ A1 q → H1[q]? = H[q]?) → va_S A0 H0 H1 locs1 → W p l e R s m args below meth c H1 locs1 (cells + mc) (slots + ms) Q (F0 m (pc + 3) ls (va_rf r :: rest))) : W p l e R s m args below meth c H locs cells slots Q (F0 m pc ls st0) := by
  intro T hT X
  rcases hr T hT X with ⟨v, st₀, t, T', L, h0, X', hL, e1, e2, ⟨⟨r, u, hv, hp, hb⟩, hF⟩, st⟩ | ⟨q, st₀, t, T', L, E, ce, h0, X', hL, e1, e2, ⟨u, hp, hb, hF⟩, hce, hcv, hcl, st⟩
  · cases hv
    obtain ⟨k1, k2, k3⟩ := vx_keep h0 e1 hS hA hf hL hF
    obtain ⟨t2, a1, b1⟩ := kk r u t T'.heap (locs ++ L) e1.symm (by rw [← e2]; exact X'.warmed.alike) hp hb k1 k2 k3 T' rfl X'
    exact ⟨t2, st t2 a1, b1⟩
  · obtain ⟨k1, k2, k3⟩ := vx_keep h0 e1 hS hAX hf hL hF
    obtain ⟨t2, a1, b1⟩ := kx E ce q u t T'.heap (locs ++ L) e1.symm (by rw [← e2]; exact X'.warmed.alike) hp hb k1 k2 k3 (by rw [e1]; exact hce) hcv hcl T' rfl X'
    exact ⟨t2, st.trans a1, b1⟩
end
/-! ===== END ===== -/
/-! ===== BEGIN .. a constant ===== -/
section
variable {p : Program} {l : Launch} {e : Env} {R : Room} {s : State} {m : MethodId} {args : Array Value} {below : List Frame} {meth : Method} {c : Code} {H : Heap} {locs : List Loc} {cells slots : Nat} {Q : State → Prop}
variable {mc ms : Nat} {free : Addr → Prop} {A0 A1 : Nat → Prop} {H0 : Heap} {a : Array Value} {pc : Nat} {ls : Array Slot} {st0 rest : List Value}
theorem vx_calle {ad : Nat → Nat} {S SX : Type} {post : Option Nat → S → Prop} {px : SX → Prop} {B : S → State → Prop} {BX : String → SX → State → Prop} {AX : Nat → Prop} (hr : vx_Run p l e R s m args below meth c H locs cells slots mc ms (F0 m pc ls st0) rest (va_Qe ad post B A1 a) (vx_X px BX AX) free) (hS : va_S A0 H0 H locs) (hA : ∀ q, q < H.size → A1 q → A0 q) (hf : ∀ q, free q → A0 q) (hAX : ∀ q, q < H.size → AX q → A0 q)
    (kx : ∀ (E : String) (ce : Cell) (q9 : Addr) (u : SX) (t : State) (H1 : Heap) (locs1 : List Loc), t.heap = H1 → s.vm.Alike t.vm → px u → BX E u t → H.size ≤ H1.size → (∀ q : Nat, q < H.size → ¬ AX q → H1[q]? = H[q]?) → va_S A0 H0 H1 locs1 → H1[q9]? = some ce → ce.vm = .none → s.vm.findClass E = some ce.cls → vx_W p l e R s m args below meth c H1 locs1 (cells + mc) (slots + ms) Q (F0 m pc ls rest) q9)
    (kk : ∀ (r : Option Nat) (u : S) (t : State) (H1 : Heap) (locs1 : List Loc), t.heap = H1 → s.vm.Alike t.vm → post r u → B u t → H.size ≤ H1.size → (∀ q : Nat, q < H.size → ¬ A1 q → H1[q]? = H[q]?) → va_S A0 H0 H1 locs1 → W p l e R s m args below meth c H1 locs1 (cells + mc) (slots + ms) Q (F0 m (pc + 3) ls (va_re ad r :: rest))) : W p l e R s m args below meth c H locs cells slots Q (F0 m pc ls st0) := by
  intro T hT X
  rcases hr T hT X with ⟨v, st₀, t, T', L, h0, X', hL, e1, e2, ⟨⟨r, u, hv, hp, hb⟩, hF⟩, st⟩ | ⟨q, st₀, t, T', L, E, ce, h0, X', hL, e1, e2, ⟨u, hp, hb, hF⟩, hce, hcv, hcl, st⟩
  · cases hv
    obtain ⟨k1, k2, k3⟩ := vx_keep h0 e1 hS hA hf hL hF
    obtain ⟨t2, a1, b1⟩ := kk r u t T'.heap (locs ++ L) e1.symm (by rw [← e2]; exact X'.warmed.alike) hp hb k1 k2 k3 T' rfl X'
    exact ⟨t2, st t2 a1, b1⟩
  · obtain ⟨k1, k2, k3⟩ := vx_keep h0 e1 hS hAX hf hL hF
    obtain ⟨t2, a1, b1⟩ := kx E ce q u t T'.heap (locs ++ L) e1.symm (by rw [← e2]; exact X'.warmed.alike) hp hb k1 k2 k3 (by rw [e1]; exact hce) hcv hcl T' rfl X'
    exact ⟨t2, st.trans a1, b1⟩
end
/-! ===== END ===== -/
/-! ===== BEGIN .. by an interface, an object ===== -/
section
variable {p : Program} {l : Launch} {e : Env} {R : Room} {s : State} {m : MethodId} {args : Array Value} {below : List Frame} {meth : Method} {c : Code} {H : Heap} {locs : List Loc} {cells slots : Nat} {Q : State → Prop}
variable {mc ms : Nat} {free : Addr → Prop} {A0 A1 : Nat → Prop} {H0 : Heap} {a : Array Value} {pc : Nat} {ls : Array Slot} {st0 rest : List Value}
theorem vx_callFq {S SX : Type} {post : Option Nat → S → Prop} {px : SX → Prop} {B : S → State → Prop} {BX : String → SX → State → Prop} {AX : Nat → Prop} (hr : vx_Run5 p l e R s m args below meth c H locs cells slots mc ms (F0 m pc ls st0) rest (va_Qq post B A1 a) (vx_X px BX AX) free) (hS : va_S A0 H0 H locs) (hA : ∀ q, q < H.size → A1 q → A0 q) (hf : ∀ q, free q → A0 q) (hAX : ∀ q, q < H.size → AX q → A0 q)
    (kx : ∀ (E : String) (ce : Cell) (q9 : Addr) (u : SX) (t : State) (H1 : Heap) (locs1 : List Loc), t.heap = H1 → s.vm.Alike t.vm → px u → BX E u t → H.size ≤ H1.size → (∀ q : Nat, q < H.size → ¬ AX q → H1[q]? = H[q]?) → va_S A0 H0 H1 locs1 → H1[q9]? = some ce → ce.vm = .none → s.vm.findClass E = some ce.cls → vx_W p l e R s m args below meth c H1 locs1 (cells + mc) (slots + ms) Q (F0 m pc ls rest) q9)
    (kk : ∀ (r : Option Nat) (u : S) (t : State) (H1 : Heap) (locs1 : List Loc), t.heap = H1 → s.vm.Alike t.vm → post r u → B u t → H.size ≤ H1.size → (∀ q : Nat, q < H.size → ¬ A1 q → H1[q]? = H[q]?) → va_S A0 H0 H1 locs1 → W p l e R s m args below meth c H1 locs1 (cells + mc) (slots + ms) Q (F0 m (pc + 5) ls (va_rf r :: rest))) : W p l e R s m args below meth c H locs cells slots Q (F0 m pc ls st0) := by
  intro T hT X
  rcases hr T hT X with ⟨v, st₀, t, T', L, h0, X', hL, e1, e2, ⟨⟨r, u, hv, hp, hb⟩, hF⟩, st⟩ | ⟨q, st₀, t, T', L, E, ce, h0, X', hL, e1, e2, ⟨u, hp, hb, hF⟩, hce, hcv, hcl, st⟩
  · cases hv
    obtain ⟨k1, k2, k3⟩ := vx_keep h0 e1 hS hA hf hL hF
    obtain ⟨t2, a1, b1⟩ := kk r u t T'.heap (locs ++ L) e1.symm (by rw [← e2]; exact X'.warmed.alike) hp hb k1 k2 k3 T' rfl X'
    exact ⟨t2, st t2 a1, b1⟩
  · obtain ⟨k1, k2, k3⟩ := vx_keep h0 e1 hS hAX hf hL hF
    obtain ⟨t2, a1, b1⟩ := kx E ce q u t T'.heap (locs ++ L) e1.symm (by rw [← e2]; exact X'.warmed.alike) hp hb k1 k2 k3 (by rw [e1]; exact hce) hcv hcl T' rfl X'
    exact ⟨t2, st.trans a1, b1⟩
end
/-! ===== END ===== -/
/-! ===== BEGIN .. by an interface, a constant ===== -/
section
variable {p : Program} {l : Launch} {e : Env} {R : Room} {s : State} {m : MethodId} {args : Array Value} {below : List Frame} {meth : Method} {c : Code} {H : Heap} {locs : List Loc} {cells slots : Nat} {Q : State → Prop}
variable {mc ms : Nat} {free : Addr → Prop} {A0 A1 : Nat → Prop} {H0 : Heap} {a : Array Value} {pc : Nat} {ls : Array Slot} {st0 rest : List Value}
theorem vx_callFe {ad : Nat → Nat} {S SX : Type} {post : Option Nat → S → Prop} {px : SX → Prop} {B : S → State → Prop} {BX : String → SX → State → Prop} {AX : Nat → Prop} (hr : vx_Run5 p l e R s m args below meth c H locs cells slots mc ms (F0 m pc ls st0) rest (va_Qe ad post B A1 a) (vx_X px BX AX) free) (hS : va_S A0 H0 H locs) (hA : ∀ q, q < H.size → A1 q → A0 q) (hf : ∀ q, free q → A0 q) (hAX : ∀ q, q < H.size → AX q → A0 q)
    (kx : ∀ (E : String) (ce : Cell) (q9 : Addr) (u : SX) (t : State) (H1 : Heap) (locs1 : List Loc), t.heap = H1 → s.vm.Alike t.vm → px u → BX E u t → H.size ≤ H1.size → (∀ q : Nat, q < H.size → ¬ AX q → H1[q]? = H[q]?) → va_S A0 H0 H1 locs1 → H1[q9]? = some ce → ce.vm = .none → s.vm.findClass E = some ce.cls → vx_W p l e R s m args below meth c H1 locs1 (cells + mc) (slots + ms) Q (F0 m pc ls rest) q9)
    (kk : ∀ (r : Option Nat) (u : S) (t : State) (H1 : Heap) (locs1 : List Loc), t.heap = H1 → s.vm.Alike t.vm → post r u → B u t → H.size ≤ H1.size → (∀ q : Nat, q < H.size → ¬ A1 q → H1[q]? = H[q]?) → va_S A0 H0 H1 locs1 → W p l e R s m args below meth c H1 locs1 (cells + mc) (slots + ms) Q (F0 m (pc + 5) ls (va_re ad r :: rest))) : W p l e R s m args below meth c H locs cells slots Q (F0 m pc ls st0) := by
  intro T hT X
  rcases hr T hT X with ⟨v, st₀, t, T', L, h0, X', hL, e1, e2, ⟨⟨r, u, hv, hp, hb⟩, hF⟩, st⟩ | ⟨q, st₀, t, T', L, E, ce, h0, X', hL, e1, e2, ⟨u, hp, hb, hF⟩, hce, hcv, hcl, st⟩
  · cases hv
    obtain ⟨k1, k2, k3⟩ := vx_keep h0 e1 hS hA hf hL hF
    obtain ⟨t2, a1, b1⟩ := kk r u t T'.heap (locs ++ L) e1.symm (by rw [← e2]; exact X'.warmed.alike) hp hb k1 k2 k3 T' rfl X'
    exact ⟨t2, st t2 a1, b1⟩
  · obtain ⟨k1, k2, k3⟩ := vx_keep h0 e1 hS hAX hf hL hF
    obtain ⟨t2, a1, b1⟩ := kx E ce q u t T'.heap (locs ++ L) e1.symm (by rw [← e2]; exact X'.warmed.alike) hp hb k1 k2 k3 (by rw [e1]; exact hce) hcv hcl T' rfl X'
    exact ⟨t2, st.trans a1, b1⟩
end
/-! ===== END ===== -/
/-! ===== BEGIN what the machine throws by itself: null at a field, at athrow ===== -/
section VXM2
variable {p : Program} {l : Launch} {e : Env} {R : Room} {s : State} {m : MethodId} {args : Array Value} {below : List Frame} {meth : Method} {c : Code} {H : Heap} {locs : List Loc} {cells slots : Nat}
variable {Q : State → Prop} {cc : ByteArray} {pc : Nat} {ls : Array Slot} {rest : List Value}
theorem vx_getfN {D cl tys} {own ref C : String} {T : u_T} {N ci index : Nat} {Ts : List Cond} (hexec : p.tables.exec = Jvm.exec) (hb : c.code = cc) (hts : ∀ w ∈ Ts, w.before args s = true) (hin : ∀ w ∈ u_ws C T N, w ∈ Ts) (hown : s.vm.findClass own = some m.cls) (hK : va_K D cl tys s) (hc : cl[ci]? = some (C, T, N)) (k : Nat) (hk : k < N) (hlink : (Cond.fieldLink own index ref (T k).2.1 (T k).2.2.1).before args s = true) (hsame : ∀ x, s.fieldFound? (T k).1 (T k).2.1 (T k).2.2.1 = some x → s.fieldFound? ref (T k).2.1 (T k).2.2.1 = some x) (hdg : decode cc pc = .ok (.getfield index, 3)) (kk : vx_NoteN p l e R s m args below meth c H locs cells slots Q (F0 m pc ls rest)) : W p l e R s m args below meth c H locs cells slots Q (F0 m pc ls (.null :: rest)) := by
  obtain ⟨hS, hfc, kC, hkC, -⟩ := hK.1 ci _ hc
  obtain ⟨cf, kf, fi, f, hi, -⟩ := hS k hk
  intro U hU X
  obtain ⟨vm', X1, st1⟩ := X.getfieldNull hexec hown hlink (hsame _ hi) (u_facts hfc hkC (u_lays hts hin hk) hi).1 (g := F0 m pc ls (.null :: rest)) rfl (rest := rest) rfl (by rw [hb]; exact hdg)
  obtain ⟨t, st, q⟩ := kk (U.setVm vm') hU X1
  exact ⟨t, st1 t st, q⟩
theorem vx_getfNN {D cl tys} {own ref C host : String} {T : u_T} {N ci index : Nat} {Ts : List Cond} (hexec : p.tables.exec = Jvm.exec) (hb : c.code = cc) (hts : ∀ w ∈ Ts, w.before args s = true) (hin : ∀ w ∈ u_ws C T N, w ∈ Ts) (hown : s.vm.findClass own = some m.cls) (hK : va_K D cl tys s) (hc : cl[ci]? = some (C, T, N)) (k : Nat) (hk : k < N) (hlink : (Cond.fieldLinkNest own index ref (T k).2.1 (T k).2.2.1 host).before args s = true) (hsame : ∀ x, s.fieldFound? (T k).1 (T k).2.1 (T k).2.2.1 = some x → s.fieldFound? ref (T k).2.1 (T k).2.2.1 = some x) (hdg : decode cc pc = .ok (.getfield index, 3)) (kk : vx_NoteN p l e R s m args below meth c H locs cells slots Q (F0 m pc ls rest)) : W p l e R s m args below meth c H locs cells slots Q (F0 m pc ls (.null :: rest)) := by
  obtain ⟨hS, hfc, kC, hkC, -⟩ := hK.1 ci _ hc
  obtain ⟨cf, kf, fi, f, hi, -⟩ := hS k hk
  intro U hU X
  obtain ⟨vm', X1, st1⟩ := X.getfieldNullNest hexec hown hlink (hsame _ hi) (u_facts hfc hkC (u_lays hts hin hk) hi).1 (g := F0 m pc ls (.null :: rest)) rfl (rest := rest) rfl (by rw [hb]; exact hdg)
  obtain ⟨t, st, q⟩ := kk (U.setVm vm') hU X1
  exact ⟨t, st1 t st, q⟩
theorem vx_putfN {D cl tys} {own ref C : String} {T : u_T} {N ci index : Nat} {Ts : List Cond} (hexec : p.tables.exec = Jvm.exec) (hb : c.code = cc) (hts : ∀ w ∈ Ts, w.before args s = true) (hin : ∀ w ∈ u_ws C T N, w ∈ Ts) (hown : s.vm.findClass own = some m.cls) (hK : va_K D cl tys s) (hc : cl[ci]? = some (C, T, N)) (k : Nat) (hk : k < N) (hlink : (Cond.fieldLink own index ref (T k).2.1 (T k).2.2.1).before args s = true) (hsame : ∀ x, s.fieldFound? (T k).1 (T k).2.1 (T k).2.2.1 = some x → s.fieldFound? ref (T k).2.1 (T k).2.2.1 = some x) (hfin : (T k).2.2.2 = false) {v : Value} (hdg : decode cc pc = .ok (.putfield index, 3)) (kk : vx_NoteN p l e R s m args below meth c H locs cells slots Q (F0 m pc ls rest)) : W p l e R s m args below meth c H locs cells slots Q (F0 m pc ls (v :: .null :: rest)) := by
  obtain ⟨hS, hfc, kC, hkC, -⟩ := hK.1 ci _ hc
  obtain ⟨cf, kf, fi, f, hi, -⟩ := hS k hk
  have hlay := hts _ (hin _ (u_in_lay hk))
  unfold u_lay at hlay
  rw [if_neg (by rw [hfin]; decide)] at hlay
  obtain ⟨c9, k9, cf9, kf9, fi9, f9, -, -, hi9, hst9, hnf9, -⟩ := Cond.lays_spec hlay
  cases hi.symm.trans hi9
  intro U hU X
  obtain ⟨vm', X1, st1⟩ := X.putfieldNull hexec hown hlink (hsame _ hi) hst9 hnf9 (g := F0 m pc ls (v :: .null :: rest)) rfl (v := v) (rest := rest) rfl (by rw [hb]; exact hdg)
  obtain ⟨t, st, q⟩ := kk (U.setVm vm') hU X1
  exact ⟨t, st1 t st, q⟩
theorem vx_putfNN {D cl tys} {own ref C host : String} {T : u_T} {N ci index : Nat} {Ts : List Cond} (hexec : p.tables.exec = Jvm.exec) (hb : c.code = cc) (hts : ∀ w ∈ Ts, w.before args s = true) (hin : ∀ w ∈ u_ws C T N, w ∈ Ts) (hown : s.vm.findClass own = some m.cls) (hK : va_K D cl tys s) (hc : cl[ci]? = some (C, T, N)) (k : Nat) (hk : k < N) (hlink : (Cond.fieldLinkNest own index ref (T k).2.1 (T k).2.2.1 host).before args s = true) (hsame : ∀ x, s.fieldFound? (T k).1 (T k).2.1 (T k).2.2.1 = some x → s.fieldFound? ref (T k).2.1 (T k).2.2.1 = some x) (hfin : (T k).2.2.2 = false) {v : Value} (hdg : decode cc pc = .ok (.putfield index, 3)) (kk : vx_NoteN p l e R s m args below meth c H locs cells slots Q (F0 m pc ls rest)) : W p l e R s m args below meth c H locs cells slots Q (F0 m pc ls (v :: .null :: rest)) := by
  obtain ⟨hS, hfc, kC, hkC, -⟩ := hK.1 ci _ hc
  obtain ⟨cf, kf, fi, f, hi, -⟩ := hS k hk
  have hlay := hts _ (hin _ (u_in_lay hk))
  unfold u_lay at hlay
  rw [if_neg (by rw [hfin]; decide)] at hlay
  obtain ⟨c9, k9, cf9, kf9, fi9, f9, -, -, hi9, hst9, hnf9, -⟩ := Cond.lays_spec hlay
  cases hi.symm.trans hi9
  intro U hU X
  obtain ⟨vm', X1, st1⟩ := X.putfieldNullNest hexec hown hlink (hsame _ hi) hst9 hnf9 (g := F0 m pc ls (v :: .null :: rest)) rfl (v := v) (rest := rest) rfl (by rw [hb]; exact hdg)
  obtain ⟨t, st, q⟩ := kk (U.setVm vm') hU X1
  exact ⟨t, st1 t st, q⟩
theorem vx_athrowN (hexec : p.tables.exec = Jvm.exec) (hb : c.code = cc) (hdg : decode cc pc = .ok (.athrow, 1)) (k : vx_NoteN p l e R s m args below meth c H locs cells slots Q (F0 m pc ls rest)) : W p l e R s m args below meth c H locs cells slots Q (F0 m pc ls (.null :: rest)) := by
  intro T hT X
  obtain ⟨t, st, q⟩ := k T hT X
  exact ⟨t, X.athrowNull hexec (g := F0 m pc ls (.null :: rest)) rfl (rest := rest) rfl (by rw [hb]; exact hdg) t st, q⟩
end VXM2
/-! ===== END ===== -/
end
section
/-! A SMALL MACHINE of our own: ints are integers (what they stand for is taken modulo 2^32), references are numbers of a list of cells.
mi_V: an int, a reference (none: null), a long. mi_G: of each cell its kind (0 int[], 1 byte[], 2 long[], 3 Scene[], 4 Image[], 10 + c an object of class c) and its length; its references; how many cells. mi_M: of each cell its numbers. mi_U: cells and slots that may still be made. -/
abbrev mi_V : Type := Int ⊕ (Option Nat ⊕ Int)
abbrev mi_L : Type := List (Option mi_V)
abbrev mi_S : Type := List mi_V
abbrev mi_G : Type := (Nat → Nat × Nat) × (Nat → Nat → Option Nat) × Nat
abbrev mi_M : Type := Nat → Int → Int
abbrev mi_U : Type := Nat × Nat
/-- returned with or without a value; thrown -/
abbrev mi_R : Type := Option mi_V ⊕ Unit
abbrev mi_E : Type := Nat × Instr × Nat × Nat
abbrev mi_T : Type := List (List mi_E)
def mi_wr (z : Int) : Int := z.bmod 4294967296
def mi_div (a b : Int) : Int := (Int32.ofInt a / Int32.ofInt b).toInt
def mi_rem (a b : Int) : Int := (Int32.ofInt a - Int32.ofInt a / Int32.ofInt b * Int32.ofInt b).toInt
def mi_shl (a b : Int) : Int := (Int32.ofInt a <<< (Int32.ofInt b &&& 31)).toInt
def mi_shr (a b : Int) : Int := (Int32.ofInt a >>> (Int32.ofInt b &&& 31)).toInt
def mi_ushr (a b : Int) : Int := ((Int32.ofInt a).toUInt32 >>> ((Int32.ofInt b).toUInt32 &&& Int32.toUInt32 31)).toInt32.toInt
def mi_and (a b : Int) : Int := (Int32.ofInt a &&& Int32.ofInt b).toInt
def mi_or (a b : Int) : Int := (Int32.ofInt a ||| Int32.ofInt b).toInt
def mi_xor (a b : Int) : Int := (Int32.ofInt a ^^^ Int32.ofInt b).toInt
def mi_i2b (a : Int) : Int := (Int32.ofInt a).toInt8.toInt32.toInt
def mi_cmpl (a b : Int) : Int := (lg_cmp (Int64.ofInt a) (Int64.ofInt b)).toInt
/-- one number of one cell is another -/
def mi_set (μ : mi_M) (r : Nat) (j v : Int) : mi_M := fun q k => bif Nat.beq q r then (if k = j then v else μ q k) else μ q k
/-- all numbers of one cell are others -/
def mi_row (μ : mi_M) (r : Nat) (f : Int → Int) : mi_M := fun q k => bif Nat.beq q r then f k else μ q k
def mi_cpy (f g : Int → Int) (sp dp n : Int) : Int → Int := fun k => if dp ≤ k ∧ k < dp + n then f (sp + (k - dp)) else g k
def mi_up {α : Type} (f : Nat → α) (r : Nat) (v : α) : Nat → α := fun q => bif Nat.beq q r then v else f q
def mi_lget : mi_L → Nat → Option mi_V
  | [], _ => none
  | v :: _, 0 => v
  | _ :: l, n + 1 => mi_lget l n
def mi_lset : mi_L → Nat → Option mi_V → mi_L
  | [], _, _ => []
  | _ :: l, 0, v => v :: l
  | x :: l, n + 1, v => x :: mi_lset l n v
def mi_find (pc : Nat) : List mi_E → Option (Instr × Nat × Nat)
  | [] => none
  | e :: r => bif Nat.beq e.1 pc then some e.2 else mi_find pc r
def mi_nth : mi_T → Nat → List mi_E
  | [], _ => []
  | x :: _, 0 => x
  | _ :: l, n + 1 => mi_nth l n
def mi_at (tb : mi_T) (pc : Nat) : Option (Instr × Nat × Nat) := mi_find pc (mi_nth tb (pc / 32))
/-- the first n of the stack, the deepest first, and the rest -/
def mi_pop : Nat → mi_S → List mi_V → Option (List mi_V × mi_S)
  | 0, st, acc => some (acc, st)
  | _ + 1, [], _ => none
  | n + 1, v :: st, acc => mi_pop n st (v :: acc)
def mi_loc (n : Nat) (args : List mi_V) : mi_L := args.map some ++ List.replicate (n - args.length) none
def mi_sw (x : Int) (K : Int → Prop) : Int → List Int → Int → Prop
  | _, [], d => K d
  | j, o :: r, d => if x = j then K o else mi_sw x K (j + 1) r d
/-- what a method is to the small machine: how many arguments (this too), locals; may it make cells; does it keep them (constructors, the law); the kind of its receiver where one is chosen by it (else 0); may it throw -/
abbrev mi_H : Type := Nat × Nat × Bool × Bool × Nat × Bool
/-- how many words -/
def mi_wd : mi_S → Nat
  | [] => 0
  | .inr (.inr _) :: r => mi_wd r + 2
  | _ :: r => mi_wd r + 1
/-- is the receiver of the kind -/
def mi_rc (t : Nat) (G : mi_G) : List mi_V → Bool
  | .inr (.inl (some r)) :: _ => Nat.beq t 0 || (Nat.blt r G.2.2 && Nat.beq (G.1 r).1 t)
  | _ => Nat.beq t 0
section
variable (ro : Nat → Int → Int) (rl : Nat → Nat) (fr : Nat → Nat → Bool) (hd : Nat → mi_H)
/-- a call -/
def mi_inv (ct : Bool) (ex : Nat → Option (Nat × Nat)) (Ge : mi_G) (nx aux pc : Nat) (ls : mi_L) (st : mi_S) (G : mi_G) (μ : mi_M) (u : mi_U)
    (K : Nat → mi_L → mi_S → mi_G → mi_M → mi_U → Prop) (C : Nat → List mi_V → mi_G → mi_M → mi_U → (mi_R → mi_G → mi_M → Prop) → Prop) (Q : mi_R → mi_G → mi_M → Prop) : Prop :=
  bif Nat.beq aux 9999 then
    (match st with
    | .inr (.inl (some _)) :: st' => bif Nat.ble (mi_wd st') 8 then K nx ls st' G μ u else False
    | _ => False)
  else bif Nat.beq aux 9998 then
    (match st with
    | .inl n :: .inl dp :: .inr (.inl (some r)) :: .inl sp :: .inr (.inl (some q)) :: st' =>
      bif Nat.ble (mi_wd st') 8 && Nat.blt r G.2.2 && Nat.beq (G.1 r).1 0 && (bif Nat.blt q 1000 then Nat.blt q G.2.2 && Nat.beq (G.1 q).1 0 else Nat.blt q 1010) then
        (0 ≤ sp ∧ 0 ≤ dp ∧ 0 ≤ n ∧ dp + n ≤ ((G.1 r).2 : Int) ∧ sp + n ≤ (bif Nat.blt q 1000 then ((G.1 q).2 : Int) else (rl q : Int))) ∧
        K nx ls st' G (mi_row μ r (mi_cpy (bif Nat.blt q 1000 then μ q else ro q) (μ r) sp dp n)) u
      else False
    | _ => False)
  else bif Nat.beq aux 9997 then
    (match st with
    | .inr (.inl (some r)) :: st' => bif Nat.ble (mi_wd st') 8 && Nat.ble 1020 r && Nat.blt r 1029 then K nx ls (.inl (rl r : Int) :: st') G μ u else False
    | _ => False)
  else bif Nat.beq aux 9996 then
    (match st with
    | .inl j :: .inr (.inl (some r)) :: st' => bif Nat.ble (mi_wd st') 8 && Nat.ble 1020 r && Nat.blt r 1029 then (0 ≤ j ∧ j < (rl r : Int)) ∧ K nx ls (.inl (ro r j) :: st') G μ u else False
    | _ => False)
  else (match mi_pop (hd aux).1 st [] with
    | none => False
    | some (as, st') => bif !(mi_rc (hd aux).2.2.2.2.1 G as && Nat.ble (mi_wd st') 8) then False else bif (hd aux).2.2.1 then
        ∃ b : mi_U, (b.1 ≤ u.1 ∧ b.2 ≤ u.2) ∧ C aux as G μ b (fun r G' μ' => match r with
          | .inl v => K nx ls (v.toList ++ st') G' μ' (u.1 - b.1, u.2 - b.2)
          | .inr _ => bif (hd aux).2.2.2.2.2 then (match ex pc with
            | none => Q (.inr ()) (bif ct then G' else Ge) μ'
            | some h => K h.1 (mi_lset ls h.2 none) [] G' μ' (u.1 - b.1, u.2 - b.2)) else False)
      else C aux as G μ (0, 0) (fun r G' μ' => match r with
          | .inl v => K nx ls (v.toList ++ st') G' μ' u
          | .inr _ => False))
/-- ONE STEP, by what comes behind it: K goes on in the method, C calls one, Q ends it. ct: the method keeps what it makes; Ge: the cells at its entry; ex: where a throw of a call is caught. -/
def mi_st (ct : Bool) (ex : Nat → Option (Nat × Nat)) (Ge : mi_G) (i : Instr) (nx aux pc : Nat) (ls : mi_L) (st : mi_S) (G : mi_G) (μ : mi_M) (u : mi_U)
    (K : Nat → mi_L → mi_S → mi_G → mi_M → mi_U → Prop) (C : Nat → List mi_V → mi_G → mi_M → mi_U → (mi_R → mi_G → mi_M → Prop) → Prop) (Q : mi_R → mi_G → mi_M → Prop) : Prop :=
  match i with
  | .iload n => match mi_lget ls n with
    | some (.inl x) => K nx ls (.inl x :: st) G μ u
    | _ => False
  | .iload_n n => match mi_lget ls n.val with
    | some (.inl x) => K nx ls (.inl x :: st) G μ u
    | _ => False
  | .aload n => match mi_lget ls n with
    | some (.inr (.inl (some r))) => K nx ls (.inr (.inl (some r)) :: st) G μ u
    | _ => False
  | .aload_n n => match mi_lget ls n.val with
    | some (.inr (.inl (some r))) => K nx ls (.inr (.inl (some r)) :: st) G μ u
    | _ => False
  | .istore n => match st with
    | .inl x :: st' => bif Nat.blt n ls.length then K nx (mi_lset ls n (some (.inl x))) st' G μ u else False
    | _ => False
  | .istore_n n => match st with
    | .inl x :: st' => bif Nat.blt n.val ls.length then K nx (mi_lset ls n.val (some (.inl x))) st' G μ u else False
    | _ => False
  | .astore n => match st with
    | .inr (.inl (some r)) :: st' => bif Nat.blt n ls.length then K nx (mi_lset ls n (some (.inr (.inl (some r))))) st' G μ u else False
    | _ => False
  | .astore_n n => match st with
    | .inr (.inl (some r)) :: st' => bif Nat.blt n.val ls.length then K nx (mi_lset ls n.val (some (.inr (.inl (some r))))) st' G μ u else False
    | _ => False
  | .iinc n k => match mi_lget ls n with
    | some (.inl x) => bif Nat.blt n ls.length then K nx (mi_lset ls n (some (.inl (x + k)))) st G μ u else False
    | _ => False
  | .iconst k => K nx ls (.inl k :: st) G μ u
  | .bipush k => bif decide (-128 ≤ k) && decide (k < 128) then K nx ls (.inl k :: st) G μ u else False
  | .sipush k => bif decide (-32768 ≤ k) && decide (k < 32768) then K nx ls (.inl k :: st) G μ u else False
  | .ldc _ => bif Nat.blt aux 2147483648 then K nx ls (.inl (aux : Int) :: st) G μ u else K nx ls (.inr (.inl (some (aux - 2147483648))) :: st) G μ u
  | .ldc_w _ => bif Nat.blt aux 2147483648 then K nx ls (.inl (aux : Int) :: st) G μ u else False
  | .iadd => match st with
    | .inl b :: .inl a :: st' => K nx ls (.inl (a + b) :: st') G μ u
    | _ => False
  | .isub => match st with
    | .inl b :: .inl a :: st' => K nx ls (.inl (a - b) :: st') G μ u
    | _ => False
  | .imul => match st with
    | .inl b :: .inl a :: st' => K nx ls (.inl (a * b) :: st') G μ u
    | _ => False
  | .ineg => match st with
    | .inl a :: st' => K nx ls (.inl (-a) :: st') G μ u
    | _ => False
  | .idiv => match st with
    | .inl b :: .inl a :: st' => mi_wr b ≠ 0 ∧ K nx ls (.inl (mi_div a b) :: st') G μ u
    | _ => False
  | .irem => match st with
    | .inl b :: .inl a :: st' => mi_wr b ≠ 0 ∧ K nx ls (.inl (mi_rem a b) :: st') G μ u
    | _ => False
  | .ishl => match st with
    | .inl b :: .inl a :: st' => K nx ls (.inl (mi_shl a b) :: st') G μ u
    | _ => False
  | .ishr => match st with
    | .inl b :: .inl a :: st' => K nx ls (.inl (mi_shr a b) :: st') G μ u
    | _ => False
  | .iushr => match st with
    | .inl b :: .inl a :: st' => K nx ls (.inl (mi_ushr a b) :: st') G μ u
    | _ => False
  | .iand => match st with
    | .inl b :: .inl a :: st' => K nx ls (.inl (mi_and a b) :: st') G μ u
    | _ => False
  | .ior => match st with
    | .inl b :: .inl a :: st' => K nx ls (.inl (mi_or a b) :: st') G μ u
    | _ => False
  | .ixor => match st with
    | .inl b :: .inl a :: st' => K nx ls (.inl (mi_xor a b) :: st') G μ u
    | _ => False
  | .i2b => match st with
    | .inl a :: st' => K nx ls (.inl (mi_i2b a) :: st') G μ u
    | _ => False
  | .i2l => match st with
    | .inl a :: st' => K nx ls (.inr (.inr (mi_wr a)) :: st') G μ u
    | _ => False
  | .lcmp => match st with
    | .inr (.inr b) :: .inr (.inr a) :: st' => K nx ls (.inl (mi_cmpl a b) :: st') G μ u
    | _ => False
  | .dup => match st with
    | .inl a :: st' => K nx ls (.inl a :: .inl a :: st') G μ u
    | .inr (.inl a) :: st' => K nx ls (.inr (.inl a) :: .inr (.inl a) :: st') G μ u
    | _ => False
  | .dup2 => match st with
    | .inl b :: .inr (.inl a) :: st' => K nx ls (.inl b :: .inr (.inl a) :: .inl b :: .inr (.inl a) :: st') G μ u
    | _ => False
  | .pop => match st with
    | .inl _ :: st' => K nx ls st' G μ u
    | _ => False
  | .goto _ => K aux ls st G μ u
  | .if_icmp c _ => match st with
    | .inl b :: .inl a :: st' => match c with
      | .eq => if mi_wr a = mi_wr b then K aux ls st' G μ u else K nx ls st' G μ u
      | .ne => if mi_wr a = mi_wr b then K nx ls st' G μ u else K aux ls st' G μ u
      | .lt => if mi_wr a < mi_wr b then K aux ls st' G μ u else K nx ls st' G μ u
      | .ge => if mi_wr a < mi_wr b then K nx ls st' G μ u else K aux ls st' G μ u
      | .gt => if mi_wr b < mi_wr a then K aux ls st' G μ u else K nx ls st' G μ u
      | .le => if mi_wr b < mi_wr a then K nx ls st' G μ u else K aux ls st' G μ u
    | _ => False
  | .ifCond c _ => match st with
    | .inl a :: st' => match c with
      | .eq => if mi_wr a = 0 then K aux ls st' G μ u else K nx ls st' G μ u
      | .ne => if mi_wr a = 0 then K nx ls st' G μ u else K aux ls st' G μ u
      | .lt => if mi_wr a < 0 then K aux ls st' G μ u else K nx ls st' G μ u
      | .ge => if mi_wr a < 0 then K nx ls st' G μ u else K aux ls st' G μ u
      | .gt => if 0 < mi_wr a then K aux ls st' G μ u else K nx ls st' G μ u
      | .le => if 0 < mi_wr a then K nx ls st' G μ u else K aux ls st' G μ u
    | _ => False
  | .tableswitch d lo _ offs => match st with
    | .inl a :: st' => mi_sw (mi_wr a) (fun o => K ((pc : Int) + o).toNat ls st' G μ u) lo offs.toList d
    | _ => False
  | .getfield _ => match st with
    | .inr (.inl (some r)) :: st' =>
      bif Nat.blt r G.2.2 && Nat.beq (G.1 r).1 (10 + aux / 64) && Nat.blt (aux % 64) (G.1 r).2 then
        (bif fr (aux / 64) (aux % 64) then K nx ls (.inr (.inl (G.2.1 r (aux % 64))) :: st') G μ u
        else K nx ls (.inl (μ r ((aux % 64 : Nat) : Int)) :: st') G μ u)
      else False
    | _ => False
  | .putfield _ => match st with
    | .inl v :: .inr (.inl (some r)) :: st' =>
      bif Nat.blt r G.2.2 && Nat.beq (G.1 r).1 (10 + aux / 64) && Nat.blt (aux % 64) (G.1 r).2 && !(fr (aux / 64) (aux % 64)) then
        (bif Nat.beq aux 0 then (v = 0 ∨ v = 1) ∧ K nx ls st' G (mi_set μ r ((aux % 64 : Nat) : Int) v) u
        else K nx ls st' G (mi_set μ r ((aux % 64 : Nat) : Int) v) u)
      else False
    | .inr (.inl (some q)) :: .inr (.inl (some r)) :: st' =>
      bif ct && Nat.blt r G.2.2 && Nat.blt q G.2.2 && Nat.beq (G.1 r).1 (10 + aux / 64) && Nat.blt (aux % 64) (G.1 r).2 && fr (aux / 64) (aux % 64) then
        K nx ls st' (G.1, mi_up G.2.1 r (mi_up (G.2.1 r) (aux % 64) (some q)), G.2.2) μ u
      else False
    | _ => False
  | .getstatic _ => bif Nat.ble 1000 aux then K nx ls (.inr (.inl (some aux)) :: st) G μ u else False
  | .iaload => match st with
    | .inl j :: .inr (.inl (some r)) :: st' =>
      bif Nat.blt r 1000 then (bif Nat.blt r G.2.2 && Nat.beq (G.1 r).1 0 then (0 ≤ j ∧ j < ((G.1 r).2 : Int)) ∧ K nx ls (.inl (μ r j) :: st') G μ u else False)
      else (0 ≤ j ∧ j < (rl r : Int)) ∧ K nx ls (.inl (ro r j) :: st') G μ u
    | _ => False
  | .baload => match st with
    | .inl j :: .inr (.inl (some r)) :: st' =>
      bif Nat.blt r G.2.2 && Nat.beq (G.1 r).1 1 then (0 ≤ j ∧ j < ((G.1 r).2 : Int)) ∧ K nx ls (.inl (μ r j) :: st') G μ u else False
    | _ => False
  | .laload => match st with
    | .inl j :: .inr (.inl (some r)) :: st' =>
      bif Nat.blt r G.2.2 && Nat.beq (G.1 r).1 2 then (0 ≤ j ∧ j < ((G.1 r).2 : Int)) ∧ K nx ls (.inr (.inr (μ r j)) :: st') G μ u else False
    | _ => False
  | .aaload => match st with
    | .inl j :: .inr (.inl (some r)) :: st' =>
      bif Nat.blt r G.2.2 && (Nat.beq (G.1 r).1 3 || Nat.beq (G.1 r).1 4) then (0 ≤ j ∧ j < ((G.1 r).2 : Int)) ∧ K nx ls (.inr (.inl (G.2.1 r j.toNat)) :: st') G μ u else False
    | _ => False
  | .iastore => match st with
    | .inl v :: .inl j :: .inr (.inl (some r)) :: st' =>
      bif Nat.blt r G.2.2 && Nat.beq (G.1 r).1 0 then (0 ≤ j ∧ j < ((G.1 r).2 : Int)) ∧ K nx ls st' G (mi_set μ r j v) u else False
    | _ => False
  | .bastore => match st with
    | .inl v :: .inl j :: .inr (.inl (some r)) :: st' =>
      bif Nat.blt r G.2.2 && Nat.beq (G.1 r).1 1 then (0 ≤ j ∧ j < ((G.1 r).2 : Int)) ∧ K nx ls st' G (mi_set μ r j (mi_i2b v)) u else False
    | _ => False
  | .lastore => match st with
    | .inr (.inr v) :: .inl j :: .inr (.inl (some r)) :: st' =>
      bif Nat.blt r G.2.2 && Nat.beq (G.1 r).1 2 then (0 ≤ j ∧ j < ((G.1 r).2 : Int)) ∧ K nx ls st' G (mi_set μ r j v) u else False
    | _ => False
  | .aastore => match st with
    | .inr (.inl (some q)) :: .inl j :: .inr (.inl (some r)) :: st' =>
      bif ct && Nat.blt r G.2.2 && Nat.blt q G.2.2 && ((Nat.beq (G.1 r).1 3 && Nat.beq (G.1 q).1 19) || (Nat.beq (G.1 r).1 4 && Nat.beq (G.1 q).1 10)) then
        (0 ≤ j ∧ j < ((G.1 r).2 : Int)) ∧ K nx ls st' (G.1, mi_up G.2.1 r (mi_up (G.2.1 r) j.toNat (some q)), G.2.2) μ u else False
    | _ => False
  | .arraylength => match st with
    | .inr (.inl (some r)) :: st' => bif Nat.beq r 1010 then K nx ls (.inl (rl r : Int) :: st') G μ u else False
    | _ => False
  | .newarray t => match st with
    | .inl z :: st' =>
      bif Nat.blt G.2.2 999 && decide (0 ≤ z) && decide (z ≤ 4096) then
        (1 ≤ u.1 ∧ z.toNat ≤ u.2) ∧ K nx ls (.inr (.inl (some G.2.2)) :: st') (mi_up G.1 G.2.2 (match t with | .int => 0 | .byte => 1 | .long => 2 | _ => 5, z.toNat), mi_up G.2.1 G.2.2 (fun _ => none), G.2.2 + 1) (mi_row μ G.2.2 (fun _ => 0)) (u.1 - 1, u.2 - z.toNat)
      else False
    | _ => False
  | .anewarray _ => match st with
    | .inl z :: st' =>
      bif ct && Nat.blt G.2.2 999 && (Nat.beq aux 3 || Nat.beq aux 4) && decide (0 ≤ z) && decide (z ≤ 4096) then
        (1 ≤ u.1 ∧ z.toNat ≤ u.2) ∧ K nx ls (.inr (.inl (some G.2.2)) :: st') (mi_up G.1 G.2.2 (aux, z.toNat), mi_up G.2.1 G.2.2 (fun _ => none), G.2.2 + 1) (mi_row μ G.2.2 (fun _ => 0)) (u.1 - 1, u.2 - z.toNat)
      else False
    | _ => False
  | .new _ =>
    bif Nat.beq aux 9995 && Nat.ble (mi_wd st) 8 then (1 ≤ u.1 ∧ 6 ≤ u.2) ∧ Q (.inr ()) (bif ct then G else Ge) μ
    else bif ct && Nat.blt G.2.2 999 && Nat.blt aux 9995 then
      (1 ≤ u.1 ∧ aux % 64 ≤ u.2) ∧ K nx ls (.inr (.inl (some G.2.2)) :: st) (mi_up G.1 G.2.2 (10 + aux / 64, aux % 64), mi_up G.2.1 G.2.2 (fun _ => none), G.2.2 + 1) (mi_row μ G.2.2 (fun _ => 0)) (u.1 - 1, u.2 - aux % 64)
    else False
  | .ireturn => match st with
    | [.inl z] => bif Nat.beq aux 1 then (z = 0 ∨ z = 1) ∧ Q (.inl (some (.inl z))) (bif ct then G else Ge) μ else Q (.inl (some (.inl z))) (bif ct then G else Ge) μ
    | _ => False
  | .return_ => match st with
    | [] => Q (.inl none) (bif ct then G else Ge) μ
    | _ => False
  | .invokestatic _ => mi_inv ro rl hd ct ex Ge nx aux pc ls st G μ u K C Q
  | .invokevirtual _ => mi_inv ro rl hd ct ex Ge nx aux pc ls st G μ u K C Q
  | .invokespecial _ => mi_inv ro rl hd ct ex Ge nx aux pc ls st G μ u K C Q
  | _ => False
/-- n steps within a method, up to the places where it is to stop -/
def mi_un (tb : mi_T) (stop : Nat → Bool) (ct : Bool) (ex : Nat → Option (Nat × Nat)) (Ge : mi_G) (K : Nat → mi_L → mi_S → mi_G → mi_M → mi_U → Prop) (C : Nat → List mi_V → mi_G → mi_M → mi_U → (mi_R → mi_G → mi_M → Prop) → Prop) (Q : mi_R → mi_G → mi_M → Prop) : Nat → Nat → mi_L → mi_S → mi_G → mi_M → mi_U → Prop
  | 0, pc, ls, st, G, μ, u => K pc ls st G μ u
  | n + 1, pc, ls, st, G, μ, u => match mi_at tb pc with
    | none => False
    | some e => mi_st ro rl fr hd ct ex Ge e.1 e.2.1 e.2.2 pc ls st G μ u (fun pc' ls' st' G' μ' u' => bif stop pc' then K pc' ls' st' G' μ' u' else mi_un tb stop ct ex Ge K C Q n pc' ls' st' G' μ' u') C Q
end
end
section
/-! PRINTED by wip/whole/gen/mk04.py: the code of every method as the small machine reads it -/
-- TwoViews$Image.<init>()V
set_option maxRecDepth 100000 in
noncomputable def mi_t0 : mi_T := [[(0, .aload_n 0, 1, 0), (1, .invokespecial 1, 4, 9999), (4, .aload_n 0, 5, 0), (5, .new 7, 8, 580), (8, .dup, 9, 0), (9, .invokespecial 9, 12, 83), (12, .putfield 10, 15, 1), (15, .aload_n 0, 16, 0), (16, .new 16, 19, 71), (19, .dup, 20, 0), (20, .invokespecial 18, 23, 1), (23, .putfield 19, 26, 2), (26, .return_, 27, 0)]]
-- TwoViews$Layers.<init>()V
set_option maxRecDepth 100000 in
noncomputable def mi_t1 : mi_T := [[(0, .aload_n 0, 1, 0), (1, .invokespecial 3, 4, 9999), (4, .aload_n 0, 5, 0), (5, .bipush 6, 7, 0), (7, .newarray .int, 9, 0), (9, .putfield 9, 12, 65), (12, .aload_n 0, 13, 0), (13, .bipush 6, 15, 0), (15, .newarray .int, 17, 0), (17, .putfield 15, 20, 66), (20, .aload_n 0, 21, 0), (21, .bipush 6, 23, 0), (23, .newarray .int, 25, 0), (25, .putfield 18, 28, 67), (28, .aload_n 0, 29, 0), (29, .bipush 6, 31, 0), (31, .newarray .int, 33, 0)],
  [(33, .putfield 21, 36, 68), (36, .aload_n 0, 37, 0), (37, .bipush 6, 39, 0), (39, .newarray .int, 41, 0), (41, .putfield 24, 44, 69), (44, .aload_n 0, 45, 0), (45, .bipush 6, 47, 0), (47, .newarray .int, 49, 0), (49, .putfield 27, 52, 70), (52, .return_, 53, 0)]]
-- TwoViews$Layers.become(LTwoViews$Layers;)V
set_option maxRecDepth 100000 in
noncomputable def mi_t2 : mi_T := [[(0, .aload_n 0, 1, 0), (1, .aload_n 1, 2, 0), (2, .getfield 30, 5, 64), (5, .putfield 30, 8, 64), (8, .aload_n 1, 9, 0), (9, .getfield 9, 12, 65), (12, .iconst 0, 13, 0), (13, .aload_n 0, 14, 0), (14, .getfield 9, 17, 65), (17, .iconst 0, 18, 0), (18, .bipush 6, 20, 0), (20, .invokestatic 34, 23, 9998), (23, .aload_n 1, 24, 0), (24, .getfield 15, 27, 66), (27, .iconst 0, 28, 0), (28, .aload_n 0, 29, 0), (29, .getfield 15, 32, 66)],
  [(32, .iconst 0, 33, 0), (33, .bipush 6, 35, 0), (35, .invokestatic 34, 38, 9998), (38, .aload_n 1, 39, 0), (39, .getfield 18, 42, 67), (42, .iconst 0, 43, 0), (43, .aload_n 0, 44, 0), (44, .getfield 18, 47, 67), (47, .iconst 0, 48, 0), (48, .bipush 6, 50, 0), (50, .invokestatic 34, 53, 9998), (53, .aload_n 1, 54, 0), (54, .getfield 21, 57, 68), (57, .iconst 0, 58, 0), (58, .aload_n 0, 59, 0), (59, .getfield 21, 62, 68), (62, .iconst 0, 63, 0), (63, .bipush 6, 65, 0)],
  [(65, .invokestatic 34, 68, 9998), (68, .aload_n 1, 69, 0), (69, .getfield 24, 72, 69), (72, .iconst 0, 73, 0), (73, .aload_n 0, 74, 0), (74, .getfield 24, 77, 69), (77, .iconst 0, 78, 0), (78, .bipush 6, 80, 0), (80, .invokestatic 34, 83, 9998), (83, .aload_n 1, 84, 0), (84, .getfield 27, 87, 70), (87, .iconst 0, 88, 0), (88, .aload_n 0, 89, 0), (89, .getfield 27, 92, 70), (92, .iconst 0, 93, 0), (93, .bipush 6, 95, 0), (95, .invokestatic 34, 98, 9998)],
  [(98, .return_, 99, 0)]]
-- TwoViews$Layers.leftEdge(II)I
set_option maxRecDepth 100000 in
noncomputable def mi_t3 : mi_T := [[(0, .iload_n 1, 1, 0), (1, .ifCond .ne 12, 4, 13), (4, .aload_n 0, 5, 0), (5, .getfield 9, 8, 65), (8, .iload_n 2, 9, 0), (9, .iaload, 10, 0), (10, .goto 16, 13, 26), (13, .aload_n 0, 14, 0), (14, .getfield 9, 17, 65), (17, .iload_n 2, 18, 0), (18, .iaload, 19, 0), (19, .aload_n 0, 20, 0), (20, .getfield 24, 23, 69), (23, .iload_n 2, 24, 0), (24, .iaload, 25, 0), (25, .isub, 26, 0), (26, .ireturn, 27, 0)]]
-- TwoViews$Layers.seenAt(III)I
set_option maxRecDepth 100000 in
noncomputable def mi_t4 : mi_T := [[(0, .aload_n 0, 1, 0), (1, .getfield 30, 4, 64), (4, .iconst 1, 5, 0), (5, .isub, 6, 0), (6, .istore 4, 8, 0), (8, .iload 4, 10, 0), (10, .ifCond .lt 83, 13, 93), (13, .aload_n 0, 14, 0), (14, .iload_n 1, 15, 0), (15, .iload 4, 17, 0), (17, .invokevirtual 40, 20, 3), (20, .istore 5, 22, 0), (22, .iload 5, 24, 0), (24, .iload_n 2, 25, 0), (25, .if_icmp .gt 21, 28, 46), (28, .iload_n 2, 29, 0), (29, .iload 5, 31, 0), (31, .aload_n 0, 32, 0)],
  [(32, .getfield 18, 35, 67), (35, .iload 4, 37, 0), (37, .iaload, 38, 0), (38, .iadd, 39, 0), (39, .if_icmp .ge 7, 42, 46), (42, .iconst 1, 43, 0), (43, .goto 4, 46, 47), (46, .iconst 0, 47, 0), (47, .istore 6, 49, 0), (49, .iload 6, 51, 0), (51, .ifCond .eq 36, 54, 87), (54, .aload_n 0, 55, 0), (55, .getfield 15, 58, 66), (58, .iload 4, 60, 0), (60, .iaload, 61, 0), (61, .iload_n 3, 62, 0), (62, .if_icmp .gt 25, 65, 87)],
  [(65, .iload_n 3, 66, 0), (66, .aload_n 0, 67, 0), (67, .getfield 15, 70, 66), (70, .iload 4, 72, 0), (72, .iaload, 73, 0), (73, .aload_n 0, 74, 0), (74, .getfield 21, 77, 68), (77, .iload 4, 79, 0), (79, .iaload, 80, 0), (80, .iadd, 81, 0), (81, .if_icmp .ge 6, 84, 87), (84, .iload 4, 86, 0), (86, .ireturn, 87, 0), (87, .iinc 4 (-1), 90, 0), (90, .goto (-82), 93, 8), (93, .iconst (-1), 94, 0), (94, .ireturn, 95, 0)]]
-- TwoViews$Layers.textureAt(IIII)I
set_option maxRecDepth 100000 in
noncomputable def mi_t5 : mi_T := [[(0, .iload_n 2, 1, 0), (1, .iconst (-1), 2, 0), (2, .if_icmp .ne 5, 5, 7), (5, .iconst 0, 6, 0), (6, .ireturn, 7, 0), (7, .iload_n 3, 8, 0), (8, .aload_n 0, 9, 0), (9, .iload_n 1, 10, 0), (10, .iload_n 2, 11, 0), (11, .invokevirtual 40, 14, 3), (14, .isub, 15, 0), (15, .istore 5, 17, 0), (17, .iload 4, 19, 0), (19, .aload_n 0, 20, 0), (20, .getfield 15, 23, 66), (23, .iload_n 2, 24, 0), (24, .iaload, 25, 0), (25, .isub, 26, 0), (26, .istore 6, 28, 0), (28, .aload_n 0, 29, 0), (29, .getfield 27, 32, 70)],
  [(32, .iload_n 2, 33, 0), (33, .iaload, 34, 0), (34, .bipush 31, 36, 0), (36, .imul, 37, 0), (37, .iload 5, 39, 0), (39, .sipush 7919, 42, 0), (42, .imul, 43, 0), (43, .iadd, 44, 0), (44, .iload 6, 46, 0), (46, .ldc 44, 48, 104729), (48, .imul, 49, 0), (49, .iadd, 50, 0), (50, .istore 7, 52, 0), (52, .iload 7, 54, 0), (54, .ldc 45, 56, 1103515245), (56, .imul, 57, 0), (57, .sipush 12345, 60, 0), (60, .iadd, 61, 0), (61, .istore 7, 63, 0), (63, .iload 7, 65, 0)],
  [(65, .bipush 16, 67, 0), (67, .iushr, 68, 0), (68, .bipush 16, 70, 0), (70, .irem, 71, 0), (71, .ireturn, 72, 0)]]
-- TwoViews$Layers.isCovered(III)Z
set_option maxRecDepth 100000 in
noncomputable def mi_t6 : mi_T := [[(0, .iload_n 1, 1, 0), (1, .iconst (-1), 2, 0), (2, .if_icmp .ne 5, 5, 7), (5, .iconst 0, 6, 0), (6, .ireturn, 7, 1), (7, .iload_n 2, 8, 0), (8, .aload_n 0, 9, 0), (9, .getfield 24, 12, 69), (12, .iload_n 1, 13, 0), (13, .iaload, 14, 0), (14, .isub, 15, 0), (15, .istore 4, 17, 0), (17, .iload 4, 19, 0), (19, .ifCond .lt 15, 22, 34), (22, .aload_n 0, 23, 0), (23, .iconst 1, 24, 0), (24, .iload 4, 26, 0), (26, .iload_n 3, 27, 0), (27, .invokevirtual 46, 30, 4), (30, .iload_n 1, 31, 0), (31, .if_icmp .eq 7, 34, 38)],
  [(34, .iconst 1, 35, 0), (35, .goto 4, 38, 39), (38, .iconst 0, 39, 0), (39, .ireturn, 40, 1)]]
-- TwoViews$Lines.<init>(LTwoViews$Scene;LTwoViews$Maps;)V
set_option maxRecDepth 100000 in
noncomputable def mi_t7 : mi_T := [[(0, .aload_n 0, 1, 0), (1, .invokespecial 3, 4, 9999), (4, .aload_n 0, 5, 0), (5, .aload_n 1, 6, 0), (6, .putfield 9, 9, 128), (9, .aload_n 0, 10, 0), (10, .aload_n 2, 11, 0), (11, .putfield 15, 14, 129), (14, .aload_n 0, 15, 0), (15, .bipush 96, 17, 0), (17, .newarray .int, 19, 0), (19, .putfield 19, 22, 130), (22, .return_, 23, 0)]]
-- TwoViews$Lines.gather()I
set_option maxRecDepth 100000 in
noncomputable def mi_t8 : mi_T := [[(0, .iconst 0, 1, 0), (1, .istore_n 1, 2, 0), (2, .iload_n 1, 3, 0), (3, .bipush 96, 5, 0), (5, .if_icmp .ge 16, 8, 21), (8, .aload_n 0, 9, 0), (9, .getfield 19, 12, 130), (12, .iload_n 1, 13, 0), (13, .iconst 0, 14, 0), (14, .iastore, 15, 0), (15, .iinc 1 1, 18, 0), (18, .goto (-16), 21, 2), (21, .iconst 0, 22, 0), (22, .istore_n 1, 23, 0), (23, .iconst 0, 24, 0), (24, .istore_n 2, 25, 0), (25, .iload_n 2, 26, 0), (26, .aload_n 0, 27, 0), (27, .getfield 9, 30, 128), (30, .getfield 23, 33, 577)],
  [(33, .if_icmp .ge 75, 36, 108), (36, .iconst 0, 37, 0), (37, .istore_n 3, 38, 0), (38, .iload_n 3, 39, 0), (39, .aload_n 0, 40, 0), (40, .getfield 9, 43, 128), (43, .getfield 29, 46, 576), (46, .if_icmp .ge 56, 49, 102), (49, .iconst 0, 50, 0), (50, .iload_n 3, 51, 0), (51, .iload_n 2, 52, 0), (52, .invokestatic 32, 55, 136), (55, .istore 4, 57, 0), (57, .aload_n 0, 58, 0), (58, .getfield 15, 61, 129), (61, .getfield 36, 64, 193)],
  [(64, .iload 4, 66, 0), (66, .iaload, 67, 0), (67, .ifCond .ne 29, 70, 96), (70, .aload_n 0, 71, 0), (71, .getfield 19, 74, 130), (74, .iload_n 2, 75, 0), (75, .iconst 3, 76, 0), (76, .ishl, 77, 0), (77, .aload_n 0, 78, 0), (78, .getfield 15, 81, 129), (81, .getfield 41, 84, 192), (84, .iload 4, 86, 0), (86, .iaload, 87, 0), (87, .iadd, 88, 0), (88, .dup2, 89, 0), (89, .iaload, 90, 0), (90, .iconst 1, 91, 0), (91, .iadd, 92, 0), (92, .iastore, 93, 0), (93, .iinc 1 1, 96, 0)],
  [(96, .iinc 3 1, 99, 0), (99, .goto (-61), 102, 38), (102, .iinc 2 1, 105, 0), (105, .goto (-80), 108, 25), (108, .iload_n 1, 109, 0), (109, .ireturn, 110, 0)]]
-- TwoViews$Lines.votesFor(II)I
set_option maxRecDepth 100000 in
noncomputable def mi_t9 : mi_T := [[(0, .iconst 0, 1, 0), (1, .istore_n 3, 2, 0), (2, .iconst 0, 3, 0), (3, .istore 4, 5, 0), (5, .iload 4, 7, 0), (7, .aload_n 0, 8, 0), (8, .getfield 9, 11, 128), (11, .getfield 23, 14, 577), (14, .if_icmp .ge 48, 17, 62), (17, .iload_n 1, 18, 0), (18, .iload_n 2, 19, 0), (19, .iload 4, 21, 0), (21, .imul, 22, 0), (22, .iadd, 23, 0), (23, .iconst 4, 24, 0), (24, .iadd, 25, 0), (25, .iconst 3, 26, 0), (26, .ishr, 27, 0), (27, .istore 5, 29, 0), (29, .aload_n 0, 30, 0), (30, .getfield 9, 33, 128)],
  [(33, .iload 5, 35, 0), (35, .invokevirtual 44, 38, 88), (38, .ifCond .eq 18, 41, 56), (41, .iload_n 3, 42, 0), (42, .aload_n 0, 43, 0), (43, .getfield 19, 46, 130), (46, .iload 4, 48, 0), (48, .iconst 3, 49, 0), (49, .ishl, 50, 0), (50, .iload 5, 52, 0), (52, .iadd, 53, 0), (53, .iaload, 54, 0), (54, .iadd, 55, 0), (55, .istore_n 3, 56, 0), (56, .iinc 4 1, 59, 0), (59, .goto (-54), 62, 5), (62, .iload_n 3, 63, 0), (63, .ireturn, 64, 0)]]
-- TwoViews$Lines.bestLine(I)I
set_option maxRecDepth 100000 in
noncomputable def mi_t10 : mi_T := [[(0, .aload_n 0, 1, 0), (1, .invokevirtual 48, 4, 8), (4, .ifCond .ne 5, 7, 9), (7, .iconst (-1), 8, 0), (8, .ireturn, 9, 0), (9, .iconst 0, 10, 0), (10, .istore_n 2, 11, 0), (11, .iconst 0, 12, 0), (12, .istore_n 3, 13, 0), (13, .iconst (-1), 14, 0), (14, .istore 4, 16, 0), (16, .iconst 0, 17, 0), (17, .istore 5, 19, 0), (19, .iload 5, 21, 0), (21, .bipush 8, 23, 0), (23, .if_icmp .gt 62, 26, 85), (26, .iconst 0, 27, 0), (27, .istore 6, 29, 0), (29, .iload 6, 31, 0), (31, .bipush 8, 33, 0)],
  [(33, .aload_n 0, 34, 0), (34, .getfield 9, 37, 128), (37, .getfield 52, 40, 578), (40, .iconst 0, 41, 0), (41, .iaload, 42, 0), (42, .imul, 43, 0), (43, .if_icmp .gt 36, 46, 79), (46, .aload_n 0, 47, 0), (47, .iload 6, 49, 0), (49, .iload 5, 51, 0), (51, .invokevirtual 55, 54, 9), (54, .istore 7, 56, 0), (56, .iload 7, 58, 0), (58, .iload 4, 60, 0), (60, .if_icmp .le 13, 63, 73), (63, .iload 6, 65, 0)],
  [(65, .istore_n 2, 66, 0), (66, .iload 5, 68, 0), (68, .istore_n 3, 69, 0), (69, .iload 7, 71, 0), (71, .istore 4, 73, 0), (73, .iinc 6 1, 76, 0), (76, .goto (-47), 79, 29), (79, .iinc 5 1, 82, 0), (82, .goto (-63), 85, 19), (85, .iload_n 1, 86, 0), (86, .iconst 2, 87, 0), (87, .if_icmp .ne 6, 90, 93), (90, .iload 4, 92, 0), (92, .ireturn, 93, 0), (93, .iload_n 1, 94, 0), (94, .ifCond .ne 7, 97, 101)],
  [(97, .iload_n 2, 98, 0), (98, .goto 4, 101, 102), (101, .iload_n 3, 102, 0), (102, .ireturn, 103, 0)]]
-- TwoViews$Maps.<init>(LTwoViews$Scene;LTwoViews$Matcher;)V
set_option maxRecDepth 100000 in
noncomputable def mi_t11 : mi_T := [[(0, .aload_n 0, 1, 0), (1, .invokespecial 3, 4, 9999), (4, .aload_n 0, 5, 0), (5, .aload_n 1, 6, 0), (6, .putfield 9, 9, 195), (9, .aload_n 0, 10, 0), (10, .aload_n 2, 11, 0), (11, .putfield 15, 14, 196), (14, .aload_n 0, 15, 0), (15, .sipush 384, 18, 0), (18, .newarray .int, 20, 0), (20, .putfield 19, 23, 192), (23, .aload_n 0, 24, 0), (24, .sipush 384, 27, 0), (27, .newarray .int, 29, 0), (29, .putfield 23, 32, 193)],
  [(32, .aload_n 0, 33, 0), (33, .sipush 384, 36, 0), (36, .newarray .int, 38, 0), (38, .putfield 26, 41, 194), (41, .aload_n 0, 42, 0), (42, .bipush 8, 44, 0), (44, .newarray .int, 46, 0), (46, .putfield 29, 49, 197), (49, .return_, 50, 0)]]
-- TwoViews$Maps.makeShifts()V
set_option maxRecDepth 100000 in
noncomputable def mi_t12 : mi_T := [[(0, .iconst 0, 1, 0), (1, .istore_n 1, 2, 0), (2, .iload_n 1, 3, 0), (3, .aload_n 0, 4, 0), (4, .getfield 9, 7, 195), (7, .getfield 32, 10, 577), (10, .if_icmp .ge 62, 13, 72), (13, .iconst 0, 14, 0), (14, .istore_n 2, 15, 0), (15, .iload_n 2, 16, 0), (16, .aload_n 0, 17, 0), (17, .getfield 9, 20, 195), (20, .getfield 38, 23, 576), (23, .if_icmp .ge 43, 26, 66), (26, .aload_n 0, 27, 0), (27, .getfield 19, 30, 192), (30, .iconst 0, 31, 0), (31, .iload_n 2, 32, 0)],
  [(32, .iload_n 1, 33, 0), (33, .invokestatic 41, 36, 136), (36, .aload_n 0, 37, 0), (37, .iload_n 2, 38, 0), (38, .iload_n 1, 39, 0), (39, .invokevirtual 45, 42, 13), (42, .iastore, 43, 0), (43, .aload_n 0, 44, 0), (44, .getfield 19, 47, 192), (47, .iconst 1, 48, 0), (48, .iload_n 2, 49, 0), (49, .iload_n 1, 50, 0), (50, .invokestatic 41, 53, 136), (53, .aload_n 0, 54, 0), (54, .iload_n 2, 55, 0), (55, .iload_n 1, 56, 0), (56, .invokevirtual 49, 59, 14), (59, .iastore, 60, 0), (60, .iinc 2 1, 63, 0), (63, .goto (-48), 66, 15)],
  [(66, .iinc 1 1, 69, 0), (69, .goto (-67), 72, 2), (72, .return_, 73, 0)]]
-- TwoViews$Maps.bestOfLeft(II)I
set_option maxRecDepth 100000 in
noncomputable def mi_t13 : mi_T := [[(0, .iload_n 1, 1, 0), (1, .iload_n 2, 2, 0), (2, .iconst 0, 3, 0), (3, .invokestatic 52, 6, 137), (6, .istore_n 3, 7, 0), (7, .iconst 0, 8, 0), (8, .istore 4, 10, 0), (10, .iconst 1, 11, 0), (11, .istore 5, 13, 0), (13, .iload 5, 15, 0), (15, .aload_n 0, 16, 0), (16, .getfield 9, 19, 195), (19, .getfield 55, 22, 578), (22, .iconst 0, 23, 0), (23, .iaload, 24, 0), (24, .if_icmp .gt 40, 27, 64), (27, .aload_n 0, 28, 0), (28, .getfield 15, 31, 196), (31, .getfield 58, 34, 258)],
  [(34, .iload_n 3, 35, 0), (35, .iload 5, 37, 0), (37, .iadd, 38, 0), (38, .iaload, 39, 0), (39, .aload_n 0, 40, 0), (40, .getfield 15, 43, 196), (43, .getfield 58, 46, 258), (46, .iload_n 3, 47, 0), (47, .iload 4, 49, 0), (49, .iadd, 50, 0), (50, .iaload, 51, 0), (51, .if_icmp .ge 7, 54, 58), (54, .iload 5, 56, 0), (56, .istore 4, 58, 0), (58, .iinc 5 1, 61, 0), (61, .goto (-48), 64, 13)],
  [(64, .iload 4, 66, 0), (66, .ireturn, 67, 0)]]
-- TwoViews$Maps.bestOfRight(II)I
set_option maxRecDepth 100000 in
noncomputable def mi_t14 : mi_T := [[(0, .iconst 0, 1, 0), (1, .istore_n 3, 2, 0), (2, .iconst 1, 3, 0), (3, .istore 4, 5, 0), (5, .iload 4, 7, 0), (7, .aload_n 0, 8, 0), (8, .getfield 9, 11, 195), (11, .getfield 55, 14, 578), (14, .iconst 0, 15, 0), (15, .iaload, 16, 0), (16, .if_icmp .gt 63, 19, 79), (19, .iload_n 1, 20, 0), (20, .iload 4, 22, 0), (22, .iadd, 23, 0), (23, .aload_n 0, 24, 0), (24, .getfield 9, 27, 195), (27, .getfield 38, 30, 576), (30, .if_icmp .ge 49, 33, 79)],
  [(33, .aload_n 0, 34, 0), (34, .getfield 15, 37, 196), (37, .getfield 58, 40, 258), (40, .iload_n 1, 41, 0), (41, .iload 4, 43, 0), (43, .iadd, 44, 0), (44, .iload_n 2, 45, 0), (45, .iload 4, 47, 0), (47, .invokestatic 52, 50, 137), (50, .iaload, 51, 0), (51, .aload_n 0, 52, 0), (52, .getfield 15, 55, 196), (55, .getfield 58, 58, 258), (58, .iload_n 1, 59, 0), (59, .iload_n 3, 60, 0), (60, .iadd, 61, 0), (61, .iload_n 2, 62, 0), (62, .iload_n 3, 63, 0), (63, .invokestatic 52, 66, 137)],
  [(66, .iaload, 67, 0), (67, .if_icmp .ge 6, 70, 73), (70, .iload 4, 72, 0), (72, .istore_n 3, 73, 0), (73, .iinc 4 1, 76, 0), (76, .goto (-71), 79, 5), (79, .iload_n 3, 80, 0), (80, .ireturn, 81, 0)]]
-- TwoViews$Maps.marginAt(II)I
set_option maxRecDepth 100000 in
noncomputable def mi_t15 : mi_T := [[(0, .aload_n 0, 1, 0), (1, .getfield 19, 4, 192), (4, .iconst 0, 5, 0), (5, .iload_n 1, 6, 0), (6, .iload_n 2, 7, 0), (7, .invokestatic 41, 10, 136), (10, .iaload, 11, 0), (11, .istore_n 3, 12, 0), (12, .iload_n 1, 13, 0), (13, .iload_n 2, 14, 0), (14, .iconst 0, 15, 0), (15, .invokestatic 52, 18, 137), (18, .istore 4, 20, 0), (20, .iconst (-1), 21, 0), (21, .istore 5, 23, 0), (23, .iconst 0, 24, 0), (24, .istore 6, 26, 0), (26, .iload 6, 28, 0), (28, .aload_n 0, 29, 0), (29, .getfield 9, 32, 195)],
  [(32, .getfield 55, 35, 578), (35, .iconst 0, 36, 0), (36, .iaload, 37, 0), (37, .if_icmp .gt 65, 40, 102), (40, .aload_n 0, 41, 0), (41, .getfield 15, 44, 196), (44, .getfield 58, 47, 258), (47, .iload 4, 49, 0), (49, .iload 6, 51, 0), (51, .iadd, 52, 0), (52, .iaload, 53, 0), (53, .aload_n 0, 54, 0), (54, .getfield 15, 57, 196), (57, .getfield 58, 60, 258), (60, .iload 4, 62, 0), (62, .iload_n 3, 63, 0), (63, .iadd, 64, 0)],
  [(64, .iaload, 65, 0), (65, .isub, 66, 0), (66, .istore 7, 68, 0), (68, .iload 6, 70, 0), (70, .iload_n 3, 71, 0), (71, .isub, 72, 0), (72, .invokestatic 63, 75, 258), (75, .iconst 2, 76, 0), (76, .if_icmp .lt 20, 79, 96), (79, .iload 5, 81, 0), (81, .iconst (-1), 82, 0), (82, .if_icmp .eq 10, 85, 92), (85, .iload 7, 87, 0), (87, .iload 5, 89, 0), (89, .if_icmp .ge 7, 92, 96), (92, .iload 7, 94, 0), (94, .istore 5, 96, 0)],
  [(96, .iinc 6 1, 99, 0), (99, .goto (-73), 102, 26), (102, .iload 5, 104, 0), (104, .ireturn, 105, 0)]]
-- TwoViews$Maps.fineAt(II)I
set_option maxRecDepth 100000 in
noncomputable def mi_t16 : mi_T := [[(0, .aload_n 0, 1, 0), (1, .getfield 19, 4, 192), (4, .iconst 0, 5, 0), (5, .iload_n 1, 6, 0), (6, .iload_n 2, 7, 0), (7, .invokestatic 41, 10, 136), (10, .iaload, 11, 0), (11, .istore_n 3, 12, 0), (12, .iload_n 3, 13, 0), (13, .iconst 1, 14, 0), (14, .if_icmp .lt 16, 17, 30), (17, .iload_n 3, 18, 0), (18, .aload_n 0, 19, 0), (19, .getfield 9, 22, 195), (22, .getfield 55, 25, 578), (25, .iconst 0, 26, 0), (26, .iaload, 27, 0), (27, .if_icmp .lt 8, 30, 35), (30, .bipush 16, 32, 0)],
  [(32, .iload_n 3, 33, 0), (33, .imul, 34, 0), (34, .ireturn, 35, 0), (35, .iload_n 1, 36, 0), (36, .iload_n 2, 37, 0), (37, .iload_n 3, 38, 0), (38, .invokestatic 52, 41, 137), (41, .istore 4, 43, 0), (43, .aload_n 0, 44, 0), (44, .getfield 15, 47, 196), (47, .getfield 58, 50, 258), (50, .iload 4, 52, 0), (52, .iconst 1, 53, 0), (53, .isub, 54, 0), (54, .iaload, 55, 0), (55, .istore 5, 57, 0), (57, .aload_n 0, 58, 0), (58, .getfield 15, 61, 196), (61, .getfield 58, 64, 258)],
  [(64, .iload 4, 66, 0), (66, .iaload, 67, 0), (67, .istore 6, 69, 0), (69, .aload_n 0, 70, 0), (70, .getfield 15, 73, 196), (73, .getfield 58, 76, 258), (76, .iload 4, 78, 0), (78, .iconst 1, 79, 0), (79, .iadd, 80, 0), (80, .iaload, 81, 0), (81, .istore 7, 83, 0), (83, .iload 5, 85, 0), (85, .iload 7, 87, 0), (87, .iadd, 88, 0), (88, .iconst 2, 89, 0), (89, .iload 6, 91, 0), (91, .imul, 92, 0), (92, .isub, 93, 0), (93, .istore 8, 95, 0), (95, .iload 8, 97, 0)],
  [(97, .ifCond .le 24, 100, 121), (100, .bipush 16, 102, 0), (102, .iload_n 3, 103, 0), (103, .imul, 104, 0), (104, .bipush 8, 106, 0), (106, .iload 5, 108, 0), (108, .iload 7, 110, 0), (110, .isub, 111, 0), (111, .imul, 112, 0), (112, .iload 8, 114, 0), (114, .invokestatic 69, 117, 259), (117, .iadd, 118, 0), (118, .goto 7, 121, 125), (121, .bipush 16, 123, 0), (123, .iload_n 3, 124, 0), (124, .imul, 125, 0), (125, .ireturn, 126, 0)]]
-- TwoViews$Maps.makeKinds()V
set_option maxRecDepth 100000 in
noncomputable def mi_t17 : mi_T := [[(0, .iconst 0, 1, 0), (1, .istore_n 1, 2, 0), (2, .iload_n 1, 3, 0), (3, .aload_n 0, 4, 0), (4, .getfield 9, 7, 195), (7, .getfield 32, 10, 577), (10, .if_icmp .ge 64, 13, 74), (13, .iconst 0, 14, 0), (14, .istore_n 2, 15, 0), (15, .iload_n 2, 16, 0), (16, .aload_n 0, 17, 0), (17, .getfield 9, 20, 195), (20, .getfield 38, 23, 576), (23, .if_icmp .ge 45, 26, 68), (26, .aload_n 0, 27, 0), (27, .getfield 23, 30, 193), (30, .iconst 0, 31, 0), (31, .iload_n 2, 32, 0)],
  [(32, .iload_n 1, 33, 0), (33, .invokestatic 41, 36, 136), (36, .aload_n 0, 37, 0), (37, .iconst 0, 38, 0), (38, .iload_n 2, 39, 0), (39, .iload_n 1, 40, 0), (40, .invokevirtual 72, 43, 18), (43, .iastore, 44, 0), (44, .aload_n 0, 45, 0), (45, .getfield 23, 48, 193), (48, .iconst 1, 49, 0), (49, .iload_n 2, 50, 0), (50, .iload_n 1, 51, 0), (51, .invokestatic 41, 54, 136), (54, .aload_n 0, 55, 0), (55, .iconst 1, 56, 0), (56, .iload_n 2, 57, 0), (57, .iload_n 1, 58, 0), (58, .invokevirtual 72, 61, 18), (61, .iastore, 62, 0), (62, .iinc 2 1, 65, 0)],
  [(65, .goto (-50), 68, 15), (68, .iinc 1 1, 71, 0), (71, .goto (-69), 74, 2), (74, .return_, 75, 0)]]
-- TwoViews$Maps.kindBySight(III)I
set_option maxRecDepth 100000 in
noncomputable def mi_t18 : mi_T := [[(0, .aload_n 0, 1, 0), (1, .getfield 19, 4, 192), (4, .iload_n 1, 5, 0), (5, .iload_n 2, 6, 0), (6, .iload_n 3, 7, 0), (7, .invokestatic 41, 10, 136), (10, .iaload, 11, 0), (11, .istore 4, 13, 0), (13, .aload_n 0, 14, 0), (14, .iload_n 1, 15, 0), (15, .iload_n 2, 16, 0), (16, .iload_n 3, 17, 0), (17, .iload 4, 19, 0), (19, .invokevirtual 75, 22, 19), (22, .istore 5, 24, 0), (24, .iload 5, 26, 0), (26, .iconst (-1), 27, 0), (27, .if_icmp .eq 25, 30, 52), (30, .iload 5, 32, 0)],
  [(32, .iload 4, 34, 0), (34, .isub, 35, 0), (35, .invokestatic 63, 38, 258), (38, .aload_n 0, 39, 0), (39, .getfield 9, 42, 195), (42, .getfield 55, 45, 578), (45, .iconst 5, 46, 0), (46, .iaload, 47, 0), (47, .if_icmp .gt 5, 50, 52), (50, .iconst 0, 51, 0), (51, .ireturn, 52, 0), (52, .iconst 0, 53, 0), (53, .istore 6, 55, 0), (55, .iload 6, 57, 0), (57, .aload_n 0, 58, 0), (58, .getfield 9, 61, 195), (61, .getfield 55, 64, 578)],
  [(64, .iconst 0, 65, 0), (65, .iaload, 66, 0), (66, .if_icmp .gt 25, 69, 91), (69, .aload_n 0, 70, 0), (70, .iload_n 1, 71, 0), (71, .iload_n 2, 72, 0), (72, .iload_n 3, 73, 0), (73, .iload 6, 75, 0), (75, .invokevirtual 75, 78, 19), (78, .iload 6, 80, 0), (80, .if_icmp .ne 5, 83, 85), (83, .iconst 1, 84, 0), (84, .ireturn, 85, 0), (85, .iinc 6 1, 88, 0), (88, .goto (-33), 91, 55), (91, .iconst 2, 92, 0), (92, .ireturn, 93, 0)]]
-- TwoViews$Maps.shiftSeen(IIII)I
set_option maxRecDepth 100000 in
noncomputable def mi_t19 : mi_T := [[(0, .iload_n 1, 1, 0), (1, .ifCond .ne 10, 4, 11), (4, .iload_n 2, 5, 0), (5, .iload 4, 7, 0), (7, .isub, 8, 0), (8, .goto 7, 11, 15), (11, .iload_n 2, 12, 0), (12, .iload 4, 14, 0), (14, .iadd, 15, 0), (15, .istore 5, 17, 0), (17, .aload_n 0, 18, 0), (18, .getfield 9, 21, 195), (21, .iload 5, 23, 0), (23, .iload_n 3, 24, 0), (24, .invokevirtual 79, 27, 86), (27, .ifCond .eq 20, 30, 47), (30, .aload_n 0, 31, 0), (31, .getfield 19, 34, 192)],
  [(34, .iconst 1, 35, 0), (35, .iload_n 1, 36, 0), (36, .isub, 37, 0), (37, .iload 5, 39, 0), (39, .iload_n 3, 40, 0), (40, .invokestatic 41, 43, 136), (43, .iaload, 44, 0), (44, .goto 4, 47, 48), (47, .iconst (-1), 48, 0), (48, .ireturn, 49, 0)]]
-- TwoViews$Maps.howManyOf(II)I
set_option maxRecDepth 100000 in
noncomputable def mi_t20 : mi_T := [[(0, .iconst 0, 1, 0), (1, .istore_n 3, 2, 0), (2, .iconst 0, 3, 0), (3, .istore 4, 5, 0), (5, .iload 4, 7, 0), (7, .aload_n 0, 8, 0), (8, .getfield 9, 11, 195), (11, .getfield 32, 14, 577), (14, .if_icmp .ge 55, 17, 69), (17, .iconst 0, 18, 0), (18, .istore 5, 20, 0), (20, .iload 5, 22, 0), (22, .aload_n 0, 23, 0), (23, .getfield 9, 26, 195), (26, .getfield 38, 29, 576), (29, .if_icmp .ge 34, 32, 63)],
  [(32, .iload_n 3, 33, 0), (33, .aload_n 0, 34, 0), (34, .getfield 23, 37, 193), (37, .iload_n 1, 38, 0), (38, .iload 5, 40, 0), (40, .iload 4, 42, 0), (42, .invokestatic 41, 45, 136), (45, .iaload, 46, 0), (46, .iload_n 2, 47, 0), (47, .if_icmp .ne 7, 50, 54), (50, .iconst 1, 51, 0), (51, .goto 4, 54, 55), (54, .iconst 0, 55, 0), (55, .iadd, 56, 0), (56, .istore_n 3, 57, 0), (57, .iinc 5 1, 60, 0), (60, .goto (-40), 63, 20), (63, .iinc 4 1, 66, 0)],
  [(66, .goto (-61), 69, 5), (69, .iload_n 3, 70, 0), (70, .ireturn, 71, 0)]]
-- TwoViews$Maps.makeFilled()V
set_option maxRecDepth 100000 in
noncomputable def mi_t21 : mi_T := [[(0, .iconst 0, 1, 0), (1, .istore_n 1, 2, 0), (2, .iload_n 1, 3, 0), (3, .aload_n 0, 4, 0), (4, .getfield 9, 7, 195), (7, .getfield 32, 10, 577), (10, .if_icmp .ge 64, 13, 74), (13, .iconst 0, 14, 0), (14, .istore_n 2, 15, 0), (15, .iload_n 2, 16, 0), (16, .aload_n 0, 17, 0), (17, .getfield 9, 20, 195), (20, .getfield 38, 23, 576), (23, .if_icmp .ge 45, 26, 68), (26, .aload_n 0, 27, 0), (27, .getfield 26, 30, 194), (30, .iconst 0, 31, 0), (31, .iload_n 2, 32, 0)],
  [(32, .iload_n 1, 33, 0), (33, .invokestatic 41, 36, 136), (36, .aload_n 0, 37, 0), (37, .iconst 0, 38, 0), (38, .iload_n 2, 39, 0), (39, .iload_n 1, 40, 0), (40, .invokevirtual 83, 43, 22), (43, .iastore, 44, 0), (44, .aload_n 0, 45, 0), (45, .getfield 26, 48, 194), (48, .iconst 1, 49, 0), (49, .iload_n 2, 50, 0), (50, .iload_n 1, 51, 0), (51, .invokestatic 41, 54, 136), (54, .aload_n 0, 55, 0), (55, .iconst 1, 56, 0), (56, .iload_n 2, 57, 0), (57, .iload_n 1, 58, 0), (58, .invokevirtual 83, 61, 22), (61, .iastore, 62, 0), (62, .iinc 2 1, 65, 0)],
  [(65, .goto (-50), 68, 15), (68, .iinc 1 1, 71, 0), (71, .goto (-69), 74, 2), (74, .return_, 75, 0)]]
-- TwoViews$Maps.fillingOf(III)I
set_option maxRecDepth 100000 in
noncomputable def mi_t22 : mi_T := [[(0, .iload_n 1, 1, 0), (1, .iload_n 2, 2, 0), (2, .iload_n 3, 3, 0), (3, .invokestatic 41, 6, 136), (6, .istore 4, 8, 0), (8, .aload_n 0, 9, 0), (9, .getfield 23, 12, 193), (12, .iload 4, 14, 0), (14, .iaload, 15, 0), (15, .ifCond .ne 11, 18, 26), (18, .aload_n 0, 19, 0), (19, .getfield 19, 22, 192), (22, .iload 4, 24, 0), (24, .iaload, 25, 0), (25, .ireturn, 26, 0), (26, .aload_n 0, 27, 0), (27, .getfield 23, 30, 193), (30, .iload 4, 32, 0)],
  [(32, .iaload, 33, 0), (33, .iconst 2, 34, 0), (34, .if_icmp .ne 13, 37, 47), (37, .aload_n 0, 38, 0), (38, .iload_n 1, 39, 0), (39, .iload_n 2, 40, 0), (40, .iload_n 3, 41, 0), (41, .invokevirtual 86, 44, 23), (44, .goto 10, 47, 54), (47, .aload_n 0, 48, 0), (48, .iload_n 1, 49, 0), (49, .iload_n 2, 50, 0), (50, .iload_n 3, 51, 0), (51, .invokevirtual 89, 54, 24), (54, .ireturn, 55, 0)]]
-- TwoViews$Maps.lesserBeside(III)I
set_option maxRecDepth 100000 in
noncomputable def mi_t23 : mi_T := [[(0, .aload_n 0, 1, 0), (1, .iload_n 1, 2, 0), (2, .iload_n 2, 3, 0), (3, .iload_n 3, 4, 0), (4, .iconst 1, 5, 0), (5, .invokevirtual 92, 8, 25), (8, .istore 4, 10, 0), (10, .aload_n 0, 11, 0), (11, .iload_n 1, 12, 0), (12, .iload_n 2, 13, 0), (13, .iload_n 3, 14, 0), (14, .iconst 0, 15, 0), (15, .invokevirtual 92, 18, 25), (18, .istore 5, 20, 0), (20, .iload 4, 22, 0), (22, .iconst (-1), 23, 0), (23, .if_icmp .ne 10, 26, 33), (26, .iload 5, 28, 0), (28, .iconst 0, 29, 0), (29, .invokestatic 95, 32, 260)],
  [(32, .ireturn, 33, 0), (33, .iload 5, 35, 0), (35, .iconst (-1), 36, 0), (36, .if_icmp .ne 8, 39, 44), (39, .iload 4, 41, 0), (41, .goto 10, 44, 51), (44, .iload 4, 46, 0), (46, .iload 5, 48, 0), (48, .invokestatic 98, 51, 261), (51, .ireturn, 52, 0)]]
-- TwoViews$Maps.middleAround(III)I
set_option maxRecDepth 100000 in
noncomputable def mi_t24 : mi_T := [[(0, .iconst 0, 1, 0), (1, .istore 4, 3, 0), (3, .iload 4, 5, 0), (5, .bipush 8, 7, 0), (7, .if_icmp .ge 17, 10, 24), (10, .aload_n 0, 11, 0), (11, .getfield 29, 14, 197), (14, .iload 4, 16, 0), (16, .iconst 0, 17, 0), (17, .iastore, 18, 0), (18, .iinc 4 1, 21, 0), (21, .goto (-18), 24, 3), (24, .iconst 0, 25, 0), (25, .istore 4, 27, 0), (27, .iconst 0, 28, 0), (28, .istore 5, 30, 0), (30, .iload 5, 32, 0)],
  [(32, .bipush 8, 34, 0), (34, .if_icmp .ge 40, 37, 74), (37, .aload_n 0, 38, 0), (38, .iload_n 1, 39, 0), (39, .iload_n 2, 40, 0), (40, .iload_n 3, 41, 0), (41, .iload 5, 43, 0), (43, .invokevirtual 92, 46, 25), (46, .istore 6, 48, 0), (48, .iload 6, 50, 0), (50, .iconst (-1), 51, 0), (51, .if_icmp .eq 17, 54, 68), (54, .aload_n 0, 55, 0), (55, .getfield 29, 58, 197), (58, .iload 6, 60, 0), (60, .dup2, 61, 0), (61, .iaload, 62, 0), (62, .iconst 1, 63, 0), (63, .iadd, 64, 0)],
  [(64, .iastore, 65, 0), (65, .iinc 4 1, 68, 0), (68, .iinc 5 1, 71, 0), (71, .goto (-41), 74, 30), (74, .iconst 0, 75, 0), (75, .istore 5, 77, 0), (77, .iconst 0, 78, 0), (78, .istore 6, 80, 0), (80, .iload 6, 82, 0), (82, .bipush 8, 84, 0), (84, .if_icmp .ge 38, 87, 122), (87, .iload 5, 89, 0), (89, .aload_n 0, 90, 0), (90, .getfield 29, 93, 197), (93, .iload 6, 95, 0), (95, .iaload, 96, 0)],
  [(96, .iadd, 97, 0), (97, .istore 5, 99, 0), (99, .iload 4, 101, 0), (101, .ifCond .le 15, 104, 116), (104, .iconst 2, 105, 0), (105, .iload 5, 107, 0), (107, .imul, 108, 0), (108, .iload 4, 110, 0), (110, .if_icmp .lt 6, 113, 116), (113, .iload 6, 115, 0), (115, .ireturn, 116, 0), (116, .iinc 6 1, 119, 0), (119, .goto (-39), 122, 80), (122, .iconst 0, 123, 0), (123, .ireturn, 124, 0)]]
-- TwoViews$Maps.nearestSure(IIII)I
set_option maxRecDepth 100000 in
noncomputable def mi_t25 : mi_T := [[(0, .iconst 1, 1, 0), (1, .istore 5, 3, 0), (3, .iload 5, 5, 0), (5, .bipush 16, 7, 0), (7, .if_icmp .ge 81, 10, 88), (10, .iload_n 2, 11, 0), (11, .iload 5, 13, 0), (13, .getstatic 101, 16, 1003), (16, .iload 4, 18, 0), (18, .iaload, 19, 0), (19, .imul, 20, 0), (20, .iadd, 21, 0), (21, .istore 6, 23, 0), (23, .iload_n 3, 24, 0), (24, .iload 5, 26, 0), (26, .getstatic 104, 29, 1004), (29, .iload 4, 31, 0), (31, .iaload, 32, 0)],
  [(32, .imul, 33, 0), (33, .iadd, 34, 0), (34, .istore 7, 36, 0), (36, .aload_n 0, 37, 0), (37, .getfield 9, 40, 195), (40, .iload 6, 42, 0), (42, .iload 7, 44, 0), (44, .invokevirtual 79, 47, 86), (47, .ifCond .ne 5, 50, 52), (50, .iconst (-1), 51, 0), (51, .ireturn, 52, 0), (52, .aload_n 0, 53, 0), (53, .getfield 23, 56, 193), (56, .iload_n 1, 57, 0), (57, .iload 6, 59, 0), (59, .iload 7, 61, 0), (61, .invokestatic 41, 64, 136)],
  [(64, .iaload, 65, 0), (65, .ifCond .ne 17, 68, 82), (68, .aload_n 0, 69, 0), (69, .getfield 19, 72, 192), (72, .iload_n 1, 73, 0), (73, .iload 6, 75, 0), (75, .iload 7, 77, 0), (77, .invokestatic 41, 80, 136), (80, .iaload, 81, 0), (81, .ireturn, 82, 0), (82, .iinc 5 1, 85, 0), (85, .goto (-82), 88, 3), (88, .iconst (-1), 89, 0), (89, .ireturn, 90, 0)]]
-- TwoViews$Maps.valueBetween(III)I
set_option maxRecDepth 100000 in
noncomputable def mi_t26 : mi_T := [[(0, .aload_n 0, 1, 0), (1, .iconst 0, 2, 0), (2, .iload_n 1, 3, 0), (3, .iload_n 2, 4, 0), (4, .iload_n 3, 5, 0), (5, .invokevirtual 107, 8, 27), (8, .istore 4, 10, 0), (10, .iload 4, 12, 0), (12, .iconst (-1), 13, 0), (13, .if_icmp .eq 19, 16, 32), (16, .aload_n 0, 17, 0), (17, .getfield 9, 20, 195), (20, .getfield 110, 23, 579), (23, .iconst 0, 24, 0), (24, .iload 4, 26, 0), (26, .iload_n 3, 27, 0), (27, .invokestatic 41, 30, 136), (30, .iaload, 31, 0), (31, .ireturn, 32, 0)],
  [(32, .aload_n 0, 33, 0), (33, .iconst 1, 34, 0), (34, .iload_n 1, 35, 0), (35, .iload_n 2, 36, 0), (36, .iload_n 3, 37, 0), (37, .invokevirtual 107, 40, 27), (40, .istore 4, 42, 0), (42, .iload 4, 44, 0), (44, .iconst (-1), 45, 0), (45, .if_icmp .ne 8, 48, 53), (48, .bipush (-2), 50, 0), (50, .goto 18, 53, 68), (53, .aload_n 0, 54, 0), (54, .getfield 9, 57, 195), (57, .getfield 110, 60, 579), (60, .iconst 1, 61, 0), (61, .iload 4, 63, 0), (63, .iload_n 3, 64, 0)],
  [(64, .invokestatic 41, 67, 136), (67, .iaload, 68, 0), (68, .ireturn, 69, 0)]]
-- TwoViews$Maps.comesFrom(IIII)I
set_option maxRecDepth 100000 in
noncomputable def mi_t27 : mi_T := [[(0, .iconst (-1), 1, 0), (1, .istore 5, 3, 0), (3, .iconst (-1), 4, 0), (4, .istore 6, 6, 0), (6, .iconst 0, 7, 0), (7, .istore 7, 9, 0), (9, .iload 7, 11, 0), (11, .aload_n 0, 12, 0), (12, .getfield 9, 15, 195), (15, .getfield 38, 18, 576), (18, .if_icmp .ge 74, 21, 92), (21, .aload_n 0, 22, 0), (22, .getfield 26, 25, 194), (25, .iload_n 1, 26, 0), (26, .iload 7, 28, 0), (28, .iload 4, 30, 0), (30, .invokestatic 41, 33, 136)],
  [(33, .iaload, 34, 0), (34, .istore 8, 36, 0), (36, .iload_n 1, 37, 0), (37, .ifCond .ne 15, 40, 52), (40, .iload 7, 42, 0), (42, .iload_n 2, 43, 0), (43, .iload 8, 45, 0), (45, .invokestatic 113, 48, 28), (48, .isub, 49, 0), (49, .goto 14, 52, 63), (52, .iload 7, 54, 0), (54, .iconst 4, 55, 0), (55, .iload_n 2, 56, 0), (56, .isub, 57, 0), (57, .iload 8, 59, 0), (59, .invokestatic 113, 62, 28), (62, .iadd, 63, 0), (63, .istore 9, 65, 0)],
  [(65, .iload 9, 67, 0), (67, .iload_n 3, 68, 0), (68, .if_icmp .ne 18, 71, 86), (71, .iload 8, 73, 0), (73, .iload 6, 75, 0), (75, .if_icmp .le 11, 78, 86), (78, .iload 7, 80, 0), (80, .istore 5, 82, 0), (82, .iload 8, 84, 0), (84, .istore 6, 86, 0), (86, .iinc 7 1, 89, 0), (89, .goto (-80), 92, 9), (92, .iload 5, 94, 0), (94, .ireturn, 95, 0)]]
-- TwoViews$Maps.quarters(II)I
set_option maxRecDepth 100000 in
noncomputable def mi_t28 : mi_T := [[(0, .iload_n 0, 1, 0), (1, .iload_n 1, 2, 0), (2, .imul, 3, 0), (3, .iconst 2, 4, 0), (4, .iadd, 5, 0), (5, .iconst 2, 6, 0), (6, .ishr, 7, 0), (7, .ireturn, 8, 0)]]
-- TwoViews$Maps.priceOf([I)I
set_option maxRecDepth 100000 in
noncomputable def mi_t29 : mi_T := [[(0, .iconst 0, 1, 0), (1, .istore_n 2, 2, 0), (2, .iconst 0, 3, 0), (3, .istore_n 3, 4, 0), (4, .iload_n 3, 5, 0), (5, .aload_n 0, 6, 0), (6, .getfield 9, 9, 195), (9, .getfield 32, 12, 577), (12, .if_icmp .ge 133, 15, 145), (15, .iconst 0, 16, 0), (16, .istore 4, 18, 0), (18, .iload 4, 20, 0), (20, .aload_n 0, 21, 0), (21, .getfield 9, 24, 195), (24, .getfield 38, 27, 576), (27, .if_icmp .ge 112, 30, 139), (30, .aload_n 1, 31, 0), (31, .iconst 0, 32, 0)],
  [(32, .iload 4, 34, 0), (34, .iload_n 3, 35, 0), (35, .invokestatic 41, 38, 136), (38, .iaload, 39, 0), (39, .istore 5, 41, 0), (41, .iload_n 2, 42, 0), (42, .aload_n 0, 43, 0), (43, .getfield 15, 46, 196), (46, .getfield 116, 49, 257), (49, .iload 4, 51, 0), (51, .iload_n 3, 52, 0), (52, .iload 5, 54, 0), (54, .invokestatic 52, 57, 137), (57, .iaload, 58, 0), (58, .iadd, 59, 0), (59, .istore_n 2, 60, 0), (60, .iload 4, 62, 0), (62, .iconst 1, 63, 0), (63, .iadd, 64, 0)],
  [(64, .aload_n 0, 65, 0), (65, .getfield 9, 68, 195), (68, .getfield 38, 71, 576), (71, .if_icmp .ge 26, 74, 97), (74, .iload_n 2, 75, 0), (75, .aload_n 0, 76, 0), (76, .getfield 9, 79, 195), (79, .iload 5, 81, 0), (81, .aload_n 1, 82, 0), (82, .iconst 0, 83, 0), (83, .iload 4, 85, 0), (85, .iconst 1, 86, 0), (86, .iadd, 87, 0), (87, .iload_n 3, 88, 0), (88, .invokestatic 41, 91, 136), (91, .iaload, 92, 0), (92, .invokevirtual 119, 95, 91), (95, .iadd, 96, 0)],
  [(96, .istore_n 2, 97, 0), (97, .iload_n 3, 98, 0), (98, .iconst 1, 99, 0), (99, .iadd, 100, 0), (100, .aload_n 0, 101, 0), (101, .getfield 9, 104, 195), (104, .getfield 32, 107, 577), (107, .if_icmp .ge 26, 110, 133), (110, .iload_n 2, 111, 0), (111, .aload_n 0, 112, 0), (112, .getfield 9, 115, 195), (115, .iload 5, 117, 0), (117, .aload_n 1, 118, 0), (118, .iconst 0, 119, 0), (119, .iload 4, 121, 0), (121, .iload_n 3, 122, 0), (122, .iconst 1, 123, 0), (123, .iadd, 124, 0), (124, .invokestatic 41, 127, 136), (127, .iaload, 128, 0)],
  [(128, .invokevirtual 119, 131, 91), (131, .iadd, 132, 0), (132, .istore_n 2, 133, 0), (133, .iinc 4 1, 136, 0), (136, .goto (-118), 139, 18), (139, .iinc 3 1, 142, 0), (142, .goto (-138), 145, 4), (145, .iload_n 2, 146, 0), (146, .ireturn, 147, 0)]]
-- TwoViews$Matcher.<init>(LTwoViews$Scene;)V
set_option maxRecDepth 100000 in
noncomputable def mi_t30 : mi_T := [[(0, .aload_n 0, 1, 0), (1, .invokespecial 3, 4, 9999), (4, .aload_n 0, 5, 0), (5, .aload_n 1, 6, 0), (6, .putfield 9, 9, 260), (9, .aload_n 0, 10, 0), (10, .sipush 384, 13, 0), (13, .newarray .int, 15, 0), (15, .putfield 15, 18, 256), (18, .aload_n 0, 19, 0), (19, .sipush 1536, 22, 0), (22, .newarray .int, 24, 0), (24, .putfield 19, 27, 257), (27, .aload_n 0, 28, 0), (28, .sipush 1536, 31, 0), (31, .newarray .int, 33, 0)],
  [(33, .putfield 22, 36, 258), (36, .aload_n 0, 37, 0), (37, .sipush 1536, 40, 0), (40, .newarray .int, 42, 0), (42, .putfield 25, 45, 259), (45, .aload_n 0, 46, 0), (46, .iconst (-1), 47, 0), (47, .putfield 28, 50, 261), (50, .return_, 51, 0)]]
-- TwoViews$Matcher.makeCodes()V
set_option maxRecDepth 100000 in
noncomputable def mi_t31 : mi_T := [[(0, .iconst 0, 1, 0), (1, .istore_n 1, 2, 0), (2, .iload_n 1, 3, 0), (3, .aload_n 0, 4, 0), (4, .getfield 9, 7, 260), (7, .getfield 32, 10, 577), (10, .if_icmp .ge 64, 13, 74), (13, .iconst 0, 14, 0), (14, .istore_n 2, 15, 0), (15, .iload_n 2, 16, 0), (16, .aload_n 0, 17, 0), (17, .getfield 9, 20, 260), (20, .getfield 37, 23, 576), (23, .if_icmp .ge 45, 26, 68), (26, .aload_n 0, 27, 0), (27, .getfield 15, 30, 256), (30, .iconst 0, 31, 0), (31, .iload_n 2, 32, 0)],
  [(32, .iload_n 1, 33, 0), (33, .invokestatic 40, 36, 136), (36, .aload_n 0, 37, 0), (37, .iconst 0, 38, 0), (38, .iload_n 2, 39, 0), (39, .iload_n 1, 40, 0), (40, .invokevirtual 44, 43, 32), (43, .iastore, 44, 0), (44, .aload_n 0, 45, 0), (45, .getfield 15, 48, 256), (48, .iconst 1, 49, 0), (49, .iload_n 2, 50, 0), (50, .iload_n 1, 51, 0), (51, .invokestatic 40, 54, 136), (54, .aload_n 0, 55, 0), (55, .iconst 1, 56, 0), (56, .iload_n 2, 57, 0), (57, .iload_n 1, 58, 0), (58, .invokevirtual 44, 61, 32), (61, .iastore, 62, 0), (62, .iinc 2 1, 65, 0)],
  [(65, .goto (-50), 68, 15), (68, .iinc 1 1, 71, 0), (71, .goto (-69), 74, 2), (74, .return_, 75, 0)]]
-- TwoViews$Matcher.codeBits(III)I
set_option maxRecDepth 100000 in
noncomputable def mi_t32 : mi_T := [[(0, .aload_n 0, 1, 0), (1, .getfield 9, 4, 260), (4, .getfield 47, 7, 578), (7, .iconst 1, 8, 0), (8, .iaload, 9, 0), (9, .istore 4, 11, 0), (11, .aload_n 0, 12, 0), (12, .getfield 9, 15, 260), (15, .getfield 50, 18, 579), (18, .iload_n 1, 19, 0), (19, .iload_n 2, 20, 0), (20, .iload_n 3, 21, 0), (21, .invokestatic 40, 24, 136), (24, .iaload, 25, 0), (25, .istore 5, 27, 0), (27, .iconst 0, 28, 0), (28, .istore 6, 30, 0), (30, .iload_n 3, 31, 0), (31, .iload 4, 33, 0)],
  [(33, .isub, 34, 0), (34, .istore 7, 36, 0), (36, .iload 7, 38, 0), (38, .iload_n 3, 39, 0), (39, .iload 4, 41, 0), (41, .iadd, 42, 0), (42, .if_icmp .gt 109, 45, 151), (45, .iload_n 1, 46, 0), (46, .iconst 0, 47, 0), (47, .iload 7, 49, 0), (49, .aload_n 0, 50, 0), (50, .getfield 9, 53, 260), (53, .getfield 32, 56, 577), (56, .iconst 1, 57, 0), (57, .isub, 58, 0), (58, .invokestatic 53, 61, 33), (61, .invokestatic 40, 64, 136)],
  [(64, .istore 8, 66, 0), (66, .iload_n 2, 67, 0), (67, .iload 4, 69, 0), (69, .isub, 70, 0), (70, .istore 9, 72, 0), (72, .iload 9, 74, 0), (74, .iload_n 2, 75, 0), (75, .iload 4, 77, 0), (77, .iadd, 78, 0), (78, .if_icmp .gt 67, 81, 145), (81, .iload 9, 83, 0), (83, .iload_n 2, 84, 0), (84, .if_icmp .ne 9, 87, 93), (87, .iload 7, 89, 0), (89, .iload_n 3, 90, 0), (90, .if_icmp .eq 49, 93, 139), (93, .aload_n 0, 94, 0), (94, .getfield 9, 97, 260)],
  [(97, .getfield 50, 100, 579), (100, .iload 8, 102, 0), (102, .iload 9, 104, 0), (104, .aload_n 0, 105, 0), (105, .getfield 9, 108, 260), (108, .getfield 37, 111, 576), (111, .iconst 1, 112, 0), (112, .isub, 113, 0), (113, .invokestatic 53, 116, 33), (116, .iadd, 117, 0), (117, .iaload, 118, 0), (118, .istore 10, 120, 0), (120, .iload 6, 122, 0), (122, .iconst 1, 123, 0), (123, .ishl, 124, 0), (124, .iload 10, 126, 0), (126, .iload 5, 128, 0)],
  [(128, .if_icmp .ge 7, 131, 135), (131, .iconst 1, 132, 0), (132, .goto 4, 135, 136), (135, .iconst 0, 136, 0), (136, .iadd, 137, 0), (137, .istore 6, 139, 0), (139, .iinc 9 1, 142, 0), (142, .goto (-70), 145, 72), (145, .iinc 7 1, 148, 0), (148, .goto (-112), 151, 36), (151, .iload 6, 153, 0), (153, .ireturn, 154, 0)]]
-- TwoViews$Matcher.nearest(II)I
set_option maxRecDepth 100000 in
noncomputable def mi_t33 : mi_T := [[(0, .iload_n 0, 1, 0), (1, .ifCond .ge 7, 4, 8), (4, .iconst 0, 5, 0), (5, .goto 13, 8, 18), (8, .iload_n 0, 9, 0), (9, .iload_n 1, 10, 0), (10, .if_icmp .le 7, 13, 17), (13, .iload_n 1, 14, 0), (14, .goto 4, 17, 18), (17, .iload_n 0, 18, 0), (18, .ireturn, 19, 0)]]
-- TwoViews$Matcher.makeCosts()V
set_option maxRecDepth 100000 in
noncomputable def mi_t34 : mi_T := [[(0, .iconst 0, 1, 0), (1, .istore_n 1, 2, 0), (2, .iload_n 1, 3, 0), (3, .aload_n 0, 4, 0), (4, .getfield 9, 7, 260), (7, .getfield 32, 10, 577), (10, .if_icmp .ge 60, 13, 70), (13, .iconst 0, 14, 0), (14, .istore_n 2, 15, 0), (15, .iload_n 2, 16, 0), (16, .aload_n 0, 17, 0), (17, .getfield 9, 20, 260), (20, .getfield 37, 23, 576), (23, .if_icmp .ge 41, 26, 64), (26, .iconst 0, 27, 0), (27, .istore_n 3, 28, 0), (28, .iload_n 3, 29, 0), (29, .bipush 8, 31, 0), (31, .if_icmp .ge 27, 34, 58)],
  [(34, .aload_n 0, 35, 0), (35, .getfield 19, 38, 257), (38, .iload_n 2, 39, 0), (39, .iload_n 1, 40, 0), (40, .iload_n 3, 41, 0), (41, .invokestatic 57, 44, 137), (44, .aload_n 0, 45, 0), (45, .iload_n 2, 46, 0), (46, .iload_n 1, 47, 0), (47, .iload_n 3, 48, 0), (48, .invokevirtual 60, 51, 35), (51, .iastore, 52, 0), (52, .iinc 3 1, 55, 0), (55, .goto (-27), 58, 28), (58, .iinc 2 1, 61, 0), (61, .goto (-46), 64, 15)],
  [(64, .iinc 1 1, 67, 0), (67, .goto (-65), 70, 2), (70, .return_, 71, 0)]]
-- TwoViews$Matcher.unlikeBits(III)I
set_option maxRecDepth 100000 in
noncomputable def mi_t35 : mi_T := [[(0, .iload_n 1, 1, 0), (1, .iload_n 3, 2, 0), (2, .isub, 3, 0), (3, .ifCond .ge 11, 6, 14), (6, .aload_n 0, 7, 0), (7, .getfield 9, 10, 260), (10, .invokevirtual 63, 13, 90), (13, .ireturn, 14, 0), (14, .aload_n 0, 15, 0), (15, .getfield 15, 18, 256), (18, .iconst 0, 19, 0), (19, .iload_n 1, 20, 0), (20, .iload_n 2, 21, 0), (21, .invokestatic 40, 24, 136), (24, .iaload, 25, 0), (25, .aload_n 0, 26, 0), (26, .getfield 15, 29, 256), (29, .iconst 1, 30, 0), (30, .iload_n 1, 31, 0), (31, .iload_n 3, 32, 0)],
  [(32, .isub, 33, 0), (33, .iload_n 2, 34, 0), (34, .invokestatic 40, 37, 136), (37, .iaload, 38, 0), (38, .ixor, 39, 0), (39, .invokestatic 67, 42, 257), (42, .ireturn, 43, 0)]]
-- TwoViews$Matcher.howOften(II)I
set_option maxRecDepth 100000 in
noncomputable def mi_t36 : mi_T := [[(0, .iconst 0, 1, 0), (1, .istore_n 3, 2, 0), (2, .iconst 0, 3, 0), (3, .istore 4, 5, 0), (5, .iload 4, 7, 0), (7, .aload_n 0, 8, 0), (8, .getfield 9, 11, 260), (11, .getfield 32, 14, 577), (14, .if_icmp .ge 55, 17, 69), (17, .iconst 0, 18, 0), (18, .istore 5, 20, 0), (20, .iload 5, 22, 0), (22, .aload_n 0, 23, 0), (23, .getfield 9, 26, 260), (26, .getfield 37, 29, 576), (29, .if_icmp .ge 34, 32, 63)],
  [(32, .iload_n 3, 33, 0), (33, .aload_n 0, 34, 0), (34, .getfield 15, 37, 256), (37, .iload_n 1, 38, 0), (38, .iload 5, 40, 0), (40, .iload 4, 42, 0), (42, .invokestatic 40, 45, 136), (45, .iaload, 46, 0), (46, .iload_n 2, 47, 0), (47, .if_icmp .ne 7, 50, 54), (50, .iconst 1, 51, 0), (51, .goto 4, 54, 55), (54, .iconst 0, 55, 0), (55, .iadd, 56, 0), (56, .istore_n 3, 57, 0), (57, .iinc 5 1, 60, 0), (60, .goto (-40), 63, 20), (63, .iinc 4 1, 66, 0)],
  [(66, .goto (-61), 69, 5), (69, .iload_n 3, 70, 0), (70, .ireturn, 71, 0)]]
-- TwoViews$Matcher.unlikeCodes(I)I
set_option maxRecDepth 100000 in
noncomputable def mi_t37 : mi_T := [[(0, .iconst 0, 1, 0), (1, .istore_n 2, 2, 0), (2, .iconst 0, 3, 0), (3, .istore_n 3, 4, 0), (4, .iload_n 3, 5, 0), (5, .aload_n 0, 6, 0), (6, .getfield 9, 9, 260), (9, .getfield 32, 12, 577), (12, .if_icmp .ge 49, 15, 61), (15, .iconst 0, 16, 0), (16, .istore 4, 18, 0), (18, .iload 4, 20, 0), (20, .aload_n 0, 21, 0), (21, .getfield 9, 24, 260), (24, .getfield 37, 27, 576), (27, .if_icmp .ge 28, 30, 55), (30, .iload_n 2, 31, 0), (31, .aload_n 0, 32, 0)],
  [(32, .iload_n 1, 33, 0), (33, .iload 4, 35, 0), (35, .iload_n 3, 36, 0), (36, .invokevirtual 73, 39, 38), (39, .ifCond .eq 7, 42, 46), (42, .iconst 0, 43, 0), (43, .goto 4, 46, 47), (46, .iconst 1, 47, 0), (47, .iadd, 48, 0), (48, .istore_n 2, 49, 0), (49, .iinc 4 1, 52, 0), (52, .goto (-34), 55, 18), (55, .iinc 3 1, 58, 0), (58, .goto (-54), 61, 4), (61, .iload_n 2, 62, 0), (62, .ireturn, 63, 0)]]
-- TwoViews$Matcher.wasBefore(III)Z
set_option maxRecDepth 100000 in
noncomputable def mi_t38 : mi_T := [[(0, .iload_n 1, 1, 0), (1, .iload_n 2, 2, 0), (2, .iload_n 3, 3, 0), (3, .invokestatic 40, 6, 136), (6, .istore 4, 8, 0), (8, .aload_n 0, 9, 0), (9, .getfield 15, 12, 256), (12, .iload 4, 14, 0), (14, .iaload, 15, 0), (15, .istore 5, 17, 0), (17, .iconst 0, 18, 0), (18, .istore 6, 20, 0), (20, .iload 6, 22, 0), (22, .iload_n 3, 23, 0), (23, .if_icmp .gt 63, 26, 86), (26, .iconst 0, 27, 0), (27, .istore 7, 29, 0), (29, .iload 7, 31, 0), (31, .aload_n 0, 32, 0)],
  [(32, .getfield 9, 35, 260), (35, .getfield 37, 38, 576), (38, .if_icmp .ge 42, 41, 80), (41, .iload_n 1, 42, 0), (42, .iload 7, 44, 0), (44, .iload 6, 46, 0), (46, .invokestatic 40, 49, 136), (49, .istore 8, 51, 0), (51, .iload 8, 53, 0), (53, .iload 4, 55, 0), (55, .if_icmp .lt 5, 58, 60), (58, .iconst 0, 59, 0), (59, .ireturn, 60, 1), (60, .aload_n 0, 61, 0), (61, .getfield 15, 64, 256)],
  [(64, .iload 8, 66, 0), (66, .iaload, 67, 0), (67, .iload 5, 69, 0), (69, .if_icmp .ne 5, 72, 74), (72, .iconst 1, 73, 0), (73, .ireturn, 74, 1), (74, .iinc 7 1, 77, 0), (77, .goto (-48), 80, 29), (80, .iinc 6 1, 83, 0), (83, .goto (-63), 86, 20), (86, .iconst 0, 87, 0), (87, .ireturn, 88, 1)]]
-- TwoViews$Matcher.forgetWay()V
set_option maxRecDepth 100000 in
noncomputable def mi_t39 : mi_T := [[(0, .aload_n 0, 1, 0), (1, .iconst (-1), 2, 0), (2, .putfield 28, 5, 261), (5, .return_, 6, 0)]]
-- TwoViews$Matcher.makeSums()V
set_option maxRecDepth 100000 in
noncomputable def mi_t40 : mi_T := [[(0, .iconst 0, 1, 0), (1, .istore_n 1, 2, 0), (2, .iload_n 1, 3, 0), (3, .sipush 1536, 6, 0), (6, .if_icmp .ge 16, 9, 22), (9, .aload_n 0, 10, 0), (10, .getfield 22, 13, 258), (13, .iload_n 1, 14, 0), (14, .iconst 0, 15, 0), (15, .iastore, 16, 0), (16, .iinc 1 1, 19, 0), (19, .goto (-17), 22, 2), (22, .iconst 0, 23, 0), (23, .istore_n 1, 24, 0), (24, .iload_n 1, 25, 0), (25, .bipush 8, 27, 0), (27, .if_icmp .ge 35, 30, 62), (30, .aload_n 0, 31, 0), (31, .getfield 9, 34, 260)],
  [(34, .getfield 47, 37, 578), (37, .iconst 4, 38, 0), (38, .iaload, 39, 0), (39, .iload_n 1, 40, 0), (40, .ishr, 41, 0), (41, .iconst 1, 42, 0), (42, .iand, 43, 0), (43, .iconst 1, 44, 0), (44, .if_icmp .ne 12, 47, 56), (47, .aload_n 0, 48, 0), (48, .iload_n 1, 49, 0), (49, .invokevirtual 77, 52, 42), (52, .aload_n 0, 53, 0), (53, .invokevirtual 81, 56, 41), (56, .iinc 1 1, 59, 0), (59, .goto (-35), 62, 24), (62, .return_, 63, 0)]]
-- TwoViews$Matcher.addTold()V
set_option maxRecDepth 100000 in
noncomputable def mi_t41 : mi_T := [[(0, .iconst 0, 1, 0), (1, .istore_n 1, 2, 0), (2, .iload_n 1, 3, 0), (3, .aload_n 0, 4, 0), (4, .getfield 9, 7, 260), (7, .getfield 32, 10, 577), (10, .if_icmp .ge 64, 13, 74), (13, .iconst 0, 14, 0), (14, .iload_n 1, 15, 0), (15, .iconst 0, 16, 0), (16, .invokestatic 57, 19, 137), (19, .istore_n 2, 20, 0), (20, .aload_n 0, 21, 0), (21, .getfield 9, 24, 260), (24, .getfield 37, 27, 576), (27, .iconst 1, 28, 0), (28, .isub, 29, 0), (29, .iload_n 1, 30, 0), (30, .bipush 7, 32, 0)],
  [(32, .invokestatic 57, 35, 137), (35, .istore_n 3, 36, 0), (36, .iload_n 2, 37, 0), (37, .istore 4, 39, 0), (39, .iload 4, 41, 0), (41, .iload_n 3, 42, 0), (42, .if_icmp .gt 26, 45, 68), (45, .aload_n 0, 46, 0), (46, .getfield 22, 49, 258), (49, .iload 4, 51, 0), (51, .dup2, 52, 0), (52, .iaload, 53, 0), (53, .aload_n 0, 54, 0), (54, .getfield 25, 57, 259), (57, .iload 4, 59, 0), (59, .iaload, 60, 0), (60, .iadd, 61, 0), (61, .iastore, 62, 0), (62, .iinc 4 1, 65, 0)],
  [(65, .goto (-26), 68, 39), (68, .iinc 1 1, 71, 0), (71, .goto (-69), 74, 2), (74, .return_, 75, 0)]]
-- TwoViews$Matcher.tell(I)V
set_option maxRecDepth 100000 in
noncomputable def mi_t42 : mi_T := [[(0, .aload_n 0, 1, 0), (1, .getfield 28, 4, 261), (4, .iload_n 1, 5, 0), (5, .if_icmp .ne 4, 8, 9), (8, .return_, 9, 0), (9, .getstatic 84, 12, 1003), (12, .iload_n 1, 13, 0), (13, .iaload, 14, 0), (14, .istore_n 2, 15, 0), (15, .getstatic 87, 18, 1004), (18, .iload_n 1, 19, 0), (19, .iaload, 20, 0), (20, .istore_n 3, 21, 0), (21, .iconst 0, 22, 0), (22, .istore 4, 24, 0), (24, .iload 4, 26, 0), (26, .aload_n 0, 27, 0), (27, .getfield 9, 30, 260), (30, .getfield 32, 33, 577)],
  [(33, .if_icmp .ge 133, 36, 166), (36, .iload_n 3, 37, 0), (37, .ifCond .ge 18, 40, 55), (40, .aload_n 0, 41, 0), (41, .getfield 9, 44, 260), (44, .getfield 32, 47, 577), (47, .iconst 1, 48, 0), (48, .isub, 49, 0), (49, .iload 4, 51, 0), (51, .isub, 52, 0), (52, .goto 5, 55, 57), (55, .iload 4, 57, 0), (57, .istore 5, 59, 0), (59, .iconst 0, 60, 0), (60, .istore 6, 62, 0), (62, .iload 6, 64, 0)],
  [(64, .aload_n 0, 65, 0), (65, .getfield 9, 68, 260), (68, .getfield 37, 71, 576), (71, .if_icmp .ge 89, 74, 160), (74, .iload_n 2, 75, 0), (75, .ifCond .ge 18, 78, 93), (78, .aload_n 0, 79, 0), (79, .getfield 9, 82, 260), (82, .getfield 37, 85, 576), (85, .iconst 1, 86, 0), (86, .isub, 87, 0), (87, .iload 6, 89, 0), (89, .isub, 90, 0), (90, .goto 5, 93, 95), (93, .iload 6, 95, 0), (95, .istore 7, 97, 0)],
  [(97, .aload_n 0, 98, 0), (98, .getfield 9, 101, 260), (101, .iload 7, 103, 0), (103, .iload_n 2, 104, 0), (104, .isub, 105, 0), (105, .iload 5, 107, 0), (107, .iload_n 3, 108, 0), (108, .isub, 109, 0), (109, .invokevirtual 90, 112, 86), (112, .ifCond .eq 30, 115, 142), (115, .aload_n 0, 116, 0), (116, .iload 7, 118, 0), (118, .iload 5, 120, 0), (120, .iconst 0, 121, 0), (121, .invokestatic 57, 124, 137), (124, .iload 7, 126, 0), (126, .iload_n 2, 127, 0), (127, .isub, 128, 0)],
  [(128, .iload 5, 130, 0), (130, .iload_n 3, 131, 0), (131, .isub, 132, 0), (132, .iconst 0, 133, 0), (133, .invokestatic 57, 136, 137), (136, .invokevirtual 94, 139, 44), (139, .goto 15, 142, 154), (142, .aload_n 0, 143, 0), (143, .iload 7, 145, 0), (145, .iload 5, 147, 0), (147, .iconst 0, 148, 0), (148, .invokestatic 57, 151, 137), (151, .invokevirtual 98, 154, 43), (154, .iinc 6 1, 157, 0), (157, .goto (-95), 160, 62)],
  [(160, .iinc 4 1, 163, 0), (163, .goto (-139), 166, 24), (166, .aload_n 0, 167, 0), (167, .iload_n 1, 168, 0), (168, .putfield 28, 171, 261), (171, .return_, 172, 0)]]
-- TwoViews$Matcher.begin(I)V
set_option maxRecDepth 100000 in
noncomputable def mi_t43 : mi_T := [[(0, .iconst 0, 1, 0), (1, .istore_n 2, 2, 0), (2, .iload_n 2, 3, 0), (3, .aload_n 0, 4, 0), (4, .getfield 9, 7, 260), (7, .getfield 47, 10, 578), (10, .iconst 0, 11, 0), (11, .iaload, 12, 0), (12, .if_icmp .gt 25, 15, 37), (15, .aload_n 0, 16, 0), (16, .getfield 25, 19, 259), (19, .iload_n 1, 20, 0), (20, .iload_n 2, 21, 0), (21, .iadd, 22, 0), (22, .aload_n 0, 23, 0), (23, .getfield 19, 26, 257), (26, .iload_n 1, 27, 0), (27, .iload_n 2, 28, 0), (28, .iadd, 29, 0), (29, .iaload, 30, 0), (30, .iastore, 31, 0), (31, .iinc 2 1, 34, 0)],
  [(34, .goto (-32), 37, 2), (37, .return_, 38, 0)]]
-- TwoViews$Matcher.goOn(II)V
set_option maxRecDepth 100000 in
noncomputable def mi_t44 : mi_T := [[(0, .aload_n 0, 1, 0), (1, .getfield 9, 4, 260), (4, .getfield 47, 7, 578), (7, .iconst 0, 8, 0), (8, .iaload, 9, 0), (9, .istore_n 3, 10, 0), (10, .aload_n 0, 11, 0), (11, .getfield 9, 14, 260), (14, .getfield 47, 17, 578), (17, .iconst 2, 18, 0), (18, .iaload, 19, 0), (19, .istore 4, 21, 0), (21, .aload_n 0, 22, 0), (22, .getfield 25, 25, 259), (25, .iload_n 2, 26, 0), (26, .iaload, 27, 0), (27, .istore 5, 29, 0), (29, .iconst 1, 30, 0), (30, .istore 6, 32, 0)],
  [(32, .iload 6, 34, 0), (34, .iload_n 3, 35, 0), (35, .if_icmp .gt 25, 38, 60), (38, .iload 5, 40, 0), (40, .aload_n 0, 41, 0), (41, .getfield 25, 44, 259), (44, .iload_n 2, 45, 0), (45, .iload 6, 47, 0), (47, .iadd, 48, 0), (48, .iaload, 49, 0), (49, .invokestatic 101, 52, 261), (52, .istore 5, 54, 0), (54, .iinc 6 1, 57, 0), (57, .goto (-25), 60, 32), (60, .iload 5, 62, 0), (62, .aload_n 0, 63, 0), (63, .getfield 9, 66, 260)],
  [(66, .getfield 47, 69, 578), (69, .iconst 3, 70, 0), (70, .iaload, 71, 0), (71, .iadd, 72, 0), (72, .istore 6, 74, 0), (74, .iconst 0, 75, 0), (75, .istore 7, 77, 0), (77, .iload 7, 79, 0), (79, .iload_n 3, 80, 0), (80, .if_icmp .gt 102, 83, 182), (83, .iload 6, 85, 0), (85, .aload_n 0, 86, 0), (86, .getfield 25, 89, 259), (89, .iload_n 2, 90, 0), (90, .iload 7, 92, 0), (92, .iadd, 93, 0), (93, .iaload, 94, 0), (94, .invokestatic 101, 97, 261)],
  [(97, .istore 8, 99, 0), (99, .iload 7, 101, 0), (101, .ifCond .le 24, 104, 125), (104, .iload 8, 106, 0), (106, .aload_n 0, 107, 0), (107, .getfield 25, 110, 259), (110, .iload_n 2, 111, 0), (111, .iload 7, 113, 0), (113, .iadd, 114, 0), (114, .iconst 1, 115, 0), (115, .isub, 116, 0), (116, .iaload, 117, 0), (117, .iload 4, 119, 0), (119, .iadd, 120, 0), (120, .invokestatic 101, 123, 261), (123, .istore 8, 125, 0), (125, .iload 7, 127, 0), (127, .iload_n 3, 128, 0)],
  [(128, .if_icmp .ge 24, 131, 152), (131, .iload 8, 133, 0), (133, .aload_n 0, 134, 0), (134, .getfield 25, 137, 259), (137, .iload_n 2, 138, 0), (138, .iload 7, 140, 0), (140, .iadd, 141, 0), (141, .iconst 1, 142, 0), (142, .iadd, 143, 0), (143, .iaload, 144, 0), (144, .iload 4, 146, 0), (146, .iadd, 147, 0), (147, .invokestatic 101, 150, 261), (150, .istore 8, 152, 0), (152, .aload_n 0, 153, 0), (153, .getfield 25, 156, 259), (156, .iload_n 1, 157, 0), (157, .iload 7, 159, 0), (159, .iadd, 160, 0)],
  [(160, .aload_n 0, 161, 0), (161, .getfield 19, 164, 257), (164, .iload_n 1, 165, 0), (165, .iload 7, 167, 0), (167, .iadd, 168, 0), (168, .iaload, 169, 0), (169, .iload 8, 171, 0), (171, .iadd, 172, 0), (172, .iload 5, 174, 0), (174, .isub, 175, 0), (175, .iastore, 176, 0), (176, .iinc 7 1, 179, 0), (179, .goto (-102), 182, 77), (182, .return_, 183, 0)]]
-- TwoViews$Past.<init>()V
set_option maxRecDepth 100000 in
noncomputable def mi_t45 : mi_T := [[(0, .aload_n 0, 1, 0), (1, .invokespecial 3, 4, 9999), (4, .aload_n 0, 5, 0), (5, .bipush 8, 7, 0), (7, .anewarray 9, 10, 3), (10, .putfield 11, 13, 322), (13, .iconst 0, 14, 0), (14, .istore_n 1, 15, 0), (15, .iload_n 1, 16, 0), (16, .bipush 8, 18, 0), (18, .if_icmp .ge 22, 21, 40), (21, .aload_n 0, 22, 0), (22, .getfield 11, 25, 322), (25, .iload_n 1, 26, 0), (26, .new 9, 29, 580), (29, .dup, 30, 0), (30, .invokespecial 17, 33, 83)],
  [(33, .aastore, 34, 0), (34, .iinc 1 1, 37, 0), (37, .goto (-22), 40, 15), (40, .return_, 41, 0)]]
-- TwoViews$Past.keep(LTwoViews$Scene;)V
set_option maxRecDepth 100000 in
noncomputable def mi_t46 : mi_T := [[(0, .aload_n 0, 1, 0), (1, .getfield 11, 4, 322), (4, .aload_n 0, 5, 0), (5, .getfield 18, 8, 321), (8, .aaload, 9, 0), (9, .aload_n 1, 10, 0), (10, .invokevirtual 22, 13, 84), (13, .aload_n 0, 14, 0), (14, .aload_n 0, 15, 0), (15, .getfield 18, 18, 321), (18, .iconst 1, 19, 0), (19, .iadd, 20, 0), (20, .bipush 8, 22, 0), (22, .if_icmp .ge 12, 25, 34), (25, .aload_n 0, 26, 0), (26, .getfield 18, 29, 321), (29, .iconst 1, 30, 0), (30, .iadd, 31, 0), (31, .goto 4, 34, 35)],
  [(34, .iconst 0, 35, 0), (35, .putfield 18, 38, 321), (38, .aload_n 0, 39, 0), (39, .aload_n 0, 40, 0), (40, .getfield 26, 43, 320), (43, .iconst 1, 44, 0), (44, .iadd, 45, 0), (45, .bipush 8, 47, 0), (47, .invokestatic 29, 50, 261), (50, .putfield 26, 53, 320), (53, .return_, 54, 0)]]
-- TwoViews$Past.giveBack(LTwoViews$Scene;)V
set_option maxRecDepth 100000 in
noncomputable def mi_t47 : mi_T := [[(0, .aload_n 0, 1, 0), (1, .aload_n 0, 2, 0), (2, .getfield 18, 5, 321), (5, .ifCond .le 12, 8, 17), (8, .aload_n 0, 9, 0), (9, .getfield 18, 12, 321), (12, .iconst 1, 13, 0), (13, .isub, 14, 0), (14, .goto 5, 17, 19), (17, .bipush 7, 19, 0), (19, .putfield 18, 22, 321), (22, .aload_n 1, 23, 0), (23, .aload_n 0, 24, 0), (24, .getfield 11, 27, 322), (27, .aload_n 0, 28, 0), (28, .getfield 18, 31, 321), (31, .aaload, 32, 0)],
  [(32, .invokevirtual 22, 35, 84), (35, .aload_n 0, 36, 0), (36, .dup, 37, 0), (37, .getfield 26, 40, 320), (40, .iconst 1, 41, 0), (41, .isub, 42, 0), (42, .putfield 26, 45, 320), (45, .return_, 46, 0)]]
-- TwoViews$Pieces.<init>(LTwoViews$Scene;LTwoViews$Maps;)V
set_option maxRecDepth 100000 in
noncomputable def mi_t48 : mi_T := [[(0, .aload_n 0, 1, 0), (1, .invokespecial 3, 4, 9999), (4, .aload_n 0, 5, 0), (5, .aload_n 1, 6, 0), (6, .putfield 9, 9, 384), (9, .aload_n 0, 10, 0), (10, .aload_n 2, 11, 0), (11, .putfield 15, 14, 385), (14, .aload_n 0, 15, 0), (15, .sipush 384, 18, 0), (18, .newarray .int, 20, 0), (20, .putfield 19, 23, 386), (23, .aload_n 0, 24, 0), (24, .sipush 384, 27, 0), (27, .newarray .int, 29, 0), (29, .putfield 23, 32, 387)],
  [(32, .aload_n 0, 33, 0), (33, .iconst 2, 34, 0), (34, .newarray .int, 36, 0), (36, .putfield 26, 39, 388), (39, .aload_n 0, 40, 0), (40, .sipush 192, 43, 0), (43, .newarray .int, 45, 0), (45, .putfield 29, 48, 389), (48, .return_, 49, 0)]]
-- TwoViews$Pieces.makePieces(I)V
set_option maxRecDepth 100000 in
noncomputable def mi_t49 : mi_T := [[(0, .aload_n 0, 1, 0), (1, .getfield 26, 4, 388), (4, .iload_n 1, 5, 0), (5, .iconst 0, 6, 0), (6, .iastore, 7, 0), (7, .iconst 0, 8, 0), (8, .istore_n 2, 9, 0), (9, .iload_n 2, 10, 0), (10, .sipush 192, 13, 0), (13, .if_icmp .ge 22, 16, 35), (16, .aload_n 0, 17, 0), (17, .getfield 19, 20, 386), (20, .iload_n 1, 21, 0), (21, .sipush 192, 24, 0), (24, .imul, 25, 0), (25, .iload_n 2, 26, 0), (26, .iadd, 27, 0), (27, .iconst (-1), 28, 0), (28, .iastore, 29, 0), (29, .iinc 2 1, 32, 0)],
  [(32, .goto (-23), 35, 9), (35, .iconst 0, 36, 0), (36, .istore_n 2, 37, 0), (37, .iload_n 2, 38, 0), (38, .aload_n 0, 39, 0), (39, .getfield 9, 42, 384), (42, .getfield 32, 45, 577), (45, .if_icmp .ge 67, 48, 112), (48, .iconst 0, 49, 0), (49, .istore_n 3, 50, 0), (50, .iload_n 3, 51, 0), (51, .aload_n 0, 52, 0), (52, .getfield 9, 55, 384), (55, .getfield 38, 58, 576), (58, .if_icmp .ge 48, 61, 106), (61, .iload_n 1, 62, 0), (62, .iload_n 3, 63, 0), (63, .iload_n 2, 64, 0)],
  [(64, .invokestatic 41, 67, 136), (67, .istore 4, 69, 0), (69, .aload_n 0, 70, 0), (70, .getfield 15, 73, 385), (73, .getfield 45, 76, 193), (76, .iload 4, 78, 0), (78, .iaload, 79, 0), (79, .ifCond .ne 21, 82, 100), (82, .aload_n 0, 83, 0), (83, .getfield 19, 86, 386), (86, .iload 4, 88, 0), (88, .iaload, 89, 0), (89, .iconst (-1), 90, 0), (90, .if_icmp .ne 10, 93, 100), (93, .aload_n 0, 94, 0), (94, .iload_n 1, 95, 0), (95, .iload_n 3, 96, 0)],
  [(96, .iload_n 2, 97, 0), (97, .invokevirtual 50, 100, 50), (100, .iinc 3 1, 103, 0), (103, .goto (-53), 106, 50), (106, .iinc 2 1, 109, 0), (109, .goto (-72), 112, 37), (112, .aload_n 0, 113, 0), (113, .iload_n 1, 114, 0), (114, .invokevirtual 54, 117, 54), (117, .return_, 118, 0)]]
-- TwoViews$Pieces.grow(III)V
set_option maxRecDepth 100000 in
noncomputable def mi_t50 : mi_T := [[(0, .aload_n 0, 1, 0), (1, .getfield 26, 4, 388), (4, .iload_n 1, 5, 0), (5, .iaload, 6, 0), (6, .istore 4, 8, 0), (8, .aload_n 0, 9, 0), (9, .iconst 0, 10, 0), (10, .putfield 58, 13, 390), (13, .aload_n 0, 14, 0), (14, .iload_n 1, 15, 0), (15, .iload_n 2, 16, 0), (16, .iload_n 3, 17, 0), (17, .iload 4, 19, 0), (19, .invokevirtual 61, 22, 51), (22, .iconst 0, 23, 0), (23, .istore 5, 25, 0), (25, .iload 5, 27, 0), (27, .aload_n 0, 28, 0), (28, .getfield 58, 31, 390), (31, .if_icmp .ge 31, 34, 62)],
  [(34, .iload 5, 36, 0), (36, .sipush 192, 39, 0), (39, .if_icmp .ge 23, 42, 62), (42, .aload_n 0, 43, 0), (43, .iload_n 1, 44, 0), (44, .aload_n 0, 45, 0), (45, .getfield 29, 48, 389), (48, .iload 5, 50, 0), (50, .iaload, 51, 0), (51, .iload 4, 53, 0), (53, .invokevirtual 65, 56, 52), (56, .iinc 5 1, 59, 0), (59, .goto (-34), 62, 25), (62, .aload_n 0, 63, 0), (63, .getfield 23, 66, 387)],
  [(66, .iload_n 1, 67, 0), (67, .sipush 192, 70, 0), (70, .imul, 71, 0), (71, .iload 4, 73, 0), (73, .iadd, 74, 0), (74, .aload_n 0, 75, 0), (75, .getfield 58, 78, 390), (78, .iastore, 79, 0), (79, .aload_n 0, 80, 0), (80, .getfield 26, 83, 388), (83, .iload_n 1, 84, 0), (84, .iload 4, 86, 0), (86, .iconst 1, 87, 0), (87, .iadd, 88, 0), (88, .iastore, 89, 0), (89, .return_, 90, 0)]]
-- TwoViews$Pieces.join(IIII)V
set_option maxRecDepth 100000 in
noncomputable def mi_t51 : mi_T := [[(0, .aload_n 0, 1, 0), (1, .getfield 19, 4, 386), (4, .iload_n 1, 5, 0), (5, .iload_n 2, 6, 0), (6, .iload_n 3, 7, 0), (7, .invokestatic 41, 10, 136), (10, .iload 4, 12, 0), (12, .iastore, 13, 0), (13, .aload_n 0, 14, 0), (14, .getfield 29, 17, 389), (17, .aload_n 0, 18, 0), (18, .getfield 58, 21, 390), (21, .iconst 0, 22, 0), (22, .iload_n 2, 23, 0), (23, .iload_n 3, 24, 0), (24, .invokestatic 41, 27, 136), (27, .iastore, 28, 0), (28, .aload_n 0, 29, 0), (29, .dup, 30, 0), (30, .getfield 58, 33, 390)],
  [(33, .iconst 1, 34, 0), (34, .iadd, 35, 0), (35, .putfield 58, 38, 390), (38, .return_, 39, 0)]]
-- TwoViews$Pieces.lookAround(III)V
set_option maxRecDepth 100000 in
noncomputable def mi_t52 : mi_T := [[(0, .iload_n 2, 1, 0), (1, .bipush 15, 3, 0), (3, .iand, 4, 0), (4, .istore 4, 6, 0), (6, .iload_n 2, 7, 0), (7, .iconst 4, 8, 0), (8, .ishr, 9, 0), (9, .istore 5, 11, 0), (11, .aload_n 0, 12, 0), (12, .getfield 15, 15, 385), (15, .getfield 68, 18, 192), (18, .iload_n 1, 19, 0), (19, .iload 4, 21, 0), (21, .iload 5, 23, 0), (23, .invokestatic 41, 26, 136), (26, .iaload, 27, 0), (27, .istore 6, 29, 0), (29, .iconst 0, 30, 0), (30, .istore 7, 32, 0)],
  [(32, .iload 7, 34, 0), (34, .iconst 4, 35, 0), (35, .if_icmp .ge 72, 38, 107), (38, .iload 4, 40, 0), (40, .getstatic 71, 43, 1003), (43, .iload 7, 45, 0), (45, .iaload, 46, 0), (46, .iadd, 47, 0), (47, .istore 8, 49, 0), (49, .iload 5, 51, 0), (51, .getstatic 74, 54, 1004), (54, .iload 7, 56, 0), (56, .iaload, 57, 0), (57, .iadd, 58, 0), (58, .istore 9, 60, 0), (60, .aload_n 0, 61, 0), (61, .getfield 9, 64, 384)],
  [(64, .iload 8, 66, 0), (66, .iload 9, 68, 0), (68, .invokevirtual 77, 71, 86), (71, .ifCond .eq 30, 74, 101), (74, .aload_n 0, 75, 0), (75, .iload_n 1, 76, 0), (76, .iload 8, 78, 0), (78, .iload 9, 80, 0), (80, .invokestatic 41, 83, 136), (83, .iload 6, 85, 0), (85, .invokevirtual 81, 88, 53), (88, .ifCond .eq 13, 91, 101), (91, .aload_n 0, 92, 0), (92, .iload_n 1, 93, 0), (93, .iload 8, 95, 0), (95, .iload 9, 97, 0)],
  [(97, .iload_n 3, 98, 0), (98, .invokevirtual 61, 101, 51), (101, .iinc 7 1, 104, 0), (104, .goto (-72), 107, 32), (107, .return_, 108, 0)]]
-- TwoViews$Pieces.isFree(II)Z
set_option maxRecDepth 100000 in
noncomputable def mi_t53 : mi_T := [[(0, .aload_n 0, 1, 0), (1, .getfield 15, 4, 385), (4, .getfield 45, 7, 193), (7, .iload_n 1, 8, 0), (8, .iaload, 9, 0), (9, .ifCond .ne 35, 12, 44), (12, .aload_n 0, 13, 0), (13, .getfield 19, 16, 386), (16, .iload_n 1, 17, 0), (17, .iaload, 18, 0), (18, .iconst (-1), 19, 0), (19, .if_icmp .ne 25, 22, 44), (22, .aload_n 0, 23, 0), (23, .getfield 15, 26, 385), (26, .getfield 68, 29, 192), (29, .iload_n 1, 30, 0), (30, .iaload, 31, 0), (31, .iload_n 2, 32, 0)],
  [(32, .isub, 33, 0), (33, .invokestatic 84, 36, 258), (36, .iconst 1, 37, 0), (37, .if_icmp .gt 7, 40, 44), (40, .iconst 1, 41, 0), (41, .goto 4, 44, 45), (44, .iconst 0, 45, 0), (45, .ireturn, 46, 1)]]
-- TwoViews$Pieces.dropSmall(I)V
set_option maxRecDepth 100000 in
noncomputable def mi_t54 : mi_T := [[(0, .iconst 0, 1, 0), (1, .istore_n 2, 2, 0), (2, .iload_n 2, 3, 0), (3, .aload_n 0, 4, 0), (4, .getfield 9, 7, 384), (7, .getfield 32, 10, 577), (10, .if_icmp .ge 73, 13, 83), (13, .iconst 0, 14, 0), (14, .istore_n 3, 15, 0), (15, .iload_n 3, 16, 0), (16, .aload_n 0, 17, 0), (17, .getfield 9, 20, 384), (20, .getfield 38, 23, 576), (23, .if_icmp .ge 54, 26, 77), (26, .iload_n 1, 27, 0), (27, .iload_n 3, 28, 0), (28, .iload_n 2, 29, 0), (29, .invokestatic 41, 32, 136)],
  [(32, .istore 4, 34, 0), (34, .aload_n 0, 35, 0), (35, .getfield 19, 38, 386), (38, .iload 4, 40, 0), (40, .iaload, 41, 0), (41, .iconst (-1), 42, 0), (42, .if_icmp .eq 29, 45, 71), (45, .aload_n 0, 46, 0), (46, .iload_n 1, 47, 0), (47, .aload_n 0, 48, 0), (48, .getfield 19, 51, 386), (51, .iload 4, 53, 0), (53, .iaload, 54, 0), (54, .invokevirtual 90, 57, 55), (57, .ifCond .ne 14, 60, 71), (60, .aload_n 0, 61, 0), (61, .getfield 15, 64, 385)],
  [(64, .getfield 45, 67, 193), (67, .iload 4, 69, 0), (69, .iconst 1, 70, 0), (70, .iastore, 71, 0), (71, .iinc 3 1, 74, 0), (74, .goto (-59), 77, 15), (77, .iinc 2 1, 80, 0), (80, .goto (-78), 83, 2), (83, .return_, 84, 0)]]
-- TwoViews$Pieces.stays(II)Z
set_option maxRecDepth 100000 in
noncomputable def mi_t55 : mi_T := [[(0, .aload_n 0, 1, 0), (1, .getfield 23, 4, 387), (4, .iload_n 1, 5, 0), (5, .sipush 192, 8, 0), (8, .imul, 9, 0), (9, .iload_n 2, 10, 0), (10, .iadd, 11, 0), (11, .iaload, 12, 0), (12, .aload_n 0, 13, 0), (13, .getfield 9, 16, 384), (16, .getfield 93, 19, 578), (19, .bipush 6, 21, 0), (21, .iaload, 22, 0), (22, .if_icmp .lt 7, 25, 29), (25, .iconst 1, 26, 0), (26, .goto 4, 29, 30), (29, .iconst 0, 30, 0), (30, .ireturn, 31, 1)]]
-- TwoViews$Pieces.sizeAt(II)I
set_option maxRecDepth 100000 in
noncomputable def mi_t56 : mi_T := [[(0, .aload_n 0, 1, 0), (1, .getfield 19, 4, 386), (4, .iload_n 1, 5, 0), (5, .iaload, 6, 0), (6, .iconst (-1), 7, 0), (7, .if_icmp .ne 7, 10, 14), (10, .iconst 0, 11, 0), (11, .goto 20, 14, 31), (14, .aload_n 0, 15, 0), (15, .getfield 23, 18, 387), (18, .iload_n 2, 19, 0), (19, .sipush 192, 22, 0), (22, .imul, 23, 0), (23, .aload_n 0, 24, 0), (24, .getfield 19, 27, 386), (27, .iload_n 1, 28, 0), (28, .iaload, 29, 0), (29, .iadd, 30, 0), (30, .iaload, 31, 0), (31, .ireturn, 32, 0)]]
-- TwoViews$Pieces.howManyStay(I)I
set_option maxRecDepth 100000 in
noncomputable def mi_t57 : mi_T := [[(0, .iconst 0, 1, 0), (1, .istore_n 2, 2, 0), (2, .iconst 0, 3, 0), (3, .istore_n 3, 4, 0), (4, .iload_n 3, 5, 0), (5, .aload_n 0, 6, 0), (6, .getfield 26, 9, 388), (9, .iload_n 1, 10, 0), (10, .iaload, 11, 0), (11, .if_icmp .ge 26, 14, 37), (14, .iload_n 2, 15, 0), (15, .aload_n 0, 16, 0), (16, .iload_n 1, 17, 0), (17, .iload_n 3, 18, 0), (18, .invokevirtual 90, 21, 55), (21, .ifCond .eq 7, 24, 28), (24, .iconst 1, 25, 0), (25, .goto 4, 28, 29), (28, .iconst 0, 29, 0), (29, .iadd, 30, 0), (30, .istore_n 2, 31, 0), (31, .iinc 3 1, 34, 0)],
  [(34, .goto (-30), 37, 4), (37, .iload_n 2, 38, 0), (38, .ireturn, 39, 0)]]
-- TwoViews$Pieces.greatest(I)I
set_option maxRecDepth 100000 in
noncomputable def mi_t58 : mi_T := [[(0, .aload_n 0, 1, 0), (1, .iload_n 1, 2, 0), (2, .iconst 0, 3, 0), (3, .invokevirtual 96, 6, 59), (6, .istore_n 2, 7, 0), (7, .iload_n 2, 8, 0), (8, .iconst (-1), 9, 0), (9, .if_icmp .ne 7, 12, 16), (12, .iconst 0, 13, 0), (13, .goto 15, 16, 28), (16, .aload_n 0, 17, 0), (17, .getfield 23, 20, 387), (20, .iload_n 1, 21, 0), (21, .sipush 192, 24, 0), (24, .imul, 25, 0), (25, .iload_n 2, 26, 0), (26, .iadd, 27, 0), (27, .iaload, 28, 0), (28, .ireturn, 29, 0)]]
-- TwoViews$Pieces.ranked(II)I
set_option maxRecDepth 100000 in
noncomputable def mi_t59 : mi_T := [[(0, .iconst 0, 1, 0), (1, .istore_n 3, 2, 0), (2, .iload_n 3, 3, 0), (3, .aload_n 0, 4, 0), (4, .getfield 26, 7, 388), (7, .iload_n 1, 8, 0), (8, .iaload, 9, 0), (9, .if_icmp .ge 30, 12, 39), (12, .aload_n 0, 13, 0), (13, .iload_n 1, 14, 0), (14, .iload_n 3, 15, 0), (15, .invokevirtual 90, 18, 55), (18, .ifCond .eq 15, 21, 33), (21, .aload_n 0, 22, 0), (22, .iload_n 1, 23, 0), (23, .iload_n 3, 24, 0), (24, .invokevirtual 100, 27, 60), (27, .iload_n 2, 28, 0), (28, .if_icmp .ne 5, 31, 33), (31, .iload_n 3, 32, 0)],
  [(32, .ireturn, 33, 0), (33, .iinc 3 1, 36, 0), (36, .goto (-34), 39, 2), (39, .iconst (-1), 40, 0), (40, .ireturn, 41, 0)]]
-- TwoViews$Pieces.howManyBefore(II)I
set_option maxRecDepth 100000 in
noncomputable def mi_t60 : mi_T := [[(0, .aload_n 0, 1, 0), (1, .getfield 23, 4, 387), (4, .iload_n 1, 5, 0), (5, .sipush 192, 8, 0), (8, .imul, 9, 0), (9, .iload_n 2, 10, 0), (10, .iadd, 11, 0), (11, .iaload, 12, 0), (12, .istore_n 3, 13, 0), (13, .iconst 0, 14, 0), (14, .istore 4, 16, 0), (16, .iconst 0, 17, 0), (17, .istore 5, 19, 0), (19, .iload 5, 21, 0), (21, .aload_n 0, 22, 0), (22, .getfield 26, 25, 388), (25, .iload_n 1, 26, 0), (26, .iaload, 27, 0), (27, .if_icmp .ge 52, 30, 79), (30, .aload_n 0, 31, 0), (31, .getfield 23, 34, 387)],
  [(34, .iload_n 1, 35, 0), (35, .sipush 192, 38, 0), (38, .imul, 39, 0), (39, .iload 5, 41, 0), (41, .iadd, 42, 0), (42, .iaload, 43, 0), (43, .istore 6, 45, 0), (45, .iload 4, 47, 0), (47, .iload 6, 49, 0), (49, .iload_n 3, 50, 0), (50, .if_icmp .gt 15, 53, 65), (53, .iload 6, 55, 0), (55, .iload_n 3, 56, 0), (56, .if_icmp .ne 13, 59, 69), (59, .iload 5, 61, 0), (61, .iload_n 2, 62, 0), (62, .if_icmp .ge 7, 65, 69)],
  [(65, .iconst 1, 66, 0), (66, .goto 4, 69, 70), (69, .iconst 0, 70, 0), (70, .iadd, 71, 0), (71, .istore 4, 73, 0), (73, .iinc 5 1, 76, 0), (76, .goto (-57), 79, 19), (79, .iload 4, 81, 0), (81, .ireturn, 82, 0)]]
-- TwoViews$Pieces.tellOf(III)I
set_option maxRecDepth 100000 in
noncomputable def mi_t61 : mi_T := [[(0, .iconst (-1), 1, 0), (1, .istore 4, 3, 0), (3, .iconst (-1), 4, 0), (4, .istore 5, 6, 0), (6, .bipush 16, 8, 0), (8, .istore 6, 10, 0), (10, .iconst 0, 11, 0), (11, .istore 7, 13, 0), (13, .iconst 0, 14, 0), (14, .istore 8, 16, 0), (16, .iconst 0, 17, 0), (17, .istore 9, 19, 0), (19, .iconst 0, 20, 0), (20, .istore 10, 22, 0), (22, .iload 10, 24, 0), (24, .aload_n 0, 25, 0), (25, .getfield 9, 28, 384), (28, .getfield 32, 31, 577), (31, .if_icmp .ge 118, 34, 149)],
  [(34, .iconst 0, 35, 0), (35, .istore 11, 37, 0), (37, .iload 11, 39, 0), (39, .aload_n 0, 40, 0), (40, .getfield 9, 43, 384), (43, .getfield 38, 46, 576), (46, .if_icmp .ge 97, 49, 143), (49, .iload_n 1, 50, 0), (50, .iload 11, 52, 0), (52, .iload 10, 54, 0), (54, .invokestatic 41, 57, 136), (57, .istore 12, 59, 0), (59, .aload_n 0, 60, 0), (60, .getfield 19, 63, 386), (63, .iload 12, 65, 0)],
  [(65, .iaload, 66, 0), (66, .iload_n 2, 67, 0), (67, .if_icmp .ne 70, 70, 137), (70, .iload 4, 72, 0), (72, .iconst (-1), 73, 0), (73, .if_icmp .ne 8, 76, 81), (76, .iload 11, 78, 0), (78, .goto 5, 81, 83), (81, .iload 4, 83, 0), (83, .istore 4, 85, 0), (85, .iload 5, 87, 0), (87, .iconst (-1), 88, 0), (88, .if_icmp .ne 8, 91, 96), (91, .iload 10, 93, 0), (93, .goto 5, 96, 98)],
  [(96, .iload 5, 98, 0), (98, .istore 5, 100, 0), (100, .iload 6, 102, 0), (102, .iload 11, 104, 0), (104, .invokestatic 103, 107, 261), (107, .istore 6, 109, 0), (109, .iload 7, 111, 0), (111, .iload 11, 113, 0), (113, .invokestatic 106, 116, 260), (116, .istore 7, 118, 0), (118, .iload 10, 120, 0), (120, .istore 8, 122, 0), (122, .iload 9, 124, 0), (124, .aload_n 0, 125, 0), (125, .getfield 15, 128, 385)],
  [(128, .getfield 68, 131, 192), (131, .iload 12, 133, 0), (133, .iaload, 134, 0), (134, .iadd, 135, 0), (135, .istore 9, 137, 0), (137, .iinc 11 1, 140, 0), (140, .goto (-103), 143, 37), (143, .iinc 10 1, 146, 0), (146, .goto (-124), 149, 22), (149, .iload_n 3, 150, 0), (150, .tableswitch 70 0 6 #[42, 55, 58, 61, 58, 64, 67], 192, 0)],
  [],
  [(192, .aload_n 0, 193, 0), (193, .getfield 23, 196, 387), (196, .iload_n 1, 197, 0), (197, .sipush 192, 200, 0), (200, .imul, 201, 0), (201, .iload_n 2, 202, 0), (202, .iadd, 203, 0), (203, .iaload, 204, 0), (204, .ireturn, 205, 0), (205, .iload 4, 207, 0), (207, .ireturn, 208, 0), (208, .iload 5, 210, 0), (210, .ireturn, 211, 0), (211, .iload 6, 213, 0), (213, .ireturn, 214, 0), (214, .iload 7, 216, 0), (216, .ireturn, 217, 0), (217, .iload 8, 219, 0), (219, .ireturn, 220, 0), (220, .iload 9, 222, 0), (222, .ireturn, 223, 0)]]
-- TwoViews$Reader.<init>(LTwoViews$Tape;)V
set_option maxRecDepth 100000 in
noncomputable def mi_t62 : mi_T := [[(0, .aload_n 0, 1, 0), (1, .invokespecial 3, 4, 9999), (4, .aload_n 0, 5, 0), (5, .aload_n 1, 6, 0), (6, .putfield 9, 9, 449), (9, .aload_n 0, 10, 0), (10, .new 15, 13, 580), (13, .dup, 14, 0), (14, .invokespecial 17, 17, 83), (17, .putfield 18, 20, 448), (20, .return_, 21, 0)]]
-- TwoViews$Reader.readText(ILTwoViews$Scene;)I
set_option maxRecDepth 100000 in
noncomputable def mi_t63 : mi_T := [[(0, .aload_n 0, 1, 0), (1, .iload_n 1, 2, 0), (2, .putfield 22, 5, 450), (5, .aload_n 0, 6, 0), (6, .iconst 0, 7, 0), (7, .putfield 26, 10, 452), (10, .aload_n 0, 11, 0), (11, .iconst 0, 12, 0), (12, .putfield 29, 15, 453), (15, .aload_n 0, 16, 0), (16, .aload_n 2, 17, 0), (17, .invokevirtual 32, 20, 64), (20, .aload_n 0, 21, 0), (21, .invokevirtual 36, 24, 65), (24, .iconst 0, 25, 0), (25, .istore_n 3, 26, 0), (26, .aload_n 0, 27, 0), (27, .getfield 29, 30, 453), (30, .ifCond .ne 37, 33, 67)],
  [(33, .iload_n 3, 34, 0), (34, .sipush 700, 37, 0), (37, .if_icmp .gt 30, 40, 67), (40, .aload_n 0, 41, 0), (41, .invokevirtual 39, 44, 72), (44, .aload_n 0, 45, 0), (45, .getfield 42, 48, 451), (48, .aload_n 0, 49, 0), (49, .getfield 22, 52, 450), (52, .if_icmp .ne 5, 55, 57), (55, .iload_n 3, 56, 0), (56, .ireturn, 57, 0), (57, .aload_n 0, 58, 0), (58, .invokevirtual 45, 61, 66), (61, .iinc 3 1, 64, 0)],
  [(64, .goto (-38), 67, 26), (67, .bipush (-2), 69, 0), (69, .aload_n 0, 70, 0), (70, .getfield 29, 73, 453), (73, .isub, 74, 0), (74, .ireturn, 75, 0)]]
-- TwoViews$Reader.takeDefaults(LTwoViews$Scene;)V
set_option maxRecDepth 100000 in
noncomputable def mi_t64 : mi_T := [[(0, .getstatic 48, 3, 1002), (3, .iconst 0, 4, 0), (4, .aload_n 0, 5, 0), (5, .getfield 18, 8, 448), (8, .getfield 52, 11, 578), (11, .iconst 0, 12, 0), (12, .bipush 8, 14, 0), (14, .invokestatic 55, 17, 9998), (17, .aload_n 0, 18, 0), (18, .getfield 18, 21, 448), (21, .getfield 52, 24, 578), (24, .bipush 6, 26, 0), (26, .aload_n 1, 27, 0), (27, .getfield 52, 30, 578), (30, .bipush 6, 32, 0)],
  [(32, .iaload, 33, 0), (33, .iastore, 34, 0), (34, .aload_n 0, 35, 0), (35, .getfield 18, 38, 448), (38, .getfield 52, 41, 578), (41, .bipush 7, 43, 0), (43, .aload_n 1, 44, 0), (44, .getfield 52, 47, 578), (47, .bipush 7, 49, 0), (49, .iaload, 50, 0), (50, .iastore, 51, 0), (51, .return_, 52, 0)]]
-- TwoViews$Reader.takeSize()V
set_option maxRecDepth 100000 in
noncomputable def mi_t65 : mi_T := [[(0, .aload_n 0, 1, 0), (1, .invokevirtual 39, 4, 72), (4, .aload_n 0, 5, 0), (5, .ldc 61, 7, 2147484668), (7, .invokevirtual 63, 10, 73), (10, .ifCond .ne 12, 13, 22), (13, .aload_n 0, 14, 0), (14, .iconst 1, 15, 0), (15, .aload_n 0, 16, 0), (16, .getfield 42, 19, 451), (19, .invokevirtual 67, 22, 74), (22, .aload_n 0, 23, 0), (23, .iconst 3, 24, 0), (24, .bipush 16, 26, 0), (26, .invokevirtual 71, 29, 70), (29, .istore_n 1, 30, 0), (30, .aload_n 0, 31, 0), (31, .iconst 3, 32, 0)],
  [(32, .bipush 12, 34, 0), (34, .invokevirtual 71, 37, 70), (37, .istore_n 2, 38, 0), (38, .aload_n 0, 39, 0), (39, .getfield 18, 42, 448), (42, .iload_n 1, 43, 0), (43, .iload_n 2, 44, 0), (44, .invokevirtual 75, 47, 85), (47, .return_, 48, 0)]]
-- TwoViews$Reader.takeLine()V
set_option maxRecDepth 100000 in
noncomputable def mi_t66 : mi_T := [[(0, .aload_n 0, 1, 0), (1, .ldc 78, 3, 2147484669), (3, .invokevirtual 63, 6, 73), (6, .ifCond .ne 13, 9, 19), (9, .aload_n 0, 10, 0), (10, .iconst 1, 11, 0), (11, .aload_n 0, 12, 0), (12, .getfield 42, 15, 451), (15, .invokevirtual 67, 18, 74), (18, .return_, 19, 0), (19, .aload_n 0, 20, 0), (20, .invokevirtual 39, 23, 72), (23, .aload_n 0, 24, 0), (24, .ldc 80, 26, 2147484670), (26, .invokevirtual 63, 29, 73), (29, .ifCond .eq 11, 32, 40)],
  [(32, .aload_n 0, 33, 0), (33, .iconst 0, 34, 0), (34, .invokevirtual 82, 37, 67), (37, .goto 113, 40, 150), (40, .aload_n 0, 41, 0), (41, .ldc 86, 43, 2147484671), (43, .invokevirtual 63, 46, 73), (46, .ifCond .eq 11, 49, 57), (49, .aload_n 0, 50, 0), (50, .iconst 1, 51, 0), (51, .invokevirtual 82, 54, 67), (54, .goto 96, 57, 150), (57, .aload_n 0, 58, 0), (58, .ldc 88, 60, 2147484672), (60, .invokevirtual 63, 63, 73), (63, .ifCond .eq 10, 66, 73)],
  [(66, .aload_n 0, 67, 0), (67, .invokevirtual 90, 70, 68), (70, .goto 80, 73, 150), (73, .aload_n 0, 74, 0), (74, .ldc 93, 76, 2147484673), (76, .invokevirtual 63, 79, 73), (79, .ifCond .eq 11, 82, 90), (82, .aload_n 0, 83, 0), (83, .iconst 4, 84, 0), (84, .invokevirtual 82, 87, 67), (87, .goto 63, 90, 150), (90, .aload_n 0, 91, 0), (91, .ldc 95, 93, 2147484674), (93, .invokevirtual 63, 96, 73)],
  [(96, .ifCond .eq 11, 99, 107), (99, .aload_n 0, 100, 0), (100, .iconst 5, 101, 0), (101, .invokevirtual 82, 104, 67), (104, .goto 46, 107, 150), (107, .aload_n 0, 108, 0), (108, .ldc 97, 110, 2147484675), (110, .invokevirtual 63, 113, 73), (113, .ifCond .eq 11, 116, 124), (116, .aload_n 0, 117, 0), (117, .iconst 0, 118, 0), (118, .invokevirtual 99, 121, 69), (121, .goto 29, 124, 150), (124, .aload_n 0, 125, 0), (125, .ldc 102, 127, 2147484676), (127, .invokevirtual 63, 130, 73)],
  [(130, .ifCond .eq 11, 133, 141), (133, .aload_n 0, 134, 0), (134, .iconst 1, 135, 0), (135, .invokevirtual 99, 138, 69), (138, .goto 12, 141, 150), (141, .aload_n 0, 142, 0), (142, .iconst 1, 143, 0), (143, .aload_n 0, 144, 0), (144, .getfield 42, 147, 451), (147, .invokevirtual 67, 150, 74), (150, .return_, 151, 0)]]
-- TwoViews$Reader.takeDial(I)V
set_option maxRecDepth 100000 in
noncomputable def mi_t67 : mi_T := [[(0, .aload_n 0, 1, 0), (1, .getfield 18, 4, 448), (4, .getfield 52, 7, 578), (7, .iload_n 1, 8, 0), (8, .aload_n 0, 9, 0), (9, .getstatic 104, 12, 1000), (12, .iload_n 1, 13, 0), (13, .iaload, 14, 0), (14, .getstatic 107, 17, 1001), (17, .iload_n 1, 18, 0), (18, .iaload, 19, 0), (19, .invokevirtual 71, 22, 70), (22, .iastore, 23, 0), (23, .return_, 24, 0)]]
-- TwoViews$Reader.takePenalties()V
set_option maxRecDepth 100000 in
noncomputable def mi_t68 : mi_T := [[(0, .aload_n 0, 1, 0), (1, .getstatic 104, 4, 1000), (4, .iconst 2, 5, 0), (5, .iaload, 6, 0), (6, .getstatic 107, 9, 1001), (9, .iconst 2, 10, 0), (10, .iaload, 11, 0), (11, .invokevirtual 71, 14, 70), (14, .istore_n 1, 15, 0), (15, .aload_n 0, 16, 0), (16, .getfield 18, 19, 448), (19, .getfield 52, 22, 578), (22, .iconst 2, 23, 0), (23, .iload_n 1, 24, 0), (24, .iastore, 25, 0), (25, .aload_n 0, 26, 0), (26, .getfield 18, 29, 448), (29, .getfield 52, 32, 578)],
  [(32, .iconst 3, 33, 0), (33, .aload_n 0, 34, 0), (34, .iload_n 1, 35, 0), (35, .getstatic 107, 38, 1001), (38, .iconst 3, 39, 0), (39, .iaload, 40, 0), (40, .invokevirtual 71, 43, 70), (43, .iastore, 44, 0), (44, .return_, 45, 0)]]
-- TwoViews$Reader.takeRow(I)V
set_option maxRecDepth 100000 in
noncomputable def mi_t69 : mi_T := [[(0, .aload_n 0, 1, 0), (1, .iconst 0, 2, 0), (2, .aload_n 0, 3, 0), (3, .getfield 18, 6, 448), (6, .getfield 110, 9, 577), (9, .iconst 1, 10, 0), (10, .isub, 11, 0), (11, .invokevirtual 71, 14, 70), (14, .istore_n 2, 15, 0), (15, .aload_n 0, 16, 0), (16, .getfield 29, 19, 453), (19, .ifCond .eq 4, 22, 23), (22, .return_, 23, 0), (23, .aload_n 0, 24, 0), (24, .invokevirtual 39, 27, 72), (27, .aload_n 0, 28, 0), (28, .getfield 42, 31, 451), (31, .aload_n 0, 32, 0)],
  [(32, .getfield 26, 35, 452), (35, .if_icmp .eq 12, 38, 47), (38, .aload_n 0, 39, 0), (39, .ldc 78, 41, 2147484669), (41, .invokevirtual 63, 44, 73), (44, .ifCond .eq 13, 47, 57), (47, .aload_n 0, 48, 0), (48, .iconst 1, 49, 0), (49, .aload_n 0, 50, 0), (50, .getfield 42, 53, 451), (53, .invokevirtual 67, 56, 74), (56, .return_, 57, 0), (57, .aload_n 0, 58, 0), (58, .getfield 26, 61, 452), (61, .aload_n 0, 62, 0), (62, .getfield 42, 65, 451)],
  [(65, .isub, 66, 0), (66, .aload_n 0, 67, 0), (67, .getfield 18, 70, 448), (70, .getfield 113, 73, 576), (73, .if_icmp .eq 13, 76, 86), (76, .aload_n 0, 77, 0), (77, .iconst 3, 78, 0), (78, .aload_n 0, 79, 0), (79, .getfield 42, 82, 451), (82, .invokevirtual 67, 85, 74), (85, .return_, 86, 0), (86, .iconst 0, 87, 0), (87, .istore_n 3, 88, 0), (88, .iload_n 3, 89, 0), (89, .aload_n 0, 90, 0), (90, .getfield 18, 93, 448), (93, .getfield 113, 96, 576)],
  [(96, .if_icmp .ge 61, 99, 157), (99, .aload_n 0, 100, 0), (100, .getfield 9, 103, 449), (103, .aload_n 0, 104, 0), (104, .getfield 42, 107, 451), (107, .iload_n 3, 108, 0), (108, .iadd, 109, 0), (109, .invokevirtual 116, 112, 95), (112, .invokestatic 122, 115, 78), (115, .istore 4, 117, 0), (117, .iload 4, 119, 0), (119, .iconst (-1), 120, 0), (120, .if_icmp .ne 15, 123, 135), (123, .aload_n 0, 124, 0), (124, .iconst 3, 125, 0), (125, .aload_n 0, 126, 0), (126, .getfield 42, 129, 451)],
  [(129, .iload_n 3, 130, 0), (130, .iadd, 131, 0), (131, .invokevirtual 67, 134, 74), (134, .return_, 135, 0), (135, .aload_n 0, 136, 0), (136, .getfield 18, 139, 448), (139, .getfield 125, 142, 579), (142, .iload_n 1, 143, 0), (143, .iload_n 3, 144, 0), (144, .iload_n 2, 145, 0), (145, .invokestatic 128, 148, 136), (148, .iload 4, 150, 0), (150, .iastore, 151, 0), (151, .iinc 3 1, 154, 0), (154, .goto (-66), 157, 88), (157, .return_, 158, 0)]]
-- TwoViews$Reader.takeNumber(II)I
set_option maxRecDepth 100000 in
noncomputable def mi_t70 : mi_T := [[(0, .aload_n 0, 1, 0), (1, .getfield 29, 4, 453), (4, .ifCond .eq 5, 7, 9), (7, .iload_n 1, 8, 0), (8, .ireturn, 9, 0), (9, .aload_n 0, 10, 0), (10, .invokevirtual 39, 13, 72), (13, .aload_n 0, 14, 0), (14, .invokevirtual 132, 17, 71), (17, .istore_n 3, 18, 0), (18, .iload_n 3, 19, 0), (19, .iconst (-1), 20, 0), (20, .if_icmp .ne 14, 23, 34), (23, .aload_n 0, 24, 0), (24, .iconst 1, 25, 0), (25, .aload_n 0, 26, 0), (26, .getfield 42, 29, 451), (29, .invokevirtual 67, 32, 74)],
  [(32, .iload_n 1, 33, 0), (33, .ireturn, 34, 0), (34, .iload_n 3, 35, 0), (35, .iload_n 1, 36, 0), (36, .if_icmp .lt 8, 39, 44), (39, .iload_n 3, 40, 0), (40, .iload_n 2, 41, 0), (41, .if_icmp .le 14, 44, 55), (44, .aload_n 0, 45, 0), (45, .iconst 2, 46, 0), (46, .aload_n 0, 47, 0), (47, .getfield 42, 50, 451), (50, .invokevirtual 67, 53, 74), (53, .iload_n 1, 54, 0), (54, .ireturn, 55, 0), (55, .iload_n 3, 56, 0), (56, .ireturn, 57, 0)]]
-- TwoViews$Reader.numberTold()I
set_option maxRecDepth 100000 in
noncomputable def mi_t71 : mi_T := [[(0, .aload_n 0, 1, 0), (1, .getfield 26, 4, 452), (4, .aload_n 0, 5, 0), (5, .getfield 42, 8, 451), (8, .isub, 9, 0), (9, .iconst 1, 10, 0), (10, .if_icmp .lt 16, 13, 26), (13, .aload_n 0, 14, 0), (14, .getfield 26, 17, 452), (17, .aload_n 0, 18, 0), (18, .getfield 42, 21, 451), (21, .isub, 22, 0), (22, .iconst 3, 23, 0), (23, .if_icmp .le 5, 26, 28), (26, .iconst (-1), 27, 0), (27, .ireturn, 28, 0), (28, .iconst 0, 29, 0), (29, .istore_n 1, 30, 0), (30, .aload_n 0, 31, 0), (31, .getfield 42, 34, 451)],
  [(34, .istore_n 2, 35, 0), (35, .iload_n 2, 36, 0), (36, .aload_n 0, 37, 0), (37, .getfield 26, 40, 452), (40, .if_icmp .ge 37, 43, 77), (43, .aload_n 0, 44, 0), (44, .getfield 9, 47, 449), (47, .iload_n 2, 48, 0), (48, .invokevirtual 116, 51, 95), (51, .istore_n 3, 52, 0), (52, .iload_n 3, 53, 0), (53, .invokestatic 136, 56, 76), (56, .ifCond .ne 5, 59, 61), (59, .iconst (-1), 60, 0), (60, .ireturn, 61, 0), (61, .iload_n 1, 62, 0), (62, .bipush 10, 64, 0)],
  [(64, .imul, 65, 0), (65, .iload_n 3, 66, 0), (66, .iadd, 67, 0), (67, .bipush 48, 69, 0), (69, .isub, 70, 0), (70, .istore_n 1, 71, 0), (71, .iinc 2 1, 74, 0), (74, .goto (-39), 77, 35), (77, .iload_n 1, 78, 0), (78, .ireturn, 79, 0)]]
-- TwoViews$Reader.advance()V
set_option maxRecDepth 100000 in
noncomputable def mi_t72 : mi_T := [[(0, .aload_n 0, 1, 0), (1, .aload_n 0, 2, 0), (2, .getfield 26, 5, 452), (5, .putfield 42, 8, 451), (8, .aload_n 0, 9, 0), (9, .getfield 42, 12, 451), (12, .aload_n 0, 13, 0), (13, .getfield 22, 16, 450), (16, .if_icmp .ge 33, 19, 49), (19, .aload_n 0, 20, 0), (20, .getfield 9, 23, 449), (23, .aload_n 0, 24, 0), (24, .getfield 42, 27, 451), (27, .invokevirtual 116, 30, 95), (30, .invokestatic 140, 33, 75)],
  [(33, .ifCond .eq 16, 36, 49), (36, .aload_n 0, 37, 0), (37, .dup, 38, 0), (38, .getfield 42, 41, 451), (41, .iconst 1, 42, 0), (42, .iadd, 43, 0), (43, .putfield 42, 46, 451), (46, .goto (-38), 49, 8), (49, .aload_n 0, 50, 0), (50, .aload_n 0, 51, 0), (51, .getfield 42, 54, 451), (54, .putfield 26, 57, 452), (57, .aload_n 0, 58, 0), (58, .getfield 42, 61, 451), (61, .aload_n 0, 62, 0), (62, .getfield 22, 65, 450)],
  [(65, .if_icmp .ge 30, 68, 95), (68, .aload_n 0, 69, 0), (69, .getfield 9, 72, 449), (72, .aload_n 0, 73, 0), (73, .getfield 42, 76, 451), (76, .invokevirtual 116, 79, 95), (79, .bipush 59, 81, 0), (81, .if_icmp .ne 14, 84, 95), (84, .aload_n 0, 85, 0), (85, .aload_n 0, 86, 0), (86, .getfield 42, 89, 451), (89, .iconst 1, 90, 0), (90, .iadd, 91, 0), (91, .putfield 26, 94, 452), (94, .return_, 95, 0), (95, .aload_n 0, 96, 0)],
  [(96, .getfield 26, 99, 452), (99, .aload_n 0, 100, 0), (100, .getfield 22, 103, 450), (103, .if_icmp .ge 33, 106, 136), (106, .aload_n 0, 107, 0), (107, .getfield 9, 110, 449), (110, .aload_n 0, 111, 0), (111, .getfield 26, 114, 452), (114, .invokevirtual 116, 117, 95), (117, .invokestatic 143, 120, 77), (120, .ifCond .eq 16, 123, 136), (123, .aload_n 0, 124, 0), (124, .dup, 125, 0), (125, .getfield 26, 128, 452)],
  [(128, .iconst 1, 129, 0), (129, .iadd, 130, 0), (130, .putfield 26, 133, 452), (133, .goto (-38), 136, 95), (136, .return_, 137, 0)]]
-- TwoViews$Reader.isToken(Ljava/lang/String;)Z
set_option maxRecDepth 100000 in
noncomputable def mi_t73 : mi_T := [[(0, .aload_n 0, 1, 0), (1, .getfield 26, 4, 452), (4, .aload_n 0, 5, 0), (5, .getfield 42, 8, 451), (8, .isub, 9, 0), (9, .aload_n 1, 10, 0), (10, .invokevirtual 146, 13, 9997), (13, .if_icmp .eq 5, 16, 18), (16, .iconst 0, 17, 0), (17, .ireturn, 18, 1), (18, .iconst 0, 19, 0), (19, .istore_n 2, 20, 0), (20, .iload_n 2, 21, 0), (21, .aload_n 1, 22, 0), (22, .invokevirtual 146, 25, 9997), (25, .if_icmp .ge 32, 28, 57), (28, .aload_n 0, 29, 0), (29, .getfield 9, 32, 449)],
  [(32, .aload_n 0, 33, 0), (33, .getfield 42, 36, 451), (36, .iload_n 2, 37, 0), (37, .iadd, 38, 0), (38, .invokevirtual 116, 41, 95), (41, .aload_n 1, 42, 0), (42, .iload_n 2, 43, 0), (43, .invokevirtual 151, 46, 9996), (46, .if_icmp .eq 5, 49, 51), (49, .iconst 0, 50, 0), (50, .ireturn, 51, 1), (51, .iinc 2 1, 54, 0), (54, .goto (-34), 57, 20), (57, .iconst 1, 58, 0), (58, .ireturn, 59, 1)]]
-- TwoViews$Reader.fail(II)V
set_option maxRecDepth 100000 in
noncomputable def mi_t74 : mi_T := [[(0, .aload_n 0, 1, 0), (1, .getfield 29, 4, 453), (4, .ifCond .ne 13, 7, 17), (7, .aload_n 0, 8, 0), (8, .bipush 8, 10, 0), (10, .iload_n 2, 11, 0), (11, .imul, 12, 0), (12, .iload_n 1, 13, 0), (13, .iadd, 14, 0), (14, .putfield 29, 17, 453), (17, .return_, 18, 0)]]
-- TwoViews$Reader.isBlank(I)Z
set_option maxRecDepth 100000 in
noncomputable def mi_t75 : mi_T := [[(0, .iload_n 0, 1, 0), (1, .bipush 32, 3, 0), (3, .if_icmp .eq 9, 6, 12), (6, .iload_n 0, 7, 0), (7, .bipush 10, 9, 0), (9, .if_icmp .ne 7, 12, 16), (12, .iconst 1, 13, 0), (13, .goto 4, 16, 17), (16, .iconst 0, 17, 0), (17, .ireturn, 18, 1)]]
-- TwoViews$Reader.isDigit(I)Z
set_option maxRecDepth 100000 in
noncomputable def mi_t76 : mi_T := [[(0, .iload_n 0, 1, 0), (1, .bipush 48, 3, 0), (3, .if_icmp .lt 13, 6, 16), (6, .iload_n 0, 7, 0), (7, .bipush 57, 9, 0), (9, .if_icmp .gt 7, 12, 16), (12, .iconst 1, 13, 0), (13, .goto 4, 16, 17), (16, .iconst 0, 17, 0), (17, .ireturn, 18, 1)]]
-- TwoViews$Reader.isWordSign(I)Z
set_option maxRecDepth 100000 in
noncomputable def mi_t77 : mi_T := [[(0, .iload_n 0, 1, 0), (1, .bipush 48, 3, 0), (3, .if_icmp .lt 9, 6, 12), (6, .iload_n 0, 7, 0), (7, .bipush 57, 9, 0), (9, .if_icmp .le 15, 12, 24), (12, .iload_n 0, 13, 0), (13, .bipush 97, 15, 0), (15, .if_icmp .lt 13, 18, 28), (18, .iload_n 0, 19, 0), (19, .bipush 122, 21, 0), (21, .if_icmp .gt 7, 24, 28), (24, .iconst 1, 25, 0), (25, .goto 4, 28, 29), (28, .iconst 0, 29, 0), (29, .ireturn, 30, 1)]]
-- TwoViews$Reader.valueOf(I)I
set_option maxRecDepth 100000 in
noncomputable def mi_t78 : mi_T := [[(0, .iload_n 0, 1, 0), (1, .invokestatic 136, 4, 76), (4, .ifCond .eq 8, 7, 12), (7, .iload_n 0, 8, 0), (8, .bipush 48, 10, 0), (10, .isub, 11, 0), (11, .ireturn, 12, 0), (12, .iload_n 0, 13, 0), (13, .bipush 97, 15, 0), (15, .if_icmp .lt 19, 18, 34), (18, .iload_n 0, 19, 0), (19, .bipush 102, 21, 0), (21, .if_icmp .gt 13, 24, 34), (24, .iload_n 0, 25, 0), (25, .bipush 97, 27, 0), (27, .isub, 28, 0), (28, .bipush 10, 30, 0), (30, .iadd, 31, 0), (31, .goto 4, 34, 35)],
  [(34, .iconst (-1), 35, 0), (35, .ireturn, 36, 0)]]
-- TwoViews$RowChoice.<init>(LTwoViews$Scene;LTwoViews$Matcher;)V
set_option maxRecDepth 100000 in
noncomputable def mi_t79 : mi_T := [[(0, .aload_n 0, 1, 0), (1, .invokespecial 3, 4, 9999), (4, .aload_n 0, 5, 0), (5, .aload_n 1, 6, 0), (6, .putfield 9, 9, 513), (9, .aload_n 0, 10, 0), (10, .aload_n 2, 11, 0), (11, .putfield 15, 14, 514), (14, .aload_n 0, 15, 0), (15, .bipush 16, 17, 0), (17, .newarray .int, 19, 0), (19, .putfield 19, 22, 512), (22, .aload_n 0, 23, 0), (23, .sipush 128, 26, 0), (26, .newarray .int, 28, 0), (28, .putfield 23, 31, 515), (31, .return_, 32, 0)]]
-- TwoViews$RowChoice.choose(I)I
set_option maxRecDepth 100000 in
noncomputable def mi_t80 : mi_T := [[(0, .aload_n 0, 1, 0), (1, .getfield 9, 4, 513), (4, .getfield 26, 7, 578), (7, .iconst 0, 8, 0), (8, .iaload, 9, 0), (9, .istore_n 2, 10, 0), (10, .aload_n 0, 11, 0), (11, .getfield 9, 14, 513), (14, .getfield 31, 17, 576), (17, .iconst 1, 18, 0), (18, .isub, 19, 0), (19, .istore_n 3, 20, 0), (20, .iconst 0, 21, 0), (21, .istore 4, 23, 0), (23, .iload 4, 25, 0), (25, .iload_n 3, 26, 0), (26, .if_icmp .gt 82, 29, 108), (29, .iconst 0, 30, 0), (30, .istore 5, 32, 0)],
  [(32, .iload 5, 34, 0), (34, .iload_n 2, 35, 0), (35, .if_icmp .gt 67, 38, 102), (38, .iload 4, 40, 0), (40, .ifCond .ne 7, 43, 47), (43, .iconst 0, 44, 0), (44, .goto 19, 47, 63), (47, .aload_n 0, 48, 0), (48, .iload 4, 50, 0), (50, .aload_n 0, 51, 0), (51, .iload 4, 53, 0), (53, .iload 5, 55, 0), (55, .invokevirtual 35, 58, 81), (58, .iload 5, 60, 0), (60, .invokevirtual 39, 63, 82), (63, .istore 6, 65, 0)],
  [(65, .aload_n 0, 66, 0), (66, .getfield 23, 69, 515), (69, .iload 4, 71, 0), (71, .iconst 3, 72, 0), (72, .ishl, 73, 0), (73, .iload 5, 75, 0), (75, .iadd, 76, 0), (76, .aload_n 0, 77, 0), (77, .getfield 15, 80, 514), (80, .getfield 43, 83, 257), (83, .iload 4, 85, 0), (85, .iload_n 1, 86, 0), (86, .iload 5, 88, 0), (88, .invokestatic 48, 91, 137), (91, .iaload, 92, 0), (92, .iload 6, 94, 0), (94, .iadd, 95, 0), (95, .iastore, 96, 0)],
  [(96, .iinc 5 1, 99, 0), (99, .goto (-67), 102, 32), (102, .iinc 4 1, 105, 0), (105, .goto (-82), 108, 23), (108, .iload_n 3, 109, 0), (109, .iconst 3, 110, 0), (110, .ishl, 111, 0), (111, .istore 4, 113, 0), (113, .iconst 0, 114, 0), (114, .istore 5, 116, 0), (116, .iconst 1, 117, 0), (117, .istore 6, 119, 0), (119, .iload 6, 121, 0), (121, .iload_n 2, 122, 0), (122, .if_icmp .gt 41, 125, 163), (125, .aload_n 0, 126, 0), (126, .getfield 23, 129, 515)],
  [(129, .iload 4, 131, 0), (131, .iload 6, 133, 0), (133, .iadd, 134, 0), (134, .iaload, 135, 0), (135, .aload_n 0, 136, 0), (136, .getfield 23, 139, 515), (139, .iload 4, 141, 0), (141, .iload 5, 143, 0), (143, .iadd, 144, 0), (144, .iaload, 145, 0), (145, .if_icmp .ge 8, 148, 153), (148, .iload 6, 150, 0), (150, .goto 5, 153, 155), (153, .iload 5, 155, 0), (155, .istore 5, 157, 0), (157, .iinc 6 1, 160, 0)],
  [(160, .goto (-41), 163, 119), (163, .aload_n 0, 164, 0), (164, .getfield 19, 167, 512), (167, .iload_n 3, 168, 0), (168, .iload 5, 170, 0), (170, .iastore, 171, 0), (171, .iload_n 3, 172, 0), (172, .istore 6, 174, 0), (174, .iload 6, 176, 0), (176, .ifCond .le 31, 179, 207), (179, .aload_n 0, 180, 0), (180, .getfield 19, 183, 512), (183, .iload 6, 185, 0), (185, .iconst 1, 186, 0), (186, .isub, 187, 0), (187, .aload_n 0, 188, 0), (188, .iload 6, 190, 0), (190, .aload_n 0, 191, 0), (191, .getfield 19, 194, 512)],
  [(194, .iload 6, 196, 0), (196, .iaload, 197, 0), (197, .invokevirtual 35, 200, 81), (200, .iastore, 201, 0), (201, .iinc 6 (-1), 204, 0), (204, .goto (-30), 207, 174), (207, .aload_n 0, 208, 0), (208, .getfield 23, 211, 515), (211, .iload 4, 213, 0), (213, .iload 5, 215, 0), (215, .iadd, 216, 0), (216, .iaload, 217, 0), (217, .ireturn, 218, 0)]]
-- TwoViews$RowChoice.bestBefore(II)I
set_option maxRecDepth 100000 in
noncomputable def mi_t81 : mi_T := [[(0, .iconst 0, 1, 0), (1, .istore_n 3, 2, 0), (2, .iconst 1, 3, 0), (3, .istore 4, 5, 0), (5, .iload 4, 7, 0), (7, .aload_n 0, 8, 0), (8, .getfield 9, 11, 513), (11, .getfield 26, 14, 578), (14, .iconst 0, 15, 0), (15, .iaload, 16, 0), (16, .if_icmp .gt 34, 19, 50), (19, .aload_n 0, 20, 0), (20, .iload_n 1, 21, 0), (21, .iload 4, 23, 0), (23, .iload_n 2, 24, 0), (24, .invokevirtual 39, 27, 82), (27, .aload_n 0, 28, 0), (28, .iload_n 1, 29, 0), (29, .iload_n 3, 30, 0), (30, .iload_n 2, 31, 0), (31, .invokevirtual 39, 34, 82)],
  [(34, .if_icmp .ge 8, 37, 42), (37, .iload 4, 39, 0), (39, .goto 4, 42, 43), (42, .iload_n 3, 43, 0), (43, .istore_n 3, 44, 0), (44, .iinc 4 1, 47, 0), (47, .goto (-42), 50, 5), (50, .iload_n 3, 51, 0), (51, .ireturn, 52, 0)]]
-- TwoViews$RowChoice.priceBefore(III)I
set_option maxRecDepth 100000 in
noncomputable def mi_t82 : mi_T := [[(0, .aload_n 0, 1, 0), (1, .getfield 23, 4, 515), (4, .iload_n 1, 5, 0), (5, .iconst 1, 6, 0), (6, .isub, 7, 0), (7, .iconst 3, 8, 0), (8, .ishl, 9, 0), (9, .iload_n 2, 10, 0), (10, .iadd, 11, 0), (11, .iaload, 12, 0), (12, .aload_n 0, 13, 0), (13, .getfield 9, 16, 513), (16, .iload_n 2, 17, 0), (17, .iload_n 3, 18, 0), (18, .invokevirtual 51, 21, 91), (21, .iadd, 22, 0), (22, .ireturn, 23, 0)]]
-- TwoViews$Scene.<init>()V
set_option maxRecDepth 100000 in
noncomputable def mi_t83 : mi_T := [[(0, .aload_n 0, 1, 0), (1, .invokespecial 3, 4, 9999), (4, .aload_n 0, 5, 0), (5, .bipush 8, 7, 0), (7, .putfield 9, 10, 576), (10, .aload_n 0, 11, 0), (11, .bipush 6, 13, 0), (13, .putfield 15, 16, 577), (16, .aload_n 0, 17, 0), (17, .bipush 8, 19, 0), (19, .newarray .int, 21, 0), (21, .putfield 18, 24, 578), (24, .getstatic 22, 27, 1002), (27, .iconst 0, 28, 0), (28, .aload_n 0, 29, 0), (29, .getfield 18, 32, 578)],
  [(32, .iconst 0, 33, 0), (33, .bipush 8, 35, 0), (35, .invokestatic 25, 38, 9998), (38, .aload_n 0, 39, 0), (39, .sipush 384, 42, 0), (42, .newarray .int, 44, 0), (44, .putfield 31, 47, 579), (47, .return_, 48, 0)]]
-- TwoViews$Scene.become(LTwoViews$Scene;)V
set_option maxRecDepth 100000 in
noncomputable def mi_t84 : mi_T := [[(0, .aload_n 0, 1, 0), (1, .aload_n 1, 2, 0), (2, .getfield 9, 5, 576), (5, .putfield 9, 8, 576), (8, .aload_n 0, 9, 0), (9, .aload_n 1, 10, 0), (10, .getfield 15, 13, 577), (13, .putfield 15, 16, 577), (16, .aload_n 1, 17, 0), (17, .getfield 18, 20, 578), (20, .iconst 0, 21, 0), (21, .aload_n 0, 22, 0), (22, .getfield 18, 25, 578), (25, .iconst 0, 26, 0), (26, .bipush 8, 28, 0), (28, .invokestatic 25, 31, 9998), (31, .aload_n 1, 32, 0)],
  [(32, .getfield 31, 35, 579), (35, .iconst 0, 36, 0), (36, .aload_n 0, 37, 0), (37, .getfield 31, 40, 579), (40, .iconst 0, 41, 0), (41, .sipush 384, 44, 0), (44, .invokestatic 25, 47, 9998), (47, .return_, 48, 0)]]
-- TwoViews$Scene.blank(II)V
set_option maxRecDepth 100000 in
noncomputable def mi_t85 : mi_T := [[(0, .aload_n 0, 1, 0), (1, .iload_n 1, 2, 0), (2, .putfield 9, 5, 576), (5, .aload_n 0, 6, 0), (6, .iload_n 2, 7, 0), (7, .putfield 15, 10, 577), (10, .iconst 0, 11, 0), (11, .istore_n 3, 12, 0), (12, .iload_n 3, 13, 0), (13, .sipush 384, 16, 0), (16, .if_icmp .ge 16, 19, 32), (19, .aload_n 0, 20, 0), (20, .getfield 31, 23, 579), (23, .iload_n 3, 24, 0), (24, .iconst 0, 25, 0), (25, .iastore, 26, 0), (26, .iinc 3 1, 29, 0), (29, .goto (-17), 32, 12)],
  [(32, .return_, 33, 0)]]
-- TwoViews$Scene.hasSpot(II)Z
set_option maxRecDepth 100000 in
noncomputable def mi_t86 : mi_T := [[(0, .iload_n 1, 1, 0), (1, .ifCond .lt 27, 4, 28), (4, .iload_n 1, 5, 0), (5, .aload_n 0, 6, 0), (6, .getfield 9, 9, 576), (9, .if_icmp .ge 19, 12, 28), (12, .iload_n 2, 13, 0), (13, .ifCond .lt 15, 16, 28), (16, .iload_n 2, 17, 0), (17, .aload_n 0, 18, 0), (18, .getfield 15, 21, 577), (21, .if_icmp .ge 7, 24, 28), (24, .iconst 1, 25, 0), (25, .goto 4, 28, 29), (28, .iconst 0, 29, 0), (29, .ireturn, 30, 1)]]
-- TwoViews$Scene.has(III)Z
set_option maxRecDepth 100000 in
noncomputable def mi_t87 : mi_T := [[(0, .iload_n 1, 1, 0), (1, .invokestatic 34, 4, 135), (4, .ifCond .eq 16, 7, 20), (7, .aload_n 0, 8, 0), (8, .iload_n 2, 9, 0), (9, .iload_n 3, 10, 0), (10, .invokevirtual 38, 13, 86), (13, .ifCond .eq 7, 16, 20), (16, .iconst 1, 17, 0), (17, .goto 4, 20, 21), (20, .iconst 0, 21, 0), (21, .ireturn, 22, 1)]]
-- TwoViews$Scene.isShift(I)Z
set_option maxRecDepth 100000 in
noncomputable def mi_t88 : mi_T := [[(0, .iload_n 1, 1, 0), (1, .ifCond .lt 17, 4, 18), (4, .iload_n 1, 5, 0), (5, .aload_n 0, 6, 0), (6, .getfield 18, 9, 578), (9, .iconst 0, 10, 0), (10, .iaload, 11, 0), (11, .if_icmp .gt 7, 14, 18), (14, .iconst 1, 15, 0), (15, .goto 4, 18, 19), (18, .iconst 0, 19, 0), (19, .ireturn, 20, 1)]]
-- TwoViews$Scene.mayTune(II)Z
set_option maxRecDepth 100000 in
noncomputable def mi_t89 : mi_T := [[(0, .iload_n 1, 1, 0), (1, .iconst 0, 2, 0), (2, .bipush 7, 4, 0), (4, .invokestatic 42, 7, 134), (7, .ifCond .ne 5, 10, 12), (10, .iconst 0, 11, 0), (11, .ireturn, 12, 1), (12, .iload_n 2, 13, 0), (13, .getstatic 46, 16, 1000), (16, .iload_n 1, 17, 0), (17, .iaload, 18, 0), (18, .getstatic 49, 21, 1001), (21, .iload_n 1, 22, 0), (22, .iaload, 23, 0), (23, .invokestatic 42, 26, 134), (26, .ifCond .ne 5, 29, 31), (29, .iconst 0, 30, 0), (30, .ireturn, 31, 1), (31, .iload_n 1, 32, 0)],
  [(32, .iconst 2, 33, 0), (33, .if_icmp .ne 17, 36, 50), (36, .iload_n 2, 37, 0), (37, .aload_n 0, 38, 0), (38, .getfield 18, 41, 578), (41, .iconst 3, 42, 0), (42, .iaload, 43, 0), (43, .if_icmp .le 7, 46, 50), (46, .iconst 1, 47, 0), (47, .goto 4, 50, 51), (50, .iconst 0, 51, 0), (51, .istore_n 3, 52, 0), (52, .iload_n 1, 53, 0), (53, .iconst 3, 54, 0), (54, .if_icmp .ne 17, 57, 71), (57, .iload_n 2, 58, 0), (58, .aload_n 0, 59, 0), (59, .getfield 18, 62, 578), (62, .iconst 2, 63, 0), (63, .iaload, 64, 0)],
  [(64, .if_icmp .ge 7, 67, 71), (67, .iconst 1, 68, 0), (68, .goto 4, 71, 72), (71, .iconst 0, 72, 0), (72, .istore 4, 74, 0), (74, .iload_n 3, 75, 0), (75, .ifCond .ne 12, 78, 87), (78, .iload 4, 80, 0), (80, .ifCond .ne 7, 83, 87), (83, .iconst 1, 84, 0), (84, .goto 4, 87, 88), (87, .iconst 0, 88, 0), (88, .ireturn, 89, 1)]]
-- TwoViews$Scene.bits()I
set_option maxRecDepth 100000 in
noncomputable def mi_t90 : mi_T := [[(0, .aload_n 0, 1, 0), (1, .getfield 18, 4, 578), (4, .iconst 1, 5, 0), (5, .iaload, 6, 0), (6, .iconst 1, 7, 0), (7, .if_icmp .ne 8, 10, 15), (10, .bipush 8, 12, 0), (12, .goto 5, 15, 17), (15, .bipush 24, 17, 0), (17, .ireturn, 18, 0)]]
-- TwoViews$Scene.stepPrice(II)I
set_option maxRecDepth 100000 in
noncomputable def mi_t91 : mi_T := [[(0, .iload_n 1, 1, 0), (1, .iload_n 2, 2, 0), (2, .if_icmp .ne 5, 5, 7), (5, .iconst 0, 6, 0), (6, .ireturn, 7, 0), (7, .iload_n 1, 8, 0), (8, .iload_n 2, 9, 0), (9, .isub, 10, 0), (10, .invokestatic 52, 13, 258), (13, .iconst 1, 14, 0), (14, .if_icmp .ne 12, 17, 26), (17, .aload_n 0, 18, 0), (18, .getfield 18, 21, 578), (21, .iconst 2, 22, 0), (22, .iaload, 23, 0), (23, .goto 9, 26, 32), (26, .aload_n 0, 27, 0), (27, .getfield 18, 30, 578), (30, .iconst 3, 31, 0), (31, .iaload, 32, 0)],
  [(32, .ireturn, 33, 0)]]
-- TwoViews$Tape.<init>()V
set_option maxRecDepth 100000 in
noncomputable def mi_t92 : mi_T := [[(0, .aload_n 0, 1, 0), (1, .invokespecial 3, 4, 9999), (4, .aload_n 0, 5, 0), (5, .sipush 700, 8, 0), (8, .newarray .byte, 10, 0), (10, .putfield 9, 13, 641), (13, .return_, 14, 0)]]
-- TwoViews$Tape.hasRoomFor(I)Z
set_option maxRecDepth 100000 in
noncomputable def mi_t93 : mi_T := [[(0, .aload_n 0, 1, 0), (1, .getfield 15, 4, 640), (4, .iload_n 1, 5, 0), (5, .iadd, 6, 0), (6, .sipush 700, 9, 0), (9, .if_icmp .gt 7, 12, 16), (12, .iconst 1, 13, 0), (13, .goto 4, 16, 17), (16, .iconst 0, 17, 0), (17, .ireturn, 18, 1)]]
-- TwoViews$Tape.append(I)V
set_option maxRecDepth 100000 in
noncomputable def mi_t94 : mi_T := [[(0, .aload_n 0, 1, 0), (1, .iconst 4, 2, 0), (2, .invokevirtual 19, 5, 93), (5, .ifCond .ne 4, 8, 9), (8, .return_, 9, 0), (9, .aload_n 0, 10, 0), (10, .getfield 9, 13, 641), (13, .aload_n 0, 14, 0), (14, .getfield 15, 17, 640), (17, .iload_n 1, 18, 0), (18, .bipush 24, 20, 0), (20, .ishr, 21, 0), (21, .i2b, 22, 0), (22, .bastore, 23, 0), (23, .aload_n 0, 24, 0), (24, .getfield 9, 27, 641), (27, .aload_n 0, 28, 0), (28, .getfield 15, 31, 640), (31, .iconst 1, 32, 0)],
  [(32, .iadd, 33, 0), (33, .iload_n 1, 34, 0), (34, .bipush 16, 36, 0), (36, .ishr, 37, 0), (37, .i2b, 38, 0), (38, .bastore, 39, 0), (39, .aload_n 0, 40, 0), (40, .getfield 9, 43, 641), (43, .aload_n 0, 44, 0), (44, .getfield 15, 47, 640), (47, .iconst 2, 48, 0), (48, .iadd, 49, 0), (49, .iload_n 1, 50, 0), (50, .bipush 8, 52, 0), (52, .ishr, 53, 0), (53, .i2b, 54, 0), (54, .bastore, 55, 0), (55, .aload_n 0, 56, 0), (56, .getfield 9, 59, 641), (59, .aload_n 0, 60, 0), (60, .getfield 15, 63, 640), (63, .iconst 3, 64, 0)],
  [(64, .iadd, 65, 0), (65, .iload_n 1, 66, 0), (66, .i2b, 67, 0), (67, .bastore, 68, 0), (68, .aload_n 0, 69, 0), (69, .dup, 70, 0), (70, .getfield 15, 73, 640), (73, .iconst 4, 74, 0), (74, .iadd, 75, 0), (75, .putfield 15, 78, 640), (78, .return_, 79, 0)]]
-- TwoViews$Tape.signAt(I)I
set_option maxRecDepth 100000 in
noncomputable def mi_t95 : mi_T := [[(0, .aload_n 0, 1, 0), (1, .getfield 9, 4, 641), (4, .iload_n 1, 5, 0), (5, .baload, 6, 0), (6, .sipush 255, 9, 0), (9, .iand, 10, 0), (10, .ireturn, 11, 0)]]
-- TwoViews.<init>()V
set_option maxRecDepth 100000 in
noncomputable def mi_t96 : mi_T := [[(0, .aload_n 0, 1, 0), (1, .invokespecial 3, 4, 9999), (4, .aload_n 0, 5, 0), (5, .new 9, 8, 580), (8, .dup, 9, 0), (9, .invokespecial 11, 12, 83), (12, .putfield 12, 15, 704), (15, .aload_n 0, 16, 0), (16, .new 16, 19, 71), (19, .dup, 20, 0), (20, .invokespecial 18, 23, 1), (23, .putfield 19, 26, 705), (26, .aload_n 0, 27, 0), (27, .new 23, 30, 642), (30, .dup, 31, 0), (31, .invokespecial 25, 34, 92)],
  [(34, .putfield 26, 37, 706), (37, .aload_n 0, 38, 0), (38, .new 30, 41, 454), (41, .dup, 42, 0), (42, .aload_n 0, 43, 0), (43, .getfield 26, 46, 706), (46, .invokespecial 32, 49, 62), (49, .putfield 35, 52, 707), (52, .aload_n 0, 53, 0), (53, .new 39, 56, 323), (56, .dup, 57, 0), (57, .invokespecial 41, 60, 45), (60, .putfield 42, 63, 708), (63, .aload_n 0, 64, 0)],
  [(64, .iconst 2, 65, 0), (65, .anewarray 46, 68, 4), (68, .putfield 48, 71, 709), (71, .iconst 0, 72, 0), (72, .istore_n 1, 73, 0), (73, .iload_n 1, 74, 0), (74, .iconst 2, 75, 0), (75, .if_icmp .ge 22, 78, 97), (78, .aload_n 0, 79, 0), (79, .getfield 48, 82, 709), (82, .iload_n 1, 83, 0), (83, .new 46, 86, 3), (86, .dup, 87, 0), (87, .invokespecial 52, 90, 0), (90, .aastore, 91, 0), (91, .iinc 1 1, 94, 0), (94, .goto (-21), 97, 73)],
  [(97, .aload_n 0, 98, 0), (98, .new 53, 101, 262), (101, .dup, 102, 0), (102, .aload_n 0, 103, 0), (103, .getfield 12, 106, 704), (106, .invokespecial 55, 109, 30), (109, .putfield 58, 112, 710), (112, .aload_n 0, 113, 0), (113, .new 62, 116, 198), (116, .dup, 117, 0), (117, .aload_n 0, 118, 0), (118, .getfield 12, 121, 704), (121, .aload_n 0, 122, 0), (122, .getfield 58, 125, 710), (125, .invokespecial 64, 128, 11)],
  [(128, .putfield 67, 131, 711), (131, .aload_n 0, 132, 0), (132, .new 71, 135, 391), (135, .dup, 136, 0), (136, .aload_n 0, 137, 0), (137, .getfield 12, 140, 704), (140, .aload_n 0, 141, 0), (141, .getfield 67, 144, 711), (144, .invokespecial 73, 147, 48), (147, .putfield 76, 150, 712), (150, .aload_n 0, 151, 0), (151, .new 80, 154, 516), (154, .dup, 155, 0), (155, .aload_n 0, 156, 0), (156, .getfield 12, 159, 704), (159, .aload_n 0, 160, 0)],
  [(160, .getfield 58, 163, 710), (163, .invokespecial 82, 166, 79), (166, .putfield 83, 169, 713), (169, .aload_n 0, 170, 0), (170, .new 87, 173, 131), (173, .dup, 174, 0), (174, .aload_n 0, 175, 0), (175, .getfield 12, 178, 704), (178, .aload_n 0, 179, 0), (179, .getfield 67, 182, 711), (182, .invokespecial 89, 185, 7), (185, .putfield 90, 188, 714), (188, .aload_n 0, 189, 0), (189, .iconst 0, 190, 0), (190, .putfield 94, 193, 715)],
  [(193, .return_, 194, 0)]]
-- TwoViews.feed(IIIII)I
set_option maxRecDepth 100000 in
noncomputable def mi_t97 : mi_T := [[(0, .aload_n 0, 1, 0), (1, .getfield 26, 4, 706), (4, .bipush 20, 6, 0), (6, .invokevirtual 98, 9, 93), (9, .ifCond .ne 5, 12, 14), (12, .iconst (-1), 13, 0), (13, .ireturn, 14, 0), (14, .aload_n 0, 15, 0), (15, .getfield 26, 18, 706), (18, .iload_n 1, 19, 0), (19, .invokevirtual 102, 22, 94), (22, .aload_n 0, 23, 0), (23, .getfield 26, 26, 706), (26, .iload_n 2, 27, 0), (27, .invokevirtual 102, 30, 94), (30, .aload_n 0, 31, 0), (31, .getfield 26, 34, 706)],
  [(34, .iload_n 3, 35, 0), (35, .invokevirtual 102, 38, 94), (38, .aload_n 0, 39, 0), (39, .getfield 26, 42, 706), (42, .iload 4, 44, 0), (44, .invokevirtual 102, 47, 94), (47, .aload_n 0, 48, 0), (48, .getfield 26, 51, 706), (51, .iload 5, 53, 0), (53, .invokevirtual 102, 56, 94), (56, .aload_n 0, 57, 0), (57, .getfield 26, 60, 706), (60, .getfield 106, 63, 640), (63, .ireturn, 64, 0)]]
-- TwoViews.text(I)I
set_option maxRecDepth 100000 in
noncomputable def mi_t98 : mi_T := [[(0, .iload_n 1, 1, 0), (1, .ifCond .lt 14, 4, 15), (4, .iload_n 1, 5, 0), (5, .aload_n 0, 6, 0), (6, .getfield 26, 9, 706), (9, .getfield 106, 12, 640), (12, .if_icmp .le 5, 15, 17), (15, .iconst (-1), 16, 0), (16, .ireturn, 17, 0), (17, .aload_n 0, 18, 0), (18, .getfield 35, 21, 707), (21, .iload_n 1, 22, 0), (22, .aload_n 0, 23, 0), (23, .getfield 12, 26, 704), (26, .invokevirtual 109, 29, 63), (29, .istore_n 2, 30, 0), (30, .aload_n 0, 31, 0), (31, .getfield 26, 34, 706)],
  [(34, .iconst 0, 35, 0), (35, .putfield 106, 38, 640), (38, .iload_n 2, 39, 0), (39, .ifCond .lt 22, 42, 61), (42, .aload_n 0, 43, 0), (43, .iconst 0, 44, 0), (44, .invokevirtual 113, 47, 139), (47, .aload_n 0, 48, 0), (48, .getfield 12, 51, 704), (51, .aload_n 0, 52, 0), (52, .getfield 35, 55, 707), (55, .getfield 116, 58, 448), (58, .invokevirtual 119, 61, 84), (61, .iload_n 2, 62, 0), (62, .ireturn, 63, 0)]]
-- TwoViews.size(II)Z
set_option maxRecDepth 100000 in
noncomputable def mi_t99 : mi_T := [[(0, .iload_n 1, 1, 0), (1, .iconst 3, 2, 0), (2, .if_icmp .lt 20, 5, 22), (5, .iload_n 1, 6, 0), (6, .bipush 16, 8, 0), (8, .if_icmp .gt 14, 11, 22), (11, .iload_n 2, 12, 0), (12, .iconst 3, 13, 0), (13, .if_icmp .lt 9, 16, 22), (16, .iload_n 2, 17, 0), (17, .bipush 12, 19, 0), (19, .if_icmp .le 5, 22, 24), (22, .iconst 0, 23, 0), (23, .ireturn, 24, 1), (24, .aload_n 0, 25, 0), (25, .iconst 0, 26, 0), (26, .invokevirtual 113, 29, 139), (29, .aload_n 0, 30, 0), (30, .getfield 12, 33, 704)],
  [(33, .iload_n 1, 34, 0), (34, .iload_n 2, 35, 0), (35, .invokevirtual 122, 38, 85), (38, .iconst 1, 39, 0), (39, .ireturn, 40, 1)]]
-- TwoViews.value(IIII)I
set_option maxRecDepth 100000 in
noncomputable def mi_t100 : mi_T := [[(0, .aload_n 0, 1, 0), (1, .getfield 12, 4, 704), (4, .iload_n 1, 5, 0), (5, .iload_n 2, 6, 0), (6, .iload_n 3, 7, 0), (7, .invokevirtual 126, 10, 87), (10, .ifCond .eq 15, 13, 25), (13, .iload 4, 15, 0), (15, .ifCond .lt 10, 18, 25), (18, .iload 4, 20, 0), (20, .bipush 15, 22, 0), (22, .if_icmp .le 5, 25, 27), (25, .iconst (-1), 26, 0), (26, .ireturn, 27, 0), (27, .aload_n 0, 28, 0), (28, .iconst 0, 29, 0), (29, .invokevirtual 113, 32, 139)],
  [(32, .iload_n 1, 33, 0), (33, .iload_n 2, 34, 0), (34, .iload_n 3, 35, 0), (35, .invokestatic 130, 38, 136), (38, .istore 5, 40, 0), (40, .aload_n 0, 41, 0), (41, .getfield 12, 44, 704), (44, .getfield 134, 47, 579), (47, .iload 5, 49, 0), (49, .iaload, 50, 0), (50, .istore 6, 52, 0), (52, .aload_n 0, 53, 0), (53, .getfield 12, 56, 704), (56, .getfield 134, 59, 579), (59, .iload 5, 61, 0), (61, .iload 4, 63, 0), (63, .iastore, 64, 0)],
  [(64, .iload 6, 66, 0), (66, .ireturn, 67, 0)]]
-- TwoViews.tune(II)I
set_option maxRecDepth 100000 in
noncomputable def mi_t101 : mi_T := [[(0, .aload_n 0, 1, 0), (1, .getfield 12, 4, 704), (4, .iload_n 1, 5, 0), (5, .iload_n 2, 6, 0), (6, .invokevirtual 138, 9, 89), (9, .ifCond .ne 5, 12, 14), (12, .iconst (-1), 13, 0), (13, .ireturn, 14, 0), (14, .aload_n 0, 15, 0), (15, .getstatic 142, 18, 1005), (18, .iload_n 1, 19, 0), (19, .iaload, 20, 0), (20, .invokevirtual 113, 23, 139), (23, .aload_n 0, 24, 0), (24, .getfield 12, 27, 704), (27, .getfield 145, 30, 578), (30, .iload_n 1, 31, 0), (31, .iaload, 32, 0)],
  [(32, .istore_n 3, 33, 0), (33, .aload_n 0, 34, 0), (34, .getfield 12, 37, 704), (37, .getfield 145, 40, 578), (40, .iload_n 1, 41, 0), (41, .iload_n 2, 42, 0), (42, .iastore, 43, 0), (43, .iload_n 3, 44, 0), (44, .ireturn, 45, 0)]]
-- TwoViews.layer(IIIIII)I
set_option maxRecDepth 100000 in
noncomputable def mi_t102 : mi_T := [[(0, .iload_n 1, 1, 0), (1, .bipush (-20), 3, 0), (3, .bipush 20, 5, 0), (5, .invokestatic 148, 8, 134), (8, .ifCond .eq 51, 11, 59), (11, .iload_n 2, 12, 0), (12, .bipush (-20), 14, 0), (14, .bipush 20, 16, 0), (16, .invokestatic 148, 19, 134), (19, .ifCond .eq 40, 22, 59), (22, .iload_n 3, 23, 0), (23, .iconst 1, 24, 0), (24, .bipush 40, 26, 0), (26, .invokestatic 148, 29, 134), (29, .ifCond .eq 30, 32, 59)],
  [(32, .iload 4, 34, 0), (34, .iconst 1, 35, 0), (35, .bipush 40, 37, 0), (37, .invokestatic 148, 40, 134), (40, .ifCond .eq 19, 43, 59), (43, .aload_n 0, 44, 0), (44, .getfield 12, 47, 704), (47, .iload 5, 49, 0), (49, .invokevirtual 151, 52, 88), (52, .ifCond .eq 7, 55, 59), (55, .iconst 1, 56, 0), (56, .goto 4, 59, 60), (59, .iconst 0, 60, 0), (60, .istore 7, 62, 0), (62, .iload 7, 64, 0)],
  [(64, .ifCond .eq 15, 67, 79), (67, .aload_n 0, 68, 0), (68, .getfield 19, 71, 705), (71, .getfield 154, 74, 64), (74, .bipush 6, 76, 0), (76, .if_icmp .lt 5, 79, 81), (79, .iconst (-1), 80, 0), (80, .ireturn, 81, 0), (81, .aload_n 0, 82, 0), (82, .getfield 19, 85, 705), (85, .getfield 154, 88, 64), (88, .istore 8, 90, 0), (90, .aload_n 0, 91, 0), (91, .getfield 19, 94, 705), (94, .getfield 157, 97, 65)],
  [(97, .iload 8, 99, 0), (99, .iload_n 1, 100, 0), (100, .iastore, 101, 0), (101, .aload_n 0, 102, 0), (102, .getfield 19, 105, 705), (105, .getfield 160, 108, 66), (108, .iload 8, 110, 0), (110, .iload_n 2, 111, 0), (111, .iastore, 112, 0), (112, .aload_n 0, 113, 0), (113, .getfield 19, 116, 705), (116, .getfield 163, 119, 67), (119, .iload 8, 121, 0), (121, .iload_n 3, 122, 0), (122, .iastore, 123, 0), (123, .aload_n 0, 124, 0), (124, .getfield 19, 127, 705), (127, .getfield 166, 130, 68)],
  [(130, .iload 8, 132, 0), (132, .iload 4, 134, 0), (134, .iastore, 135, 0), (135, .aload_n 0, 136, 0), (136, .getfield 19, 139, 705), (139, .getfield 169, 142, 69), (142, .iload 8, 144, 0), (144, .iload 5, 146, 0), (146, .iastore, 147, 0), (147, .aload_n 0, 148, 0), (148, .getfield 19, 151, 705), (151, .getfield 172, 154, 70), (154, .iload 8, 156, 0), (156, .iload 6, 158, 0), (158, .iastore, 159, 0), (159, .aload_n 0, 160, 0)],
  [(160, .getfield 19, 163, 705), (163, .iload 8, 165, 0), (165, .iconst 1, 166, 0), (166, .iadd, 167, 0), (167, .putfield 154, 170, 64), (170, .iload 8, 172, 0), (172, .ireturn, 173, 0)]]
-- TwoViews.clear()I
set_option maxRecDepth 100000 in
noncomputable def mi_t103 : mi_T := [[(0, .aload_n 0, 1, 0), (1, .getfield 19, 4, 705), (4, .getfield 154, 7, 64), (7, .istore_n 1, 8, 0), (8, .aload_n 0, 9, 0), (9, .getfield 19, 12, 705), (12, .iconst 0, 13, 0), (13, .putfield 154, 16, 64), (16, .iload_n 1, 17, 0), (17, .ireturn, 18, 0)]]
-- TwoViews.draw()I
set_option maxRecDepth 100000 in
noncomputable def mi_t104 : mi_T := [[(0, .aload_n 0, 1, 0), (1, .iconst 0, 2, 0), (2, .invokevirtual 113, 5, 139), (5, .iconst 0, 6, 0), (6, .istore_n 1, 7, 0), (7, .iconst 0, 8, 0), (8, .istore_n 2, 9, 0), (9, .iload_n 2, 10, 0), (10, .aload_n 0, 11, 0), (11, .getfield 12, 14, 704), (14, .getfield 175, 17, 577), (17, .if_icmp .ge 114, 20, 131), (20, .iconst 0, 21, 0), (21, .istore_n 3, 22, 0), (22, .iload_n 3, 23, 0), (23, .aload_n 0, 24, 0), (24, .getfield 12, 27, 704), (27, .getfield 177, 30, 576), (30, .if_icmp .ge 95, 33, 125)],
  [(33, .aload_n 0, 34, 0), (34, .getfield 19, 37, 705), (37, .iconst 0, 38, 0), (38, .iload_n 3, 39, 0), (39, .iload_n 2, 40, 0), (40, .invokevirtual 179, 43, 4), (43, .istore 4, 45, 0), (45, .iload_n 1, 46, 0), (46, .iload 4, 48, 0), (48, .iconst (-1), 49, 0), (49, .if_icmp .ne 7, 52, 56), (52, .iconst 0, 53, 0), (53, .goto 4, 56, 57), (56, .iconst 1, 57, 0), (57, .iadd, 58, 0), (58, .istore_n 1, 59, 0), (59, .aload_n 0, 60, 0), (60, .getfield 12, 63, 704), (63, .getfield 134, 66, 579)],
  [(66, .iconst 0, 67, 0), (67, .iload_n 3, 68, 0), (68, .iload_n 2, 69, 0), (69, .invokestatic 130, 72, 136), (72, .aload_n 0, 73, 0), (73, .getfield 19, 76, 705), (76, .iconst 0, 77, 0), (77, .iload 4, 79, 0), (79, .iload_n 3, 80, 0), (80, .iload_n 2, 81, 0), (81, .invokevirtual 182, 84, 5), (84, .iastore, 85, 0), (85, .aload_n 0, 86, 0), (86, .getfield 12, 89, 704), (89, .getfield 134, 92, 579), (92, .iconst 1, 93, 0), (93, .iload_n 3, 94, 0), (94, .iload_n 2, 95, 0), (95, .invokestatic 130, 98, 136)],
  [(98, .aload_n 0, 99, 0), (99, .getfield 19, 102, 705), (102, .iconst 1, 103, 0), (103, .aload_n 0, 104, 0), (104, .getfield 19, 107, 705), (107, .iconst 1, 108, 0), (108, .iload_n 3, 109, 0), (109, .iload_n 2, 110, 0), (110, .invokevirtual 179, 113, 4), (113, .iload_n 3, 114, 0), (114, .iload_n 2, 115, 0), (115, .invokevirtual 182, 118, 5), (118, .iastore, 119, 0), (119, .iinc 3 1, 122, 0), (122, .goto (-100), 125, 22), (125, .iinc 2 1, 128, 0)],
  [(128, .goto (-119), 131, 9), (131, .iload_n 1, 132, 0), (132, .ireturn, 133, 0)]]
-- TwoViews.truth(III)I
set_option maxRecDepth 100000 in
noncomputable def mi_t105 : mi_T := [[(0, .aload_n 0, 1, 0), (1, .getfield 12, 4, 704), (4, .iconst 0, 5, 0), (5, .iload_n 1, 6, 0), (6, .iload_n 2, 7, 0), (7, .invokevirtual 126, 10, 87), (10, .ifCond .eq 12, 13, 22), (13, .iload_n 3, 14, 0), (14, .ifCond .lt 8, 17, 22), (17, .iload_n 3, 18, 0), (18, .iconst 1, 19, 0), (19, .if_icmp .le 5, 22, 24), (22, .iconst (-1), 23, 0), (23, .ireturn, 24, 0), (24, .aload_n 0, 25, 0), (25, .getfield 19, 28, 705), (28, .iconst 0, 29, 0), (29, .iload_n 1, 30, 0), (30, .iload_n 2, 31, 0), (31, .invokevirtual 179, 34, 4)],
  [(34, .istore 4, 36, 0), (36, .iload_n 3, 37, 0), (37, .iconst 1, 38, 0), (38, .if_icmp .ne 23, 41, 61), (41, .aload_n 0, 42, 0), (42, .getfield 19, 45, 705), (45, .iload 4, 47, 0), (47, .iload_n 1, 48, 0), (48, .iload_n 2, 49, 0), (49, .invokevirtual 186, 52, 6), (52, .ifCond .eq 7, 55, 59), (55, .iconst 1, 56, 0), (56, .goto 4, 59, 60), (59, .iconst 0, 60, 0), (60, .ireturn, 61, 0), (61, .iload 4, 63, 0), (63, .iconst (-1), 64, 0)],
  [(64, .if_icmp .ne 7, 67, 71), (67, .iconst (-1), 68, 0), (68, .goto 13, 71, 81), (71, .aload_n 0, 72, 0), (72, .getfield 19, 75, 705), (75, .getfield 169, 78, 69), (78, .iload 4, 80, 0), (80, .iaload, 81, 0), (81, .ireturn, 82, 0)]]
-- TwoViews.at(III)I
set_option maxRecDepth 100000 in
noncomputable def mi_t106 : mi_T := [[(0, .aload_n 0, 1, 0), (1, .iload_n 1, 2, 0), (2, .iload_n 2, 3, 0), (3, .iload_n 3, 4, 0), (4, .invokevirtual 189, 7, 138), (7, .aload_n 0, 8, 0), (8, .getfield 12, 11, 704), (11, .getfield 134, 14, 579), (14, .iload_n 1, 15, 0), (15, .iload_n 2, 16, 0), (16, .iload_n 3, 17, 0), (17, .invokestatic 130, 20, 136), (20, .iaload, 21, 0), (21, .ireturn, 22, 0)]]
-- TwoViews.code(III)I
set_option maxRecDepth 100000 in
noncomputable def mi_t107 : mi_T := [[(0, .aload_n 0, 1, 0), (1, .iload_n 1, 2, 0), (2, .iload_n 2, 3, 0), (3, .iload_n 3, 4, 0), (4, .invokevirtual 189, 7, 138), (7, .aload_n 0, 8, 0), (8, .iconst 1, 9, 0), (9, .invokevirtual 193, 12, 141), (12, .aload_n 0, 13, 0), (13, .getfield 58, 16, 710), (16, .getfield 196, 19, 256), (19, .iload_n 1, 20, 0), (20, .iload_n 2, 21, 0), (21, .iload_n 3, 22, 0), (22, .invokestatic 130, 25, 136), (25, .iaload, 26, 0), (26, .ireturn, 27, 0)]]
-- TwoViews.same(III)I
set_option maxRecDepth 100000 in
noncomputable def mi_t108 : mi_T := [[(0, .aload_n 0, 1, 0), (1, .iload_n 1, 2, 0), (2, .iload_n 2, 3, 0), (3, .iload_n 3, 4, 0), (4, .invokevirtual 189, 7, 138), (7, .aload_n 0, 8, 0), (8, .iconst 1, 9, 0), (9, .invokevirtual 193, 12, 141), (12, .aload_n 0, 13, 0), (13, .getfield 58, 16, 710), (16, .getfield 196, 19, 256), (19, .iload_n 1, 20, 0), (20, .iload_n 2, 21, 0), (21, .iload_n 3, 22, 0), (22, .invokestatic 130, 25, 136), (25, .iaload, 26, 0), (26, .istore 4, 28, 0), (28, .aload_n 0, 29, 0), (29, .getfield 58, 32, 710)],
  [(32, .iconst 0, 33, 0), (33, .iload 4, 35, 0), (35, .invokevirtual 199, 38, 36), (38, .aload_n 0, 39, 0), (39, .getfield 58, 42, 710), (42, .iconst 1, 43, 0), (43, .iload 4, 45, 0), (45, .invokevirtual 199, 48, 36), (48, .iadd, 49, 0), (49, .ireturn, 50, 0)]]
-- TwoViews.codes(I)I
set_option maxRecDepth 100000 in
noncomputable def mi_t109 : mi_T := [[(0, .iload_n 1, 1, 0), (1, .invokestatic 203, 4, 135), (4, .ifCond .ne 5, 7, 9), (7, .iconst (-1), 8, 0), (8, .ireturn, 9, 0), (9, .aload_n 0, 10, 0), (10, .iconst 1, 11, 0), (11, .invokevirtual 193, 14, 141), (14, .aload_n 0, 15, 0), (15, .getfield 58, 18, 710), (18, .iload_n 1, 19, 0), (19, .invokevirtual 206, 22, 37), (22, .ireturn, 23, 0)]]
-- TwoViews.cost(III)I
set_option maxRecDepth 100000 in
noncomputable def mi_t110 : mi_T := [[(0, .aload_n 0, 1, 0), (1, .getfield 12, 4, 704), (4, .iconst 0, 5, 0), (5, .iload_n 1, 6, 0), (6, .iload_n 2, 7, 0), (7, .invokevirtual 126, 10, 87), (10, .ifCond .eq 14, 13, 24), (13, .aload_n 0, 14, 0), (14, .getfield 12, 17, 704), (17, .iload_n 3, 18, 0), (18, .invokevirtual 151, 21, 88), (21, .ifCond .ne 5, 24, 26), (24, .iconst (-1), 25, 0), (25, .ireturn, 26, 0), (26, .aload_n 0, 27, 0), (27, .iconst 1, 28, 0), (28, .invokevirtual 193, 31, 141), (31, .aload_n 0, 32, 0)],
  [(32, .getfield 58, 35, 710), (35, .getfield 210, 38, 257), (38, .iload_n 1, 39, 0), (39, .iload_n 2, 40, 0), (40, .iload_n 3, 41, 0), (41, .invokestatic 213, 44, 137), (44, .iaload, 45, 0), (45, .ireturn, 46, 0)]]
-- TwoViews.path(IIII)I
set_option maxRecDepth 100000 in
noncomputable def mi_t111 : mi_T := [[(0, .iload_n 1, 1, 0), (1, .iconst 0, 2, 0), (2, .bipush 7, 4, 0), (4, .invokestatic 148, 7, 134), (7, .ifCond .eq 28, 10, 35), (10, .aload_n 0, 11, 0), (11, .getfield 12, 14, 704), (14, .iconst 0, 15, 0), (15, .iload_n 2, 16, 0), (16, .iload_n 3, 17, 0), (17, .invokevirtual 126, 20, 87), (20, .ifCond .eq 15, 23, 35), (23, .aload_n 0, 24, 0), (24, .getfield 12, 27, 704), (27, .iload 4, 29, 0), (29, .invokevirtual 151, 32, 88)],
  [(32, .ifCond .ne 5, 35, 37), (35, .iconst (-1), 36, 0), (36, .ireturn, 37, 0), (37, .aload_n 0, 38, 0), (38, .iconst 1, 39, 0), (39, .invokevirtual 193, 42, 141), (42, .aload_n 0, 43, 0), (43, .getfield 58, 46, 710), (46, .iload_n 1, 47, 0), (47, .invokevirtual 216, 50, 42), (50, .aload_n 0, 51, 0), (51, .getfield 58, 54, 710), (54, .getfield 219, 57, 259), (57, .iload_n 2, 58, 0), (58, .iload_n 3, 59, 0), (59, .iload 4, 61, 0), (61, .invokestatic 213, 64, 137)],
  [(64, .iaload, 65, 0), (65, .ireturn, 66, 0)]]
-- TwoViews.sum(III)I
set_option maxRecDepth 100000 in
noncomputable def mi_t112 : mi_T := [[(0, .aload_n 0, 1, 0), (1, .getfield 12, 4, 704), (4, .iconst 0, 5, 0), (5, .iload_n 1, 6, 0), (6, .iload_n 2, 7, 0), (7, .invokevirtual 126, 10, 87), (10, .ifCond .eq 14, 13, 24), (13, .aload_n 0, 14, 0), (14, .getfield 12, 17, 704), (17, .iload_n 3, 18, 0), (18, .invokevirtual 151, 21, 88), (21, .ifCond .ne 5, 24, 26), (24, .iconst (-1), 25, 0), (25, .ireturn, 26, 0), (26, .aload_n 0, 27, 0), (27, .iconst 2, 28, 0), (28, .invokevirtual 193, 31, 141), (31, .aload_n 0, 32, 0)],
  [(32, .getfield 58, 35, 710), (35, .getfield 221, 38, 258), (38, .iload_n 1, 39, 0), (39, .iload_n 2, 40, 0), (40, .iload_n 3, 41, 0), (41, .invokestatic 213, 44, 137), (44, .iaload, 45, 0), (45, .ireturn, 46, 0)]]
-- TwoViews.shift(III)I
set_option maxRecDepth 100000 in
noncomputable def mi_t113 : mi_T := [[(0, .aload_n 0, 1, 0), (1, .iload_n 1, 2, 0), (2, .iload_n 2, 3, 0), (3, .iload_n 3, 4, 0), (4, .invokevirtual 189, 7, 138), (7, .aload_n 0, 8, 0), (8, .iconst 3, 9, 0), (9, .invokevirtual 193, 12, 141), (12, .aload_n 0, 13, 0), (13, .getfield 67, 16, 711), (16, .getfield 224, 19, 192), (19, .iload_n 1, 20, 0), (20, .iload_n 2, 21, 0), (21, .iload_n 3, 22, 0), (22, .invokestatic 130, 25, 136), (25, .iaload, 26, 0), (26, .ireturn, 27, 0)]]
-- TwoViews.margin(II)I
set_option maxRecDepth 100000 in
noncomputable def mi_t114 : mi_T := [[(0, .aload_n 0, 1, 0), (1, .iconst 0, 2, 0), (2, .iload_n 1, 3, 0), (3, .iload_n 2, 4, 0), (4, .invokevirtual 189, 7, 138), (7, .aload_n 0, 8, 0), (8, .iconst 3, 9, 0), (9, .invokevirtual 193, 12, 141), (12, .aload_n 0, 13, 0), (13, .getfield 67, 16, 711), (16, .iload_n 1, 17, 0), (17, .iload_n 2, 18, 0), (18, .invokevirtual 227, 21, 15), (21, .ireturn, 22, 0)]]
-- TwoViews.kind(III)I
set_option maxRecDepth 100000 in
noncomputable def mi_t115 : mi_T := [[(0, .aload_n 0, 1, 0), (1, .getfield 12, 4, 704), (4, .iload_n 1, 5, 0), (5, .iload_n 2, 6, 0), (6, .iload_n 3, 7, 0), (7, .invokevirtual 126, 10, 87), (10, .ifCond .ne 5, 13, 15), (13, .iconst (-1), 14, 0), (14, .ireturn, 15, 0), (15, .aload_n 0, 16, 0), (16, .iconst 4, 17, 0), (17, .invokevirtual 193, 20, 141), (20, .aload_n 0, 21, 0), (21, .getfield 67, 24, 711), (24, .getfield 230, 27, 193), (27, .iload_n 1, 28, 0), (28, .iload_n 2, 29, 0), (29, .iload_n 3, 30, 0), (30, .invokestatic 130, 33, 136)],
  [(33, .iaload, 34, 0), (34, .ireturn, 35, 0)]]
-- TwoViews.kinds(II)I
set_option maxRecDepth 100000 in
noncomputable def mi_t116 : mi_T := [[(0, .iload_n 1, 1, 0), (1, .invokestatic 203, 4, 135), (4, .ifCond .eq 12, 7, 16), (7, .iload_n 2, 8, 0), (8, .iconst 0, 9, 0), (9, .iconst 2, 10, 0), (10, .invokestatic 148, 13, 134), (13, .ifCond .ne 5, 16, 18), (16, .iconst (-1), 17, 0), (17, .ireturn, 18, 0), (18, .aload_n 0, 19, 0), (19, .iconst 4, 20, 0), (20, .invokevirtual 193, 23, 141), (23, .aload_n 0, 24, 0), (24, .getfield 67, 27, 711), (27, .iload_n 1, 28, 0), (28, .iload_n 2, 29, 0), (29, .invokevirtual 233, 32, 20)],
  [(32, .ireturn, 33, 0)]]
-- TwoViews.piece(III)I
set_option maxRecDepth 100000 in
noncomputable def mi_t117 : mi_T := [[(0, .aload_n 0, 1, 0), (1, .getfield 12, 4, 704), (4, .iload_n 1, 5, 0), (5, .iload_n 2, 6, 0), (6, .iload_n 3, 7, 0), (7, .invokevirtual 126, 10, 87), (10, .ifCond .ne 5, 13, 15), (13, .iconst (-1), 14, 0), (14, .ireturn, 15, 0), (15, .aload_n 0, 16, 0), (16, .iconst 4, 17, 0), (17, .invokevirtual 193, 20, 141), (20, .aload_n 0, 21, 0), (21, .getfield 76, 24, 712), (24, .iload_n 1, 25, 0), (25, .iload_n 2, 26, 0), (26, .iload_n 3, 27, 0), (27, .invokestatic 130, 30, 136), (30, .iload_n 1, 31, 0), (31, .invokevirtual 236, 34, 56)],
  [(34, .ireturn, 35, 0)]]
-- TwoViews.pieces(II)I
set_option maxRecDepth 100000 in
noncomputable def mi_t118 : mi_T := [[(0, .iload_n 1, 1, 0), (1, .invokestatic 203, 4, 135), (4, .ifCond .eq 12, 7, 16), (7, .iload_n 2, 8, 0), (8, .ifCond .lt 8, 11, 16), (11, .iload_n 2, 12, 0), (12, .iconst 1, 13, 0), (13, .if_icmp .le 5, 16, 18), (16, .iconst (-1), 17, 0), (17, .ireturn, 18, 0), (18, .aload_n 0, 19, 0), (19, .iconst 4, 20, 0), (20, .invokevirtual 193, 23, 141), (23, .iload_n 2, 24, 0), (24, .ifCond .ne 14, 27, 38), (27, .aload_n 0, 28, 0), (28, .getfield 76, 31, 712), (31, .iload_n 1, 32, 0)],
  [(32, .invokevirtual 239, 35, 57), (35, .goto 11, 38, 46), (38, .aload_n 0, 39, 0), (39, .getfield 76, 42, 712), (42, .iload_n 1, 43, 0), (43, .invokevirtual 242, 46, 58), (46, .ireturn, 47, 0)]]
-- TwoViews.pieceAt(III)I
set_option maxRecDepth 100000 in
noncomputable def mi_t119 : mi_T := [[(0, .iload_n 1, 1, 0), (1, .invokestatic 203, 4, 135), (4, .ifCond .eq 17, 7, 21), (7, .iload_n 2, 8, 0), (8, .ifCond .lt 13, 11, 21), (11, .iload_n 3, 12, 0), (12, .iconst 0, 13, 0), (13, .bipush 7, 15, 0), (15, .invokestatic 148, 18, 134), (18, .ifCond .ne 5, 21, 23), (21, .iconst (-1), 22, 0), (22, .ireturn, 23, 0), (23, .aload_n 0, 24, 0), (24, .iconst 4, 25, 0), (25, .invokevirtual 193, 28, 141), (28, .aload_n 0, 29, 0), (29, .getfield 76, 32, 712)],
  [(32, .iload_n 1, 33, 0), (33, .iload_n 2, 34, 0), (34, .invokevirtual 245, 37, 59), (37, .istore 4, 39, 0), (39, .iload 4, 41, 0), (41, .iconst (-1), 42, 0), (42, .if_icmp .ne 7, 45, 49), (45, .iconst (-1), 46, 0), (46, .goto 14, 49, 60), (49, .aload_n 0, 50, 0), (50, .getfield 76, 53, 712), (53, .iload_n 1, 54, 0), (54, .iload 4, 56, 0), (56, .iload_n 3, 57, 0), (57, .invokevirtual 248, 60, 61), (60, .ireturn, 61, 0)]]
-- TwoViews.fine(II)I
set_option maxRecDepth 100000 in
noncomputable def mi_t120 : mi_T := [[(0, .aload_n 0, 1, 0), (1, .iconst 0, 2, 0), (2, .iload_n 1, 3, 0), (3, .iload_n 2, 4, 0), (4, .invokevirtual 189, 7, 138), (7, .aload_n 0, 8, 0), (8, .iconst 3, 9, 0), (9, .invokevirtual 193, 12, 141), (12, .aload_n 0, 13, 0), (13, .getfield 67, 16, 711), (16, .iload_n 1, 17, 0), (17, .iload_n 2, 18, 0), (18, .invokevirtual 251, 21, 16), (21, .ireturn, 22, 0)]]
-- TwoViews.ground(I)I
set_option maxRecDepth 100000 in
noncomputable def mi_t121 : mi_T := [[(0, .iload_n 1, 1, 0), (1, .iconst 0, 2, 0), (2, .iconst 2, 3, 0), (3, .invokestatic 148, 6, 134), (6, .ifCond .ne 5, 9, 11), (9, .iconst (-1), 10, 0), (10, .ireturn, 11, 0), (11, .aload_n 0, 12, 0), (12, .iconst 4, 13, 0), (13, .invokevirtual 193, 16, 141), (16, .aload_n 0, 17, 0), (17, .getfield 90, 20, 714), (20, .iload_n 1, 21, 0), (21, .invokevirtual 254, 24, 10), (24, .ireturn, 25, 0)]]
-- TwoViews.votes(II)I
set_option maxRecDepth 100000 in
noncomputable def mi_t122 : mi_T := [[(0, .iload_n 1, 1, 0), (1, .iconst 0, 2, 0), (2, .bipush 8, 4, 0), (4, .aload_n 0, 5, 0), (5, .getfield 12, 8, 704), (8, .getfield 145, 11, 578), (11, .iconst 0, 12, 0), (12, .iaload, 13, 0), (13, .imul, 14, 0), (14, .invokestatic 148, 17, 134), (17, .ifCond .eq 13, 20, 30), (20, .iload_n 2, 21, 0), (21, .iconst 0, 22, 0), (22, .bipush 8, 24, 0), (24, .invokestatic 148, 27, 134), (27, .ifCond .ne 5, 30, 32), (30, .iconst (-1), 31, 0), (31, .ireturn, 32, 0)],
  [(32, .aload_n 0, 33, 0), (33, .iconst 4, 34, 0), (34, .invokevirtual 193, 37, 141), (37, .aload_n 0, 38, 0), (38, .getfield 90, 41, 714), (41, .invokevirtual 257, 44, 8), (44, .pop, 45, 0), (45, .aload_n 0, 46, 0), (46, .getfield 90, 49, 714), (49, .iload_n 1, 50, 0), (50, .iload_n 2, 51, 0), (51, .invokevirtual 261, 54, 9), (54, .ireturn, 55, 0)]]
-- TwoViews.between(III)I
set_option maxRecDepth 100000 in
noncomputable def mi_t123 : mi_T := [[(0, .iload_n 1, 1, 0), (1, .iconst 0, 2, 0), (2, .iconst 4, 3, 0), (3, .invokestatic 148, 6, 134), (6, .ifCond .eq 16, 9, 22), (9, .aload_n 0, 10, 0), (10, .getfield 12, 13, 704), (13, .iconst 0, 14, 0), (14, .iload_n 2, 15, 0), (15, .iload_n 3, 16, 0), (16, .invokevirtual 126, 19, 87), (19, .ifCond .ne 5, 22, 24), (22, .iconst (-1), 23, 0), (23, .ireturn, 24, 0), (24, .aload_n 0, 25, 0), (25, .iconst 5, 26, 0), (26, .invokevirtual 193, 29, 141), (29, .aload_n 0, 30, 0), (30, .getfield 67, 33, 711)],
  [(33, .iload_n 1, 34, 0), (34, .iload_n 2, 35, 0), (35, .iload_n 3, 36, 0), (36, .invokevirtual 264, 39, 26), (39, .ireturn, 40, 0)]]
-- TwoViews.holes(I)I
set_option maxRecDepth 100000 in
noncomputable def mi_t124 : mi_T := [[(0, .iload_n 1, 1, 0), (1, .iconst 0, 2, 0), (2, .iconst 4, 3, 0), (3, .invokestatic 148, 6, 134), (6, .ifCond .ne 5, 9, 11), (9, .iconst (-1), 10, 0), (10, .ireturn, 11, 0), (11, .aload_n 0, 12, 0), (12, .iconst 5, 13, 0), (13, .invokevirtual 193, 16, 141), (16, .iconst 0, 17, 0), (17, .istore_n 2, 18, 0), (18, .iconst 0, 19, 0), (19, .istore_n 3, 20, 0), (20, .iload_n 3, 21, 0), (21, .aload_n 0, 22, 0), (22, .getfield 12, 25, 704), (25, .getfield 175, 28, 577), (28, .if_icmp .ge 54, 31, 82), (31, .iconst 0, 32, 0)],
  [(32, .istore 4, 34, 0), (34, .iload 4, 36, 0), (36, .aload_n 0, 37, 0), (37, .getfield 12, 40, 704), (40, .getfield 177, 43, 576), (43, .if_icmp .ge 33, 46, 76), (46, .iload_n 2, 47, 0), (47, .aload_n 0, 48, 0), (48, .getfield 67, 51, 711), (51, .iload_n 1, 52, 0), (52, .iload 4, 54, 0), (54, .iload_n 3, 55, 0), (55, .invokevirtual 264, 58, 26), (58, .bipush (-2), 60, 0), (60, .if_icmp .ne 7, 63, 67), (63, .iconst 1, 64, 0)],
  [(64, .goto 4, 67, 68), (67, .iconst 0, 68, 0), (68, .iadd, 69, 0), (69, .istore_n 2, 70, 0), (70, .iinc 4 1, 73, 0), (73, .goto (-39), 76, 34), (76, .iinc 3 1, 79, 0), (79, .goto (-59), 82, 20), (82, .iload_n 2, 83, 0), (83, .ireturn, 84, 0)]]
-- TwoViews.filled(III)I
set_option maxRecDepth 100000 in
noncomputable def mi_t125 : mi_T := [[(0, .aload_n 0, 1, 0), (1, .iload_n 1, 2, 0), (2, .iload_n 2, 3, 0), (3, .iload_n 3, 4, 0), (4, .invokevirtual 189, 7, 138), (7, .aload_n 0, 8, 0), (8, .iconst 5, 9, 0), (9, .invokevirtual 193, 12, 141), (12, .aload_n 0, 13, 0), (13, .getfield 67, 16, 711), (16, .getfield 267, 19, 194), (19, .iload_n 1, 20, 0), (20, .iload_n 2, 21, 0), (21, .iload_n 3, 22, 0), (22, .invokestatic 130, 25, 136), (25, .iaload, 26, 0), (26, .ireturn, 27, 0)]]
-- TwoViews.depth(II)I
set_option maxRecDepth 100000 in
noncomputable def mi_t126 : mi_T := [[(0, .aload_n 0, 1, 0), (1, .iconst 0, 2, 0), (2, .iload_n 1, 3, 0), (3, .iload_n 2, 4, 0), (4, .invokevirtual 189, 7, 138), (7, .aload_n 0, 8, 0), (8, .iconst 5, 9, 0), (9, .invokevirtual 193, 12, 141), (12, .aload_n 0, 13, 0), (13, .getfield 67, 16, 711), (16, .getfield 267, 19, 194), (19, .iconst 0, 20, 0), (20, .iload_n 1, 21, 0), (21, .iload_n 2, 22, 0), (22, .invokestatic 130, 25, 136), (25, .iaload, 26, 0), (26, .istore_n 3, 27, 0), (27, .iload_n 3, 28, 0), (28, .ifCond .gt 8, 31, 36), (31, .bipush (-2), 33, 0)],
  [(33, .goto 15, 36, 48), (36, .aload_n 0, 37, 0), (37, .getfield 12, 40, 704), (40, .getfield 145, 43, 578), (43, .bipush 7, 45, 0), (45, .iaload, 46, 0), (46, .iload_n 3, 47, 0), (47, .idiv, 48, 0), (48, .ireturn, 49, 0)]]
-- TwoViews.row(II)I
set_option maxRecDepth 100000 in
noncomputable def mi_t127 : mi_T := [[(0, .iload_n 2, 1, 0), (1, .iconst (-1), 2, 0), (2, .if_icmp .eq 20, 5, 22), (5, .iload_n 2, 6, 0), (6, .iconst 0, 7, 0), (7, .aload_n 0, 8, 0), (8, .getfield 12, 11, 704), (11, .getfield 177, 14, 576), (14, .iconst 1, 15, 0), (15, .isub, 16, 0), (16, .invokestatic 148, 19, 134), (19, .ifCond .eq 7, 22, 26), (22, .iconst 1, 23, 0), (23, .goto 4, 26, 27), (26, .iconst 0, 27, 0), (27, .istore_n 3, 28, 0), (28, .iload_n 3, 29, 0), (29, .ifCond .eq 20, 32, 49)],
  [(32, .iload_n 1, 33, 0), (33, .iconst 0, 34, 0), (34, .aload_n 0, 35, 0), (35, .getfield 12, 38, 704), (38, .getfield 175, 41, 577), (41, .iconst 1, 42, 0), (42, .isub, 43, 0), (43, .invokestatic 148, 46, 134), (46, .ifCond .ne 5, 49, 51), (49, .iconst (-1), 50, 0), (50, .ireturn, 51, 0), (51, .aload_n 0, 52, 0), (52, .iconst 1, 53, 0), (53, .invokevirtual 193, 56, 141), (56, .aload_n 0, 57, 0), (57, .getfield 83, 60, 713), (60, .iload_n 1, 61, 0), (61, .invokevirtual 270, 64, 80)],
  [(64, .istore 4, 66, 0), (66, .iload_n 2, 67, 0), (67, .iconst (-1), 68, 0), (68, .if_icmp .ne 8, 71, 76), (71, .iload 4, 73, 0), (73, .goto 12, 76, 85), (76, .aload_n 0, 77, 0), (77, .getfield 83, 80, 713), (80, .getfield 273, 83, 512), (83, .iload_n 2, 84, 0), (84, .iaload, 85, 0), (85, .ireturn, 86, 0)]]
-- TwoViews.energy(I)I
set_option maxRecDepth 100000 in
noncomputable def mi_t128 : mi_T := [[(0, .iload_n 1, 1, 0), (1, .iconst 0, 2, 0), (2, .iconst 2, 3, 0), (3, .invokestatic 148, 6, 134), (6, .ifCond .ne 5, 9, 11), (9, .iconst (-1), 10, 0), (10, .ireturn, 11, 0), (11, .iload_n 1, 12, 0), (12, .ifCond .ne 23, 15, 35), (15, .aload_n 0, 16, 0), (16, .iconst 5, 17, 0), (17, .invokevirtual 193, 20, 141), (20, .aload_n 0, 21, 0), (21, .getfield 67, 24, 711), (24, .aload_n 0, 25, 0), (25, .getfield 67, 28, 711), (28, .getfield 267, 31, 194), (31, .invokevirtual 276, 34, 29)],
  [(34, .ireturn, 35, 0), (35, .iload_n 1, 36, 0), (36, .iconst 1, 37, 0), (37, .if_icmp .ne 23, 40, 60), (40, .aload_n 0, 41, 0), (41, .iconst 3, 42, 0), (42, .invokevirtual 193, 45, 141), (45, .aload_n 0, 46, 0), (46, .getfield 67, 49, 711), (49, .aload_n 0, 50, 0), (50, .getfield 67, 53, 711), (53, .getfield 224, 56, 192), (56, .invokevirtual 276, 59, 29), (59, .ireturn, 60, 0), (60, .aload_n 0, 61, 0), (61, .iconst 1, 62, 0), (62, .invokevirtual 193, 65, 141)],
  [(65, .iconst 0, 66, 0), (66, .istore_n 2, 67, 0), (67, .iconst 0, 68, 0), (68, .istore_n 3, 69, 0), (69, .iload_n 3, 70, 0), (70, .aload_n 0, 71, 0), (71, .getfield 12, 74, 704), (74, .getfield 175, 77, 577), (77, .if_icmp .ge 20, 80, 97), (80, .iload_n 2, 81, 0), (81, .aload_n 0, 82, 0), (82, .getfield 83, 85, 713), (85, .iload_n 3, 86, 0), (86, .invokevirtual 270, 89, 80), (89, .iadd, 90, 0), (90, .istore_n 2, 91, 0), (91, .iinc 3 1, 94, 0), (94, .goto (-25), 97, 69)],
  [(97, .iload_n 2, 98, 0), (98, .ireturn, 99, 0)]]
-- TwoViews.wrong(II)I
set_option maxRecDepth 100000 in
noncomputable def mi_t129 : mi_T := [[(0, .iload_n 1, 1, 0), (1, .iconst 0, 2, 0), (2, .bipush 7, 4, 0), (4, .invokestatic 148, 7, 134), (7, .ifCond .eq 12, 10, 19), (10, .iload_n 2, 11, 0), (11, .iconst 0, 12, 0), (12, .iconst 2, 13, 0), (13, .invokestatic 148, 16, 134), (16, .ifCond .ne 5, 19, 21), (19, .iconst (-1), 20, 0), (20, .ireturn, 21, 0), (21, .aload_n 0, 22, 0), (22, .iconst 5, 23, 0), (23, .invokevirtual 193, 26, 141), (26, .iconst 0, 27, 0), (27, .istore_n 3, 28, 0), (28, .iconst 0, 29, 0), (29, .istore 4, 31, 0), (31, .iload 4, 33, 0)],
  [(33, .aload_n 0, 34, 0), (34, .getfield 12, 37, 704), (37, .getfield 175, 40, 577), (40, .if_icmp .ge 51, 43, 91), (43, .iconst 0, 44, 0), (44, .istore 5, 46, 0), (46, .iload 5, 48, 0), (48, .aload_n 0, 49, 0), (49, .getfield 12, 52, 704), (52, .getfield 177, 55, 576), (55, .if_icmp .ge 30, 58, 85), (58, .iload_n 3, 59, 0), (59, .aload_n 0, 60, 0), (60, .iload 5, 62, 0), (62, .iload 4, 64, 0)],
  [(64, .iload_n 1, 65, 0), (65, .iload_n 2, 66, 0), (66, .invokevirtual 280, 69, 142), (69, .ifCond .eq 7, 72, 76), (72, .iconst 1, 73, 0), (73, .goto 4, 76, 77), (76, .iconst 0, 77, 0), (77, .iadd, 78, 0), (78, .istore_n 3, 79, 0), (79, .iinc 5 1, 82, 0), (82, .goto (-36), 85, 46), (85, .iinc 4 1, 88, 0), (88, .goto (-57), 91, 31), (91, .iload_n 3, 92, 0), (92, .ireturn, 93, 0)]]
-- TwoViews.undo()I
set_option maxRecDepth 100000 in
noncomputable def mi_t130 : mi_T := [[(0, .aload_n 0, 1, 0), (1, .getfield 42, 4, 708), (4, .getfield 284, 7, 320), (7, .ifCond .ne 5, 10, 12), (10, .iconst (-1), 11, 0), (11, .ireturn, 12, 0), (12, .aload_n 0, 13, 0), (13, .getfield 42, 16, 708), (16, .aload_n 0, 17, 0), (17, .getfield 12, 20, 704), (20, .invokevirtual 285, 23, 47), (23, .aload_n 0, 24, 0), (24, .iconst 0, 25, 0), (25, .invokevirtual 288, 28, 140), (28, .aload_n 0, 29, 0), (29, .getfield 42, 32, 708)],
  [(32, .getfield 284, 35, 320), (35, .ireturn, 36, 0)]]
-- TwoViews.image(I)Z
set_option maxRecDepth 100000 in
noncomputable def mi_t131 : mi_T := [[(0, .iload_n 1, 1, 0), (1, .iconst 0, 2, 0), (2, .iconst 1, 3, 0), (3, .invokestatic 148, 6, 134), (6, .ifCond .ne 5, 9, 11), (9, .iconst 0, 10, 0), (10, .ireturn, 11, 1), (11, .aload_n 0, 12, 0), (12, .getfield 48, 15, 709), (15, .iload_n 1, 16, 0), (16, .aaload, 17, 0), (17, .getfield 291, 20, 1), (20, .aload_n 0, 21, 0), (21, .getfield 12, 24, 704), (24, .invokevirtual 119, 27, 84), (27, .aload_n 0, 28, 0), (28, .getfield 48, 31, 709), (31, .iload_n 1, 32, 0)],
  [(32, .aaload, 33, 0), (33, .getfield 292, 36, 2), (36, .aload_n 0, 37, 0), (37, .getfield 19, 40, 705), (40, .invokevirtual 293, 43, 2), (43, .aload_n 0, 44, 0), (44, .getfield 48, 47, 709), (47, .iload_n 1, 48, 0), (48, .aaload, 49, 0), (49, .iconst 1, 50, 0), (50, .putfield 296, 53, 0), (53, .iconst 1, 54, 0), (54, .ireturn, 55, 1)]]
-- TwoViews.back(I)Z
set_option maxRecDepth 100000 in
noncomputable def mi_t132 : mi_T := [[(0, .iload_n 1, 1, 0), (1, .iconst 0, 2, 0), (2, .iconst 1, 3, 0), (3, .invokestatic 148, 6, 134), (6, .ifCond .eq 15, 9, 21), (9, .aload_n 0, 10, 0), (10, .getfield 48, 13, 709), (13, .iload_n 1, 14, 0), (14, .aaload, 15, 0), (15, .getfield 296, 18, 0), (18, .ifCond .ne 5, 21, 23), (21, .iconst 0, 22, 0), (22, .ireturn, 23, 1), (23, .aload_n 0, 24, 0), (24, .getfield 12, 27, 704), (27, .aload_n 0, 28, 0), (28, .getfield 48, 31, 709), (31, .iload_n 1, 32, 0)],
  [(32, .aaload, 33, 0), (33, .getfield 291, 36, 1), (36, .invokevirtual 119, 39, 84), (39, .aload_n 0, 40, 0), (40, .getfield 19, 43, 705), (43, .aload_n 0, 44, 0), (44, .getfield 48, 47, 709), (47, .iload_n 1, 48, 0), (48, .aaload, 49, 0), (49, .getfield 292, 52, 2), (52, .invokevirtual 293, 55, 2), (55, .aload_n 0, 56, 0), (56, .getfield 42, 59, 708), (59, .iconst 0, 60, 0), (60, .putfield 284, 63, 320), (63, .aload_n 0, 64, 0)],
  [(64, .iconst 0, 65, 0), (65, .invokevirtual 288, 68, 140), (68, .iconst 1, 69, 0), (69, .ireturn, 70, 1)]]
-- TwoViews.count(I)I
set_option maxRecDepth 100000 in
noncomputable def mi_t133 : mi_T := [[(0, .iload_n 1, 1, 0), (1, .tableswitch 107 0 12 #[67, 75, 107, 107, 107, 107, 107, 107, 107, 107, 83, 91, 99], 68, 0)],
  [],
  [(68, .aload_n 0, 69, 0), (69, .getfield 12, 72, 704), (72, .getfield 177, 75, 576), (75, .ireturn, 76, 0), (76, .aload_n 0, 77, 0), (77, .getfield 12, 80, 704), (80, .getfield 175, 83, 577), (83, .ireturn, 84, 0), (84, .aload_n 0, 85, 0), (85, .getfield 19, 88, 705), (88, .getfield 154, 91, 64), (91, .ireturn, 92, 0), (92, .aload_n 0, 93, 0), (93, .getfield 42, 96, 708)],
  [(96, .getfield 284, 99, 320), (99, .ireturn, 100, 0), (100, .aload_n 0, 101, 0), (101, .getfield 26, 104, 706), (104, .getfield 106, 107, 640), (107, .ireturn, 108, 0), (108, .iload_n 1, 109, 0), (109, .iconst 2, 110, 0), (110, .bipush 9, 112, 0), (112, .invokestatic 148, 115, 134), (115, .ifCond .eq 17, 118, 132), (118, .aload_n 0, 119, 0), (119, .getfield 12, 122, 704), (122, .getfield 145, 125, 578), (125, .iload_n 1, 126, 0), (126, .iconst 2, 127, 0), (127, .isub, 128, 0)],
  [(128, .iaload, 129, 0), (129, .goto 4, 132, 133), (132, .iconst (-1), 133, 0), (133, .ireturn, 134, 0)]]
-- TwoViews.isWithin(III)Z
set_option maxRecDepth 100000 in
noncomputable def mi_t134 : mi_T := [[(0, .iload_n 0, 1, 0), (1, .iload_n 1, 2, 0), (2, .if_icmp .lt 12, 5, 14), (5, .iload_n 0, 6, 0), (6, .iload_n 2, 7, 0), (7, .if_icmp .gt 7, 10, 14), (10, .iconst 1, 11, 0), (11, .goto 4, 14, 15), (14, .iconst 0, 15, 0), (15, .ireturn, 16, 1)]]
-- TwoViews.isView(I)Z
set_option maxRecDepth 100000 in
noncomputable def mi_t135 : mi_T := [[(0, .iload_n 0, 1, 0), (1, .ifCond .eq 8, 4, 9), (4, .iload_n 0, 5, 0), (5, .iconst 1, 6, 0), (6, .if_icmp .ne 7, 9, 13), (9, .iconst 1, 10, 0), (10, .goto 4, 13, 14), (13, .iconst 0, 14, 0), (14, .ireturn, 15, 1)]]
-- TwoViews.spotOf(III)I
set_option maxRecDepth 100000 in
noncomputable def mi_t136 : mi_T := [[(0, .iload_n 0, 1, 0), (1, .sipush 192, 4, 0), (4, .imul, 5, 0), (5, .iload_n 2, 6, 0), (6, .iconst 4, 7, 0), (7, .ishl, 8, 0), (8, .iadd, 9, 0), (9, .iload_n 1, 10, 0), (10, .iadd, 11, 0), (11, .ireturn, 12, 0)]]
-- TwoViews.cellOf(III)I
set_option maxRecDepth 100000 in
noncomputable def mi_t137 : mi_T := [[(0, .iconst 0, 1, 0), (1, .iload_n 0, 2, 0), (2, .iload_n 1, 3, 0), (3, .invokestatic 130, 6, 136), (6, .iconst 3, 7, 0), (7, .ishl, 8, 0), (8, .iload_n 2, 9, 0), (9, .iadd, 10, 0), (10, .ireturn, 11, 0)]]
-- TwoViews.needPlace(III)V
set_option maxRecDepth 100000 in
noncomputable def mi_t138 : mi_T := [[(0, .aload_n 0, 1, 0), (1, .getfield 12, 4, 704), (4, .iload_n 1, 5, 0), (5, .iload_n 2, 6, 0), (6, .iload_n 3, 7, 0), (7, .invokevirtual 126, 10, 87), (10, .ifCond .ne 14, 13, 24), (13, .new 300, 16, 9995), (24, .return_, 25, 0)]]
-- TwoViews.beginAct(I)V
set_option maxRecDepth 100000 in
noncomputable def mi_t139 : mi_T := [[(0, .aload_n 0, 1, 0), (1, .getfield 42, 4, 708), (4, .aload_n 0, 5, 0), (5, .getfield 12, 8, 704), (8, .invokevirtual 307, 11, 46), (11, .aload_n 0, 12, 0), (12, .iload_n 1, 13, 0), (13, .invokevirtual 288, 16, 140), (16, .return_, 17, 0)]]
-- TwoViews.keepUpTo(I)V
set_option maxRecDepth 100000 in
noncomputable def mi_t140 : mi_T := [[(0, .aload_n 0, 1, 0), (1, .getfield 94, 4, 715), (4, .iload_n 1, 5, 0), (5, .if_icmp .le 8, 8, 13), (8, .aload_n 0, 9, 0), (9, .iload_n 1, 10, 0), (10, .putfield 94, 13, 715), (13, .iload_n 1, 14, 0), (14, .iconst 1, 15, 0), (15, .if_icmp .gt 10, 18, 25), (18, .aload_n 0, 19, 0), (19, .getfield 58, 22, 710), (22, .invokevirtual 310, 25, 39), (25, .return_, 26, 0)]]
-- TwoViews.reach(I)V
set_option maxRecDepth 100000 in
noncomputable def mi_t141 : mi_T := [[(0, .aload_n 0, 1, 0), (1, .getfield 94, 4, 715), (4, .iconst 1, 5, 0), (5, .if_icmp .ge 22, 8, 27), (8, .iload_n 1, 9, 0), (9, .iconst 1, 10, 0), (10, .if_icmp .lt 17, 13, 27), (13, .aload_n 0, 14, 0), (14, .getfield 58, 17, 710), (17, .invokevirtual 313, 20, 31), (20, .aload_n 0, 21, 0), (21, .getfield 58, 24, 710), (24, .invokevirtual 316, 27, 34), (27, .aload_n 0, 28, 0), (28, .getfield 94, 31, 715), (31, .iconst 2, 32, 0)],
  [(32, .if_icmp .ge 15, 35, 47), (35, .iload_n 1, 36, 0), (36, .iconst 2, 37, 0), (37, .if_icmp .lt 10, 40, 47), (40, .aload_n 0, 41, 0), (41, .getfield 58, 44, 710), (44, .invokevirtual 319, 47, 40), (47, .aload_n 0, 48, 0), (48, .getfield 94, 51, 715), (51, .iconst 3, 52, 0), (52, .if_icmp .ge 15, 55, 67), (55, .iload_n 1, 56, 0), (56, .iconst 3, 57, 0), (57, .if_icmp .lt 10, 60, 67), (60, .aload_n 0, 61, 0), (61, .getfield 67, 64, 711)],
  [(64, .invokevirtual 322, 67, 12), (67, .aload_n 0, 68, 0), (68, .getfield 94, 71, 715), (71, .iconst 4, 72, 0), (72, .if_icmp .ge 31, 75, 103), (75, .iload_n 1, 76, 0), (76, .iconst 4, 77, 0), (77, .if_icmp .lt 26, 80, 103), (80, .aload_n 0, 81, 0), (81, .getfield 67, 84, 711), (84, .invokevirtual 325, 87, 17), (87, .aload_n 0, 88, 0), (88, .getfield 76, 91, 712), (91, .iconst 0, 92, 0), (92, .invokevirtual 328, 95, 49), (95, .aload_n 0, 96, 0)],
  [(96, .getfield 76, 99, 712), (99, .iconst 1, 100, 0), (100, .invokevirtual 328, 103, 49), (103, .aload_n 0, 104, 0), (104, .getfield 94, 107, 715), (107, .iconst 5, 108, 0), (108, .if_icmp .ge 15, 111, 123), (111, .iload_n 1, 112, 0), (112, .iconst 5, 113, 0), (113, .if_icmp .lt 10, 116, 123), (116, .aload_n 0, 117, 0), (117, .getfield 67, 120, 711), (120, .invokevirtual 331, 123, 21), (123, .aload_n 0, 124, 0), (124, .getfield 94, 127, 715), (127, .iload_n 1, 128, 0)],
  [(128, .if_icmp .ge 8, 131, 136), (131, .aload_n 0, 132, 0), (132, .iload_n 1, 133, 0), (133, .putfield 94, 136, 715), (136, .return_, 137, 0)]]
-- TwoViews.isWrong(IIII)Z
set_option maxRecDepth 100000 in
noncomputable def mi_t142 : mi_T := [[(0, .aload_n 0, 1, 0), (1, .getfield 19, 4, 705), (4, .iconst 0, 5, 0), (5, .iload_n 1, 6, 0), (6, .iload_n 2, 7, 0), (7, .invokevirtual 179, 10, 4), (10, .istore 5, 12, 0), (12, .iload 5, 14, 0), (14, .iconst (-1), 15, 0), (15, .if_icmp .ne 5, 18, 20), (18, .iconst 0, 19, 0), (19, .ireturn, 20, 1), (20, .aload_n 0, 21, 0), (21, .getfield 67, 24, 711), (24, .getfield 267, 27, 194), (27, .iconst 0, 28, 0), (28, .iload_n 1, 29, 0), (29, .iload_n 2, 30, 0), (30, .invokestatic 130, 33, 136)],
  [(33, .iaload, 34, 0), (34, .aload_n 0, 35, 0), (35, .getfield 19, 38, 705), (38, .getfield 169, 41, 69), (41, .iload 5, 43, 0), (43, .iaload, 44, 0), (44, .isub, 45, 0), (45, .invokestatic 334, 48, 258), (48, .istore 6, 50, 0), (50, .iload 6, 52, 0), (52, .iload_n 3, 53, 0), (53, .if_icmp .gt 5, 56, 58), (56, .iconst 0, 57, 0), (57, .ireturn, 58, 1), (58, .iload 4, 60, 0), (60, .ifCond .eq 28, 63, 88), (63, .aload_n 0, 64, 0)],
  [(64, .getfield 19, 67, 705), (67, .iload 5, 69, 0), (69, .iload_n 1, 70, 0), (70, .iload_n 2, 71, 0), (71, .invokevirtual 186, 74, 6), (74, .iload 4, 76, 0), (76, .iconst 1, 77, 0), (77, .if_icmp .ne 7, 80, 84), (80, .iconst 1, 81, 0), (81, .goto 4, 84, 85), (84, .iconst 0, 85, 0), (85, .if_icmp .ne 7, 88, 92), (88, .iconst 1, 89, 0), (89, .goto 4, 92, 93), (92, .iconst 0, 93, 0), (93, .ireturn, 94, 1)]]
-- TwoViewsModel.thrown()I
set_option maxRecDepth 100000 in
noncomputable def mi_t143 : mi_T := [[(0, .aload_n 0, 1, 0), (1, .getfield 1, 4, 768), (4, .ireturn, 5, 0)]]
-- TwoViewsModel.within(III)Z
set_option maxRecDepth 100000 in
noncomputable def mi_t144 : mi_T := [[(0, .iload_n 0, 1, 0), (1, .iload_n 1, 2, 0), (2, .if_icmp .lt 12, 5, 14), (5, .iload_n 0, 6, 0), (6, .iload_n 2, 7, 0), (7, .if_icmp .gt 7, 10, 14), (10, .iconst 1, 11, 0), (11, .goto 4, 14, 15), (14, .iconst 0, 15, 0), (15, .ireturn, 16, 1)]]
-- TwoViewsModel.<init>()V
set_option maxRecDepth 100000 in
noncomputable def mi_t145 : mi_T := [[(0, .aload_n 0, 1, 0), (1, .invokespecial 7, 4, 9999), (4, .aload_n 0, 5, 0), (5, .sipush 394, 8, 0), (8, .newarray .int, 10, 0), (10, .putfield 13, 13, 769), (13, .aload_n 0, 14, 0), (14, .sipush 3152, 17, 0), (17, .newarray .int, 19, 0), (19, .putfield 17, 22, 770), (22, .aload_n 0, 23, 0), (23, .bipush 36, 25, 0), (25, .newarray .int, 27, 0), (27, .putfield 20, 30, 772), (30, .aload_n 0, 31, 0), (31, .sipush 700, 34, 0)],
  [(34, .newarray .byte, 36, 0), (36, .putfield 23, 39, 774), (39, .aload_n 0, 40, 0), (40, .sipush 394, 43, 0), (43, .newarray .int, 45, 0), (45, .putfield 27, 48, 781), (48, .aload_n 0, 49, 0), (49, .sipush 384, 52, 0), (52, .newarray .int, 54, 0), (54, .putfield 30, 57, 783), (57, .aload_n 0, 58, 0), (58, .sipush 1536, 61, 0), (61, .newarray .int, 63, 0), (63, .putfield 33, 66, 784)],
  [(66, .aload_n 0, 67, 0), (67, .sipush 1536, 70, 0), (70, .newarray .int, 72, 0), (72, .putfield 36, 75, 785), (75, .aload_n 0, 76, 0), (76, .sipush 384, 79, 0), (79, .newarray .int, 81, 0), (81, .putfield 39, 84, 786), (84, .aload_n 0, 85, 0), (85, .sipush 384, 88, 0), (88, .newarray .int, 90, 0), (90, .putfield 42, 93, 787), (93, .aload_n 0, 94, 0), (94, .sipush 384, 97, 0)],
  [(97, .newarray .int, 99, 0), (99, .putfield 45, 102, 788), (102, .aload_n 0, 103, 0), (103, .sipush 384, 106, 0), (106, .newarray .int, 108, 0), (108, .putfield 48, 111, 789), (111, .aload_n 0, 112, 0), (112, .sipush 384, 115, 0), (115, .newarray .int, 117, 0), (117, .putfield 51, 120, 790), (120, .aload_n 0, 121, 0), (121, .sipush 128, 124, 0), (124, .newarray .int, 126, 0), (126, .putfield 54, 129, 791)],
  [(129, .aload_n 0, 130, 0), (130, .bipush 16, 132, 0), (132, .newarray .int, 134, 0), (134, .putfield 57, 137, 792), (137, .aload_n 0, 138, 0), (138, .sipush 862, 141, 0), (141, .newarray .int, 143, 0), (143, .putfield 60, 146, 793), (146, .aload_n 0, 147, 0), (147, .getfield 13, 150, 769), (150, .bipush 8, 152, 0), (152, .iconst 1, 153, 0), (153, .iastore, 154, 0), (154, .aload_n 0, 155, 0), (155, .getfield 13, 158, 769), (158, .bipush 9, 160, 0)],
  [(160, .bipush 100, 162, 0), (162, .iastore, 163, 0), (163, .aload_n 0, 164, 0), (164, .bipush 8, 166, 0), (166, .bipush 6, 168, 0), (168, .invokevirtual 63, 171, 146), (171, .return_, 172, 0)]]
-- TwoViewsModel.begins(II)V
set_option maxRecDepth 100000 in
noncomputable def mi_t146 : mi_T := [[(0, .aload_n 0, 1, 0), (1, .getfield 13, 4, 769), (4, .iconst 0, 5, 0), (5, .iload_n 1, 6, 0), (6, .iastore, 7, 0), (7, .aload_n 0, 8, 0), (8, .getfield 13, 11, 769), (11, .iconst 1, 12, 0), (12, .iload_n 2, 13, 0), (13, .iastore, 14, 0), (14, .aload_n 0, 15, 0), (15, .getfield 13, 18, 769), (18, .iconst 2, 19, 0), (19, .iconst 3, 20, 0), (20, .iastore, 21, 0), (21, .aload_n 0, 22, 0), (22, .getfield 13, 25, 769), (25, .iconst 3, 26, 0), (26, .iconst 1, 27, 0), (27, .iastore, 28, 0), (28, .aload_n 0, 29, 0), (29, .getfield 13, 32, 769)],
  [(32, .iconst 4, 33, 0), (33, .iconst 2, 34, 0), (34, .iastore, 35, 0), (35, .aload_n 0, 36, 0), (36, .getfield 13, 39, 769), (39, .iconst 5, 40, 0), (40, .bipush 6, 42, 0), (42, .iastore, 43, 0), (43, .aload_n 0, 44, 0), (44, .getfield 13, 47, 769), (47, .bipush 6, 49, 0), (49, .sipush 255, 52, 0), (52, .iastore, 53, 0), (53, .aload_n 0, 54, 0), (54, .getfield 13, 57, 769), (57, .bipush 7, 59, 0), (59, .iconst 1, 60, 0), (60, .iastore, 61, 0), (61, .aload_n 0, 62, 0), (62, .invokevirtual 67, 65, 147)],
  [(65, .return_, 66, 0)]]
-- TwoViewsModel.empties()V
set_option maxRecDepth 100000 in
noncomputable def mi_t147 : mi_T := [[(0, .bipush 10, 2, 0), (2, .istore_n 1, 3, 0), (3, .iload_n 1, 4, 0), (4, .sipush 394, 7, 0), (7, .if_icmp .ge 16, 10, 23), (10, .aload_n 0, 11, 0), (11, .getfield 13, 14, 769), (14, .iload_n 1, 15, 0), (15, .iconst 0, 16, 0), (16, .iastore, 17, 0), (17, .iinc 1 1, 20, 0), (20, .goto (-17), 23, 3), (23, .return_, 24, 0)]]
-- TwoViewsModel.keeps()V
set_option maxRecDepth 100000 in
noncomputable def mi_t148 : mi_T := [[(0, .aload_n 0, 1, 0), (1, .getfield 70, 4, 771), (4, .bipush 8, 6, 0), (6, .if_icmp .ne 44, 9, 50), (9, .iconst 0, 10, 0), (10, .istore_n 1, 11, 0), (11, .iload_n 1, 12, 0), (12, .sipush 2758, 15, 0), (15, .if_icmp .ge 25, 18, 40), (18, .aload_n 0, 19, 0), (19, .getfield 17, 22, 770), (22, .iload_n 1, 23, 0), (23, .aload_n 0, 24, 0), (24, .getfield 17, 27, 770), (27, .iload_n 1, 28, 0), (28, .sipush 394, 31, 0), (31, .iadd, 32, 0)],
  [(32, .iaload, 33, 0), (33, .iastore, 34, 0), (34, .iinc 1 1, 37, 0), (37, .goto (-26), 40, 11), (40, .aload_n 0, 41, 0), (41, .dup, 42, 0), (42, .getfield 70, 45, 771), (45, .iconst 1, 46, 0), (46, .isub, 47, 0), (47, .putfield 70, 50, 771), (50, .iconst 0, 51, 0), (51, .istore_n 1, 52, 0), (52, .iload_n 1, 53, 0), (53, .sipush 394, 56, 0), (56, .if_icmp .ge 30, 59, 86), (59, .aload_n 0, 60, 0), (60, .getfield 17, 63, 770), (63, .sipush 394, 66, 0)],
  [(66, .aload_n 0, 67, 0), (67, .getfield 70, 70, 771), (70, .imul, 71, 0), (71, .iload_n 1, 72, 0), (72, .iadd, 73, 0), (73, .aload_n 0, 74, 0), (74, .getfield 13, 77, 769), (77, .iload_n 1, 78, 0), (78, .iaload, 79, 0), (79, .iastore, 80, 0), (80, .iinc 1 1, 83, 0), (83, .goto (-31), 86, 52), (86, .aload_n 0, 87, 0), (87, .dup, 88, 0), (88, .getfield 70, 91, 771), (91, .iconst 1, 92, 0), (92, .iadd, 93, 0), (93, .putfield 70, 96, 771)],
  [(96, .return_, 97, 0)]]
-- TwoViewsModel.undo()I
set_option maxRecDepth 100000 in
noncomputable def mi_t149 : mi_T := [[(0, .aload_n 0, 1, 0), (1, .iconst 0, 2, 0), (2, .putfield 1, 5, 768), (5, .aload_n 0, 6, 0), (6, .getfield 70, 9, 771), (9, .ifCond .ne 5, 12, 14), (12, .iconst (-1), 13, 0), (13, .ireturn, 14, 0), (14, .aload_n 0, 15, 0), (15, .dup, 16, 0), (16, .getfield 70, 19, 771), (19, .iconst 1, 20, 0), (20, .isub, 21, 0), (21, .putfield 70, 24, 771), (24, .iconst 0, 25, 0), (25, .istore_n 1, 26, 0), (26, .iload_n 1, 27, 0), (27, .sipush 394, 30, 0), (30, .if_icmp .ge 30, 33, 60)],
  [(33, .aload_n 0, 34, 0), (34, .getfield 13, 37, 769), (37, .iload_n 1, 38, 0), (38, .aload_n 0, 39, 0), (39, .getfield 17, 42, 770), (42, .sipush 394, 45, 0), (45, .aload_n 0, 46, 0), (46, .getfield 70, 49, 771), (49, .imul, 50, 0), (50, .iload_n 1, 51, 0), (51, .iadd, 52, 0), (52, .iaload, 53, 0), (53, .iastore, 54, 0), (54, .iinc 1 1, 57, 0), (57, .goto (-31), 60, 26), (60, .aload_n 0, 61, 0), (61, .getfield 70, 64, 771)],
  [(64, .ireturn, 65, 0)]]
-- TwoViewsModel.isPlace(II)Z
set_option maxRecDepth 100000 in
noncomputable def mi_t150 : mi_T := [[(0, .iload_n 1, 1, 0), (1, .iconst 0, 2, 0), (2, .aload_n 0, 3, 0), (3, .getfield 13, 6, 769), (6, .iconst 0, 7, 0), (7, .iaload, 8, 0), (8, .iconst 1, 9, 0), (9, .isub, 10, 0), (10, .invokestatic 73, 13, 144), (13, .ifCond .eq 23, 16, 36), (16, .iload_n 2, 17, 0), (17, .iconst 0, 18, 0), (18, .aload_n 0, 19, 0), (19, .getfield 13, 22, 769), (22, .iconst 1, 23, 0), (23, .iaload, 24, 0), (24, .iconst 1, 25, 0), (25, .isub, 26, 0), (26, .invokestatic 73, 29, 144), (29, .ifCond .eq 7, 32, 36)],
  [(32, .iconst 1, 33, 0), (33, .goto 4, 36, 37), (36, .iconst 0, 37, 0), (37, .ireturn, 38, 1)]]
-- TwoViewsModel.isAt(III)Z
set_option maxRecDepth 100000 in
noncomputable def mi_t151 : mi_T := [[(0, .iload_n 1, 1, 0), (1, .iconst 0, 2, 0), (2, .iconst 1, 3, 0), (3, .invokestatic 73, 6, 144), (6, .ifCond .eq 16, 9, 22), (9, .aload_n 0, 10, 0), (10, .iload_n 2, 11, 0), (11, .iload_n 3, 12, 0), (12, .invokevirtual 77, 15, 150), (15, .ifCond .eq 7, 18, 22), (18, .iconst 1, 19, 0), (19, .goto 4, 22, 23), (22, .iconst 0, 23, 0), (23, .ireturn, 24, 1)]]
-- TwoViewsModel.cell(III)I
set_option maxRecDepth 100000 in
noncomputable def mi_t152 : mi_T := [[(0, .bipush 10, 2, 0), (2, .sipush 192, 5, 0), (5, .iload_n 0, 6, 0), (6, .imul, 7, 0), (7, .iadd, 8, 0), (8, .bipush 16, 10, 0), (10, .iload_n 2, 11, 0), (11, .imul, 12, 0), (12, .iadd, 13, 0), (13, .iload_n 1, 14, 0), (14, .iadd, 15, 0), (15, .ireturn, 16, 0)]]
-- TwoViewsModel.valueAt(III)I
set_option maxRecDepth 100000 in
noncomputable def mi_t153 : mi_T := [[(0, .aload_n 0, 1, 0), (1, .getfield 13, 4, 769), (4, .iload_n 1, 5, 0), (5, .iload_n 2, 6, 0), (6, .iload_n 3, 7, 0), (7, .invokestatic 81, 10, 152), (10, .iaload, 11, 0), (11, .ireturn, 12, 0)]]
-- TwoViewsModel.feed(IIIII)I
set_option maxRecDepth 100000 in
noncomputable def mi_t154 : mi_T := [[(0, .aload_n 0, 1, 0), (1, .iconst 0, 2, 0), (2, .putfield 1, 5, 768), (5, .aload_n 0, 6, 0), (6, .getfield 85, 9, 775), (9, .bipush 20, 11, 0), (11, .iadd, 12, 0), (12, .sipush 700, 15, 0), (15, .if_icmp .le 5, 18, 20), (18, .iconst (-1), 19, 0), (19, .ireturn, 20, 0), (20, .aload_n 0, 21, 0), (21, .iload_n 1, 22, 0), (22, .invokevirtual 88, 25, 155), (25, .aload_n 0, 26, 0), (26, .iload_n 2, 27, 0), (27, .invokevirtual 88, 30, 155), (30, .aload_n 0, 31, 0), (31, .iload_n 3, 32, 0)],
  [(32, .invokevirtual 88, 35, 155), (35, .aload_n 0, 36, 0), (36, .iload 4, 38, 0), (38, .invokevirtual 88, 41, 155), (41, .aload_n 0, 42, 0), (42, .iload 5, 44, 0), (44, .invokevirtual 88, 47, 155), (47, .aload_n 0, 48, 0), (48, .getfield 85, 51, 775), (51, .ireturn, 52, 0)]]
-- TwoViewsModel.puts(I)V
set_option maxRecDepth 100000 in
noncomputable def mi_t155 : mi_T := [[(0, .bipush 24, 2, 0), (2, .istore_n 2, 3, 0), (3, .iload_n 2, 4, 0), (4, .ifCond .lt 32, 7, 36), (7, .aload_n 0, 8, 0), (8, .getfield 23, 11, 774), (11, .aload_n 0, 12, 0), (12, .getfield 85, 15, 775), (15, .iload_n 1, 16, 0), (16, .iload_n 2, 17, 0), (17, .ishr, 18, 0), (18, .i2b, 19, 0), (19, .bastore, 20, 0), (20, .aload_n 0, 21, 0), (21, .dup, 22, 0), (22, .getfield 85, 25, 775), (25, .iconst 1, 26, 0), (26, .iadd, 27, 0), (27, .putfield 85, 30, 775), (30, .iinc 2 (-8), 33, 0)],
  [(33, .goto (-30), 36, 3), (36, .return_, 37, 0)]]
-- TwoViewsModel.byteAt(I)I
set_option maxRecDepth 100000 in
noncomputable def mi_t156 : mi_T := [[(0, .iload_n 1, 1, 0), (1, .aload_n 0, 2, 0), (2, .getfield 92, 5, 776), (5, .if_icmp .ge 16, 8, 21), (8, .aload_n 0, 9, 0), (9, .getfield 23, 12, 774), (12, .iload_n 1, 13, 0), (13, .baload, 14, 0), (14, .sipush 255, 17, 0), (17, .iand, 18, 0), (18, .goto 4, 21, 22), (21, .iconst (-1), 22, 0), (22, .ireturn, 23, 0)]]
-- TwoViewsModel.isRun(I)Z
set_option maxRecDepth 100000 in
noncomputable def mi_t157 : mi_T := [[(0, .iload_n 0, 1, 0), (1, .bipush 97, 3, 0), (3, .bipush 122, 5, 0), (5, .invokestatic 73, 8, 144), (8, .ifCond .ne 14, 11, 22), (11, .iload_n 0, 12, 0), (12, .bipush 48, 14, 0), (14, .bipush 57, 16, 0), (16, .invokestatic 73, 19, 144), (19, .ifCond .eq 7, 22, 26), (22, .iconst 1, 23, 0), (23, .goto 4, 26, 27), (26, .iconst 0, 27, 0), (27, .ireturn, 28, 1)]]
-- TwoViewsModel.go()V
set_option maxRecDepth 100000 in
noncomputable def mi_t158 : mi_T := [[(0, .aload_n 0, 1, 0), (1, .aload_n 0, 2, 0), (2, .getfield 95, 5, 778), (5, .invokevirtual 98, 8, 156), (8, .bipush 32, 10, 0), (10, .if_icmp .eq 16, 13, 26), (13, .aload_n 0, 14, 0), (14, .aload_n 0, 15, 0), (15, .getfield 95, 18, 778), (18, .invokevirtual 98, 21, 156), (21, .bipush 10, 23, 0), (23, .if_icmp .ne 16, 26, 39), (26, .aload_n 0, 27, 0), (27, .dup, 28, 0), (28, .getfield 95, 31, 778), (31, .iconst 1, 32, 0)],
  [(32, .iadd, 33, 0), (33, .putfield 95, 36, 778), (36, .goto (-36), 39, 0), (39, .aload_n 0, 40, 0), (40, .aload_n 0, 41, 0), (41, .getfield 95, 44, 778), (44, .putfield 102, 47, 777), (47, .aload_n 0, 48, 0), (48, .aload_n 0, 49, 0), (49, .getfield 95, 52, 778), (52, .invokevirtual 98, 55, 156), (55, .istore_n 1, 56, 0), (56, .iload_n 1, 57, 0), (57, .ifCond .ge 11, 60, 68), (60, .aload_n 0, 61, 0), (61, .iconst 0, 62, 0), (62, .putfield 105, 65, 779)],
  [(65, .goto 70, 68, 135), (68, .iload_n 1, 69, 0), (69, .invokestatic 108, 72, 157), (72, .ifCond .eq 38, 75, 110), (75, .aload_n 0, 76, 0), (76, .aload_n 0, 77, 0), (77, .getfield 95, 80, 778), (80, .invokevirtual 98, 83, 156), (83, .invokestatic 108, 86, 157), (86, .ifCond .eq 16, 89, 102), (89, .aload_n 0, 90, 0), (90, .dup, 91, 0), (91, .getfield 95, 94, 778), (94, .iconst 1, 95, 0), (95, .iadd, 96, 0)],
  [(96, .putfield 95, 99, 778), (99, .goto (-24), 102, 75), (102, .aload_n 0, 103, 0), (103, .iconst 1, 104, 0), (104, .putfield 105, 107, 779), (107, .goto 28, 110, 135), (110, .aload_n 0, 111, 0), (111, .dup, 112, 0), (112, .getfield 95, 115, 778), (115, .iconst 1, 116, 0), (116, .iadd, 117, 0), (117, .putfield 95, 120, 778), (120, .aload_n 0, 121, 0), (121, .iload_n 1, 122, 0), (122, .bipush 59, 124, 0), (124, .if_icmp .ne 7, 127, 131), (127, .iconst 2, 128, 0)],
  [(128, .goto 4, 131, 132), (131, .iconst 3, 132, 0), (132, .putfield 105, 135, 779), (135, .return_, 136, 0)]]
-- TwoViewsModel.bad(II)Z
set_option maxRecDepth 100000 in
noncomputable def mi_t159 : mi_T := [[(0, .aload_n 0, 1, 0), (1, .aload_n 0, 2, 0), (2, .getfield 112, 5, 780), (5, .ifCond .ne 12, 8, 17), (8, .bipush 8, 10, 0), (10, .iload_n 2, 11, 0), (11, .imul, 12, 0), (12, .iload_n 1, 13, 0), (13, .iadd, 14, 0), (14, .goto 7, 17, 21), (17, .aload_n 0, 18, 0), (18, .getfield 112, 21, 780), (21, .putfield 112, 24, 780), (24, .iconst 0, 25, 0), (25, .ireturn, 26, 1)]]
-- TwoViewsModel.isWord(IIIIIII)Z
set_option maxRecDepth 100000 in
noncomputable def mi_t160 : mi_T := [[(0, .bipush 7, 2, 0), (2, .newarray .int, 4, 0), (4, .dup, 5, 0), (5, .iconst 0, 6, 0), (6, .iload_n 1, 7, 0), (7, .iastore, 8, 0), (8, .dup, 9, 0), (9, .iconst 1, 10, 0), (10, .iload_n 2, 11, 0), (11, .iastore, 12, 0), (12, .dup, 13, 0), (13, .iconst 2, 14, 0), (14, .iload_n 3, 15, 0), (15, .iastore, 16, 0), (16, .dup, 17, 0), (17, .iconst 3, 18, 0), (18, .iload 4, 20, 0), (20, .iastore, 21, 0), (21, .dup, 22, 0), (22, .iconst 4, 23, 0), (23, .iload 5, 25, 0), (25, .iastore, 26, 0), (26, .dup, 27, 0), (27, .iconst 5, 28, 0), (28, .iload 6, 30, 0), (30, .iastore, 31, 0), (31, .dup, 32, 0)],
  [(32, .bipush 6, 34, 0), (34, .iload 7, 36, 0), (36, .iastore, 37, 0), (37, .astore 8, 39, 0), (39, .aload_n 0, 40, 0), (40, .getfield 105, 43, 779), (43, .iconst 1, 44, 0), (44, .if_icmp .ne 21, 47, 65), (47, .aload_n 0, 48, 0), (48, .getfield 95, 51, 778), (51, .aload_n 0, 52, 0), (52, .getfield 102, 55, 777), (55, .isub, 56, 0), (56, .bipush 7, 58, 0), (58, .if_icmp .gt 7, 61, 65), (61, .iconst 1, 62, 0), (62, .goto 4, 65, 66)],
  [(65, .iconst 0, 66, 0), (66, .istore 9, 68, 0), (68, .iconst 0, 69, 0), (69, .istore 10, 71, 0), (71, .iload 10, 73, 0), (73, .bipush 7, 75, 0), (75, .if_icmp .ge 58, 78, 133), (78, .iload 9, 80, 0), (80, .ifCond .eq 53, 83, 133), (83, .iload 10, 85, 0), (85, .aload_n 0, 86, 0), (86, .getfield 95, 89, 778), (89, .aload_n 0, 90, 0), (90, .getfield 102, 93, 777), (93, .isub, 94, 0), (94, .if_icmp .ge 17, 97, 111)],
  [(97, .aload_n 0, 98, 0), (98, .aload_n 0, 99, 0), (99, .getfield 102, 102, 777), (102, .iload 10, 104, 0), (104, .iadd, 105, 0), (105, .invokevirtual 98, 108, 156), (108, .goto 4, 111, 112), (111, .iconst 0, 112, 0), (112, .aload 8, 114, 0), (114, .iload 10, 116, 0), (116, .iaload, 117, 0), (117, .if_icmp .ne 7, 120, 124), (120, .iconst 1, 121, 0), (121, .goto 4, 124, 125), (124, .iconst 0, 125, 0), (125, .istore 9, 127, 0), (127, .iinc 10 1, 130, 0)],
  [(130, .goto (-59), 133, 71), (133, .iload 9, 135, 0), (135, .ireturn, 136, 1)]]
-- TwoViewsModel.isNumber()Z
set_option maxRecDepth 100000 in
noncomputable def mi_t161 : mi_T := [[(0, .aload_n 0, 1, 0), (1, .getfield 105, 4, 779), (4, .iconst 1, 5, 0), (5, .if_icmp .ne 20, 8, 25), (8, .aload_n 0, 9, 0), (9, .getfield 95, 12, 778), (12, .aload_n 0, 13, 0), (13, .getfield 102, 16, 777), (16, .isub, 17, 0), (17, .iconst 3, 18, 0), (18, .if_icmp .gt 7, 21, 25), (21, .iconst 1, 22, 0), (22, .goto 4, 25, 26), (25, .iconst 0, 26, 0), (26, .istore_n 1, 27, 0), (27, .aload_n 0, 28, 0), (28, .getfield 102, 31, 777), (31, .istore_n 2, 32, 0)],
  [(32, .iload_n 2, 33, 0), (33, .aload_n 0, 34, 0), (34, .getfield 95, 37, 778), (37, .if_icmp .ge 26, 40, 63), (40, .iload_n 1, 41, 0), (41, .ifCond .eq 22, 44, 63), (44, .aload_n 0, 45, 0), (45, .iload_n 2, 46, 0), (46, .invokevirtual 98, 49, 156), (49, .bipush 48, 51, 0), (51, .bipush 57, 53, 0), (53, .invokestatic 73, 56, 144), (56, .istore_n 1, 57, 0), (57, .iinc 2 1, 60, 0), (60, .goto (-28), 63, 32), (63, .iload_n 1, 64, 0)],
  [(64, .ireturn, 65, 1)]]
-- TwoViewsModel.number(II)Z
set_option maxRecDepth 100000 in
noncomputable def mi_t162 : mi_T := [[(0, .aload_n 0, 1, 0), (1, .invokevirtual 115, 4, 161), (4, .ifCond .ne 13, 7, 17), (7, .aload_n 0, 8, 0), (8, .iconst 1, 9, 0), (9, .aload_n 0, 10, 0), (10, .getfield 102, 13, 777), (13, .invokevirtual 119, 16, 159), (16, .ireturn, 17, 1), (17, .aload_n 0, 18, 0), (18, .iconst 0, 19, 0), (19, .putfield 122, 22, 782), (22, .aload_n 0, 23, 0), (23, .getfield 102, 26, 777), (26, .istore_n 3, 27, 0), (27, .iload_n 3, 28, 0), (28, .aload_n 0, 29, 0), (29, .getfield 95, 32, 778)],
  [(32, .if_icmp .ge 29, 35, 61), (35, .aload_n 0, 36, 0), (36, .bipush 10, 38, 0), (38, .aload_n 0, 39, 0), (39, .getfield 122, 42, 782), (42, .imul, 43, 0), (43, .aload_n 0, 44, 0), (44, .iload_n 3, 45, 0), (45, .invokevirtual 98, 48, 156), (48, .iadd, 49, 0), (49, .bipush 48, 51, 0), (51, .isub, 52, 0), (52, .putfield 122, 55, 782), (55, .iinc 3 1, 58, 0), (58, .goto (-31), 61, 27), (61, .aload_n 0, 62, 0), (62, .getfield 122, 65, 782)],
  [(65, .iload_n 1, 66, 0), (66, .iload_n 2, 67, 0), (67, .invokestatic 73, 70, 144), (70, .ifCond .ne 13, 73, 83), (73, .aload_n 0, 74, 0), (74, .iconst 2, 75, 0), (75, .aload_n 0, 76, 0), (76, .getfield 102, 79, 777), (79, .invokevirtual 119, 82, 159), (82, .ireturn, 83, 1), (83, .aload_n 0, 84, 0), (84, .invokevirtual 125, 87, 158), (87, .iconst 1, 88, 0), (88, .ireturn, 89, 1)]]
-- TwoViewsModel.tells(III)Z
set_option maxRecDepth 100000 in
noncomputable def mi_t163 : mi_T := [[(0, .aload_n 0, 1, 0), (1, .invokevirtual 125, 4, 158), (4, .aload_n 0, 5, 0), (5, .iload_n 2, 6, 0), (6, .iload_n 3, 7, 0), (7, .invokevirtual 128, 10, 162), (10, .istore 4, 12, 0), (12, .aload_n 0, 13, 0), (13, .getfield 27, 16, 781), (16, .iload_n 1, 17, 0), (17, .iload 4, 19, 0), (19, .ifCond .eq 10, 22, 29), (22, .aload_n 0, 23, 0), (23, .getfield 122, 26, 782), (26, .goto 9, 29, 35), (29, .aload_n 0, 30, 0), (30, .getfield 27, 33, 781)],
  [(33, .iload_n 1, 34, 0), (34, .iaload, 35, 0), (35, .iastore, 36, 0), (36, .iload 4, 38, 0), (38, .ireturn, 39, 1)]]
-- TwoViewsModel.hexOf(I)I
set_option maxRecDepth 100000 in
noncomputable def mi_t164 : mi_T := [[(0, .iload_n 0, 1, 0), (1, .bipush 48, 3, 0), (3, .bipush 57, 5, 0), (5, .invokestatic 73, 8, 144), (8, .ifCond .eq 10, 11, 18), (11, .iload_n 0, 12, 0), (12, .bipush 48, 14, 0), (14, .isub, 15, 0), (15, .goto 25, 18, 40), (18, .iload_n 0, 19, 0), (19, .bipush 97, 21, 0), (21, .bipush 102, 23, 0), (23, .invokestatic 73, 26, 144), (26, .ifCond .eq 13, 29, 39), (29, .iload_n 0, 30, 0), (30, .bipush 97, 32, 0)],
  [(32, .isub, 33, 0), (33, .bipush 10, 35, 0), (35, .iadd, 36, 0), (36, .goto 4, 39, 40), (39, .iconst (-1), 40, 0), (40, .ireturn, 41, 0)]]
-- TwoViewsModel.row(I)Z
set_option maxRecDepth 100000 in
noncomputable def mi_t165 : mi_T := [[(0, .aload_n 0, 1, 0), (1, .invokevirtual 125, 4, 158), (4, .aload_n 0, 5, 0), (5, .iconst 0, 6, 0), (6, .aload_n 0, 7, 0), (7, .getfield 27, 10, 781), (10, .iconst 1, 11, 0), (11, .iaload, 12, 0), (12, .iconst 1, 13, 0), (13, .isub, 14, 0), (14, .invokevirtual 128, 17, 162), (17, .ifCond .ne 5, 20, 22), (20, .iconst 0, 21, 0), (21, .ireturn, 22, 1), (22, .aload_n 0, 23, 0), (23, .getfield 122, 26, 782), (26, .istore_n 2, 27, 0), (27, .aload_n 0, 28, 0), (28, .getfield 105, 31, 779), (31, .iconst 1, 32, 0)],
  [(32, .if_icmp .eq 13, 35, 45), (35, .aload_n 0, 36, 0), (36, .iconst 1, 37, 0), (37, .aload_n 0, 38, 0), (38, .getfield 102, 41, 777), (41, .invokevirtual 119, 44, 159), (44, .ireturn, 45, 1), (45, .aload_n 0, 46, 0), (46, .getfield 95, 49, 778), (49, .aload_n 0, 50, 0), (50, .getfield 102, 53, 777), (53, .isub, 54, 0), (54, .aload_n 0, 55, 0), (55, .getfield 27, 58, 781), (58, .iconst 0, 59, 0), (59, .iaload, 60, 0), (60, .if_icmp .eq 13, 63, 73), (63, .aload_n 0, 64, 0)],
  [(64, .iconst 3, 65, 0), (65, .aload_n 0, 66, 0), (66, .getfield 102, 69, 777), (69, .invokevirtual 119, 72, 159), (72, .ireturn, 73, 1), (73, .iconst 0, 74, 0), (74, .istore_n 3, 75, 0), (75, .iload_n 3, 76, 0), (76, .aload_n 0, 77, 0), (77, .getfield 27, 80, 781), (80, .iconst 0, 81, 0), (81, .iaload, 82, 0), (82, .if_icmp .ge 54, 85, 136), (85, .aload_n 0, 86, 0), (86, .aload_n 0, 87, 0), (87, .getfield 102, 90, 777), (90, .iload_n 3, 91, 0), (91, .iadd, 92, 0), (92, .invokevirtual 98, 95, 156), (95, .invokestatic 130, 98, 164)],
  [(98, .istore 4, 100, 0), (100, .iload 4, 102, 0), (102, .ifCond .ge 15, 105, 117), (105, .aload_n 0, 106, 0), (106, .iconst 3, 107, 0), (107, .aload_n 0, 108, 0), (108, .getfield 102, 111, 777), (111, .iload_n 3, 112, 0), (112, .iadd, 113, 0), (113, .invokevirtual 119, 116, 159), (116, .ireturn, 117, 1), (117, .aload_n 0, 118, 0), (118, .getfield 27, 121, 781), (121, .iload_n 1, 122, 0), (122, .iload_n 3, 123, 0), (123, .iload_n 2, 124, 0), (124, .invokestatic 81, 127, 152), (127, .iload 4, 129, 0)],
  [(129, .iastore, 130, 0), (130, .iinc 3 1, 133, 0), (133, .goto (-58), 136, 75), (136, .aload_n 0, 137, 0), (137, .invokevirtual 125, 140, 158), (140, .iconst 1, 141, 0), (141, .ireturn, 142, 1)]]
-- TwoViewsModel.penalty()Z
set_option maxRecDepth 100000 in
noncomputable def mi_t166 : mi_T := [[(0, .aload_n 0, 1, 0), (1, .invokevirtual 125, 4, 158), (4, .aload_n 0, 5, 0), (5, .iconst 0, 6, 0), (6, .bipush 60, 8, 0), (8, .invokevirtual 128, 11, 162), (11, .ifCond .ne 5, 14, 16), (14, .iconst 0, 15, 0), (15, .ireturn, 16, 1), (16, .aload_n 0, 17, 0), (17, .getfield 122, 20, 782), (20, .istore_n 1, 21, 0), (21, .aload_n 0, 22, 0), (22, .iload_n 1, 23, 0), (23, .bipush 60, 25, 0), (25, .invokevirtual 128, 28, 162), (28, .ifCond .ne 5, 31, 33), (31, .iconst 0, 32, 0)],
  [(32, .ireturn, 33, 1), (33, .aload_n 0, 34, 0), (34, .getfield 27, 37, 781), (37, .iconst 4, 38, 0), (38, .iload_n 1, 39, 0), (39, .iastore, 40, 0), (40, .aload_n 0, 41, 0), (41, .getfield 27, 44, 781), (44, .iconst 5, 45, 0), (45, .aload_n 0, 46, 0), (46, .getfield 122, 49, 782), (49, .iastore, 50, 0), (50, .iconst 1, 51, 0), (51, .ireturn, 52, 1)]]
-- TwoViewsModel.line()Z
set_option maxRecDepth 100000 in
noncomputable def mi_t167 : mi_T := [[(0, .aload_n 0, 1, 0), (1, .bipush 109, 3, 0), (3, .bipush 111, 5, 0), (5, .bipush 115, 7, 0), (7, .bipush 116, 9, 0), (9, .iconst 0, 10, 0), (10, .iconst 0, 11, 0), (11, .iconst 0, 12, 0), (12, .invokevirtual 133, 15, 160), (15, .ifCond .eq 12, 18, 27), (18, .aload_n 0, 19, 0), (19, .iconst 2, 20, 0), (20, .iconst 1, 21, 0), (21, .bipush 7, 23, 0), (23, .invokevirtual 137, 26, 163), (26, .ireturn, 27, 1), (27, .aload_n 0, 28, 0), (28, .bipush 119, 30, 0), (30, .bipush 105, 32, 0)],
  [(32, .bipush 110, 34, 0), (34, .bipush 100, 36, 0), (36, .bipush 111, 38, 0), (38, .bipush 119, 40, 0), (40, .iconst 0, 41, 0), (41, .invokevirtual 133, 44, 160), (44, .ifCond .eq 11, 47, 55), (47, .aload_n 0, 48, 0), (48, .iconst 3, 49, 0), (49, .iconst 1, 50, 0), (50, .iconst 2, 51, 0), (51, .invokevirtual 137, 54, 163), (54, .ireturn, 55, 1), (55, .aload_n 0, 56, 0), (56, .bipush 112, 58, 0), (58, .bipush 101, 60, 0), (60, .bipush 110, 62, 0), (62, .bipush 97, 64, 0)],
  [(64, .bipush 108, 66, 0), (66, .bipush 116, 68, 0), (68, .bipush 121, 70, 0), (70, .invokevirtual 133, 73, 160), (73, .ifCond .eq 8, 76, 81), (76, .aload_n 0, 77, 0), (77, .invokevirtual 140, 80, 166), (80, .ireturn, 81, 1), (81, .aload_n 0, 82, 0), (82, .bipush 112, 84, 0), (84, .bipush 97, 86, 0), (86, .bipush 116, 88, 0), (88, .bipush 104, 90, 0), (90, .bipush 115, 92, 0), (92, .iconst 0, 93, 0), (93, .iconst 0, 94, 0), (94, .invokevirtual 133, 97, 160)],
  [(97, .ifCond .eq 14, 100, 111), (100, .aload_n 0, 101, 0), (101, .bipush 6, 103, 0), (103, .iconst 1, 104, 0), (104, .sipush 255, 107, 0), (107, .invokevirtual 137, 110, 163), (110, .ireturn, 111, 1), (111, .aload_n 0, 112, 0), (112, .bipush 115, 114, 0), (114, .bipush 108, 116, 0), (116, .bipush 97, 118, 0), (118, .bipush 99, 120, 0), (120, .bipush 107, 122, 0), (122, .iconst 0, 123, 0), (123, .iconst 0, 124, 0), (124, .invokevirtual 133, 127, 160), (127, .ifCond .eq 12, 130, 139)],
  [(130, .aload_n 0, 131, 0), (131, .bipush 7, 133, 0), (133, .iconst 0, 134, 0), (134, .iconst 3, 135, 0), (135, .invokevirtual 137, 138, 163), (138, .ireturn, 139, 1), (139, .aload_n 0, 140, 0), (140, .bipush 108, 142, 0), (142, .bipush 101, 144, 0), (144, .bipush 102, 146, 0), (146, .bipush 116, 148, 0), (148, .iconst 0, 149, 0), (149, .iconst 0, 150, 0), (150, .iconst 0, 151, 0), (151, .invokevirtual 133, 154, 160), (154, .ifCond .eq 9, 157, 163), (157, .aload_n 0, 158, 0), (158, .iconst 0, 159, 0), (159, .invokevirtual 143, 162, 165)],
  [(162, .ireturn, 163, 1), (163, .aload_n 0, 164, 0), (164, .bipush 114, 166, 0), (166, .bipush 105, 168, 0), (168, .bipush 103, 170, 0), (170, .bipush 104, 172, 0), (172, .bipush 116, 174, 0), (174, .iconst 0, 175, 0), (175, .iconst 0, 176, 0), (176, .invokevirtual 133, 179, 160), (179, .ifCond .eq 11, 182, 190), (182, .aload_n 0, 183, 0), (183, .iconst 1, 184, 0), (184, .invokevirtual 143, 187, 165), (187, .goto 12, 190, 199), (190, .aload_n 0, 191, 0), (191, .iconst 1, 192, 0)],
  [(192, .aload_n 0, 193, 0), (193, .getfield 102, 196, 777), (196, .invokevirtual 119, 199, 159), (199, .ireturn, 200, 1)]]
-- TwoViewsModel.text(I)I
set_option maxRecDepth 100000 in
noncomputable def mi_t168 : mi_T := [[(0, .aload_n 0, 1, 0), (1, .iconst 0, 2, 0), (2, .putfield 1, 5, 768), (5, .iload_n 1, 6, 0), (6, .iconst 0, 7, 0), (7, .aload_n 0, 8, 0), (8, .getfield 85, 11, 775), (11, .invokestatic 73, 14, 144), (14, .ifCond .ne 5, 17, 19), (17, .iconst (-1), 18, 0), (18, .ireturn, 19, 0), (19, .aload_n 0, 20, 0), (20, .iload_n 1, 21, 0), (21, .putfield 92, 24, 776), (24, .aload_n 0, 25, 0), (25, .iconst 0, 26, 0), (26, .putfield 85, 29, 775), (29, .aload_n 0, 30, 0), (30, .iconst 0, 31, 0), (31, .putfield 95, 34, 778)],
  [(34, .aload_n 0, 35, 0), (35, .iconst 0, 36, 0), (36, .putfield 112, 39, 780), (39, .aload_n 0, 40, 0), (40, .invokevirtual 125, 43, 158), (43, .iconst 0, 44, 0), (44, .istore_n 2, 45, 0), (45, .iload_n 2, 46, 0), (46, .sipush 394, 49, 0), (49, .if_icmp .ge 16, 52, 65), (52, .aload_n 0, 53, 0), (53, .getfield 27, 56, 781), (56, .iload_n 2, 57, 0), (57, .iconst 0, 58, 0), (58, .iastore, 59, 0), (59, .iinc 2 1, 62, 0), (62, .goto (-17), 65, 45)],
  [(65, .aload_n 0, 66, 0), (66, .bipush 115, 68, 0), (68, .bipush 105, 70, 0), (70, .bipush 122, 72, 0), (72, .bipush 101, 74, 0), (74, .iconst 0, 75, 0), (75, .iconst 0, 76, 0), (76, .iconst 0, 77, 0), (77, .invokevirtual 133, 80, 160), (80, .ifCond .eq 32, 83, 112), (83, .aload_n 0, 84, 0), (84, .iconst 0, 85, 0), (85, .iconst 3, 86, 0), (86, .bipush 16, 88, 0), (88, .invokevirtual 137, 91, 163), (91, .ifCond .eq 17, 94, 108), (94, .aload_n 0, 95, 0), (95, .iconst 3, 96, 0)],
  [(96, .bipush 12, 98, 0), (98, .invokevirtual 128, 101, 162), (101, .ifCond .eq 7, 104, 108), (104, .iconst 1, 105, 0), (105, .goto 16, 108, 121), (108, .iconst 0, 109, 0), (109, .goto 12, 112, 121), (112, .aload_n 0, 113, 0), (113, .iconst 1, 114, 0), (114, .aload_n 0, 115, 0), (115, .getfield 102, 118, 777), (118, .invokevirtual 119, 121, 159), (121, .istore_n 2, 122, 0), (122, .aload_n 0, 123, 0), (123, .getfield 27, 126, 781), (126, .iconst 1, 127, 0), (127, .aload_n 0, 128, 0)],
  [(128, .getfield 122, 131, 782), (131, .iastore, 132, 0), (132, .aload_n 0, 133, 0), (133, .getfield 27, 136, 781), (136, .iconst 2, 137, 0), (137, .iconst 3, 138, 0), (138, .iastore, 139, 0), (139, .aload_n 0, 140, 0), (140, .getfield 27, 143, 781), (143, .iconst 3, 144, 0), (144, .iconst 1, 145, 0), (145, .iastore, 146, 0), (146, .aload_n 0, 147, 0), (147, .getfield 27, 150, 781), (150, .iconst 4, 151, 0), (151, .iconst 2, 152, 0), (152, .iastore, 153, 0), (153, .aload_n 0, 154, 0), (154, .getfield 27, 157, 781), (157, .iconst 5, 158, 0), (158, .bipush 6, 160, 0)],
  [(160, .iastore, 161, 0), (161, .aload_n 0, 162, 0), (162, .getfield 27, 165, 781), (165, .bipush 6, 167, 0), (167, .sipush 255, 170, 0), (170, .iastore, 171, 0), (171, .aload_n 0, 172, 0), (172, .getfield 27, 175, 781), (175, .bipush 7, 177, 0), (177, .iconst 1, 178, 0), (178, .iastore, 179, 0), (179, .aload_n 0, 180, 0), (180, .getfield 27, 183, 781), (183, .bipush 8, 185, 0), (185, .aload_n 0, 186, 0), (186, .getfield 13, 189, 769), (189, .bipush 8, 191, 0), (191, .iaload, 192, 0)],
  [(192, .iastore, 193, 0), (193, .aload_n 0, 194, 0), (194, .getfield 27, 197, 781), (197, .bipush 9, 199, 0), (199, .aload_n 0, 200, 0), (200, .getfield 13, 203, 769), (203, .bipush 9, 205, 0), (205, .iaload, 206, 0), (206, .iastore, 207, 0), (207, .iconst 0, 208, 0), (208, .istore_n 3, 209, 0), (209, .iload_n 2, 210, 0), (210, .ifCond .eq 26, 213, 236), (213, .aload_n 0, 214, 0), (214, .getfield 105, 217, 779), (217, .iconst 2, 218, 0), (218, .if_icmp .ne 18, 221, 236), (221, .aload_n 0, 222, 0), (222, .invokevirtual 125, 225, 158)],
  [(225, .aload_n 0, 226, 0), (226, .invokevirtual 145, 229, 167), (229, .istore_n 2, 230, 0), (230, .iinc 3 1, 233, 0), (233, .goto (-24), 236, 209), (236, .iload_n 2, 237, 0), (237, .ifCond .eq 20, 240, 257), (240, .aload_n 0, 241, 0), (241, .getfield 105, 244, 779), (244, .ifCond .eq 13, 247, 257), (247, .aload_n 0, 248, 0), (248, .iconst 1, 249, 0), (249, .aload_n 0, 250, 0), (250, .getfield 102, 253, 777), (253, .invokevirtual 119, 256, 159)],
  [(256, .istore_n 2, 257, 0), (257, .iload_n 2, 258, 0), (258, .ifCond .ne 11, 261, 269), (261, .bipush (-2), 263, 0), (263, .aload_n 0, 264, 0), (264, .getfield 112, 267, 780), (267, .isub, 268, 0), (268, .ireturn, 269, 0), (269, .aload_n 0, 270, 0), (270, .invokevirtual 148, 273, 148), (273, .iconst 0, 274, 0), (274, .istore 4, 276, 0), (276, .iload 4, 278, 0), (278, .sipush 394, 281, 0), (281, .if_icmp .ge 23, 284, 304), (284, .aload_n 0, 285, 0), (285, .getfield 13, 288, 769)],
  [(288, .iload 4, 290, 0), (290, .aload_n 0, 291, 0), (291, .getfield 27, 294, 781), (294, .iload 4, 296, 0), (296, .iaload, 297, 0), (297, .iastore, 298, 0), (298, .iinc 4 1, 301, 0), (301, .goto (-25), 304, 276), (304, .iload_n 3, 305, 0), (305, .ireturn, 306, 0)]]
-- TwoViewsModel.size(II)Z
set_option maxRecDepth 100000 in
noncomputable def mi_t169 : mi_T := [[(0, .aload_n 0, 1, 0), (1, .iconst 0, 2, 0), (2, .putfield 1, 5, 768), (5, .iload_n 1, 6, 0), (6, .iconst 3, 7, 0), (7, .bipush 16, 9, 0), (9, .invokestatic 73, 12, 144), (12, .ifCond .eq 13, 15, 25), (15, .iload_n 2, 16, 0), (16, .iconst 3, 17, 0), (17, .bipush 12, 19, 0), (19, .invokestatic 73, 22, 144), (22, .ifCond .ne 5, 25, 27), (25, .iconst 0, 26, 0), (26, .ireturn, 27, 1), (27, .aload_n 0, 28, 0), (28, .invokevirtual 148, 31, 148), (31, .aload_n 0, 32, 0)],
  [(32, .getfield 13, 35, 769), (35, .iconst 0, 36, 0), (36, .iload_n 1, 37, 0), (37, .iastore, 38, 0), (38, .aload_n 0, 39, 0), (39, .getfield 13, 42, 769), (42, .iconst 1, 43, 0), (43, .iload_n 2, 44, 0), (44, .iastore, 45, 0), (45, .aload_n 0, 46, 0), (46, .invokevirtual 67, 49, 147), (49, .iconst 1, 50, 0), (50, .ireturn, 51, 1)]]
-- TwoViewsModel.value(IIII)I
set_option maxRecDepth 100000 in
noncomputable def mi_t170 : mi_T := [[(0, .aload_n 0, 1, 0), (1, .iconst 0, 2, 0), (2, .putfield 1, 5, 768), (5, .aload_n 0, 6, 0), (6, .iload_n 1, 7, 0), (7, .iload_n 2, 8, 0), (8, .iload_n 3, 9, 0), (9, .invokevirtual 151, 12, 151), (12, .ifCond .eq 14, 15, 26), (15, .iload 4, 17, 0), (17, .iconst 0, 18, 0), (18, .bipush 15, 20, 0), (20, .invokestatic 73, 23, 144), (23, .ifCond .ne 5, 26, 28), (26, .iconst (-1), 27, 0), (27, .ireturn, 28, 0), (28, .aload_n 0, 29, 0), (29, .invokevirtual 148, 32, 148)],
  [(32, .aload_n 0, 33, 0), (33, .iload_n 1, 34, 0), (34, .iload_n 2, 35, 0), (35, .iload_n 3, 36, 0), (36, .invokevirtual 154, 39, 153), (39, .istore 5, 41, 0), (41, .aload_n 0, 42, 0), (42, .getfield 13, 45, 769), (45, .iload_n 1, 46, 0), (46, .iload_n 2, 47, 0), (47, .iload_n 3, 48, 0), (48, .invokestatic 81, 51, 152), (51, .iload 4, 53, 0), (53, .iastore, 54, 0), (54, .iload 5, 56, 0), (56, .ireturn, 57, 0)]]
-- TwoViewsModel.canTune(II)Z
set_option maxRecDepth 100000 in
noncomputable def mi_t171 : mi_T := [[(0, .iload_n 1, 1, 0), (1, .tableswitch 107 0 6 #[43, 51, 58, 70, 83, 92, 99], 44, 0)],
  [(44, .iload_n 2, 45, 0), (45, .iconst 1, 46, 0), (46, .bipush 7, 48, 0), (48, .invokestatic 73, 51, 144), (51, .ireturn, 52, 1), (52, .iload_n 2, 53, 0), (53, .iconst 1, 54, 0), (54, .iconst 2, 55, 0), (55, .invokestatic 73, 58, 144), (58, .ireturn, 59, 1), (59, .iload_n 2, 60, 0), (60, .iconst 0, 61, 0), (61, .aload_n 0, 62, 0), (62, .getfield 13, 65, 769)],
  [(65, .iconst 5, 66, 0), (66, .iaload, 67, 0), (67, .invokestatic 73, 70, 144), (70, .ireturn, 71, 1), (71, .iload_n 2, 72, 0), (72, .aload_n 0, 73, 0), (73, .getfield 13, 76, 769), (76, .iconst 4, 77, 0), (77, .iaload, 78, 0), (78, .bipush 60, 80, 0), (80, .invokestatic 73, 83, 144), (83, .ireturn, 84, 1), (84, .iload_n 2, 85, 0), (85, .iconst 1, 86, 0), (86, .sipush 255, 89, 0), (89, .invokestatic 73, 92, 144), (92, .ireturn, 93, 1), (93, .iload_n 2, 94, 0), (94, .iconst 0, 95, 0), (95, .iconst 3, 96, 0)],
  [(96, .invokestatic 73, 99, 144), (99, .ireturn, 100, 1), (100, .iload_n 2, 101, 0), (101, .iconst 1, 102, 0), (102, .bipush 50, 104, 0), (104, .invokestatic 73, 107, 144), (107, .ireturn, 108, 1), (108, .iload_n 1, 109, 0), (109, .bipush 7, 111, 0), (111, .if_icmp .ne 18, 114, 129), (114, .iload_n 2, 115, 0), (115, .iconst 1, 116, 0), (116, .sipush 999, 119, 0), (119, .invokestatic 73, 122, 144), (122, .ifCond .eq 7, 125, 129), (125, .iconst 1, 126, 0), (126, .goto 4, 129, 130)],
  [(129, .iconst 0, 130, 0), (130, .ireturn, 131, 1)]]
-- TwoViewsModel.tune(II)I
set_option maxRecDepth 100000 in
noncomputable def mi_t172 : mi_T := [[(0, .aload_n 0, 1, 0), (1, .iconst 0, 2, 0), (2, .putfield 1, 5, 768), (5, .aload_n 0, 6, 0), (6, .iload_n 1, 7, 0), (7, .iload_n 2, 8, 0), (8, .invokevirtual 157, 11, 171), (11, .ifCond .ne 5, 14, 16), (14, .iconst (-1), 15, 0), (15, .ireturn, 16, 0), (16, .aload_n 0, 17, 0), (17, .invokevirtual 148, 20, 148), (20, .aload_n 0, 21, 0), (21, .getfield 13, 24, 769), (24, .iconst 2, 25, 0), (25, .iload_n 1, 26, 0), (26, .iadd, 27, 0), (27, .iaload, 28, 0), (28, .istore_n 3, 29, 0), (29, .aload_n 0, 30, 0), (30, .getfield 13, 33, 769)],
  [(33, .iconst 2, 34, 0), (34, .iload_n 1, 35, 0), (35, .iadd, 36, 0), (36, .iload_n 2, 37, 0), (37, .iastore, 38, 0), (38, .iload_n 3, 39, 0), (39, .ireturn, 40, 0)]]
-- TwoViewsModel.layer(IIIIII)I
set_option maxRecDepth 100000 in
noncomputable def mi_t173 : mi_T := [[(0, .aload_n 0, 1, 0), (1, .iconst 0, 2, 0), (2, .putfield 1, 5, 768), (5, .iload_n 1, 6, 0), (6, .bipush (-20), 8, 0), (8, .bipush 20, 10, 0), (10, .invokestatic 73, 13, 144), (13, .ifCond .eq 54, 16, 67), (16, .iload_n 2, 17, 0), (17, .bipush (-20), 19, 0), (19, .bipush 20, 21, 0), (21, .invokestatic 73, 24, 144), (24, .ifCond .eq 43, 27, 67), (27, .iload_n 3, 28, 0), (28, .iconst 1, 29, 0), (29, .bipush 40, 31, 0), (31, .invokestatic 73, 34, 144)],
  [(34, .ifCond .eq 33, 37, 67), (37, .iload 4, 39, 0), (39, .iconst 1, 40, 0), (40, .bipush 40, 42, 0), (42, .invokestatic 73, 45, 144), (45, .ifCond .eq 22, 48, 67), (48, .iload 5, 50, 0), (50, .iconst 0, 51, 0), (51, .aload_n 0, 52, 0), (52, .getfield 13, 55, 769), (55, .iconst 2, 56, 0), (56, .iaload, 57, 0), (57, .invokestatic 73, 60, 144), (60, .ifCond .eq 7, 63, 67), (63, .iconst 1, 64, 0)],
  [(64, .goto 4, 67, 68), (67, .iconst 0, 68, 0), (68, .istore 7, 70, 0), (70, .iload 7, 72, 0), (72, .ifCond .eq 12, 75, 84), (75, .aload_n 0, 76, 0), (76, .getfield 160, 79, 773), (79, .bipush 6, 81, 0), (81, .if_icmp .ne 5, 84, 86), (84, .iconst (-1), 85, 0), (85, .ireturn, 86, 0), (86, .bipush 6, 88, 0), (88, .aload_n 0, 89, 0), (89, .getfield 160, 92, 773), (92, .imul, 93, 0), (93, .istore 8, 95, 0), (95, .aload_n 0, 96, 0)],
  [(96, .getfield 20, 99, 772), (99, .iload 8, 101, 0), (101, .iload_n 1, 102, 0), (102, .iastore, 103, 0), (103, .aload_n 0, 104, 0), (104, .getfield 20, 107, 772), (107, .iload 8, 109, 0), (109, .iconst 1, 110, 0), (110, .iadd, 111, 0), (111, .iload_n 2, 112, 0), (112, .iastore, 113, 0), (113, .aload_n 0, 114, 0), (114, .getfield 20, 117, 772), (117, .iload 8, 119, 0), (119, .iconst 2, 120, 0), (120, .iadd, 121, 0), (121, .iload_n 3, 122, 0), (122, .iastore, 123, 0), (123, .aload_n 0, 124, 0), (124, .getfield 20, 127, 772), (127, .iload 8, 129, 0)],
  [(129, .iconst 3, 130, 0), (130, .iadd, 131, 0), (131, .iload 4, 133, 0), (133, .iastore, 134, 0), (134, .aload_n 0, 135, 0), (135, .getfield 20, 138, 772), (138, .iload 8, 140, 0), (140, .iconst 4, 141, 0), (141, .iadd, 142, 0), (142, .iload 5, 144, 0), (144, .iastore, 145, 0), (145, .aload_n 0, 146, 0), (146, .getfield 20, 149, 772), (149, .iload 8, 151, 0), (151, .iconst 5, 152, 0), (152, .iadd, 153, 0), (153, .iload 6, 155, 0), (155, .iastore, 156, 0), (156, .aload_n 0, 157, 0), (157, .dup, 158, 0), (158, .getfield 160, 161, 773)],
  [(161, .iconst 1, 162, 0), (162, .iadd, 163, 0), (163, .putfield 160, 166, 773), (166, .aload_n 0, 167, 0), (167, .getfield 160, 170, 773), (170, .iconst 1, 171, 0), (171, .isub, 172, 0), (172, .ireturn, 173, 0)]]
-- TwoViewsModel.clear()I
set_option maxRecDepth 100000 in
noncomputable def mi_t174 : mi_T := [[(0, .aload_n 0, 1, 0), (1, .iconst 0, 2, 0), (2, .putfield 1, 5, 768), (5, .aload_n 0, 6, 0), (6, .getfield 160, 9, 773), (9, .istore_n 1, 10, 0), (10, .aload_n 0, 11, 0), (11, .iconst 0, 12, 0), (12, .putfield 160, 15, 773), (15, .iload_n 1, 16, 0), (16, .ireturn, 17, 0)]]
-- TwoViewsModel.edge(II)I
set_option maxRecDepth 100000 in
noncomputable def mi_t175 : mi_T := [[(0, .aload_n 0, 1, 0), (1, .getfield 20, 4, 772), (4, .bipush 6, 6, 0), (6, .iload_n 1, 7, 0), (7, .imul, 8, 0), (8, .iaload, 9, 0), (9, .iload_n 2, 10, 0), (10, .iconst 1, 11, 0), (11, .if_icmp .ne 17, 14, 28), (14, .aload_n 0, 15, 0), (15, .getfield 20, 18, 772), (18, .bipush 6, 20, 0), (20, .iload_n 1, 21, 0), (21, .imul, 22, 0), (22, .iconst 4, 23, 0), (23, .iadd, 24, 0), (24, .iaload, 25, 0), (25, .goto 4, 28, 29), (28, .iconst 0, 29, 0), (29, .isub, 30, 0), (30, .ireturn, 31, 0)]]
-- TwoViewsModel.layerAt(III)I
set_option maxRecDepth 100000 in
noncomputable def mi_t176 : mi_T := [[(0, .iconst (-1), 1, 0), (1, .istore 4, 3, 0), (3, .iconst 0, 4, 0), (4, .istore 5, 6, 0), (6, .iload 5, 8, 0), (8, .aload_n 0, 9, 0), (9, .getfield 160, 12, 773), (12, .if_icmp .ge 91, 15, 103), (15, .iload_n 2, 16, 0), (16, .aload_n 0, 17, 0), (17, .iload 5, 19, 0), (19, .iload_n 1, 20, 0), (20, .invokevirtual 163, 23, 175), (23, .isub, 24, 0), (24, .istore 6, 26, 0), (26, .iload_n 3, 27, 0), (27, .aload_n 0, 28, 0), (28, .getfield 20, 31, 772), (31, .bipush 6, 33, 0)],
  [(33, .iload 5, 35, 0), (35, .imul, 36, 0), (36, .iconst 1, 37, 0), (37, .iadd, 38, 0), (38, .iaload, 39, 0), (39, .isub, 40, 0), (40, .istore 7, 42, 0), (42, .iload 6, 44, 0), (44, .iconst 0, 45, 0), (45, .aload_n 0, 46, 0), (46, .getfield 20, 49, 772), (49, .bipush 6, 51, 0), (51, .iload 5, 53, 0), (53, .imul, 54, 0), (54, .iconst 2, 55, 0), (55, .iadd, 56, 0), (56, .iaload, 57, 0), (57, .iconst 1, 58, 0), (58, .isub, 59, 0), (59, .invokestatic 73, 62, 144), (62, .ifCond .eq 31, 65, 93)],
  [(65, .iload 7, 67, 0), (67, .iconst 0, 68, 0), (68, .aload_n 0, 69, 0), (69, .getfield 20, 72, 772), (72, .bipush 6, 74, 0), (74, .iload 5, 76, 0), (76, .imul, 77, 0), (77, .iconst 3, 78, 0), (78, .iadd, 79, 0), (79, .iaload, 80, 0), (80, .iconst 1, 81, 0), (81, .isub, 82, 0), (82, .invokestatic 73, 85, 144), (85, .ifCond .eq 8, 88, 93), (88, .iload 5, 90, 0), (90, .goto 5, 93, 95), (93, .iload 4, 95, 0), (95, .istore 4, 97, 0)],
  [(97, .iinc 5 1, 100, 0), (100, .goto (-94), 103, 6), (103, .iload 4, 105, 0), (105, .ireturn, 106, 0)]]
-- TwoViewsModel.texture(III)I
set_option maxRecDepth 100000 in
noncomputable def mi_t177 : mi_T := [[(0, .aload_n 0, 1, 0), (1, .iload_n 1, 2, 0), (2, .iload_n 2, 3, 0), (3, .iload_n 3, 4, 0), (4, .invokevirtual 167, 7, 176), (7, .istore 4, 9, 0), (9, .iload 4, 11, 0), (11, .ifCond .ge 5, 14, 16), (14, .iconst 0, 15, 0), (15, .ireturn, 16, 0), (16, .aload_n 0, 17, 0), (17, .getfield 20, 20, 772), (20, .bipush 6, 22, 0), (22, .iload 4, 24, 0), (24, .imul, 25, 0), (25, .iconst 5, 26, 0), (26, .iadd, 27, 0), (27, .iaload, 28, 0), (28, .bipush 31, 30, 0), (30, .imul, 31, 0), (31, .iload_n 2, 32, 0)],
  [(32, .aload_n 0, 33, 0), (33, .iload 4, 35, 0), (35, .iload_n 1, 36, 0), (36, .invokevirtual 163, 39, 175), (39, .isub, 40, 0), (40, .sipush 7919, 43, 0), (43, .imul, 44, 0), (44, .iadd, 45, 0), (45, .iload_n 3, 46, 0), (46, .aload_n 0, 47, 0), (47, .getfield 20, 50, 772), (50, .bipush 6, 52, 0), (52, .iload 4, 54, 0), (54, .imul, 55, 0), (55, .iconst 1, 56, 0), (56, .iadd, 57, 0), (57, .iaload, 58, 0), (58, .isub, 59, 0), (59, .ldc 170, 61, 104729), (61, .imul, 62, 0), (62, .iadd, 63, 0), (63, .istore 5, 65, 0)],
  [(65, .iload 5, 67, 0), (67, .ldc 171, 69, 1103515245), (69, .imul, 70, 0), (70, .sipush 12345, 73, 0), (73, .iadd, 74, 0), (74, .istore 5, 76, 0), (76, .iload 5, 78, 0), (78, .bipush 16, 80, 0), (80, .iushr, 81, 0), (81, .bipush 16, 83, 0), (83, .irem, 84, 0), (84, .ireturn, 85, 0)]]
-- TwoViewsModel.draw()I
set_option maxRecDepth 100000 in
noncomputable def mi_t178 : mi_T := [[(0, .aload_n 0, 1, 0), (1, .iconst 0, 2, 0), (2, .putfield 1, 5, 768), (5, .aload_n 0, 6, 0), (6, .invokevirtual 148, 9, 148), (9, .iconst 0, 10, 0), (10, .istore_n 1, 11, 0), (11, .iconst 0, 12, 0), (12, .istore_n 2, 13, 0), (13, .iload_n 2, 14, 0), (14, .aload_n 0, 15, 0), (15, .getfield 13, 18, 769), (18, .iconst 1, 19, 0), (19, .iaload, 20, 0), (20, .if_icmp .ge 81, 23, 101), (23, .iconst 0, 24, 0), (24, .istore_n 3, 25, 0), (25, .iload_n 3, 26, 0), (26, .aload_n 0, 27, 0), (27, .getfield 13, 30, 769), (30, .iconst 0, 31, 0), (31, .iaload, 32, 0)],
  [(32, .if_icmp .ge 63, 35, 95), (35, .aload_n 0, 36, 0), (36, .getfield 13, 39, 769), (39, .iconst 0, 40, 0), (40, .iload_n 3, 41, 0), (41, .iload_n 2, 42, 0), (42, .invokestatic 81, 45, 152), (45, .aload_n 0, 46, 0), (46, .iconst 0, 47, 0), (47, .iload_n 3, 48, 0), (48, .iload_n 2, 49, 0), (49, .invokevirtual 172, 52, 177), (52, .iastore, 53, 0), (53, .aload_n 0, 54, 0), (54, .getfield 13, 57, 769), (57, .iconst 1, 58, 0), (58, .iload_n 3, 59, 0), (59, .iload_n 2, 60, 0), (60, .invokestatic 81, 63, 152), (63, .aload_n 0, 64, 0)],
  [(64, .iconst 1, 65, 0), (65, .iload_n 3, 66, 0), (66, .iload_n 2, 67, 0), (67, .invokevirtual 172, 70, 177), (70, .iastore, 71, 0), (71, .iload_n 1, 72, 0), (72, .aload_n 0, 73, 0), (73, .iconst 0, 74, 0), (74, .iload_n 3, 75, 0), (75, .iload_n 2, 76, 0), (76, .invokevirtual 167, 79, 176), (79, .ifCond .lt 7, 82, 86), (82, .iconst 1, 83, 0), (83, .goto 4, 86, 87), (86, .iconst 0, 87, 0), (87, .iadd, 88, 0), (88, .istore_n 1, 89, 0), (89, .iinc 3 1, 92, 0), (92, .goto (-67), 95, 25), (95, .iinc 2 1, 98, 0)],
  [(98, .goto (-85), 101, 13), (101, .iload_n 1, 102, 0), (102, .ireturn, 103, 0)]]
-- TwoViewsModel.truthAt(II)I
set_option maxRecDepth 100000 in
noncomputable def mi_t179 : mi_T := [[(0, .aload_n 0, 1, 0), (1, .iconst 0, 2, 0), (2, .iload_n 1, 3, 0), (3, .iload_n 2, 4, 0), (4, .invokevirtual 167, 7, 176), (7, .istore_n 3, 8, 0), (8, .iload_n 3, 9, 0), (9, .ifCond .ge 7, 12, 16), (12, .iconst (-1), 13, 0), (13, .goto 14, 16, 27), (16, .aload_n 0, 17, 0), (17, .getfield 20, 20, 772), (20, .bipush 6, 22, 0), (22, .iload_n 3, 23, 0), (23, .imul, 24, 0), (24, .iconst 4, 25, 0), (25, .iadd, 26, 0), (26, .iaload, 27, 0), (27, .ireturn, 28, 0)]]
-- TwoViewsModel.isCovered(II)Z
set_option maxRecDepth 100000 in
noncomputable def mi_t180 : mi_T := [[(0, .aload_n 0, 1, 0), (1, .iconst 0, 2, 0), (2, .iload_n 1, 3, 0), (3, .iload_n 2, 4, 0), (4, .invokevirtual 167, 7, 176), (7, .istore_n 3, 8, 0), (8, .iload_n 1, 9, 0), (9, .aload_n 0, 10, 0), (10, .iload_n 1, 11, 0), (11, .iload_n 2, 12, 0), (12, .invokevirtual 175, 15, 179), (15, .isub, 16, 0), (16, .istore 4, 18, 0), (18, .iload_n 3, 19, 0), (19, .ifCond .lt 24, 22, 43), (22, .iload 4, 24, 0), (24, .ifCond .lt 15, 27, 39), (27, .aload_n 0, 28, 0), (28, .iconst 1, 29, 0), (29, .iload 4, 31, 0), (31, .iload_n 2, 32, 0)],
  [(32, .invokevirtual 167, 35, 176), (35, .iload_n 3, 36, 0), (36, .if_icmp .eq 7, 39, 43), (39, .iconst 1, 40, 0), (40, .goto 4, 43, 44), (43, .iconst 0, 44, 0), (44, .ireturn, 45, 1)]]
-- TwoViewsModel.truth(III)I
set_option maxRecDepth 100000 in
noncomputable def mi_t181 : mi_T := [[(0, .aload_n 0, 1, 0), (1, .iconst 0, 2, 0), (2, .putfield 1, 5, 768), (5, .aload_n 0, 6, 0), (6, .iload_n 1, 7, 0), (7, .iload_n 2, 8, 0), (8, .invokevirtual 77, 11, 150), (11, .ifCond .eq 12, 14, 23), (14, .iload_n 3, 15, 0), (15, .iconst 0, 16, 0), (16, .iconst 1, 17, 0), (17, .invokestatic 73, 20, 144), (20, .ifCond .ne 5, 23, 25), (23, .iconst (-1), 24, 0), (24, .ireturn, 25, 0), (25, .iload_n 3, 26, 0), (26, .ifCond .ne 12, 29, 38), (29, .aload_n 0, 30, 0), (30, .iload_n 1, 31, 0), (31, .iload_n 2, 32, 0)],
  [(32, .invokevirtual 175, 35, 179), (35, .goto 17, 38, 52), (38, .aload_n 0, 39, 0), (39, .iload_n 1, 40, 0), (40, .iload_n 2, 41, 0), (41, .invokevirtual 178, 44, 180), (44, .ifCond .eq 7, 47, 51), (47, .iconst 1, 48, 0), (48, .goto 4, 51, 52), (51, .iconst 0, 52, 0), (52, .ireturn, 53, 0)]]
-- TwoViewsModel.at(III)I
set_option maxRecDepth 100000 in
noncomputable def mi_t182 : mi_T := [[(0, .aload_n 0, 1, 0), (1, .aload_n 0, 2, 0), (2, .iload_n 1, 3, 0), (3, .iload_n 2, 4, 0), (4, .iload_n 3, 5, 0), (5, .invokevirtual 151, 8, 151), (8, .ifCond .eq 7, 11, 15), (11, .iconst 0, 12, 0), (12, .goto 4, 15, 16), (15, .iconst 1, 16, 0), (16, .putfield 1, 19, 768), (19, .aload_n 0, 20, 0), (20, .getfield 1, 23, 768), (23, .ifCond .le 7, 26, 30), (26, .iconst 0, 27, 0), (27, .goto 10, 30, 37), (30, .aload_n 0, 31, 0), (31, .iload_n 1, 32, 0)],
  [(32, .iload_n 2, 33, 0), (33, .iload_n 3, 34, 0), (34, .invokevirtual 154, 37, 153), (37, .ireturn, 38, 0)]]
-- TwoViewsModel.nearest(II)I
set_option maxRecDepth 100000 in
noncomputable def mi_t183 : mi_T := [[(0, .iload_n 1, 1, 0), (1, .ifCond .ge 7, 4, 8), (4, .iconst 0, 5, 0), (5, .goto 13, 8, 18), (8, .iload_n 1, 9, 0), (9, .iload_n 2, 10, 0), (10, .if_icmp .le 7, 13, 17), (13, .iload_n 2, 14, 0), (14, .goto 4, 17, 18), (17, .iload_n 1, 18, 0), (18, .ireturn, 19, 0)]]
-- TwoViewsModel.codeAt(III)I
set_option maxRecDepth 100000 in
noncomputable def mi_t184 : mi_T := [[(0, .aload_n 0, 1, 0), (1, .iload_n 1, 2, 0), (2, .iload_n 2, 3, 0), (3, .iload_n 3, 4, 0), (4, .invokevirtual 154, 7, 153), (7, .istore 4, 9, 0), (9, .iconst 0, 10, 0), (10, .istore 5, 12, 0), (12, .aload_n 0, 13, 0), (13, .getfield 13, 16, 769), (16, .iconst 3, 17, 0), (17, .iaload, 18, 0), (18, .ineg, 19, 0), (19, .istore 6, 21, 0), (21, .iload 6, 23, 0), (23, .aload_n 0, 24, 0), (24, .getfield 13, 27, 769), (27, .iconst 3, 28, 0), (28, .iaload, 29, 0), (29, .if_icmp .gt 103, 32, 132)],
  [(32, .aload_n 0, 33, 0), (33, .getfield 13, 36, 769), (36, .iconst 3, 37, 0), (37, .iaload, 38, 0), (38, .ineg, 39, 0), (39, .istore 7, 41, 0), (41, .iload 7, 43, 0), (43, .aload_n 0, 44, 0), (44, .getfield 13, 47, 769), (47, .iconst 3, 48, 0), (48, .iaload, 49, 0), (49, .if_icmp .gt 77, 52, 126), (52, .iload 7, 54, 0), (54, .ifCond .ne 8, 57, 62), (57, .iload 6, 59, 0), (59, .ifCond .eq 61, 62, 120), (62, .aload_n 0, 63, 0), (63, .iload_n 1, 64, 0)],
  [(64, .aload_n 0, 65, 0), (65, .iload_n 2, 66, 0), (66, .iload 7, 68, 0), (68, .iadd, 69, 0), (69, .aload_n 0, 70, 0), (70, .getfield 13, 73, 769), (73, .iconst 0, 74, 0), (74, .iaload, 75, 0), (75, .iconst 1, 76, 0), (76, .isub, 77, 0), (77, .invokevirtual 181, 80, 183), (80, .aload_n 0, 81, 0), (81, .iload_n 3, 82, 0), (82, .iload 6, 84, 0), (84, .iadd, 85, 0), (85, .aload_n 0, 86, 0), (86, .getfield 13, 89, 769), (89, .iconst 1, 90, 0), (90, .iaload, 91, 0), (91, .iconst 1, 92, 0), (92, .isub, 93, 0), (93, .invokevirtual 181, 96, 183)],
  [(96, .invokevirtual 154, 99, 153), (99, .istore 8, 101, 0), (101, .iconst 2, 102, 0), (102, .iload 5, 104, 0), (104, .imul, 105, 0), (105, .iload 8, 107, 0), (107, .iload 4, 109, 0), (109, .if_icmp .ge 7, 112, 116), (112, .iconst 1, 113, 0), (113, .goto 4, 116, 117), (116, .iconst 0, 117, 0), (117, .iadd, 118, 0), (118, .istore 5, 120, 0), (120, .iinc 7 1, 123, 0), (123, .goto (-82), 126, 41), (126, .iinc 6 1, 129, 0)],
  [(129, .goto (-108), 132, 21), (132, .iload 5, 134, 0), (134, .ireturn, 135, 0)]]
-- TwoViewsModel.codeCell(III)I
set_option maxRecDepth 100000 in
noncomputable def mi_t185 : mi_T := [[(0, .sipush 192, 3, 0), (3, .iload_n 0, 4, 0), (4, .imul, 5, 0), (5, .bipush 16, 7, 0), (7, .iload_n 2, 8, 0), (8, .imul, 9, 0), (9, .iadd, 10, 0), (10, .iload_n 1, 11, 0), (11, .iadd, 12, 0), (12, .ireturn, 13, 0)]]
-- TwoViewsModel.laysCodes()V
set_option maxRecDepth 100000 in
noncomputable def mi_t186 : mi_T := [[(0, .iconst 0, 1, 0), (1, .istore_n 1, 2, 0), (2, .iload_n 1, 3, 0), (3, .aload_n 0, 4, 0), (4, .getfield 13, 7, 769), (7, .iconst 1, 8, 0), (8, .iaload, 9, 0), (9, .if_icmp .ge 63, 12, 72), (12, .iconst 0, 13, 0), (13, .istore_n 2, 14, 0), (14, .iload_n 2, 15, 0), (15, .aload_n 0, 16, 0), (16, .getfield 13, 19, 769), (19, .iconst 0, 20, 0), (20, .iaload, 21, 0), (21, .if_icmp .ge 45, 24, 66), (24, .aload_n 0, 25, 0), (25, .getfield 30, 28, 783), (28, .iconst 0, 29, 0), (29, .iload_n 2, 30, 0), (30, .iload_n 1, 31, 0), (31, .invokestatic 184, 34, 185)],
  [(34, .aload_n 0, 35, 0), (35, .iconst 0, 36, 0), (36, .iload_n 2, 37, 0), (37, .iload_n 1, 38, 0), (38, .invokevirtual 187, 41, 184), (41, .iastore, 42, 0), (42, .aload_n 0, 43, 0), (43, .getfield 30, 46, 783), (46, .iconst 1, 47, 0), (47, .iload_n 2, 48, 0), (48, .iload_n 1, 49, 0), (49, .invokestatic 184, 52, 185), (52, .aload_n 0, 53, 0), (53, .iconst 1, 54, 0), (54, .iload_n 2, 55, 0), (55, .iload_n 1, 56, 0), (56, .invokevirtual 187, 59, 184), (59, .iastore, 60, 0), (60, .iinc 2 1, 63, 0), (63, .goto (-49), 66, 14)],
  [(66, .iinc 1 1, 69, 0), (69, .goto (-67), 72, 2), (72, .return_, 73, 0)]]
-- TwoViewsModel.code(III)I
set_option maxRecDepth 100000 in
noncomputable def mi_t187 : mi_T := [[(0, .aload_n 0, 1, 0), (1, .aload_n 0, 2, 0), (2, .iload_n 1, 3, 0), (3, .iload_n 2, 4, 0), (4, .iload_n 3, 5, 0), (5, .invokevirtual 151, 8, 151), (8, .ifCond .eq 7, 11, 15), (11, .iconst 0, 12, 0), (12, .goto 4, 15, 16), (15, .iconst 1, 16, 0), (16, .putfield 1, 19, 768), (19, .aload_n 0, 20, 0), (20, .getfield 1, 23, 768), (23, .ifCond .le 7, 26, 30), (26, .iconst 0, 27, 0), (27, .goto 10, 30, 37), (30, .aload_n 0, 31, 0), (31, .iload_n 1, 32, 0)],
  [(32, .iload_n 2, 33, 0), (33, .iload_n 3, 34, 0), (34, .invokevirtual 187, 37, 184), (37, .ireturn, 38, 0)]]
-- TwoViewsModel.same(III)I
set_option maxRecDepth 100000 in
noncomputable def mi_t188 : mi_T := [[(0, .aload_n 0, 1, 0), (1, .aload_n 0, 2, 0), (2, .iload_n 1, 3, 0), (3, .iload_n 2, 4, 0), (4, .iload_n 3, 5, 0), (5, .invokevirtual 151, 8, 151), (8, .ifCond .eq 7, 11, 15), (11, .iconst 0, 12, 0), (12, .goto 4, 15, 16), (15, .iconst 1, 16, 0), (16, .putfield 1, 19, 768), (19, .aload_n 0, 20, 0), (20, .getfield 1, 23, 768), (23, .ifCond .le 5, 26, 28), (26, .iconst 0, 27, 0), (27, .ireturn, 28, 0), (28, .aload_n 0, 29, 0), (29, .invokevirtual 190, 32, 186)],
  [(32, .aload_n 0, 33, 0), (33, .getfield 30, 36, 783), (36, .iload_n 1, 37, 0), (37, .iload_n 2, 38, 0), (38, .iload_n 3, 39, 0), (39, .invokestatic 184, 42, 185), (42, .iaload, 43, 0), (43, .istore 4, 45, 0), (45, .iconst 0, 46, 0), (46, .istore 5, 48, 0), (48, .iconst 0, 49, 0), (49, .istore 6, 51, 0), (51, .iload 6, 53, 0), (53, .aload_n 0, 54, 0), (54, .getfield 13, 57, 769), (57, .iconst 1, 58, 0), (58, .iaload, 59, 0), (59, .if_icmp .ge 85, 62, 144), (62, .iconst 0, 63, 0), (63, .istore 7, 65, 0)],
  [(65, .iload 7, 67, 0), (67, .aload_n 0, 68, 0), (68, .getfield 13, 71, 769), (71, .iconst 0, 72, 0), (72, .iaload, 73, 0), (73, .if_icmp .ge 65, 76, 138), (76, .iload 5, 78, 0), (78, .aload_n 0, 79, 0), (79, .getfield 30, 82, 783), (82, .iconst 0, 83, 0), (83, .iload 7, 85, 0), (85, .iload 6, 87, 0), (87, .invokestatic 184, 90, 185), (90, .iaload, 91, 0), (91, .iload 4, 93, 0), (93, .if_icmp .ne 7, 96, 100)],
  [(96, .iconst 1, 97, 0), (97, .goto 4, 100, 101), (100, .iconst 0, 101, 0), (101, .iadd, 102, 0), (102, .istore 5, 104, 0), (104, .iload 5, 106, 0), (106, .aload_n 0, 107, 0), (107, .getfield 30, 110, 783), (110, .iconst 1, 111, 0), (111, .iload 7, 113, 0), (113, .iload 6, 115, 0), (115, .invokestatic 184, 118, 185), (118, .iaload, 119, 0), (119, .iload 4, 121, 0), (121, .if_icmp .ne 7, 124, 128), (124, .iconst 1, 125, 0), (125, .goto 4, 128, 129)],
  [(128, .iconst 0, 129, 0), (129, .iadd, 130, 0), (130, .istore 5, 132, 0), (132, .iinc 7 1, 135, 0), (135, .goto (-70), 138, 65), (138, .iinc 6 1, 141, 0), (141, .goto (-90), 144, 51), (144, .iload 5, 146, 0), (146, .ireturn, 147, 0)]]
-- TwoViewsModel.isFirst(III)Z
set_option maxRecDepth 100000 in
noncomputable def mi_t189 : mi_T := [[(0, .iconst 0, 1, 0), (1, .istore 4, 3, 0), (3, .iload 4, 5, 0), (5, .iload_n 3, 6, 0), (6, .if_icmp .gt 70, 9, 76), (9, .iconst 0, 10, 0), (10, .istore 5, 12, 0), (12, .iload 5, 14, 0), (14, .aload_n 0, 15, 0), (15, .getfield 13, 18, 769), (18, .iconst 0, 19, 0), (19, .iaload, 20, 0), (20, .if_icmp .ge 50, 23, 70), (23, .iload 4, 25, 0), (25, .iload_n 3, 26, 0), (26, .if_icmp .lt 9, 29, 35), (29, .iload 5, 31, 0), (31, .iload_n 2, 32, 0)],
  [(32, .if_icmp .ge 38, 35, 70), (35, .aload_n 0, 36, 0), (36, .getfield 30, 39, 783), (39, .iload_n 1, 40, 0), (40, .iload 5, 42, 0), (42, .iload 4, 44, 0), (44, .invokestatic 184, 47, 185), (47, .iaload, 48, 0), (48, .aload_n 0, 49, 0), (49, .getfield 30, 52, 783), (52, .iload_n 1, 53, 0), (53, .iload_n 2, 54, 0), (54, .iload_n 3, 55, 0), (55, .invokestatic 184, 58, 185), (58, .iaload, 59, 0), (59, .if_icmp .ne 5, 62, 64), (62, .iconst 0, 63, 0), (63, .ireturn, 64, 1)],
  [(64, .iinc 5 1, 67, 0), (67, .goto (-55), 70, 12), (70, .iinc 4 1, 73, 0), (73, .goto (-70), 76, 3), (76, .iconst 1, 77, 0), (77, .ireturn, 78, 1)]]
-- TwoViewsModel.codes(I)I
set_option maxRecDepth 100000 in
noncomputable def mi_t190 : mi_T := [[(0, .aload_n 0, 1, 0), (1, .iconst 0, 2, 0), (2, .putfield 1, 5, 768), (5, .iload_n 1, 6, 0), (6, .iconst 0, 7, 0), (7, .iconst 1, 8, 0), (8, .invokestatic 73, 11, 144), (11, .ifCond .ne 5, 14, 16), (14, .iconst (-1), 15, 0), (15, .ireturn, 16, 0), (16, .aload_n 0, 17, 0), (17, .invokevirtual 190, 20, 186), (20, .iconst 0, 21, 0), (21, .istore_n 2, 22, 0), (22, .iconst 0, 23, 0), (23, .istore_n 3, 24, 0), (24, .iload_n 3, 25, 0), (25, .aload_n 0, 26, 0), (26, .getfield 13, 29, 769), (29, .iconst 1, 30, 0), (30, .iaload, 31, 0), (31, .if_icmp .ge 48, 34, 79)],
  [(34, .iconst 0, 35, 0), (35, .istore 4, 37, 0), (37, .iload 4, 39, 0), (39, .aload_n 0, 40, 0), (40, .getfield 13, 43, 769), (43, .iconst 0, 44, 0), (44, .iaload, 45, 0), (45, .if_icmp .ge 28, 48, 73), (48, .iload_n 2, 49, 0), (49, .aload_n 0, 50, 0), (50, .iload_n 1, 51, 0), (51, .iload 4, 53, 0), (53, .iload_n 3, 54, 0), (54, .invokevirtual 193, 57, 189), (57, .ifCond .eq 7, 60, 64), (60, .iconst 1, 61, 0), (61, .goto 4, 64, 65)],
  [(64, .iconst 0, 65, 0), (65, .iadd, 66, 0), (66, .istore_n 2, 67, 0), (67, .iinc 4 1, 70, 0), (70, .goto (-33), 73, 37), (73, .iinc 3 1, 76, 0), (76, .goto (-52), 79, 24), (79, .iload_n 2, 80, 0), (80, .ireturn, 81, 0)]]
-- TwoViewsModel.bitsOf(I)I
set_option maxRecDepth 100000 in
noncomputable def mi_t191 : mi_T := [[(0, .iconst 0, 1, 0), (1, .istore_n 1, 2, 0), (2, .iload_n 0, 3, 0), (3, .istore_n 2, 4, 0), (4, .iload_n 2, 5, 0), (5, .ifCond .eq 15, 8, 20), (8, .iinc 1 1, 11, 0), (11, .iload_n 2, 12, 0), (12, .iload_n 2, 13, 0), (13, .iconst 1, 14, 0), (14, .isub, 15, 0), (15, .iand, 16, 0), (16, .istore_n 2, 17, 0), (17, .goto (-13), 20, 4), (20, .iload_n 1, 21, 0), (21, .ireturn, 22, 0)]]
-- TwoViewsModel.costAt(III)I
set_option maxRecDepth 100000 in
noncomputable def mi_t192 : mi_T := [[(0, .iload_n 1, 1, 0), (1, .iload_n 3, 2, 0), (2, .if_icmp .ge 21, 5, 23), (5, .aload_n 0, 6, 0), (6, .getfield 13, 9, 769), (9, .iconst 3, 10, 0), (10, .iaload, 11, 0), (11, .iconst 1, 12, 0), (12, .if_icmp .ne 8, 15, 20), (15, .bipush 8, 17, 0), (17, .goto 5, 20, 22), (20, .bipush 24, 22, 0), (22, .ireturn, 23, 0), (23, .aload_n 0, 24, 0), (24, .getfield 30, 27, 783), (27, .iconst 0, 28, 0), (28, .iload_n 1, 29, 0), (29, .iload_n 2, 30, 0), (30, .invokestatic 184, 33, 185)],
  [(33, .iaload, 34, 0), (34, .aload_n 0, 35, 0), (35, .getfield 30, 38, 783), (38, .iconst 1, 39, 0), (39, .iload_n 1, 40, 0), (40, .iload_n 3, 41, 0), (41, .isub, 42, 0), (42, .iload_n 2, 43, 0), (43, .invokestatic 184, 46, 185), (46, .iaload, 47, 0), (47, .ixor, 48, 0), (48, .invokestatic 196, 51, 191), (51, .ireturn, 52, 0)]]
-- TwoViewsModel.isShift(III)Z
set_option maxRecDepth 100000 in
noncomputable def mi_t193 : mi_T := [[(0, .aload_n 0, 1, 0), (1, .iload_n 1, 2, 0), (2, .iload_n 2, 3, 0), (3, .invokevirtual 77, 6, 150), (6, .ifCond .eq 21, 9, 27), (9, .iload_n 3, 10, 0), (10, .iconst 0, 11, 0), (11, .aload_n 0, 12, 0), (12, .getfield 13, 15, 769), (15, .iconst 2, 16, 0), (16, .iaload, 17, 0), (17, .invokestatic 73, 20, 144), (20, .ifCond .eq 7, 23, 27), (23, .iconst 1, 24, 0), (24, .goto 4, 27, 28), (27, .iconst 0, 28, 0), (28, .ireturn, 29, 1)]]
-- TwoViewsModel.cost(III)I
set_option maxRecDepth 100000 in
noncomputable def mi_t194 : mi_T := [[(0, .aload_n 0, 1, 0), (1, .iconst 0, 2, 0), (2, .putfield 1, 5, 768), (5, .aload_n 0, 6, 0), (6, .iload_n 1, 7, 0), (7, .iload_n 2, 8, 0), (8, .iload_n 3, 9, 0), (9, .invokevirtual 199, 12, 193), (12, .ifCond .ne 5, 15, 17), (15, .iconst (-1), 16, 0), (16, .ireturn, 17, 0), (17, .aload_n 0, 18, 0), (18, .invokevirtual 190, 21, 186), (21, .aload_n 0, 22, 0), (22, .iload_n 1, 23, 0), (23, .iload_n 2, 24, 0), (24, .iload_n 3, 25, 0), (25, .invokevirtual 202, 28, 192), (28, .ireturn, 29, 0)]]
-- TwoViewsModel.byX(I)I
set_option maxRecDepth 100000 in
noncomputable def mi_t195 : mi_T := [[(0, .iload_n 0, 1, 0), (1, .ifCond .eq 14, 4, 15), (4, .iload_n 0, 5, 0), (5, .iconst 4, 6, 0), (6, .if_icmp .eq 9, 9, 15), (9, .iload_n 0, 10, 0), (10, .bipush 6, 12, 0), (12, .if_icmp .ne 7, 15, 19), (15, .iconst 1, 16, 0), (16, .goto 24, 19, 40), (19, .iload_n 0, 20, 0), (20, .iconst 1, 21, 0), (21, .if_icmp .eq 14, 24, 35), (24, .iload_n 0, 25, 0), (25, .iconst 5, 26, 0), (26, .if_icmp .eq 9, 29, 35), (29, .iload_n 0, 30, 0), (30, .bipush 7, 32, 0)],
  [(32, .if_icmp .ne 7, 35, 39), (35, .iconst (-1), 36, 0), (36, .goto 4, 39, 40), (39, .iconst 0, 40, 0), (40, .ireturn, 41, 0)]]
-- TwoViewsModel.byY(I)I
set_option maxRecDepth 100000 in
noncomputable def mi_t196 : mi_T := [[(0, .iload_n 0, 1, 0), (1, .iconst 2, 2, 0), (2, .if_icmp .eq 14, 5, 16), (5, .iload_n 0, 6, 0), (6, .iconst 4, 7, 0), (7, .if_icmp .eq 9, 10, 16), (10, .iload_n 0, 11, 0), (11, .bipush 7, 13, 0), (13, .if_icmp .ne 7, 16, 20), (16, .iconst 1, 17, 0), (17, .goto 24, 20, 41), (20, .iload_n 0, 21, 0), (21, .iconst 3, 22, 0), (22, .if_icmp .eq 14, 25, 36), (25, .iload_n 0, 26, 0), (26, .iconst 5, 27, 0), (27, .if_icmp .eq 9, 30, 36), (30, .iload_n 0, 31, 0), (31, .bipush 6, 33, 0)],
  [(33, .if_icmp .ne 7, 36, 40), (36, .iconst (-1), 37, 0), (37, .goto 4, 40, 41), (40, .iconst 0, 41, 0), (41, .ireturn, 42, 0)]]
-- TwoViewsModel.sumCell(III)I
set_option maxRecDepth 100000 in
noncomputable def mi_t197 : mi_T := [[(0, .bipush 8, 2, 0), (2, .bipush 16, 4, 0), (4, .iload_n 1, 5, 0), (5, .imul, 6, 0), (6, .iload_n 0, 7, 0), (7, .iadd, 8, 0), (8, .imul, 9, 0), (9, .iload_n 2, 10, 0), (10, .iadd, 11, 0), (11, .ireturn, 12, 0)]]
-- TwoViewsModel.leastOf([III)I
set_option maxRecDepth 100000 in
noncomputable def mi_t198 : mi_T := [[(0, .ldc 205, 2, 100000000), (2, .istore 4, 4, 0), (4, .iconst 0, 5, 0), (5, .istore 5, 7, 0), (7, .iload 5, 9, 0), (9, .aload_n 0, 10, 0), (10, .getfield 13, 13, 769), (13, .iconst 2, 14, 0), (14, .iaload, 15, 0), (15, .if_icmp .gt 36, 18, 51), (18, .aload_n 1, 19, 0), (19, .iload_n 2, 20, 0), (20, .iload_n 3, 21, 0), (21, .iload 5, 23, 0), (23, .invokestatic 206, 26, 197), (26, .iaload, 27, 0), (27, .istore 6, 29, 0), (29, .iload 6, 31, 0), (31, .iload 4, 33, 0)],
  [(33, .if_icmp .ge 8, 36, 41), (36, .iload 6, 38, 0), (38, .goto 5, 41, 43), (41, .iload 4, 43, 0), (43, .istore 4, 45, 0), (45, .iinc 5 1, 48, 0), (48, .goto (-41), 51, 7), (51, .iload 4, 53, 0), (53, .ireturn, 54, 0)]]
-- TwoViewsModel.tellsBy(III)I
set_option maxRecDepth 100000 in
noncomputable def mi_t199 : mi_T := [[(0, .aload_n 0, 1, 0), (1, .aload_n 0, 2, 0), (2, .getfield 33, 5, 784), (5, .iload_n 1, 6, 0), (6, .iload_n 2, 7, 0), (7, .invokevirtual 209, 10, 198), (10, .istore 4, 12, 0), (12, .aload_n 0, 13, 0), (13, .getfield 33, 16, 784), (16, .iload_n 1, 17, 0), (17, .iload_n 2, 18, 0), (18, .iload_n 3, 19, 0), (19, .invokestatic 206, 22, 197), (22, .iaload, 23, 0), (23, .istore 5, 25, 0), (25, .iload_n 3, 26, 0), (26, .ifCond .le 41, 29, 67), (29, .aload_n 0, 30, 0), (30, .getfield 33, 33, 784)],
  [(33, .iload_n 1, 34, 0), (34, .iload_n 2, 35, 0), (35, .iload_n 3, 36, 0), (36, .iconst 1, 37, 0), (37, .isub, 38, 0), (38, .invokestatic 206, 41, 197), (41, .iaload, 42, 0), (42, .aload_n 0, 43, 0), (43, .getfield 13, 46, 769), (46, .iconst 4, 47, 0), (47, .iaload, 48, 0), (48, .iadd, 49, 0), (49, .istore 6, 51, 0), (51, .iload 6, 53, 0), (53, .iload 5, 55, 0), (55, .if_icmp .ge 8, 58, 63), (58, .iload 6, 60, 0), (60, .goto 5, 63, 65), (63, .iload 5, 65, 0)],
  [(65, .istore 5, 67, 0), (67, .iload_n 3, 68, 0), (68, .aload_n 0, 69, 0), (69, .getfield 13, 72, 769), (72, .iconst 2, 73, 0), (73, .iaload, 74, 0), (74, .if_icmp .ge 41, 77, 115), (77, .aload_n 0, 78, 0), (78, .getfield 33, 81, 784), (81, .iload_n 1, 82, 0), (82, .iload_n 2, 83, 0), (83, .iload_n 3, 84, 0), (84, .iconst 1, 85, 0), (85, .iadd, 86, 0), (86, .invokestatic 206, 89, 197), (89, .iaload, 90, 0), (90, .aload_n 0, 91, 0), (91, .getfield 13, 94, 769), (94, .iconst 4, 95, 0), (95, .iaload, 96, 0)],
  [(96, .iadd, 97, 0), (97, .istore 6, 99, 0), (99, .iload 6, 101, 0), (101, .iload 5, 103, 0), (103, .if_icmp .ge 8, 106, 111), (106, .iload 6, 108, 0), (108, .goto 5, 111, 113), (111, .iload 5, 113, 0), (113, .istore 5, 115, 0), (115, .iload 4, 117, 0), (117, .aload_n 0, 118, 0), (118, .getfield 13, 121, 769), (121, .iconst 5, 122, 0), (122, .iaload, 123, 0), (123, .iadd, 124, 0), (124, .iload 5, 126, 0), (126, .if_icmp .ge 15, 129, 141)],
  [(129, .iload 4, 131, 0), (131, .aload_n 0, 132, 0), (132, .getfield 13, 135, 769), (135, .iconst 5, 136, 0), (136, .iaload, 137, 0), (137, .iadd, 138, 0), (138, .goto 5, 141, 143), (141, .iload 5, 143, 0), (143, .istore 5, 145, 0), (145, .iload 5, 147, 0), (147, .iload 4, 149, 0), (149, .isub, 150, 0), (150, .ireturn, 151, 0)]]
-- TwoViewsModel.laysWay(I)V
set_option maxRecDepth 100000 in
noncomputable def mi_t200 : mi_T := [[(0, .iload_n 1, 1, 0), (1, .invokestatic 213, 4, 195), (4, .istore_n 2, 5, 0), (5, .iload_n 1, 6, 0), (6, .invokestatic 216, 9, 196), (9, .istore_n 3, 10, 0), (10, .iconst 0, 11, 0), (11, .istore 4, 13, 0), (13, .iload 4, 15, 0), (15, .aload_n 0, 16, 0), (16, .getfield 13, 19, 769), (19, .iconst 1, 20, 0), (20, .iaload, 21, 0), (21, .if_icmp .ge 155, 24, 176), (24, .iconst 0, 25, 0), (25, .istore 5, 27, 0), (27, .iload 5, 29, 0), (29, .aload_n 0, 30, 0), (30, .getfield 13, 33, 769)],
  [(33, .iconst 0, 34, 0), (34, .iaload, 35, 0), (35, .if_icmp .ge 135, 38, 170), (38, .iload_n 3, 39, 0), (39, .ifCond .ge 17, 42, 56), (42, .aload_n 0, 43, 0), (43, .getfield 13, 46, 769), (46, .iconst 1, 47, 0), (47, .iaload, 48, 0), (48, .iconst 1, 49, 0), (49, .isub, 50, 0), (50, .iload 4, 52, 0), (52, .isub, 53, 0), (53, .goto 5, 56, 58), (56, .iload 4, 58, 0), (58, .istore 6, 60, 0), (60, .iload_n 2, 61, 0), (61, .ifCond .ge 17, 64, 78)],
  [(64, .aload_n 0, 65, 0), (65, .getfield 13, 68, 769), (68, .iconst 0, 69, 0), (69, .iaload, 70, 0), (70, .iconst 1, 71, 0), (71, .isub, 72, 0), (72, .iload 5, 74, 0), (74, .isub, 75, 0), (75, .goto 5, 78, 80), (78, .iload 5, 80, 0), (80, .istore 7, 82, 0), (82, .iconst 0, 83, 0), (83, .istore 8, 85, 0), (85, .iload 8, 87, 0), (87, .aload_n 0, 88, 0), (88, .getfield 13, 91, 769), (91, .iconst 2, 92, 0), (92, .iaload, 93, 0), (93, .if_icmp .gt 71, 96, 164)],
  [(96, .aload_n 0, 97, 0), (97, .iload 7, 99, 0), (99, .iload_n 2, 100, 0), (100, .isub, 101, 0), (101, .iload 6, 103, 0), (103, .iload_n 3, 104, 0), (104, .isub, 105, 0), (105, .invokevirtual 77, 108, 150), (108, .ifCond .eq 20, 111, 128), (111, .aload_n 0, 112, 0), (112, .iload 7, 114, 0), (114, .iload_n 2, 115, 0), (115, .isub, 116, 0), (116, .iload 6, 118, 0), (118, .iload_n 3, 119, 0), (119, .isub, 120, 0), (120, .iload 8, 122, 0), (122, .invokevirtual 219, 125, 199), (125, .goto 4, 128, 129)],
  [(128, .iconst 0, 129, 0), (129, .istore 9, 131, 0), (131, .aload_n 0, 132, 0), (132, .getfield 33, 135, 784), (135, .iload 7, 137, 0), (137, .iload 6, 139, 0), (139, .iload 8, 141, 0), (141, .invokestatic 206, 144, 197), (144, .aload_n 0, 145, 0), (145, .iload 7, 147, 0), (147, .iload 6, 149, 0), (149, .iload 8, 151, 0), (151, .invokevirtual 202, 154, 192), (154, .iload 9, 156, 0), (156, .iadd, 157, 0), (157, .iastore, 158, 0), (158, .iinc 8 1, 161, 0)],
  [(161, .goto (-76), 164, 85), (164, .iinc 5 1, 167, 0), (167, .goto (-140), 170, 27), (170, .iinc 4 1, 173, 0), (173, .goto (-160), 176, 13), (176, .return_, 177, 0)]]
-- TwoViewsModel.laysSums()V
set_option maxRecDepth 100000 in
noncomputable def mi_t201 : mi_T := [[(0, .aload_n 0, 1, 0), (1, .invokevirtual 190, 4, 186), (4, .iconst 0, 5, 0), (5, .istore_n 1, 6, 0), (6, .iload_n 1, 7, 0), (7, .sipush 1536, 10, 0), (10, .if_icmp .ge 16, 13, 26), (13, .aload_n 0, 14, 0), (14, .getfield 36, 17, 785), (17, .iload_n 1, 18, 0), (18, .iconst 0, 19, 0), (19, .iastore, 20, 0), (20, .iinc 1 1, 23, 0), (23, .goto (-17), 26, 6), (26, .iconst 0, 27, 0), (27, .istore_n 1, 28, 0), (28, .iload_n 1, 29, 0), (29, .bipush 8, 31, 0), (31, .if_icmp .ge 59, 34, 90)],
  [(34, .aload_n 0, 35, 0), (35, .getfield 13, 38, 769), (38, .bipush 6, 40, 0), (40, .iaload, 41, 0), (41, .iload_n 1, 42, 0), (42, .ishr, 43, 0), (43, .iconst 1, 44, 0), (44, .iand, 45, 0), (45, .iconst 1, 46, 0), (46, .if_icmp .ne 38, 49, 84), (49, .aload_n 0, 50, 0), (50, .iload_n 1, 51, 0), (51, .invokevirtual 222, 54, 200), (54, .iconst 0, 55, 0), (55, .istore_n 2, 56, 0), (56, .iload_n 2, 57, 0), (57, .sipush 1536, 60, 0), (60, .if_icmp .ge 24, 63, 84), (63, .aload_n 0, 64, 0)],
  [(64, .getfield 36, 67, 785), (67, .iload_n 2, 68, 0), (68, .dup2, 69, 0), (69, .iaload, 70, 0), (70, .aload_n 0, 71, 0), (71, .getfield 33, 74, 784), (74, .iload_n 2, 75, 0), (75, .iaload, 76, 0), (76, .iadd, 77, 0), (77, .iastore, 78, 0), (78, .iinc 2 1, 81, 0), (81, .goto (-25), 84, 56), (84, .iinc 1 1, 87, 0), (87, .goto (-59), 90, 28), (90, .return_, 91, 0)]]
-- TwoViewsModel.path(IIII)I
set_option maxRecDepth 100000 in
noncomputable def mi_t202 : mi_T := [[(0, .aload_n 0, 1, 0), (1, .iconst 0, 2, 0), (2, .putfield 1, 5, 768), (5, .iload_n 1, 6, 0), (6, .iconst 0, 7, 0), (7, .bipush 7, 9, 0), (9, .invokestatic 73, 12, 144), (12, .ifCond .eq 14, 15, 26), (15, .aload_n 0, 16, 0), (16, .iload_n 2, 17, 0), (17, .iload_n 3, 18, 0), (18, .iload 4, 20, 0), (20, .invokevirtual 199, 23, 193), (23, .ifCond .ne 5, 26, 28), (26, .iconst (-1), 27, 0), (27, .ireturn, 28, 0), (28, .aload_n 0, 29, 0), (29, .invokevirtual 190, 32, 186)],
  [(32, .aload_n 0, 33, 0), (33, .iload_n 1, 34, 0), (34, .invokevirtual 222, 37, 200), (37, .aload_n 0, 38, 0), (38, .getfield 33, 41, 784), (41, .iload_n 2, 42, 0), (42, .iload_n 3, 43, 0), (43, .iload 4, 45, 0), (45, .invokestatic 206, 48, 197), (48, .iaload, 49, 0), (49, .ireturn, 50, 0)]]
-- TwoViewsModel.sum(III)I
set_option maxRecDepth 100000 in
noncomputable def mi_t203 : mi_T := [[(0, .aload_n 0, 1, 0), (1, .iconst 0, 2, 0), (2, .putfield 1, 5, 768), (5, .aload_n 0, 6, 0), (6, .iload_n 1, 7, 0), (7, .iload_n 2, 8, 0), (8, .iload_n 3, 9, 0), (9, .invokevirtual 199, 12, 193), (12, .ifCond .ne 5, 15, 17), (15, .iconst (-1), 16, 0), (16, .ireturn, 17, 0), (17, .aload_n 0, 18, 0), (18, .invokevirtual 225, 21, 201), (21, .aload_n 0, 22, 0), (22, .getfield 36, 25, 785), (25, .iload_n 1, 26, 0), (26, .iload_n 2, 27, 0), (27, .iload_n 3, 28, 0), (28, .invokestatic 206, 31, 197), (31, .iaload, 32, 0)],
  [(32, .ireturn, 33, 0)]]
-- TwoViewsModel.leftShift(II)I
set_option maxRecDepth 100000 in
noncomputable def mi_t204 : mi_T := [[(0, .iconst 0, 1, 0), (1, .istore_n 3, 2, 0), (2, .iconst 1, 3, 0), (3, .istore 4, 5, 0), (5, .iload 4, 7, 0), (7, .aload_n 0, 8, 0), (8, .getfield 13, 11, 769), (11, .iconst 2, 12, 0), (12, .iaload, 13, 0), (13, .if_icmp .gt 42, 16, 55), (16, .aload_n 0, 17, 0), (17, .getfield 36, 20, 785), (20, .iload_n 1, 21, 0), (21, .iload_n 2, 22, 0), (22, .iload 4, 24, 0), (24, .invokestatic 206, 27, 197), (27, .iaload, 28, 0), (28, .aload_n 0, 29, 0), (29, .getfield 36, 32, 785)],
  [(32, .iload_n 1, 33, 0), (33, .iload_n 2, 34, 0), (34, .iload_n 3, 35, 0), (35, .invokestatic 206, 38, 197), (38, .iaload, 39, 0), (39, .if_icmp .ge 8, 42, 47), (42, .iload 4, 44, 0), (44, .goto 4, 47, 48), (47, .iload_n 3, 48, 0), (48, .istore_n 3, 49, 0), (49, .iinc 4 1, 52, 0), (52, .goto (-47), 55, 5), (55, .iload_n 3, 56, 0), (56, .ireturn, 57, 0)]]
-- TwoViewsModel.rightShift(II)I
set_option maxRecDepth 100000 in
noncomputable def mi_t205 : mi_T := [[(0, .iconst 0, 1, 0), (1, .istore_n 3, 2, 0), (2, .iconst 1, 3, 0), (3, .istore 4, 5, 0), (5, .iload 4, 7, 0), (7, .aload_n 0, 8, 0), (8, .getfield 13, 11, 769), (11, .iconst 2, 12, 0), (12, .iaload, 13, 0), (13, .if_icmp .gt 60, 16, 73), (16, .iload_n 1, 17, 0), (17, .iload 4, 19, 0), (19, .iadd, 20, 0), (20, .aload_n 0, 21, 0), (21, .getfield 13, 24, 769), (24, .iconst 0, 25, 0), (25, .iaload, 26, 0), (26, .if_icmp .ge 47, 29, 73), (29, .aload_n 0, 30, 0), (30, .getfield 36, 33, 785)],
  [(33, .iload_n 1, 34, 0), (34, .iload 4, 36, 0), (36, .iadd, 37, 0), (37, .iload_n 2, 38, 0), (38, .iload 4, 40, 0), (40, .invokestatic 206, 43, 197), (43, .iaload, 44, 0), (44, .aload_n 0, 45, 0), (45, .getfield 36, 48, 785), (48, .iload_n 1, 49, 0), (49, .iload_n 3, 50, 0), (50, .iadd, 51, 0), (51, .iload_n 2, 52, 0), (52, .iload_n 3, 53, 0), (53, .invokestatic 206, 56, 197), (56, .iaload, 57, 0), (57, .if_icmp .ge 8, 60, 65), (60, .iload 4, 62, 0), (62, .goto 4, 65, 66)],
  [(65, .iload_n 3, 66, 0), (66, .istore_n 3, 67, 0), (67, .iinc 4 1, 70, 0), (70, .goto (-65), 73, 5), (73, .iload_n 3, 74, 0), (74, .ireturn, 75, 0)]]
-- TwoViewsModel.laysShifts()V
set_option maxRecDepth 100000 in
noncomputable def mi_t206 : mi_T := [[(0, .aload_n 0, 1, 0), (1, .invokevirtual 225, 4, 201), (4, .iconst 0, 5, 0), (5, .istore_n 1, 6, 0), (6, .iload_n 1, 7, 0), (7, .aload_n 0, 8, 0), (8, .getfield 13, 11, 769), (11, .iconst 1, 12, 0), (12, .iaload, 13, 0), (13, .if_icmp .ge 61, 16, 74), (16, .iconst 0, 17, 0), (17, .istore_n 2, 18, 0), (18, .iload_n 2, 19, 0), (19, .aload_n 0, 20, 0), (20, .getfield 13, 23, 769), (23, .iconst 0, 24, 0), (24, .iaload, 25, 0), (25, .if_icmp .ge 43, 28, 68), (28, .aload_n 0, 29, 0), (29, .getfield 39, 32, 786)],
  [(32, .iconst 0, 33, 0), (33, .iload_n 2, 34, 0), (34, .iload_n 1, 35, 0), (35, .invokestatic 184, 38, 185), (38, .aload_n 0, 39, 0), (39, .iload_n 2, 40, 0), (40, .iload_n 1, 41, 0), (41, .invokevirtual 228, 44, 204), (44, .iastore, 45, 0), (45, .aload_n 0, 46, 0), (46, .getfield 39, 49, 786), (49, .iconst 1, 50, 0), (50, .iload_n 2, 51, 0), (51, .iload_n 1, 52, 0), (52, .invokestatic 184, 55, 185), (55, .aload_n 0, 56, 0), (56, .iload_n 2, 57, 0), (57, .iload_n 1, 58, 0), (58, .invokevirtual 231, 61, 205), (61, .iastore, 62, 0), (62, .iinc 2 1, 65, 0)],
  [(65, .goto (-47), 68, 18), (68, .iinc 1 1, 71, 0), (71, .goto (-65), 74, 6), (74, .return_, 75, 0)]]
-- TwoViewsModel.across(III)I
set_option maxRecDepth 100000 in
noncomputable def mi_t207 : mi_T := [[(0, .iload_n 0, 1, 0), (1, .ifCond .ne 9, 4, 10), (4, .iload_n 1, 5, 0), (5, .iload_n 2, 6, 0), (6, .isub, 7, 0), (7, .goto 6, 10, 13), (10, .iload_n 1, 11, 0), (11, .iload_n 2, 12, 0), (12, .iadd, 13, 0), (13, .ireturn, 14, 0)]]
-- TwoViewsModel.kindAt(III)I
set_option maxRecDepth 100000 in
noncomputable def mi_t208 : mi_T := [[(0, .aload_n 0, 1, 0), (1, .getfield 39, 4, 786), (4, .iload_n 1, 5, 0), (5, .iload_n 2, 6, 0), (6, .iload_n 3, 7, 0), (7, .invokestatic 184, 10, 185), (10, .iaload, 11, 0), (11, .istore 4, 13, 0), (13, .iload_n 1, 14, 0), (14, .iload_n 2, 15, 0), (15, .iload 4, 17, 0), (17, .invokestatic 234, 20, 207), (20, .istore 5, 22, 0), (22, .aload_n 0, 23, 0), (23, .iload 5, 25, 0), (25, .iload_n 3, 26, 0), (26, .invokevirtual 77, 29, 150), (29, .ifCond .eq 47, 32, 76)],
  [(32, .aload_n 0, 33, 0), (33, .getfield 39, 36, 786), (36, .iconst 1, 37, 0), (37, .iload_n 1, 38, 0), (38, .isub, 39, 0), (39, .iload 5, 41, 0), (41, .iload_n 3, 42, 0), (42, .invokestatic 184, 45, 185), (45, .iaload, 46, 0), (46, .iload 4, 48, 0), (48, .isub, 49, 0), (49, .istore 6, 51, 0), (51, .iload 6, 53, 0), (53, .aload_n 0, 54, 0), (54, .getfield 13, 57, 769), (57, .bipush 7, 59, 0), (59, .iaload, 60, 0), (60, .ineg, 61, 0), (61, .aload_n 0, 62, 0), (62, .getfield 13, 65, 769)],
  [(65, .bipush 7, 67, 0), (67, .iaload, 68, 0), (68, .invokestatic 73, 71, 144), (71, .ifCond .eq 5, 74, 76), (74, .iconst 0, 75, 0), (75, .ireturn, 76, 0), (76, .iconst 0, 77, 0), (77, .istore 6, 79, 0), (79, .iload 6, 81, 0), (81, .aload_n 0, 82, 0), (82, .getfield 13, 85, 769), (85, .iconst 2, 86, 0), (86, .iaload, 87, 0), (87, .if_icmp .gt 49, 90, 136), (90, .iload_n 1, 91, 0), (91, .iload_n 2, 92, 0), (92, .iload 6, 94, 0), (94, .invokestatic 234, 97, 207)],
  [(97, .istore 7, 99, 0), (99, .aload_n 0, 100, 0), (100, .iload 7, 102, 0), (102, .iload_n 3, 103, 0), (103, .invokevirtual 77, 106, 150), (106, .ifCond .eq 24, 109, 130), (109, .aload_n 0, 110, 0), (110, .getfield 39, 113, 786), (113, .iconst 1, 114, 0), (114, .iload_n 1, 115, 0), (115, .isub, 116, 0), (116, .iload 7, 118, 0), (118, .iload_n 3, 119, 0), (119, .invokestatic 184, 122, 185), (122, .iaload, 123, 0), (123, .iload 6, 125, 0), (125, .if_icmp .ne 5, 128, 130)],
  [(128, .iconst 1, 129, 0), (129, .ireturn, 130, 0), (130, .iinc 6 1, 133, 0), (133, .goto (-54), 136, 79), (136, .iconst 2, 137, 0), (137, .ireturn, 138, 0)]]
-- TwoViewsModel.laysKinds()V
set_option maxRecDepth 100000 in
noncomputable def mi_t209 : mi_T := [[(0, .aload_n 0, 1, 0), (1, .invokevirtual 237, 4, 206), (4, .iconst 0, 5, 0), (5, .istore_n 1, 6, 0), (6, .iload_n 1, 7, 0), (7, .aload_n 0, 8, 0), (8, .getfield 13, 11, 769), (11, .iconst 1, 12, 0), (12, .iaload, 13, 0), (13, .if_icmp .ge 63, 16, 76), (16, .iconst 0, 17, 0), (17, .istore_n 2, 18, 0), (18, .iload_n 2, 19, 0), (19, .aload_n 0, 20, 0), (20, .getfield 13, 23, 769), (23, .iconst 0, 24, 0), (24, .iaload, 25, 0), (25, .if_icmp .ge 45, 28, 70), (28, .aload_n 0, 29, 0), (29, .getfield 42, 32, 787)],
  [(32, .iconst 0, 33, 0), (33, .iload_n 2, 34, 0), (34, .iload_n 1, 35, 0), (35, .invokestatic 184, 38, 185), (38, .aload_n 0, 39, 0), (39, .iconst 0, 40, 0), (40, .iload_n 2, 41, 0), (41, .iload_n 1, 42, 0), (42, .invokevirtual 240, 45, 208), (45, .iastore, 46, 0), (46, .aload_n 0, 47, 0), (47, .getfield 42, 50, 787), (50, .iconst 1, 51, 0), (51, .iload_n 2, 52, 0), (52, .iload_n 1, 53, 0), (53, .invokestatic 184, 56, 185), (56, .aload_n 0, 57, 0), (57, .iconst 1, 58, 0), (58, .iload_n 2, 59, 0), (59, .iload_n 1, 60, 0), (60, .invokevirtual 240, 63, 208), (63, .iastore, 64, 0)],
  [(64, .iinc 2 1, 67, 0), (67, .goto (-49), 70, 18), (70, .iinc 1 1, 73, 0), (73, .goto (-67), 76, 6), (76, .aload_n 0, 77, 0), (77, .iconst 0, 78, 0), (78, .invokevirtual 243, 81, 212), (81, .aload_n 0, 82, 0), (82, .iconst 1, 83, 0), (83, .invokevirtual 243, 86, 212), (86, .return_, 87, 0)]]
-- TwoViewsModel.hang(IIIII)Z
set_option maxRecDepth 100000 in
noncomputable def mi_t210 : mi_T := [[(0, .aload_n 0, 1, 0), (1, .iload 4, 3, 0), (3, .iload 5, 5, 0), (5, .invokevirtual 77, 8, 150), (8, .ifCond .ne 5, 11, 13), (11, .iconst 0, 12, 0), (12, .ireturn, 13, 1), (13, .iload_n 1, 14, 0), (14, .iload_n 2, 15, 0), (15, .iload_n 3, 16, 0), (16, .invokestatic 184, 19, 185), (19, .istore 6, 21, 0), (21, .iload_n 1, 22, 0), (22, .iload 4, 24, 0), (24, .iload 5, 26, 0), (26, .invokestatic 184, 29, 185), (29, .istore 7, 31, 0), (31, .aload_n 0, 32, 0)],
  [(32, .getfield 42, 35, 787), (35, .iload 6, 37, 0), (37, .iaload, 38, 0), (38, .ifCond .ne 40, 41, 78), (41, .aload_n 0, 42, 0), (42, .getfield 42, 45, 787), (45, .iload 7, 47, 0), (47, .iaload, 48, 0), (48, .ifCond .ne 30, 51, 78), (51, .aload_n 0, 52, 0), (52, .getfield 39, 55, 786), (55, .iload 6, 57, 0), (57, .iaload, 58, 0), (58, .aload_n 0, 59, 0), (59, .getfield 39, 62, 786), (62, .iload 7, 64, 0)],
  [(64, .iaload, 65, 0), (65, .isub, 66, 0), (66, .iconst (-1), 67, 0), (67, .iconst 1, 68, 0), (68, .invokestatic 73, 71, 144), (71, .ifCond .eq 7, 74, 78), (74, .iconst 1, 75, 0), (75, .goto 4, 78, 79), (78, .iconst 0, 79, 0), (79, .ireturn, 80, 1)]]
-- TwoViewsModel.lowers(IIIII)Z
set_option maxRecDepth 100000 in
noncomputable def mi_t211 : mi_T := [[(0, .iload_n 1, 1, 0), (1, .iload_n 2, 2, 0), (2, .iload_n 3, 3, 0), (3, .invokestatic 184, 6, 185), (6, .istore 6, 8, 0), (8, .iload_n 1, 9, 0), (9, .iload 4, 11, 0), (11, .iload 5, 13, 0), (13, .invokestatic 184, 16, 185), (16, .istore 7, 18, 0), (18, .aload_n 0, 19, 0), (19, .iload_n 1, 20, 0), (20, .iload_n 2, 21, 0), (21, .iload_n 3, 22, 0), (22, .iload 4, 24, 0), (24, .iload 5, 26, 0), (26, .invokevirtual 246, 29, 210), (29, .ifCond .eq 20, 32, 49)],
  [(32, .aload_n 0, 33, 0), (33, .getfield 45, 36, 788), (36, .iload 7, 38, 0), (38, .iaload, 39, 0), (39, .aload_n 0, 40, 0), (40, .getfield 45, 43, 788), (43, .iload 6, 45, 0), (45, .iaload, 46, 0), (46, .if_icmp .lt 5, 49, 51), (49, .iconst 0, 50, 0), (50, .ireturn, 51, 1), (51, .aload_n 0, 52, 0), (52, .getfield 45, 55, 788), (55, .iload 6, 57, 0), (57, .aload_n 0, 58, 0), (58, .getfield 45, 61, 788), (61, .iload 7, 63, 0), (63, .iaload, 64, 0)],
  [(64, .iastore, 65, 0), (65, .iconst 1, 66, 0), (66, .ireturn, 67, 1)]]
-- TwoViewsModel.laysPieces(I)V
set_option maxRecDepth 100000 in
noncomputable def mi_t212 : mi_T := [[(0, .sipush 192, 3, 0), (3, .iload_n 1, 4, 0), (4, .imul, 5, 0), (5, .istore_n 2, 6, 0), (6, .iload_n 2, 7, 0), (7, .sipush 192, 10, 0), (10, .iload_n 1, 11, 0), (11, .iconst 1, 12, 0), (12, .iadd, 13, 0), (13, .imul, 14, 0), (14, .if_icmp .ge 23, 17, 37), (17, .aload_n 0, 18, 0), (18, .getfield 45, 21, 788), (21, .iload_n 2, 22, 0), (22, .iload_n 2, 23, 0), (23, .iastore, 24, 0), (24, .aload_n 0, 25, 0), (25, .getfield 48, 28, 789), (28, .iload_n 2, 29, 0), (29, .iconst 0, 30, 0), (30, .iastore, 31, 0), (31, .iinc 2 1, 34, 0)],
  [(34, .goto (-28), 37, 6), (37, .iconst 1, 38, 0), (38, .istore_n 2, 39, 0), (39, .iload_n 2, 40, 0), (40, .ifCond .eq 144, 43, 184), (43, .iconst 0, 44, 0), (44, .istore_n 2, 45, 0), (45, .iconst 0, 46, 0), (46, .istore_n 3, 47, 0), (47, .iload_n 3, 48, 0), (48, .aload_n 0, 49, 0), (49, .getfield 13, 52, 769), (52, .iconst 1, 53, 0), (53, .iaload, 54, 0), (54, .if_icmp .ge 127, 57, 181), (57, .iconst 0, 58, 0), (58, .istore 4, 60, 0), (60, .iload 4, 62, 0), (62, .aload_n 0, 63, 0), (63, .getfield 13, 66, 769)],
  [(66, .iconst 0, 67, 0), (67, .iaload, 68, 0), (68, .if_icmp .ge 107, 71, 175), (71, .aload_n 0, 72, 0), (72, .iload_n 1, 73, 0), (73, .iload 4, 75, 0), (75, .iload_n 3, 76, 0), (76, .iload 4, 78, 0), (78, .iconst 1, 79, 0), (79, .iadd, 80, 0), (80, .iload_n 3, 81, 0), (81, .invokevirtual 250, 84, 211), (84, .ifCond .ne 19, 87, 103), (87, .aload_n 0, 88, 0), (88, .iload_n 1, 89, 0), (89, .iload 4, 91, 0), (91, .iload_n 3, 92, 0), (92, .iload 4, 94, 0), (94, .iconst 1, 95, 0), (95, .isub, 96, 0)],
  [(96, .iload_n 3, 97, 0), (97, .invokevirtual 250, 100, 211), (100, .ifCond .eq 7, 103, 107), (103, .iconst 1, 104, 0), (104, .goto 4, 107, 108), (107, .iconst 0, 108, 0), (108, .istore 5, 110, 0), (110, .aload_n 0, 111, 0), (111, .iload_n 1, 112, 0), (112, .iload 4, 114, 0), (114, .iload_n 3, 115, 0), (115, .iload 4, 117, 0), (117, .iload_n 3, 118, 0), (118, .iconst 1, 119, 0), (119, .iadd, 120, 0), (120, .invokevirtual 250, 123, 211), (123, .ifCond .ne 19, 126, 142), (126, .aload_n 0, 127, 0), (127, .iload_n 1, 128, 0)],
  [(128, .iload 4, 130, 0), (130, .iload_n 3, 131, 0), (131, .iload 4, 133, 0), (133, .iload_n 3, 134, 0), (134, .iconst 1, 135, 0), (135, .isub, 136, 0), (136, .invokevirtual 250, 139, 211), (139, .ifCond .eq 7, 142, 146), (142, .iconst 1, 143, 0), (143, .goto 4, 146, 147), (146, .iconst 0, 147, 0), (147, .istore 6, 149, 0), (149, .iload_n 2, 150, 0), (150, .ifCond .ne 13, 153, 163), (153, .iload 5, 155, 0), (155, .ifCond .ne 8, 158, 163), (158, .iload 6, 160, 0)],
  [(160, .ifCond .eq 7, 163, 167), (163, .iconst 1, 164, 0), (164, .goto 4, 167, 168), (167, .iconst 0, 168, 0), (168, .istore_n 2, 169, 0), (169, .iinc 4 1, 172, 0), (172, .goto (-112), 175, 60), (175, .iinc 3 1, 178, 0), (178, .goto (-131), 181, 47), (181, .goto (-142), 184, 39), (184, .iconst 0, 185, 0), (185, .istore_n 3, 186, 0), (186, .iload_n 3, 187, 0), (187, .aload_n 0, 188, 0), (188, .getfield 13, 191, 769), (191, .iconst 1, 192, 0)],
  [(192, .iaload, 193, 0), (193, .if_icmp .ge 92, 196, 285), (196, .iconst 0, 197, 0), (197, .istore 4, 199, 0), (199, .iload 4, 201, 0), (201, .aload_n 0, 202, 0), (202, .getfield 13, 205, 769), (205, .iconst 0, 206, 0), (206, .iaload, 207, 0), (207, .if_icmp .ge 72, 210, 279), (210, .iload_n 1, 211, 0), (211, .iload 4, 213, 0), (213, .iload_n 3, 214, 0), (214, .invokestatic 184, 217, 185), (217, .istore 5, 219, 0), (219, .aload_n 0, 220, 0), (220, .getfield 45, 223, 788), (223, .iload 5, 225, 0)],
  [(225, .aload_n 0, 226, 0), (226, .getfield 42, 229, 787), (229, .iload 5, 231, 0), (231, .iaload, 232, 0), (232, .ifCond .ne 13, 235, 245), (235, .aload_n 0, 236, 0), (236, .getfield 45, 239, 788), (239, .iload 5, 241, 0), (241, .iaload, 242, 0), (242, .goto 4, 245, 246), (245, .iconst (-1), 246, 0), (246, .iastore, 247, 0), (247, .aload_n 0, 248, 0), (248, .getfield 45, 251, 788), (251, .iload 5, 253, 0), (253, .iaload, 254, 0), (254, .ifCond .lt 19, 257, 273)],
  [(257, .aload_n 0, 258, 0), (258, .getfield 48, 261, 789), (261, .aload_n 0, 262, 0), (262, .getfield 45, 265, 788), (265, .iload 5, 267, 0), (267, .iaload, 268, 0), (268, .dup2, 269, 0), (269, .iaload, 270, 0), (270, .iconst 1, 271, 0), (271, .iadd, 272, 0), (272, .iastore, 273, 0), (273, .iinc 4 1, 276, 0), (276, .goto (-77), 279, 199), (279, .iinc 3 1, 282, 0), (282, .goto (-96), 285, 186), (285, .return_, 286, 0)]]
-- TwoViewsModel.manyAt(III)I
set_option maxRecDepth 100000 in
noncomputable def mi_t213 : mi_T := [[(0, .aload_n 0, 1, 0), (1, .getfield 45, 4, 788), (4, .iload_n 1, 5, 0), (5, .iload_n 2, 6, 0), (6, .iload_n 3, 7, 0), (7, .invokestatic 184, 10, 185), (10, .iaload, 11, 0), (11, .istore 4, 13, 0), (13, .iload 4, 15, 0), (15, .ifCond .ge 7, 18, 22), (18, .iconst 0, 19, 0), (19, .goto 10, 22, 29), (22, .aload_n 0, 23, 0), (23, .getfield 48, 26, 789), (26, .iload 4, 28, 0), (28, .iaload, 29, 0), (29, .ireturn, 30, 0)]]
-- TwoViewsModel.kindNow(III)I
set_option maxRecDepth 100000 in
noncomputable def mi_t214 : mi_T := [[(0, .aload_n 0, 1, 0), (1, .getfield 42, 4, 787), (4, .iload_n 1, 5, 0), (5, .iload_n 2, 6, 0), (6, .iload_n 3, 7, 0), (7, .invokestatic 184, 10, 185), (10, .iaload, 11, 0), (11, .istore 4, 13, 0), (13, .iload 4, 15, 0), (15, .ifCond .ne 24, 18, 39), (18, .aload_n 0, 19, 0), (19, .iload_n 1, 20, 0), (20, .iload_n 2, 21, 0), (21, .iload_n 3, 22, 0), (22, .invokevirtual 253, 25, 213), (25, .aload_n 0, 26, 0), (26, .getfield 13, 29, 769), (29, .bipush 8, 31, 0), (31, .iaload, 32, 0)],
  [(32, .if_icmp .ge 7, 35, 39), (35, .iconst 1, 36, 0), (36, .goto 5, 39, 41), (39, .iload 4, 41, 0), (41, .ireturn, 42, 0)]]
-- TwoViewsModel.shift(III)I
set_option maxRecDepth 100000 in
noncomputable def mi_t215 : mi_T := [[(0, .aload_n 0, 1, 0), (1, .aload_n 0, 2, 0), (2, .iload_n 1, 3, 0), (3, .iload_n 2, 4, 0), (4, .iload_n 3, 5, 0), (5, .invokevirtual 151, 8, 151), (8, .ifCond .eq 7, 11, 15), (11, .iconst 0, 12, 0), (12, .goto 4, 15, 16), (15, .iconst 1, 16, 0), (16, .putfield 1, 19, 768), (19, .aload_n 0, 20, 0), (20, .getfield 1, 23, 768), (23, .ifCond .le 5, 26, 28), (26, .iconst 0, 27, 0), (27, .ireturn, 28, 0), (28, .aload_n 0, 29, 0), (29, .invokevirtual 237, 32, 206)],
  [(32, .aload_n 0, 33, 0), (33, .getfield 39, 36, 786), (36, .iload_n 1, 37, 0), (37, .iload_n 2, 38, 0), (38, .iload_n 3, 39, 0), (39, .invokestatic 184, 42, 185), (42, .iaload, 43, 0), (43, .ireturn, 44, 0)]]
-- TwoViewsModel.margin(II)I
set_option maxRecDepth 100000 in
noncomputable def mi_t216 : mi_T := [[(0, .aload_n 0, 1, 0), (1, .aload_n 0, 2, 0), (2, .iload_n 1, 3, 0), (3, .iload_n 2, 4, 0), (4, .invokevirtual 77, 7, 150), (7, .ifCond .eq 7, 10, 14), (10, .iconst 0, 11, 0), (11, .goto 4, 14, 15), (14, .iconst 1, 15, 0), (15, .putfield 1, 18, 768), (18, .aload_n 0, 19, 0), (19, .getfield 1, 22, 768), (22, .ifCond .le 5, 25, 27), (25, .iconst 0, 26, 0), (26, .ireturn, 27, 0), (27, .aload_n 0, 28, 0), (28, .invokevirtual 225, 31, 201), (31, .aload_n 0, 32, 0)],
  [(32, .iload_n 1, 33, 0), (33, .iload_n 2, 34, 0), (34, .invokevirtual 228, 37, 204), (37, .istore_n 3, 38, 0), (38, .ldc 205, 40, 100000000), (40, .istore 4, 42, 0), (42, .iconst 0, 43, 0), (43, .istore 5, 45, 0), (45, .iload 5, 47, 0), (47, .aload_n 0, 48, 0), (48, .getfield 13, 51, 769), (51, .iconst 2, 52, 0), (52, .iaload, 53, 0), (53, .if_icmp .gt 51, 56, 104), (56, .aload_n 0, 57, 0), (57, .getfield 36, 60, 785), (60, .iload_n 1, 61, 0), (61, .iload_n 2, 62, 0), (62, .iload 5, 64, 0)],
  [(64, .invokestatic 206, 67, 197), (67, .iaload, 68, 0), (68, .istore 6, 70, 0), (70, .iload 5, 72, 0), (72, .iload_n 3, 73, 0), (73, .isub, 74, 0), (74, .iconst (-1), 75, 0), (75, .iconst 1, 76, 0), (76, .invokestatic 73, 79, 144), (79, .ifCond .ne 15, 82, 94), (82, .iload 6, 84, 0), (84, .iload 4, 86, 0), (86, .if_icmp .ge 8, 89, 94), (89, .iload 6, 91, 0), (91, .goto 5, 94, 96), (94, .iload 4, 96, 0)],
  [(96, .istore 4, 98, 0), (98, .iinc 5 1, 101, 0), (101, .goto (-56), 104, 45), (104, .iload 4, 106, 0), (106, .ldc 205, 108, 100000000), (108, .if_icmp .ne 7, 111, 115), (111, .iconst (-1), 112, 0), (112, .goto 17, 115, 129), (115, .iload 4, 117, 0), (117, .aload_n 0, 118, 0), (118, .getfield 36, 121, 785), (121, .iload_n 1, 122, 0), (122, .iload_n 2, 123, 0), (123, .iload_n 3, 124, 0), (124, .invokestatic 206, 127, 197), (127, .iaload, 128, 0)],
  [(128, .isub, 129, 0), (129, .ireturn, 130, 0)]]
-- TwoViewsModel.kind(III)I
set_option maxRecDepth 100000 in
noncomputable def mi_t217 : mi_T := [[(0, .aload_n 0, 1, 0), (1, .iconst 0, 2, 0), (2, .putfield 1, 5, 768), (5, .aload_n 0, 6, 0), (6, .iload_n 1, 7, 0), (7, .iload_n 2, 8, 0), (8, .iload_n 3, 9, 0), (9, .invokevirtual 151, 12, 151), (12, .ifCond .ne 5, 15, 17), (15, .iconst (-1), 16, 0), (16, .ireturn, 17, 0), (17, .aload_n 0, 18, 0), (18, .invokevirtual 256, 21, 209), (21, .aload_n 0, 22, 0), (22, .iload_n 1, 23, 0), (23, .iload_n 2, 24, 0), (24, .iload_n 3, 25, 0), (25, .invokevirtual 259, 28, 214), (28, .ireturn, 29, 0)]]
-- TwoViewsModel.kinds(II)I
set_option maxRecDepth 100000 in
noncomputable def mi_t218 : mi_T := [[(0, .aload_n 0, 1, 0), (1, .iconst 0, 2, 0), (2, .putfield 1, 5, 768), (5, .iload_n 1, 6, 0), (6, .iconst 0, 7, 0), (7, .iconst 1, 8, 0), (8, .invokestatic 73, 11, 144), (11, .ifCond .eq 12, 14, 23), (14, .iload_n 2, 15, 0), (15, .iconst 0, 16, 0), (16, .iconst 2, 17, 0), (17, .invokestatic 73, 20, 144), (20, .ifCond .ne 5, 23, 25), (23, .iconst (-1), 24, 0), (24, .ireturn, 25, 0), (25, .aload_n 0, 26, 0), (26, .invokevirtual 256, 29, 209), (29, .iconst 0, 30, 0), (30, .istore_n 3, 31, 0), (31, .iconst 0, 32, 0)],
  [(32, .istore 4, 34, 0), (34, .iload 4, 36, 0), (36, .aload_n 0, 37, 0), (37, .getfield 13, 40, 769), (40, .iconst 1, 41, 0), (41, .iaload, 42, 0), (42, .if_icmp .ge 50, 45, 92), (45, .iconst 0, 46, 0), (46, .istore 5, 48, 0), (48, .iload 5, 50, 0), (50, .aload_n 0, 51, 0), (51, .getfield 13, 54, 769), (54, .iconst 0, 55, 0), (55, .iaload, 56, 0), (56, .if_icmp .ge 30, 59, 86), (59, .iload_n 3, 60, 0), (60, .aload_n 0, 61, 0), (61, .iload_n 1, 62, 0), (62, .iload 5, 64, 0)],
  [(64, .iload 4, 66, 0), (66, .invokevirtual 259, 69, 214), (69, .iload_n 2, 70, 0), (70, .if_icmp .ne 7, 73, 77), (73, .iconst 1, 74, 0), (74, .goto 4, 77, 78), (77, .iconst 0, 78, 0), (78, .iadd, 79, 0), (79, .istore_n 3, 80, 0), (80, .iinc 5 1, 83, 0), (83, .goto (-35), 86, 48), (86, .iinc 4 1, 89, 0), (89, .goto (-55), 92, 34), (92, .iload_n 3, 93, 0), (93, .ireturn, 94, 0)]]
-- TwoViewsModel.piece(III)I
set_option maxRecDepth 100000 in
noncomputable def mi_t219 : mi_T := [[(0, .aload_n 0, 1, 0), (1, .iconst 0, 2, 0), (2, .putfield 1, 5, 768), (5, .aload_n 0, 6, 0), (6, .iload_n 1, 7, 0), (7, .iload_n 2, 8, 0), (8, .iload_n 3, 9, 0), (9, .invokevirtual 151, 12, 151), (12, .ifCond .ne 5, 15, 17), (15, .iconst (-1), 16, 0), (16, .ireturn, 17, 0), (17, .aload_n 0, 18, 0), (18, .invokevirtual 256, 21, 209), (21, .aload_n 0, 22, 0), (22, .iload_n 1, 23, 0), (23, .iload_n 2, 24, 0), (24, .iload_n 3, 25, 0), (25, .invokevirtual 253, 28, 213), (28, .ireturn, 29, 0)]]
-- TwoViewsModel.isKept(I)Z
set_option maxRecDepth 100000 in
noncomputable def mi_t220 : mi_T := [[(0, .aload_n 0, 1, 0), (1, .getfield 48, 4, 789), (4, .iload_n 1, 5, 0), (5, .iaload, 6, 0), (6, .ifCond .le 23, 9, 29), (9, .aload_n 0, 10, 0), (10, .getfield 48, 13, 789), (13, .iload_n 1, 14, 0), (14, .iaload, 15, 0), (15, .aload_n 0, 16, 0), (16, .getfield 13, 19, 769), (19, .bipush 8, 21, 0), (21, .iaload, 22, 0), (22, .if_icmp .lt 7, 25, 29), (25, .iconst 1, 26, 0), (26, .goto 4, 29, 30), (29, .iconst 0, 30, 0), (30, .ireturn, 31, 1)]]
-- TwoViewsModel.pieces(II)I
set_option maxRecDepth 100000 in
noncomputable def mi_t221 : mi_T := [[(0, .aload_n 0, 1, 0), (1, .iconst 0, 2, 0), (2, .putfield 1, 5, 768), (5, .iload_n 1, 6, 0), (6, .iconst 0, 7, 0), (7, .iconst 1, 8, 0), (8, .invokestatic 73, 11, 144), (11, .ifCond .eq 12, 14, 23), (14, .iload_n 2, 15, 0), (15, .iconst 0, 16, 0), (16, .iconst 1, 17, 0), (17, .invokestatic 73, 20, 144), (20, .ifCond .ne 5, 23, 25), (23, .iconst (-1), 24, 0), (24, .ireturn, 25, 0), (25, .aload_n 0, 26, 0), (26, .invokevirtual 256, 29, 209), (29, .iconst 0, 30, 0), (30, .istore_n 3, 31, 0), (31, .iconst 0, 32, 0)],
  [(32, .istore 4, 34, 0), (34, .sipush 192, 37, 0), (37, .iload_n 1, 38, 0), (38, .imul, 39, 0), (39, .istore 5, 41, 0), (41, .iload 5, 43, 0), (43, .sipush 192, 46, 0), (46, .iload_n 1, 47, 0), (47, .iconst 1, 48, 0), (48, .iadd, 49, 0), (49, .imul, 50, 0), (50, .if_icmp .ge 47, 53, 97), (53, .aload_n 0, 54, 0), (54, .iload 5, 56, 0), (56, .invokevirtual 262, 59, 220), (59, .ifCond .eq 32, 62, 91), (62, .iinc 3 1, 65, 0)],
  [(65, .aload_n 0, 66, 0), (66, .getfield 48, 69, 789), (69, .iload 5, 71, 0), (71, .iaload, 72, 0), (72, .iload 4, 74, 0), (74, .if_icmp .le 13, 77, 87), (77, .aload_n 0, 78, 0), (78, .getfield 48, 81, 789), (81, .iload 5, 83, 0), (83, .iaload, 84, 0), (84, .goto 5, 87, 89), (87, .iload 4, 89, 0), (89, .istore 4, 91, 0), (91, .iinc 5 1, 94, 0), (94, .goto (-53), 97, 41)],
  [(97, .iload_n 2, 98, 0), (98, .ifCond .ne 7, 101, 105), (101, .iload_n 3, 102, 0), (102, .goto 5, 105, 107), (105, .iload 4, 107, 0), (107, .ireturn, 108, 0)]]
-- TwoViewsModel.aheadOf(II)I
set_option maxRecDepth 100000 in
noncomputable def mi_t222 : mi_T := [[(0, .iconst 0, 1, 0), (1, .istore_n 3, 2, 0), (2, .sipush 192, 5, 0), (5, .iload_n 1, 6, 0), (6, .imul, 7, 0), (7, .istore 4, 9, 0), (9, .iload 4, 11, 0), (11, .sipush 192, 14, 0), (14, .iload_n 1, 15, 0), (15, .iconst 1, 16, 0), (16, .iadd, 17, 0), (17, .imul, 18, 0), (18, .if_icmp .ge 76, 21, 94), (21, .aload_n 0, 22, 0), (22, .iload 4, 24, 0), (24, .invokevirtual 262, 27, 220), (27, .ifCond .eq 45, 30, 72), (30, .aload_n 0, 31, 0), (31, .getfield 48, 34, 789)],
  [(34, .iload 4, 36, 0), (36, .iaload, 37, 0), (37, .aload_n 0, 38, 0), (38, .getfield 48, 41, 789), (41, .iload_n 2, 42, 0), (42, .iaload, 43, 0), (43, .if_icmp .gt 25, 46, 68), (46, .aload_n 0, 47, 0), (47, .getfield 48, 50, 789), (50, .iload 4, 52, 0), (52, .iaload, 53, 0), (53, .aload_n 0, 54, 0), (54, .getfield 48, 57, 789), (57, .iload_n 2, 58, 0), (58, .iaload, 59, 0), (59, .if_icmp .ne 13, 62, 72), (62, .iload 4, 64, 0)],
  [(64, .iload_n 2, 65, 0), (65, .if_icmp .ge 7, 68, 72), (68, .iconst 1, 69, 0), (69, .goto 4, 72, 73), (72, .iconst 0, 73, 0), (73, .istore 5, 75, 0), (75, .iload_n 3, 76, 0), (76, .iload 5, 78, 0), (78, .ifCond .eq 7, 81, 85), (81, .iconst 1, 82, 0), (82, .goto 4, 85, 86), (85, .iconst 0, 86, 0), (86, .iadd, 87, 0), (87, .istore_n 3, 88, 0), (88, .iinc 4 1, 91, 0), (91, .goto (-82), 94, 9), (94, .iload_n 3, 95, 0), (95, .ireturn, 96, 0)]]
-- TwoViewsModel.tellsPiece(III)I
set_option maxRecDepth 100000 in
noncomputable def mi_t223 : mi_T := [[(0, .iload_n 2, 1, 0), (1, .sipush 192, 4, 0), (4, .iload_n 1, 5, 0), (5, .imul, 6, 0), (6, .isub, 7, 0), (7, .istore 4, 9, 0), (9, .bipush 16, 11, 0), (11, .istore 5, 13, 0), (13, .bipush 12, 15, 0), (15, .istore 6, 17, 0), (17, .iconst 0, 18, 0), (18, .istore 7, 20, 0), (20, .iconst 0, 21, 0), (21, .istore 8, 23, 0), (23, .iconst 0, 24, 0), (24, .istore 9, 26, 0), (26, .iconst 0, 27, 0), (27, .istore 10, 29, 0), (29, .iload 10, 31, 0), (31, .aload_n 0, 32, 0)],
  [(32, .getfield 13, 35, 769), (35, .iconst 1, 36, 0), (36, .iaload, 37, 0), (37, .if_icmp .ge 128, 40, 165), (40, .iconst 0, 41, 0), (41, .istore 11, 43, 0), (43, .iload 11, 45, 0), (45, .aload_n 0, 46, 0), (46, .getfield 13, 49, 769), (49, .iconst 0, 50, 0), (50, .iaload, 51, 0), (51, .if_icmp .ge 108, 54, 159), (54, .aload_n 0, 55, 0), (55, .getfield 45, 58, 788), (58, .iload_n 1, 59, 0), (59, .iload 11, 61, 0), (61, .iload 10, 63, 0), (63, .invokestatic 184, 66, 185)],
  [(66, .iaload, 67, 0), (67, .iload_n 2, 68, 0), (68, .if_icmp .ne 85, 71, 153), (71, .iload 11, 73, 0), (73, .iload 5, 75, 0), (75, .if_icmp .ge 8, 78, 83), (78, .iload 11, 80, 0), (80, .goto 5, 83, 85), (83, .iload 5, 85, 0), (85, .istore 5, 87, 0), (87, .iload 10, 89, 0), (89, .iload 6, 91, 0), (91, .if_icmp .ge 8, 94, 99), (94, .iload 10, 96, 0)],
  [(96, .goto 5, 99, 101), (99, .iload 6, 101, 0), (101, .istore 6, 103, 0), (103, .iload 11, 105, 0), (105, .iload 7, 107, 0), (107, .if_icmp .le 8, 110, 115), (110, .iload 11, 112, 0), (112, .goto 5, 115, 117), (115, .iload 7, 117, 0), (117, .istore 7, 119, 0), (119, .iload 10, 121, 0), (121, .iload 8, 123, 0), (123, .if_icmp .le 8, 126, 131), (126, .iload 10, 128, 0)],
  [(128, .goto 5, 131, 133), (131, .iload 8, 133, 0), (133, .istore 8, 135, 0), (135, .iload 9, 137, 0), (137, .aload_n 0, 138, 0), (138, .getfield 39, 141, 786), (141, .iload_n 1, 142, 0), (142, .iload 11, 144, 0), (144, .iload 10, 146, 0), (146, .invokestatic 184, 149, 185), (149, .iaload, 150, 0), (150, .iadd, 151, 0), (151, .istore 9, 153, 0), (153, .iinc 11 1, 156, 0), (156, .goto (-113), 159, 43), (159, .iinc 10 1, 162, 0)],
  [(162, .goto (-133), 165, 29), (165, .iload_n 3, 166, 0), (166, .tableswitch 73 0 6 #[42, 49, 55, 61, 64, 67, 70], 208, 0)],
  [(208, .aload_n 0, 209, 0), (209, .getfield 48, 212, 789), (212, .iload_n 2, 213, 0), (213, .iaload, 214, 0), (214, .ireturn, 215, 0), (215, .iload 4, 217, 0), (217, .bipush 16, 219, 0), (219, .irem, 220, 0), (220, .ireturn, 221, 0), (221, .iload 4, 223, 0), (223, .bipush 16, 225, 0)],
  [(225, .idiv, 226, 0), (226, .ireturn, 227, 0), (227, .iload 5, 229, 0), (229, .ireturn, 230, 0), (230, .iload 6, 232, 0), (232, .ireturn, 233, 0), (233, .iload 7, 235, 0), (235, .ireturn, 236, 0), (236, .iload 8, 238, 0), (238, .ireturn, 239, 0), (239, .iload 9, 241, 0), (241, .ireturn, 242, 0)]]
-- TwoViewsModel.pieceAt(III)I
set_option maxRecDepth 100000 in
noncomputable def mi_t224 : mi_T := [[(0, .aload_n 0, 1, 0), (1, .iconst 0, 2, 0), (2, .putfield 1, 5, 768), (5, .iload_n 1, 6, 0), (6, .iconst 0, 7, 0), (7, .iconst 1, 8, 0), (8, .invokestatic 73, 11, 144), (11, .ifCond .eq 17, 14, 28), (14, .iload_n 2, 15, 0), (15, .ifCond .lt 13, 18, 28), (18, .iload_n 3, 19, 0), (19, .iconst 0, 20, 0), (20, .bipush 7, 22, 0), (22, .invokestatic 73, 25, 144), (25, .ifCond .ne 5, 28, 30), (28, .iconst (-1), 29, 0), (29, .ireturn, 30, 0), (30, .aload_n 0, 31, 0), (31, .invokevirtual 256, 34, 209)],
  [(34, .sipush 192, 37, 0), (37, .iload_n 1, 38, 0), (38, .imul, 39, 0), (39, .istore 4, 41, 0), (41, .iload 4, 43, 0), (43, .sipush 192, 46, 0), (46, .iload_n 1, 47, 0), (47, .iconst 1, 48, 0), (48, .iadd, 49, 0), (49, .imul, 50, 0), (50, .if_icmp .ge 38, 53, 88), (53, .aload_n 0, 54, 0), (54, .iload 4, 56, 0), (56, .invokevirtual 262, 59, 220), (59, .ifCond .eq 23, 62, 82), (62, .aload_n 0, 63, 0), (63, .iload_n 1, 64, 0)],
  [(64, .iload 4, 66, 0), (66, .invokevirtual 265, 69, 222), (69, .iload_n 2, 70, 0), (70, .if_icmp .ne 12, 73, 82), (73, .aload_n 0, 74, 0), (74, .iload_n 1, 75, 0), (75, .iload 4, 77, 0), (77, .iload_n 3, 78, 0), (78, .invokevirtual 268, 81, 223), (81, .ireturn, 82, 0), (82, .iinc 4 1, 85, 0), (85, .goto (-44), 88, 41), (88, .iconst (-1), 89, 0), (89, .ireturn, 90, 0)]]
-- TwoViewsModel.nearestSure(IIIII)I
set_option maxRecDepth 100000 in
noncomputable def mi_t225 : mi_T := [[(0, .iload_n 2, 1, 0), (1, .iload 4, 3, 0), (3, .iadd, 4, 0), (4, .istore 6, 6, 0), (6, .iload_n 3, 7, 0), (7, .iload 5, 9, 0), (9, .iadd, 10, 0), (10, .istore 7, 12, 0), (12, .aload_n 0, 13, 0), (13, .iload 6, 15, 0), (15, .iload 7, 17, 0), (17, .invokevirtual 77, 20, 150), (20, .ifCond .eq 46, 23, 66), (23, .aload_n 0, 24, 0), (24, .iload_n 1, 25, 0), (25, .iload 6, 27, 0), (27, .iload 7, 29, 0), (29, .invokevirtual 259, 32, 214)],
  [(32, .ifCond .ne 17, 35, 49), (35, .aload_n 0, 36, 0), (36, .getfield 39, 39, 786), (39, .iload_n 1, 40, 0), (40, .iload 6, 42, 0), (42, .iload 7, 44, 0), (44, .invokestatic 184, 47, 185), (47, .iaload, 48, 0), (48, .ireturn, 49, 0), (49, .iload 6, 51, 0), (51, .iload 4, 53, 0), (53, .iadd, 54, 0), (54, .istore 6, 56, 0), (56, .iload 7, 58, 0), (58, .iload 5, 60, 0), (60, .iadd, 61, 0), (61, .istore 7, 63, 0), (63, .goto (-51), 66, 12)],
  [(66, .iconst (-1), 67, 0), (67, .ireturn, 68, 0)]]
-- TwoViewsModel.hiddenFill(III)I
set_option maxRecDepth 100000 in
noncomputable def mi_t226 : mi_T := [[(0, .aload_n 0, 1, 0), (1, .iload_n 1, 2, 0), (2, .iload_n 2, 3, 0), (3, .iload_n 3, 4, 0), (4, .iconst (-1), 5, 0), (5, .iconst 0, 6, 0), (6, .invokevirtual 271, 9, 225), (9, .istore 4, 11, 0), (11, .aload_n 0, 12, 0), (12, .iload_n 1, 13, 0), (13, .iload_n 2, 14, 0), (14, .iload_n 3, 15, 0), (15, .iconst 1, 16, 0), (16, .iconst 0, 17, 0), (17, .invokevirtual 271, 20, 225), (20, .istore 5, 22, 0), (22, .iload 4, 24, 0), (24, .ifCond .lt 8, 27, 32), (27, .iload 5, 29, 0), (29, .ifCond .ge 30, 32, 59)],
  [(32, .iload 4, 34, 0), (34, .ifCond .ge 12, 37, 46), (37, .iload 5, 39, 0), (39, .ifCond .ge 7, 42, 46), (42, .iconst 0, 43, 0), (43, .goto 15, 46, 58), (46, .iload 4, 48, 0), (48, .ifCond .ge 8, 51, 56), (51, .iload 5, 53, 0), (53, .goto 5, 56, 58), (56, .iload 4, 58, 0), (58, .ireturn, 59, 0), (59, .iload 4, 61, 0), (61, .iload 5, 63, 0), (63, .if_icmp .ge 8, 66, 71)],
  [(66, .iload 4, 68, 0), (68, .goto 5, 71, 73), (71, .iload 5, 73, 0), (73, .ireturn, 74, 0)]]
-- TwoViewsModel.unlikeFill(III)I
set_option maxRecDepth 100000 in
noncomputable def mi_t227 : mi_T := [[(0, .iconst 0, 1, 0), (1, .istore 4, 3, 0), (3, .iconst 0, 4, 0), (4, .istore 5, 6, 0), (6, .iconst 0, 7, 0), (7, .istore 6, 9, 0), (9, .iload 6, 11, 0), (11, .bipush 8, 13, 0), (13, .if_icmp .ge 47, 16, 60), (16, .aload_n 0, 17, 0), (17, .iload_n 1, 18, 0), (18, .iload_n 2, 19, 0), (19, .iload_n 3, 20, 0), (20, .iload 6, 22, 0), (22, .invokestatic 213, 25, 195), (25, .iload 6, 27, 0), (27, .invokestatic 216, 30, 196), (30, .invokevirtual 271, 33, 225)],
  [(33, .istore 7, 35, 0), (35, .iload 7, 37, 0), (37, .ifCond .lt 17, 40, 54), (40, .iload 5, 42, 0), (42, .iconst 1, 43, 0), (43, .iconst 4, 44, 0), (44, .iload 7, 46, 0), (46, .imul, 47, 0), (47, .ishl, 48, 0), (48, .iadd, 49, 0), (49, .istore 5, 51, 0), (51, .iinc 4 1, 54, 0), (54, .iinc 6 1, 57, 0), (57, .goto (-48), 60, 9), (60, .iload 4, 62, 0), (62, .iconst 1, 63, 0), (63, .isub, 64, 0)],
  [(64, .iconst 2, 65, 0), (65, .idiv, 66, 0), (66, .istore 6, 68, 0), (68, .iconst 0, 69, 0), (69, .istore 7, 71, 0), (71, .iload 7, 73, 0), (73, .bipush 8, 75, 0), (75, .if_icmp .ge 37, 78, 112), (78, .iload 4, 80, 0), (80, .ifCond .le 32, 83, 112), (83, .iload 6, 85, 0), (85, .iload 5, 87, 0), (87, .iconst 4, 88, 0), (88, .iload 7, 90, 0), (90, .imul, 91, 0), (91, .iushr, 92, 0), (92, .bipush 15, 94, 0), (94, .iand, 95, 0), (95, .isub, 96, 0)],
  [(96, .istore 6, 98, 0), (98, .iload 6, 100, 0), (100, .ifCond .ge 6, 103, 106), (103, .iload 7, 105, 0), (105, .ireturn, 106, 0), (106, .iinc 7 1, 109, 0), (109, .goto (-38), 112, 71), (112, .iconst 0, 113, 0), (113, .ireturn, 114, 0)]]
-- TwoViewsModel.laysFills()V
set_option maxRecDepth 100000 in
noncomputable def mi_t228 : mi_T := [[(0, .aload_n 0, 1, 0), (1, .invokevirtual 256, 4, 209), (4, .iconst 0, 5, 0), (5, .istore_n 1, 6, 0), (6, .iload_n 1, 7, 0), (7, .iconst 2, 8, 0), (8, .if_icmp .ge 107, 11, 115), (11, .iconst 0, 12, 0), (12, .istore_n 2, 13, 0), (13, .iload_n 2, 14, 0), (14, .aload_n 0, 15, 0), (15, .getfield 13, 18, 769), (18, .iconst 1, 19, 0), (19, .iaload, 20, 0), (20, .if_icmp .ge 89, 23, 109), (23, .iconst 0, 24, 0), (24, .istore_n 3, 25, 0), (25, .iload_n 3, 26, 0), (26, .aload_n 0, 27, 0), (27, .getfield 13, 30, 769), (30, .iconst 0, 31, 0), (31, .iaload, 32, 0)],
  [(32, .if_icmp .ge 71, 35, 103), (35, .iload_n 1, 36, 0), (36, .iload_n 3, 37, 0), (37, .iload_n 2, 38, 0), (38, .invokestatic 184, 41, 185), (41, .istore 4, 43, 0), (43, .aload_n 0, 44, 0), (44, .iload_n 1, 45, 0), (45, .iload_n 3, 46, 0), (46, .iload_n 2, 47, 0), (47, .invokevirtual 259, 50, 214), (50, .istore 5, 52, 0), (52, .aload_n 0, 53, 0), (53, .getfield 51, 56, 790), (56, .iload 4, 58, 0), (58, .iload 5, 60, 0), (60, .ifCond .ne 13, 63, 73), (63, .aload_n 0, 64, 0)],
  [(64, .getfield 39, 67, 786), (67, .iload 4, 69, 0), (69, .iaload, 70, 0), (70, .goto 26, 73, 96), (73, .iload 5, 75, 0), (75, .iconst 2, 76, 0), (76, .if_icmp .ne 13, 79, 89), (79, .aload_n 0, 80, 0), (80, .iload_n 1, 81, 0), (81, .iload_n 3, 82, 0), (82, .iload_n 2, 83, 0), (83, .invokevirtual 275, 86, 226), (86, .goto 10, 89, 96), (89, .aload_n 0, 90, 0), (90, .iload_n 1, 91, 0), (91, .iload_n 3, 92, 0), (92, .iload_n 2, 93, 0), (93, .invokevirtual 278, 96, 227)],
  [(96, .iastore, 97, 0), (97, .iinc 3 1, 100, 0), (100, .goto (-75), 103, 25), (103, .iinc 2 1, 106, 0), (106, .goto (-93), 109, 13), (109, .iinc 1 1, 112, 0), (112, .goto (-106), 115, 6), (115, .return_, 116, 0)]]
-- TwoViewsModel.filled(III)I
set_option maxRecDepth 100000 in
noncomputable def mi_t229 : mi_T := [[(0, .aload_n 0, 1, 0), (1, .aload_n 0, 2, 0), (2, .iload_n 1, 3, 0), (3, .iload_n 2, 4, 0), (4, .iload_n 3, 5, 0), (5, .invokevirtual 151, 8, 151), (8, .ifCond .eq 7, 11, 15), (11, .iconst 0, 12, 0), (12, .goto 4, 15, 16), (15, .iconst 1, 16, 0), (16, .putfield 1, 19, 768), (19, .aload_n 0, 20, 0), (20, .getfield 1, 23, 768), (23, .ifCond .le 5, 26, 28), (26, .iconst 0, 27, 0), (27, .ireturn, 28, 0), (28, .aload_n 0, 29, 0), (29, .invokevirtual 281, 32, 228)],
  [(32, .aload_n 0, 33, 0), (33, .getfield 51, 36, 790), (36, .iload_n 1, 37, 0), (37, .iload_n 2, 38, 0), (38, .iload_n 3, 39, 0), (39, .invokestatic 184, 42, 185), (42, .iaload, 43, 0), (43, .ireturn, 44, 0)]]
-- TwoViewsModel.depth(II)I
set_option maxRecDepth 100000 in
noncomputable def mi_t230 : mi_T := [[(0, .aload_n 0, 1, 0), (1, .aload_n 0, 2, 0), (2, .iload_n 1, 3, 0), (3, .iload_n 2, 4, 0), (4, .invokevirtual 77, 7, 150), (7, .ifCond .eq 7, 10, 14), (10, .iconst 0, 11, 0), (11, .goto 4, 14, 15), (14, .iconst 1, 15, 0), (15, .putfield 1, 18, 768), (18, .aload_n 0, 19, 0), (19, .getfield 1, 22, 768), (22, .ifCond .le 5, 25, 27), (25, .iconst 0, 26, 0), (26, .ireturn, 27, 0), (27, .aload_n 0, 28, 0), (28, .invokevirtual 281, 31, 228), (31, .aload_n 0, 32, 0)],
  [(32, .getfield 51, 35, 790), (35, .iconst 0, 36, 0), (36, .iload_n 1, 37, 0), (37, .iload_n 2, 38, 0), (38, .invokestatic 184, 41, 185), (41, .iaload, 42, 0), (42, .istore_n 3, 43, 0), (43, .iload_n 3, 44, 0), (44, .ifCond .ne 8, 47, 52), (47, .bipush (-2), 49, 0), (49, .goto 12, 52, 61), (52, .aload_n 0, 53, 0), (53, .getfield 13, 56, 769), (56, .bipush 9, 58, 0), (58, .iaload, 59, 0), (59, .iload_n 3, 60, 0), (60, .idiv, 61, 0), (61, .ireturn, 62, 0)]]
-- TwoViewsModel.fine(II)I
set_option maxRecDepth 100000 in
noncomputable def mi_t231 : mi_T := [[(0, .aload_n 0, 1, 0), (1, .aload_n 0, 2, 0), (2, .iload_n 1, 3, 0), (3, .iload_n 2, 4, 0), (4, .invokevirtual 77, 7, 150), (7, .ifCond .eq 7, 10, 14), (10, .iconst 0, 11, 0), (11, .goto 4, 14, 15), (14, .iconst 1, 15, 0), (15, .putfield 1, 18, 768), (18, .aload_n 0, 19, 0), (19, .getfield 1, 22, 768), (22, .ifCond .le 5, 25, 27), (25, .iconst 0, 26, 0), (26, .ireturn, 27, 0), (27, .aload_n 0, 28, 0), (28, .invokevirtual 225, 31, 201), (31, .aload_n 0, 32, 0)],
  [(32, .iload_n 1, 33, 0), (33, .iload_n 2, 34, 0), (34, .invokevirtual 228, 37, 204), (37, .istore_n 3, 38, 0), (38, .iload_n 3, 39, 0), (39, .ifCond .eq 13, 42, 52), (42, .iload_n 3, 43, 0), (43, .aload_n 0, 44, 0), (44, .getfield 13, 47, 769), (47, .iconst 2, 48, 0), (48, .iaload, 49, 0), (49, .if_icmp .ne 8, 52, 57), (52, .bipush 16, 54, 0), (54, .iload_n 3, 55, 0), (55, .imul, 56, 0), (56, .ireturn, 57, 0), (57, .aload_n 0, 58, 0), (58, .getfield 36, 61, 785), (61, .iload_n 1, 62, 0), (62, .iload_n 2, 63, 0), (63, .iload_n 3, 64, 0)],
  [(64, .iconst 1, 65, 0), (65, .isub, 66, 0), (66, .invokestatic 206, 69, 197), (69, .iaload, 70, 0), (70, .istore 4, 72, 0), (72, .aload_n 0, 73, 0), (73, .getfield 36, 76, 785), (76, .iload_n 1, 77, 0), (77, .iload_n 2, 78, 0), (78, .iload_n 3, 79, 0), (79, .invokestatic 206, 82, 197), (82, .iaload, 83, 0), (83, .istore 5, 85, 0), (85, .aload_n 0, 86, 0), (86, .getfield 36, 89, 785), (89, .iload_n 1, 90, 0), (90, .iload_n 2, 91, 0), (91, .iload_n 3, 92, 0), (92, .iconst 1, 93, 0), (93, .iadd, 94, 0), (94, .invokestatic 206, 97, 197)],
  [(97, .iaload, 98, 0), (98, .istore 6, 100, 0), (100, .iload 4, 102, 0), (102, .iload 6, 104, 0), (104, .iadd, 105, 0), (105, .iconst 2, 106, 0), (106, .iload 5, 108, 0), (108, .imul, 109, 0), (109, .isub, 110, 0), (110, .istore 7, 112, 0), (112, .bipush 16, 114, 0), (114, .iload_n 3, 115, 0), (115, .imul, 116, 0), (116, .iload 7, 118, 0), (118, .ifCond .le 19, 121, 137), (121, .bipush 8, 123, 0), (123, .iload 4, 125, 0), (125, .iload 6, 127, 0), (127, .isub, 128, 0)],
  [(128, .imul, 129, 0), (129, .iload 7, 131, 0), (131, .invokestatic 284, 134, 259), (134, .goto 4, 137, 138), (137, .iconst 0, 138, 0), (138, .iadd, 139, 0), (139, .ireturn, 140, 0)]]
-- TwoViewsModel.votesFor(II)I
set_option maxRecDepth 100000 in
noncomputable def mi_t232 : mi_T := [[(0, .iconst 0, 1, 0), (1, .istore_n 3, 2, 0), (2, .iconst 0, 3, 0), (3, .istore 4, 5, 0), (5, .iload 4, 7, 0), (7, .aload_n 0, 8, 0), (8, .getfield 13, 11, 769), (11, .iconst 1, 12, 0), (12, .iaload, 13, 0), (13, .if_icmp .ge 76, 16, 89), (16, .iconst 0, 17, 0), (17, .istore 5, 19, 0), (19, .iload 5, 21, 0), (21, .aload_n 0, 22, 0), (22, .getfield 13, 25, 769), (25, .iconst 0, 26, 0), (26, .iaload, 27, 0), (27, .if_icmp .ge 56, 30, 83), (30, .iload_n 3, 31, 0), (31, .aload_n 0, 32, 0)],
  [(32, .iconst 0, 33, 0), (33, .iload 5, 35, 0), (35, .iload 4, 37, 0), (37, .invokevirtual 259, 40, 214), (40, .ifCond .ne 34, 43, 74), (43, .aload_n 0, 44, 0), (44, .getfield 39, 47, 786), (47, .iconst 0, 48, 0), (48, .iload 5, 50, 0), (50, .iload 4, 52, 0), (52, .invokestatic 184, 55, 185), (55, .iaload, 56, 0), (56, .iload_n 1, 57, 0), (57, .iload_n 2, 58, 0), (58, .iload 4, 60, 0), (60, .imul, 61, 0), (61, .iadd, 62, 0), (62, .iconst 4, 63, 0), (63, .iadd, 64, 0)],
  [(64, .bipush 8, 66, 0), (66, .idiv, 67, 0), (67, .if_icmp .ne 7, 70, 74), (70, .iconst 1, 71, 0), (71, .goto 4, 74, 75), (74, .iconst 0, 75, 0), (75, .iadd, 76, 0), (76, .istore_n 3, 77, 0), (77, .iinc 5 1, 80, 0), (80, .goto (-61), 83, 19), (83, .iinc 4 1, 86, 0), (86, .goto (-81), 89, 5), (89, .iload_n 3, 90, 0), (90, .ireturn, 91, 0)]]
-- TwoViewsModel.votes(II)I
set_option maxRecDepth 100000 in
noncomputable def mi_t233 : mi_T := [[(0, .aload_n 0, 1, 0), (1, .iconst 0, 2, 0), (2, .putfield 1, 5, 768), (5, .iload_n 1, 6, 0), (6, .iconst 0, 7, 0), (7, .bipush 8, 9, 0), (9, .aload_n 0, 10, 0), (10, .getfield 13, 13, 769), (13, .iconst 2, 14, 0), (14, .iaload, 15, 0), (15, .imul, 16, 0), (16, .invokestatic 73, 19, 144), (19, .ifCond .eq 13, 22, 32), (22, .iload_n 2, 23, 0), (23, .iconst 0, 24, 0), (24, .bipush 8, 26, 0), (26, .invokestatic 73, 29, 144), (29, .ifCond .ne 5, 32, 34)],
  [(32, .iconst (-1), 33, 0), (33, .ireturn, 34, 0), (34, .aload_n 0, 35, 0), (35, .invokevirtual 256, 38, 209), (38, .aload_n 0, 39, 0), (39, .iload_n 1, 40, 0), (40, .iload_n 2, 41, 0), (41, .invokevirtual 289, 44, 232), (44, .ireturn, 45, 0)]]
-- TwoViewsModel.ground(I)I
set_option maxRecDepth 100000 in
noncomputable def mi_t234 : mi_T := [[(0, .aload_n 0, 1, 0), (1, .iconst 0, 2, 0), (2, .putfield 1, 5, 768), (5, .iload_n 1, 6, 0), (6, .iconst 0, 7, 0), (7, .iconst 2, 8, 0), (8, .invokestatic 73, 11, 144), (11, .ifCond .ne 5, 14, 16), (14, .iconst (-1), 15, 0), (15, .ireturn, 16, 0), (16, .aload_n 0, 17, 0), (17, .invokevirtual 256, 20, 209), (20, .iconst 0, 21, 0), (21, .istore_n 2, 22, 0), (22, .iconst 0, 23, 0), (23, .istore_n 3, 24, 0), (24, .iconst (-1), 25, 0), (25, .istore 4, 27, 0), (27, .iconst 0, 28, 0), (28, .istore 5, 30, 0), (30, .iconst 0, 31, 0), (31, .istore 6, 33, 0)],
  [(33, .iload 6, 35, 0), (35, .aload_n 0, 36, 0), (36, .getfield 13, 39, 769), (39, .iconst 1, 40, 0), (40, .iaload, 41, 0), (41, .if_icmp .ge 53, 44, 94), (44, .iconst 0, 45, 0), (45, .istore 7, 47, 0), (47, .iload 7, 49, 0), (49, .aload_n 0, 50, 0), (50, .getfield 13, 53, 769), (53, .iconst 0, 54, 0), (54, .iaload, 55, 0), (55, .if_icmp .ge 33, 58, 88), (58, .iload 5, 60, 0), (60, .ifCond .ne 15, 63, 75), (63, .aload_n 0, 64, 0)],
  [(64, .iconst 0, 65, 0), (65, .iload 7, 67, 0), (67, .iload 6, 69, 0), (69, .invokevirtual 259, 72, 214), (72, .ifCond .ne 7, 75, 79), (75, .iconst 1, 76, 0), (76, .goto 4, 79, 80), (79, .iconst 0, 80, 0), (80, .istore 5, 82, 0), (82, .iinc 7 1, 85, 0), (85, .goto (-38), 88, 47), (88, .iinc 6 1, 91, 0), (91, .goto (-58), 94, 33), (94, .iconst 0, 95, 0), (95, .istore 6, 97, 0)],
  [(97, .iload 6, 99, 0), (99, .bipush 8, 101, 0), (101, .if_icmp .gt 64, 104, 165), (104, .iload 5, 106, 0), (106, .ifCond .eq 59, 109, 165), (109, .iconst 0, 110, 0), (110, .istore 7, 112, 0), (112, .iload 7, 114, 0), (114, .bipush 8, 116, 0), (116, .aload_n 0, 117, 0), (117, .getfield 13, 120, 769), (120, .iconst 2, 121, 0), (121, .iaload, 122, 0), (122, .imul, 123, 0), (123, .if_icmp .gt 36, 126, 159), (126, .aload_n 0, 127, 0), (127, .iload 7, 129, 0)],
  [(129, .iload 6, 131, 0), (131, .invokevirtual 289, 134, 232), (134, .istore 8, 136, 0), (136, .iload 8, 138, 0), (138, .iload 4, 140, 0), (140, .if_icmp .le 13, 143, 153), (143, .iload 8, 145, 0), (145, .istore 4, 147, 0), (147, .iload 7, 149, 0), (149, .istore_n 2, 150, 0), (150, .iload 6, 152, 0), (152, .istore_n 3, 153, 0), (153, .iinc 7 1, 156, 0), (156, .goto (-44), 159, 112), (159, .iinc 6 1, 162, 0)],
  [(162, .goto (-65), 165, 97), (165, .iload 5, 167, 0), (167, .ifCond .ne 7, 170, 174), (170, .iconst (-1), 171, 0), (171, .goto 22, 174, 193), (174, .iload_n 1, 175, 0), (175, .ifCond .ne 7, 178, 182), (178, .iload_n 2, 179, 0), (179, .goto 14, 182, 193), (182, .iload_n 1, 183, 0), (183, .iconst 1, 184, 0), (184, .if_icmp .ne 7, 187, 191), (187, .iload_n 3, 188, 0), (188, .goto 5, 191, 193), (191, .iload 4, 193, 0)],
  [(193, .ireturn, 194, 0)]]
-- TwoViewsModel.comesTo(IIII)I
set_option maxRecDepth 100000 in
noncomputable def mi_t235 : mi_T := [[(0, .iconst (-1), 1, 0), (1, .istore 5, 3, 0), (3, .iconst 0, 4, 0), (4, .istore 6, 6, 0), (6, .iload 6, 8, 0), (8, .aload_n 0, 9, 0), (9, .getfield 13, 12, 769), (12, .iconst 0, 13, 0), (13, .iaload, 14, 0), (14, .if_icmp .ge 101, 17, 115), (17, .aload_n 0, 18, 0), (18, .getfield 51, 21, 790), (21, .iload_n 1, 22, 0), (22, .iload 6, 24, 0), (24, .iload 4, 26, 0), (26, .invokestatic 184, 29, 185), (29, .iaload, 30, 0), (30, .istore 7, 32, 0)],
  [(32, .iload_n 1, 33, 0), (33, .ifCond .ne 7, 36, 40), (36, .iload_n 2, 37, 0), (37, .goto 6, 40, 43), (40, .iconst 4, 41, 0), (41, .iload_n 2, 42, 0), (42, .isub, 43, 0), (43, .iload 7, 45, 0), (45, .imul, 46, 0), (46, .iconst 2, 47, 0), (47, .iadd, 48, 0), (48, .iconst 4, 49, 0), (49, .idiv, 50, 0), (50, .istore 8, 52, 0), (52, .iload_n 1, 53, 0), (53, .ifCond .ne 11, 56, 64), (56, .iload 6, 58, 0), (58, .iload 8, 60, 0), (60, .isub, 61, 0), (61, .goto 8, 64, 69)],
  [(64, .iload 6, 66, 0), (66, .iload 8, 68, 0), (68, .iadd, 69, 0), (69, .istore 9, 71, 0), (71, .iload 9, 73, 0), (73, .iload_n 3, 74, 0), (74, .if_icmp .ne 31, 77, 105), (77, .iload 5, 79, 0), (79, .ifCond .lt 21, 82, 100), (82, .iload 7, 84, 0), (84, .aload_n 0, 85, 0), (85, .getfield 51, 88, 790), (88, .iload_n 1, 89, 0), (89, .iload 5, 91, 0), (91, .iload 4, 93, 0), (93, .invokestatic 184, 96, 185)],
  [(96, .iaload, 97, 0), (97, .if_icmp .le 8, 100, 105), (100, .iload 6, 102, 0), (102, .goto 5, 105, 107), (105, .iload 5, 107, 0), (107, .istore 5, 109, 0), (109, .iinc 6 1, 112, 0), (112, .goto (-106), 115, 6), (115, .iload 5, 117, 0), (117, .ireturn, 118, 0)]]
-- TwoViewsModel.betweenAt(III)I
set_option maxRecDepth 100000 in
noncomputable def mi_t236 : mi_T := [[(0, .aload_n 0, 1, 0), (1, .iconst 0, 2, 0), (2, .iload_n 1, 3, 0), (3, .iload_n 2, 4, 0), (4, .iload_n 3, 5, 0), (5, .invokevirtual 292, 8, 235), (8, .istore 4, 10, 0), (10, .iload 4, 12, 0), (12, .ifCond .lt 12, 15, 24), (15, .aload_n 0, 16, 0), (16, .iconst 0, 17, 0), (17, .iload 4, 19, 0), (19, .iload_n 3, 20, 0), (20, .invokevirtual 154, 23, 153), (23, .ireturn, 24, 0), (24, .aload_n 0, 25, 0), (25, .iconst 1, 26, 0), (26, .iload_n 1, 27, 0), (27, .iload_n 2, 28, 0), (28, .iload_n 3, 29, 0), (29, .invokevirtual 292, 32, 235)],
  [(32, .istore 4, 34, 0), (34, .iload 4, 36, 0), (36, .ifCond .lt 14, 39, 50), (39, .aload_n 0, 40, 0), (40, .iconst 1, 41, 0), (41, .iload 4, 43, 0), (43, .iload_n 3, 44, 0), (44, .invokevirtual 154, 47, 153), (47, .goto 5, 50, 52), (50, .bipush (-2), 52, 0), (52, .ireturn, 53, 0)]]
-- TwoViewsModel.between(III)I
set_option maxRecDepth 100000 in
noncomputable def mi_t237 : mi_T := [[(0, .aload_n 0, 1, 0), (1, .iconst 0, 2, 0), (2, .putfield 1, 5, 768), (5, .iload_n 1, 6, 0), (6, .iconst 0, 7, 0), (7, .iconst 4, 8, 0), (8, .invokestatic 73, 11, 144), (11, .ifCond .eq 12, 14, 23), (14, .aload_n 0, 15, 0), (15, .iload_n 2, 16, 0), (16, .iload_n 3, 17, 0), (17, .invokevirtual 77, 20, 150), (20, .ifCond .ne 5, 23, 25), (23, .iconst (-1), 24, 0), (24, .ireturn, 25, 0), (25, .aload_n 0, 26, 0), (26, .invokevirtual 281, 29, 228), (29, .aload_n 0, 30, 0), (30, .iload_n 1, 31, 0), (31, .iload_n 2, 32, 0)],
  [(32, .iload_n 3, 33, 0), (33, .invokevirtual 296, 36, 236), (36, .ireturn, 37, 0)]]
-- TwoViewsModel.holes(I)I
set_option maxRecDepth 100000 in
noncomputable def mi_t238 : mi_T := [[(0, .aload_n 0, 1, 0), (1, .iconst 0, 2, 0), (2, .putfield 1, 5, 768), (5, .iload_n 1, 6, 0), (6, .iconst 0, 7, 0), (7, .iconst 4, 8, 0), (8, .invokestatic 73, 11, 144), (11, .ifCond .ne 5, 14, 16), (14, .iconst (-1), 15, 0), (15, .ireturn, 16, 0), (16, .aload_n 0, 17, 0), (17, .invokevirtual 281, 20, 228), (20, .iconst 0, 21, 0), (21, .istore_n 2, 22, 0), (22, .iconst 0, 23, 0), (23, .istore_n 3, 24, 0), (24, .iload_n 3, 25, 0), (25, .aload_n 0, 26, 0), (26, .getfield 13, 29, 769), (29, .iconst 1, 30, 0), (30, .iaload, 31, 0), (31, .if_icmp .ge 50, 34, 81)],
  [(34, .iconst 0, 35, 0), (35, .istore 4, 37, 0), (37, .iload 4, 39, 0), (39, .aload_n 0, 40, 0), (40, .getfield 13, 43, 769), (43, .iconst 0, 44, 0), (44, .iaload, 45, 0), (45, .if_icmp .ge 30, 48, 75), (48, .iload_n 2, 49, 0), (49, .aload_n 0, 50, 0), (50, .iload_n 1, 51, 0), (51, .iload 4, 53, 0), (53, .iload_n 3, 54, 0), (54, .invokevirtual 296, 57, 236), (57, .bipush (-2), 59, 0), (59, .if_icmp .ne 7, 62, 66), (62, .iconst 1, 63, 0), (63, .goto 4, 66, 67)],
  [(66, .iconst 0, 67, 0), (67, .iadd, 68, 0), (68, .istore_n 2, 69, 0), (69, .iinc 4 1, 72, 0), (72, .goto (-35), 75, 37), (75, .iinc 3 1, 78, 0), (78, .goto (-54), 81, 24), (81, .iload_n 2, 82, 0), (82, .ireturn, 83, 0)]]
-- TwoViewsModel.stepCost(II)I
set_option maxRecDepth 100000 in
noncomputable def mi_t239 : mi_T := [[(0, .iload_n 1, 1, 0), (1, .iload_n 2, 2, 0), (2, .if_icmp .le 9, 5, 11), (5, .iload_n 1, 6, 0), (6, .iload_n 2, 7, 0), (7, .isub, 8, 0), (8, .goto 6, 11, 14), (11, .iload_n 2, 12, 0), (12, .iload_n 1, 13, 0), (13, .isub, 14, 0), (14, .istore_n 3, 15, 0), (15, .iload_n 3, 16, 0), (16, .ifCond .ne 7, 19, 23), (19, .iconst 0, 20, 0), (20, .goto 23, 23, 43), (23, .iload_n 3, 24, 0), (24, .iconst 1, 25, 0), (25, .if_icmp .ne 12, 28, 37), (28, .aload_n 0, 29, 0), (29, .getfield 13, 32, 769)],
  [(32, .iconst 4, 33, 0), (33, .iaload, 34, 0), (34, .goto 9, 37, 43), (37, .aload_n 0, 38, 0), (38, .getfield 13, 41, 769), (41, .iconst 5, 42, 0), (42, .iaload, 43, 0), (43, .ireturn, 44, 0)]]
-- TwoViewsModel.laysRow(I)I
set_option maxRecDepth 100000 in
noncomputable def mi_t240 : mi_T := [[(0, .iconst 0, 1, 0), (1, .istore_n 2, 2, 0), (2, .iload_n 2, 3, 0), (3, .aload_n 0, 4, 0), (4, .getfield 13, 7, 769), (7, .iconst 0, 8, 0), (8, .iaload, 9, 0), (9, .if_icmp .ge 124, 12, 133), (12, .iconst 0, 13, 0), (13, .istore_n 3, 14, 0), (14, .iload_n 3, 15, 0), (15, .aload_n 0, 16, 0), (16, .getfield 13, 19, 769), (19, .iconst 2, 20, 0), (20, .iaload, 21, 0), (21, .if_icmp .gt 106, 24, 127), (24, .iload_n 2, 25, 0), (25, .ifCond .ne 7, 28, 32), (28, .iconst 0, 29, 0), (29, .goto 5, 32, 34)],
  [(32, .ldc 205, 34, 100000000), (34, .istore 4, 36, 0), (36, .iconst 0, 37, 0), (37, .istore 5, 39, 0), (39, .iload 5, 41, 0), (41, .aload_n 0, 42, 0), (42, .getfield 13, 45, 769), (45, .iconst 2, 46, 0), (46, .iaload, 47, 0), (47, .if_icmp .gt 53, 50, 100), (50, .iload_n 2, 51, 0), (51, .ifCond .le 49, 54, 100), (54, .aload_n 0, 55, 0), (55, .getfield 54, 58, 791), (58, .bipush 8, 60, 0), (60, .iload_n 2, 61, 0), (61, .iconst 1, 62, 0), (62, .isub, 63, 0), (63, .imul, 64, 0)],
  [(64, .iload 5, 66, 0), (66, .iadd, 67, 0), (67, .iaload, 68, 0), (68, .aload_n 0, 69, 0), (69, .iload_n 3, 70, 0), (70, .iload 5, 72, 0), (72, .invokevirtual 299, 75, 239), (75, .iadd, 76, 0), (76, .istore 6, 78, 0), (78, .iload 6, 80, 0), (80, .iload 4, 82, 0), (82, .if_icmp .ge 8, 85, 90), (85, .iload 6, 87, 0), (87, .goto 5, 90, 92), (90, .iload 4, 92, 0), (92, .istore 4, 94, 0), (94, .iinc 5 1, 97, 0)],
  [(97, .goto (-58), 100, 39), (100, .aload_n 0, 101, 0), (101, .getfield 54, 104, 791), (104, .bipush 8, 106, 0), (106, .iload_n 2, 107, 0), (107, .imul, 108, 0), (108, .iload_n 3, 109, 0), (109, .iadd, 110, 0), (110, .iload 4, 112, 0), (112, .aload_n 0, 113, 0), (113, .iload_n 2, 114, 0), (114, .iload_n 1, 115, 0), (115, .iload_n 3, 116, 0), (116, .invokevirtual 202, 119, 192), (119, .iadd, 120, 0), (120, .iastore, 121, 0), (121, .iinc 3 1, 124, 0), (124, .goto (-110), 127, 14), (127, .iinc 2 1, 130, 0)],
  [(130, .goto (-128), 133, 2), (133, .ldc 205, 135, 100000000), (135, .istore_n 2, 136, 0), (136, .iconst 0, 137, 0), (137, .istore_n 3, 138, 0), (138, .iload_n 3, 139, 0), (139, .aload_n 0, 140, 0), (140, .getfield 13, 143, 769), (143, .iconst 2, 144, 0), (144, .iaload, 145, 0), (145, .if_icmp .gt 42, 148, 187), (148, .aload_n 0, 149, 0), (149, .getfield 54, 152, 791), (152, .bipush 8, 154, 0), (154, .aload_n 0, 155, 0), (155, .getfield 13, 158, 769), (158, .iconst 0, 159, 0), (159, .iaload, 160, 0)],
  [(160, .iconst 1, 161, 0), (161, .isub, 162, 0), (162, .imul, 163, 0), (163, .iload_n 3, 164, 0), (164, .iadd, 165, 0), (165, .iaload, 166, 0), (166, .istore 4, 168, 0), (168, .iload 4, 170, 0), (170, .iload_n 2, 171, 0), (171, .if_icmp .ge 8, 174, 179), (174, .iload 4, 176, 0), (176, .goto 4, 179, 180), (179, .iload_n 2, 180, 0), (180, .istore_n 2, 181, 0), (181, .iinc 3 1, 184, 0), (184, .goto (-46), 187, 138), (187, .iload_n 2, 188, 0), (188, .istore_n 3, 189, 0), (189, .aload_n 0, 190, 0), (190, .getfield 13, 193, 769)],
  [(193, .iconst 0, 194, 0), (194, .iaload, 195, 0), (195, .iconst 1, 196, 0), (196, .isub, 197, 0), (197, .istore 4, 199, 0), (199, .iload 4, 201, 0), (201, .ifCond .lt 101, 204, 302), (204, .iconst 0, 205, 0), (205, .istore 5, 207, 0), (207, .aload_n 0, 208, 0), (208, .getfield 54, 211, 791), (211, .bipush 8, 213, 0), (213, .iload 4, 215, 0), (215, .imul, 216, 0), (216, .iload 5, 218, 0), (218, .iadd, 219, 0), (219, .iaload, 220, 0), (220, .iload 4, 222, 0), (222, .aload_n 0, 223, 0), (223, .getfield 13, 226, 769)],
  [(226, .iconst 0, 227, 0), (227, .iaload, 228, 0), (228, .iconst 1, 229, 0), (229, .isub, 230, 0), (230, .if_icmp .ne 7, 233, 237), (233, .iconst 0, 234, 0), (234, .goto 18, 237, 252), (237, .aload_n 0, 238, 0), (238, .iload 5, 240, 0), (240, .aload_n 0, 241, 0), (241, .getfield 57, 244, 792), (244, .iload 4, 246, 0), (246, .iconst 1, 247, 0), (247, .iadd, 248, 0), (248, .iaload, 249, 0), (249, .invokevirtual 299, 252, 239), (252, .iadd, 253, 0), (253, .iload_n 2, 254, 0), (254, .if_icmp .eq 9, 257, 263)],
  [(257, .iinc 5 1, 260, 0), (260, .goto (-53), 263, 207), (263, .aload_n 0, 264, 0), (264, .getfield 57, 267, 792), (267, .iload 4, 269, 0), (269, .iload 5, 271, 0), (271, .iastore, 272, 0), (272, .aload_n 0, 273, 0), (273, .getfield 54, 276, 791), (276, .bipush 8, 278, 0), (278, .iload 4, 280, 0), (280, .imul, 281, 0), (281, .iload 5, 283, 0), (283, .iadd, 284, 0), (284, .iaload, 285, 0), (285, .aload_n 0, 286, 0), (286, .iload 4, 288, 0)],
  [(288, .iload_n 1, 289, 0), (289, .iload 5, 291, 0), (291, .invokevirtual 202, 294, 192), (294, .isub, 295, 0), (295, .istore_n 2, 296, 0), (296, .iinc 4 (-1), 299, 0), (299, .goto (-100), 302, 199), (302, .iload_n 3, 303, 0), (303, .ireturn, 304, 0)]]
-- TwoViewsModel.row(II)I
set_option maxRecDepth 100000 in
noncomputable def mi_t241 : mi_T := [[(0, .aload_n 0, 1, 0), (1, .iconst 0, 2, 0), (2, .putfield 1, 5, 768), (5, .iload_n 1, 6, 0), (6, .iconst 0, 7, 0), (7, .aload_n 0, 8, 0), (8, .getfield 13, 11, 769), (11, .iconst 1, 12, 0), (12, .iaload, 13, 0), (13, .iconst 1, 14, 0), (14, .isub, 15, 0), (15, .invokestatic 73, 18, 144), (18, .ifCond .eq 19, 21, 37), (21, .iload_n 2, 22, 0), (22, .iconst (-1), 23, 0), (23, .aload_n 0, 24, 0), (24, .getfield 13, 27, 769), (27, .iconst 0, 28, 0), (28, .iaload, 29, 0), (29, .iconst 1, 30, 0), (30, .isub, 31, 0), (31, .invokestatic 73, 34, 144)],
  [(34, .ifCond .ne 5, 37, 39), (37, .iconst (-1), 38, 0), (38, .ireturn, 39, 0), (39, .aload_n 0, 40, 0), (40, .invokevirtual 190, 43, 186), (43, .aload_n 0, 44, 0), (44, .iload_n 1, 45, 0), (45, .invokevirtual 302, 48, 240), (48, .istore_n 3, 49, 0), (49, .iload_n 2, 50, 0), (50, .iconst (-1), 51, 0), (51, .if_icmp .ne 7, 54, 58), (54, .iload_n 3, 55, 0), (55, .goto 9, 58, 64), (58, .aload_n 0, 59, 0), (59, .getfield 57, 62, 792), (62, .iload_n 2, 63, 0), (63, .iaload, 64, 0)],
  [(64, .ireturn, 65, 0)]]
-- TwoViewsModel.energyOf([I)I
set_option maxRecDepth 100000 in
noncomputable def mi_t242 : mi_T := [[(0, .iconst 0, 1, 0), (1, .istore_n 2, 2, 0), (2, .iconst 0, 3, 0), (3, .istore_n 3, 4, 0), (4, .iload_n 3, 5, 0), (5, .aload_n 0, 6, 0), (6, .getfield 13, 9, 769), (9, .iconst 1, 10, 0), (10, .iaload, 11, 0), (11, .if_icmp .ge 125, 14, 136), (14, .iconst 0, 15, 0), (15, .istore 4, 17, 0), (17, .iload 4, 19, 0), (19, .aload_n 0, 20, 0), (20, .getfield 13, 23, 769), (23, .iconst 0, 24, 0), (24, .iaload, 25, 0), (25, .if_icmp .ge 105, 28, 130), (28, .aload_n 1, 29, 0), (29, .iconst 0, 30, 0), (30, .iload 4, 32, 0)],
  [(32, .iload_n 3, 33, 0), (33, .invokestatic 184, 36, 185), (36, .iaload, 37, 0), (37, .istore 5, 39, 0), (39, .iload_n 2, 40, 0), (40, .aload_n 0, 41, 0), (41, .iload 4, 43, 0), (43, .iload_n 3, 44, 0), (44, .iload 5, 46, 0), (46, .invokevirtual 202, 49, 192), (49, .iadd, 50, 0), (50, .istore_n 2, 51, 0), (51, .iload_n 2, 52, 0), (52, .iload 4, 54, 0), (54, .iconst 1, 55, 0), (55, .iadd, 56, 0), (56, .aload_n 0, 57, 0), (57, .getfield 13, 60, 769), (60, .iconst 0, 61, 0), (61, .iaload, 62, 0), (62, .if_icmp .ge 23, 65, 85)],
  [(65, .aload_n 0, 66, 0), (66, .iload 5, 68, 0), (68, .aload_n 1, 69, 0), (69, .iconst 0, 70, 0), (70, .iload 4, 72, 0), (72, .iconst 1, 73, 0), (73, .iadd, 74, 0), (74, .iload_n 3, 75, 0), (75, .invokestatic 184, 78, 185), (78, .iaload, 79, 0), (79, .invokevirtual 299, 82, 239), (82, .goto 4, 85, 86), (85, .iconst 0, 86, 0), (86, .iadd, 87, 0), (87, .istore_n 2, 88, 0), (88, .iload_n 2, 89, 0), (89, .iload_n 3, 90, 0), (90, .iconst 1, 91, 0), (91, .iadd, 92, 0), (92, .aload_n 0, 93, 0), (93, .getfield 13, 96, 769)],
  [(96, .iconst 1, 97, 0), (97, .iaload, 98, 0), (98, .if_icmp .ge 23, 101, 121), (101, .aload_n 0, 102, 0), (102, .iload 5, 104, 0), (104, .aload_n 1, 105, 0), (105, .iconst 0, 106, 0), (106, .iload 4, 108, 0), (108, .iload_n 3, 109, 0), (109, .iconst 1, 110, 0), (110, .iadd, 111, 0), (111, .invokestatic 184, 114, 185), (114, .iaload, 115, 0), (115, .invokevirtual 299, 118, 239), (118, .goto 4, 121, 122), (121, .iconst 0, 122, 0), (122, .iadd, 123, 0), (123, .istore_n 2, 124, 0), (124, .iinc 4 1, 127, 0), (127, .goto (-110), 130, 17)],
  [(130, .iinc 3 1, 133, 0), (133, .goto (-129), 136, 4), (136, .iload_n 2, 137, 0), (137, .ireturn, 138, 0)]]
-- TwoViewsModel.energy(I)I
set_option maxRecDepth 100000 in
noncomputable def mi_t243 : mi_T := [[(0, .aload_n 0, 1, 0), (1, .iconst 0, 2, 0), (2, .putfield 1, 5, 768), (5, .iload_n 1, 6, 0), (6, .iconst 0, 7, 0), (7, .iconst 2, 8, 0), (8, .invokestatic 73, 11, 144), (11, .ifCond .ne 5, 14, 16), (14, .iconst (-1), 15, 0), (15, .ireturn, 16, 0), (16, .aload_n 0, 17, 0), (17, .invokevirtual 281, 20, 228), (20, .iload_n 1, 21, 0), (21, .iconst 2, 22, 0), (22, .if_icmp .ge 23, 25, 45), (25, .aload_n 0, 26, 0), (26, .iload_n 1, 27, 0), (27, .ifCond .ne 10, 30, 37), (30, .aload_n 0, 31, 0), (31, .getfield 51, 34, 790)],
  [(34, .goto 7, 37, 41), (37, .aload_n 0, 38, 0), (38, .getfield 39, 41, 786), (41, .invokevirtual 305, 44, 242), (44, .ireturn, 45, 0), (45, .iconst 0, 46, 0), (46, .istore_n 2, 47, 0), (47, .iconst 0, 48, 0), (48, .istore_n 3, 49, 0), (49, .iload_n 3, 50, 0), (50, .aload_n 0, 51, 0), (51, .getfield 13, 54, 769), (54, .iconst 1, 55, 0), (55, .iaload, 56, 0), (56, .if_icmp .ge 17, 59, 73), (59, .iload_n 2, 60, 0), (60, .aload_n 0, 61, 0), (61, .iload_n 3, 62, 0), (62, .invokevirtual 302, 65, 240)],
  [(65, .iadd, 66, 0), (66, .istore_n 2, 67, 0), (67, .iinc 3 1, 70, 0), (70, .goto (-21), 73, 49), (73, .iload_n 2, 74, 0), (74, .ireturn, 75, 0)]]
-- TwoViewsModel.wrong(II)I
set_option maxRecDepth 100000 in
noncomputable def mi_t244 : mi_T := [[(0, .aload_n 0, 1, 0), (1, .iconst 0, 2, 0), (2, .putfield 1, 5, 768), (5, .iload_n 1, 6, 0), (6, .iconst 0, 7, 0), (7, .bipush 7, 9, 0), (9, .invokestatic 73, 12, 144), (12, .ifCond .eq 12, 15, 24), (15, .iload_n 2, 16, 0), (16, .iconst 0, 17, 0), (17, .iconst 2, 18, 0), (18, .invokestatic 73, 21, 144), (21, .ifCond .ne 5, 24, 26), (24, .iconst (-1), 25, 0), (25, .ireturn, 26, 0), (26, .aload_n 0, 27, 0), (27, .invokevirtual 281, 30, 228), (30, .iconst 0, 31, 0), (31, .istore_n 3, 32, 0)],
  [(32, .iconst 0, 33, 0), (33, .istore 4, 35, 0), (35, .iload 4, 37, 0), (37, .aload_n 0, 38, 0), (38, .getfield 13, 41, 769), (41, .iconst 1, 42, 0), (42, .iaload, 43, 0), (43, .if_icmp .ge 114, 46, 157), (46, .iconst 0, 47, 0), (47, .istore 5, 49, 0), (49, .iload 5, 51, 0), (51, .aload_n 0, 52, 0), (52, .getfield 13, 55, 769), (55, .iconst 0, 56, 0), (56, .iaload, 57, 0), (57, .if_icmp .ge 94, 60, 151), (60, .aload_n 0, 61, 0), (61, .iload 5, 63, 0), (63, .iload 4, 65, 0)],
  [(65, .invokevirtual 175, 68, 179), (68, .istore 6, 70, 0), (70, .iload 6, 72, 0), (72, .ifCond .lt 32, 75, 104), (75, .aload_n 0, 76, 0), (76, .getfield 51, 79, 790), (79, .iconst 0, 80, 0), (80, .iload 5, 82, 0), (82, .iload 4, 84, 0), (84, .invokestatic 184, 87, 185), (87, .iaload, 88, 0), (88, .iload 6, 90, 0), (90, .isub, 91, 0), (91, .iload_n 1, 92, 0), (92, .ineg, 93, 0), (93, .iload_n 1, 94, 0), (94, .invokestatic 73, 97, 144)],
  [(97, .ifCond .ne 7, 100, 104), (100, .iconst 1, 101, 0), (101, .goto 4, 104, 105), (104, .iconst 0, 105, 0), (105, .istore 7, 107, 0), (107, .iload_n 3, 108, 0), (108, .iload 7, 110, 0), (110, .ifCond .eq 32, 113, 142), (113, .iload_n 2, 114, 0), (114, .ifCond .eq 24, 117, 138), (117, .aload_n 0, 118, 0), (118, .iload 5, 120, 0), (120, .iload 4, 122, 0), (122, .invokevirtual 178, 125, 180), (125, .iload_n 2, 126, 0), (126, .iconst 1, 127, 0), (127, .if_icmp .ne 7, 130, 134)],
  [(130, .iconst 1, 131, 0), (131, .goto 4, 134, 135), (134, .iconst 0, 135, 0), (135, .if_icmp .ne 7, 138, 142), (138, .iconst 1, 139, 0), (139, .goto 4, 142, 143), (142, .iconst 0, 143, 0), (143, .iadd, 144, 0), (144, .istore_n 3, 145, 0), (145, .iinc 5 1, 148, 0), (148, .goto (-99), 151, 49), (151, .iinc 4 1, 154, 0), (154, .goto (-119), 157, 35), (157, .iload_n 3, 158, 0), (158, .ireturn, 159, 0)]]
-- TwoViewsModel.image(I)Z
set_option maxRecDepth 100000 in
noncomputable def mi_t245 : mi_T := [[(0, .aload_n 0, 1, 0), (1, .iconst 0, 2, 0), (2, .putfield 1, 5, 768), (5, .iload_n 1, 6, 0), (6, .iconst 0, 7, 0), (7, .iconst 1, 8, 0), (8, .invokestatic 73, 11, 144), (11, .ifCond .ne 5, 14, 16), (14, .iconst 0, 15, 0), (15, .ireturn, 16, 1), (16, .iconst 0, 17, 0), (17, .istore_n 2, 18, 0), (18, .iload_n 2, 19, 0), (19, .sipush 394, 22, 0), (22, .if_icmp .ge 27, 25, 49), (25, .aload_n 0, 26, 0), (26, .getfield 60, 29, 793), (29, .sipush 431, 32, 0)],
  [(32, .iload_n 1, 33, 0), (33, .imul, 34, 0), (34, .iload_n 2, 35, 0), (35, .iadd, 36, 0), (36, .aload_n 0, 37, 0), (37, .getfield 13, 40, 769), (40, .iload_n 2, 41, 0), (41, .iaload, 42, 0), (42, .iastore, 43, 0), (43, .iinc 2 1, 46, 0), (46, .goto (-28), 49, 18), (49, .iconst 0, 50, 0), (50, .istore_n 2, 51, 0), (51, .iload_n 2, 52, 0), (52, .bipush 36, 54, 0), (54, .if_icmp .ge 31, 57, 85), (57, .aload_n 0, 58, 0), (58, .getfield 60, 61, 793), (61, .sipush 431, 64, 0)],
  [(64, .iload_n 1, 65, 0), (65, .imul, 66, 0), (66, .sipush 394, 69, 0), (69, .iadd, 70, 0), (70, .iload_n 2, 71, 0), (71, .iadd, 72, 0), (72, .aload_n 0, 73, 0), (73, .getfield 20, 76, 772), (76, .iload_n 2, 77, 0), (77, .iaload, 78, 0), (78, .iastore, 79, 0), (79, .iinc 2 1, 82, 0), (82, .goto (-31), 85, 51), (85, .aload_n 0, 86, 0), (86, .getfield 60, 89, 793), (89, .sipush 431, 92, 0), (92, .iload_n 1, 93, 0), (93, .imul, 94, 0), (94, .sipush 394, 97, 0)],
  [(97, .iadd, 98, 0), (98, .bipush 36, 100, 0), (100, .iadd, 101, 0), (101, .aload_n 0, 102, 0), (102, .getfield 160, 105, 773), (105, .iastore, 106, 0), (106, .aload_n 0, 107, 0), (107, .dup, 108, 0), (108, .getfield 309, 111, 794), (111, .iconst 1, 112, 0), (112, .iload_n 1, 113, 0), (113, .ishl, 114, 0), (114, .ior, 115, 0), (115, .putfield 309, 118, 794), (118, .iconst 1, 119, 0), (119, .ireturn, 120, 1)]]
-- TwoViewsModel.back(I)Z
set_option maxRecDepth 100000 in
noncomputable def mi_t246 : mi_T := [[(0, .aload_n 0, 1, 0), (1, .iconst 0, 2, 0), (2, .putfield 1, 5, 768), (5, .iload_n 1, 6, 0), (6, .iconst 0, 7, 0), (7, .iconst 1, 8, 0), (8, .invokestatic 73, 11, 144), (11, .ifCond .eq 14, 14, 25), (14, .aload_n 0, 15, 0), (15, .getfield 309, 18, 794), (18, .iload_n 1, 19, 0), (19, .ishr, 20, 0), (20, .iconst 1, 21, 0), (21, .iand, 22, 0), (22, .ifCond .ne 5, 25, 27), (25, .iconst 0, 26, 0), (26, .ireturn, 27, 1), (27, .iconst 0, 28, 0), (28, .istore_n 2, 29, 0), (29, .iload_n 2, 30, 0), (30, .sipush 394, 33, 0)],
  [(33, .if_icmp .ge 27, 36, 60), (36, .aload_n 0, 37, 0), (37, .getfield 13, 40, 769), (40, .iload_n 2, 41, 0), (41, .aload_n 0, 42, 0), (42, .getfield 60, 45, 793), (45, .sipush 431, 48, 0), (48, .iload_n 1, 49, 0), (49, .imul, 50, 0), (50, .iload_n 2, 51, 0), (51, .iadd, 52, 0), (52, .iaload, 53, 0), (53, .iastore, 54, 0), (54, .iinc 2 1, 57, 0), (57, .goto (-28), 60, 29), (60, .iconst 0, 61, 0), (61, .istore_n 2, 62, 0), (62, .iload_n 2, 63, 0), (63, .bipush 36, 65, 0)],
  [(65, .if_icmp .ge 31, 68, 96), (68, .aload_n 0, 69, 0), (69, .getfield 20, 72, 772), (72, .iload_n 2, 73, 0), (73, .aload_n 0, 74, 0), (74, .getfield 60, 77, 793), (77, .sipush 431, 80, 0), (80, .iload_n 1, 81, 0), (81, .imul, 82, 0), (82, .sipush 394, 85, 0), (85, .iadd, 86, 0), (86, .iload_n 2, 87, 0), (87, .iadd, 88, 0), (88, .iaload, 89, 0), (89, .iastore, 90, 0), (90, .iinc 2 1, 93, 0), (93, .goto (-31), 96, 62)],
  [(96, .aload_n 0, 97, 0), (97, .aload_n 0, 98, 0), (98, .getfield 60, 101, 793), (101, .sipush 431, 104, 0), (104, .iload_n 1, 105, 0), (105, .imul, 106, 0), (106, .sipush 394, 109, 0), (109, .iadd, 110, 0), (110, .bipush 36, 112, 0), (112, .iadd, 113, 0), (113, .iaload, 114, 0), (114, .putfield 160, 117, 773), (117, .aload_n 0, 118, 0), (118, .iconst 0, 119, 0), (119, .putfield 70, 122, 771), (122, .iconst 1, 123, 0), (123, .ireturn, 124, 1)]]
-- TwoViewsModel.count(I)I
set_option maxRecDepth 100000 in
noncomputable def mi_t247 : mi_T := [[(0, .aload_n 0, 1, 0), (1, .iconst 0, 2, 0), (2, .putfield 1, 5, 768), (5, .iload_n 1, 6, 0), (6, .iconst 0, 7, 0), (7, .bipush 9, 9, 0), (9, .invokestatic 73, 12, 144), (12, .ifCond .eq 10, 15, 22), (15, .aload_n 0, 16, 0), (16, .getfield 13, 19, 769), (19, .iload_n 1, 20, 0), (20, .iaload, 21, 0), (21, .ireturn, 22, 0), (22, .iload_n 1, 23, 0), (23, .bipush 10, 25, 0), (25, .if_icmp .ne 10, 28, 35), (28, .aload_n 0, 29, 0), (29, .getfield 160, 32, 773)],
  [(32, .goto 30, 35, 62), (35, .iload_n 1, 36, 0), (36, .bipush 11, 38, 0), (38, .if_icmp .ne 10, 41, 48), (41, .aload_n 0, 42, 0), (42, .getfield 70, 45, 771), (45, .goto 17, 48, 62), (48, .iload_n 1, 49, 0), (49, .bipush 12, 51, 0), (51, .if_icmp .ne 10, 54, 61), (54, .aload_n 0, 55, 0), (55, .getfield 85, 58, 775), (58, .goto 4, 61, 62), (61, .iconst (-1), 62, 0), (62, .ireturn, 63, 0)]]
-- TwoViewsLaw.at(LTwoViews;III[J)I
set_option maxRecDepth 100000 in
noncomputable def mi_t248 : mi_T := [[(0, .aload 4, 2, 0), (2, .iconst 0, 3, 0), (3, .aload_n 0, 4, 0), (4, .iload_n 1, 5, 0), (5, .iload_n 2, 6, 0), (6, .iload_n 3, 7, 0), (7, .invokevirtual 7, 10, 106), (10, .i2l, 11, 0), (11, .lastore, 12, 0), (12, .goto 7, 15, 19), (15, .astore 5, 17, 0), (17, .iconst 1, 18, 0), (18, .ireturn, 19, 0), (19, .iconst 0, 20, 0), (20, .ireturn, 21, 0)]]
-- TwoViewsLaw.code(LTwoViews;III[J)I
set_option maxRecDepth 100000 in
noncomputable def mi_t249 : mi_T := [[(0, .aload 4, 2, 0), (2, .iconst 0, 3, 0), (3, .aload_n 0, 4, 0), (4, .iload_n 1, 5, 0), (5, .iload_n 2, 6, 0), (6, .iload_n 3, 7, 0), (7, .invokevirtual 15, 10, 107), (10, .i2l, 11, 0), (11, .lastore, 12, 0), (12, .goto 7, 15, 19), (15, .astore 5, 17, 0), (17, .iconst 1, 18, 0), (18, .ireturn, 19, 0), (19, .iconst 0, 20, 0), (20, .ireturn, 21, 0)]]
-- TwoViewsLaw.same(LTwoViews;III[J)I
set_option maxRecDepth 100000 in
noncomputable def mi_t250 : mi_T := [[(0, .aload 4, 2, 0), (2, .iconst 0, 3, 0), (3, .aload_n 0, 4, 0), (4, .iload_n 1, 5, 0), (5, .iload_n 2, 6, 0), (6, .iload_n 3, 7, 0), (7, .invokevirtual 18, 10, 108), (10, .i2l, 11, 0), (11, .lastore, 12, 0), (12, .goto 7, 15, 19), (15, .astore 5, 17, 0), (17, .iconst 1, 18, 0), (18, .ireturn, 19, 0), (19, .iconst 0, 20, 0), (20, .ireturn, 21, 0)]]
-- TwoViewsLaw.shift(LTwoViews;III[J)I
set_option maxRecDepth 100000 in
noncomputable def mi_t251 : mi_T := [[(0, .aload 4, 2, 0), (2, .iconst 0, 3, 0), (3, .aload_n 0, 4, 0), (4, .iload_n 1, 5, 0), (5, .iload_n 2, 6, 0), (6, .iload_n 3, 7, 0), (7, .invokevirtual 21, 10, 113), (10, .i2l, 11, 0), (11, .lastore, 12, 0), (12, .goto 7, 15, 19), (15, .astore 5, 17, 0), (17, .iconst 1, 18, 0), (18, .ireturn, 19, 0), (19, .iconst 0, 20, 0), (20, .ireturn, 21, 0)]]
-- TwoViewsLaw.margin(LTwoViews;II[J)I
set_option maxRecDepth 100000 in
noncomputable def mi_t252 : mi_T := [[(0, .aload_n 3, 1, 0), (1, .iconst 0, 2, 0), (2, .aload_n 0, 3, 0), (3, .iload_n 1, 4, 0), (4, .iload_n 2, 5, 0), (5, .invokevirtual 24, 8, 114), (8, .i2l, 9, 0), (9, .lastore, 10, 0), (10, .goto 7, 13, 17), (13, .astore 4, 15, 0), (15, .iconst 1, 16, 0), (16, .ireturn, 17, 0), (17, .iconst 0, 18, 0), (18, .ireturn, 19, 0)]]
-- TwoViewsLaw.fine(LTwoViews;II[J)I
set_option maxRecDepth 100000 in
noncomputable def mi_t253 : mi_T := [[(0, .aload_n 3, 1, 0), (1, .iconst 0, 2, 0), (2, .aload_n 0, 3, 0), (3, .iload_n 1, 4, 0), (4, .iload_n 2, 5, 0), (5, .invokevirtual 28, 8, 120), (8, .i2l, 9, 0), (9, .lastore, 10, 0), (10, .goto 7, 13, 17), (13, .astore 4, 15, 0), (15, .iconst 1, 16, 0), (16, .ireturn, 17, 0), (17, .iconst 0, 18, 0), (18, .ireturn, 19, 0)]]
-- TwoViewsLaw.filled(LTwoViews;III[J)I
set_option maxRecDepth 100000 in
noncomputable def mi_t254 : mi_T := [[(0, .aload 4, 2, 0), (2, .iconst 0, 3, 0), (3, .aload_n 0, 4, 0), (4, .iload_n 1, 5, 0), (5, .iload_n 2, 6, 0), (6, .iload_n 3, 7, 0), (7, .invokevirtual 31, 10, 125), (10, .i2l, 11, 0), (11, .lastore, 12, 0), (12, .goto 7, 15, 19), (15, .astore 5, 17, 0), (17, .iconst 1, 18, 0), (18, .ireturn, 19, 0), (19, .iconst 0, 20, 0), (20, .ireturn, 21, 0)]]
-- TwoViewsLaw.depth(LTwoViews;II[J)I
set_option maxRecDepth 100000 in
noncomputable def mi_t255 : mi_T := [[(0, .aload_n 3, 1, 0), (1, .iconst 0, 2, 0), (2, .aload_n 0, 3, 0), (3, .iload_n 1, 4, 0), (4, .iload_n 2, 5, 0), (5, .invokevirtual 34, 8, 126), (8, .i2l, 9, 0), (9, .lastore, 10, 0), (10, .goto 7, 13, 17), (13, .astore 4, 15, 0), (15, .iconst 1, 16, 0), (16, .ireturn, 17, 0), (17, .iconst 0, 18, 0), (18, .ireturn, 19, 0)]]
-- TwoViewsLaw.law([I)Z
set_option maxRecDepth 100000 in
noncomputable def mi_t256 : mi_T := [[(0, .new 8, 3, 716), (3, .dup, 4, 0), (4, .invokespecial 37, 7, 96), (7, .astore_n 1, 8, 0), (8, .new 38, 11, 795), (11, .dup, 12, 0), (12, .invokespecial 40, 15, 145), (15, .astore_n 2, 16, 0), (16, .iconst 1, 17, 0), (17, .newarray .long, 19, 0), (19, .astore_n 3, 20, 0), (20, .iconst 0, 21, 0), (21, .istore 4, 23, 0), (23, .iload 4, 25, 0), (25, .aload_n 0, 26, 0), (26, .arraylength, 27, 0), (27, .bipush 7, 29, 0), (29, .isub, 30, 0), (30, .if_icmp .gt 1907, 33, 1937)],
  [(33, .aload_n 0, 34, 0), (34, .iload 4, 36, 0), (36, .iaload, 37, 0), (37, .bipush 63, 39, 0), (39, .iand, 40, 0), (40, .tableswitch 1891 0 36 #[164, 237, 262, 299, 360, 397, 484, 497, 510, 559, 639, 719, 799, 824, 873, 934, 983, 1063, 1131, 1180, 1217, 1266, 1303, 1352, 1420, 1445, 1482, 1531, 1556, 1636, 1704, 1741, 1766, 1803, 1816, 1841, 1866], 204, 0)],
  [],
  [],
  [],
  [],
  [(204, .aload_n 1, 205, 0), (205, .aload_n 0, 206, 0), (206, .iload 4, 208, 0), (208, .iconst 1, 209, 0), (209, .iadd, 210, 0), (210, .iaload, 211, 0), (211, .aload_n 0, 212, 0), (212, .iload 4, 214, 0), (214, .iconst 2, 215, 0), (215, .iadd, 216, 0), (216, .iaload, 217, 0), (217, .aload_n 0, 218, 0), (218, .iload 4, 220, 0), (220, .iconst 3, 221, 0), (221, .iadd, 222, 0), (222, .iaload, 223, 0), (223, .aload_n 0, 224, 0)],
  [(224, .iload 4, 226, 0), (226, .iconst 4, 227, 0), (227, .iadd, 228, 0), (228, .iaload, 229, 0), (229, .aload_n 0, 230, 0), (230, .iload 4, 232, 0), (232, .iconst 5, 233, 0), (233, .iadd, 234, 0), (234, .iaload, 235, 0), (235, .invokevirtual 41, 238, 97), (238, .aload_n 2, 239, 0), (239, .aload_n 0, 240, 0), (240, .iload 4, 242, 0), (242, .iconst 1, 243, 0), (243, .iadd, 244, 0), (244, .iaload, 245, 0), (245, .aload_n 0, 246, 0), (246, .iload 4, 248, 0), (248, .iconst 2, 249, 0), (249, .iadd, 250, 0), (250, .iaload, 251, 0), (251, .aload_n 0, 252, 0), (252, .iload 4, 254, 0), (254, .iconst 3, 255, 0), (255, .iadd, 256, 0)],
  [(256, .iaload, 257, 0), (257, .aload_n 0, 258, 0), (258, .iload 4, 260, 0), (260, .iconst 4, 261, 0), (261, .iadd, 262, 0), (262, .iaload, 263, 0), (263, .aload_n 0, 264, 0), (264, .iload 4, 266, 0), (266, .iconst 5, 267, 0), (267, .iadd, 268, 0), (268, .iaload, 269, 0), (269, .invokevirtual 45, 272, 154), (272, .if_icmp .eq 1659, 275, 1931), (275, .iconst 0, 276, 0), (276, .ireturn, 277, 1), (277, .aload_n 1, 278, 0), (278, .aload_n 0, 279, 0), (279, .iload 4, 281, 0), (281, .iconst 1, 282, 0), (282, .iadd, 283, 0), (283, .iaload, 284, 0), (284, .invokevirtual 46, 287, 98), (287, .aload_n 2, 288, 0)],
  [(288, .aload_n 0, 289, 0), (289, .iload 4, 291, 0), (291, .iconst 1, 292, 0), (292, .iadd, 293, 0), (293, .iaload, 294, 0), (294, .invokevirtual 50, 297, 168), (297, .if_icmp .eq 1634, 300, 1931), (300, .iconst 0, 301, 0), (301, .ireturn, 302, 1), (302, .aload_n 1, 303, 0), (303, .aload_n 0, 304, 0), (304, .iload 4, 306, 0), (306, .iconst 1, 307, 0), (307, .iadd, 308, 0), (308, .iaload, 309, 0), (309, .aload_n 0, 310, 0), (310, .iload 4, 312, 0), (312, .iconst 2, 313, 0), (313, .iadd, 314, 0), (314, .iaload, 315, 0), (315, .invokevirtual 51, 318, 99), (318, .aload_n 2, 319, 0), (319, .aload_n 0, 320, 0)],
  [(320, .iload 4, 322, 0), (322, .iconst 1, 323, 0), (323, .iadd, 324, 0), (324, .iaload, 325, 0), (325, .aload_n 0, 326, 0), (326, .iload 4, 328, 0), (328, .iconst 2, 329, 0), (329, .iadd, 330, 0), (330, .iaload, 331, 0), (331, .invokevirtual 55, 334, 169), (334, .if_icmp .eq 1597, 337, 1931), (337, .iconst 0, 338, 0), (338, .ireturn, 339, 1), (339, .aload_n 1, 340, 0), (340, .aload_n 0, 341, 0), (341, .iload 4, 343, 0), (343, .iconst 1, 344, 0), (344, .iadd, 345, 0), (345, .iaload, 346, 0), (346, .aload_n 0, 347, 0), (347, .iload 4, 349, 0), (349, .iconst 2, 350, 0), (350, .iadd, 351, 0), (351, .iaload, 352, 0)],
  [(352, .aload_n 0, 353, 0), (353, .iload 4, 355, 0), (355, .iconst 3, 356, 0), (356, .iadd, 357, 0), (357, .iaload, 358, 0), (358, .aload_n 0, 359, 0), (359, .iload 4, 361, 0), (361, .iconst 4, 362, 0), (362, .iadd, 363, 0), (363, .iaload, 364, 0), (364, .invokevirtual 56, 367, 100), (367, .aload_n 2, 368, 0), (368, .aload_n 0, 369, 0), (369, .iload 4, 371, 0), (371, .iconst 1, 372, 0), (372, .iadd, 373, 0), (373, .iaload, 374, 0), (374, .aload_n 0, 375, 0), (375, .iload 4, 377, 0), (377, .iconst 2, 378, 0), (378, .iadd, 379, 0), (379, .iaload, 380, 0), (380, .aload_n 0, 381, 0), (381, .iload 4, 383, 0), (383, .iconst 3, 384, 0)],
  [(384, .iadd, 385, 0), (385, .iaload, 386, 0), (386, .aload_n 0, 387, 0), (387, .iload 4, 389, 0), (389, .iconst 4, 390, 0), (390, .iadd, 391, 0), (391, .iaload, 392, 0), (392, .invokevirtual 60, 395, 170), (395, .if_icmp .eq 1536, 398, 1931), (398, .iconst 0, 399, 0), (399, .ireturn, 400, 1), (400, .aload_n 1, 401, 0), (401, .aload_n 0, 402, 0), (402, .iload 4, 404, 0), (404, .iconst 1, 405, 0), (405, .iadd, 406, 0), (406, .iaload, 407, 0), (407, .aload_n 0, 408, 0), (408, .iload 4, 410, 0), (410, .iconst 2, 411, 0), (411, .iadd, 412, 0), (412, .iaload, 413, 0), (413, .invokevirtual 61, 416, 101)],
  [(416, .aload_n 2, 417, 0), (417, .aload_n 0, 418, 0), (418, .iload 4, 420, 0), (420, .iconst 1, 421, 0), (421, .iadd, 422, 0), (422, .iaload, 423, 0), (423, .aload_n 0, 424, 0), (424, .iload 4, 426, 0), (426, .iconst 2, 427, 0), (427, .iadd, 428, 0), (428, .iaload, 429, 0), (429, .invokevirtual 64, 432, 172), (432, .if_icmp .eq 1499, 435, 1931), (435, .iconst 0, 436, 0), (436, .ireturn, 437, 1), (437, .aload_n 1, 438, 0), (438, .aload_n 0, 439, 0), (439, .iload 4, 441, 0), (441, .iconst 1, 442, 0), (442, .iadd, 443, 0), (443, .iaload, 444, 0), (444, .aload_n 0, 445, 0), (445, .iload 4, 447, 0), (447, .iconst 2, 448, 0)],
  [(448, .iadd, 449, 0), (449, .iaload, 450, 0), (450, .aload_n 0, 451, 0), (451, .iload 4, 453, 0), (453, .iconst 3, 454, 0), (454, .iadd, 455, 0), (455, .iaload, 456, 0), (456, .aload_n 0, 457, 0), (457, .iload 4, 459, 0), (459, .iconst 4, 460, 0), (460, .iadd, 461, 0), (461, .iaload, 462, 0), (462, .aload_n 0, 463, 0), (463, .iload 4, 465, 0), (465, .iconst 5, 466, 0), (466, .iadd, 467, 0), (467, .iaload, 468, 0), (468, .aload_n 0, 469, 0), (469, .iload 4, 471, 0), (471, .bipush 6, 473, 0), (473, .iadd, 474, 0), (474, .iaload, 475, 0), (475, .invokevirtual 65, 478, 102), (478, .aload_n 2, 479, 0), (479, .aload_n 0, 480, 0)],
  [(480, .iload 4, 482, 0), (482, .iconst 1, 483, 0), (483, .iadd, 484, 0), (484, .iaload, 485, 0), (485, .aload_n 0, 486, 0), (486, .iload 4, 488, 0), (488, .iconst 2, 489, 0), (489, .iadd, 490, 0), (490, .iaload, 491, 0), (491, .aload_n 0, 492, 0), (492, .iload 4, 494, 0), (494, .iconst 3, 495, 0), (495, .iadd, 496, 0), (496, .iaload, 497, 0), (497, .aload_n 0, 498, 0), (498, .iload 4, 500, 0), (500, .iconst 4, 501, 0), (501, .iadd, 502, 0), (502, .iaload, 503, 0), (503, .aload_n 0, 504, 0), (504, .iload 4, 506, 0), (506, .iconst 5, 507, 0), (507, .iadd, 508, 0), (508, .iaload, 509, 0), (509, .aload_n 0, 510, 0), (510, .iload 4, 512, 0)],
  [(512, .bipush 6, 514, 0), (514, .iadd, 515, 0), (515, .iaload, 516, 0), (516, .invokevirtual 69, 519, 173), (519, .if_icmp .eq 1412, 522, 1931), (522, .iconst 0, 523, 0), (523, .ireturn, 524, 1), (524, .aload_n 1, 525, 0), (525, .invokevirtual 70, 528, 103), (528, .aload_n 2, 529, 0), (529, .invokevirtual 74, 532, 174), (532, .if_icmp .eq 1399, 535, 1931), (535, .iconst 0, 536, 0), (536, .ireturn, 537, 1), (537, .aload_n 1, 538, 0), (538, .invokevirtual 75, 541, 104), (541, .aload_n 2, 542, 0), (542, .invokevirtual 78, 545, 178)],
  [(545, .if_icmp .eq 1386, 548, 1931), (548, .iconst 0, 549, 0), (549, .ireturn, 550, 1), (550, .aload_n 1, 551, 0), (551, .aload_n 0, 552, 0), (552, .iload 4, 554, 0), (554, .iconst 1, 555, 0), (555, .iadd, 556, 0), (556, .iaload, 557, 0), (557, .aload_n 0, 558, 0), (558, .iload 4, 560, 0), (560, .iconst 2, 561, 0), (561, .iadd, 562, 0), (562, .iaload, 563, 0), (563, .aload_n 0, 564, 0), (564, .iload 4, 566, 0), (566, .iconst 3, 567, 0), (567, .iadd, 568, 0), (568, .iaload, 569, 0), (569, .invokevirtual 79, 572, 105), (572, .aload_n 2, 573, 0), (573, .aload_n 0, 574, 0), (574, .iload 4, 576, 0)],
  [(576, .iconst 1, 577, 0), (577, .iadd, 578, 0), (578, .iaload, 579, 0), (579, .aload_n 0, 580, 0), (580, .iload 4, 582, 0), (582, .iconst 2, 583, 0), (583, .iadd, 584, 0), (584, .iaload, 585, 0), (585, .aload_n 0, 586, 0), (586, .iload 4, 588, 0), (588, .iconst 3, 589, 0), (589, .iadd, 590, 0), (590, .iaload, 591, 0), (591, .invokevirtual 82, 594, 181), (594, .if_icmp .eq 1337, 597, 1931), (597, .iconst 0, 598, 0), (598, .ireturn, 599, 1), (599, .aload_n 1, 600, 0), (600, .aload_n 0, 601, 0), (601, .iload 4, 603, 0), (603, .iconst 1, 604, 0), (604, .iadd, 605, 0), (605, .iaload, 606, 0), (606, .aload_n 0, 607, 0), (607, .iload 4, 609, 0)],
  [(609, .iconst 2, 610, 0), (610, .iadd, 611, 0), (611, .iaload, 612, 0), (612, .aload_n 0, 613, 0), (613, .iload 4, 615, 0), (615, .iconst 3, 616, 0), (616, .iadd, 617, 0), (617, .iaload, 618, 0), (618, .aload_n 3, 619, 0), (619, .invokestatic 83, 622, 248), (622, .istore 5, 624, 0), (624, .aload_n 2, 625, 0), (625, .aload_n 0, 626, 0), (626, .iload 4, 628, 0), (628, .iconst 1, 629, 0), (629, .iadd, 630, 0), (630, .iaload, 631, 0), (631, .aload_n 0, 632, 0), (632, .iload 4, 634, 0), (634, .iconst 2, 635, 0), (635, .iadd, 636, 0), (636, .iaload, 637, 0), (637, .aload_n 0, 638, 0), (638, .iload 4, 640, 0)],
  [(640, .iconst 3, 641, 0), (641, .iadd, 642, 0), (642, .iaload, 643, 0), (643, .invokevirtual 88, 646, 182), (646, .istore 6, 648, 0), (648, .aload_n 2, 649, 0), (649, .invokevirtual 89, 652, 143), (652, .iload 5, 654, 0), (654, .if_icmp .eq 5, 657, 659), (657, .iconst 0, 658, 0), (658, .ireturn, 659, 1), (659, .iload 5, 661, 0), (661, .ifCond .ne 15, 664, 676), (664, .aload_n 3, 665, 0), (665, .iconst 0, 666, 0), (666, .laload, 667, 0), (667, .iload 6, 669, 0), (669, .i2l, 670, 0), (670, .lcmp, 671, 0), (671, .ifCond .eq 5, 674, 676)],
  [(674, .iconst 0, 675, 0), (675, .ireturn, 676, 1), (676, .goto 1255, 679, 1931), (679, .aload_n 1, 680, 0), (680, .aload_n 0, 681, 0), (681, .iload 4, 683, 0), (683, .iconst 1, 684, 0), (684, .iadd, 685, 0), (685, .iaload, 686, 0), (686, .aload_n 0, 687, 0), (687, .iload 4, 689, 0), (689, .iconst 2, 690, 0), (690, .iadd, 691, 0), (691, .iaload, 692, 0), (692, .aload_n 0, 693, 0), (693, .iload 4, 695, 0), (695, .iconst 3, 696, 0), (696, .iadd, 697, 0), (697, .iaload, 698, 0), (698, .aload_n 3, 699, 0), (699, .invokestatic 92, 702, 249), (702, .istore 5, 704, 0)],
  [(704, .aload_n 2, 705, 0), (705, .aload_n 0, 706, 0), (706, .iload 4, 708, 0), (708, .iconst 1, 709, 0), (709, .iadd, 710, 0), (710, .iaload, 711, 0), (711, .aload_n 0, 712, 0), (712, .iload 4, 714, 0), (714, .iconst 2, 715, 0), (715, .iadd, 716, 0), (716, .iaload, 717, 0), (717, .aload_n 0, 718, 0), (718, .iload 4, 720, 0), (720, .iconst 3, 721, 0), (721, .iadd, 722, 0), (722, .iaload, 723, 0), (723, .invokevirtual 94, 726, 187), (726, .istore 6, 728, 0), (728, .aload_n 2, 729, 0), (729, .invokevirtual 89, 732, 143), (732, .iload 5, 734, 0), (734, .if_icmp .eq 5, 737, 739)],
  [(737, .iconst 0, 738, 0), (738, .ireturn, 739, 1), (739, .iload 5, 741, 0), (741, .ifCond .ne 15, 744, 756), (744, .aload_n 3, 745, 0), (745, .iconst 0, 746, 0), (746, .laload, 747, 0), (747, .iload 6, 749, 0), (749, .i2l, 750, 0), (750, .lcmp, 751, 0), (751, .ifCond .eq 5, 754, 756), (754, .iconst 0, 755, 0), (755, .ireturn, 756, 1), (756, .goto 1175, 759, 1931), (759, .aload_n 1, 760, 0), (760, .aload_n 0, 761, 0), (761, .iload 4, 763, 0), (763, .iconst 1, 764, 0), (764, .iadd, 765, 0), (765, .iaload, 766, 0), (766, .aload_n 0, 767, 0), (767, .iload 4, 769, 0)],
  [(769, .iconst 2, 770, 0), (770, .iadd, 771, 0), (771, .iaload, 772, 0), (772, .aload_n 0, 773, 0), (773, .iload 4, 775, 0), (775, .iconst 3, 776, 0), (776, .iadd, 777, 0), (777, .iaload, 778, 0), (778, .aload_n 3, 779, 0), (779, .invokestatic 95, 782, 250), (782, .istore 5, 784, 0), (784, .aload_n 2, 785, 0), (785, .aload_n 0, 786, 0), (786, .iload 4, 788, 0), (788, .iconst 1, 789, 0), (789, .iadd, 790, 0), (790, .iaload, 791, 0), (791, .aload_n 0, 792, 0), (792, .iload 4, 794, 0), (794, .iconst 2, 795, 0), (795, .iadd, 796, 0), (796, .iaload, 797, 0), (797, .aload_n 0, 798, 0), (798, .iload 4, 800, 0)],
  [(800, .iconst 3, 801, 0), (801, .iadd, 802, 0), (802, .iaload, 803, 0), (803, .invokevirtual 97, 806, 188), (806, .istore 6, 808, 0), (808, .aload_n 2, 809, 0), (809, .invokevirtual 89, 812, 143), (812, .iload 5, 814, 0), (814, .if_icmp .eq 5, 817, 819), (817, .iconst 0, 818, 0), (818, .ireturn, 819, 1), (819, .iload 5, 821, 0), (821, .ifCond .ne 15, 824, 836), (824, .aload_n 3, 825, 0), (825, .iconst 0, 826, 0), (826, .laload, 827, 0), (827, .iload 6, 829, 0), (829, .i2l, 830, 0), (830, .lcmp, 831, 0), (831, .ifCond .eq 5, 834, 836)],
  [(834, .iconst 0, 835, 0), (835, .ireturn, 836, 1), (836, .goto 1095, 839, 1931), (839, .aload_n 1, 840, 0), (840, .aload_n 0, 841, 0), (841, .iload 4, 843, 0), (843, .iconst 1, 844, 0), (844, .iadd, 845, 0), (845, .iaload, 846, 0), (846, .invokevirtual 98, 849, 109), (849, .aload_n 2, 850, 0), (850, .aload_n 0, 851, 0), (851, .iload 4, 853, 0), (853, .iconst 1, 854, 0), (854, .iadd, 855, 0), (855, .iaload, 856, 0), (856, .invokevirtual 101, 859, 190), (859, .if_icmp .eq 1072, 862, 1931), (862, .iconst 0, 863, 0), (863, .ireturn, 864, 1)],
  [(864, .aload_n 1, 865, 0), (865, .aload_n 0, 866, 0), (866, .iload 4, 868, 0), (868, .iconst 1, 869, 0), (869, .iadd, 870, 0), (870, .iaload, 871, 0), (871, .aload_n 0, 872, 0), (872, .iload 4, 874, 0), (874, .iconst 2, 875, 0), (875, .iadd, 876, 0), (876, .iaload, 877, 0), (877, .aload_n 0, 878, 0), (878, .iload 4, 880, 0), (880, .iconst 3, 881, 0), (881, .iadd, 882, 0), (882, .iaload, 883, 0), (883, .invokevirtual 102, 886, 110), (886, .aload_n 2, 887, 0), (887, .aload_n 0, 888, 0), (888, .iload 4, 890, 0), (890, .iconst 1, 891, 0), (891, .iadd, 892, 0), (892, .iaload, 893, 0), (893, .aload_n 0, 894, 0), (894, .iload 4, 896, 0)],
  [(896, .iconst 2, 897, 0), (897, .iadd, 898, 0), (898, .iaload, 899, 0), (899, .aload_n 0, 900, 0), (900, .iload 4, 902, 0), (902, .iconst 3, 903, 0), (903, .iadd, 904, 0), (904, .iaload, 905, 0), (905, .invokevirtual 105, 908, 194), (908, .if_icmp .eq 1023, 911, 1931), (911, .iconst 0, 912, 0), (912, .ireturn, 913, 1), (913, .aload_n 1, 914, 0), (914, .aload_n 0, 915, 0), (915, .iload 4, 917, 0), (917, .iconst 1, 918, 0), (918, .iadd, 919, 0), (919, .iaload, 920, 0), (920, .aload_n 0, 921, 0), (921, .iload 4, 923, 0), (923, .iconst 2, 924, 0), (924, .iadd, 925, 0), (925, .iaload, 926, 0), (926, .aload_n 0, 927, 0), (927, .iload 4, 929, 0)],
  [(929, .iconst 3, 930, 0), (930, .iadd, 931, 0), (931, .iaload, 932, 0), (932, .aload_n 0, 933, 0), (933, .iload 4, 935, 0), (935, .iconst 4, 936, 0), (936, .iadd, 937, 0), (937, .iaload, 938, 0), (938, .invokevirtual 106, 941, 111), (941, .aload_n 2, 942, 0), (942, .aload_n 0, 943, 0), (943, .iload 4, 945, 0), (945, .iconst 1, 946, 0), (946, .iadd, 947, 0), (947, .iaload, 948, 0), (948, .aload_n 0, 949, 0), (949, .iload 4, 951, 0), (951, .iconst 2, 952, 0), (952, .iadd, 953, 0), (953, .iaload, 954, 0), (954, .aload_n 0, 955, 0), (955, .iload 4, 957, 0), (957, .iconst 3, 958, 0), (958, .iadd, 959, 0), (959, .iaload, 960, 0)],
  [(960, .aload_n 0, 961, 0), (961, .iload 4, 963, 0), (963, .iconst 4, 964, 0), (964, .iadd, 965, 0), (965, .iaload, 966, 0), (966, .invokevirtual 109, 969, 202), (969, .if_icmp .eq 962, 972, 1931), (972, .iconst 0, 973, 0), (973, .ireturn, 974, 1), (974, .aload_n 1, 975, 0), (975, .aload_n 0, 976, 0), (976, .iload 4, 978, 0), (978, .iconst 1, 979, 0), (979, .iadd, 980, 0), (980, .iaload, 981, 0), (981, .aload_n 0, 982, 0), (982, .iload 4, 984, 0), (984, .iconst 2, 985, 0), (985, .iadd, 986, 0), (986, .iaload, 987, 0), (987, .aload_n 0, 988, 0), (988, .iload 4, 990, 0), (990, .iconst 3, 991, 0), (991, .iadd, 992, 0)],
  [(992, .iaload, 993, 0), (993, .invokevirtual 110, 996, 112), (996, .aload_n 2, 997, 0), (997, .aload_n 0, 998, 0), (998, .iload 4, 1000, 0), (1000, .iconst 1, 1001, 0), (1001, .iadd, 1002, 0), (1002, .iaload, 1003, 0), (1003, .aload_n 0, 1004, 0), (1004, .iload 4, 1006, 0), (1006, .iconst 2, 1007, 0), (1007, .iadd, 1008, 0), (1008, .iaload, 1009, 0), (1009, .aload_n 0, 1010, 0), (1010, .iload 4, 1012, 0), (1012, .iconst 3, 1013, 0), (1013, .iadd, 1014, 0), (1014, .iaload, 1015, 0), (1015, .invokevirtual 113, 1018, 203), (1018, .if_icmp .eq 913, 1021, 1931), (1021, .iconst 0, 1022, 0), (1022, .ireturn, 1023, 1), (1023, .aload_n 1, 1024, 0)],
  [(1024, .aload_n 0, 1025, 0), (1025, .iload 4, 1027, 0), (1027, .iconst 1, 1028, 0), (1028, .iadd, 1029, 0), (1029, .iaload, 1030, 0), (1030, .aload_n 0, 1031, 0), (1031, .iload 4, 1033, 0), (1033, .iconst 2, 1034, 0), (1034, .iadd, 1035, 0), (1035, .iaload, 1036, 0), (1036, .aload_n 0, 1037, 0), (1037, .iload 4, 1039, 0), (1039, .iconst 3, 1040, 0), (1040, .iadd, 1041, 0), (1041, .iaload, 1042, 0), (1042, .aload_n 3, 1043, 0), (1043, .invokestatic 114, 1046, 251), (1046, .istore 5, 1048, 0), (1048, .aload_n 2, 1049, 0), (1049, .aload_n 0, 1050, 0), (1050, .iload 4, 1052, 0), (1052, .iconst 1, 1053, 0), (1053, .iadd, 1054, 0), (1054, .iaload, 1055, 0), (1055, .aload_n 0, 1056, 0)],
  [(1056, .iload 4, 1058, 0), (1058, .iconst 2, 1059, 0), (1059, .iadd, 1060, 0), (1060, .iaload, 1061, 0), (1061, .aload_n 0, 1062, 0), (1062, .iload 4, 1064, 0), (1064, .iconst 3, 1065, 0), (1065, .iadd, 1066, 0), (1066, .iaload, 1067, 0), (1067, .invokevirtual 116, 1070, 215), (1070, .istore 6, 1072, 0), (1072, .aload_n 2, 1073, 0), (1073, .invokevirtual 89, 1076, 143), (1076, .iload 5, 1078, 0), (1078, .if_icmp .eq 5, 1081, 1083), (1081, .iconst 0, 1082, 0), (1082, .ireturn, 1083, 1), (1083, .iload 5, 1085, 0), (1085, .ifCond .ne 15, 1088, 1100)],
  [(1088, .aload_n 3, 1089, 0), (1089, .iconst 0, 1090, 0), (1090, .laload, 1091, 0), (1091, .iload 6, 1093, 0), (1093, .i2l, 1094, 0), (1094, .lcmp, 1095, 0), (1095, .ifCond .eq 5, 1098, 1100), (1098, .iconst 0, 1099, 0), (1099, .ireturn, 1100, 1), (1100, .goto 831, 1103, 1931), (1103, .aload_n 1, 1104, 0), (1104, .aload_n 0, 1105, 0), (1105, .iload 4, 1107, 0), (1107, .iconst 1, 1108, 0), (1108, .iadd, 1109, 0), (1109, .iaload, 1110, 0), (1110, .aload_n 0, 1111, 0), (1111, .iload 4, 1113, 0), (1113, .iconst 2, 1114, 0), (1114, .iadd, 1115, 0), (1115, .iaload, 1116, 0), (1116, .aload_n 3, 1117, 0), (1117, .invokestatic 117, 1120, 252)],
  [(1120, .istore 5, 1122, 0), (1122, .aload_n 2, 1123, 0), (1123, .aload_n 0, 1124, 0), (1124, .iload 4, 1126, 0), (1126, .iconst 1, 1127, 0), (1127, .iadd, 1128, 0), (1128, .iaload, 1129, 0), (1129, .aload_n 0, 1130, 0), (1130, .iload 4, 1132, 0), (1132, .iconst 2, 1133, 0), (1133, .iadd, 1134, 0), (1134, .iaload, 1135, 0), (1135, .invokevirtual 120, 1138, 216), (1138, .istore 6, 1140, 0), (1140, .aload_n 2, 1141, 0), (1141, .invokevirtual 89, 1144, 143), (1144, .iload 5, 1146, 0), (1146, .if_icmp .eq 5, 1149, 1151), (1149, .iconst 0, 1150, 0), (1150, .ireturn, 1151, 1), (1151, .iload 5, 1153, 0)],
  [(1153, .ifCond .ne 15, 1156, 1168), (1156, .aload_n 3, 1157, 0), (1157, .iconst 0, 1158, 0), (1158, .laload, 1159, 0), (1159, .iload 6, 1161, 0), (1161, .i2l, 1162, 0), (1162, .lcmp, 1163, 0), (1163, .ifCond .eq 5, 1166, 1168), (1166, .iconst 0, 1167, 0), (1167, .ireturn, 1168, 1), (1168, .goto 763, 1171, 1931), (1171, .aload_n 1, 1172, 0), (1172, .aload_n 0, 1173, 0), (1173, .iload 4, 1175, 0), (1175, .iconst 1, 1176, 0), (1176, .iadd, 1177, 0), (1177, .iaload, 1178, 0), (1178, .aload_n 0, 1179, 0), (1179, .iload 4, 1181, 0), (1181, .iconst 2, 1182, 0), (1182, .iadd, 1183, 0), (1183, .iaload, 1184, 0)],
  [(1184, .aload_n 0, 1185, 0), (1185, .iload 4, 1187, 0), (1187, .iconst 3, 1188, 0), (1188, .iadd, 1189, 0), (1189, .iaload, 1190, 0), (1190, .invokevirtual 121, 1193, 115), (1193, .aload_n 2, 1194, 0), (1194, .aload_n 0, 1195, 0), (1195, .iload 4, 1197, 0), (1197, .iconst 1, 1198, 0), (1198, .iadd, 1199, 0), (1199, .iaload, 1200, 0), (1200, .aload_n 0, 1201, 0), (1201, .iload 4, 1203, 0), (1203, .iconst 2, 1204, 0), (1204, .iadd, 1205, 0), (1205, .iaload, 1206, 0), (1206, .aload_n 0, 1207, 0), (1207, .iload 4, 1209, 0), (1209, .iconst 3, 1210, 0), (1210, .iadd, 1211, 0), (1211, .iaload, 1212, 0), (1212, .invokevirtual 124, 1215, 217), (1215, .if_icmp .eq 716, 1218, 1931)],
  [(1218, .iconst 0, 1219, 0), (1219, .ireturn, 1220, 1), (1220, .aload_n 1, 1221, 0), (1221, .aload_n 0, 1222, 0), (1222, .iload 4, 1224, 0), (1224, .iconst 1, 1225, 0), (1225, .iadd, 1226, 0), (1226, .iaload, 1227, 0), (1227, .aload_n 0, 1228, 0), (1228, .iload 4, 1230, 0), (1230, .iconst 2, 1231, 0), (1231, .iadd, 1232, 0), (1232, .iaload, 1233, 0), (1233, .invokevirtual 125, 1236, 116), (1236, .aload_n 2, 1237, 0), (1237, .aload_n 0, 1238, 0), (1238, .iload 4, 1240, 0), (1240, .iconst 1, 1241, 0), (1241, .iadd, 1242, 0), (1242, .iaload, 1243, 0), (1243, .aload_n 0, 1244, 0), (1244, .iload 4, 1246, 0), (1246, .iconst 2, 1247, 0), (1247, .iadd, 1248, 0)],
  [(1248, .iaload, 1249, 0), (1249, .invokevirtual 128, 1252, 218), (1252, .if_icmp .eq 679, 1255, 1931), (1255, .iconst 0, 1256, 0), (1256, .ireturn, 1257, 1), (1257, .aload_n 1, 1258, 0), (1258, .aload_n 0, 1259, 0), (1259, .iload 4, 1261, 0), (1261, .iconst 1, 1262, 0), (1262, .iadd, 1263, 0), (1263, .iaload, 1264, 0), (1264, .aload_n 0, 1265, 0), (1265, .iload 4, 1267, 0), (1267, .iconst 2, 1268, 0), (1268, .iadd, 1269, 0), (1269, .iaload, 1270, 0), (1270, .aload_n 0, 1271, 0), (1271, .iload 4, 1273, 0), (1273, .iconst 3, 1274, 0), (1274, .iadd, 1275, 0), (1275, .iaload, 1276, 0), (1276, .invokevirtual 129, 1279, 117), (1279, .aload_n 2, 1280, 0)],
  [(1280, .aload_n 0, 1281, 0), (1281, .iload 4, 1283, 0), (1283, .iconst 1, 1284, 0), (1284, .iadd, 1285, 0), (1285, .iaload, 1286, 0), (1286, .aload_n 0, 1287, 0), (1287, .iload 4, 1289, 0), (1289, .iconst 2, 1290, 0), (1290, .iadd, 1291, 0), (1291, .iaload, 1292, 0), (1292, .aload_n 0, 1293, 0), (1293, .iload 4, 1295, 0), (1295, .iconst 3, 1296, 0), (1296, .iadd, 1297, 0), (1297, .iaload, 1298, 0), (1298, .invokevirtual 132, 1301, 219), (1301, .if_icmp .eq 630, 1304, 1931), (1304, .iconst 0, 1305, 0), (1305, .ireturn, 1306, 1), (1306, .aload_n 1, 1307, 0), (1307, .aload_n 0, 1308, 0), (1308, .iload 4, 1310, 0), (1310, .iconst 1, 1311, 0), (1311, .iadd, 1312, 0)],
  [(1312, .iaload, 1313, 0), (1313, .aload_n 0, 1314, 0), (1314, .iload 4, 1316, 0), (1316, .iconst 2, 1317, 0), (1317, .iadd, 1318, 0), (1318, .iaload, 1319, 0), (1319, .invokevirtual 133, 1322, 118), (1322, .aload_n 2, 1323, 0), (1323, .aload_n 0, 1324, 0), (1324, .iload 4, 1326, 0), (1326, .iconst 1, 1327, 0), (1327, .iadd, 1328, 0), (1328, .iaload, 1329, 0), (1329, .aload_n 0, 1330, 0), (1330, .iload 4, 1332, 0), (1332, .iconst 2, 1333, 0), (1333, .iadd, 1334, 0), (1334, .iaload, 1335, 0), (1335, .invokevirtual 136, 1338, 221), (1338, .if_icmp .eq 593, 1341, 1931), (1341, .iconst 0, 1342, 0), (1342, .ireturn, 1343, 1), (1343, .aload_n 1, 1344, 0)],
  [(1344, .aload_n 0, 1345, 0), (1345, .iload 4, 1347, 0), (1347, .iconst 1, 1348, 0), (1348, .iadd, 1349, 0), (1349, .iaload, 1350, 0), (1350, .aload_n 0, 1351, 0), (1351, .iload 4, 1353, 0), (1353, .iconst 2, 1354, 0), (1354, .iadd, 1355, 0), (1355, .iaload, 1356, 0), (1356, .aload_n 0, 1357, 0), (1357, .iload 4, 1359, 0), (1359, .iconst 3, 1360, 0), (1360, .iadd, 1361, 0), (1361, .iaload, 1362, 0), (1362, .invokevirtual 137, 1365, 119), (1365, .aload_n 2, 1366, 0), (1366, .aload_n 0, 1367, 0), (1367, .iload 4, 1369, 0), (1369, .iconst 1, 1370, 0), (1370, .iadd, 1371, 0), (1371, .iaload, 1372, 0), (1372, .aload_n 0, 1373, 0), (1373, .iload 4, 1375, 0), (1375, .iconst 2, 1376, 0)],
  [(1376, .iadd, 1377, 0), (1377, .iaload, 1378, 0), (1378, .aload_n 0, 1379, 0), (1379, .iload 4, 1381, 0), (1381, .iconst 3, 1382, 0), (1382, .iadd, 1383, 0), (1383, .iaload, 1384, 0), (1384, .invokevirtual 140, 1387, 224), (1387, .if_icmp .eq 544, 1390, 1931), (1390, .iconst 0, 1391, 0), (1391, .ireturn, 1392, 1), (1392, .aload_n 1, 1393, 0), (1393, .aload_n 0, 1394, 0), (1394, .iload 4, 1396, 0), (1396, .iconst 1, 1397, 0), (1397, .iadd, 1398, 0), (1398, .iaload, 1399, 0), (1399, .aload_n 0, 1400, 0), (1400, .iload 4, 1402, 0), (1402, .iconst 2, 1403, 0), (1403, .iadd, 1404, 0), (1404, .iaload, 1405, 0), (1405, .aload_n 3, 1406, 0), (1406, .invokestatic 141, 1409, 253)],
  [(1409, .istore 5, 1411, 0), (1411, .aload_n 2, 1412, 0), (1412, .aload_n 0, 1413, 0), (1413, .iload 4, 1415, 0), (1415, .iconst 1, 1416, 0), (1416, .iadd, 1417, 0), (1417, .iaload, 1418, 0), (1418, .aload_n 0, 1419, 0), (1419, .iload 4, 1421, 0), (1421, .iconst 2, 1422, 0), (1422, .iadd, 1423, 0), (1423, .iaload, 1424, 0), (1424, .invokevirtual 143, 1427, 231), (1427, .istore 6, 1429, 0), (1429, .aload_n 2, 1430, 0), (1430, .invokevirtual 89, 1433, 143), (1433, .iload 5, 1435, 0), (1435, .if_icmp .eq 5, 1438, 1440), (1438, .iconst 0, 1439, 0), (1439, .ireturn, 1440, 1)],
  [(1440, .iload 5, 1442, 0), (1442, .ifCond .ne 15, 1445, 1457), (1445, .aload_n 3, 1446, 0), (1446, .iconst 0, 1447, 0), (1447, .laload, 1448, 0), (1448, .iload 6, 1450, 0), (1450, .i2l, 1451, 0), (1451, .lcmp, 1452, 0), (1452, .ifCond .eq 5, 1455, 1457), (1455, .iconst 0, 1456, 0), (1456, .ireturn, 1457, 1), (1457, .goto 474, 1460, 1931), (1460, .aload_n 1, 1461, 0), (1461, .aload_n 0, 1462, 0), (1462, .iload 4, 1464, 0), (1464, .iconst 1, 1465, 0), (1465, .iadd, 1466, 0), (1466, .iaload, 1467, 0), (1467, .invokevirtual 144, 1470, 121), (1470, .aload_n 2, 1471, 0), (1471, .aload_n 0, 1472, 0)],
  [(1472, .iload 4, 1474, 0), (1474, .iconst 1, 1475, 0), (1475, .iadd, 1476, 0), (1476, .iaload, 1477, 0), (1477, .invokevirtual 147, 1480, 234), (1480, .if_icmp .eq 451, 1483, 1931), (1483, .iconst 0, 1484, 0), (1484, .ireturn, 1485, 1), (1485, .aload_n 1, 1486, 0), (1486, .aload_n 0, 1487, 0), (1487, .iload 4, 1489, 0), (1489, .iconst 1, 1490, 0), (1490, .iadd, 1491, 0), (1491, .iaload, 1492, 0), (1492, .aload_n 0, 1493, 0), (1493, .iload 4, 1495, 0), (1495, .iconst 2, 1496, 0), (1496, .iadd, 1497, 0), (1497, .iaload, 1498, 0), (1498, .invokevirtual 148, 1501, 122), (1501, .aload_n 2, 1502, 0), (1502, .aload_n 0, 1503, 0), (1503, .iload 4, 1505, 0)],
  [(1505, .iconst 1, 1506, 0), (1506, .iadd, 1507, 0), (1507, .iaload, 1508, 0), (1508, .aload_n 0, 1509, 0), (1509, .iload 4, 1511, 0), (1511, .iconst 2, 1512, 0), (1512, .iadd, 1513, 0), (1513, .iaload, 1514, 0), (1514, .invokevirtual 151, 1517, 233), (1517, .if_icmp .eq 414, 1520, 1931), (1520, .iconst 0, 1521, 0), (1521, .ireturn, 1522, 1), (1522, .aload_n 1, 1523, 0), (1523, .aload_n 0, 1524, 0), (1524, .iload 4, 1526, 0), (1526, .iconst 1, 1527, 0), (1527, .iadd, 1528, 0), (1528, .iaload, 1529, 0), (1529, .aload_n 0, 1530, 0), (1530, .iload 4, 1532, 0), (1532, .iconst 2, 1533, 0), (1533, .iadd, 1534, 0), (1534, .iaload, 1535, 0), (1535, .aload_n 0, 1536, 0)],
  [(1536, .iload 4, 1538, 0), (1538, .iconst 3, 1539, 0), (1539, .iadd, 1540, 0), (1540, .iaload, 1541, 0), (1541, .invokevirtual 152, 1544, 123), (1544, .aload_n 2, 1545, 0), (1545, .aload_n 0, 1546, 0), (1546, .iload 4, 1548, 0), (1548, .iconst 1, 1549, 0), (1549, .iadd, 1550, 0), (1550, .iaload, 1551, 0), (1551, .aload_n 0, 1552, 0), (1552, .iload 4, 1554, 0), (1554, .iconst 2, 1555, 0), (1555, .iadd, 1556, 0), (1556, .iaload, 1557, 0), (1557, .aload_n 0, 1558, 0), (1558, .iload 4, 1560, 0), (1560, .iconst 3, 1561, 0), (1561, .iadd, 1562, 0), (1562, .iaload, 1563, 0), (1563, .invokevirtual 155, 1566, 237), (1566, .if_icmp .eq 365, 1569, 1931)],
  [(1569, .iconst 0, 1570, 0), (1570, .ireturn, 1571, 1), (1571, .aload_n 1, 1572, 0), (1572, .aload_n 0, 1573, 0), (1573, .iload 4, 1575, 0), (1575, .iconst 1, 1576, 0), (1576, .iadd, 1577, 0), (1577, .iaload, 1578, 0), (1578, .invokevirtual 156, 1581, 124), (1581, .aload_n 2, 1582, 0), (1582, .aload_n 0, 1583, 0), (1583, .iload 4, 1585, 0), (1585, .iconst 1, 1586, 0), (1586, .iadd, 1587, 0), (1587, .iaload, 1588, 0), (1588, .invokevirtual 159, 1591, 238), (1591, .if_icmp .eq 340, 1594, 1931), (1594, .iconst 0, 1595, 0), (1595, .ireturn, 1596, 1), (1596, .aload_n 1, 1597, 0), (1597, .aload_n 0, 1598, 0), (1598, .iload 4, 1600, 0)],
  [(1600, .iconst 1, 1601, 0), (1601, .iadd, 1602, 0), (1602, .iaload, 1603, 0), (1603, .aload_n 0, 1604, 0), (1604, .iload 4, 1606, 0), (1606, .iconst 2, 1607, 0), (1607, .iadd, 1608, 0), (1608, .iaload, 1609, 0), (1609, .aload_n 0, 1610, 0), (1610, .iload 4, 1612, 0), (1612, .iconst 3, 1613, 0), (1613, .iadd, 1614, 0), (1614, .iaload, 1615, 0), (1615, .aload_n 3, 1616, 0), (1616, .invokestatic 160, 1619, 254), (1619, .istore 5, 1621, 0), (1621, .aload_n 2, 1622, 0), (1622, .aload_n 0, 1623, 0), (1623, .iload 4, 1625, 0), (1625, .iconst 1, 1626, 0), (1626, .iadd, 1627, 0), (1627, .iaload, 1628, 0), (1628, .aload_n 0, 1629, 0), (1629, .iload 4, 1631, 0), (1631, .iconst 2, 1632, 0)],
  [(1632, .iadd, 1633, 0), (1633, .iaload, 1634, 0), (1634, .aload_n 0, 1635, 0), (1635, .iload 4, 1637, 0), (1637, .iconst 3, 1638, 0), (1638, .iadd, 1639, 0), (1639, .iaload, 1640, 0), (1640, .invokevirtual 162, 1643, 229), (1643, .istore 6, 1645, 0), (1645, .aload_n 2, 1646, 0), (1646, .invokevirtual 89, 1649, 143), (1649, .iload 5, 1651, 0), (1651, .if_icmp .eq 5, 1654, 1656), (1654, .iconst 0, 1655, 0), (1655, .ireturn, 1656, 1), (1656, .iload 5, 1658, 0), (1658, .ifCond .ne 15, 1661, 1673), (1661, .aload_n 3, 1662, 0), (1662, .iconst 0, 1663, 0), (1663, .laload, 1664, 0)],
  [(1664, .iload 6, 1666, 0), (1666, .i2l, 1667, 0), (1667, .lcmp, 1668, 0), (1668, .ifCond .eq 5, 1671, 1673), (1671, .iconst 0, 1672, 0), (1672, .ireturn, 1673, 1), (1673, .goto 258, 1676, 1931), (1676, .aload_n 1, 1677, 0), (1677, .aload_n 0, 1678, 0), (1678, .iload 4, 1680, 0), (1680, .iconst 1, 1681, 0), (1681, .iadd, 1682, 0), (1682, .iaload, 1683, 0), (1683, .aload_n 0, 1684, 0), (1684, .iload 4, 1686, 0), (1686, .iconst 2, 1687, 0), (1687, .iadd, 1688, 0), (1688, .iaload, 1689, 0), (1689, .aload_n 3, 1690, 0), (1690, .invokestatic 163, 1693, 255), (1693, .istore 5, 1695, 0), (1695, .aload_n 2, 1696, 0)],
  [(1696, .aload_n 0, 1697, 0), (1697, .iload 4, 1699, 0), (1699, .iconst 1, 1700, 0), (1700, .iadd, 1701, 0), (1701, .iaload, 1702, 0), (1702, .aload_n 0, 1703, 0), (1703, .iload 4, 1705, 0), (1705, .iconst 2, 1706, 0), (1706, .iadd, 1707, 0), (1707, .iaload, 1708, 0), (1708, .invokevirtual 165, 1711, 230), (1711, .istore 6, 1713, 0), (1713, .aload_n 2, 1714, 0), (1714, .invokevirtual 89, 1717, 143), (1717, .iload 5, 1719, 0), (1719, .if_icmp .eq 5, 1722, 1724), (1722, .iconst 0, 1723, 0), (1723, .ireturn, 1724, 1), (1724, .iload 5, 1726, 0), (1726, .ifCond .ne 15, 1729, 1741)],
  [(1729, .aload_n 3, 1730, 0), (1730, .iconst 0, 1731, 0), (1731, .laload, 1732, 0), (1732, .iload 6, 1734, 0), (1734, .i2l, 1735, 0), (1735, .lcmp, 1736, 0), (1736, .ifCond .eq 5, 1739, 1741), (1739, .iconst 0, 1740, 0), (1740, .ireturn, 1741, 1), (1741, .goto 190, 1744, 1931), (1744, .aload_n 1, 1745, 0), (1745, .aload_n 0, 1746, 0), (1746, .iload 4, 1748, 0), (1748, .iconst 1, 1749, 0), (1749, .iadd, 1750, 0), (1750, .iaload, 1751, 0), (1751, .aload_n 0, 1752, 0), (1752, .iload 4, 1754, 0), (1754, .iconst 2, 1755, 0), (1755, .iadd, 1756, 0), (1756, .iaload, 1757, 0), (1757, .invokevirtual 166, 1760, 127)],
  [(1760, .aload_n 2, 1761, 0), (1761, .aload_n 0, 1762, 0), (1762, .iload 4, 1764, 0), (1764, .iconst 1, 1765, 0), (1765, .iadd, 1766, 0), (1766, .iaload, 1767, 0), (1767, .aload_n 0, 1768, 0), (1768, .iload 4, 1770, 0), (1770, .iconst 2, 1771, 0), (1771, .iadd, 1772, 0), (1772, .iaload, 1773, 0), (1773, .invokevirtual 169, 1776, 241), (1776, .if_icmp .eq 155, 1779, 1931), (1779, .iconst 0, 1780, 0), (1780, .ireturn, 1781, 1), (1781, .aload_n 1, 1782, 0), (1782, .aload_n 0, 1783, 0), (1783, .iload 4, 1785, 0), (1785, .iconst 1, 1786, 0), (1786, .iadd, 1787, 0), (1787, .iaload, 1788, 0), (1788, .invokevirtual 170, 1791, 128), (1791, .aload_n 2, 1792, 0)],
  [(1792, .aload_n 0, 1793, 0), (1793, .iload 4, 1795, 0), (1795, .iconst 1, 1796, 0), (1796, .iadd, 1797, 0), (1797, .iaload, 1798, 0), (1798, .invokevirtual 173, 1801, 243), (1801, .if_icmp .eq 130, 1804, 1931), (1804, .iconst 0, 1805, 0), (1805, .ireturn, 1806, 1), (1806, .aload_n 1, 1807, 0), (1807, .aload_n 0, 1808, 0), (1808, .iload 4, 1810, 0), (1810, .iconst 1, 1811, 0), (1811, .iadd, 1812, 0), (1812, .iaload, 1813, 0), (1813, .aload_n 0, 1814, 0), (1814, .iload 4, 1816, 0), (1816, .iconst 2, 1817, 0), (1817, .iadd, 1818, 0), (1818, .iaload, 1819, 0), (1819, .invokevirtual 174, 1822, 129), (1822, .aload_n 2, 1823, 0), (1823, .aload_n 0, 1824, 0)],
  [(1824, .iload 4, 1826, 0), (1826, .iconst 1, 1827, 0), (1827, .iadd, 1828, 0), (1828, .iaload, 1829, 0), (1829, .aload_n 0, 1830, 0), (1830, .iload 4, 1832, 0), (1832, .iconst 2, 1833, 0), (1833, .iadd, 1834, 0), (1834, .iaload, 1835, 0), (1835, .invokevirtual 177, 1838, 244), (1838, .if_icmp .eq 93, 1841, 1931), (1841, .iconst 0, 1842, 0), (1842, .ireturn, 1843, 1), (1843, .aload_n 1, 1844, 0), (1844, .invokevirtual 178, 1847, 130), (1847, .aload_n 2, 1848, 0), (1848, .invokevirtual 181, 1851, 149), (1851, .if_icmp .eq 80, 1854, 1931), (1854, .iconst 0, 1855, 0), (1855, .ireturn, 1856, 1)],
  [(1856, .aload_n 1, 1857, 0), (1857, .aload_n 0, 1858, 0), (1858, .iload 4, 1860, 0), (1860, .iconst 1, 1861, 0), (1861, .iadd, 1862, 0), (1862, .iaload, 1863, 0), (1863, .invokevirtual 182, 1866, 131), (1866, .aload_n 2, 1867, 0), (1867, .aload_n 0, 1868, 0), (1868, .iload 4, 1870, 0), (1870, .iconst 1, 1871, 0), (1871, .iadd, 1872, 0), (1872, .iaload, 1873, 0), (1873, .invokevirtual 186, 1876, 245), (1876, .if_icmp .eq 55, 1879, 1931), (1879, .iconst 0, 1880, 0), (1880, .ireturn, 1881, 1), (1881, .aload_n 1, 1882, 0), (1882, .aload_n 0, 1883, 0), (1883, .iload 4, 1885, 0), (1885, .iconst 1, 1886, 0), (1886, .iadd, 1887, 0), (1887, .iaload, 1888, 0)],
  [(1888, .invokevirtual 187, 1891, 132), (1891, .aload_n 2, 1892, 0), (1892, .aload_n 0, 1893, 0), (1893, .iload 4, 1895, 0), (1895, .iconst 1, 1896, 0), (1896, .iadd, 1897, 0), (1897, .iaload, 1898, 0), (1898, .invokevirtual 190, 1901, 246), (1901, .if_icmp .eq 30, 1904, 1931), (1904, .iconst 0, 1905, 0), (1905, .ireturn, 1906, 1), (1906, .aload_n 1, 1907, 0), (1907, .aload_n 0, 1908, 0), (1908, .iload 4, 1910, 0), (1910, .iconst 1, 1911, 0), (1911, .iadd, 1912, 0), (1912, .iaload, 1913, 0), (1913, .invokevirtual 191, 1916, 133), (1916, .aload_n 2, 1917, 0), (1917, .aload_n 0, 1918, 0), (1918, .iload 4, 1920, 0)],
  [(1920, .iconst 1, 1921, 0), (1921, .iadd, 1922, 0), (1922, .iaload, 1923, 0), (1923, .invokevirtual 194, 1926, 247), (1926, .if_icmp .eq 5, 1929, 1931), (1929, .iconst 0, 1930, 0), (1930, .ireturn, 1931, 1), (1931, .iinc 4 7, 1934, 0), (1934, .goto (-1911), 1937, 23), (1937, .iconst 1, 1938, 0), (1938, .ireturn, 1939, 1)]]
-- java/lang/Integer.bitCount(I)I
set_option maxRecDepth 100000 in
noncomputable def mi_t257 : mi_T := [[(0, .iload_n 0, 1, 0), (1, .iload_n 0, 2, 0), (2, .iconst 1, 3, 0), (3, .iushr, 4, 0), (4, .ldc_w 265, 7, 1431655765), (7, .iand, 8, 0), (8, .isub, 9, 0), (9, .istore_n 0, 10, 0), (10, .iload_n 0, 11, 0), (11, .ldc_w 266, 14, 858993459), (14, .iand, 15, 0), (15, .iload_n 0, 16, 0), (16, .iconst 2, 17, 0), (17, .iushr, 18, 0), (18, .ldc_w 266, 21, 858993459), (21, .iand, 22, 0), (22, .iadd, 23, 0), (23, .istore_n 0, 24, 0), (24, .iload_n 0, 25, 0), (25, .iload_n 0, 26, 0), (26, .iconst 4, 27, 0), (27, .iushr, 28, 0), (28, .iadd, 29, 0), (29, .ldc_w 267, 32, 252645135)],
  [(32, .iand, 33, 0), (33, .istore_n 0, 34, 0), (34, .iload_n 0, 35, 0), (35, .iload_n 0, 36, 0), (36, .bipush 8, 38, 0), (38, .iushr, 39, 0), (39, .iadd, 40, 0), (40, .istore_n 0, 41, 0), (41, .iload_n 0, 42, 0), (42, .iload_n 0, 43, 0), (43, .bipush 16, 45, 0), (45, .iushr, 46, 0), (46, .iadd, 47, 0), (47, .istore_n 0, 48, 0), (48, .iload_n 0, 49, 0), (49, .bipush 63, 51, 0), (51, .iand, 52, 0), (52, .ireturn, 53, 0)]]
-- java/lang/Math.abs(I)I
set_option maxRecDepth 100000 in
noncomputable def mi_t258 : mi_T := [[(0, .iload_n 0, 1, 0), (1, .ifCond .ge 8, 4, 9), (4, .iload_n 0, 5, 0), (5, .ineg, 6, 0), (6, .goto 4, 9, 10), (9, .iload_n 0, 10, 0), (10, .ireturn, 11, 0)]]
-- java/lang/Math.floorDiv(II)I
set_option maxRecDepth 100000 in
noncomputable def mi_t259 : mi_T := [[(0, .iload_n 0, 1, 0), (1, .iload_n 1, 2, 0), (2, .idiv, 3, 0), (3, .istore_n 2, 4, 0), (4, .iload_n 0, 5, 0), (5, .iload_n 1, 6, 0), (6, .ixor, 7, 0), (7, .ifCond .ge 14, 10, 21), (10, .iload_n 2, 11, 0), (11, .iload_n 1, 12, 0), (12, .imul, 13, 0), (13, .iload_n 0, 14, 0), (14, .if_icmp .eq 7, 17, 21), (17, .iload_n 2, 18, 0), (18, .iconst 1, 19, 0), (19, .isub, 20, 0), (20, .ireturn, 21, 0), (21, .iload_n 2, 22, 0), (22, .ireturn, 23, 0)]]
-- java/lang/Math.max(II)I
set_option maxRecDepth 100000 in
noncomputable def mi_t260 : mi_T := [[(0, .iload_n 0, 1, 0), (1, .iload_n 1, 2, 0), (2, .if_icmp .lt 7, 5, 9), (5, .iload_n 0, 6, 0), (6, .goto 4, 9, 10), (9, .iload_n 1, 10, 0), (10, .ireturn, 11, 0)]]
-- java/lang/Math.min(II)I
set_option maxRecDepth 100000 in
noncomputable def mi_t261 : mi_T := [[(0, .iload_n 0, 1, 0), (1, .iload_n 1, 2, 0), (2, .if_icmp .gt 7, 5, 9), (5, .iload_n 0, 6, 0), (6, .goto 4, 9, 10), (9, .iload_n 1, 10, 0), (10, .ireturn, 11, 0)]]
set_option maxRecDepth 100000 in
noncomputable def mi_tb (k : Nat) : mi_T := bif Nat.blt k 262 then (bif Nat.blt k 131 then (bif Nat.blt k 65 then (bif Nat.blt k 32 then (bif Nat.blt k 16 then (bif Nat.blt k 8 then (bif Nat.blt k 4 then (bif Nat.blt k 2 then (bif Nat.blt k 1 then mi_t0 else mi_t1) else (bif Nat.blt k 3 then mi_t2 else mi_t3)) else (bif Nat.blt k 6 then (bif Nat.blt k 5 then mi_t4 else mi_t5) else (bif Nat.blt k 7 then mi_t6 else mi_t7))) else (bif Nat.blt k 12 then (bif Nat.blt k 10 then (bif Nat.blt k 9 then mi_t8 else mi_t9) else (bif Nat.blt k 11 then mi_t10 else mi_t11)) else (bif Nat.blt k 14 then (bif Nat.blt k 13 then mi_t12 else mi_t13) else (bif Nat.blt k 15 then mi_t14 else mi_t15)))) else (bif Nat.blt k 24 then (bif Nat.blt k 20 then (bif Nat.blt k 18 then (bif Nat.blt k 17 then mi_t16 else mi_t17) else (bif Nat.blt k 19 then mi_t18 else mi_t19)) else (bif Nat.blt k 22 then (bif Nat.blt k 21 then mi_t20 else mi_t21) else (bif Nat.blt k 23 then mi_t22 else mi_t23))) else (bif Nat.blt k 28 then (bif Nat.blt k 26 then (bif Nat.blt k 25 then mi_t24 else mi_t25) else (bif Nat.blt k 27 then mi_t26 else mi_t27)) else (bif Nat.blt k 30 then (bif Nat.blt k 29 then mi_t28 else mi_t29) else (bif Nat.blt k 31 then mi_t30 else mi_t31))))) else (bif Nat.blt k 48 then (bif Nat.blt k 40 then (bif Nat.blt k 36 then (bif Nat.blt k 34 then (bif Nat.blt k 33 then mi_t32 else mi_t33) else (bif Nat.blt k 35 then mi_t34 else mi_t35)) else (bif Nat.blt k 38 then (bif Nat.blt k 37 then mi_t36 else mi_t37) else (bif Nat.blt k 39 then mi_t38 else mi_t39))) else (bif Nat.blt k 44 then (bif Nat.blt k 42 then (bif Nat.blt k 41 then mi_t40 else mi_t41) else (bif Nat.blt k 43 then mi_t42 else mi_t43)) else (bif Nat.blt k 46 then (bif Nat.blt k 45 then mi_t44 else mi_t45) else (bif Nat.blt k 47 then mi_t46 else mi_t47)))) else (bif Nat.blt k 56 then (bif Nat.blt k 52 then (bif Nat.blt k 50 then (bif Nat.blt k 49 then mi_t48 else mi_t49) else (bif Nat.blt k 51 then mi_t50 else mi_t51)) else (bif Nat.blt k 54 then (bif Nat.blt k 53 then mi_t52 else mi_t53) else (bif Nat.blt k 55 then mi_t54 else mi_t55))) else (bif Nat.blt k 60 then (bif Nat.blt k 58 then (bif Nat.blt k 57 then mi_t56 else mi_t57) else (bif Nat.blt k 59 then mi_t58 else mi_t59)) else (bif Nat.blt k 62 then (bif Nat.blt k 61 then mi_t60 else mi_t61) else (bif Nat.blt k 63 then mi_t62 else (bif Nat.blt k 64 then mi_t63 else mi_t64))))))) else (bif Nat.blt k 98 then (bif Nat.blt k 81 then (bif Nat.blt k 73 then (bif Nat.blt k 69 then (bif Nat.blt k 67 then (bif Nat.blt k 66 then mi_t65 else mi_t66) else (bif Nat.blt k 68 then mi_t67 else mi_t68)) else (bif Nat.blt k 71 then (bif Nat.blt k 70 then mi_t69 else mi_t70) else (bif Nat.blt k 72 then mi_t71 else mi_t72))) else (bif Nat.blt k 77 then (bif Nat.blt k 75 then (bif Nat.blt k 74 then mi_t73 else mi_t74) else (bif Nat.blt k 76 then mi_t75 else mi_t76)) else (bif Nat.blt k 79 then (bif Nat.blt k 78 then mi_t77 else mi_t78) else (bif Nat.blt k 80 then mi_t79 else mi_t80)))) else (bif Nat.blt k 89 then (bif Nat.blt k 85 then (bif Nat.blt k 83 then (bif Nat.blt k 82 then mi_t81 else mi_t82) else (bif Nat.blt k 84 then mi_t83 else mi_t84)) else (bif Nat.blt k 87 then (bif Nat.blt k 86 then mi_t85 else mi_t86) else (bif Nat.blt k 88 then mi_t87 else mi_t88))) else (bif Nat.blt k 93 then (bif Nat.blt k 91 then (bif Nat.blt k 90 then mi_t89 else mi_t90) else (bif Nat.blt k 92 then mi_t91 else mi_t92)) else (bif Nat.blt k 95 then (bif Nat.blt k 94 then mi_t93 else mi_t94) else (bif Nat.blt k 96 then mi_t95 else (bif Nat.blt k 97 then mi_t96 else mi_t97)))))) else (bif Nat.blt k 114 then (bif Nat.blt k 106 then (bif Nat.blt k 102 then (bif Nat.blt k 100 then (bif Nat.blt k 99 then mi_t98 else mi_t99) else (bif Nat.blt k 101 then mi_t100 else mi_t101)) else (bif Nat.blt k 104 then (bif Nat.blt k 103 then mi_t102 else mi_t103) else (bif Nat.blt k 105 then mi_t104 else mi_t105))) else (bif Nat.blt k 110 then (bif Nat.blt k 108 then (bif Nat.blt k 107 then mi_t106 else mi_t107) else (bif Nat.blt k 109 then mi_t108 else mi_t109)) else (bif Nat.blt k 112 then (bif Nat.blt k 111 then mi_t110 else mi_t111) else (bif Nat.blt k 113 then mi_t112 else mi_t113)))) else (bif Nat.blt k 122 then (bif Nat.blt k 118 then (bif Nat.blt k 116 then (bif Nat.blt k 115 then mi_t114 else mi_t115) else (bif Nat.blt k 117 then mi_t116 else mi_t117)) else (bif Nat.blt k 120 then (bif Nat.blt k 119 then mi_t118 else mi_t119) else (bif Nat.blt k 121 then mi_t120 else mi_t121))) else (bif Nat.blt k 126 then (bif Nat.blt k 124 then (bif Nat.blt k 123 then mi_t122 else mi_t123) else (bif Nat.blt k 125 then mi_t124 else mi_t125)) else (bif Nat.blt k 128 then (bif Nat.blt k 127 then mi_t126 else mi_t127) else (bif Nat.blt k 129 then mi_t128 else (bif Nat.blt k 130 then mi_t129 else mi_t130)))))))) else (bif Nat.blt k 196 then (bif Nat.blt k 163 then (bif Nat.blt k 147 then (bif Nat.blt k 139 then (bif Nat.blt k 135 then (bif Nat.blt k 133 then (bif Nat.blt k 132 then mi_t131 else mi_t132) else (bif Nat.blt k 134 then mi_t133 else mi_t134)) else (bif Nat.blt k 137 then (bif Nat.blt k 136 then mi_t135 else mi_t136) else (bif Nat.blt k 138 then mi_t137 else mi_t138))) else (bif Nat.blt k 143 then (bif Nat.blt k 141 then (bif Nat.blt k 140 then mi_t139 else mi_t140) else (bif Nat.blt k 142 then mi_t141 else mi_t142)) else (bif Nat.blt k 145 then (bif Nat.blt k 144 then mi_t143 else mi_t144) else (bif Nat.blt k 146 then mi_t145 else mi_t146)))) else (bif Nat.blt k 155 then (bif Nat.blt k 151 then (bif Nat.blt k 149 then (bif Nat.blt k 148 then mi_t147 else mi_t148) else (bif Nat.blt k 150 then mi_t149 else mi_t150)) else (bif Nat.blt k 153 then (bif Nat.blt k 152 then mi_t151 else mi_t152) else (bif Nat.blt k 154 then mi_t153 else mi_t154))) else (bif Nat.blt k 159 then (bif Nat.blt k 157 then (bif Nat.blt k 156 then mi_t155 else mi_t156) else (bif Nat.blt k 158 then mi_t157 else mi_t158)) else (bif Nat.blt k 161 then (bif Nat.blt k 160 then mi_t159 else mi_t160) else (bif Nat.blt k 162 then mi_t161 else mi_t162))))) else (bif Nat.blt k 179 then (bif Nat.blt k 171 then (bif Nat.blt k 167 then (bif Nat.blt k 165 then (bif Nat.blt k 164 then mi_t163 else mi_t164) else (bif Nat.blt k 166 then mi_t165 else mi_t166)) else (bif Nat.blt k 169 then (bif Nat.blt k 168 then mi_t167 else mi_t168) else (bif Nat.blt k 170 then mi_t169 else mi_t170))) else (bif Nat.blt k 175 then (bif Nat.blt k 173 then (bif Nat.blt k 172 then mi_t171 else mi_t172) else (bif Nat.blt k 174 then mi_t173 else mi_t174)) else (bif Nat.blt k 177 then (bif Nat.blt k 176 then mi_t175 else mi_t176) else (bif Nat.blt k 178 then mi_t177 else mi_t178)))) else (bif Nat.blt k 187 then (bif Nat.blt k 183 then (bif Nat.blt k 181 then (bif Nat.blt k 180 then mi_t179 else mi_t180) else (bif Nat.blt k 182 then mi_t181 else mi_t182)) else (bif Nat.blt k 185 then (bif Nat.blt k 184 then mi_t183 else mi_t184) else (bif Nat.blt k 186 then mi_t185 else mi_t186))) else (bif Nat.blt k 191 then (bif Nat.blt k 189 then (bif Nat.blt k 188 then mi_t187 else mi_t188) else (bif Nat.blt k 190 then mi_t189 else mi_t190)) else (bif Nat.blt k 193 then (bif Nat.blt k 192 then mi_t191 else mi_t192) else (bif Nat.blt k 194 then mi_t193 else (bif Nat.blt k 195 then mi_t194 else mi_t195))))))) else (bif Nat.blt k 229 then (bif Nat.blt k 212 then (bif Nat.blt k 204 then (bif Nat.blt k 200 then (bif Nat.blt k 198 then (bif Nat.blt k 197 then mi_t196 else mi_t197) else (bif Nat.blt k 199 then mi_t198 else mi_t199)) else (bif Nat.blt k 202 then (bif Nat.blt k 201 then mi_t200 else mi_t201) else (bif Nat.blt k 203 then mi_t202 else mi_t203))) else (bif Nat.blt k 208 then (bif Nat.blt k 206 then (bif Nat.blt k 205 then mi_t204 else mi_t205) else (bif Nat.blt k 207 then mi_t206 else mi_t207)) else (bif Nat.blt k 210 then (bif Nat.blt k 209 then mi_t208 else mi_t209) else (bif Nat.blt k 211 then mi_t210 else mi_t211)))) else (bif Nat.blt k 220 then (bif Nat.blt k 216 then (bif Nat.blt k 214 then (bif Nat.blt k 213 then mi_t212 else mi_t213) else (bif Nat.blt k 215 then mi_t214 else mi_t215)) else (bif Nat.blt k 218 then (bif Nat.blt k 217 then mi_t216 else mi_t217) else (bif Nat.blt k 219 then mi_t218 else mi_t219))) else (bif Nat.blt k 224 then (bif Nat.blt k 222 then (bif Nat.blt k 221 then mi_t220 else mi_t221) else (bif Nat.blt k 223 then mi_t222 else mi_t223)) else (bif Nat.blt k 226 then (bif Nat.blt k 225 then mi_t224 else mi_t225) else (bif Nat.blt k 227 then mi_t226 else (bif Nat.blt k 228 then mi_t227 else mi_t228)))))) else (bif Nat.blt k 245 then (bif Nat.blt k 237 then (bif Nat.blt k 233 then (bif Nat.blt k 231 then (bif Nat.blt k 230 then mi_t229 else mi_t230) else (bif Nat.blt k 232 then mi_t231 else mi_t232)) else (bif Nat.blt k 235 then (bif Nat.blt k 234 then mi_t233 else mi_t234) else (bif Nat.blt k 236 then mi_t235 else mi_t236))) else (bif Nat.blt k 241 then (bif Nat.blt k 239 then (bif Nat.blt k 238 then mi_t237 else mi_t238) else (bif Nat.blt k 240 then mi_t239 else mi_t240)) else (bif Nat.blt k 243 then (bif Nat.blt k 242 then mi_t241 else mi_t242) else (bif Nat.blt k 244 then mi_t243 else mi_t244)))) else (bif Nat.blt k 253 then (bif Nat.blt k 249 then (bif Nat.blt k 247 then (bif Nat.blt k 246 then mi_t245 else mi_t246) else (bif Nat.blt k 248 then mi_t247 else mi_t248)) else (bif Nat.blt k 251 then (bif Nat.blt k 250 then mi_t249 else mi_t250) else (bif Nat.blt k 252 then mi_t251 else mi_t252))) else (bif Nat.blt k 257 then (bif Nat.blt k 255 then (bif Nat.blt k 254 then mi_t253 else mi_t254) else (bif Nat.blt k 256 then mi_t255 else mi_t256)) else (bif Nat.blt k 259 then (bif Nat.blt k 258 then mi_t257 else mi_t258) else (bif Nat.blt k 260 then mi_t259 else (bif Nat.blt k 261 then mi_t260 else mi_t261))))))))) else []
set_option maxRecDepth 100000 in
noncomputable def mi_hd (k : Nat) : mi_H := bif Nat.blt k 262 then (bif Nat.blt k 131 then (bif Nat.blt k 65 then (bif Nat.blt k 32 then (bif Nat.blt k 16 then (bif Nat.blt k 8 then (bif Nat.blt k 4 then (bif Nat.blt k 2 then (bif Nat.blt k 1 then (1, 1, true, true, 0, false) else (1, 1, true, true, 0, false)) else (bif Nat.blt k 3 then (2, 2, false, false, 11, false) else (3, 3, false, false, 11, false))) else (bif Nat.blt k 6 then (bif Nat.blt k 5 then (4, 7, false, false, 11, false) else (5, 8, false, false, 11, false)) else (bif Nat.blt k 7 then (4, 5, false, false, 11, false) else (3, 3, true, true, 0, false)))) else (bif Nat.blt k 12 then (bif Nat.blt k 10 then (bif Nat.blt k 9 then (1, 5, false, false, 12, false) else (3, 6, false, false, 12, false)) else (bif Nat.blt k 11 then (2, 8, false, false, 12, false) else (3, 3, true, true, 0, false))) else (bif Nat.blt k 14 then (bif Nat.blt k 13 then (1, 3, false, false, 13, false) else (3, 6, false, false, 13, false)) else (bif Nat.blt k 15 then (3, 5, false, false, 13, false) else (3, 8, false, false, 13, false))))) else (bif Nat.blt k 24 then (bif Nat.blt k 20 then (bif Nat.blt k 18 then (bif Nat.blt k 17 then (3, 9, false, false, 13, false) else (1, 3, false, false, 13, false)) else (bif Nat.blt k 19 then (4, 7, false, false, 13, false) else (5, 6, false, false, 13, false))) else (bif Nat.blt k 22 then (bif Nat.blt k 21 then (3, 6, false, false, 13, false) else (1, 3, false, false, 13, false)) else (bif Nat.blt k 23 then (4, 5, false, false, 13, false) else (4, 6, false, false, 13, false)))) else (bif Nat.blt k 28 then (bif Nat.blt k 26 then (bif Nat.blt k 25 then (4, 7, false, false, 13, false) else (5, 8, false, false, 13, false)) else (bif Nat.blt k 27 then (4, 5, false, false, 13, false) else (5, 10, false, false, 13, false))) else (bif Nat.blt k 30 then (bif Nat.blt k 29 then (2, 2, false, false, 0, false) else (2, 6, false, false, 13, false)) else (bif Nat.blt k 31 then (2, 2, true, true, 0, false) else (1, 3, false, false, 14, false)))))) else (bif Nat.blt k 48 then (bif Nat.blt k 40 then (bif Nat.blt k 36 then (bif Nat.blt k 34 then (bif Nat.blt k 33 then (4, 11, false, false, 14, false) else (2, 2, false, false, 0, false)) else (bif Nat.blt k 35 then (1, 4, false, false, 14, false) else (4, 4, false, false, 14, false))) else (bif Nat.blt k 38 then (bif Nat.blt k 37 then (3, 6, false, false, 14, false) else (2, 5, false, false, 14, false)) else (bif Nat.blt k 39 then (4, 9, false, false, 14, false) else (1, 1, false, false, 14, false)))) else (bif Nat.blt k 44 then (bif Nat.blt k 42 then (bif Nat.blt k 41 then (1, 2, false, false, 14, false) else (1, 5, false, false, 14, false)) else (bif Nat.blt k 43 then (2, 8, false, false, 14, false) else (2, 3, false, false, 14, false))) else (bif Nat.blt k 46 then (bif Nat.blt k 45 then (3, 9, false, false, 14, false) else (1, 2, true, true, 0, false)) else (bif Nat.blt k 47 then (2, 2, false, false, 15, false) else (2, 2, false, false, 15, false))))) else (bif Nat.blt k 56 then (bif Nat.blt k 52 then (bif Nat.blt k 50 then (bif Nat.blt k 49 then (3, 3, true, true, 0, false) else (2, 5, false, false, 16, false)) else (bif Nat.blt k 51 then (4, 6, false, false, 16, false) else (5, 5, false, false, 16, false))) else (bif Nat.blt k 54 then (bif Nat.blt k 53 then (4, 10, false, false, 16, false) else (3, 3, false, false, 16, false)) else (bif Nat.blt k 55 then (2, 5, false, false, 16, false) else (3, 3, false, false, 16, false)))) else (bif Nat.blt k 60 then (bif Nat.blt k 58 then (bif Nat.blt k 57 then (3, 3, false, false, 16, false) else (2, 4, false, false, 16, false)) else (bif Nat.blt k 59 then (2, 3, false, false, 16, false) else (3, 4, false, false, 16, false))) else (bif Nat.blt k 62 then (bif Nat.blt k 61 then (3, 7, false, false, 16, false) else (4, 13, false, false, 16, false)) else (bif Nat.blt k 63 then (2, 2, true, true, 0, false) else (bif Nat.blt k 64 then (3, 4, false, false, 17, false) else (2, 2, false, false, 17, false)))))))) else (bif Nat.blt k 98 then (bif Nat.blt k 81 then (bif Nat.blt k 73 then (bif Nat.blt k 69 then (bif Nat.blt k 67 then (bif Nat.blt k 66 then (1, 3, false, false, 17, false) else (1, 1, false, false, 17, false)) else (bif Nat.blt k 68 then (2, 2, false, false, 17, false) else (1, 2, false, false, 17, false))) else (bif Nat.blt k 71 then (bif Nat.blt k 70 then (2, 5, false, false, 17, false) else (3, 4, false, false, 17, false)) else (bif Nat.blt k 72 then (1, 4, false, false, 17, false) else (1, 1, false, false, 17, false)))) else (bif Nat.blt k 77 then (bif Nat.blt k 75 then (bif Nat.blt k 74 then (2, 3, false, false, 17, false) else (3, 3, false, false, 17, false)) else (bif Nat.blt k 76 then (1, 1, false, false, 0, false) else (1, 1, false, false, 0, false))) else (bif Nat.blt k 79 then (bif Nat.blt k 78 then (1, 1, false, false, 0, false) else (1, 1, false, false, 0, false)) else (bif Nat.blt k 80 then (3, 3, true, true, 0, false) else (2, 7, false, false, 18, false))))) else (bif Nat.blt k 89 then (bif Nat.blt k 85 then (bif Nat.blt k 83 then (bif Nat.blt k 82 then (3, 5, false, false, 18, false) else (4, 4, false, false, 18, false)) else (bif Nat.blt k 84 then (1, 1, true, true, 0, false) else (2, 2, false, false, 19, false))) else (bif Nat.blt k 87 then (bif Nat.blt k 86 then (3, 4, false, false, 19, false) else (3, 3, false, false, 19, false)) else (bif Nat.blt k 88 then (4, 4, false, false, 19, false) else (2, 2, false, false, 19, false)))) else (bif Nat.blt k 93 then (bif Nat.blt k 91 then (bif Nat.blt k 90 then (3, 5, false, false, 19, false) else (1, 1, false, false, 19, false)) else (bif Nat.blt k 92 then (3, 3, false, false, 19, false) else (1, 1, true, true, 0, false))) else (bif Nat.blt k 95 then (bif Nat.blt k 94 then (2, 2, false, false, 20, false) else (2, 2, false, false, 20, false)) else (bif Nat.blt k 96 then (2, 2, false, false, 20, false) else (bif Nat.blt k 97 then (1, 2, true, true, 0, false) else (6, 6, false, false, 21, false))))))) else (bif Nat.blt k 114 then (bif Nat.blt k 106 then (bif Nat.blt k 102 then (bif Nat.blt k 100 then (bif Nat.blt k 99 then (2, 3, false, false, 21, false) else (3, 3, false, false, 21, false)) else (bif Nat.blt k 101 then (5, 7, false, false, 21, false) else (3, 4, false, false, 21, false))) else (bif Nat.blt k 104 then (bif Nat.blt k 103 then (7, 9, false, false, 21, false) else (1, 2, false, false, 21, false)) else (bif Nat.blt k 105 then (1, 5, false, false, 21, false) else (4, 5, false, false, 21, false)))) else (bif Nat.blt k 110 then (bif Nat.blt k 108 then (bif Nat.blt k 107 then (4, 4, true, false, 21, true) else (4, 4, true, false, 21, true)) else (bif Nat.blt k 109 then (4, 5, true, false, 21, true) else (2, 2, false, false, 21, false))) else (bif Nat.blt k 112 then (bif Nat.blt k 111 then (4, 4, false, false, 21, false) else (5, 5, false, false, 21, false)) else (bif Nat.blt k 113 then (4, 4, false, false, 21, false) else (4, 4, true, false, 21, true))))) else (bif Nat.blt k 122 then (bif Nat.blt k 118 then (bif Nat.blt k 116 then (bif Nat.blt k 115 then (3, 3, true, false, 21, true) else (4, 4, false, false, 21, false)) else (bif Nat.blt k 117 then (3, 3, false, false, 21, false) else (4, 4, false, false, 21, false))) else (bif Nat.blt k 120 then (bif Nat.blt k 119 then (3, 3, false, false, 21, false) else (4, 5, false, false, 21, false)) else (bif Nat.blt k 121 then (3, 3, true, false, 21, true) else (2, 2, false, false, 21, false)))) else (bif Nat.blt k 126 then (bif Nat.blt k 124 then (bif Nat.blt k 123 then (3, 3, false, false, 21, false) else (4, 4, false, false, 21, false)) else (bif Nat.blt k 125 then (2, 5, false, false, 21, false) else (4, 4, true, false, 21, true))) else (bif Nat.blt k 128 then (bif Nat.blt k 127 then (3, 4, true, false, 21, true) else (3, 5, false, false, 21, false)) else (bif Nat.blt k 129 then (2, 4, false, false, 21, false) else (bif Nat.blt k 130 then (3, 6, false, false, 21, false) else (1, 1, false, false, 21, false))))))))) else (bif Nat.blt k 196 then (bif Nat.blt k 163 then (bif Nat.blt k 147 then (bif Nat.blt k 139 then (bif Nat.blt k 135 then (bif Nat.blt k 133 then (bif Nat.blt k 132 then (2, 2, false, false, 21, false) else (2, 2, false, false, 21, false)) else (bif Nat.blt k 134 then (2, 2, false, false, 21, false) else (3, 3, false, false, 0, false))) else (bif Nat.blt k 137 then (bif Nat.blt k 136 then (1, 1, false, false, 0, false) else (3, 3, false, false, 0, false)) else (bif Nat.blt k 138 then (3, 3, false, false, 0, false) else (4, 4, true, false, 21, true)))) else (bif Nat.blt k 143 then (bif Nat.blt k 141 then (bif Nat.blt k 140 then (2, 2, false, false, 21, false) else (2, 2, false, false, 21, false)) else (bif Nat.blt k 142 then (2, 2, false, false, 21, false) else (5, 7, false, false, 21, false))) else (bif Nat.blt k 145 then (bif Nat.blt k 144 then (1, 1, false, false, 22, false) else (3, 3, false, false, 0, false)) else (bif Nat.blt k 146 then (1, 1, true, true, 0, false) else (3, 3, false, false, 22, false))))) else (bif Nat.blt k 155 then (bif Nat.blt k 151 then (bif Nat.blt k 149 then (bif Nat.blt k 148 then (1, 2, false, false, 22, false) else (1, 2, false, false, 22, false)) else (bif Nat.blt k 150 then (1, 2, false, false, 22, false) else (3, 3, false, false, 22, false))) else (bif Nat.blt k 153 then (bif Nat.blt k 152 then (4, 4, false, false, 22, false) else (3, 3, false, false, 0, false)) else (bif Nat.blt k 154 then (4, 4, false, false, 22, false) else (6, 6, false, false, 22, false)))) else (bif Nat.blt k 159 then (bif Nat.blt k 157 then (bif Nat.blt k 156 then (2, 3, false, false, 22, false) else (2, 2, false, false, 22, false)) else (bif Nat.blt k 158 then (1, 1, false, false, 0, false) else (1, 2, false, false, 22, false))) else (bif Nat.blt k 161 then (bif Nat.blt k 160 then (3, 3, false, false, 22, false) else (8, 11, true, false, 22, false)) else (bif Nat.blt k 162 then (1, 3, false, false, 22, false) else (3, 4, false, false, 22, false)))))) else (bif Nat.blt k 179 then (bif Nat.blt k 171 then (bif Nat.blt k 167 then (bif Nat.blt k 165 then (bif Nat.blt k 164 then (4, 5, false, false, 22, false) else (1, 1, false, false, 0, false)) else (bif Nat.blt k 166 then (2, 5, false, false, 22, false) else (1, 2, false, false, 22, false))) else (bif Nat.blt k 169 then (bif Nat.blt k 168 then (1, 1, true, false, 22, false) else (2, 5, true, false, 22, false)) else (bif Nat.blt k 170 then (3, 3, false, false, 22, false) else (5, 6, false, false, 22, false)))) else (bif Nat.blt k 175 then (bif Nat.blt k 173 then (bif Nat.blt k 172 then (3, 3, false, false, 22, false) else (3, 4, false, false, 22, false)) else (bif Nat.blt k 174 then (7, 9, false, false, 22, false) else (1, 2, false, false, 22, false))) else (bif Nat.blt k 177 then (bif Nat.blt k 176 then (3, 3, false, false, 22, false) else (4, 8, false, false, 22, false)) else (bif Nat.blt k 178 then (4, 6, false, false, 22, false) else (1, 4, false, false, 22, false))))) else (bif Nat.blt k 187 then (bif Nat.blt k 183 then (bif Nat.blt k 181 then (bif Nat.blt k 180 then (3, 4, false, false, 22, false) else (3, 5, false, false, 22, false)) else (bif Nat.blt k 182 then (4, 4, false, false, 22, false) else (4, 4, false, false, 22, false))) else (bif Nat.blt k 185 then (bif Nat.blt k 184 then (3, 3, false, false, 22, false) else (4, 9, false, false, 22, false)) else (bif Nat.blt k 186 then (3, 3, false, false, 0, false) else (1, 3, false, false, 22, false)))) else (bif Nat.blt k 191 then (bif Nat.blt k 189 then (bif Nat.blt k 188 then (4, 4, false, false, 22, false) else (4, 8, false, false, 22, false)) else (bif Nat.blt k 190 then (4, 6, false, false, 22, false) else (2, 5, false, false, 22, false))) else (bif Nat.blt k 193 then (bif Nat.blt k 192 then (1, 3, false, false, 0, false) else (4, 4, false, false, 22, false)) else (bif Nat.blt k 194 then (4, 4, false, false, 22, false) else (bif Nat.blt k 195 then (4, 4, false, false, 22, false) else (1, 1, false, false, 0, false)))))))) else (bif Nat.blt k 229 then (bif Nat.blt k 212 then (bif Nat.blt k 204 then (bif Nat.blt k 200 then (bif Nat.blt k 198 then (bif Nat.blt k 197 then (1, 1, false, false, 0, false) else (3, 3, false, false, 0, false)) else (bif Nat.blt k 199 then (4, 7, false, false, 22, false) else (4, 7, false, false, 22, false))) else (bif Nat.blt k 202 then (bif Nat.blt k 201 then (2, 10, false, false, 22, false) else (1, 3, false, false, 22, false)) else (bif Nat.blt k 203 then (5, 5, false, false, 22, false) else (4, 4, false, false, 22, false)))) else (bif Nat.blt k 208 then (bif Nat.blt k 206 then (bif Nat.blt k 205 then (3, 5, false, false, 22, false) else (3, 5, false, false, 22, false)) else (bif Nat.blt k 207 then (1, 3, false, false, 22, false) else (3, 3, false, false, 0, false))) else (bif Nat.blt k 210 then (bif Nat.blt k 209 then (4, 8, false, false, 22, false) else (1, 3, false, false, 22, false)) else (bif Nat.blt k 211 then (6, 8, false, false, 22, false) else (6, 8, false, false, 22, false))))) else (bif Nat.blt k 220 then (bif Nat.blt k 216 then (bif Nat.blt k 214 then (bif Nat.blt k 213 then (2, 7, false, false, 22, false) else (4, 5, false, false, 22, false)) else (bif Nat.blt k 215 then (4, 5, false, false, 22, false) else (4, 4, false, false, 22, false))) else (bif Nat.blt k 218 then (bif Nat.blt k 217 then (3, 7, false, false, 22, false) else (4, 4, false, false, 22, false)) else (bif Nat.blt k 219 then (3, 6, false, false, 22, false) else (4, 4, false, false, 22, false)))) else (bif Nat.blt k 224 then (bif Nat.blt k 222 then (bif Nat.blt k 221 then (2, 2, false, false, 22, false) else (3, 6, false, false, 22, false)) else (bif Nat.blt k 223 then (3, 6, false, false, 22, false) else (4, 12, false, false, 22, false))) else (bif Nat.blt k 226 then (bif Nat.blt k 225 then (4, 5, false, false, 22, false) else (6, 8, false, false, 22, false)) else (bif Nat.blt k 227 then (4, 6, false, false, 22, false) else (bif Nat.blt k 228 then (4, 8, false, false, 22, false) else (1, 6, false, false, 22, false))))))) else (bif Nat.blt k 245 then (bif Nat.blt k 237 then (bif Nat.blt k 233 then (bif Nat.blt k 231 then (bif Nat.blt k 230 then (4, 4, false, false, 22, false) else (3, 4, false, false, 22, false)) else (bif Nat.blt k 232 then (3, 8, false, false, 22, false) else (3, 6, false, false, 22, false))) else (bif Nat.blt k 235 then (bif Nat.blt k 234 then (3, 3, false, false, 22, false) else (2, 9, false, false, 22, false)) else (bif Nat.blt k 236 then (5, 10, false, false, 22, false) else (4, 5, false, false, 22, false)))) else (bif Nat.blt k 241 then (bif Nat.blt k 239 then (bif Nat.blt k 238 then (4, 4, false, false, 22, false) else (2, 5, false, false, 22, false)) else (bif Nat.blt k 240 then (3, 4, false, false, 22, false) else (2, 7, false, false, 22, false))) else (bif Nat.blt k 243 then (bif Nat.blt k 242 then (3, 4, false, false, 22, false) else (2, 6, false, false, 22, false)) else (bif Nat.blt k 244 then (2, 4, false, false, 22, false) else (3, 8, false, false, 22, false))))) else (bif Nat.blt k 253 then (bif Nat.blt k 249 then (bif Nat.blt k 247 then (bif Nat.blt k 246 then (2, 3, false, false, 22, false) else (2, 3, false, false, 22, false)) else (bif Nat.blt k 248 then (2, 2, false, false, 22, false) else (5, 6, true, false, 0, false))) else (bif Nat.blt k 251 then (bif Nat.blt k 250 then (5, 6, true, false, 0, false) else (5, 6, true, false, 0, false)) else (bif Nat.blt k 252 then (5, 6, true, false, 0, false) else (4, 5, true, false, 0, false)))) else (bif Nat.blt k 257 then (bif Nat.blt k 255 then (bif Nat.blt k 254 then (4, 5, true, false, 0, false) else (5, 6, true, false, 0, false)) else (bif Nat.blt k 256 then (4, 5, true, false, 0, false) else (1, 7, true, true, 0, false))) else (bif Nat.blt k 259 then (bif Nat.blt k 258 then (1, 1, false, false, 0, false) else (1, 1, false, false, 0, false)) else (bif Nat.blt k 260 then (2, 3, false, false, 0, false) else (bif Nat.blt k 261 then (2, 2, false, false, 0, false) else (2, 2, false, false, 0, false)))))))))) else (0, 0, false, false, 0, false)
set_option maxRecDepth 100000 in
noncomputable def mi_nm (k : Nat) : MethodName := bif Nat.blt k 262 then (bif Nat.blt k 131 then (bif Nat.blt k 65 then (bif Nat.blt k 32 then (bif Nat.blt k 16 then (bif Nat.blt k 8 then (bif Nat.blt k 4 then (bif Nat.blt k 2 then (bif Nat.blt k 1 then yX0_init else yX1_init) else (bif Nat.blt k 3 then yX1_become else yX1_leftEdge)) else (bif Nat.blt k 6 then (bif Nat.blt k 5 then yX1_seenAt else yX1_textureAt) else (bif Nat.blt k 7 then yX1_isCovered else yX2_init))) else (bif Nat.blt k 12 then (bif Nat.blt k 10 then (bif Nat.blt k 9 then yX2_gather else yX2_votesFor) else (bif Nat.blt k 11 then yX2_bestLine else yX3_init)) else (bif Nat.blt k 14 then (bif Nat.blt k 13 then yX3_makeShifts else yX3_bestOfLeft) else (bif Nat.blt k 15 then yX3_bestOfRight else yX3_marginAt)))) else (bif Nat.blt k 24 then (bif Nat.blt k 20 then (bif Nat.blt k 18 then (bif Nat.blt k 17 then yX3_fineAt else yX3_makeKinds) else (bif Nat.blt k 19 then yX3_kindBySight else yX3_shiftSeen)) else (bif Nat.blt k 22 then (bif Nat.blt k 21 then yX3_howManyOf else yX3_makeFilled) else (bif Nat.blt k 23 then yX3_fillingOf else yX3_lesserBeside))) else (bif Nat.blt k 28 then (bif Nat.blt k 26 then (bif Nat.blt k 25 then yX3_middleAround else yX3_nearestSure) else (bif Nat.blt k 27 then yX3_valueBetween else yX3_comesFrom)) else (bif Nat.blt k 30 then (bif Nat.blt k 29 then yX3_quarters else yX3_priceOf) else (bif Nat.blt k 31 then yX4_init else yX4_makeCodes))))) else (bif Nat.blt k 48 then (bif Nat.blt k 40 then (bif Nat.blt k 36 then (bif Nat.blt k 34 then (bif Nat.blt k 33 then yX4_codeBits else yX4_nearest) else (bif Nat.blt k 35 then yX4_makeCosts else yX4_unlikeBits)) else (bif Nat.blt k 38 then (bif Nat.blt k 37 then yX4_howOften else yX4_unlikeCodes) else (bif Nat.blt k 39 then yX4_wasBefore else yX4_forgetWay))) else (bif Nat.blt k 44 then (bif Nat.blt k 42 then (bif Nat.blt k 41 then yX4_makeSums else yX4_addTold) else (bif Nat.blt k 43 then yX4_tell else yX4_begin)) else (bif Nat.blt k 46 then (bif Nat.blt k 45 then yX4_goOn else yX5_init) else (bif Nat.blt k 47 then yX5_keep else yX5_giveBack)))) else (bif Nat.blt k 56 then (bif Nat.blt k 52 then (bif Nat.blt k 50 then (bif Nat.blt k 49 then yX6_init else yX6_makePieces) else (bif Nat.blt k 51 then yX6_grow else yX6_join)) else (bif Nat.blt k 54 then (bif Nat.blt k 53 then yX6_lookAround else yX6_isFree) else (bif Nat.blt k 55 then yX6_dropSmall else yX6_stays))) else (bif Nat.blt k 60 then (bif Nat.blt k 58 then (bif Nat.blt k 57 then yX6_sizeAt else yX6_howManyStay) else (bif Nat.blt k 59 then yX6_greatest else yX6_ranked)) else (bif Nat.blt k 62 then (bif Nat.blt k 61 then yX6_howManyBefore else yX6_tellOf) else (bif Nat.blt k 63 then yX7_init else (bif Nat.blt k 64 then yX7_readText else yX7_takeDefaults))))))) else (bif Nat.blt k 98 then (bif Nat.blt k 81 then (bif Nat.blt k 73 then (bif Nat.blt k 69 then (bif Nat.blt k 67 then (bif Nat.blt k 66 then yX7_takeSize else yX7_takeLine) else (bif Nat.blt k 68 then yX7_takeDial else yX7_takePenalties)) else (bif Nat.blt k 71 then (bif Nat.blt k 70 then yX7_takeRow else yX7_takeNumber) else (bif Nat.blt k 72 then yX7_numberTold else yX7_advance))) else (bif Nat.blt k 77 then (bif Nat.blt k 75 then (bif Nat.blt k 74 then yX7_isToken else yX7_fail) else (bif Nat.blt k 76 then yX7_isBlank else yX7_isDigit)) else (bif Nat.blt k 79 then (bif Nat.blt k 78 then yX7_isWordSign else yX7_valueOf) else (bif Nat.blt k 80 then yX8_init else yX8_choose)))) else (bif Nat.blt k 89 then (bif Nat.blt k 85 then (bif Nat.blt k 83 then (bif Nat.blt k 82 then yX8_bestBefore else yX8_priceBefore) else (bif Nat.blt k 84 then yX9_init else yX9_become)) else (bif Nat.blt k 87 then (bif Nat.blt k 86 then yX9_blank else yX9_hasSpot) else (bif Nat.blt k 88 then yX9_has else yX9_isShift))) else (bif Nat.blt k 93 then (bif Nat.blt k 91 then (bif Nat.blt k 90 then yX9_mayTune else yX9_bits) else (bif Nat.blt k 92 then yX9_stepPrice else yX10_init)) else (bif Nat.blt k 95 then (bif Nat.blt k 94 then yX10_hasRoomFor else yX10_append) else (bif Nat.blt k 96 then yX10_signAt else (bif Nat.blt k 97 then yX11_init else yX11_feed)))))) else (bif Nat.blt k 114 then (bif Nat.blt k 106 then (bif Nat.blt k 102 then (bif Nat.blt k 100 then (bif Nat.blt k 99 then yX11_text else yX11_size) else (bif Nat.blt k 101 then yX11_value else yX11_tune)) else (bif Nat.blt k 104 then (bif Nat.blt k 103 then yX11_layer else yX11_clear) else (bif Nat.blt k 105 then yX11_draw else yX11_truth))) else (bif Nat.blt k 110 then (bif Nat.blt k 108 then (bif Nat.blt k 107 then yX11_at else yX11_code) else (bif Nat.blt k 109 then yX11_same else yX11_codes)) else (bif Nat.blt k 112 then (bif Nat.blt k 111 then yX11_cost else yX11_path) else (bif Nat.blt k 113 then yX11_sum else yX11_shift)))) else (bif Nat.blt k 122 then (bif Nat.blt k 118 then (bif Nat.blt k 116 then (bif Nat.blt k 115 then yX11_margin else yX11_kind) else (bif Nat.blt k 117 then yX11_kinds else yX11_piece)) else (bif Nat.blt k 120 then (bif Nat.blt k 119 then yX11_pieces else yX11_pieceAt) else (bif Nat.blt k 121 then yX11_fine else yX11_ground))) else (bif Nat.blt k 126 then (bif Nat.blt k 124 then (bif Nat.blt k 123 then yX11_votes else yX11_between) else (bif Nat.blt k 125 then yX11_holes else yX11_filled)) else (bif Nat.blt k 128 then (bif Nat.blt k 127 then yX11_depth else yX11_row) else (bif Nat.blt k 129 then yX11_energy else (bif Nat.blt k 130 then yX11_wrong else yX11_undo)))))))) else (bif Nat.blt k 196 then (bif Nat.blt k 163 then (bif Nat.blt k 147 then (bif Nat.blt k 139 then (bif Nat.blt k 135 then (bif Nat.blt k 133 then (bif Nat.blt k 132 then yX11_image else yX11_back) else (bif Nat.blt k 134 then yX11_count else yX11_isWithin)) else (bif Nat.blt k 137 then (bif Nat.blt k 136 then yX11_isView else yX11_spotOf) else (bif Nat.blt k 138 then yX11_cellOf else yX11_needPlace))) else (bif Nat.blt k 143 then (bif Nat.blt k 141 then (bif Nat.blt k 140 then yX11_beginAct else yX11_keepUpTo) else (bif Nat.blt k 142 then yX11_reach else yX11_isWrong)) else (bif Nat.blt k 145 then (bif Nat.blt k 144 then yX12_thrown else yX12_within) else (bif Nat.blt k 146 then yX12_init else yX12_begins)))) else (bif Nat.blt k 155 then (bif Nat.blt k 151 then (bif Nat.blt k 149 then (bif Nat.blt k 148 then yX12_empties else yX12_keeps) else (bif Nat.blt k 150 then yX12_undo else yX12_isPlace)) else (bif Nat.blt k 153 then (bif Nat.blt k 152 then yX12_isAt else yX12_cell) else (bif Nat.blt k 154 then yX12_valueAt else yX12_feed))) else (bif Nat.blt k 159 then (bif Nat.blt k 157 then (bif Nat.blt k 156 then yX12_puts else yX12_byteAt) else (bif Nat.blt k 158 then yX12_isRun else yX12_go)) else (bif Nat.blt k 161 then (bif Nat.blt k 160 then yX12_bad else yX12_isWord) else (bif Nat.blt k 162 then yX12_isNumber else yX12_number))))) else (bif Nat.blt k 179 then (bif Nat.blt k 171 then (bif Nat.blt k 167 then (bif Nat.blt k 165 then (bif Nat.blt k 164 then yX12_tells else yX12_hexOf) else (bif Nat.blt k 166 then yX12_row else yX12_penalty)) else (bif Nat.blt k 169 then (bif Nat.blt k 168 then yX12_line else yX12_text) else (bif Nat.blt k 170 then yX12_size else yX12_value))) else (bif Nat.blt k 175 then (bif Nat.blt k 173 then (bif Nat.blt k 172 then yX12_canTune else yX12_tune) else (bif Nat.blt k 174 then yX12_layer else yX12_clear)) else (bif Nat.blt k 177 then (bif Nat.blt k 176 then yX12_edge else yX12_layerAt) else (bif Nat.blt k 178 then yX12_texture else yX12_draw)))) else (bif Nat.blt k 187 then (bif Nat.blt k 183 then (bif Nat.blt k 181 then (bif Nat.blt k 180 then yX12_truthAt else yX12_isCovered) else (bif Nat.blt k 182 then yX12_truth else yX12_at)) else (bif Nat.blt k 185 then (bif Nat.blt k 184 then yX12_nearest else yX12_codeAt) else (bif Nat.blt k 186 then yX12_codeCell else yX12_laysCodes))) else (bif Nat.blt k 191 then (bif Nat.blt k 189 then (bif Nat.blt k 188 then yX12_code else yX12_same) else (bif Nat.blt k 190 then yX12_isFirst else yX12_codes)) else (bif Nat.blt k 193 then (bif Nat.blt k 192 then yX12_bitsOf else yX12_costAt) else (bif Nat.blt k 194 then yX12_isShift else (bif Nat.blt k 195 then yX12_cost else yX12_byX))))))) else (bif Nat.blt k 229 then (bif Nat.blt k 212 then (bif Nat.blt k 204 then (bif Nat.blt k 200 then (bif Nat.blt k 198 then (bif Nat.blt k 197 then yX12_byY else yX12_sumCell) else (bif Nat.blt k 199 then yX12_leastOf else yX12_tellsBy)) else (bif Nat.blt k 202 then (bif Nat.blt k 201 then yX12_laysWay else yX12_laysSums) else (bif Nat.blt k 203 then yX12_path else yX12_sum))) else (bif Nat.blt k 208 then (bif Nat.blt k 206 then (bif Nat.blt k 205 then yX12_leftShift else yX12_rightShift) else (bif Nat.blt k 207 then yX12_laysShifts else yX12_across)) else (bif Nat.blt k 210 then (bif Nat.blt k 209 then yX12_kindAt else yX12_laysKinds) else (bif Nat.blt k 211 then yX12_hang else yX12_lowers)))) else (bif Nat.blt k 220 then (bif Nat.blt k 216 then (bif Nat.blt k 214 then (bif Nat.blt k 213 then yX12_laysPieces else yX12_manyAt) else (bif Nat.blt k 215 then yX12_kindNow else yX12_shift)) else (bif Nat.blt k 218 then (bif Nat.blt k 217 then yX12_margin else yX12_kind) else (bif Nat.blt k 219 then yX12_kinds else yX12_piece))) else (bif Nat.blt k 224 then (bif Nat.blt k 222 then (bif Nat.blt k 221 then yX12_isKept else yX12_pieces) else (bif Nat.blt k 223 then yX12_aheadOf else yX12_tellsPiece)) else (bif Nat.blt k 226 then (bif Nat.blt k 225 then yX12_pieceAt else yX12_nearestSure) else (bif Nat.blt k 227 then yX12_hiddenFill else (bif Nat.blt k 228 then yX12_unlikeFill else yX12_laysFills)))))) else (bif Nat.blt k 245 then (bif Nat.blt k 237 then (bif Nat.blt k 233 then (bif Nat.blt k 231 then (bif Nat.blt k 230 then yX12_filled else yX12_depth) else (bif Nat.blt k 232 then yX12_fine else yX12_votesFor)) else (bif Nat.blt k 235 then (bif Nat.blt k 234 then yX12_votes else yX12_ground) else (bif Nat.blt k 236 then yX12_comesTo else yX12_betweenAt))) else (bif Nat.blt k 241 then (bif Nat.blt k 239 then (bif Nat.blt k 238 then yX12_between else yX12_holes) else (bif Nat.blt k 240 then yX12_stepCost else yX12_laysRow)) else (bif Nat.blt k 243 then (bif Nat.blt k 242 then yX12_row_ else yX12_energyOf) else (bif Nat.blt k 244 then yX12_energy else yX12_wrong)))) else (bif Nat.blt k 253 then (bif Nat.blt k 249 then (bif Nat.blt k 247 then (bif Nat.blt k 246 then yX12_image else yX12_back) else (bif Nat.blt k 248 then yX12_count else yL_at)) else (bif Nat.blt k 251 then (bif Nat.blt k 250 then yL_code else yL_same) else (bif Nat.blt k 252 then yL_shift else yL_margin))) else (bif Nat.blt k 257 then (bif Nat.blt k 255 then (bif Nat.blt k 254 then yL_fine else yL_filled) else (bif Nat.blt k 256 then yL_depth else yL_law)) else (bif Nat.blt k 259 then (bif Nat.blt k 258 then yJ6_bitCount_0f7a4 else yJ9_abs_0f7a4) else (bif Nat.blt k 260 then yJ9_floorDiv_7cf53 else (bif Nat.blt k 261 then yJ9_max_7cf53 else yJ9_min_7cf53))))))))) else yL_law
set_option maxRecDepth 100000 in
noncomputable def mi_cd (k : Nat) : ByteArray := bif Nat.blt k 262 then (bif Nat.blt k 131 then (bif Nat.blt k 65 then (bif Nat.blt k 32 then (bif Nat.blt k 16 then (bif Nat.blt k 8 then (bif Nat.blt k 4 then (bif Nat.blt k 2 then (bif Nat.blt k 1 then cX0_init else cX1_init) else (bif Nat.blt k 3 then cX1_become else cX1_leftEdge)) else (bif Nat.blt k 6 then (bif Nat.blt k 5 then cX1_seenAt else cX1_textureAt) else (bif Nat.blt k 7 then cX1_isCovered else cX2_init))) else (bif Nat.blt k 12 then (bif Nat.blt k 10 then (bif Nat.blt k 9 then cX2_gather else cX2_votesFor) else (bif Nat.blt k 11 then cX2_bestLine else cX3_init)) else (bif Nat.blt k 14 then (bif Nat.blt k 13 then cX3_makeShifts else cX3_bestOfLeft) else (bif Nat.blt k 15 then cX3_bestOfRight else cX3_marginAt)))) else (bif Nat.blt k 24 then (bif Nat.blt k 20 then (bif Nat.blt k 18 then (bif Nat.blt k 17 then cX3_fineAt else cX3_makeKinds) else (bif Nat.blt k 19 then cX3_kindBySight else cX3_shiftSeen)) else (bif Nat.blt k 22 then (bif Nat.blt k 21 then cX3_howManyOf else cX3_makeFilled) else (bif Nat.blt k 23 then cX3_fillingOf else cX3_lesserBeside))) else (bif Nat.blt k 28 then (bif Nat.blt k 26 then (bif Nat.blt k 25 then cX3_middleAround else cX3_nearestSure) else (bif Nat.blt k 27 then cX3_valueBetween else cX3_comesFrom)) else (bif Nat.blt k 30 then (bif Nat.blt k 29 then cX3_quarters else cX3_priceOf) else (bif Nat.blt k 31 then cX4_init else cX4_makeCodes))))) else (bif Nat.blt k 48 then (bif Nat.blt k 40 then (bif Nat.blt k 36 then (bif Nat.blt k 34 then (bif Nat.blt k 33 then cX4_codeBits else cX4_nearest) else (bif Nat.blt k 35 then cX4_makeCosts else cX4_unlikeBits)) else (bif Nat.blt k 38 then (bif Nat.blt k 37 then cX4_howOften else cX4_unlikeCodes) else (bif Nat.blt k 39 then cX4_wasBefore else cX4_forgetWay))) else (bif Nat.blt k 44 then (bif Nat.blt k 42 then (bif Nat.blt k 41 then cX4_makeSums else cX4_addTold) else (bif Nat.blt k 43 then cX4_tell else cX4_begin)) else (bif Nat.blt k 46 then (bif Nat.blt k 45 then cX4_goOn else cX5_init) else (bif Nat.blt k 47 then cX5_keep else cX5_giveBack)))) else (bif Nat.blt k 56 then (bif Nat.blt k 52 then (bif Nat.blt k 50 then (bif Nat.blt k 49 then cX6_init else cX6_makePieces) else (bif Nat.blt k 51 then cX6_grow else cX6_join)) else (bif Nat.blt k 54 then (bif Nat.blt k 53 then cX6_lookAround else cX6_isFree) else (bif Nat.blt k 55 then cX6_dropSmall else cX6_stays))) else (bif Nat.blt k 60 then (bif Nat.blt k 58 then (bif Nat.blt k 57 then cX6_sizeAt else cX6_howManyStay) else (bif Nat.blt k 59 then cX6_greatest else cX6_ranked)) else (bif Nat.blt k 62 then (bif Nat.blt k 61 then cX6_howManyBefore else cX6_tellOf) else (bif Nat.blt k 63 then cX7_init else (bif Nat.blt k 64 then cX7_readText else cX7_takeDefaults))))))) else (bif Nat.blt k 98 then (bif Nat.blt k 81 then (bif Nat.blt k 73 then (bif Nat.blt k 69 then (bif Nat.blt k 67 then (bif Nat.blt k 66 then cX7_takeSize else cX7_takeLine) else (bif Nat.blt k 68 then cX7_takeDial else cX7_takePenalties)) else (bif Nat.blt k 71 then (bif Nat.blt k 70 then cX7_takeRow else cX7_takeNumber) else (bif Nat.blt k 72 then cX7_numberTold else cX7_advance))) else (bif Nat.blt k 77 then (bif Nat.blt k 75 then (bif Nat.blt k 74 then cX7_isToken else cX7_fail) else (bif Nat.blt k 76 then cX7_isBlank else cX7_isDigit)) else (bif Nat.blt k 79 then (bif Nat.blt k 78 then cX7_isWordSign else cX7_valueOf) else (bif Nat.blt k 80 then cX8_init else cX8_choose)))) else (bif Nat.blt k 89 then (bif Nat.blt k 85 then (bif Nat.blt k 83 then (bif Nat.blt k 82 then cX8_bestBefore else cX8_priceBefore) else (bif Nat.blt k 84 then cX9_init else cX9_become)) else (bif Nat.blt k 87 then (bif Nat.blt k 86 then cX9_blank else cX9_hasSpot) else (bif Nat.blt k 88 then cX9_has else cX9_isShift))) else (bif Nat.blt k 93 then (bif Nat.blt k 91 then (bif Nat.blt k 90 then cX9_mayTune else cX9_bits) else (bif Nat.blt k 92 then cX9_stepPrice else cX10_init)) else (bif Nat.blt k 95 then (bif Nat.blt k 94 then cX10_hasRoomFor else cX10_append) else (bif Nat.blt k 96 then cX10_signAt else (bif Nat.blt k 97 then cX11_init else cX11_feed)))))) else (bif Nat.blt k 114 then (bif Nat.blt k 106 then (bif Nat.blt k 102 then (bif Nat.blt k 100 then (bif Nat.blt k 99 then cX11_text else cX11_size) else (bif Nat.blt k 101 then cX11_value else cX11_tune)) else (bif Nat.blt k 104 then (bif Nat.blt k 103 then cX11_layer else cX11_clear) else (bif Nat.blt k 105 then cX11_draw else cX11_truth))) else (bif Nat.blt k 110 then (bif Nat.blt k 108 then (bif Nat.blt k 107 then cX11_at else cX11_code) else (bif Nat.blt k 109 then cX11_same else cX11_codes)) else (bif Nat.blt k 112 then (bif Nat.blt k 111 then cX11_cost else cX11_path) else (bif Nat.blt k 113 then cX11_sum else cX11_shift)))) else (bif Nat.blt k 122 then (bif Nat.blt k 118 then (bif Nat.blt k 116 then (bif Nat.blt k 115 then cX11_margin else cX11_kind) else (bif Nat.blt k 117 then cX11_kinds else cX11_piece)) else (bif Nat.blt k 120 then (bif Nat.blt k 119 then cX11_pieces else cX11_pieceAt) else (bif Nat.blt k 121 then cX11_fine else cX11_ground))) else (bif Nat.blt k 126 then (bif Nat.blt k 124 then (bif Nat.blt k 123 then cX11_votes else cX11_between) else (bif Nat.blt k 125 then cX11_holes else cX11_filled)) else (bif Nat.blt k 128 then (bif Nat.blt k 127 then cX11_depth else cX11_row) else (bif Nat.blt k 129 then cX11_energy else (bif Nat.blt k 130 then cX11_wrong else cX11_undo)))))))) else (bif Nat.blt k 196 then (bif Nat.blt k 163 then (bif Nat.blt k 147 then (bif Nat.blt k 139 then (bif Nat.blt k 135 then (bif Nat.blt k 133 then (bif Nat.blt k 132 then cX11_image else cX11_back) else (bif Nat.blt k 134 then cX11_count else cX11_isWithin)) else (bif Nat.blt k 137 then (bif Nat.blt k 136 then cX11_isView else cX11_spotOf) else (bif Nat.blt k 138 then cX11_cellOf else cX11_needPlace))) else (bif Nat.blt k 143 then (bif Nat.blt k 141 then (bif Nat.blt k 140 then cX11_beginAct else cX11_keepUpTo) else (bif Nat.blt k 142 then cX11_reach else cX11_isWrong)) else (bif Nat.blt k 145 then (bif Nat.blt k 144 then cX12_thrown else cX12_within) else (bif Nat.blt k 146 then cX12_init else cX12_begins)))) else (bif Nat.blt k 155 then (bif Nat.blt k 151 then (bif Nat.blt k 149 then (bif Nat.blt k 148 then cX12_empties else cX12_keeps) else (bif Nat.blt k 150 then cX12_undo else cX12_isPlace)) else (bif Nat.blt k 153 then (bif Nat.blt k 152 then cX12_isAt else cX12_cell) else (bif Nat.blt k 154 then cX12_valueAt else cX12_feed))) else (bif Nat.blt k 159 then (bif Nat.blt k 157 then (bif Nat.blt k 156 then cX12_puts else cX12_byteAt) else (bif Nat.blt k 158 then cX12_isRun else cX12_go)) else (bif Nat.blt k 161 then (bif Nat.blt k 160 then cX12_bad else cX12_isWord) else (bif Nat.blt k 162 then cX12_isNumber else cX12_number))))) else (bif Nat.blt k 179 then (bif Nat.blt k 171 then (bif Nat.blt k 167 then (bif Nat.blt k 165 then (bif Nat.blt k 164 then cX12_tells else cX12_hexOf) else (bif Nat.blt k 166 then cX12_row else cX12_penalty)) else (bif Nat.blt k 169 then (bif Nat.blt k 168 then cX12_line else cX12_text) else (bif Nat.blt k 170 then cX12_size else cX12_value))) else (bif Nat.blt k 175 then (bif Nat.blt k 173 then (bif Nat.blt k 172 then cX12_canTune else cX12_tune) else (bif Nat.blt k 174 then cX12_layer else cX12_clear)) else (bif Nat.blt k 177 then (bif Nat.blt k 176 then cX12_edge else cX12_layerAt) else (bif Nat.blt k 178 then cX12_texture else cX12_draw)))) else (bif Nat.blt k 187 then (bif Nat.blt k 183 then (bif Nat.blt k 181 then (bif Nat.blt k 180 then cX12_truthAt else cX12_isCovered) else (bif Nat.blt k 182 then cX12_truth else cX12_at)) else (bif Nat.blt k 185 then (bif Nat.blt k 184 then cX12_nearest else cX12_codeAt) else (bif Nat.blt k 186 then cX12_codeCell else cX12_laysCodes))) else (bif Nat.blt k 191 then (bif Nat.blt k 189 then (bif Nat.blt k 188 then cX12_code else cX12_same) else (bif Nat.blt k 190 then cX12_isFirst else cX12_codes)) else (bif Nat.blt k 193 then (bif Nat.blt k 192 then cX12_bitsOf else cX12_costAt) else (bif Nat.blt k 194 then cX12_isShift else (bif Nat.blt k 195 then cX12_cost else cX12_byX))))))) else (bif Nat.blt k 229 then (bif Nat.blt k 212 then (bif Nat.blt k 204 then (bif Nat.blt k 200 then (bif Nat.blt k 198 then (bif Nat.blt k 197 then cX12_byY else cX12_sumCell) else (bif Nat.blt k 199 then cX12_leastOf else cX12_tellsBy)) else (bif Nat.blt k 202 then (bif Nat.blt k 201 then cX12_laysWay else cX12_laysSums) else (bif Nat.blt k 203 then cX12_path else cX12_sum))) else (bif Nat.blt k 208 then (bif Nat.blt k 206 then (bif Nat.blt k 205 then cX12_leftShift else cX12_rightShift) else (bif Nat.blt k 207 then cX12_laysShifts else cX12_across)) else (bif Nat.blt k 210 then (bif Nat.blt k 209 then cX12_kindAt else cX12_laysKinds) else (bif Nat.blt k 211 then cX12_hang else cX12_lowers)))) else (bif Nat.blt k 220 then (bif Nat.blt k 216 then (bif Nat.blt k 214 then (bif Nat.blt k 213 then cX12_laysPieces else cX12_manyAt) else (bif Nat.blt k 215 then cX12_kindNow else cX12_shift)) else (bif Nat.blt k 218 then (bif Nat.blt k 217 then cX12_margin else cX12_kind) else (bif Nat.blt k 219 then cX12_kinds else cX12_piece))) else (bif Nat.blt k 224 then (bif Nat.blt k 222 then (bif Nat.blt k 221 then cX12_isKept else cX12_pieces) else (bif Nat.blt k 223 then cX12_aheadOf else cX12_tellsPiece)) else (bif Nat.blt k 226 then (bif Nat.blt k 225 then cX12_pieceAt else cX12_nearestSure) else (bif Nat.blt k 227 then cX12_hiddenFill else (bif Nat.blt k 228 then cX12_unlikeFill else cX12_laysFills)))))) else (bif Nat.blt k 245 then (bif Nat.blt k 237 then (bif Nat.blt k 233 then (bif Nat.blt k 231 then (bif Nat.blt k 230 then cX12_filled else cX12_depth) else (bif Nat.blt k 232 then cX12_fine else cX12_votesFor)) else (bif Nat.blt k 235 then (bif Nat.blt k 234 then cX12_votes else cX12_ground) else (bif Nat.blt k 236 then cX12_comesTo else cX12_betweenAt))) else (bif Nat.blt k 241 then (bif Nat.blt k 239 then (bif Nat.blt k 238 then cX12_between else cX12_holes) else (bif Nat.blt k 240 then cX12_stepCost else cX12_laysRow)) else (bif Nat.blt k 243 then (bif Nat.blt k 242 then cX12_row_ else cX12_energyOf) else (bif Nat.blt k 244 then cX12_energy else cX12_wrong)))) else (bif Nat.blt k 253 then (bif Nat.blt k 249 then (bif Nat.blt k 247 then (bif Nat.blt k 246 then cX12_image else cX12_back) else (bif Nat.blt k 248 then cX12_count else cL_at)) else (bif Nat.blt k 251 then (bif Nat.blt k 250 then cL_code else cL_same) else (bif Nat.blt k 252 then cL_shift else cL_margin))) else (bif Nat.blt k 257 then (bif Nat.blt k 255 then (bif Nat.blt k 254 then cL_fine else cL_filled) else (bif Nat.blt k 256 then cL_depth else cL_law)) else (bif Nat.blt k 259 then (bif Nat.blt k 258 then cJ6_bitCount_0f7a4 else cJ9_abs_0f7a4) else (bif Nat.blt k 260 then cJ9_floorDiv_7cf53 else (bif Nat.blt k 261 then cJ9_max_7cf53 else cJ9_min_7cf53))))))))) else cL_law
set_option maxRecDepth 100000 in
noncomputable def mi_on (k : Nat) : Nat := bif Nat.blt k 262 then (bif Nat.blt k 131 then (bif Nat.blt k 65 then (bif Nat.blt k 32 then (bif Nat.blt k 16 then (bif Nat.blt k 8 then (bif Nat.blt k 4 then (bif Nat.blt k 2 then (bif Nat.blt k 1 then 0 else 1) else (bif Nat.blt k 3 then 1 else 1)) else (bif Nat.blt k 6 then (bif Nat.blt k 5 then 1 else 1) else (bif Nat.blt k 7 then 1 else 2))) else (bif Nat.blt k 12 then (bif Nat.blt k 10 then (bif Nat.blt k 9 then 2 else 2) else (bif Nat.blt k 11 then 2 else 3)) else (bif Nat.blt k 14 then (bif Nat.blt k 13 then 3 else 3) else (bif Nat.blt k 15 then 3 else 3)))) else (bif Nat.blt k 24 then (bif Nat.blt k 20 then (bif Nat.blt k 18 then (bif Nat.blt k 17 then 3 else 3) else (bif Nat.blt k 19 then 3 else 3)) else (bif Nat.blt k 22 then (bif Nat.blt k 21 then 3 else 3) else (bif Nat.blt k 23 then 3 else 3))) else (bif Nat.blt k 28 then (bif Nat.blt k 26 then (bif Nat.blt k 25 then 3 else 3) else (bif Nat.blt k 27 then 3 else 3)) else (bif Nat.blt k 30 then (bif Nat.blt k 29 then 3 else 3) else (bif Nat.blt k 31 then 4 else 4))))) else (bif Nat.blt k 48 then (bif Nat.blt k 40 then (bif Nat.blt k 36 then (bif Nat.blt k 34 then (bif Nat.blt k 33 then 4 else 4) else (bif Nat.blt k 35 then 4 else 4)) else (bif Nat.blt k 38 then (bif Nat.blt k 37 then 4 else 4) else (bif Nat.blt k 39 then 4 else 4))) else (bif Nat.blt k 44 then (bif Nat.blt k 42 then (bif Nat.blt k 41 then 4 else 4) else (bif Nat.blt k 43 then 4 else 4)) else (bif Nat.blt k 46 then (bif Nat.blt k 45 then 4 else 5) else (bif Nat.blt k 47 then 5 else 5)))) else (bif Nat.blt k 56 then (bif Nat.blt k 52 then (bif Nat.blt k 50 then (bif Nat.blt k 49 then 6 else 6) else (bif Nat.blt k 51 then 6 else 6)) else (bif Nat.blt k 54 then (bif Nat.blt k 53 then 6 else 6) else (bif Nat.blt k 55 then 6 else 6))) else (bif Nat.blt k 60 then (bif Nat.blt k 58 then (bif Nat.blt k 57 then 6 else 6) else (bif Nat.blt k 59 then 6 else 6)) else (bif Nat.blt k 62 then (bif Nat.blt k 61 then 6 else 6) else (bif Nat.blt k 63 then 7 else (bif Nat.blt k 64 then 7 else 7))))))) else (bif Nat.blt k 98 then (bif Nat.blt k 81 then (bif Nat.blt k 73 then (bif Nat.blt k 69 then (bif Nat.blt k 67 then (bif Nat.blt k 66 then 7 else 7) else (bif Nat.blt k 68 then 7 else 7)) else (bif Nat.blt k 71 then (bif Nat.blt k 70 then 7 else 7) else (bif Nat.blt k 72 then 7 else 7))) else (bif Nat.blt k 77 then (bif Nat.blt k 75 then (bif Nat.blt k 74 then 7 else 7) else (bif Nat.blt k 76 then 7 else 7)) else (bif Nat.blt k 79 then (bif Nat.blt k 78 then 7 else 7) else (bif Nat.blt k 80 then 8 else 8)))) else (bif Nat.blt k 89 then (bif Nat.blt k 85 then (bif Nat.blt k 83 then (bif Nat.blt k 82 then 8 else 8) else (bif Nat.blt k 84 then 9 else 9)) else (bif Nat.blt k 87 then (bif Nat.blt k 86 then 9 else 9) else (bif Nat.blt k 88 then 9 else 9))) else (bif Nat.blt k 93 then (bif Nat.blt k 91 then (bif Nat.blt k 90 then 9 else 9) else (bif Nat.blt k 92 then 9 else 10)) else (bif Nat.blt k 95 then (bif Nat.blt k 94 then 10 else 10) else (bif Nat.blt k 96 then 10 else (bif Nat.blt k 97 then 11 else 11)))))) else (bif Nat.blt k 114 then (bif Nat.blt k 106 then (bif Nat.blt k 102 then (bif Nat.blt k 100 then (bif Nat.blt k 99 then 11 else 11) else (bif Nat.blt k 101 then 11 else 11)) else (bif Nat.blt k 104 then (bif Nat.blt k 103 then 11 else 11) else (bif Nat.blt k 105 then 11 else 11))) else (bif Nat.blt k 110 then (bif Nat.blt k 108 then (bif Nat.blt k 107 then 11 else 11) else (bif Nat.blt k 109 then 11 else 11)) else (bif Nat.blt k 112 then (bif Nat.blt k 111 then 11 else 11) else (bif Nat.blt k 113 then 11 else 11)))) else (bif Nat.blt k 122 then (bif Nat.blt k 118 then (bif Nat.blt k 116 then (bif Nat.blt k 115 then 11 else 11) else (bif Nat.blt k 117 then 11 else 11)) else (bif Nat.blt k 120 then (bif Nat.blt k 119 then 11 else 11) else (bif Nat.blt k 121 then 11 else 11))) else (bif Nat.blt k 126 then (bif Nat.blt k 124 then (bif Nat.blt k 123 then 11 else 11) else (bif Nat.blt k 125 then 11 else 11)) else (bif Nat.blt k 128 then (bif Nat.blt k 127 then 11 else 11) else (bif Nat.blt k 129 then 11 else (bif Nat.blt k 130 then 11 else 11)))))))) else (bif Nat.blt k 196 then (bif Nat.blt k 163 then (bif Nat.blt k 147 then (bif Nat.blt k 139 then (bif Nat.blt k 135 then (bif Nat.blt k 133 then (bif Nat.blt k 132 then 11 else 11) else (bif Nat.blt k 134 then 11 else 11)) else (bif Nat.blt k 137 then (bif Nat.blt k 136 then 11 else 11) else (bif Nat.blt k 138 then 11 else 11))) else (bif Nat.blt k 143 then (bif Nat.blt k 141 then (bif Nat.blt k 140 then 11 else 11) else (bif Nat.blt k 142 then 11 else 11)) else (bif Nat.blt k 145 then (bif Nat.blt k 144 then 12 else 12) else (bif Nat.blt k 146 then 12 else 12)))) else (bif Nat.blt k 155 then (bif Nat.blt k 151 then (bif Nat.blt k 149 then (bif Nat.blt k 148 then 12 else 12) else (bif Nat.blt k 150 then 12 else 12)) else (bif Nat.blt k 153 then (bif Nat.blt k 152 then 12 else 12) else (bif Nat.blt k 154 then 12 else 12))) else (bif Nat.blt k 159 then (bif Nat.blt k 157 then (bif Nat.blt k 156 then 12 else 12) else (bif Nat.blt k 158 then 12 else 12)) else (bif Nat.blt k 161 then (bif Nat.blt k 160 then 12 else 12) else (bif Nat.blt k 162 then 12 else 12))))) else (bif Nat.blt k 179 then (bif Nat.blt k 171 then (bif Nat.blt k 167 then (bif Nat.blt k 165 then (bif Nat.blt k 164 then 12 else 12) else (bif Nat.blt k 166 then 12 else 12)) else (bif Nat.blt k 169 then (bif Nat.blt k 168 then 12 else 12) else (bif Nat.blt k 170 then 12 else 12))) else (bif Nat.blt k 175 then (bif Nat.blt k 173 then (bif Nat.blt k 172 then 12 else 12) else (bif Nat.blt k 174 then 12 else 12)) else (bif Nat.blt k 177 then (bif Nat.blt k 176 then 12 else 12) else (bif Nat.blt k 178 then 12 else 12)))) else (bif Nat.blt k 187 then (bif Nat.blt k 183 then (bif Nat.blt k 181 then (bif Nat.blt k 180 then 12 else 12) else (bif Nat.blt k 182 then 12 else 12)) else (bif Nat.blt k 185 then (bif Nat.blt k 184 then 12 else 12) else (bif Nat.blt k 186 then 12 else 12))) else (bif Nat.blt k 191 then (bif Nat.blt k 189 then (bif Nat.blt k 188 then 12 else 12) else (bif Nat.blt k 190 then 12 else 12)) else (bif Nat.blt k 193 then (bif Nat.blt k 192 then 12 else 12) else (bif Nat.blt k 194 then 12 else (bif Nat.blt k 195 then 12 else 12))))))) else (bif Nat.blt k 229 then (bif Nat.blt k 212 then (bif Nat.blt k 204 then (bif Nat.blt k 200 then (bif Nat.blt k 198 then (bif Nat.blt k 197 then 12 else 12) else (bif Nat.blt k 199 then 12 else 12)) else (bif Nat.blt k 202 then (bif Nat.blt k 201 then 12 else 12) else (bif Nat.blt k 203 then 12 else 12))) else (bif Nat.blt k 208 then (bif Nat.blt k 206 then (bif Nat.blt k 205 then 12 else 12) else (bif Nat.blt k 207 then 12 else 12)) else (bif Nat.blt k 210 then (bif Nat.blt k 209 then 12 else 12) else (bif Nat.blt k 211 then 12 else 12)))) else (bif Nat.blt k 220 then (bif Nat.blt k 216 then (bif Nat.blt k 214 then (bif Nat.blt k 213 then 12 else 12) else (bif Nat.blt k 215 then 12 else 12)) else (bif Nat.blt k 218 then (bif Nat.blt k 217 then 12 else 12) else (bif Nat.blt k 219 then 12 else 12))) else (bif Nat.blt k 224 then (bif Nat.blt k 222 then (bif Nat.blt k 221 then 12 else 12) else (bif Nat.blt k 223 then 12 else 12)) else (bif Nat.blt k 226 then (bif Nat.blt k 225 then 12 else 12) else (bif Nat.blt k 227 then 12 else (bif Nat.blt k 228 then 12 else 12)))))) else (bif Nat.blt k 245 then (bif Nat.blt k 237 then (bif Nat.blt k 233 then (bif Nat.blt k 231 then (bif Nat.blt k 230 then 12 else 12) else (bif Nat.blt k 232 then 12 else 12)) else (bif Nat.blt k 235 then (bif Nat.blt k 234 then 12 else 12) else (bif Nat.blt k 236 then 12 else 12))) else (bif Nat.blt k 241 then (bif Nat.blt k 239 then (bif Nat.blt k 238 then 12 else 12) else (bif Nat.blt k 240 then 12 else 12)) else (bif Nat.blt k 243 then (bif Nat.blt k 242 then 12 else 12) else (bif Nat.blt k 244 then 12 else 12)))) else (bif Nat.blt k 253 then (bif Nat.blt k 249 then (bif Nat.blt k 247 then (bif Nat.blt k 246 then 12 else 12) else (bif Nat.blt k 248 then 12 else 13)) else (bif Nat.blt k 251 then (bif Nat.blt k 250 then 13 else 13) else (bif Nat.blt k 252 then 13 else 13))) else (bif Nat.blt k 257 then (bif Nat.blt k 255 then (bif Nat.blt k 254 then 13 else 13) else (bif Nat.blt k 256 then 13 else 13)) else (bif Nat.blt k 259 then (bif Nat.blt k 258 then 14 else 15) else (bif Nat.blt k 260 then 15 else (bif Nat.blt k 261 then 15 else 15))))))))) else 13
set_option maxRecDepth 100000 in
noncomputable def mi_rs (k : Nat) : String := bif Nat.blt k 16 then (bif Nat.blt k 8 then (bif Nat.blt k 4 then (bif Nat.blt k 2 then (bif Nat.blt k 1 then RX0 else RX1) else (bif Nat.blt k 3 then RX2 else RX3)) else (bif Nat.blt k 6 then (bif Nat.blt k 5 then RX4 else RX5) else (bif Nat.blt k 7 then RX6 else RX7))) else (bif Nat.blt k 12 then (bif Nat.blt k 10 then (bif Nat.blt k 9 then RX8 else RX9) else (bif Nat.blt k 11 then RX10 else RX11)) else (bif Nat.blt k 14 then (bif Nat.blt k 13 then RX12 else RL) else (bif Nat.blt k 15 then RJ6 else RJ9)))) else RL
set_option maxRecDepth 100000 in
noncomputable def mi_rt (k : Nat) : Option FieldType := bif Nat.blt k 262 then (bif Nat.blt k 131 then (bif Nat.blt k 65 then (bif Nat.blt k 32 then (bif Nat.blt k 16 then (bif Nat.blt k 8 then (bif Nat.blt k 4 then (bif Nat.blt k 2 then (bif Nat.blt k 1 then none else none) else (bif Nat.blt k 3 then none else (some .int))) else (bif Nat.blt k 6 then (bif Nat.blt k 5 then (some .int) else (some .int)) else (bif Nat.blt k 7 then (some .boolean) else none))) else (bif Nat.blt k 12 then (bif Nat.blt k 10 then (bif Nat.blt k 9 then (some .int) else (some .int)) else (bif Nat.blt k 11 then (some .int) else none)) else (bif Nat.blt k 14 then (bif Nat.blt k 13 then none else (some .int)) else (bif Nat.blt k 15 then (some .int) else (some .int))))) else (bif Nat.blt k 24 then (bif Nat.blt k 20 then (bif Nat.blt k 18 then (bif Nat.blt k 17 then (some .int) else none) else (bif Nat.blt k 19 then (some .int) else (some .int))) else (bif Nat.blt k 22 then (bif Nat.blt k 21 then (some .int) else none) else (bif Nat.blt k 23 then (some .int) else (some .int)))) else (bif Nat.blt k 28 then (bif Nat.blt k 26 then (bif Nat.blt k 25 then (some .int) else (some .int)) else (bif Nat.blt k 27 then (some .int) else (some .int))) else (bif Nat.blt k 30 then (bif Nat.blt k 29 then (some .int) else (some .int)) else (bif Nat.blt k 31 then none else none))))) else (bif Nat.blt k 48 then (bif Nat.blt k 40 then (bif Nat.blt k 36 then (bif Nat.blt k 34 then (bif Nat.blt k 33 then (some .int) else (some .int)) else (bif Nat.blt k 35 then none else (some .int))) else (bif Nat.blt k 38 then (bif Nat.blt k 37 then (some .int) else (some .int)) else (bif Nat.blt k 39 then (some .boolean) else none))) else (bif Nat.blt k 44 then (bif Nat.blt k 42 then (bif Nat.blt k 41 then none else none) else (bif Nat.blt k 43 then none else none)) else (bif Nat.blt k 46 then (bif Nat.blt k 45 then none else none) else (bif Nat.blt k 47 then none else none)))) else (bif Nat.blt k 56 then (bif Nat.blt k 52 then (bif Nat.blt k 50 then (bif Nat.blt k 49 then none else none) else (bif Nat.blt k 51 then none else none)) else (bif Nat.blt k 54 then (bif Nat.blt k 53 then none else (some .boolean)) else (bif Nat.blt k 55 then none else (some .boolean)))) else (bif Nat.blt k 60 then (bif Nat.blt k 58 then (bif Nat.blt k 57 then (some .int) else (some .int)) else (bif Nat.blt k 59 then (some .int) else (some .int))) else (bif Nat.blt k 62 then (bif Nat.blt k 61 then (some .int) else (some .int)) else (bif Nat.blt k 63 then none else (bif Nat.blt k 64 then (some .int) else none))))))) else (bif Nat.blt k 98 then (bif Nat.blt k 81 then (bif Nat.blt k 73 then (bif Nat.blt k 69 then (bif Nat.blt k 67 then (bif Nat.blt k 66 then none else none) else (bif Nat.blt k 68 then none else none)) else (bif Nat.blt k 71 then (bif Nat.blt k 70 then none else (some .int)) else (bif Nat.blt k 72 then (some .int) else none))) else (bif Nat.blt k 77 then (bif Nat.blt k 75 then (bif Nat.blt k 74 then (some .boolean) else none) else (bif Nat.blt k 76 then (some .boolean) else (some .boolean))) else (bif Nat.blt k 79 then (bif Nat.blt k 78 then (some .boolean) else (some .int)) else (bif Nat.blt k 80 then none else (some .int))))) else (bif Nat.blt k 89 then (bif Nat.blt k 85 then (bif Nat.blt k 83 then (bif Nat.blt k 82 then (some .int) else (some .int)) else (bif Nat.blt k 84 then none else none)) else (bif Nat.blt k 87 then (bif Nat.blt k 86 then none else (some .boolean)) else (bif Nat.blt k 88 then (some .boolean) else (some .boolean)))) else (bif Nat.blt k 93 then (bif Nat.blt k 91 then (bif Nat.blt k 90 then (some .boolean) else (some .int)) else (bif Nat.blt k 92 then (some .int) else none)) else (bif Nat.blt k 95 then (bif Nat.blt k 94 then (some .boolean) else none) else (bif Nat.blt k 96 then (some .int) else (bif Nat.blt k 97 then none else (some .int))))))) else (bif Nat.blt k 114 then (bif Nat.blt k 106 then (bif Nat.blt k 102 then (bif Nat.blt k 100 then (bif Nat.blt k 99 then (some .int) else (some .boolean)) else (bif Nat.blt k 101 then (some .int) else (some .int))) else (bif Nat.blt k 104 then (bif Nat.blt k 103 then (some .int) else (some .int)) else (bif Nat.blt k 105 then (some .int) else (some .int)))) else (bif Nat.blt k 110 then (bif Nat.blt k 108 then (bif Nat.blt k 107 then (some .int) else (some .int)) else (bif Nat.blt k 109 then (some .int) else (some .int))) else (bif Nat.blt k 112 then (bif Nat.blt k 111 then (some .int) else (some .int)) else (bif Nat.blt k 113 then (some .int) else (some .int))))) else (bif Nat.blt k 122 then (bif Nat.blt k 118 then (bif Nat.blt k 116 then (bif Nat.blt k 115 then (some .int) else (some .int)) else (bif Nat.blt k 117 then (some .int) else (some .int))) else (bif Nat.blt k 120 then (bif Nat.blt k 119 then (some .int) else (some .int)) else (bif Nat.blt k 121 then (some .int) else (some .int)))) else (bif Nat.blt k 126 then (bif Nat.blt k 124 then (bif Nat.blt k 123 then (some .int) else (some .int)) else (bif Nat.blt k 125 then (some .int) else (some .int))) else (bif Nat.blt k 128 then (bif Nat.blt k 127 then (some .int) else (some .int)) else (bif Nat.blt k 129 then (some .int) else (bif Nat.blt k 130 then (some .int) else (some .int))))))))) else (bif Nat.blt k 196 then (bif Nat.blt k 163 then (bif Nat.blt k 147 then (bif Nat.blt k 139 then (bif Nat.blt k 135 then (bif Nat.blt k 133 then (bif Nat.blt k 132 then (some .boolean) else (some .boolean)) else (bif Nat.blt k 134 then (some .int) else (some .boolean))) else (bif Nat.blt k 137 then (bif Nat.blt k 136 then (some .boolean) else (some .int)) else (bif Nat.blt k 138 then (some .int) else none))) else (bif Nat.blt k 143 then (bif Nat.blt k 141 then (bif Nat.blt k 140 then none else none) else (bif Nat.blt k 142 then none else (some .boolean))) else (bif Nat.blt k 145 then (bif Nat.blt k 144 then (some .int) else (some .boolean)) else (bif Nat.blt k 146 then none else none)))) else (bif Nat.blt k 155 then (bif Nat.blt k 151 then (bif Nat.blt k 149 then (bif Nat.blt k 148 then none else none) else (bif Nat.blt k 150 then (some .int) else (some .boolean))) else (bif Nat.blt k 153 then (bif Nat.blt k 152 then (some .boolean) else (some .int)) else (bif Nat.blt k 154 then (some .int) else (some .int)))) else (bif Nat.blt k 159 then (bif Nat.blt k 157 then (bif Nat.blt k 156 then none else (some .int)) else (bif Nat.blt k 158 then (some .boolean) else none)) else (bif Nat.blt k 161 then (bif Nat.blt k 160 then (some .boolean) else (some .boolean)) else (bif Nat.blt k 162 then (some .boolean) else (some .boolean)))))) else (bif Nat.blt k 179 then (bif Nat.blt k 171 then (bif Nat.blt k 167 then (bif Nat.blt k 165 then (bif Nat.blt k 164 then (some .boolean) else (some .int)) else (bif Nat.blt k 166 then (some .boolean) else (some .boolean))) else (bif Nat.blt k 169 then (bif Nat.blt k 168 then (some .boolean) else (some .int)) else (bif Nat.blt k 170 then (some .boolean) else (some .int)))) else (bif Nat.blt k 175 then (bif Nat.blt k 173 then (bif Nat.blt k 172 then (some .boolean) else (some .int)) else (bif Nat.blt k 174 then (some .int) else (some .int))) else (bif Nat.blt k 177 then (bif Nat.blt k 176 then (some .int) else (some .int)) else (bif Nat.blt k 178 then (some .int) else (some .int))))) else (bif Nat.blt k 187 then (bif Nat.blt k 183 then (bif Nat.blt k 181 then (bif Nat.blt k 180 then (some .int) else (some .boolean)) else (bif Nat.blt k 182 then (some .int) else (some .int))) else (bif Nat.blt k 185 then (bif Nat.blt k 184 then (some .int) else (some .int)) else (bif Nat.blt k 186 then (some .int) else none))) else (bif Nat.blt k 191 then (bif Nat.blt k 189 then (bif Nat.blt k 188 then (some .int) else (some .int)) else (bif Nat.blt k 190 then (some .boolean) else (some .int))) else (bif Nat.blt k 193 then (bif Nat.blt k 192 then (some .int) else (some .int)) else (bif Nat.blt k 194 then (some .boolean) else (bif Nat.blt k 195 then (some .int) else (some .int)))))))) else (bif Nat.blt k 229 then (bif Nat.blt k 212 then (bif Nat.blt k 204 then (bif Nat.blt k 200 then (bif Nat.blt k 198 then (bif Nat.blt k 197 then (some .int) else (some .int)) else (bif Nat.blt k 199 then (some .int) else (some .int))) else (bif Nat.blt k 202 then (bif Nat.blt k 201 then none else none) else (bif Nat.blt k 203 then (some .int) else (some .int)))) else (bif Nat.blt k 208 then (bif Nat.blt k 206 then (bif Nat.blt k 205 then (some .int) else (some .int)) else (bif Nat.blt k 207 then none else (some .int))) else (bif Nat.blt k 210 then (bif Nat.blt k 209 then (some .int) else none) else (bif Nat.blt k 211 then (some .boolean) else (some .boolean))))) else (bif Nat.blt k 220 then (bif Nat.blt k 216 then (bif Nat.blt k 214 then (bif Nat.blt k 213 then none else (some .int)) else (bif Nat.blt k 215 then (some .int) else (some .int))) else (bif Nat.blt k 218 then (bif Nat.blt k 217 then (some .int) else (some .int)) else (bif Nat.blt k 219 then (some .int) else (some .int)))) else (bif Nat.blt k 224 then (bif Nat.blt k 222 then (bif Nat.blt k 221 then (some .boolean) else (some .int)) else (bif Nat.blt k 223 then (some .int) else (some .int))) else (bif Nat.blt k 226 then (bif Nat.blt k 225 then (some .int) else (some .int)) else (bif Nat.blt k 227 then (some .int) else (bif Nat.blt k 228 then (some .int) else none)))))) else (bif Nat.blt k 245 then (bif Nat.blt k 237 then (bif Nat.blt k 233 then (bif Nat.blt k 231 then (bif Nat.blt k 230 then (some .int) else (some .int)) else (bif Nat.blt k 232 then (some .int) else (some .int))) else (bif Nat.blt k 235 then (bif Nat.blt k 234 then (some .int) else (some .int)) else (bif Nat.blt k 236 then (some .int) else (some .int)))) else (bif Nat.blt k 241 then (bif Nat.blt k 239 then (bif Nat.blt k 238 then (some .int) else (some .int)) else (bif Nat.blt k 240 then (some .int) else (some .int))) else (bif Nat.blt k 243 then (bif Nat.blt k 242 then (some .int) else (some .int)) else (bif Nat.blt k 244 then (some .int) else (some .int))))) else (bif Nat.blt k 253 then (bif Nat.blt k 249 then (bif Nat.blt k 247 then (bif Nat.blt k 246 then (some .boolean) else (some .boolean)) else (bif Nat.blt k 248 then (some .int) else (some .int))) else (bif Nat.blt k 251 then (bif Nat.blt k 250 then (some .int) else (some .int)) else (bif Nat.blt k 252 then (some .int) else (some .int)))) else (bif Nat.blt k 257 then (bif Nat.blt k 255 then (bif Nat.blt k 254 then (some .int) else (some .int)) else (bif Nat.blt k 256 then (some .int) else (some .boolean))) else (bif Nat.blt k 259 then (bif Nat.blt k 258 then (some .int) else (some .int)) else (bif Nat.blt k 260 then (some .int) else (bif Nat.blt k 261 then (some .int) else (some .int)))))))))) else none
set_option maxRecDepth 100000 in
noncomputable def mi_rm (k : Nat) : Nat × Nat := bif Nat.blt k 262 then (bif Nat.blt k 131 then (bif Nat.blt k 65 then (bif Nat.blt k 32 then (bif Nat.blt k 16 then (bif Nat.blt k 8 then (bif Nat.blt k 4 then (bif Nat.blt k 2 then (bif Nat.blt k 1 then (2, 60) else (1, 20)) else (bif Nat.blt k 3 then (1, 40) else (0, 0))) else (bif Nat.blt k 6 then (bif Nat.blt k 5 then (1, 22) else (1, 22)) else (bif Nat.blt k 7 then (2, 48) else (1, 20)))) else (bif Nat.blt k 12 then (bif Nat.blt k 10 then (bif Nat.blt k 9 then (1, 22) else (1, 21)) else (bif Nat.blt k 11 then (2, 46) else (1, 20))) else (bif Nat.blt k 14 then (bif Nat.blt k 13 then (3, 69) else (2, 44)) else (bif Nat.blt k 15 then (2, 44) else (2, 44))))) else (bif Nat.blt k 24 then (bif Nat.blt k 20 then (bif Nat.blt k 18 then (bif Nat.blt k 17 then (2, 44) else (3, 73)) else (bif Nat.blt k 19 then (2, 47) else (1, 22))) else (bif Nat.blt k 22 then (bif Nat.blt k 21 then (1, 22) else (4, 99)) else (bif Nat.blt k 23 then (3, 75) else (2, 49)))) else (bif Nat.blt k 28 then (bif Nat.blt k 26 then (bif Nat.blt k 25 then (2, 49) else (1, 22)) else (bif Nat.blt k 27 then (2, 51) else (1, 22))) else (bif Nat.blt k 30 then (bif Nat.blt k 29 then (0, 0) else (2, 44)) else (bif Nat.blt k 31 then (1, 20) else (2, 52)))))) else (bif Nat.blt k 48 then (bif Nat.blt k 40 then (bif Nat.blt k 36 then (bif Nat.blt k 34 then (bif Nat.blt k 33 then (1, 22) else (0, 0)) else (bif Nat.blt k 35 then (2, 45) else (1, 22))) else (bif Nat.blt k 38 then (bif Nat.blt k 37 then (1, 22) else (2, 50)) else (bif Nat.blt k 39 then (1, 22) else (0, 0)))) else (bif Nat.blt k 44 then (bif Nat.blt k 42 then (bif Nat.blt k 41 then (3, 76) else (2, 44)) else (bif Nat.blt k 43 then (2, 49) else (0, 0))) else (bif Nat.blt k 46 then (bif Nat.blt k 45 then (1, 21) else (2, 60)) else (bif Nat.blt k 47 then (2, 61) else (2, 61))))) else (bif Nat.blt k 56 then (bif Nat.blt k 52 then (bif Nat.blt k 50 then (bif Nat.blt k 49 then (1, 20) else (4, 100)) else (bif Nat.blt k 51 then (3, 75) else (1, 22))) else (bif Nat.blt k 54 then (bif Nat.blt k 53 then (2, 46) else (1, 20)) else (bif Nat.blt k 55 then (1, 22) else (0, 0)))) else (bif Nat.blt k 60 then (bif Nat.blt k 58 then (bif Nat.blt k 57 then (0, 0) else (1, 22)) else (bif Nat.blt k 59 then (2, 49) else (1, 26))) else (bif Nat.blt k 62 then (bif Nat.blt k 61 then (0, 0) else (1, 22)) else (bif Nat.blt k 63 then (2, 60) else (bif Nat.blt k 64 then (7, 176) else (1, 40)))))))) else (bif Nat.blt k 98 then (bif Nat.blt k 81 then (bif Nat.blt k 73 then (bif Nat.blt k 69 then (bif Nat.blt k 67 then (bif Nat.blt k 66 then (5, 132) else (6, 156)) else (bif Nat.blt k 68 then (3, 67) else (3, 67))) else (bif Nat.blt k 71 then (bif Nat.blt k 70 then (5, 132) else (2, 44)) else (bif Nat.blt k 72 then (1, 21) else (1, 21)))) else (bif Nat.blt k 77 then (bif Nat.blt k 75 then (bif Nat.blt k 74 then (4, 110) else (0, 0)) else (bif Nat.blt k 76 then (0, 0) else (0, 0))) else (bif Nat.blt k 79 then (bif Nat.blt k 78 then (0, 0) else (1, 20)) else (bif Nat.blt k 80 then (1, 20) else (4, 89))))) else (bif Nat.blt k 89 then (bif Nat.blt k 85 then (bif Nat.blt k 83 then (bif Nat.blt k 82 then (3, 65) else (2, 42)) else (bif Nat.blt k 84 then (1, 40) else (1, 40))) else (bif Nat.blt k 87 then (bif Nat.blt k 86 then (0, 0) else (0, 0)) else (bif Nat.blt k 88 then (1, 22) else (0, 0)))) else (bif Nat.blt k 93 then (bif Nat.blt k 91 then (bif Nat.blt k 90 then (1, 22) else (0, 0)) else (bif Nat.blt k 92 then (1, 20) else (1, 20))) else (bif Nat.blt k 95 then (bif Nat.blt k 94 then (0, 0) else (1, 21)) else (bif Nat.blt k 96 then (0, 0) else (bif Nat.blt k 97 then (3, 81) else (2, 42))))))) else (bif Nat.blt k 114 then (bif Nat.blt k 106 then (bif Nat.blt k 102 then (bif Nat.blt k 100 then (bif Nat.blt k 99 then (8, 199) else (4, 103)) else (bif Nat.blt k 101 then (4, 103) else (4, 103))) else (bif Nat.blt k 104 then (bif Nat.blt k 103 then (1, 22) else (0, 0)) else (bif Nat.blt k 105 then (4, 103) else (3, 72)))) else (bif Nat.blt k 110 then (bif Nat.blt k 108 then (bif Nat.blt k 107 then (8, 126) else (8, 145)) else (bif Nat.blt k 109 then (8, 145) else (6, 145))) else (bif Nat.blt k 112 then (bif Nat.blt k 111 then (6, 145) else (6, 145)) else (bif Nat.blt k 113 then (6, 145) else (8, 145))))) else (bif Nat.blt k 122 then (bif Nat.blt k 118 then (bif Nat.blt k 116 then (bif Nat.blt k 115 then (8, 145) else (6, 145)) else (bif Nat.blt k 117 then (6, 145) else (6, 145))) else (bif Nat.blt k 120 then (bif Nat.blt k 119 then (6, 145) else (6, 145)) else (bif Nat.blt k 121 then (8, 145) else (6, 145)))) else (bif Nat.blt k 126 then (bif Nat.blt k 124 then (bif Nat.blt k 123 then (6, 145) else (6, 145)) else (bif Nat.blt k 125 then (6, 145) else (8, 145))) else (bif Nat.blt k 128 then (bif Nat.blt k 127 then (8, 145) else (6, 145)) else (bif Nat.blt k 129 then (6, 145) else (bif Nat.blt k 130 then (6, 145) else (3, 82))))))))) else (bif Nat.blt k 196 then (bif Nat.blt k 163 then (bif Nat.blt k 147 then (bif Nat.blt k 139 then (bif Nat.blt k 135 then (bif Nat.blt k 133 then (bif Nat.blt k 132 then (2, 61) else (2, 61)) else (bif Nat.blt k 134 then (1, 22) else (0, 0))) else (bif Nat.blt k 137 then (bif Nat.blt k 136 then (0, 0) else (0, 0)) else (bif Nat.blt k 138 then (1, 22) else (7, 103)))) else (bif Nat.blt k 143 then (bif Nat.blt k 141 then (bif Nat.blt k 140 then (3, 82) else (1, 20)) else (bif Nat.blt k 142 then (5, 124) else (3, 72))) else (bif Nat.blt k 145 then (bif Nat.blt k 144 then (0, 0) else (0, 0)) else (bif Nat.blt k 146 then (2, 43) else (1, 21))))) else (bif Nat.blt k 155 then (bif Nat.blt k 151 then (bif Nat.blt k 149 then (bif Nat.blt k 148 then (0, 0) else (0, 0)) else (bif Nat.blt k 150 then (0, 0) else (1, 22))) else (bif Nat.blt k 153 then (bif Nat.blt k 152 then (2, 44) else (0, 0)) else (bif Nat.blt k 154 then (1, 22) else (1, 22)))) else (bif Nat.blt k 159 then (bif Nat.blt k 157 then (bif Nat.blt k 156 then (0, 0) else (0, 0)) else (bif Nat.blt k 158 then (1, 22) else (2, 42))) else (bif Nat.blt k 161 then (bif Nat.blt k 160 then (0, 0) else (1, 21)) else (bif Nat.blt k 162 then (1, 22) else (3, 63)))))) else (bif Nat.blt k 179 then (bif Nat.blt k 171 then (bif Nat.blt k 167 then (bif Nat.blt k 165 then (bif Nat.blt k 164 then (4, 86) else (1, 22)) else (bif Nat.blt k 166 then (4, 86) else (4, 86))) else (bif Nat.blt k 169 then (bif Nat.blt k 168 then (5, 110) else (6, 130)) else (bif Nat.blt k 170 then (1, 22) else (3, 67)))) else (bif Nat.blt k 175 then (bif Nat.blt k 173 then (bif Nat.blt k 172 then (1, 22) else (2, 44)) else (bif Nat.blt k 174 then (1, 22) else (0, 0))) else (bif Nat.blt k 177 then (bif Nat.blt k 176 then (0, 0) else (1, 22)) else (bif Nat.blt k 178 then (2, 49) else (3, 74))))) else (bif Nat.blt k 187 then (bif Nat.blt k 183 then (bif Nat.blt k 181 then (bif Nat.blt k 180 then (2, 49) else (3, 72)) else (bif Nat.blt k 182 then (4, 96) else (3, 67))) else (bif Nat.blt k 185 then (bif Nat.blt k 184 then (0, 0) else (2, 45)) else (bif Nat.blt k 186 then (0, 0) else (3, 73)))) else (bif Nat.blt k 191 then (bif Nat.blt k 189 then (bif Nat.blt k 188 then (3, 73) else (4, 95)) else (bif Nat.blt k 190 then (1, 22) else (4, 95))) else (bif Nat.blt k 193 then (bif Nat.blt k 192 then (0, 0) else (1, 22)) else (bif Nat.blt k 194 then (2, 44) else (bif Nat.blt k 195 then (4, 95) else (0, 0)))))))) else (bif Nat.blt k 229 then (bif Nat.blt k 212 then (bif Nat.blt k 204 then (bif Nat.blt k 200 then (bif Nat.blt k 198 then (bif Nat.blt k 197 then (0, 0) else (0, 0)) else (bif Nat.blt k 199 then (1, 22) else (2, 48))) else (bif Nat.blt k 202 then (bif Nat.blt k 201 then (3, 74) else (4, 103)) else (bif Nat.blt k 203 then (4, 103) else (5, 125)))) else (bif Nat.blt k 208 then (bif Nat.blt k 206 then (bif Nat.blt k 205 then (1, 22) else (1, 22)) else (bif Nat.blt k 207 then (5, 125) else (0, 0))) else (bif Nat.blt k 210 then (bif Nat.blt k 209 then (2, 44) else (6, 147)) else (bif Nat.blt k 211 then (2, 44) else (3, 71))))) else (bif Nat.blt k 220 then (bif Nat.blt k 216 then (bif Nat.blt k 214 then (bif Nat.blt k 213 then (4, 98) else (1, 22)) else (bif Nat.blt k 215 then (2, 46) else (6, 147))) else (bif Nat.blt k 218 then (bif Nat.blt k 217 then (5, 125) else (7, 169)) else (bif Nat.blt k 219 then (7, 169) else (7, 169)))) else (bif Nat.blt k 224 then (bif Nat.blt k 222 then (bif Nat.blt k 221 then (0, 0) else (7, 169)) else (bif Nat.blt k 223 then (1, 21) else (1, 22))) else (bif Nat.blt k 226 then (bif Nat.blt k 225 then (7, 169) else (3, 70)) else (bif Nat.blt k 227 then (4, 97) else (bif Nat.blt k 228 then (4, 97) else (7, 169))))))) else (bif Nat.blt k 245 then (bif Nat.blt k 237 then (bif Nat.blt k 233 then (bif Nat.blt k 231 then (bif Nat.blt k 230 then (8, 194) else (8, 194)) else (bif Nat.blt k 232 then (5, 125) else (3, 70))) else (bif Nat.blt k 235 then (bif Nat.blt k 234 then (7, 169) else (7, 169)) else (bif Nat.blt k 236 then (1, 22) else (2, 51)))) else (bif Nat.blt k 241 then (bif Nat.blt k 239 then (bif Nat.blt k 238 then (8, 194) else (8, 194)) else (bif Nat.blt k 240 then (0, 0) else (2, 45))) else (bif Nat.blt k 243 then (bif Nat.blt k 242 then (4, 95) else (2, 45)) else (bif Nat.blt k 244 then (8, 194) else (8, 194))))) else (bif Nat.blt k 253 then (bif Nat.blt k 249 then (bif Nat.blt k 247 then (bif Nat.blt k 246 then (1, 22) else (1, 22)) else (bif Nat.blt k 248 then (1, 22) else (9, 149))) else (bif Nat.blt k 251 then (bif Nat.blt k 250 then (9, 168) else (9, 169)) else (bif Nat.blt k 252 then (9, 168) else (9, 167)))) else (bif Nat.blt k 257 then (bif Nat.blt k 255 then (bif Nat.blt k 254 then (9, 167) else (9, 168)) else (bif Nat.blt k 256 then (9, 168) else (10, 221))) else (bif Nat.blt k 259 then (bif Nat.blt k 258 then (0, 0) else (0, 0)) else (bif Nat.blt k 260 then (0, 0) else (bif Nat.blt k 261 then (0, 0) else (0, 0)))))))))) else (0, 0)
set_option maxRecDepth 100000 in
noncomputable def mi_hh (k : Nat) : List (Nat × Nat × Nat × Nat) := bif Nat.blt k 262 then (bif Nat.blt k 131 then (bif Nat.blt k 65 then (bif Nat.blt k 32 then (bif Nat.blt k 16 then (bif Nat.blt k 8 then (bif Nat.blt k 4 then (bif Nat.blt k 2 then (bif Nat.blt k 1 then [] else []) else (bif Nat.blt k 3 then [] else [])) else (bif Nat.blt k 6 then (bif Nat.blt k 5 then [] else []) else (bif Nat.blt k 7 then [] else []))) else (bif Nat.blt k 12 then (bif Nat.blt k 10 then (bif Nat.blt k 9 then [] else []) else (bif Nat.blt k 11 then [] else [])) else (bif Nat.blt k 14 then (bif Nat.blt k 13 then [] else []) else (bif Nat.blt k 15 then [] else [])))) else (bif Nat.blt k 24 then (bif Nat.blt k 20 then (bif Nat.blt k 18 then (bif Nat.blt k 17 then [] else []) else (bif Nat.blt k 19 then [] else [])) else (bif Nat.blt k 22 then (bif Nat.blt k 21 then [] else []) else (bif Nat.blt k 23 then [] else []))) else (bif Nat.blt k 28 then (bif Nat.blt k 26 then (bif Nat.blt k 25 then [] else []) else (bif Nat.blt k 27 then [] else [])) else (bif Nat.blt k 30 then (bif Nat.blt k 29 then [] else []) else (bif Nat.blt k 31 then [] else []))))) else (bif Nat.blt k 48 then (bif Nat.blt k 40 then (bif Nat.blt k 36 then (bif Nat.blt k 34 then (bif Nat.blt k 33 then [] else []) else (bif Nat.blt k 35 then [] else [])) else (bif Nat.blt k 38 then (bif Nat.blt k 37 then [] else []) else (bif Nat.blt k 39 then [] else []))) else (bif Nat.blt k 44 then (bif Nat.blt k 42 then (bif Nat.blt k 41 then [] else []) else (bif Nat.blt k 43 then [] else [])) else (bif Nat.blt k 46 then (bif Nat.blt k 45 then [] else []) else (bif Nat.blt k 47 then [] else [])))) else (bif Nat.blt k 56 then (bif Nat.blt k 52 then (bif Nat.blt k 50 then (bif Nat.blt k 49 then [] else []) else (bif Nat.blt k 51 then [] else [])) else (bif Nat.blt k 54 then (bif Nat.blt k 53 then [] else []) else (bif Nat.blt k 55 then [] else []))) else (bif Nat.blt k 60 then (bif Nat.blt k 58 then (bif Nat.blt k 57 then [] else []) else (bif Nat.blt k 59 then [] else [])) else (bif Nat.blt k 62 then (bif Nat.blt k 61 then [] else []) else (bif Nat.blt k 63 then [] else (bif Nat.blt k 64 then [] else []))))))) else (bif Nat.blt k 98 then (bif Nat.blt k 81 then (bif Nat.blt k 73 then (bif Nat.blt k 69 then (bif Nat.blt k 67 then (bif Nat.blt k 66 then [] else []) else (bif Nat.blt k 68 then [] else [])) else (bif Nat.blt k 71 then (bif Nat.blt k 70 then [] else []) else (bif Nat.blt k 72 then [] else []))) else (bif Nat.blt k 77 then (bif Nat.blt k 75 then (bif Nat.blt k 74 then [] else []) else (bif Nat.blt k 76 then [] else [])) else (bif Nat.blt k 79 then (bif Nat.blt k 78 then [] else []) else (bif Nat.blt k 80 then [] else [])))) else (bif Nat.blt k 89 then (bif Nat.blt k 85 then (bif Nat.blt k 83 then (bif Nat.blt k 82 then [] else []) else (bif Nat.blt k 84 then [] else [])) else (bif Nat.blt k 87 then (bif Nat.blt k 86 then [] else []) else (bif Nat.blt k 88 then [] else []))) else (bif Nat.blt k 93 then (bif Nat.blt k 91 then (bif Nat.blt k 90 then [] else []) else (bif Nat.blt k 92 then [] else [])) else (bif Nat.blt k 95 then (bif Nat.blt k 94 then [] else []) else (bif Nat.blt k 96 then [] else (bif Nat.blt k 97 then [] else [])))))) else (bif Nat.blt k 114 then (bif Nat.blt k 106 then (bif Nat.blt k 102 then (bif Nat.blt k 100 then (bif Nat.blt k 99 then [] else []) else (bif Nat.blt k 101 then [] else [])) else (bif Nat.blt k 104 then (bif Nat.blt k 103 then [] else []) else (bif Nat.blt k 105 then [] else []))) else (bif Nat.blt k 110 then (bif Nat.blt k 108 then (bif Nat.blt k 107 then [] else []) else (bif Nat.blt k 109 then [] else [])) else (bif Nat.blt k 112 then (bif Nat.blt k 111 then [] else []) else (bif Nat.blt k 113 then [] else [])))) else (bif Nat.blt k 122 then (bif Nat.blt k 118 then (bif Nat.blt k 116 then (bif Nat.blt k 115 then [] else []) else (bif Nat.blt k 117 then [] else [])) else (bif Nat.blt k 120 then (bif Nat.blt k 119 then [] else []) else (bif Nat.blt k 121 then [] else []))) else (bif Nat.blt k 126 then (bif Nat.blt k 124 then (bif Nat.blt k 123 then [] else []) else (bif Nat.blt k 125 then [] else [])) else (bif Nat.blt k 128 then (bif Nat.blt k 127 then [] else []) else (bif Nat.blt k 129 then [] else (bif Nat.blt k 130 then [] else [])))))))) else (bif Nat.blt k 196 then (bif Nat.blt k 163 then (bif Nat.blt k 147 then (bif Nat.blt k 139 then (bif Nat.blt k 135 then (bif Nat.blt k 133 then (bif Nat.blt k 132 then [] else []) else (bif Nat.blt k 134 then [] else [])) else (bif Nat.blt k 137 then (bif Nat.blt k 136 then [] else []) else (bif Nat.blt k 138 then [] else []))) else (bif Nat.blt k 143 then (bif Nat.blt k 141 then (bif Nat.blt k 140 then [] else []) else (bif Nat.blt k 142 then [] else [])) else (bif Nat.blt k 145 then (bif Nat.blt k 144 then [] else []) else (bif Nat.blt k 146 then [] else [])))) else (bif Nat.blt k 155 then (bif Nat.blt k 151 then (bif Nat.blt k 149 then (bif Nat.blt k 148 then [] else []) else (bif Nat.blt k 150 then [] else [])) else (bif Nat.blt k 153 then (bif Nat.blt k 152 then [] else []) else (bif Nat.blt k 154 then [] else []))) else (bif Nat.blt k 159 then (bif Nat.blt k 157 then (bif Nat.blt k 156 then [] else []) else (bif Nat.blt k 158 then [] else [])) else (bif Nat.blt k 161 then (bif Nat.blt k 160 then [] else []) else (bif Nat.blt k 162 then [] else []))))) else (bif Nat.blt k 179 then (bif Nat.blt k 171 then (bif Nat.blt k 167 then (bif Nat.blt k 165 then (bif Nat.blt k 164 then [] else []) else (bif Nat.blt k 166 then [] else [])) else (bif Nat.blt k 169 then (bif Nat.blt k 168 then [] else []) else (bif Nat.blt k 170 then [] else []))) else (bif Nat.blt k 175 then (bif Nat.blt k 173 then (bif Nat.blt k 172 then [] else []) else (bif Nat.blt k 174 then [] else [])) else (bif Nat.blt k 177 then (bif Nat.blt k 176 then [] else []) else (bif Nat.blt k 178 then [] else [])))) else (bif Nat.blt k 187 then (bif Nat.blt k 183 then (bif Nat.blt k 181 then (bif Nat.blt k 180 then [] else []) else (bif Nat.blt k 182 then [] else [])) else (bif Nat.blt k 185 then (bif Nat.blt k 184 then [] else []) else (bif Nat.blt k 186 then [] else []))) else (bif Nat.blt k 191 then (bif Nat.blt k 189 then (bif Nat.blt k 188 then [] else []) else (bif Nat.blt k 190 then [] else [])) else (bif Nat.blt k 193 then (bif Nat.blt k 192 then [] else []) else (bif Nat.blt k 194 then [] else (bif Nat.blt k 195 then [] else []))))))) else (bif Nat.blt k 229 then (bif Nat.blt k 212 then (bif Nat.blt k 204 then (bif Nat.blt k 200 then (bif Nat.blt k 198 then (bif Nat.blt k 197 then [] else []) else (bif Nat.blt k 199 then [] else [])) else (bif Nat.blt k 202 then (bif Nat.blt k 201 then [] else []) else (bif Nat.blt k 203 then [] else []))) else (bif Nat.blt k 208 then (bif Nat.blt k 206 then (bif Nat.blt k 205 then [] else []) else (bif Nat.blt k 207 then [] else [])) else (bif Nat.blt k 210 then (bif Nat.blt k 209 then [] else []) else (bif Nat.blt k 211 then [] else [])))) else (bif Nat.blt k 220 then (bif Nat.blt k 216 then (bif Nat.blt k 214 then (bif Nat.blt k 213 then [] else []) else (bif Nat.blt k 215 then [] else [])) else (bif Nat.blt k 218 then (bif Nat.blt k 217 then [] else []) else (bif Nat.blt k 219 then [] else []))) else (bif Nat.blt k 224 then (bif Nat.blt k 222 then (bif Nat.blt k 221 then [] else []) else (bif Nat.blt k 223 then [] else [])) else (bif Nat.blt k 226 then (bif Nat.blt k 225 then [] else []) else (bif Nat.blt k 227 then [] else (bif Nat.blt k 228 then [] else [])))))) else (bif Nat.blt k 245 then (bif Nat.blt k 237 then (bif Nat.blt k 233 then (bif Nat.blt k 231 then (bif Nat.blt k 230 then [] else []) else (bif Nat.blt k 232 then [] else [])) else (bif Nat.blt k 235 then (bif Nat.blt k 234 then [] else []) else (bif Nat.blt k 236 then [] else []))) else (bif Nat.blt k 241 then (bif Nat.blt k 239 then (bif Nat.blt k 238 then [] else []) else (bif Nat.blt k 240 then [] else [])) else (bif Nat.blt k 243 then (bif Nat.blt k 242 then [] else []) else (bif Nat.blt k 244 then [] else [])))) else (bif Nat.blt k 253 then (bif Nat.blt k 249 then (bif Nat.blt k 247 then (bif Nat.blt k 246 then [] else []) else (bif Nat.blt k 248 then [] else [(0, 12, 15, 13)])) else (bif Nat.blt k 251 then (bif Nat.blt k 250 then [(0, 12, 15, 13)] else [(0, 12, 15, 13)]) else (bif Nat.blt k 252 then [(0, 12, 15, 13)] else [(0, 10, 13, 13)]))) else (bif Nat.blt k 257 then (bif Nat.blt k 255 then (bif Nat.blt k 254 then [(0, 10, 13, 13)] else [(0, 12, 15, 13)]) else (bif Nat.blt k 256 then [(0, 10, 13, 13)] else [])) else (bif Nat.blt k 259 then (bif Nat.blt k 258 then [] else []) else (bif Nat.blt k 260 then [] else (bif Nat.blt k 261 then [] else []))))))))) else []
set_option maxRecDepth 100000 in
noncomputable def mi_ex (k : Nat) : Nat → Option (Nat × Nat) := bif Nat.blt k 262 then (bif Nat.blt k 131 then (bif Nat.blt k 65 then (bif Nat.blt k 32 then (bif Nat.blt k 16 then (bif Nat.blt k 8 then (bif Nat.blt k 4 then (bif Nat.blt k 2 then (bif Nat.blt k 1 then (fun _ => none) else (fun _ => none)) else (bif Nat.blt k 3 then (fun _ => none) else (fun _ => none))) else (bif Nat.blt k 6 then (bif Nat.blt k 5 then (fun _ => none) else (fun _ => none)) else (bif Nat.blt k 7 then (fun _ => none) else (fun _ => none)))) else (bif Nat.blt k 12 then (bif Nat.blt k 10 then (bif Nat.blt k 9 then (fun _ => none) else (fun _ => none)) else (bif Nat.blt k 11 then (fun _ => none) else (fun _ => none))) else (bif Nat.blt k 14 then (bif Nat.blt k 13 then (fun _ => none) else (fun _ => none)) else (bif Nat.blt k 15 then (fun _ => none) else (fun _ => none))))) else (bif Nat.blt k 24 then (bif Nat.blt k 20 then (bif Nat.blt k 18 then (bif Nat.blt k 17 then (fun _ => none) else (fun _ => none)) else (bif Nat.blt k 19 then (fun _ => none) else (fun _ => none))) else (bif Nat.blt k 22 then (bif Nat.blt k 21 then (fun _ => none) else (fun _ => none)) else (bif Nat.blt k 23 then (fun _ => none) else (fun _ => none)))) else (bif Nat.blt k 28 then (bif Nat.blt k 26 then (bif Nat.blt k 25 then (fun _ => none) else (fun _ => none)) else (bif Nat.blt k 27 then (fun _ => none) else (fun _ => none))) else (bif Nat.blt k 30 then (bif Nat.blt k 29 then (fun _ => none) else (fun _ => none)) else (bif Nat.blt k 31 then (fun _ => none) else (fun _ => none)))))) else (bif Nat.blt k 48 then (bif Nat.blt k 40 then (bif Nat.blt k 36 then (bif Nat.blt k 34 then (bif Nat.blt k 33 then (fun _ => none) else (fun _ => none)) else (bif Nat.blt k 35 then (fun _ => none) else (fun _ => none))) else (bif Nat.blt k 38 then (bif Nat.blt k 37 then (fun _ => none) else (fun _ => none)) else (bif Nat.blt k 39 then (fun _ => none) else (fun _ => none)))) else (bif Nat.blt k 44 then (bif Nat.blt k 42 then (bif Nat.blt k 41 then (fun _ => none) else (fun _ => none)) else (bif Nat.blt k 43 then (fun _ => none) else (fun _ => none))) else (bif Nat.blt k 46 then (bif Nat.blt k 45 then (fun _ => none) else (fun _ => none)) else (bif Nat.blt k 47 then (fun _ => none) else (fun _ => none))))) else (bif Nat.blt k 56 then (bif Nat.blt k 52 then (bif Nat.blt k 50 then (bif Nat.blt k 49 then (fun _ => none) else (fun _ => none)) else (bif Nat.blt k 51 then (fun _ => none) else (fun _ => none))) else (bif Nat.blt k 54 then (bif Nat.blt k 53 then (fun _ => none) else (fun _ => none)) else (bif Nat.blt k 55 then (fun _ => none) else (fun _ => none)))) else (bif Nat.blt k 60 then (bif Nat.blt k 58 then (bif Nat.blt k 57 then (fun _ => none) else (fun _ => none)) else (bif Nat.blt k 59 then (fun _ => none) else (fun _ => none))) else (bif Nat.blt k 62 then (bif Nat.blt k 61 then (fun _ => none) else (fun _ => none)) else (bif Nat.blt k 63 then (fun _ => none) else (bif Nat.blt k 64 then (fun _ => none) else (fun _ => none)))))))) else (bif Nat.blt k 98 then (bif Nat.blt k 81 then (bif Nat.blt k 73 then (bif Nat.blt k 69 then (bif Nat.blt k 67 then (bif Nat.blt k 66 then (fun _ => none) else (fun _ => none)) else (bif Nat.blt k 68 then (fun _ => none) else (fun _ => none))) else (bif Nat.blt k 71 then (bif Nat.blt k 70 then (fun _ => none) else (fun _ => none)) else (bif Nat.blt k 72 then (fun _ => none) else (fun _ => none)))) else (bif Nat.blt k 77 then (bif Nat.blt k 75 then (bif Nat.blt k 74 then (fun _ => none) else (fun _ => none)) else (bif Nat.blt k 76 then (fun _ => none) else (fun _ => none))) else (bif Nat.blt k 79 then (bif Nat.blt k 78 then (fun _ => none) else (fun _ => none)) else (bif Nat.blt k 80 then (fun _ => none) else (fun _ => none))))) else (bif Nat.blt k 89 then (bif Nat.blt k 85 then (bif Nat.blt k 83 then (bif Nat.blt k 82 then (fun _ => none) else (fun _ => none)) else (bif Nat.blt k 84 then (fun _ => none) else (fun _ => none))) else (bif Nat.blt k 87 then (bif Nat.blt k 86 then (fun _ => none) else (fun _ => none)) else (bif Nat.blt k 88 then (fun _ => none) else (fun _ => none)))) else (bif Nat.blt k 93 then (bif Nat.blt k 91 then (bif Nat.blt k 90 then (fun _ => none) else (fun _ => none)) else (bif Nat.blt k 92 then (fun _ => none) else (fun _ => none))) else (bif Nat.blt k 95 then (bif Nat.blt k 94 then (fun _ => none) else (fun _ => none)) else (bif Nat.blt k 96 then (fun _ => none) else (bif Nat.blt k 97 then (fun _ => none) else (fun _ => none))))))) else (bif Nat.blt k 114 then (bif Nat.blt k 106 then (bif Nat.blt k 102 then (bif Nat.blt k 100 then (bif Nat.blt k 99 then (fun _ => none) else (fun _ => none)) else (bif Nat.blt k 101 then (fun _ => none) else (fun _ => none))) else (bif Nat.blt k 104 then (bif Nat.blt k 103 then (fun _ => none) else (fun _ => none)) else (bif Nat.blt k 105 then (fun _ => none) else (fun _ => none)))) else (bif Nat.blt k 110 then (bif Nat.blt k 108 then (bif Nat.blt k 107 then (fun _ => none) else (fun _ => none)) else (bif Nat.blt k 109 then (fun _ => none) else (fun _ => none))) else (bif Nat.blt k 112 then (bif Nat.blt k 111 then (fun _ => none) else (fun _ => none)) else (bif Nat.blt k 113 then (fun _ => none) else (fun _ => none))))) else (bif Nat.blt k 122 then (bif Nat.blt k 118 then (bif Nat.blt k 116 then (bif Nat.blt k 115 then (fun _ => none) else (fun _ => none)) else (bif Nat.blt k 117 then (fun _ => none) else (fun _ => none))) else (bif Nat.blt k 120 then (bif Nat.blt k 119 then (fun _ => none) else (fun _ => none)) else (bif Nat.blt k 121 then (fun _ => none) else (fun _ => none)))) else (bif Nat.blt k 126 then (bif Nat.blt k 124 then (bif Nat.blt k 123 then (fun _ => none) else (fun _ => none)) else (bif Nat.blt k 125 then (fun _ => none) else (fun _ => none))) else (bif Nat.blt k 128 then (bif Nat.blt k 127 then (fun _ => none) else (fun _ => none)) else (bif Nat.blt k 129 then (fun _ => none) else (bif Nat.blt k 130 then (fun _ => none) else (fun _ => none))))))))) else (bif Nat.blt k 196 then (bif Nat.blt k 163 then (bif Nat.blt k 147 then (bif Nat.blt k 139 then (bif Nat.blt k 135 then (bif Nat.blt k 133 then (bif Nat.blt k 132 then (fun _ => none) else (fun _ => none)) else (bif Nat.blt k 134 then (fun _ => none) else (fun _ => none))) else (bif Nat.blt k 137 then (bif Nat.blt k 136 then (fun _ => none) else (fun _ => none)) else (bif Nat.blt k 138 then (fun _ => none) else (fun _ => none)))) else (bif Nat.blt k 143 then (bif Nat.blt k 141 then (bif Nat.blt k 140 then (fun _ => none) else (fun _ => none)) else (bif Nat.blt k 142 then (fun _ => none) else (fun _ => none))) else (bif Nat.blt k 145 then (bif Nat.blt k 144 then (fun _ => none) else (fun _ => none)) else (bif Nat.blt k 146 then (fun _ => none) else (fun _ => none))))) else (bif Nat.blt k 155 then (bif Nat.blt k 151 then (bif Nat.blt k 149 then (bif Nat.blt k 148 then (fun _ => none) else (fun _ => none)) else (bif Nat.blt k 150 then (fun _ => none) else (fun _ => none))) else (bif Nat.blt k 153 then (bif Nat.blt k 152 then (fun _ => none) else (fun _ => none)) else (bif Nat.blt k 154 then (fun _ => none) else (fun _ => none)))) else (bif Nat.blt k 159 then (bif Nat.blt k 157 then (bif Nat.blt k 156 then (fun _ => none) else (fun _ => none)) else (bif Nat.blt k 158 then (fun _ => none) else (fun _ => none))) else (bif Nat.blt k 161 then (bif Nat.blt k 160 then (fun _ => none) else (fun _ => none)) else (bif Nat.blt k 162 then (fun _ => none) else (fun _ => none)))))) else (bif Nat.blt k 179 then (bif Nat.blt k 171 then (bif Nat.blt k 167 then (bif Nat.blt k 165 then (bif Nat.blt k 164 then (fun _ => none) else (fun _ => none)) else (bif Nat.blt k 166 then (fun _ => none) else (fun _ => none))) else (bif Nat.blt k 169 then (bif Nat.blt k 168 then (fun _ => none) else (fun _ => none)) else (bif Nat.blt k 170 then (fun _ => none) else (fun _ => none)))) else (bif Nat.blt k 175 then (bif Nat.blt k 173 then (bif Nat.blt k 172 then (fun _ => none) else (fun _ => none)) else (bif Nat.blt k 174 then (fun _ => none) else (fun _ => none))) else (bif Nat.blt k 177 then (bif Nat.blt k 176 then (fun _ => none) else (fun _ => none)) else (bif Nat.blt k 178 then (fun _ => none) else (fun _ => none))))) else (bif Nat.blt k 187 then (bif Nat.blt k 183 then (bif Nat.blt k 181 then (bif Nat.blt k 180 then (fun _ => none) else (fun _ => none)) else (bif Nat.blt k 182 then (fun _ => none) else (fun _ => none))) else (bif Nat.blt k 185 then (bif Nat.blt k 184 then (fun _ => none) else (fun _ => none)) else (bif Nat.blt k 186 then (fun _ => none) else (fun _ => none)))) else (bif Nat.blt k 191 then (bif Nat.blt k 189 then (bif Nat.blt k 188 then (fun _ => none) else (fun _ => none)) else (bif Nat.blt k 190 then (fun _ => none) else (fun _ => none))) else (bif Nat.blt k 193 then (bif Nat.blt k 192 then (fun _ => none) else (fun _ => none)) else (bif Nat.blt k 194 then (fun _ => none) else (bif Nat.blt k 195 then (fun _ => none) else (fun _ => none)))))))) else (bif Nat.blt k 229 then (bif Nat.blt k 212 then (bif Nat.blt k 204 then (bif Nat.blt k 200 then (bif Nat.blt k 198 then (bif Nat.blt k 197 then (fun _ => none) else (fun _ => none)) else (bif Nat.blt k 199 then (fun _ => none) else (fun _ => none))) else (bif Nat.blt k 202 then (bif Nat.blt k 201 then (fun _ => none) else (fun _ => none)) else (bif Nat.blt k 203 then (fun _ => none) else (fun _ => none)))) else (bif Nat.blt k 208 then (bif Nat.blt k 206 then (bif Nat.blt k 205 then (fun _ => none) else (fun _ => none)) else (bif Nat.blt k 207 then (fun _ => none) else (fun _ => none))) else (bif Nat.blt k 210 then (bif Nat.blt k 209 then (fun _ => none) else (fun _ => none)) else (bif Nat.blt k 211 then (fun _ => none) else (fun _ => none))))) else (bif Nat.blt k 220 then (bif Nat.blt k 216 then (bif Nat.blt k 214 then (bif Nat.blt k 213 then (fun _ => none) else (fun _ => none)) else (bif Nat.blt k 215 then (fun _ => none) else (fun _ => none))) else (bif Nat.blt k 218 then (bif Nat.blt k 217 then (fun _ => none) else (fun _ => none)) else (bif Nat.blt k 219 then (fun _ => none) else (fun _ => none)))) else (bif Nat.blt k 224 then (bif Nat.blt k 222 then (bif Nat.blt k 221 then (fun _ => none) else (fun _ => none)) else (bif Nat.blt k 223 then (fun _ => none) else (fun _ => none))) else (bif Nat.blt k 226 then (bif Nat.blt k 225 then (fun _ => none) else (fun _ => none)) else (bif Nat.blt k 227 then (fun _ => none) else (bif Nat.blt k 228 then (fun _ => none) else (fun _ => none))))))) else (bif Nat.blt k 245 then (bif Nat.blt k 237 then (bif Nat.blt k 233 then (bif Nat.blt k 231 then (bif Nat.blt k 230 then (fun _ => none) else (fun _ => none)) else (bif Nat.blt k 232 then (fun _ => none) else (fun _ => none))) else (bif Nat.blt k 235 then (bif Nat.blt k 234 then (fun _ => none) else (fun _ => none)) else (bif Nat.blt k 236 then (fun _ => none) else (fun _ => none)))) else (bif Nat.blt k 241 then (bif Nat.blt k 239 then (bif Nat.blt k 238 then (fun _ => none) else (fun _ => none)) else (bif Nat.blt k 240 then (fun _ => none) else (fun _ => none))) else (bif Nat.blt k 243 then (bif Nat.blt k 242 then (fun _ => none) else (fun _ => none)) else (bif Nat.blt k 244 then (fun _ => none) else (fun _ => none))))) else (bif Nat.blt k 253 then (bif Nat.blt k 249 then (bif Nat.blt k 247 then (bif Nat.blt k 246 then (fun _ => none) else (fun _ => none)) else (bif Nat.blt k 248 then (fun _ => none) else (fun pc => bif Nat.ble 0 pc && Nat.blt pc 12 then some (17, 5) else none))) else (bif Nat.blt k 251 then (bif Nat.blt k 250 then (fun pc => bif Nat.ble 0 pc && Nat.blt pc 12 then some (17, 5) else none) else (fun pc => bif Nat.ble 0 pc && Nat.blt pc 12 then some (17, 5) else none)) else (bif Nat.blt k 252 then (fun pc => bif Nat.ble 0 pc && Nat.blt pc 12 then some (17, 5) else none) else (fun pc => bif Nat.ble 0 pc && Nat.blt pc 10 then some (15, 4) else none)))) else (bif Nat.blt k 257 then (bif Nat.blt k 255 then (bif Nat.blt k 254 then (fun pc => bif Nat.ble 0 pc && Nat.blt pc 10 then some (15, 4) else none) else (fun pc => bif Nat.ble 0 pc && Nat.blt pc 12 then some (17, 5) else none)) else (bif Nat.blt k 256 then (fun pc => bif Nat.ble 0 pc && Nat.blt pc 10 then some (15, 4) else none) else (fun _ => none))) else (bif Nat.blt k 259 then (bif Nat.blt k 258 then (fun _ => none) else (fun _ => none)) else (bif Nat.blt k 260 then (fun _ => none) else (bif Nat.blt k 261 then (fun _ => none) else (fun _ => none)))))))))) else (fun _ => none)
set_option maxRecDepth 100000 in
noncomputable def mi_cn (k : Nat) : Nat := bif Nat.blt k 13 then (bif Nat.blt k 6 then (bif Nat.blt k 3 then (bif Nat.blt k 1 then 3 else (bif Nat.blt k 2 then 7 else 3)) else (bif Nat.blt k 4 then 6 else (bif Nat.blt k 5 then 6 else 3))) else (bif Nat.blt k 9 then (bif Nat.blt k 7 then 7 else (bif Nat.blt k 8 then 6 else 4)) else (bif Nat.blt k 11 then (bif Nat.blt k 10 then 4 else 2) else (bif Nat.blt k 12 then 12 else 27)))) else 0
set_option maxRecDepth 100000 in
noncomputable def mi_ct (k : Nat) : u_T := bif Nat.blt k 13 then (bif Nat.blt k 6 then (bif Nat.blt k 3 then (bif Nat.blt k 1 then TX0 else (bif Nat.blt k 2 then TX1 else TX2)) else (bif Nat.blt k 4 then TX3 else (bif Nat.blt k 5 then TX4 else TX5))) else (bif Nat.blt k 9 then (bif Nat.blt k 7 then TX6 else (bif Nat.blt k 8 then TX7 else TX8)) else (bif Nat.blt k 11 then (bif Nat.blt k 10 then TX9 else TX10) else (bif Nat.blt k 12 then TX11 else TX12)))) else TX0
set_option maxRecDepth 100000 in
noncomputable def mi_cy (k : Nat) : Nat → FieldType := bif Nat.blt k 13 then (bif Nat.blt k 6 then (bif Nat.blt k 3 then (bif Nat.blt k 1 then tyX0 else (bif Nat.blt k 2 then tyX1 else tyX2)) else (bif Nat.blt k 4 then tyX3 else (bif Nat.blt k 5 then tyX4 else tyX5))) else (bif Nat.blt k 9 then (bif Nat.blt k 7 then tyX6 else (bif Nat.blt k 8 then tyX7 else tyX8)) else (bif Nat.blt k 11 then (bif Nat.blt k 10 then tyX9 else tyX10) else (bif Nat.blt k 12 then tyX11 else tyX12)))) else tyX0
set_option maxRecDepth 100000 in
noncomputable def mi_f1 (k : Nat) : Nat → Bool := bif Nat.blt k 13 then (bif Nat.blt k 6 then (bif Nat.blt k 3 then (bif Nat.blt k 1 then (fun j => (bif Nat.blt j 1 then false else true)) else (bif Nat.blt k 2 then (fun j => (bif Nat.blt j 3 then (bif Nat.blt j 1 then false else true) else true)) else (fun j => true))) else (bif Nat.blt k 4 then (fun j => true) else (bif Nat.blt k 5 then (fun j => (bif Nat.blt j 3 then true else (bif Nat.blt j 4 then true else (bif Nat.blt j 5 then true else false)))) else (fun j => (bif Nat.blt j 1 then false else (bif Nat.blt j 2 then false else true)))))) else (bif Nat.blt k 9 then (bif Nat.blt k 7 then (fun j => (bif Nat.blt j 3 then true else (bif Nat.blt j 5 then true else (bif Nat.blt j 6 then true else false)))) else (bif Nat.blt k 8 then (fun j => (bif Nat.blt j 3 then (bif Nat.blt j 1 then true else (bif Nat.blt j 2 then true else false)) else false)) else (fun j => true))) else (bif Nat.blt k 11 then (bif Nat.blt k 10 then (fun j => (bif Nat.blt j 2 then false else true)) else (fun j => (bif Nat.blt j 1 then false else true))) else (bif Nat.blt k 12 then (fun j => (bif Nat.blt j 6 then true else (bif Nat.blt j 9 then true else (bif Nat.blt j 10 then true else (bif Nat.blt j 11 then true else false))))) else (fun j => (bif Nat.blt j 13 then (bif Nat.blt j 6 then (bif Nat.blt j 3 then (bif Nat.blt j 1 then false else true) else (bif Nat.blt j 4 then false else (bif Nat.blt j 5 then true else false))) else (bif Nat.blt j 9 then (bif Nat.blt j 7 then true else false) else false)) else (bif Nat.blt j 20 then (bif Nat.blt j 16 then (bif Nat.blt j 14 then true else (bif Nat.blt j 15 then false else true)) else true) else (bif Nat.blt j 23 then true else (bif Nat.blt j 25 then true else (bif Nat.blt j 26 then true else false)))))))))) else (fun _ => false)
noncomputable def mi_fr (c j : Nat) : Bool := mi_f1 c j
def mi_sn : List String := ["DIAL_LOWEST", "DIAL_HIGHEST", "DIAL_FIRST", "WAY_X", "WAY_Y", "STANDS_AFTER"]
def mi_sv : List (List Int) := [[1, 1, 0, 0, 1, 0, 1, 1], [7, 2, 60, 60, 255, 3, 50, 999], [3, 1, 2, 6, 255, 1, 1, 100], [1, -1, 0, 0, 1, -1, 1, -1], [0, 0, 1, -1, 1, -1, -1, 1], [1, 0, 1, 1, 1, 3, 3, 5]]
def mi_ss : List String := ["size", ";", "most", "window", "penalty", "paths", "slack", "left", "right"]
def mi_sc : List (List Int) := [[115, 105, 122, 101], [59], [109, 111, 115, 116], [119, 105, 110, 100, 111, 119], [112, 101, 110, 97, 108, 116, 121], [112, 97, 116, 104, 115], [115, 108, 97, 99, 107], [108, 101, 102, 116], [114, 105, 103, 104, 116]]
end
section
/-! PRINTED by wip/whole/gen/mk05.py: links, and that the tables hold them -/
theorem mi_in {α : Type} (L : List α) (f : α → Cond) (ps : List Nat) (h : L.map f = ps.filterMap (fun i => lw_tbl[i]?)) : ∀ e ∈ L, f e ∈ lw_tbl := by
  intro e he
  have h1 : f e ∈ L.map f := List.mem_map.mpr ⟨e, he, rfl⟩
  rw [h] at h1
  obtain ⟨i, -, hi⟩ := List.mem_filterMap.mp h1
  exact List.mem_of_getElem? hi
noncomputable abbrev mi_wFL (e : Nat × Nat × Nat) : Cond := .fieldLink (mi_rs e.1) e.2.1 (mi_rs (e.2.2 / 64)) (mi_ct (e.2.2 / 64) (e.2.2 % 64)).2.1 (mi_ct (e.2.2 / 64) (e.2.2 % 64)).2.2.1
def mi_FL_0 : List (Nat × Nat × Nat) := [(0, 10, 1), (0, 19, 2), (1, 9, 65), (1, 15, 66), (1, 18, 67), (1, 21, 68), (1, 24, 69), (1, 27, 70), (1, 30, 64), (2, 9, 128), (2, 15, 129), (2, 19, 130), (2, 23, 577), (2, 29, 576), (2, 36, 193), (2, 41, 192), (2, 52, 578), (3, 9, 195), (3, 15, 196), (3, 19, 192), (3, 23, 193), (3, 26, 194), (3, 29, 197), (3, 32, 577), (3, 38, 576), (3, 55, 578), (3, 58, 258), (3, 110, 579), (3, 116, 257), (4, 9, 260), (4, 15, 256), (4, 19, 257), (4, 22, 258), (4, 25, 259), (4, 28, 261), (4, 32, 577), (4, 37, 576), (4, 47, 578), (4, 50, 579), (5, 11, 322)]
set_option maxRecDepth 100000 in
theorem mi_FL_0_ok : ∀ e ∈ mi_FL_0, (mi_wFL) e ∈ lw_tbl := mi_in _ (mi_wFL) [289, 291, 187, 189, 191, 193, 195, 197, 185, 418, 419, 420, 152, 145, 343, 339, 161, 348, 349, 338, 342, 346, 350, 151, 144, 160, 313, 168, 311, 317, 306, 308, 312, 315, 318, 150, 143, 158, 165, 269] (by decide +kernel)
def mi_FL_1 : List (Nat × Nat × Nat) := [(5, 18, 321), (5, 26, 320), (6, 9, 384), (6, 15, 385), (6, 19, 386), (6, 23, 387), (6, 26, 388), (6, 29, 389), (6, 32, 577), (6, 38, 576), (6, 45, 193), (6, 58, 390), (6, 68, 192), (6, 93, 578), (7, 9, 449), (7, 18, 448), (7, 22, 450), (7, 26, 452), (7, 29, 453), (7, 42, 451), (7, 52, 578), (7, 110, 577), (7, 113, 576), (7, 125, 579), (8, 9, 513), (8, 15, 514), (8, 19, 512), (8, 23, 515), (8, 26, 578), (8, 31, 576), (8, 43, 257), (9, 9, 576), (9, 15, 577), (9, 18, 578), (9, 31, 579), (10, 9, 641), (10, 15, 640), (11, 12, 704), (11, 19, 705), (11, 26, 706)]
set_option maxRecDepth 100000 in
theorem mi_FL_1_ok : ∀ e ∈ mi_FL_1, (mi_wFL) e ∈ lw_tbl := mi_in _ (mi_wFL) [268, 266, 370, 371, 372, 373, 374, 375, 153, 146, 344, 376, 340, 163, 239, 237, 240, 242, 243, 241, 159, 154, 147, 167, 400, 401, 398, 402, 157, 142, 309, 141, 149, 156, 164, 222, 220, 428, 429, 430] (by decide +kernel)
def mi_FL_2 : List (Nat × Nat × Nat) := [(11, 35, 707), (11, 42, 708), (11, 48, 709), (11, 58, 710), (11, 67, 711), (11, 76, 712), (11, 83, 713), (11, 90, 714), (11, 94, 715), (11, 106, 640), (11, 116, 448), (11, 134, 579), (11, 145, 578), (11, 154, 64), (11, 157, 65), (11, 160, 66), (11, 163, 67), (11, 166, 68), (11, 169, 69), (11, 172, 70), (11, 175, 577), (11, 177, 576), (11, 196, 256), (11, 210, 257), (11, 219, 259), (11, 221, 258), (11, 224, 192), (11, 230, 193), (11, 267, 194), (11, 273, 512), (11, 284, 320), (11, 291, 1), (11, 292, 2), (11, 296, 0), (12, 1, 768), (12, 13, 769), (12, 17, 770), (12, 20, 772), (12, 23, 774), (12, 27, 781)]
set_option maxRecDepth 100000 in
theorem mi_FL_2_ok : ∀ e ∈ mi_FL_2, (mi_wFL) e ∈ lw_tbl := mi_in _ (mi_wFL) [431, 432, 433, 434, 435, 436, 437, 438, 439, 221, 238, 166, 162, 186, 188, 190, 192, 194, 196, 198, 155, 148, 307, 310, 316, 314, 341, 345, 347, 399, 267, 290, 292, 288, 1213, 1214, 1215, 1217, 1219, 1226] (by decide +kernel)
def mi_FL_3 : List (Nat × Nat × Nat) := [(12, 30, 783), (12, 33, 784), (12, 36, 785), (12, 39, 786), (12, 42, 787), (12, 45, 788), (12, 48, 789), (12, 51, 790), (12, 54, 791), (12, 57, 792), (12, 60, 793), (12, 70, 771), (12, 85, 775), (12, 92, 776), (12, 95, 778), (12, 102, 777), (12, 105, 779), (12, 112, 780), (12, 122, 782), (12, 160, 773), (12, 309, 794)]
set_option maxRecDepth 100000 in
theorem mi_FL_3_ok : ∀ e ∈ mi_FL_3, (mi_wFL) e ∈ lw_tbl := mi_in _ (mi_wFL) [1228, 1229, 1230, 1231, 1232, 1233, 1234, 1235, 1236, 1237, 1238, 1216, 1220, 1221, 1223, 1222, 1224, 1225, 1227, 1218, 1239] (by decide +kernel)
def mi_FL : List (Nat × Nat × Nat) := mi_FL_0 ++ mi_FL_1 ++ mi_FL_2 ++ mi_FL_3
theorem mi_FL_ok : ∀ e ∈ mi_FL, (mi_wFL) e ∈ lw_tbl := fun e h => (List.mem_append.mp h).elim (fun h => (List.mem_append.mp h).elim (fun h => (List.mem_append.mp h).elim (fun h => mi_FL_0_ok e h) (fun h => mi_FL_1_ok e h)) (fun h => mi_FL_2_ok e h)) (fun h => mi_FL_3_ok e h)
noncomputable abbrev mi_wSL (e : Nat × Nat × Nat × Nat) : Cond := bif Nat.beq e.2.2.2 1 then .fieldLinkNest (mi_rs e.1) e.2.1 "TwoViews" (mi_sn.getD (e.2.2.1 - 1000) "") "[I" "TwoViews" else .fieldLink (mi_rs e.1) e.2.1 "TwoViews" (mi_sn.getD (e.2.2.1 - 1000) "") "[I"
def mi_SL_0 : List (Nat × Nat × Nat × Nat) := [(3, 101, 1003, 1), (3, 104, 1004, 1), (4, 84, 1003, 1), (4, 87, 1004, 1), (6, 71, 1003, 1), (6, 74, 1004, 1), (7, 48, 1002, 1), (7, 104, 1000, 1), (7, 107, 1001, 1), (9, 22, 1002, 1), (9, 46, 1000, 1), (9, 49, 1001, 1), (11, 142, 1005, 0)]
set_option maxRecDepth 100000 in
theorem mi_SL_0_ok : ∀ e ∈ mi_SL_0, (mi_wSL) e ∈ lw_tbl := mi_in _ (mi_wSL) [863, 864, 766, 768, 831, 832, 490, 592, 594, 136, 672, 673, 674] (by decide +kernel)
def mi_SL : List (Nat × Nat × Nat × Nat) := mi_SL_0
theorem mi_SL_ok : ∀ e ∈ mi_SL, (mi_wSL) e ∈ lw_tbl := fun e h => mi_SL_0_ok e h
noncomputable abbrev mi_wML (e : Nat × Nat × Nat × Nat) : Cond := bif Nat.beq e.2.2.1 1 then .methodLinkNest (mi_rs e.1) e.2.1 (mi_nm e.2.2.2) "TwoViews" else .methodLink (mi_rs e.1) e.2.1 (mi_nm e.2.2.2)
def mi_ML_0 : List (Nat × Nat × Nat × Nat) := [(0, 9, 3, 83), (0, 18, 3, 1), (1, 40, 2, 3), (1, 46, 2, 4), (2, 32, 1, 136), (2, 44, 2, 88), (2, 48, 2, 8), (2, 55, 2, 9), (3, 41, 1, 136), (3, 45, 2, 13), (3, 49, 2, 14), (3, 52, 1, 137), (3, 63, 0, 258), (3, 69, 0, 259), (3, 72, 2, 18), (3, 75, 2, 19), (3, 79, 2, 86), (3, 83, 2, 22), (3, 86, 2, 23), (3, 89, 2, 24), (3, 92, 2, 25), (3, 95, 0, 260), (3, 98, 0, 261), (3, 107, 2, 27), (3, 113, 0, 28), (3, 119, 2, 91), (4, 40, 1, 136), (4, 44, 2, 32), (4, 53, 0, 33), (4, 57, 1, 137), (4, 60, 2, 35), (4, 63, 2, 90), (4, 67, 0, 257), (4, 73, 2, 38), (4, 77, 2, 42), (4, 81, 2, 41), (4, 90, 2, 86), (4, 94, 2, 44), (4, 98, 2, 43), (4, 101, 0, 261)]
set_option maxRecDepth 100000 in
theorem mi_ML_0_ok : ∀ e ∈ mi_ML_0, (mi_wML) e ∈ lw_tbl := mi_in _ (mi_wML) [285, 287, 697, 715, 958, 963, 954, 959, 788, 789, 794, 793, 811, 1178, 802, 806, 810, 851, 855, 869, 859, 865, 868, 978, 982, 1019, 729, 730, 734, 741, 744, 748, 752, 877, 762, 780, 770, 771, 776, 775] (by decide +kernel)
def mi_ML_1 : List (Nat × Nat × Nat × Nat) := [(5, 17, 3, 83), (5, 22, 2, 84), (5, 29, 0, 261), (6, 41, 1, 136), (6, 50, 2, 50), (6, 54, 2, 54), (6, 61, 2, 51), (6, 65, 2, 52), (6, 77, 2, 86), (6, 81, 2, 53), (6, 84, 0, 258), (6, 90, 2, 55), (6, 96, 2, 59), (6, 100, 2, 60), (6, 103, 0, 261), (6, 106, 0, 260), (7, 17, 3, 83), (7, 32, 2, 64), (7, 36, 2, 65), (7, 39, 2, 72), (7, 45, 2, 66), (7, 63, 2, 73), (7, 67, 2, 74), (7, 71, 2, 70), (7, 75, 2, 85), (7, 82, 2, 67), (7, 90, 2, 68), (7, 99, 2, 69), (7, 116, 2, 95), (7, 122, 0, 78), (7, 128, 1, 136), (7, 132, 2, 71), (7, 136, 0, 76), (7, 140, 0, 75), (7, 143, 0, 77), (8, 35, 2, 81), (8, 39, 2, 82), (8, 48, 1, 137), (8, 51, 2, 91), (9, 34, 1, 135)]
set_option maxRecDepth 100000 in
theorem mi_ML_1_ok : ∀ e ∈ mi_ML_1, (mi_wML) e ∈ lw_tbl := mi_in _ (mi_wML) [265, 624, 628, 818, 819, 839, 823, 827, 833, 834, 838, 843, 927, 931, 944, 945, 236, 486, 492, 496, 582, 511, 563, 567, 578, 588, 598, 605, 500, 609, 612, 571, 575, 504, 507, 997, 1001, 1010, 1005, 653] (by decide +kernel)
def mi_ML_2 : List (Nat × Nat × Nat × Nat) := [(9, 38, 2, 86), (9, 42, 1, 134), (9, 52, 0, 258), (10, 19, 2, 93), (11, 11, 3, 83), (11, 18, 3, 1), (11, 25, 3, 92), (11, 32, 3, 62), (11, 41, 3, 45), (11, 52, 3, 0), (11, 55, 3, 30), (11, 64, 3, 11), (11, 73, 3, 48), (11, 82, 3, 79), (11, 89, 3, 7), (11, 98, 2, 93), (11, 102, 2, 94), (11, 109, 2, 63), (11, 113, 2, 139), (11, 119, 2, 84), (11, 122, 2, 85), (11, 126, 2, 87), (11, 130, 0, 136), (11, 138, 2, 89), (11, 148, 0, 134), (11, 151, 2, 88), (11, 179, 2, 4), (11, 182, 2, 5), (11, 186, 2, 6), (11, 189, 2, 138), (11, 193, 2, 141), (11, 199, 2, 36), (11, 203, 0, 135), (11, 206, 2, 37), (11, 213, 0, 137), (11, 216, 2, 42), (11, 227, 2, 15), (11, 233, 2, 20), (11, 236, 2, 56), (11, 239, 2, 57)]
set_option maxRecDepth 100000 in
theorem mi_ML_2_ok : ∀ e ∈ mi_ML_2, (mi_wML) e ∈ lw_tbl := mi_in _ (mi_wML) [656, 669, 1009, 477, 132, 181, 216, 231, 259, 280, 302, 334, 366, 394, 414, 469, 473, 482, 616, 639, 644, 649, 660, 665, 680, 681, 693, 701, 711, 1062, 721, 1145, 720, 873, 885, 890, 1163, 903, 911, 919] (by decide +kernel)
def mi_ML_3 : List (Nat × Nat × Nat × Nat) := [(11, 242, 2, 58), (11, 245, 2, 59), (11, 248, 2, 61), (11, 251, 2, 16), (11, 254, 2, 10), (11, 257, 2, 8), (11, 261, 2, 9), (11, 264, 2, 26), (11, 270, 2, 80), (11, 276, 2, 29), (11, 280, 2, 142), (11, 285, 2, 47), (11, 288, 2, 140), (11, 293, 2, 2), (11, 307, 2, 46), (11, 310, 2, 39), (11, 313, 2, 31), (11, 316, 2, 34), (11, 319, 2, 40), (11, 322, 2, 12), (11, 325, 2, 17), (11, 328, 2, 49), (11, 331, 2, 21), (11, 334, 0, 258), (12, 63, 2, 146), (12, 67, 2, 147), (12, 73, 0, 144), (12, 77, 2, 150), (12, 81, 0, 152), (12, 88, 2, 155), (12, 98, 2, 156), (12, 108, 0, 157), (12, 115, 2, 161), (12, 119, 2, 159), (12, 125, 2, 158), (12, 128, 2, 162), (12, 130, 0, 164), (12, 133, 2, 160), (12, 137, 2, 163), (12, 140, 2, 166)]
set_option maxRecDepth 100000 in
theorem mi_ML_3_ok : ∀ e ∈ mi_ML_3, (mi_wML) e ∈ lw_tbl := mi_in _ (mi_wML) [923, 939, 940, 1174, 950, 968, 969, 974, 993, 1015, 1024, 1033, 631, 1041, 620, 635, 725, 737, 758, 784, 798, 814, 847, 1028, 1205, 1209, 1311, 1379, 1360, 1303, 1318, 1322, 1337, 1341, 1314, 1333, 1357, 1325, 1329, 1349] (by decide +kernel)
def mi_ML_4 : List (Nat × Nat × Nat × Nat) := [(12, 143, 2, 165), (12, 145, 2, 167), (12, 148, 2, 148), (12, 151, 2, 151), (12, 154, 2, 153), (12, 157, 2, 171), (12, 163, 2, 175), (12, 167, 2, 176), (12, 172, 2, 177), (12, 175, 2, 179), (12, 178, 2, 180), (12, 181, 2, 183), (12, 184, 0, 185), (12, 187, 2, 184), (12, 190, 2, 186), (12, 193, 2, 189), (12, 196, 0, 191), (12, 199, 2, 193), (12, 202, 2, 192), (12, 206, 0, 197), (12, 209, 2, 198), (12, 213, 0, 195), (12, 216, 0, 196), (12, 219, 2, 199), (12, 222, 2, 200), (12, 225, 2, 201), (12, 228, 2, 204), (12, 231, 2, 205), (12, 234, 0, 207), (12, 237, 2, 206), (12, 240, 2, 208), (12, 243, 2, 212), (12, 246, 2, 210), (12, 250, 2, 211), (12, 253, 2, 213), (12, 256, 2, 209), (12, 259, 2, 214), (12, 262, 2, 220), (12, 265, 2, 222), (12, 268, 2, 223)]
set_option maxRecDepth 100000 in
theorem mi_ML_4_ok : ∀ e ∈ mi_ML_4, (mi_wML) e ∈ lw_tbl := mi_in _ (mi_wML) [1353, 1345, 1363, 1375, 1383, 1391, 1415, 1411, 1407, 1425, 1429, 1445, 1457, 1441, 1453, 1464, 1480, 1472, 1476, 1506, 1501, 1491, 1494, 1497, 1487, 1513, 1525, 1529, 1549, 1521, 1545, 1552, 1560, 1556, 1568, 1541, 1564, 1584, 1592, 1596] (by decide +kernel)
def mi_ML_5 : List (Nat × Nat × Nat × Nat) := [(12, 271, 2, 225), (12, 275, 2, 226), (12, 278, 2, 227), (12, 281, 2, 228), (12, 284, 0, 259), (12, 289, 2, 232), (12, 292, 2, 235), (12, 296, 2, 236), (12, 299, 2, 239), (12, 302, 2, 240), (12, 305, 2, 242), (13, 7, 2, 106), (13, 15, 2, 107), (13, 18, 2, 108), (13, 21, 2, 113), (13, 24, 2, 114), (13, 28, 2, 120), (13, 31, 2, 125), (13, 34, 2, 126), (13, 37, 3, 96), (13, 40, 3, 145), (13, 41, 2, 97), (13, 45, 2, 154), (13, 46, 2, 98), (13, 50, 2, 168), (13, 51, 2, 99), (13, 55, 2, 169), (13, 56, 2, 100), (13, 60, 2, 170), (13, 61, 2, 101), (13, 64, 2, 172), (13, 65, 2, 102), (13, 69, 2, 173), (13, 70, 2, 103), (13, 74, 2, 174), (13, 75, 2, 104), (13, 78, 2, 178), (13, 79, 2, 105), (13, 82, 2, 181), (13, 83, 4, 248)]
set_option maxRecDepth 100000 in
theorem mi_ML_5_ok : ∀ e ∈ mi_ML_5, (mi_wML) e ∈ lw_tbl := mi_in _ (mi_wML) [1612, 1608, 1616, 1604, 1628, 1633, 1649, 1645, 1665, 1661, 1673, 1058, 1134, 1141, 1152, 1159, 1170, 1184, 1191, 124, 1201, 465, 1299, 478, 1307, 640, 1367, 645, 1371, 661, 1387, 676, 1395, 685, 1399, 689, 1403, 707, 1421, 1054] (by decide +kernel)
def mi_ML_6 : List (Nat × Nat × Nat × Nat) := [(13, 88, 2, 182), (13, 89, 2, 143), (13, 92, 4, 249), (13, 94, 2, 187), (13, 95, 4, 250), (13, 97, 2, 188), (13, 98, 2, 109), (13, 101, 2, 190), (13, 102, 2, 110), (13, 105, 2, 194), (13, 106, 2, 111), (13, 109, 2, 202), (13, 110, 2, 112), (13, 113, 2, 203), (13, 114, 4, 251), (13, 116, 2, 215), (13, 117, 4, 252), (13, 120, 2, 216), (13, 121, 2, 115), (13, 124, 2, 217), (13, 125, 2, 116), (13, 128, 2, 218), (13, 129, 2, 117), (13, 132, 2, 219), (13, 133, 2, 118), (13, 136, 2, 221), (13, 137, 2, 119), (13, 140, 2, 224), (13, 141, 4, 253), (13, 143, 2, 231), (13, 144, 2, 121), (13, 147, 2, 234), (13, 148, 2, 122), (13, 151, 2, 233), (13, 152, 2, 123), (13, 155, 2, 237), (13, 156, 2, 124), (13, 159, 2, 238), (13, 160, 4, 254), (13, 162, 2, 229)]
set_option maxRecDepth 100000 in
theorem mi_ML_6_ok : ∀ e ∈ mi_ML_6, (mi_wML) e ∈ lw_tbl := mi_in _ (mi_wML) [1433, 1195, 1131, 1437, 1138, 1449, 716, 1460, 881, 1468, 886, 1483, 891, 1509, 1149, 1517, 1156, 1533, 895, 1537, 899, 1572, 907, 1576, 915, 1580, 935, 1588, 1167, 1624, 946, 1637, 964, 1629, 970, 1641, 985, 1653, 1181, 1600] (by decide +kernel)
def mi_ML_7 : List (Nat × Nat × Nat × Nat) := [(13, 163, 4, 255), (13, 165, 2, 230), (13, 166, 2, 127), (13, 169, 2, 241), (13, 170, 2, 128), (13, 173, 2, 243), (13, 174, 2, 129), (13, 177, 2, 244), (13, 178, 2, 130), (13, 181, 2, 149), (13, 182, 2, 131), (13, 186, 2, 245), (13, 187, 2, 132), (13, 190, 2, 246), (13, 191, 2, 133), (13, 194, 2, 247)]
set_option maxRecDepth 100000 in
theorem mi_ML_7_ok : ∀ e ∈ mi_ML_7, (mi_wML) e ∈ lw_tbl := mi_in _ (mi_wML) [1188, 1620, 989, 1657, 1011, 1669, 1020, 1677, 1029, 1295, 1037, 1681, 1046, 1685, 1050, 1689] (by decide +kernel)
def mi_ML : List (Nat × Nat × Nat × Nat) := mi_ML_0 ++ mi_ML_1 ++ mi_ML_2 ++ mi_ML_3 ++ mi_ML_4 ++ mi_ML_5 ++ mi_ML_6 ++ mi_ML_7
theorem mi_ML_ok : ∀ e ∈ mi_ML, (mi_wML) e ∈ lw_tbl := fun e h => (List.mem_append.mp h).elim (fun h => (List.mem_append.mp h).elim (fun h => (List.mem_append.mp h).elim (fun h => (List.mem_append.mp h).elim (fun h => (List.mem_append.mp h).elim (fun h => (List.mem_append.mp h).elim (fun h => (List.mem_append.mp h).elim (fun h => mi_ML_0_ok e h) (fun h => mi_ML_1_ok e h)) (fun h => mi_ML_2_ok e h)) (fun h => mi_ML_3_ok e h)) (fun h => mi_ML_4_ok e h)) (fun h => mi_ML_5_ok e h)) (fun h => mi_ML_6_ok e h)) (fun h => mi_ML_7_ok e h)
noncomputable abbrev mi_wOL (e : Nat × Nat) : Cond := .methodLink (mi_rs e.1) e.2 objectInit
def mi_OL_0 : List (Nat × Nat) := [(0, 1), (1, 3), (2, 3), (3, 3), (4, 3), (5, 3), (6, 3), (7, 3), (8, 3), (9, 3), (10, 3), (11, 3), (12, 7)]
set_option maxRecDepth 100000 in
theorem mi_OL_0_ok : ∀ e ∈ mi_OL_0, (mi_wOL) e ∈ lw_tbl := mi_in _ (mi_wOL) [283, 184, 417, 337, 305, 262, 369, 234, 397, 135, 219, 127, 1204] (by decide +kernel)
def mi_OL : List (Nat × Nat) := mi_OL_0
theorem mi_OL_ok : ∀ e ∈ mi_OL, (mi_wOL) e ∈ lw_tbl := fun e h => mi_OL_0_ok e h
noncomputable abbrev mi_wCP (e : Nat × Nat) : Cond := .methodLink (mi_rs e.1) e.2 arraycopyName
def mi_CP_0 : List (Nat × Nat) := [(1, 34), (7, 55), (9, 25)]
set_option maxRecDepth 100000 in
theorem mi_CP_0_ok : ∀ e ∈ mi_CP_0, (mi_wCP) e ∈ lw_tbl := mi_in _ (mi_wCP) [1045, 491, 138] (by decide +kernel)
def mi_CP : List (Nat × Nat) := mi_CP_0
theorem mi_CP_ok : ∀ e ∈ mi_CP, (mi_wCP) e ∈ lw_tbl := fun e h => mi_CP_0_ok e h
noncomputable abbrev mi_wPL (e : Nat × Nat × Nat) : Cond := .methodLink (mi_rs e.1) e.2.1 (bif Nat.beq e.2.2 9997 then yJ0_length_8abf5 else yJ0_charAt_5068e)
def mi_PL_0 : List (Nat × Nat × Nat) := [(7, 146, 9997), (7, 151, 9996)]
set_option maxRecDepth 100000 in
theorem mi_PL_0_ok : ∀ e ∈ mi_PL_0, (mi_wPL) e ∈ lw_tbl := mi_in _ (mi_wPL) [515, 525] (by decide +kernel)
def mi_PL : List (Nat × Nat × Nat) := mi_PL_0
theorem mi_PL_ok : ∀ e ∈ mi_PL, (mi_wPL) e ∈ lw_tbl := fun e h => mi_PL_0_ok e h
noncomputable abbrev mi_wNL (e : Nat × Nat × Nat) : Cond := .classLink (mi_rs e.1) e.2.1 (mi_rs (e.2.2 / 64))
def mi_NL_0 : List (Nat × Nat × Nat) := [(0, 7, 580), (0, 16, 71), (5, 9, 580), (7, 15, 580), (11, 9, 580), (11, 16, 71), (11, 23, 642), (11, 30, 454), (11, 39, 323), (11, 46, 3), (11, 53, 262), (11, 62, 198), (11, 71, 391), (11, 80, 516), (11, 87, 131), (13, 8, 716), (13, 38, 795)]
set_option maxRecDepth 100000 in
theorem mi_NL_0_ok : ∀ e ∈ mi_NL_0, (mi_wNL) e ∈ lw_tbl := mi_in _ (mi_wNL) [284, 286, 263, 235, 130, 179, 214, 229, 257, 277, 300, 332, 364, 392, 412, 122, 1199] (by decide +kernel)
def mi_NL : List (Nat × Nat × Nat) := mi_NL_0
theorem mi_NL_ok : ∀ e ∈ mi_NL, (mi_wNL) e ∈ lw_tbl := fun e h => mi_NL_0_ok e h
noncomputable abbrev mi_wAL (e : Nat × Nat × Nat) : Cond := .classLink (mi_rs e.1) e.2.1 (bif Nat.beq e.2.2 3 then RX9 else RX0)
def mi_AL_0 : List (Nat × Nat × Nat) := [(5, 9, 3), (11, 46, 4)]
set_option maxRecDepth 100000 in
theorem mi_AL_0_ok : ∀ e ∈ mi_AL_0, (mi_wAL) e ∈ lw_tbl := mi_in _ (mi_wAL) [263, 277] (by decide +kernel)
def mi_AL : List (Nat × Nat × Nat) := mi_AL_0
theorem mi_AL_ok : ∀ e ∈ mi_AL, (mi_wAL) e ∈ lw_tbl := fun e h => mi_AL_0_ok e h
noncomputable abbrev mi_wKL (e : Nat × Nat × Nat) : Cond := .constant (mi_rs e.1) e.2.1 (Int32.ofNat e.2.2)
def mi_KL_0 : List (Nat × Nat × Nat) := [(1, 44, 104729), (1, 45, 1103515245), (12, 170, 104729), (12, 171, 1103515245), (12, 205, 100000000), (14, 265, 1431655765), (14, 266, 858993459), (14, 267, 252645135)]
set_option maxRecDepth 100000 in
theorem mi_KL_0_ok : ∀ e ∈ mi_KL_0, (mi_wKL) e ∈ lw_tbl := mi_in _ (mi_wKL) [705, 706, 1419, 1420, 1505, 755, 756, 757] (by decide +kernel)
def mi_KL : List (Nat × Nat × Nat) := mi_KL_0
theorem mi_KL_ok : ∀ e ∈ mi_KL, (mi_wKL) e ∈ lw_tbl := fun e h => mi_KL_0_ok e h
noncomputable abbrev mi_wTL (e : Nat × Nat × Nat) : Cond := .stringRef (mi_rs e.1) e.2.1 (mi_ss.getD (e.2.2 - 1020) "")
def mi_TL_0 : List (Nat × Nat × Nat) := [(7, 61, 1020), (7, 78, 1021), (7, 80, 1022), (7, 86, 1023), (7, 88, 1024), (7, 93, 1025), (7, 95, 1026), (7, 97, 1027), (7, 102, 1028)]
set_option maxRecDepth 100000 in
theorem mi_TL_0_ok : ∀ e ∈ mi_TL_0, (mi_wTL) e ∈ lw_tbl := mi_in _ (mi_wTL) [510, 586, 587, 596, 597, 602, 603, 604, 615] (by decide +kernel)
def mi_TL : List (Nat × Nat × Nat) := mi_TL_0
theorem mi_TL_ok : ∀ e ∈ mi_TL, (mi_wTL) e ∈ lw_tbl := fun e h => mi_TL_0_ok e h
def mi_WS_0 : List (Nat × Unit) := [(28, ()), (33, ()), (75, ()), (76, ()), (77, ()), (78, ()), (134, ()), (135, ()), (136, ()), (137, ()), (144, ()), (152, ()), (157, ()), (164, ()), (185, ()), (191, ()), (195, ()), (196, ()), (197, ()), (207, ()), (248, ()), (249, ()), (250, ()), (251, ()), (252, ()), (253, ()), (254, ()), (255, ()), (257, ()), (258, ()), (259, ()), (260, ()), (261, ())]
set_option maxRecDepth 100000 in
theorem mi_WS_0_ok : ∀ e ∈ mi_WS_0, (fun (e : Nat × Unit) => Cond.static (mi_nm e.1)) e ∈ lw_tbl := mi_in _ (fun (e : Nat × Unit) => Cond.static (mi_nm e.1)) [983, 735, 505, 576, 508, 610, 670, 654, 613, 742, 1312, 1361, 1323, 1358, 1458, 1481, 1492, 1495, 1507, 1550, 1055, 1132, 1139, 1150, 1157, 1168, 1182, 1189, 753, 812, 1179, 866, 629] (by decide +kernel)
def mi_WS : List (Nat × Unit) := mi_WS_0
theorem mi_WS_ok : ∀ e ∈ mi_WS, (fun (e : Nat × Unit) => Cond.static (mi_nm e.1)) e ∈ lw_tbl := fun e h => mi_WS_0_ok e h
def mi_WI_0 : List (Nat × Unit) := [(0, ()), (1, ()), (2, ()), (3, ()), (4, ()), (5, ()), (6, ()), (7, ()), (8, ()), (9, ()), (10, ()), (11, ()), (12, ()), (13, ()), (14, ()), (15, ()), (16, ()), (17, ()), (18, ()), (19, ()), (20, ()), (21, ()), (22, ()), (23, ()), (24, ()), (25, ()), (26, ()), (27, ()), (29, ()), (30, ()), (31, ()), (32, ()), (34, ()), (35, ()), (36, ()), (37, ()), (38, ()), (39, ()), (40, ()), (41, ())]
set_option maxRecDepth 100000 in
theorem mi_WI_0_ok : ∀ e ∈ mi_WI_0, (fun (e : Nat × Unit) => Cond.instanceMethod (mi_nm e.1)) e ∈ lw_tbl := mi_in _ (fun (e : Nat × Unit) => Cond.instanceMethod (mi_nm e.1)) [281, 182, 1042, 698, 694, 702, 712, 415, 955, 960, 951, 335, 785, 791, 796, 1164, 1175, 799, 804, 808, 904, 848, 853, 857, 871, 861, 975, 980, 1016, 303, 726, 732, 738, 746, 1146, 874, 879, 636, 759, 782] (by decide +kernel)
def mi_WI_1 : List (Nat × Unit) := [(42, ()), (43, ()), (44, ()), (45, ()), (46, ()), (47, ()), (48, ()), (49, ()), (50, ()), (51, ()), (52, ()), (53, ()), (54, ()), (55, ()), (56, ()), (57, ()), (58, ()), (59, ()), (60, ()), (61, ()), (62, ()), (63, ()), (64, ()), (65, ()), (66, ()), (67, ()), (68, ()), (69, ()), (70, ()), (71, ()), (72, ()), (73, ()), (74, ()), (79, ()), (80, ()), (81, ()), (82, ()), (83, ()), (84, ()), (85, ())]
set_option maxRecDepth 100000 in
theorem mi_WI_1_ok : ∀ e ∈ mi_WI_1, (fun (e : Nat × Unit) => Cond.instanceMethod (mi_nm e.1)) e ∈ lw_tbl := mi_in _ (fun (e : Nat × Unit) => Cond.instanceMethod (mi_nm e.1)) [763, 778, 773, 260, 621, 1034, 367, 815, 821, 825, 829, 836, 841, 845, 912, 920, 924, 928, 933, 941, 232, 483, 488, 494, 584, 590, 600, 607, 569, 573, 498, 513, 565, 395, 994, 999, 1003, 133, 625, 579] (by decide +kernel)
def mi_WI_2 : List (Nat × Unit) := [(86, ()), (87, ()), (88, ()), (89, ()), (90, ()), (91, ()), (92, ()), (93, ()), (94, ()), (95, ()), (96, ()), (97, ()), (98, ()), (99, ()), (100, ()), (101, ()), (102, ()), (103, ()), (104, ()), (105, ()), (106, ()), (107, ()), (108, ()), (109, ()), (110, ()), (111, ()), (112, ()), (113, ()), (114, ()), (115, ()), (116, ()), (117, ()), (118, ()), (119, ()), (120, ()), (121, ()), (122, ()), (123, ()), (124, ()), (125, ())]
set_option maxRecDepth 100000 in
theorem mi_WI_2_ok : ∀ e ∈ mi_WI_2, (fun (e : Nat × Unit) => Cond.instanceMethod (mi_nm e.1)) e ∈ lw_tbl := mi_in _ (fun (e : Nat × Unit) => Cond.instanceMethod (mi_nm e.1)) [657, 650, 682, 666, 749, 1006, 217, 470, 474, 501, 125, 466, 479, 641, 646, 662, 677, 686, 690, 708, 1059, 1135, 1142, 717, 882, 887, 892, 1153, 1160, 896, 900, 908, 916, 936, 1171, 947, 965, 971, 986, 1185] (by decide +kernel)
def mi_WI_3 : List (Nat × Unit) := [(126, ()), (127, ()), (128, ()), (129, ()), (130, ()), (131, ()), (132, ()), (133, ()), (138, ()), (139, ()), (140, ()), (141, ()), (142, ()), (143, ()), (145, ()), (146, ()), (147, ()), (148, ()), (149, ()), (150, ()), (151, ()), (153, ()), (154, ()), (155, ()), (156, ()), (158, ()), (159, ()), (160, ()), (161, ()), (162, ()), (163, ()), (165, ()), (166, ()), (167, ()), (168, ()), (169, ()), (170, ()), (171, ()), (172, ()), (173, ())]
set_option maxRecDepth 100000 in
theorem mi_WI_3_ok : ∀ e ∈ mi_WI_3, (fun (e : Nat × Unit) => Cond.instanceMethod (mi_nm e.1)) e ∈ lw_tbl := mi_in _ (fun (e : Nat × Unit) => Cond.instanceMethod (mi_nm e.1)) [1192, 990, 1012, 1021, 1030, 1038, 1047, 1051, 1064, 618, 633, 723, 1026, 1196, 1202, 1207, 1211, 1365, 1296, 1381, 1377, 1385, 1300, 1305, 1320, 1316, 1343, 1327, 1339, 1335, 1331, 1355, 1351, 1347, 1308, 1368, 1372, 1393, 1388, 1396] (by decide +kernel)
def mi_WI_4 : List (Nat × Unit) := [(174, ()), (175, ()), (176, ()), (177, ()), (178, ()), (179, ()), (180, ()), (181, ()), (182, ()), (183, ()), (184, ()), (186, ()), (187, ()), (188, ()), (189, ()), (190, ()), (192, ()), (193, ()), (194, ()), (198, ()), (199, ()), (200, ()), (201, ()), (202, ()), (203, ()), (204, ()), (205, ()), (206, ()), (208, ()), (209, ()), (210, ()), (211, ()), (212, ()), (213, ()), (214, ()), (215, ()), (216, ()), (217, ()), (218, ()), (219, ())]
set_option maxRecDepth 100000 in
theorem mi_WI_4_ok : ∀ e ∈ mi_WI_4, (fun (e : Nat × Unit) => Cond.instanceMethod (mi_nm e.1)) e ∈ lw_tbl := mi_in _ (fun (e : Nat × Unit) => Cond.instanceMethod (mi_nm e.1)) [1400, 1417, 1413, 1409, 1404, 1427, 1431, 1422, 1434, 1447, 1443, 1455, 1438, 1450, 1466, 1461, 1478, 1474, 1469, 1503, 1499, 1489, 1515, 1484, 1510, 1527, 1531, 1523, 1547, 1543, 1562, 1558, 1554, 1570, 1566, 1518, 1534, 1538, 1573, 1577] (by decide +kernel)
def mi_WI_5 : List (Nat × Unit) := [(220, ()), (221, ()), (222, ()), (223, ()), (224, ()), (225, ()), (226, ()), (227, ()), (228, ()), (229, ()), (230, ()), (231, ()), (232, ()), (233, ()), (234, ()), (235, ()), (236, ()), (237, ()), (238, ()), (239, ()), (240, ()), (241, ()), (242, ()), (243, ()), (244, ()), (245, ()), (246, ()), (247, ())]
set_option maxRecDepth 100000 in
theorem mi_WI_5_ok : ∀ e ∈ mi_WI_5, (fun (e : Nat × Unit) => Cond.instanceMethod (mi_nm e.1)) e ∈ lw_tbl := mi_in _ (fun (e : Nat × Unit) => Cond.instanceMethod (mi_nm e.1)) [1586, 1581, 1594, 1598, 1589, 1614, 1610, 1618, 1606, 1601, 1621, 1625, 1635, 1630, 1638, 1651, 1647, 1642, 1654, 1667, 1663, 1658, 1675, 1670, 1678, 1682, 1686, 1690] (by decide +kernel)
def mi_WI : List (Nat × Unit) := mi_WI_0 ++ mi_WI_1 ++ mi_WI_2 ++ mi_WI_3 ++ mi_WI_4 ++ mi_WI_5
theorem mi_WI_ok : ∀ e ∈ mi_WI, (fun (e : Nat × Unit) => Cond.instanceMethod (mi_nm e.1)) e ∈ lw_tbl := fun e h => (List.mem_append.mp h).elim (fun h => (List.mem_append.mp h).elim (fun h => (List.mem_append.mp h).elim (fun h => (List.mem_append.mp h).elim (fun h => (List.mem_append.mp h).elim (fun h => mi_WI_0_ok e h) (fun h => mi_WI_1_ok e h)) (fun h => mi_WI_2_ok e h)) (fun h => mi_WI_3_ok e h)) (fun h => mi_WI_4_ok e h)) (fun h => mi_WI_5_ok e h)
def mi_WV_0 : List (Nat × Unit) := [(2, ()), (3, ()), (4, ()), (5, ()), (6, ()), (8, ()), (9, ()), (10, ()), (12, ()), (13, ()), (14, ()), (15, ()), (16, ()), (17, ()), (18, ()), (19, ()), (20, ()), (21, ()), (22, ()), (23, ()), (24, ()), (25, ()), (26, ()), (27, ()), (29, ()), (31, ()), (32, ()), (34, ()), (35, ()), (36, ()), (37, ()), (38, ()), (39, ()), (40, ()), (41, ()), (42, ()), (43, ()), (44, ()), (46, ()), (47, ())]
set_option maxRecDepth 100000 in
theorem mi_WV_0_ok : ∀ e ∈ mi_WV_0, (fun (e : Nat × Unit) => Cond.selects (mi_rs (mi_on e.1)) (mi_nm e.1) (mi_nm e.1)) e ∈ lw_tbl := mi_in _ (fun (e : Nat × Unit) => Cond.selects (mi_rs (mi_on e.1)) (mi_nm e.1) (mi_nm e.1)) [1043, 699, 695, 703, 713, 956, 961, 952, 786, 19, 20, 1165, 1176, 800, 21, 22, 905, 849, 29, 30, 32, 31, 976, 35, 1017, 727, 14, 739, 15, 1147, 875, 33, 637, 760, 18, 764, 17, 16, 622, 1035] (by decide +kernel)
def mi_WV_1 : List (Nat × Unit) := [(49, ()), (50, ()), (51, ()), (52, ()), (53, ()), (54, ()), (55, ()), (56, ()), (57, ()), (58, ()), (59, ()), (60, ()), (61, ()), (63, ()), (64, ()), (65, ()), (66, ()), (67, ()), (68, ()), (69, ()), (70, ()), (71, ()), (72, ()), (73, ()), (74, ()), (80, ()), (81, ()), (82, ()), (84, ()), (85, ()), (86, ()), (87, ()), (88, ()), (89, ()), (90, ()), (91, ()), (93, ()), (94, ()), (95, ()), (97, ())]
set_option maxRecDepth 100000 in
theorem mi_WV_1_ok : ∀ e ∈ mi_WV_1, (fun (e : Nat × Unit) => Cond.selects (mi_rs (mi_on e.1)) (mi_nm e.1) (mi_nm e.1)) e ∈ lw_tbl := mi_in _ (fun (e : Nat × Unit) => Cond.selects (mi_rs (mi_on e.1)) (mi_nm e.1) (mi_nm e.1)) [816, 23, 24, 25, 26, 27, 28, 913, 921, 925, 929, 34, 942, 484, 0, 1, 7, 8, 9, 10, 5, 6, 2, 3, 4, 995, 36, 37, 626, 580, 658, 651, 683, 667, 750, 1007, 471, 475, 502, 467] (by decide +kernel)
def mi_WV_2 : List (Nat × Unit) := [(98, ()), (99, ()), (100, ()), (101, ()), (102, ()), (103, ()), (104, ()), (105, ()), (106, ()), (107, ()), (108, ()), (109, ()), (110, ()), (111, ()), (112, ()), (113, ()), (114, ()), (115, ()), (116, ()), (117, ()), (118, ()), (119, ()), (120, ()), (121, ()), (122, ()), (123, ()), (124, ()), (125, ()), (126, ()), (127, ()), (128, ()), (129, ()), (130, ()), (131, ()), (132, ()), (133, ()), (138, ()), (139, ()), (140, ()), (141, ())]
set_option maxRecDepth 100000 in
theorem mi_WV_2_ok : ∀ e ∈ mi_WV_2, (fun (e : Nat × Unit) => Cond.selects (mi_rs (mi_on e.1)) (mi_nm e.1) (mi_nm e.1)) e ∈ lw_tbl := mi_in _ (fun (e : Nat × Unit) => Cond.selects (mi_rs (mi_on e.1)) (mi_nm e.1) (mi_nm e.1)) [480, 642, 647, 663, 678, 687, 691, 709, 1060, 1136, 1143, 718, 883, 888, 893, 1154, 1161, 897, 901, 909, 917, 937, 1172, 948, 966, 972, 987, 1186, 1193, 991, 1013, 1022, 1031, 1039, 1048, 1052, 39, 11, 12, 13] (by decide +kernel)
def mi_WV_3 : List (Nat × Unit) := [(142, ()), (143, ()), (146, ()), (147, ()), (148, ()), (149, ()), (150, ()), (151, ()), (153, ()), (154, ()), (155, ()), (156, ()), (158, ()), (159, ()), (160, ()), (161, ()), (162, ()), (163, ()), (165, ()), (166, ()), (167, ()), (168, ()), (169, ()), (170, ()), (171, ()), (172, ()), (173, ()), (174, ()), (175, ()), (176, ()), (177, ()), (178, ()), (179, ()), (180, ()), (181, ()), (182, ()), (183, ()), (184, ()), (186, ()), (187, ())]
set_option maxRecDepth 100000 in
theorem mi_WV_3_ok : ∀ e ∈ mi_WV_3, (fun (e : Nat × Unit) => Cond.selects (mi_rs (mi_on e.1)) (mi_nm e.1) (mi_nm e.1)) e ∈ lw_tbl := mi_in _ (fun (e : Nat × Unit) => Cond.selects (mi_rs (mi_on e.1)) (mi_nm e.1) (mi_nm e.1)) [38, 1197, 41, 42, 54, 1297, 56, 55, 57, 1301, 43, 45, 44, 50, 46, 49, 48, 47, 53, 52, 51, 1309, 1369, 1373, 58, 1389, 1397, 1401, 61, 60, 59, 1405, 62, 63, 1423, 1435, 65, 64, 66, 1439] (by decide +kernel)
def mi_WV_4 : List (Nat × Unit) := [(188, ()), (189, ()), (190, ()), (192, ()), (193, ()), (194, ()), (198, ()), (199, ()), (200, ()), (201, ()), (202, ()), (203, ()), (204, ()), (205, ()), (206, ()), (208, ()), (209, ()), (210, ()), (211, ()), (212, ()), (213, ()), (214, ()), (215, ()), (216, ()), (217, ()), (218, ()), (219, ()), (220, ()), (221, ()), (222, ()), (223, ()), (224, ()), (225, ()), (226, ()), (227, ()), (228, ()), (229, ()), (230, ()), (231, ()), (232, ())]
set_option maxRecDepth 100000 in
theorem mi_WV_4_ok : ∀ e ∈ mi_WV_4, (fun (e : Nat × Unit) => Cond.selects (mi_rs (mi_on e.1)) (mi_nm e.1) (mi_nm e.1)) e ∈ lw_tbl := mi_in _ (fun (e : Nat × Unit) => Cond.selects (mi_rs (mi_on e.1)) (mi_nm e.1) (mi_nm e.1)) [1451, 67, 1462, 69, 68, 1470, 72, 71, 70, 73, 1485, 1511, 75, 76, 74, 78, 77, 81, 80, 79, 83, 82, 1519, 1535, 1539, 1574, 1578, 84, 1582, 85, 86, 1590, 89, 88, 90, 87, 1602, 1622, 1626, 91] (by decide +kernel)
def mi_WV_5 : List (Nat × Unit) := [(233, ()), (234, ()), (235, ()), (236, ()), (237, ()), (238, ()), (239, ()), (240, ()), (241, ()), (242, ()), (243, ()), (244, ()), (245, ()), (246, ()), (247, ())]
set_option maxRecDepth 100000 in
theorem mi_WV_5_ok : ∀ e ∈ mi_WV_5, (fun (e : Nat × Unit) => Cond.selects (mi_rs (mi_on e.1)) (mi_nm e.1) (mi_nm e.1)) e ∈ lw_tbl := mi_in _ (fun (e : Nat × Unit) => Cond.selects (mi_rs (mi_on e.1)) (mi_nm e.1) (mi_nm e.1)) [1631, 1639, 93, 92, 1643, 1655, 95, 94, 1659, 96, 1671, 1679, 1683, 1687, 1691] (by decide +kernel)
def mi_WV : List (Nat × Unit) := mi_WV_0 ++ mi_WV_1 ++ mi_WV_2 ++ mi_WV_3 ++ mi_WV_4 ++ mi_WV_5
theorem mi_WV_ok : ∀ e ∈ mi_WV, (fun (e : Nat × Unit) => Cond.selects (mi_rs (mi_on e.1)) (mi_nm e.1) (mi_nm e.1)) e ∈ lw_tbl := fun e h => (List.mem_append.mp h).elim (fun h => (List.mem_append.mp h).elim (fun h => (List.mem_append.mp h).elim (fun h => (List.mem_append.mp h).elim (fun h => (List.mem_append.mp h).elim (fun h => mi_WV_0_ok e h) (fun h => mi_WV_1_ok e h)) (fun h => mi_WV_2_ok e h)) (fun h => mi_WV_3_ok e h)) (fun h => mi_WV_4_ok e h)) (fun h => mi_WV_5_ok e h)
def mi_WC_0 : List (Nat × Unit) := [(0, ()), (1, ()), (2, ()), (3, ()), (4, ()), (5, ()), (6, ()), (7, ()), (8, ()), (9, ()), (10, ()), (11, ()), (12, ()), (13, ()), (14, ()), (15, ())]
set_option maxRecDepth 100000 in
theorem mi_WC_0_ok : ∀ e ∈ mi_WC_0, (fun (e : Nat × Unit) => Cond.initialized (mi_rs e.1)) e ∈ lw_tbl := mi_in _ (fun (e : Nat × Unit) => Cond.initialized (mi_rs e.1)) [105, 101, 110, 107, 106, 104, 108, 103, 109, 99, 102, 98, 111, 97, 121, 116] (by decide +kernel)
def mi_WC : List (Nat × Unit) := mi_WC_0
theorem mi_WC_ok : ∀ e ∈ mi_WC, (fun (e : Nat × Unit) => Cond.initialized (mi_rs e.1)) e ∈ lw_tbl := fun e h => mi_WC_0_ok e h
def mi_WN_0 : List (Nat × Unit) := [(0, ()), (1, ()), (2, ()), (3, ()), (4, ()), (5, ()), (6, ()), (7, ()), (8, ()), (9, ()), (10, ()), (11, ()), (12, ())]
set_option maxRecDepth 100000 in
theorem mi_WN_0_ok : ∀ e ∈ mi_WN_0, (fun (e : Nat × Unit) => Cond.instantiable (mi_rs e.1) (mi_cn e.1)) e ∈ lw_tbl := mi_in _ (fun (e : Nat × Unit) => Cond.instantiable (mi_rs e.1) (mi_cn e.1)) [279, 180, 413, 333, 301, 258, 365, 230, 393, 131, 215, 123, 1200] (by decide +kernel)
def mi_WN : List (Nat × Unit) := mi_WN_0
theorem mi_WN_ok : ∀ e ∈ mi_WN, (fun (e : Nat × Unit) => Cond.instantiable (mi_rs e.1) (mi_cn e.1)) e ∈ lw_tbl := fun e h => mi_WN_0_ok e h
end
section
/-! PRINTED by wip/whole/gen/mk05.py: the code words -/
noncomputable def mi_w (k : Nat) : Cond := match mi_hh k with
  | [] => .code (mi_nm k) (mi_cd k) (mi_hd k).2.1 (mi_rt k)
  | hh => .codeWith (mi_nm k) (mi_cd k) (mi_hd k).2.1 (mi_rt k) hh
def mi_WK_0 : List (Nat × Unit) := [(0, ()), (1, ()), (2, ()), (3, ()), (4, ()), (5, ()), (6, ()), (7, ()), (8, ()), (9, ())]
set_option maxRecDepth 100000 in
theorem mi_WK_0_ok : ∀ e ∈ mi_WK_0, (fun (e : Nat × Unit) => mi_w e.1) e ∈ lw_tbl := mi_in _ (fun (e : Nat × Unit) => mi_w e.1) [282, 183, 1044, 700, 696, 704, 714, 416, 957, 962] rfl
def mi_WK_1 : List (Nat × Unit) := [(10, ()), (11, ()), (12, ()), (13, ()), (14, ()), (15, ()), (16, ()), (17, ()), (18, ()), (19, ())]
set_option maxRecDepth 100000 in
theorem mi_WK_1_ok : ∀ e ∈ mi_WK_1, (fun (e : Nat × Unit) => mi_w e.1) e ∈ lw_tbl := mi_in _ (fun (e : Nat × Unit) => mi_w e.1) [953, 336, 787, 792, 797, 1166, 1177, 801, 805, 809] rfl
def mi_WK_2 : List (Nat × Unit) := [(20, ()), (21, ()), (22, ()), (23, ()), (24, ()), (25, ()), (26, ()), (27, ()), (28, ()), (29, ())]
set_option maxRecDepth 100000 in
theorem mi_WK_2_ok : ∀ e ∈ mi_WK_2, (fun (e : Nat × Unit) => mi_w e.1) e ∈ lw_tbl := mi_in _ (fun (e : Nat × Unit) => mi_w e.1) [906, 850, 854, 858, 872, 862, 977, 981, 984, 1018] rfl
def mi_WK_3 : List (Nat × Unit) := [(30, ()), (31, ()), (32, ()), (33, ()), (34, ()), (35, ()), (36, ()), (37, ()), (38, ()), (39, ())]
set_option maxRecDepth 100000 in
theorem mi_WK_3_ok : ∀ e ∈ mi_WK_3, (fun (e : Nat × Unit) => mi_w e.1) e ∈ lw_tbl := mi_in _ (fun (e : Nat × Unit) => mi_w e.1) [304, 728, 733, 736, 740, 747, 1148, 876, 880, 638] rfl
def mi_WK_4 : List (Nat × Unit) := [(40, ()), (41, ()), (42, ()), (43, ()), (44, ()), (45, ()), (46, ()), (47, ()), (48, ()), (49, ())]
set_option maxRecDepth 100000 in
theorem mi_WK_4_ok : ∀ e ∈ mi_WK_4, (fun (e : Nat × Unit) => mi_w e.1) e ∈ lw_tbl := mi_in _ (fun (e : Nat × Unit) => mi_w e.1) [761, 783, 765, 779, 774, 261, 623, 1036, 368, 817] rfl
def mi_WK_5 : List (Nat × Unit) := [(50, ()), (51, ()), (52, ()), (53, ()), (54, ()), (55, ()), (56, ()), (57, ()), (58, ()), (59, ())]
set_option maxRecDepth 100000 in
theorem mi_WK_5_ok : ∀ e ∈ mi_WK_5, (fun (e : Nat × Unit) => mi_w e.1) e ∈ lw_tbl := mi_in _ (fun (e : Nat × Unit) => mi_w e.1) [822, 826, 830, 837, 842, 846, 914, 922, 926, 930] rfl
def mi_WK_6 : List (Nat × Unit) := [(60, ()), (61, ()), (62, ()), (63, ()), (64, ()), (65, ()), (66, ()), (67, ()), (68, ()), (69, ())]
set_option maxRecDepth 100000 in
theorem mi_WK_6_ok : ∀ e ∈ mi_WK_6, (fun (e : Nat × Unit) => mi_w e.1) e ∈ lw_tbl := mi_in _ (fun (e : Nat × Unit) => mi_w e.1) [934, 943, 233, 485, 489, 495, 585, 591, 601, 608] rfl
def mi_WK_7 : List (Nat × Unit) := [(70, ()), (71, ()), (72, ()), (73, ()), (74, ()), (75, ()), (76, ()), (77, ()), (78, ()), (79, ())]
set_option maxRecDepth 100000 in
theorem mi_WK_7_ok : ∀ e ∈ mi_WK_7, (fun (e : Nat × Unit) => mi_w e.1) e ∈ lw_tbl := mi_in _ (fun (e : Nat × Unit) => mi_w e.1) [570, 574, 499, 514, 566, 506, 577, 509, 611, 396] rfl
def mi_WK_8 : List (Nat × Unit) := [(80, ()), (81, ()), (82, ()), (83, ()), (84, ()), (85, ()), (86, ()), (87, ()), (88, ()), (89, ())]
set_option maxRecDepth 100000 in
theorem mi_WK_8_ok : ∀ e ∈ mi_WK_8, (fun (e : Nat × Unit) => mi_w e.1) e ∈ lw_tbl := mi_in _ (fun (e : Nat × Unit) => mi_w e.1) [996, 1000, 1004, 134, 627, 581, 659, 652, 684, 668] rfl
def mi_WK_9 : List (Nat × Unit) := [(90, ()), (91, ()), (92, ()), (93, ()), (94, ()), (95, ()), (96, ()), (97, ()), (98, ()), (99, ())]
set_option maxRecDepth 100000 in
theorem mi_WK_9_ok : ∀ e ∈ mi_WK_9, (fun (e : Nat × Unit) => mi_w e.1) e ∈ lw_tbl := mi_in _ (fun (e : Nat × Unit) => mi_w e.1) [751, 1008, 218, 472, 476, 503, 126, 468, 481, 643] rfl
def mi_WK_10 : List (Nat × Unit) := [(100, ()), (101, ()), (102, ()), (103, ()), (104, ()), (105, ()), (106, ()), (107, ()), (108, ()), (109, ())]
set_option maxRecDepth 100000 in
theorem mi_WK_10_ok : ∀ e ∈ mi_WK_10, (fun (e : Nat × Unit) => mi_w e.1) e ∈ lw_tbl := mi_in _ (fun (e : Nat × Unit) => mi_w e.1) [648, 664, 679, 688, 692, 710, 1061, 1137, 1144, 719] rfl
def mi_WK_11 : List (Nat × Unit) := [(110, ()), (111, ()), (112, ()), (113, ()), (114, ()), (115, ()), (116, ()), (117, ()), (118, ()), (119, ())]
set_option maxRecDepth 100000 in
theorem mi_WK_11_ok : ∀ e ∈ mi_WK_11, (fun (e : Nat × Unit) => mi_w e.1) e ∈ lw_tbl := mi_in _ (fun (e : Nat × Unit) => mi_w e.1) [884, 889, 894, 1155, 1162, 898, 902, 910, 918, 938] rfl
def mi_WK_12 : List (Nat × Unit) := [(120, ()), (121, ()), (122, ()), (123, ()), (124, ()), (125, ()), (126, ()), (127, ()), (128, ()), (129, ())]
set_option maxRecDepth 100000 in
theorem mi_WK_12_ok : ∀ e ∈ mi_WK_12, (fun (e : Nat × Unit) => mi_w e.1) e ∈ lw_tbl := mi_in _ (fun (e : Nat × Unit) => mi_w e.1) [1173, 949, 967, 973, 988, 1187, 1194, 992, 1014, 1023] rfl
def mi_WK_13 : List (Nat × Unit) := [(130, ()), (131, ()), (132, ()), (133, ()), (134, ()), (135, ()), (136, ()), (137, ()), (138, ()), (139, ())]
set_option maxRecDepth 100000 in
theorem mi_WK_13_ok : ∀ e ∈ mi_WK_13, (fun (e : Nat × Unit) => mi_w e.1) e ∈ lw_tbl := mi_in _ (fun (e : Nat × Unit) => mi_w e.1) [1032, 1040, 1049, 1053, 671, 655, 614, 743, 1065, 619] rfl
def mi_WK_14 : List (Nat × Unit) := [(140, ()), (141, ()), (142, ()), (143, ()), (144, ()), (145, ()), (146, ()), (147, ()), (148, ()), (149, ())]
set_option maxRecDepth 100000 in
theorem mi_WK_14_ok : ∀ e ∈ mi_WK_14, (fun (e : Nat × Unit) => mi_w e.1) e ∈ lw_tbl := mi_in _ (fun (e : Nat × Unit) => mi_w e.1) [634, 724, 1027, 1198, 1313, 1203, 1208, 1212, 1366, 1298] rfl
def mi_WK_15 : List (Nat × Unit) := [(150, ()), (151, ()), (152, ()), (153, ()), (154, ()), (155, ()), (156, ()), (157, ()), (158, ()), (159, ())]
set_option maxRecDepth 100000 in
theorem mi_WK_15_ok : ∀ e ∈ mi_WK_15, (fun (e : Nat × Unit) => mi_w e.1) e ∈ lw_tbl := mi_in _ (fun (e : Nat × Unit) => mi_w e.1) [1382, 1378, 1362, 1386, 1302, 1306, 1321, 1324, 1317, 1344] rfl
def mi_WK_16 : List (Nat × Unit) := [(160, ()), (161, ()), (162, ()), (163, ()), (164, ()), (165, ()), (166, ()), (167, ()), (168, ()), (169, ())]
set_option maxRecDepth 100000 in
theorem mi_WK_16_ok : ∀ e ∈ mi_WK_16, (fun (e : Nat × Unit) => mi_w e.1) e ∈ lw_tbl := mi_in _ (fun (e : Nat × Unit) => mi_w e.1) [1328, 1340, 1336, 1332, 1359, 1356, 1352, 1348, 1310, 1370] rfl
def mi_WK_17 : List (Nat × Unit) := [(170, ()), (171, ()), (172, ()), (173, ()), (174, ()), (175, ()), (176, ()), (177, ()), (178, ()), (179, ())]
set_option maxRecDepth 100000 in
theorem mi_WK_17_ok : ∀ e ∈ mi_WK_17, (fun (e : Nat × Unit) => mi_w e.1) e ∈ lw_tbl := mi_in _ (fun (e : Nat × Unit) => mi_w e.1) [1374, 1394, 1390, 1398, 1402, 1418, 1414, 1410, 1406, 1428] rfl
def mi_WK_18 : List (Nat × Unit) := [(180, ()), (181, ()), (182, ()), (183, ()), (184, ()), (185, ()), (186, ()), (187, ()), (188, ()), (189, ())]
set_option maxRecDepth 100000 in
theorem mi_WK_18_ok : ∀ e ∈ mi_WK_18, (fun (e : Nat × Unit) => mi_w e.1) e ∈ lw_tbl := mi_in _ (fun (e : Nat × Unit) => mi_w e.1) [1432, 1424, 1436, 1448, 1444, 1459, 1456, 1440, 1452, 1467] rfl
def mi_WK_19 : List (Nat × Unit) := [(190, ()), (191, ()), (192, ()), (193, ()), (194, ()), (195, ()), (196, ()), (197, ()), (198, ()), (199, ())]
set_option maxRecDepth 100000 in
theorem mi_WK_19_ok : ∀ e ∈ mi_WK_19, (fun (e : Nat × Unit) => mi_w e.1) e ∈ lw_tbl := mi_in _ (fun (e : Nat × Unit) => mi_w e.1) [1463, 1482, 1479, 1475, 1471, 1493, 1496, 1508, 1504, 1500] rfl
def mi_WK_20 : List (Nat × Unit) := [(200, ()), (201, ()), (202, ()), (203, ()), (204, ()), (205, ()), (206, ()), (207, ()), (208, ()), (209, ())]
set_option maxRecDepth 100000 in
theorem mi_WK_20_ok : ∀ e ∈ mi_WK_20, (fun (e : Nat × Unit) => mi_w e.1) e ∈ lw_tbl := mi_in _ (fun (e : Nat × Unit) => mi_w e.1) [1490, 1516, 1486, 1512, 1528, 1532, 1524, 1551, 1548, 1544] rfl
def mi_WK_21 : List (Nat × Unit) := [(210, ()), (211, ()), (212, ()), (213, ()), (214, ()), (215, ()), (216, ()), (217, ()), (218, ()), (219, ())]
set_option maxRecDepth 100000 in
theorem mi_WK_21_ok : ∀ e ∈ mi_WK_21, (fun (e : Nat × Unit) => mi_w e.1) e ∈ lw_tbl := mi_in _ (fun (e : Nat × Unit) => mi_w e.1) [1563, 1559, 1555, 1571, 1567, 1520, 1536, 1540, 1575, 1579] rfl
def mi_WK_22 : List (Nat × Unit) := [(220, ()), (221, ()), (222, ()), (223, ()), (224, ()), (225, ()), (226, ()), (227, ()), (228, ()), (229, ())]
set_option maxRecDepth 100000 in
theorem mi_WK_22_ok : ∀ e ∈ mi_WK_22, (fun (e : Nat × Unit) => mi_w e.1) e ∈ lw_tbl := mi_in _ (fun (e : Nat × Unit) => mi_w e.1) [1587, 1583, 1595, 1599, 1591, 1615, 1611, 1619, 1607, 1603] rfl
def mi_WK_23 : List (Nat × Unit) := [(230, ()), (231, ()), (232, ()), (233, ()), (234, ()), (235, ()), (236, ()), (237, ()), (238, ()), (239, ())]
set_option maxRecDepth 100000 in
theorem mi_WK_23_ok : ∀ e ∈ mi_WK_23, (fun (e : Nat × Unit) => mi_w e.1) e ∈ lw_tbl := mi_in _ (fun (e : Nat × Unit) => mi_w e.1) [1623, 1627, 1636, 1632, 1640, 1652, 1648, 1644, 1656, 1668] rfl
def mi_WK_24 : List (Nat × Unit) := [(240, ()), (241, ()), (242, ()), (243, ()), (244, ()), (245, ()), (246, ()), (247, ()), (248, ()), (249, ())]
set_option maxRecDepth 100000 in
theorem mi_WK_24_ok : ∀ e ∈ mi_WK_24, (fun (e : Nat × Unit) => mi_w e.1) e ∈ lw_tbl := mi_in _ (fun (e : Nat × Unit) => mi_w e.1) [1664, 1660, 1676, 1672, 1680, 1684, 1688, 1692, 1056, 1133] rfl
def mi_WK_25 : List (Nat × Unit) := [(250, ()), (251, ()), (252, ()), (253, ()), (254, ()), (255, ()), (257, ()), (258, ()), (259, ()), (260, ())]
set_option maxRecDepth 100000 in
theorem mi_WK_25_ok : ∀ e ∈ mi_WK_25, (fun (e : Nat × Unit) => mi_w e.1) e ∈ lw_tbl := mi_in _ (fun (e : Nat × Unit) => mi_w e.1) [1140, 1151, 1158, 1169, 1183, 1190, 754, 813, 1180, 867] rfl
def mi_WK_26 : List (Nat × Unit) := [(261, ())]
set_option maxRecDepth 100000 in
theorem mi_WK_26_ok : ∀ e ∈ mi_WK_26, (fun (e : Nat × Unit) => mi_w e.1) e ∈ lw_tbl := mi_in _ (fun (e : Nat × Unit) => mi_w e.1) [630] rfl
def mi_WK : List (Nat × Unit) := mi_WK_0 ++ mi_WK_1 ++ mi_WK_2 ++ mi_WK_3 ++ mi_WK_4 ++ mi_WK_5 ++ mi_WK_6 ++ mi_WK_7 ++ mi_WK_8 ++ mi_WK_9 ++ mi_WK_10 ++ mi_WK_11 ++ mi_WK_12 ++ mi_WK_13 ++ mi_WK_14 ++ mi_WK_15 ++ mi_WK_16 ++ mi_WK_17 ++ mi_WK_18 ++ mi_WK_19 ++ mi_WK_20 ++ mi_WK_21 ++ mi_WK_22 ++ mi_WK_23 ++ mi_WK_24 ++ mi_WK_25 ++ mi_WK_26
theorem mi_WK_ok : ∀ e ∈ mi_WK, (fun (e : Nat × Unit) => mi_w e.1) e ∈ lw_tbl := fun e h => (List.mem_append.mp h).elim (fun h => (List.mem_append.mp h).elim (fun h => (List.mem_append.mp h).elim (fun h => (List.mem_append.mp h).elim (fun h => (List.mem_append.mp h).elim (fun h => (List.mem_append.mp h).elim (fun h => (List.mem_append.mp h).elim (fun h => (List.mem_append.mp h).elim (fun h => (List.mem_append.mp h).elim (fun h => (List.mem_append.mp h).elim (fun h => (List.mem_append.mp h).elim (fun h => (List.mem_append.mp h).elim (fun h => (List.mem_append.mp h).elim (fun h => (List.mem_append.mp h).elim (fun h => (List.mem_append.mp h).elim (fun h => (List.mem_append.mp h).elim (fun h => (List.mem_append.mp h).elim (fun h => (List.mem_append.mp h).elim (fun h => (List.mem_append.mp h).elim (fun h => (List.mem_append.mp h).elim (fun h => (List.mem_append.mp h).elim (fun h => (List.mem_append.mp h).elim (fun h => (List.mem_append.mp h).elim (fun h => (List.mem_append.mp h).elim (fun h => (List.mem_append.mp h).elim (fun h => (List.mem_append.mp h).elim (fun h => mi_WK_0_ok e h) (fun h => mi_WK_1_ok e h)) (fun h => mi_WK_2_ok e h)) (fun h => mi_WK_3_ok e h)) (fun h => mi_WK_4_ok e h)) (fun h => mi_WK_5_ok e h)) (fun h => mi_WK_6_ok e h)) (fun h => mi_WK_7_ok e h)) (fun h => mi_WK_8_ok e h)) (fun h => mi_WK_9_ok e h)) (fun h => mi_WK_10_ok e h)) (fun h => mi_WK_11_ok e h)) (fun h => mi_WK_12_ok e h)) (fun h => mi_WK_13_ok e h)) (fun h => mi_WK_14_ok e h)) (fun h => mi_WK_15_ok e h)) (fun h => mi_WK_16_ok e h)) (fun h => mi_WK_17_ok e h)) (fun h => mi_WK_18_ok e h)) (fun h => mi_WK_19_ok e h)) (fun h => mi_WK_20_ok e h)) (fun h => mi_WK_21_ok e h)) (fun h => mi_WK_22_ok e h)) (fun h => mi_WK_23_ok e h)) (fun h => mi_WK_24_ok e h)) (fun h => mi_WK_25_ok e h)) (fun h => mi_WK_26_ok e h)
end
section
/-! what a row of the code must be: the bytes say so, and what it names is in the tables -/
noncomputable def mi_ln : Instr → Nat
  | .iload _ | .aload _ | .istore _ | .astore _ | .bipush _ | .ldc _ | .newarray _ => 2
  | .iinc _ _ | .sipush _ | .ldc_w _ | .goto _ | .if_icmp _ _ | .ifCond _ _ | .getfield _ | .putfield _ | .getstatic _ | .invokestatic _ | .invokevirtual _ | .invokespecial _ | .new _ | .anewarray _ => 3
  | .tableswitch _ _ _ _ => 0
  | _ => 1
noncomputable def mi_ini (k : Nat) : Bool := decide ((mi_nm k).name = "<init>")
noncomputable def mi_ckc (k aux kind i : Nat) : Bool := (Nat.blt aux 262 && !(Nat.beq aux 256)) && decide ((mi_on k, i, kind, aux) ∈ mi_ML) && Nat.ble ((mi_rm aux).1 + 1) (mi_rm k).1 && Nat.ble (8 + ((mi_hd aux).2.1 + 11) + (mi_rm aux).2) (mi_rm k).2 && (!(mi_hd aux).2.2.2.1 || (mi_hd k).2.2.2.1)
noncomputable def mi_ck2 (k : Nat) (pc : Nat) (i : Instr) (aux : Nat) : Bool := match i with
  | .goto o | .if_icmp _ o | .ifCond _ o => decide ((pc : Int) + o = (aux : Int))
  | .getfield i => decide ((mi_on k, i, aux) ∈ mi_FL) && Nat.blt (aux / 64) 13 && Nat.blt (aux % 64) (mi_cn (aux / 64))
  | .putfield i => decide ((mi_on k, i, aux) ∈ mi_FL) && Nat.blt (aux / 64) 13 && Nat.blt (aux % 64) (mi_cn (aux / 64)) && (bif (mi_ct (aux / 64) (aux % 64)).2.2.2 then mi_ini k && Nat.beq (mi_on k) (aux / 64) else true)
  | .getstatic i => Nat.ble 1000 aux && Nat.blt aux 1006 && (decide ((mi_on k, i, aux, 1) ∈ mi_SL) || decide ((mi_on k, i, aux, 0) ∈ mi_SL))
  | .new i => bif Nat.beq aux 9995 then decide ((mi_on k, i) = (11, 300)) && decide (decode (mi_cd k) (pc + 3) = .ok (.dup, 1)) && decide (decode (mi_cd k) (pc + 4) = .ok (.ldc_w 302, 3)) && decide (decode (mi_cd k) (pc + 7) = .ok (.invokespecial 304, 3)) && decide (decode (mi_cd k) (pc + 10) = .ok (.athrow, 1)) && Nat.ble 7 (mi_rm k).1 && Nat.ble 103 (mi_rm k).2 && decide (mi_hh k = [])
    else decide ((mi_on k, i, aux) ∈ mi_NL) && Nat.blt (aux / 64) 13 && Nat.beq (aux % 64) (mi_cn (aux / 64))
  | .anewarray i => decide ((mi_on k, i, aux) ∈ mi_AL)
  | .ldc i => bif Nat.blt aux 2147483648 then decide ((mi_on k, i, aux) ∈ mi_KL) else decide ((mi_on k, i, aux - 2147483648) ∈ mi_TL)
  | .ldc_w i => decide ((mi_on k, i, aux) ∈ mi_KL)
  | .invokestatic i => bif Nat.beq aux 9998 then decide ((mi_on k, i) ∈ mi_CP) && Nat.ble 1 (mi_rm k).1 && Nat.ble 40 (mi_rm k).2
    else mi_ckc k aux 0 i || mi_ckc k aux 1 i || mi_ckc k aux 4 i
  | .invokevirtual i => bif Nat.beq aux 9997 then decide ((mi_on k, i, aux) ∈ mi_PL) && Nat.ble 4 (mi_rm k).1 && Nat.ble 110 (mi_rm k).2
    else bif Nat.beq aux 9996 then decide ((mi_on k, i, aux) ∈ mi_PL) && Nat.ble 4 (mi_rm k).1 && Nat.ble 110 (mi_rm k).2
    else mi_ckc k aux 2 i && decide ((mi_hd aux).2.2.2.2.1 = 10 + mi_on aux)
  | .invokespecial i => bif Nat.beq aux 9999 then decide ((mi_on k, i) ∈ mi_OL) && Nat.ble 1 (mi_rm k).1 && Nat.ble 20 (mi_rm k).2 else mi_ckc k aux 3 i
  | .tableswitch d lo hi offs => decide (0 ≤ (pc : Int) + d) && offs.toList.all (fun o => decide (0 ≤ (pc : Int) + o)) && decide (hi = lo + (offs.size : Int) - 1)
  | .newarray t => decide (t = .int) || decide (t = .byte) || decide (t = .long)
  | .ireturn => bif Nat.beq aux 1 then decide (mi_rt k = some .boolean) else decide (mi_rt k = some .int)
  | .return_ => decide (mi_rt k = none)
  | _ => true
noncomputable def mi_chk (k : Nat) (e : mi_E) : Bool := decide (decode (mi_cd k) e.1 = .ok (e.2.1, e.2.2.1 - e.1)) && (Nat.beq (mi_ln e.2.1) 0 || Nat.beq e.2.2.1 (e.1 + mi_ln e.2.1)) && mi_ck2 k e.1 e.2.1 e.2.2.2
noncomputable def mi_chl (k : Nat) (l : List mi_E) : Bool := l.all (mi_chk k)
set_option maxRecDepth 100000 in
theorem mi_k0 : (mi_tb 0).all (mi_chl 0) = true := by decide +kernel
set_option maxRecDepth 100000 in
theorem mi_k1 : (mi_tb 1).all (mi_chl 1) = true := by decide +kernel
set_option maxRecDepth 100000 in
theorem mi_k2 : (mi_tb 2).all (mi_chl 2) = true := by decide +kernel
set_option maxRecDepth 100000 in
theorem mi_k3 : (mi_tb 3).all (mi_chl 3) = true := by decide +kernel
set_option maxRecDepth 100000 in
theorem mi_k4 : (mi_tb 4).all (mi_chl 4) = true := by decide +kernel
set_option maxRecDepth 100000 in
theorem mi_k5 : (mi_tb 5).all (mi_chl 5) = true := by decide +kernel
set_option maxRecDepth 100000 in
theorem mi_k6 : (mi_tb 6).all (mi_chl 6) = true := by decide +kernel
set_option maxRecDepth 100000 in
theorem mi_k7 : (mi_tb 7).all (mi_chl 7) = true := by decide +kernel
set_option maxRecDepth 100000 in
theorem mi_k8 : (mi_tb 8).all (mi_chl 8) = true := by decide +kernel
set_option maxRecDepth 100000 in
theorem mi_k9 : (mi_tb 9).all (mi_chl 9) = true := by decide +kernel
set_option maxRecDepth 100000 in
theorem mi_k10 : (mi_tb 10).all (mi_chl 10) = true := by decide +kernel
set_option maxRecDepth 100000 in
theorem mi_k11 : (mi_tb 11).all (mi_chl 11) = true := by decide +kernel
set_option maxRecDepth 100000 in
theorem mi_k12 : (mi_tb 12).all (mi_chl 12) = true := by decide +kernel
set_option maxRecDepth 100000 in
theorem mi_k13 : (mi_tb 13).all (mi_chl 13) = true := by decide +kernel
set_option maxRecDepth 100000 in
theorem mi_k14 : (mi_tb 14).all (mi_chl 14) = true := by decide +kernel
set_option maxRecDepth 100000 in
theorem mi_k15 : (mi_tb 15).all (mi_chl 15) = true := by decide +kernel
set_option maxRecDepth 100000 in
theorem mi_k16 : (mi_tb 16).all (mi_chl 16) = true := by decide +kernel
set_option maxRecDepth 100000 in
theorem mi_k17 : (mi_tb 17).all (mi_chl 17) = true := by decide +kernel
set_option maxRecDepth 100000 in
theorem mi_k18 : (mi_tb 18).all (mi_chl 18) = true := by decide +kernel
set_option maxRecDepth 100000 in
theorem mi_k19 : (mi_tb 19).all (mi_chl 19) = true := by decide +kernel
set_option maxRecDepth 100000 in
theorem mi_k20 : (mi_tb 20).all (mi_chl 20) = true := by decide +kernel
set_option maxRecDepth 100000 in
theorem mi_k21 : (mi_tb 21).all (mi_chl 21) = true := by decide +kernel
set_option maxRecDepth 100000 in
theorem mi_k22 : (mi_tb 22).all (mi_chl 22) = true := by decide +kernel
set_option maxRecDepth 100000 in
theorem mi_k23 : (mi_tb 23).all (mi_chl 23) = true := by decide +kernel
set_option maxRecDepth 100000 in
theorem mi_k24 : (mi_tb 24).all (mi_chl 24) = true := by decide +kernel
set_option maxRecDepth 100000 in
theorem mi_k25 : (mi_tb 25).all (mi_chl 25) = true := by decide +kernel
set_option maxRecDepth 100000 in
theorem mi_k26 : (mi_tb 26).all (mi_chl 26) = true := by decide +kernel
set_option maxRecDepth 100000 in
theorem mi_k27 : (mi_tb 27).all (mi_chl 27) = true := by decide +kernel
set_option maxRecDepth 100000 in
theorem mi_k28 : (mi_tb 28).all (mi_chl 28) = true := by decide +kernel
set_option maxRecDepth 100000 in
theorem mi_k29 : (mi_tb 29).all (mi_chl 29) = true := by decide +kernel
set_option maxRecDepth 100000 in
theorem mi_k30 : (mi_tb 30).all (mi_chl 30) = true := by decide +kernel
set_option maxRecDepth 100000 in
theorem mi_k31 : (mi_tb 31).all (mi_chl 31) = true := by decide +kernel
set_option maxRecDepth 100000 in
theorem mi_k32 : (mi_tb 32).all (mi_chl 32) = true := by decide +kernel
set_option maxRecDepth 100000 in
theorem mi_k33 : (mi_tb 33).all (mi_chl 33) = true := by decide +kernel
set_option maxRecDepth 100000 in
theorem mi_k34 : (mi_tb 34).all (mi_chl 34) = true := by decide +kernel
set_option maxRecDepth 100000 in
theorem mi_k35 : (mi_tb 35).all (mi_chl 35) = true := by decide +kernel
set_option maxRecDepth 100000 in
theorem mi_k36 : (mi_tb 36).all (mi_chl 36) = true := by decide +kernel
set_option maxRecDepth 100000 in
theorem mi_k37 : (mi_tb 37).all (mi_chl 37) = true := by decide +kernel
set_option maxRecDepth 100000 in
theorem mi_k38 : (mi_tb 38).all (mi_chl 38) = true := by decide +kernel
set_option maxRecDepth 100000 in
theorem mi_k39 : (mi_tb 39).all (mi_chl 39) = true := by decide +kernel
set_option maxRecDepth 100000 in
theorem mi_k40 : (mi_tb 40).all (mi_chl 40) = true := by decide +kernel
set_option maxRecDepth 100000 in
theorem mi_k41 : (mi_tb 41).all (mi_chl 41) = true := by decide +kernel
set_option maxRecDepth 100000 in
theorem mi_k42 : (mi_tb 42).all (mi_chl 42) = true := by decide +kernel
set_option maxRecDepth 100000 in
theorem mi_k43 : (mi_tb 43).all (mi_chl 43) = true := by decide +kernel
set_option maxRecDepth 100000 in
theorem mi_k44 : (mi_tb 44).all (mi_chl 44) = true := by decide +kernel
set_option maxRecDepth 100000 in
theorem mi_k45 : (mi_tb 45).all (mi_chl 45) = true := by decide +kernel
set_option maxRecDepth 100000 in
theorem mi_k46 : (mi_tb 46).all (mi_chl 46) = true := by decide +kernel
set_option maxRecDepth 100000 in
theorem mi_k47 : (mi_tb 47).all (mi_chl 47) = true := by decide +kernel
set_option maxRecDepth 100000 in
theorem mi_k48 : (mi_tb 48).all (mi_chl 48) = true := by decide +kernel
set_option maxRecDepth 100000 in
theorem mi_k49 : (mi_tb 49).all (mi_chl 49) = true := by decide +kernel
set_option maxRecDepth 100000 in
theorem mi_k50 : (mi_tb 50).all (mi_chl 50) = true := by decide +kernel
set_option maxRecDepth 100000 in
theorem mi_k51 : (mi_tb 51).all (mi_chl 51) = true := by decide +kernel
set_option maxRecDepth 100000 in
theorem mi_k52 : (mi_tb 52).all (mi_chl 52) = true := by decide +kernel
set_option maxRecDepth 100000 in
theorem mi_k53 : (mi_tb 53).all (mi_chl 53) = true := by decide +kernel
set_option maxRecDepth 100000 in
theorem mi_k54 : (mi_tb 54).all (mi_chl 54) = true := by decide +kernel
set_option maxRecDepth 100000 in
theorem mi_k55 : (mi_tb 55).all (mi_chl 55) = true := by decide +kernel
set_option maxRecDepth 100000 in
theorem mi_k56 : (mi_tb 56).all (mi_chl 56) = true := by decide +kernel
set_option maxRecDepth 100000 in
theorem mi_k57 : (mi_tb 57).all (mi_chl 57) = true := by decide +kernel
set_option maxRecDepth 100000 in
theorem mi_k58 : (mi_tb 58).all (mi_chl 58) = true := by decide +kernel
set_option maxRecDepth 100000 in
theorem mi_k59 : (mi_tb 59).all (mi_chl 59) = true := by decide +kernel
set_option maxRecDepth 100000 in
theorem mi_k60 : (mi_tb 60).all (mi_chl 60) = true := by decide +kernel
set_option maxRecDepth 100000 in
theorem mi_k61 : (mi_tb 61).all (mi_chl 61) = true := by decide +kernel
set_option maxRecDepth 100000 in
theorem mi_k62 : (mi_tb 62).all (mi_chl 62) = true := by decide +kernel
set_option maxRecDepth 100000 in
theorem mi_k63 : (mi_tb 63).all (mi_chl 63) = true := by decide +kernel
set_option maxRecDepth 100000 in
theorem mi_k64 : (mi_tb 64).all (mi_chl 64) = true := by decide +kernel
set_option maxRecDepth 100000 in
theorem mi_k65 : (mi_tb 65).all (mi_chl 65) = true := by decide +kernel
set_option maxRecDepth 100000 in
theorem mi_k66 : (mi_tb 66).all (mi_chl 66) = true := by decide +kernel
set_option maxRecDepth 100000 in
theorem mi_k67 : (mi_tb 67).all (mi_chl 67) = true := by decide +kernel
set_option maxRecDepth 100000 in
theorem mi_k68 : (mi_tb 68).all (mi_chl 68) = true := by decide +kernel
set_option maxRecDepth 100000 in
theorem mi_k69 : (mi_tb 69).all (mi_chl 69) = true := by decide +kernel
set_option maxRecDepth 100000 in
theorem mi_k70 : (mi_tb 70).all (mi_chl 70) = true := by decide +kernel
set_option maxRecDepth 100000 in
theorem mi_k71 : (mi_tb 71).all (mi_chl 71) = true := by decide +kernel
set_option maxRecDepth 100000 in
theorem mi_k72 : (mi_tb 72).all (mi_chl 72) = true := by decide +kernel
set_option maxRecDepth 100000 in
theorem mi_k73 : (mi_tb 73).all (mi_chl 73) = true := by decide +kernel
set_option maxRecDepth 100000 in
theorem mi_k74 : (mi_tb 74).all (mi_chl 74) = true := by decide +kernel
set_option maxRecDepth 100000 in
theorem mi_k75 : (mi_tb 75).all (mi_chl 75) = true := by decide +kernel
set_option maxRecDepth 100000 in
theorem mi_k76 : (mi_tb 76).all (mi_chl 76) = true := by decide +kernel
set_option maxRecDepth 100000 in
theorem mi_k77 : (mi_tb 77).all (mi_chl 77) = true := by decide +kernel
set_option maxRecDepth 100000 in
theorem mi_k78 : (mi_tb 78).all (mi_chl 78) = true := by decide +kernel
set_option maxRecDepth 100000 in
theorem mi_k79 : (mi_tb 79).all (mi_chl 79) = true := by decide +kernel
set_option maxRecDepth 100000 in
theorem mi_k80 : (mi_tb 80).all (mi_chl 80) = true := by decide +kernel
set_option maxRecDepth 100000 in
theorem mi_k81 : (mi_tb 81).all (mi_chl 81) = true := by decide +kernel
set_option maxRecDepth 100000 in
theorem mi_k82 : (mi_tb 82).all (mi_chl 82) = true := by decide +kernel
set_option maxRecDepth 100000 in
theorem mi_k83 : (mi_tb 83).all (mi_chl 83) = true := by decide +kernel
set_option maxRecDepth 100000 in
theorem mi_k84 : (mi_tb 84).all (mi_chl 84) = true := by decide +kernel
set_option maxRecDepth 100000 in
theorem mi_k85 : (mi_tb 85).all (mi_chl 85) = true := by decide +kernel
set_option maxRecDepth 100000 in
theorem mi_k86 : (mi_tb 86).all (mi_chl 86) = true := by decide +kernel
set_option maxRecDepth 100000 in
theorem mi_k87 : (mi_tb 87).all (mi_chl 87) = true := by decide +kernel
set_option maxRecDepth 100000 in
theorem mi_k88 : (mi_tb 88).all (mi_chl 88) = true := by decide +kernel
set_option maxRecDepth 100000 in
theorem mi_k89 : (mi_tb 89).all (mi_chl 89) = true := by decide +kernel
set_option maxRecDepth 100000 in
theorem mi_k90 : (mi_tb 90).all (mi_chl 90) = true := by decide +kernel
set_option maxRecDepth 100000 in
theorem mi_k91 : (mi_tb 91).all (mi_chl 91) = true := by decide +kernel
set_option maxRecDepth 100000 in
theorem mi_k92 : (mi_tb 92).all (mi_chl 92) = true := by decide +kernel
set_option maxRecDepth 100000 in
theorem mi_k93 : (mi_tb 93).all (mi_chl 93) = true := by decide +kernel
set_option maxRecDepth 100000 in
theorem mi_k94 : (mi_tb 94).all (mi_chl 94) = true := by decide +kernel
set_option maxRecDepth 100000 in
theorem mi_k95 : (mi_tb 95).all (mi_chl 95) = true := by decide +kernel
set_option maxRecDepth 100000 in
theorem mi_k96 : (mi_tb 96).all (mi_chl 96) = true := by decide +kernel
set_option maxRecDepth 100000 in
theorem mi_k97 : (mi_tb 97).all (mi_chl 97) = true := by decide +kernel
set_option maxRecDepth 100000 in
theorem mi_k98 : (mi_tb 98).all (mi_chl 98) = true := by decide +kernel
set_option maxRecDepth 100000 in
theorem mi_k99 : (mi_tb 99).all (mi_chl 99) = true := by decide +kernel
set_option maxRecDepth 100000 in
theorem mi_k100 : (mi_tb 100).all (mi_chl 100) = true := by decide +kernel
set_option maxRecDepth 100000 in
theorem mi_k101 : (mi_tb 101).all (mi_chl 101) = true := by decide +kernel
set_option maxRecDepth 100000 in
theorem mi_k102 : (mi_tb 102).all (mi_chl 102) = true := by decide +kernel
set_option maxRecDepth 100000 in
theorem mi_k103 : (mi_tb 103).all (mi_chl 103) = true := by decide +kernel
set_option maxRecDepth 100000 in
theorem mi_k104 : (mi_tb 104).all (mi_chl 104) = true := by decide +kernel
set_option maxRecDepth 100000 in
theorem mi_k105 : (mi_tb 105).all (mi_chl 105) = true := by decide +kernel
set_option maxRecDepth 100000 in
theorem mi_k106 : (mi_tb 106).all (mi_chl 106) = true := by decide +kernel
set_option maxRecDepth 100000 in
theorem mi_k107 : (mi_tb 107).all (mi_chl 107) = true := by decide +kernel
set_option maxRecDepth 100000 in
theorem mi_k108 : (mi_tb 108).all (mi_chl 108) = true := by decide +kernel
set_option maxRecDepth 100000 in
theorem mi_k109 : (mi_tb 109).all (mi_chl 109) = true := by decide +kernel
set_option maxRecDepth 100000 in
theorem mi_k110 : (mi_tb 110).all (mi_chl 110) = true := by decide +kernel
set_option maxRecDepth 100000 in
theorem mi_k111 : (mi_tb 111).all (mi_chl 111) = true := by decide +kernel
set_option maxRecDepth 100000 in
theorem mi_k112 : (mi_tb 112).all (mi_chl 112) = true := by decide +kernel
set_option maxRecDepth 100000 in
theorem mi_k113 : (mi_tb 113).all (mi_chl 113) = true := by decide +kernel
set_option maxRecDepth 100000 in
theorem mi_k114 : (mi_tb 114).all (mi_chl 114) = true := by decide +kernel
set_option maxRecDepth 100000 in
theorem mi_k115 : (mi_tb 115).all (mi_chl 115) = true := by decide +kernel
set_option maxRecDepth 100000 in
theorem mi_k116 : (mi_tb 116).all (mi_chl 116) = true := by decide +kernel
set_option maxRecDepth 100000 in
theorem mi_k117 : (mi_tb 117).all (mi_chl 117) = true := by decide +kernel
set_option maxRecDepth 100000 in
theorem mi_k118 : (mi_tb 118).all (mi_chl 118) = true := by decide +kernel
set_option maxRecDepth 100000 in
theorem mi_k119 : (mi_tb 119).all (mi_chl 119) = true := by decide +kernel
set_option maxRecDepth 100000 in
theorem mi_k120 : (mi_tb 120).all (mi_chl 120) = true := by decide +kernel
set_option maxRecDepth 100000 in
theorem mi_k121 : (mi_tb 121).all (mi_chl 121) = true := by decide +kernel
set_option maxRecDepth 100000 in
theorem mi_k122 : (mi_tb 122).all (mi_chl 122) = true := by decide +kernel
set_option maxRecDepth 100000 in
theorem mi_k123 : (mi_tb 123).all (mi_chl 123) = true := by decide +kernel
set_option maxRecDepth 100000 in
theorem mi_k124 : (mi_tb 124).all (mi_chl 124) = true := by decide +kernel
set_option maxRecDepth 100000 in
theorem mi_k125 : (mi_tb 125).all (mi_chl 125) = true := by decide +kernel
set_option maxRecDepth 100000 in
theorem mi_k126 : (mi_tb 126).all (mi_chl 126) = true := by decide +kernel
set_option maxRecDepth 100000 in
theorem mi_k127 : (mi_tb 127).all (mi_chl 127) = true := by decide +kernel
set_option maxRecDepth 100000 in
theorem mi_k128 : (mi_tb 128).all (mi_chl 128) = true := by decide +kernel
set_option maxRecDepth 100000 in
theorem mi_k129 : (mi_tb 129).all (mi_chl 129) = true := by decide +kernel
set_option maxRecDepth 100000 in
theorem mi_k130 : (mi_tb 130).all (mi_chl 130) = true := by decide +kernel
set_option maxRecDepth 100000 in
theorem mi_k131 : (mi_tb 131).all (mi_chl 131) = true := by decide +kernel
set_option maxRecDepth 100000 in
theorem mi_k132 : (mi_tb 132).all (mi_chl 132) = true := by decide +kernel
set_option maxRecDepth 100000 in
theorem mi_k133 : (mi_tb 133).all (mi_chl 133) = true := by decide +kernel
set_option maxRecDepth 100000 in
theorem mi_k134 : (mi_tb 134).all (mi_chl 134) = true := by decide +kernel
set_option maxRecDepth 100000 in
theorem mi_k135 : (mi_tb 135).all (mi_chl 135) = true := by decide +kernel
set_option maxRecDepth 100000 in
theorem mi_k136 : (mi_tb 136).all (mi_chl 136) = true := by decide +kernel
set_option maxRecDepth 100000 in
theorem mi_k137 : (mi_tb 137).all (mi_chl 137) = true := by decide +kernel
set_option maxRecDepth 100000 in
theorem mi_k138 : (mi_tb 138).all (mi_chl 138) = true := by decide +kernel
set_option maxRecDepth 100000 in
theorem mi_k139 : (mi_tb 139).all (mi_chl 139) = true := by decide +kernel
set_option maxRecDepth 100000 in
theorem mi_k140 : (mi_tb 140).all (mi_chl 140) = true := by decide +kernel
set_option maxRecDepth 100000 in
theorem mi_k141 : (mi_tb 141).all (mi_chl 141) = true := by decide +kernel
set_option maxRecDepth 100000 in
theorem mi_k142 : (mi_tb 142).all (mi_chl 142) = true := by decide +kernel
set_option maxRecDepth 100000 in
theorem mi_k143 : (mi_tb 143).all (mi_chl 143) = true := by decide +kernel
set_option maxRecDepth 100000 in
theorem mi_k144 : (mi_tb 144).all (mi_chl 144) = true := by decide +kernel
set_option maxRecDepth 100000 in
theorem mi_k145 : (mi_tb 145).all (mi_chl 145) = true := by decide +kernel
set_option maxRecDepth 100000 in
theorem mi_k146 : (mi_tb 146).all (mi_chl 146) = true := by decide +kernel
set_option maxRecDepth 100000 in
theorem mi_k147 : (mi_tb 147).all (mi_chl 147) = true := by decide +kernel
set_option maxRecDepth 100000 in
theorem mi_k148 : (mi_tb 148).all (mi_chl 148) = true := by decide +kernel
set_option maxRecDepth 100000 in
theorem mi_k149 : (mi_tb 149).all (mi_chl 149) = true := by decide +kernel
set_option maxRecDepth 100000 in
theorem mi_k150 : (mi_tb 150).all (mi_chl 150) = true := by decide +kernel
set_option maxRecDepth 100000 in
theorem mi_k151 : (mi_tb 151).all (mi_chl 151) = true := by decide +kernel
set_option maxRecDepth 100000 in
theorem mi_k152 : (mi_tb 152).all (mi_chl 152) = true := by decide +kernel
set_option maxRecDepth 100000 in
theorem mi_k153 : (mi_tb 153).all (mi_chl 153) = true := by decide +kernel
set_option maxRecDepth 100000 in
theorem mi_k154 : (mi_tb 154).all (mi_chl 154) = true := by decide +kernel
set_option maxRecDepth 100000 in
theorem mi_k155 : (mi_tb 155).all (mi_chl 155) = true := by decide +kernel
set_option maxRecDepth 100000 in
theorem mi_k156 : (mi_tb 156).all (mi_chl 156) = true := by decide +kernel
set_option maxRecDepth 100000 in
theorem mi_k157 : (mi_tb 157).all (mi_chl 157) = true := by decide +kernel
set_option maxRecDepth 100000 in
theorem mi_k158 : (mi_tb 158).all (mi_chl 158) = true := by decide +kernel
set_option maxRecDepth 100000 in
theorem mi_k159 : (mi_tb 159).all (mi_chl 159) = true := by decide +kernel
set_option maxRecDepth 100000 in
theorem mi_k160 : (mi_tb 160).all (mi_chl 160) = true := by decide +kernel
set_option maxRecDepth 100000 in
theorem mi_k161 : (mi_tb 161).all (mi_chl 161) = true := by decide +kernel
set_option maxRecDepth 100000 in
theorem mi_k162 : (mi_tb 162).all (mi_chl 162) = true := by decide +kernel
set_option maxRecDepth 100000 in
theorem mi_k163 : (mi_tb 163).all (mi_chl 163) = true := by decide +kernel
set_option maxRecDepth 100000 in
theorem mi_k164 : (mi_tb 164).all (mi_chl 164) = true := by decide +kernel
set_option maxRecDepth 100000 in
theorem mi_k165 : (mi_tb 165).all (mi_chl 165) = true := by decide +kernel
set_option maxRecDepth 100000 in
theorem mi_k166 : (mi_tb 166).all (mi_chl 166) = true := by decide +kernel
set_option maxRecDepth 100000 in
theorem mi_k167 : (mi_tb 167).all (mi_chl 167) = true := by decide +kernel
set_option maxRecDepth 100000 in
theorem mi_k168 : (mi_tb 168).all (mi_chl 168) = true := by decide +kernel
set_option maxRecDepth 100000 in
theorem mi_k169 : (mi_tb 169).all (mi_chl 169) = true := by decide +kernel
set_option maxRecDepth 100000 in
theorem mi_k170 : (mi_tb 170).all (mi_chl 170) = true := by decide +kernel
set_option maxRecDepth 100000 in
theorem mi_k171 : (mi_tb 171).all (mi_chl 171) = true := by decide +kernel
set_option maxRecDepth 100000 in
theorem mi_k172 : (mi_tb 172).all (mi_chl 172) = true := by decide +kernel
set_option maxRecDepth 100000 in
theorem mi_k173 : (mi_tb 173).all (mi_chl 173) = true := by decide +kernel
set_option maxRecDepth 100000 in
theorem mi_k174 : (mi_tb 174).all (mi_chl 174) = true := by decide +kernel
set_option maxRecDepth 100000 in
theorem mi_k175 : (mi_tb 175).all (mi_chl 175) = true := by decide +kernel
set_option maxRecDepth 100000 in
theorem mi_k176 : (mi_tb 176).all (mi_chl 176) = true := by decide +kernel
set_option maxRecDepth 100000 in
theorem mi_k177 : (mi_tb 177).all (mi_chl 177) = true := by decide +kernel
set_option maxRecDepth 100000 in
theorem mi_k178 : (mi_tb 178).all (mi_chl 178) = true := by decide +kernel
set_option maxRecDepth 100000 in
theorem mi_k179 : (mi_tb 179).all (mi_chl 179) = true := by decide +kernel
set_option maxRecDepth 100000 in
theorem mi_k180 : (mi_tb 180).all (mi_chl 180) = true := by decide +kernel
set_option maxRecDepth 100000 in
theorem mi_k181 : (mi_tb 181).all (mi_chl 181) = true := by decide +kernel
set_option maxRecDepth 100000 in
theorem mi_k182 : (mi_tb 182).all (mi_chl 182) = true := by decide +kernel
set_option maxRecDepth 100000 in
theorem mi_k183 : (mi_tb 183).all (mi_chl 183) = true := by decide +kernel
set_option maxRecDepth 100000 in
theorem mi_k184 : (mi_tb 184).all (mi_chl 184) = true := by decide +kernel
set_option maxRecDepth 100000 in
theorem mi_k185 : (mi_tb 185).all (mi_chl 185) = true := by decide +kernel
set_option maxRecDepth 100000 in
theorem mi_k186 : (mi_tb 186).all (mi_chl 186) = true := by decide +kernel
set_option maxRecDepth 100000 in
theorem mi_k187 : (mi_tb 187).all (mi_chl 187) = true := by decide +kernel
set_option maxRecDepth 100000 in
theorem mi_k188 : (mi_tb 188).all (mi_chl 188) = true := by decide +kernel
set_option maxRecDepth 100000 in
theorem mi_k189 : (mi_tb 189).all (mi_chl 189) = true := by decide +kernel
set_option maxRecDepth 100000 in
theorem mi_k190 : (mi_tb 190).all (mi_chl 190) = true := by decide +kernel
set_option maxRecDepth 100000 in
theorem mi_k191 : (mi_tb 191).all (mi_chl 191) = true := by decide +kernel
set_option maxRecDepth 100000 in
theorem mi_k192 : (mi_tb 192).all (mi_chl 192) = true := by decide +kernel
set_option maxRecDepth 100000 in
theorem mi_k193 : (mi_tb 193).all (mi_chl 193) = true := by decide +kernel
set_option maxRecDepth 100000 in
theorem mi_k194 : (mi_tb 194).all (mi_chl 194) = true := by decide +kernel
set_option maxRecDepth 100000 in
theorem mi_k195 : (mi_tb 195).all (mi_chl 195) = true := by decide +kernel
set_option maxRecDepth 100000 in
theorem mi_k196 : (mi_tb 196).all (mi_chl 196) = true := by decide +kernel
set_option maxRecDepth 100000 in
theorem mi_k197 : (mi_tb 197).all (mi_chl 197) = true := by decide +kernel
set_option maxRecDepth 100000 in
theorem mi_k198 : (mi_tb 198).all (mi_chl 198) = true := by decide +kernel
set_option maxRecDepth 100000 in
theorem mi_k199 : (mi_tb 199).all (mi_chl 199) = true := by decide +kernel
set_option maxRecDepth 100000 in
theorem mi_k200 : (mi_tb 200).all (mi_chl 200) = true := by decide +kernel
set_option maxRecDepth 100000 in
theorem mi_k201 : (mi_tb 201).all (mi_chl 201) = true := by decide +kernel
set_option maxRecDepth 100000 in
theorem mi_k202 : (mi_tb 202).all (mi_chl 202) = true := by decide +kernel
set_option maxRecDepth 100000 in
theorem mi_k203 : (mi_tb 203).all (mi_chl 203) = true := by decide +kernel
set_option maxRecDepth 100000 in
theorem mi_k204 : (mi_tb 204).all (mi_chl 204) = true := by decide +kernel
set_option maxRecDepth 100000 in
theorem mi_k205 : (mi_tb 205).all (mi_chl 205) = true := by decide +kernel
set_option maxRecDepth 100000 in
theorem mi_k206 : (mi_tb 206).all (mi_chl 206) = true := by decide +kernel
set_option maxRecDepth 100000 in
theorem mi_k207 : (mi_tb 207).all (mi_chl 207) = true := by decide +kernel
set_option maxRecDepth 100000 in
theorem mi_k208 : (mi_tb 208).all (mi_chl 208) = true := by decide +kernel
set_option maxRecDepth 100000 in
theorem mi_k209 : (mi_tb 209).all (mi_chl 209) = true := by decide +kernel
set_option maxRecDepth 100000 in
theorem mi_k210 : (mi_tb 210).all (mi_chl 210) = true := by decide +kernel
set_option maxRecDepth 100000 in
theorem mi_k211 : (mi_tb 211).all (mi_chl 211) = true := by decide +kernel
set_option maxRecDepth 100000 in
theorem mi_k212 : (mi_tb 212).all (mi_chl 212) = true := by decide +kernel
set_option maxRecDepth 100000 in
theorem mi_k213 : (mi_tb 213).all (mi_chl 213) = true := by decide +kernel
set_option maxRecDepth 100000 in
theorem mi_k214 : (mi_tb 214).all (mi_chl 214) = true := by decide +kernel
set_option maxRecDepth 100000 in
theorem mi_k215 : (mi_tb 215).all (mi_chl 215) = true := by decide +kernel
set_option maxRecDepth 100000 in
theorem mi_k216 : (mi_tb 216).all (mi_chl 216) = true := by decide +kernel
set_option maxRecDepth 100000 in
theorem mi_k217 : (mi_tb 217).all (mi_chl 217) = true := by decide +kernel
set_option maxRecDepth 100000 in
theorem mi_k218 : (mi_tb 218).all (mi_chl 218) = true := by decide +kernel
set_option maxRecDepth 100000 in
theorem mi_k219 : (mi_tb 219).all (mi_chl 219) = true := by decide +kernel
set_option maxRecDepth 100000 in
theorem mi_k220 : (mi_tb 220).all (mi_chl 220) = true := by decide +kernel
set_option maxRecDepth 100000 in
theorem mi_k221 : (mi_tb 221).all (mi_chl 221) = true := by decide +kernel
set_option maxRecDepth 100000 in
theorem mi_k222 : (mi_tb 222).all (mi_chl 222) = true := by decide +kernel
set_option maxRecDepth 100000 in
theorem mi_k223 : (mi_tb 223).all (mi_chl 223) = true := by decide +kernel
set_option maxRecDepth 100000 in
theorem mi_k224 : (mi_tb 224).all (mi_chl 224) = true := by decide +kernel
set_option maxRecDepth 100000 in
theorem mi_k225 : (mi_tb 225).all (mi_chl 225) = true := by decide +kernel
set_option maxRecDepth 100000 in
theorem mi_k226 : (mi_tb 226).all (mi_chl 226) = true := by decide +kernel
set_option maxRecDepth 100000 in
theorem mi_k227 : (mi_tb 227).all (mi_chl 227) = true := by decide +kernel
set_option maxRecDepth 100000 in
theorem mi_k228 : (mi_tb 228).all (mi_chl 228) = true := by decide +kernel
set_option maxRecDepth 100000 in
theorem mi_k229 : (mi_tb 229).all (mi_chl 229) = true := by decide +kernel
set_option maxRecDepth 100000 in
theorem mi_k230 : (mi_tb 230).all (mi_chl 230) = true := by decide +kernel
set_option maxRecDepth 100000 in
theorem mi_k231 : (mi_tb 231).all (mi_chl 231) = true := by decide +kernel
set_option maxRecDepth 100000 in
theorem mi_k232 : (mi_tb 232).all (mi_chl 232) = true := by decide +kernel
set_option maxRecDepth 100000 in
theorem mi_k233 : (mi_tb 233).all (mi_chl 233) = true := by decide +kernel
set_option maxRecDepth 100000 in
theorem mi_k234 : (mi_tb 234).all (mi_chl 234) = true := by decide +kernel
set_option maxRecDepth 100000 in
theorem mi_k235 : (mi_tb 235).all (mi_chl 235) = true := by decide +kernel
set_option maxRecDepth 100000 in
theorem mi_k236 : (mi_tb 236).all (mi_chl 236) = true := by decide +kernel
set_option maxRecDepth 100000 in
theorem mi_k237 : (mi_tb 237).all (mi_chl 237) = true := by decide +kernel
set_option maxRecDepth 100000 in
theorem mi_k238 : (mi_tb 238).all (mi_chl 238) = true := by decide +kernel
set_option maxRecDepth 100000 in
theorem mi_k239 : (mi_tb 239).all (mi_chl 239) = true := by decide +kernel
set_option maxRecDepth 100000 in
theorem mi_k240 : (mi_tb 240).all (mi_chl 240) = true := by decide +kernel
set_option maxRecDepth 100000 in
theorem mi_k241 : (mi_tb 241).all (mi_chl 241) = true := by decide +kernel
set_option maxRecDepth 100000 in
theorem mi_k242 : (mi_tb 242).all (mi_chl 242) = true := by decide +kernel
set_option maxRecDepth 100000 in
theorem mi_k243 : (mi_tb 243).all (mi_chl 243) = true := by decide +kernel
set_option maxRecDepth 100000 in
theorem mi_k244 : (mi_tb 244).all (mi_chl 244) = true := by decide +kernel
set_option maxRecDepth 100000 in
theorem mi_k245 : (mi_tb 245).all (mi_chl 245) = true := by decide +kernel
set_option maxRecDepth 100000 in
theorem mi_k246 : (mi_tb 246).all (mi_chl 246) = true := by decide +kernel
set_option maxRecDepth 100000 in
theorem mi_k247 : (mi_tb 247).all (mi_chl 247) = true := by decide +kernel
set_option maxRecDepth 100000 in
theorem mi_k248 : (mi_tb 248).all (mi_chl 248) = true := by decide +kernel
set_option maxRecDepth 100000 in
theorem mi_k249 : (mi_tb 249).all (mi_chl 249) = true := by decide +kernel
set_option maxRecDepth 100000 in
theorem mi_k250 : (mi_tb 250).all (mi_chl 250) = true := by decide +kernel
set_option maxRecDepth 100000 in
theorem mi_k251 : (mi_tb 251).all (mi_chl 251) = true := by decide +kernel
set_option maxRecDepth 100000 in
theorem mi_k252 : (mi_tb 252).all (mi_chl 252) = true := by decide +kernel
set_option maxRecDepth 100000 in
theorem mi_k253 : (mi_tb 253).all (mi_chl 253) = true := by decide +kernel
set_option maxRecDepth 100000 in
theorem mi_k254 : (mi_tb 254).all (mi_chl 254) = true := by decide +kernel
set_option maxRecDepth 100000 in
theorem mi_k255 : (mi_tb 255).all (mi_chl 255) = true := by decide +kernel
set_option maxRecDepth 100000 in
theorem mi_k256_0 : (((mi_tb 256).drop 0).take 3).all (mi_chl 256) = true := by decide +kernel
set_option maxRecDepth 100000 in
theorem mi_k256_1 : (((mi_tb 256).drop 3).take 3).all (mi_chl 256) = true := by decide +kernel
set_option maxRecDepth 100000 in
theorem mi_k256_2 : (((mi_tb 256).drop 6).take 3).all (mi_chl 256) = true := by decide +kernel
set_option maxRecDepth 100000 in
theorem mi_k256_3 : (((mi_tb 256).drop 9).take 3).all (mi_chl 256) = true := by decide +kernel
set_option maxRecDepth 100000 in
theorem mi_k256_4 : (((mi_tb 256).drop 12).take 3).all (mi_chl 256) = true := by decide +kernel
set_option maxRecDepth 100000 in
theorem mi_k256_5 : (((mi_tb 256).drop 15).take 3).all (mi_chl 256) = true := by decide +kernel
set_option maxRecDepth 100000 in
theorem mi_k256_6 : (((mi_tb 256).drop 18).take 3).all (mi_chl 256) = true := by decide +kernel
set_option maxRecDepth 100000 in
theorem mi_k256_7 : (((mi_tb 256).drop 21).take 3).all (mi_chl 256) = true := by decide +kernel
set_option maxRecDepth 100000 in
theorem mi_k256_8 : (((mi_tb 256).drop 24).take 3).all (mi_chl 256) = true := by decide +kernel
set_option maxRecDepth 100000 in
theorem mi_k256_9 : (((mi_tb 256).drop 27).take 3).all (mi_chl 256) = true := by decide +kernel
set_option maxRecDepth 100000 in
theorem mi_k256_10 : (((mi_tb 256).drop 30).take 3).all (mi_chl 256) = true := by decide +kernel
set_option maxRecDepth 100000 in
theorem mi_k256_11 : (((mi_tb 256).drop 33).take 3).all (mi_chl 256) = true := by decide +kernel
set_option maxRecDepth 100000 in
theorem mi_k256_12 : (((mi_tb 256).drop 36).take 3).all (mi_chl 256) = true := by decide +kernel
set_option maxRecDepth 100000 in
theorem mi_k256_13 : (((mi_tb 256).drop 39).take 3).all (mi_chl 256) = true := by decide +kernel
set_option maxRecDepth 100000 in
theorem mi_k256_14 : (((mi_tb 256).drop 42).take 3).all (mi_chl 256) = true := by decide +kernel
set_option maxRecDepth 100000 in
theorem mi_k256_15 : (((mi_tb 256).drop 45).take 3).all (mi_chl 256) = true := by decide +kernel
set_option maxRecDepth 100000 in
theorem mi_k256_16 : (((mi_tb 256).drop 48).take 3).all (mi_chl 256) = true := by decide +kernel
set_option maxRecDepth 100000 in
theorem mi_k256_17 : (((mi_tb 256).drop 51).take 3).all (mi_chl 256) = true := by decide +kernel
set_option maxRecDepth 100000 in
theorem mi_k256_18 : (((mi_tb 256).drop 54).take 3).all (mi_chl 256) = true := by decide +kernel
set_option maxRecDepth 100000 in
theorem mi_k256_19 : (((mi_tb 256).drop 57).take 3).all (mi_chl 256) = true := by decide +kernel
set_option maxRecDepth 100000 in
theorem mi_k256_20 : (((mi_tb 256).drop 60).take 3).all (mi_chl 256) = true := by decide +kernel
theorem mi_k256 : (mi_tb 256).all (mi_chl 256) = true := by
  have h : mi_tb 256 = ((mi_tb 256).drop 0).take 3 ++ ((mi_tb 256).drop 3).take 3 ++ ((mi_tb 256).drop 6).take 3 ++ ((mi_tb 256).drop 9).take 3 ++ ((mi_tb 256).drop 12).take 3 ++ ((mi_tb 256).drop 15).take 3 ++ ((mi_tb 256).drop 18).take 3 ++ ((mi_tb 256).drop 21).take 3 ++ ((mi_tb 256).drop 24).take 3 ++ ((mi_tb 256).drop 27).take 3 ++ ((mi_tb 256).drop 30).take 3 ++ ((mi_tb 256).drop 33).take 3 ++ ((mi_tb 256).drop 36).take 3 ++ ((mi_tb 256).drop 39).take 3 ++ ((mi_tb 256).drop 42).take 3 ++ ((mi_tb 256).drop 45).take 3 ++ ((mi_tb 256).drop 48).take 3 ++ ((mi_tb 256).drop 51).take 3 ++ ((mi_tb 256).drop 54).take 3 ++ ((mi_tb 256).drop 57).take 3 ++ ((mi_tb 256).drop 60).take 3 := rfl
  rw [h]; simp only [List.all_append, mi_k256_0, mi_k256_1, mi_k256_2, mi_k256_3, mi_k256_4, mi_k256_5, mi_k256_6, mi_k256_7, mi_k256_8, mi_k256_9, mi_k256_10, mi_k256_11, mi_k256_12, mi_k256_13, mi_k256_14, mi_k256_15, mi_k256_16, mi_k256_17, mi_k256_18, mi_k256_19, mi_k256_20, Bool.and_self]
set_option maxRecDepth 100000 in
theorem mi_k257 : (mi_tb 257).all (mi_chl 257) = true := by decide +kernel
set_option maxRecDepth 100000 in
theorem mi_k258 : (mi_tb 258).all (mi_chl 258) = true := by decide +kernel
set_option maxRecDepth 100000 in
theorem mi_k259 : (mi_tb 259).all (mi_chl 259) = true := by decide +kernel
set_option maxRecDepth 100000 in
theorem mi_k260 : (mi_tb 260).all (mi_chl 260) = true := by decide +kernel
set_option maxRecDepth 100000 in
theorem mi_k261 : (mi_tb 261).all (mi_chl 261) = true := by decide +kernel
end
section
/-! THE SMALL MACHINE'S CELLS IN THE HEAP -/
abbrev mi_X : Type := (Nat → Int32) × Nat
def mi_A (base : Nat) : Nat → Prop := fun q => base ≤ q
def mi_ro (X : mi_X) (r : Nat) (j : Int) : Int := bif Nat.blt r 1010 then (mi_sv.getD (r - 1000) []).getD j.toNat 0 else bif Nat.beq r 1010 then (X.1 j.toNat).toInt else (mi_sc.getD (r - 1020) []).getD j.toNat 0
def mi_rl (X : mi_X) (r : Nat) : Nat := bif Nat.blt r 1010 then 8 else bif Nat.beq r 1010 then X.2 else (mi_sc.getD (r - 1020) []).length
def mi_c (ad : Nat → Nat) : mi_V → Value
  | .inl z => .int (Int32.ofInt z)
  | .inr (.inl r) => va_rf (r.map ad)
  | .inr (.inr z) => .long (Int64.ofInt z)
noncomputable def mi_fv (ad : Nat → Nat) (c : Nat) (rf : Nat → Option Nat) (row : Int → Int) (k : Nat) : Value := bif mi_fr c k then va_rf ((rf k).map ad) else .int (Int32.ofInt (row (k : Int)))
noncomputable def mi_cl (ca : Nat → ClassId) (ad : Nat → Nat) (kd : Nat × Nat) (rf : Nat → Option Nat) (row : Int → Int) : va_E := match kd.1 with
  | 0 => .inl (ca 0, kd.2, .inl (fun j => Int32.ofInt (row (j : Int))))
  | 1 => .inl (ca 1, kd.2, .inl (fun j => Int32.ofInt (row (j : Int))))
  | 2 => .inl (ca 2, kd.2, .inr (.inl (fun j => Int64.ofInt (row (j : Int)))))
  | 3 => .inl (ca 3, kd.2, .inr (.inr (.inr (.inr (fun j => (rf j).map ad)))))
  | 4 => .inl (ca 4, kd.2, .inr (.inr (.inr (.inr (fun j => (rf j).map ad)))))
  | t + 5 => .inr (t - 5, (List.range kd.2).map (mi_fv ad (t - 5) rf row))
noncomputable def mi_W (ca : Nat → ClassId) (ad : Nat → Nat) (G : mi_G) (μ : mi_M) : va_W := (List.range G.2.2).map (fun i => (ad i, mi_cl ca ad (G.1 i) (G.2.1 i) (μ i)))
theorem mi_W_len (ca : Nat → ClassId) (ad : Nat → Nat) (G : mi_G) (μ : mi_M) : (mi_W ca ad G μ).length = G.2.2 := by simp [mi_W]
theorem mi_W_get {ca : Nat → ClassId} {ad : Nat → Nat} {G : mi_G} {μ : mi_M} {i : Nat} (h : i < G.2.2) : (mi_W ca ad G μ)[i]? = some (ad i, mi_cl ca ad (G.1 i) (G.2.1 i) (μ i)) := by
  simp [mi_W, h]
theorem mi_beq_t {a b : Nat} (h : a = b) : Nat.beq a b = true := by subst h; exact Nat.beq_refl a
theorem mi_beq_f {a b : Nat} (h : a ≠ b) : Nat.beq a b = false := by
  cases hb : Nat.beq a b with
  | false => rfl
  | true => exact absurd (Nat.eq_of_beq_eq_true hb) h
theorem mi_row_self (μ : mi_M) (r : Nat) (f : Int → Int) : mi_row μ r f r = f := by
  funext k; simp [mi_row]
theorem mi_row_ne {μ : mi_M} {r q : Nat} {f : Int → Int} (h : q ≠ r) : mi_row μ r f q = μ q := by
  funext k; simp [mi_row, mi_beq_f h]
theorem mi_set_row (μ : mi_M) (r : Nat) (j v : Int) : mi_set μ r j v = mi_row μ r (fun k => if k = j then v else μ r k) := by
  funext q k
  by_cases h : q = r
  · subst h; simp [mi_set, mi_row]
  · simp [mi_set, mi_row, mi_beq_f h]
theorem mi_up_self {α : Type} (f : Nat → α) (r : Nat) (v : α) : mi_up f r v r = v := by simp [mi_up]
theorem mi_up_ne {α : Type} {f : Nat → α} {r q : Nat} {v : α} (h : q ≠ r) : mi_up f r v q = f q := by simp [mi_up, mi_beq_f h]
/-- a cell's numbers are others -/
theorem mi_W_row {ca : Nat → ClassId} {ad : Nat → Nat} {G : mi_G} {μ : mi_M} {r : Nat} (f : Int → Int) (h : r < G.2.2) : (mi_W ca ad G μ).set r (ad r, mi_cl ca ad (G.1 r) (G.2.1 r) f) = mi_W ca ad G (mi_row μ r f) := by
  apply List.ext_getElem?
  intro i
  by_cases hi : i < G.2.2
  · rw [mi_W_get hi]
    by_cases e : r = i
    · subst e
      rw [List.getElem?_set_self (by rw [mi_W_len]; exact h), mi_row_self]
    · rw [List.getElem?_set_ne e, mi_W_get hi, mi_row_ne (fun h => e h.symm)]
  · rw [List.getElem?_eq_none (by rw [List.length_set, mi_W_len]; omega), List.getElem?_eq_none (by rw [mi_W_len]; omega)]
/-- a cell's references are others -/
theorem mi_W_ref {ca : Nat → ClassId} {ad : Nat → Nat} {G : mi_G} {μ : mi_M} {r : Nat} (f : Nat → Option Nat) (h : r < G.2.2) : (mi_W ca ad G μ).set r (ad r, mi_cl ca ad (G.1 r) f (μ r)) = mi_W ca ad (G.1, mi_up G.2.1 r f, G.2.2) μ := by
  apply List.ext_getElem?
  intro i
  by_cases hi : i < G.2.2
  · rw [mi_W_get (G := (G.1, mi_up G.2.1 r f, G.2.2)) hi]
    by_cases e : r = i
    · subst e
      rw [List.getElem?_set_self (by rw [mi_W_len]; exact h)]
      simp only [mi_up_self]
    · rw [List.getElem?_set_ne e, mi_W_get hi]
      simp only [mi_up_ne (fun h => e h.symm)]
  · rw [List.getElem?_eq_none (by rw [List.length_set, mi_W_len]; omega), List.getElem?_eq_none (by rw [mi_W_len]; exact Nat.le_of_not_lt hi)]
/-- values and references name cells that are there -/
def mi_vo (n : Nat) (v : mi_V) : Prop := ∀ r, v = .inr (.inl (some r)) → r < n ∨ 1000 ≤ r
def mi_wf (G : mi_G) : Prop := G.2.2 ≤ 999 ∧ (∀ i k j, i < G.2.2 → G.2.1 i k = some j → j < G.2.2) ∧ ∀ i, i < G.2.2 → (G.1 i).2 ≤ 4096 ∧ ((G.1 i).1 ≤ 4 ∨ 10 ≤ (G.1 i).1 ∧ (G.1 i).1 < 23 ∧ (G.1 i).2 = mi_cn ((G.1 i).1 - 10))
def mi_ag (Ge G : mi_G) : Prop := Ge.2.2 ≤ G.2.2 ∧ ∀ i, i < Ge.2.2 → G.1 i = Ge.1 i ∧ G.2.1 i = Ge.2.1 i
theorem mi_c_ad {ad ad' : Nat → Nat} {n : Nat} {v : mi_V} (h : mi_vo n v) (he : ∀ i, i < n → ad' i = ad i) (hs : ∀ i, 1000 ≤ i → ad' i = ad i) : mi_c ad' v = mi_c ad v := by
  match v with
  | .inl z => rfl
  | .inr (.inr z) => rfl
  | .inr (.inl none) => rfl
  | .inr (.inl (some r)) =>
    have e : ad' r = ad r := (h r rfl).elim (he r) (hs r)
    show va_rf (some (ad' r)) = va_rf (some (ad r))
    rw [e]
theorem mi_cl_ad {ca : Nat → ClassId} {ad ad' : Nat → Nat} {kd : Nat × Nat} {rf : Nat → Option Nat} {row : Int → Int} (he : ∀ k j, rf k = some j → ad' j = ad j) : mi_cl ca ad' kd rf row = mi_cl ca ad kd rf row := by
  have e1 : ∀ k, (rf k).map ad' = (rf k).map ad := by
    intro k
    cases hk : rf k with
    | none => rfl
    | some j => simp [he k j hk]
  have e2 : ∀ c, mi_fv ad' c rf row = mi_fv ad c rf row := by
    intro c; funext k; simp only [mi_fv, e1]
  simp only [mi_cl, e1, e2]
/-- the cells that there are, by addresses that agree there -/
theorem mi_W_ad {ca : Nat → ClassId} {ad ad' : Nat → Nat} {G : mi_G} {μ : mi_M} (hw : ∀ i k j, i < G.2.2 → G.2.1 i k = some j → j < G.2.2) (he : ∀ i, i < G.2.2 → ad' i = ad i) : mi_W ca ad' G μ = mi_W ca ad G μ := by
  apply List.ext_getElem?
  intro i
  by_cases hi : i < G.2.2
  · rw [mi_W_get hi, mi_W_get hi, he i hi, mi_cl_ad (fun k j h => he j (hw i k j hi h))]
  · rw [List.getElem?_eq_none (by rw [mi_W_len]; omega), List.getElem?_eq_none (by rw [mi_W_len]; omega)]
/-- fewer cells, which are the same -/
theorem mi_W_take {ca : Nat → ClassId} {ad : Nat → Nat} {Ge G : mi_G} {μ : mi_M} (h : mi_ag Ge G) : ∀ (i : Nat) (q : Nat × va_E), (mi_W ca ad Ge μ)[i]? = some q → (mi_W ca ad G μ)[i]? = some q := by
  intro i q hq
  have hi : i < Ge.2.2 := by
    have := (List.getElem?_eq_some_iff.mp hq).1
    rwa [mi_W_len] at this
  rw [mi_W_get hi] at hq
  rw [mi_W_get (Nat.lt_of_lt_of_le hi h.1), (h.2 i hi).1, (h.2 i hi).2]
  exact hq
/-- one cell more -/
theorem mi_W_push {ca : Nat → ClassId} {ad : Nat → Nat} {G : mi_G} {μ : mi_M} {q : Nat} {kd : Nat × Nat} {rf : Nat → Option Nat} {row : Int → Int} (hw : ∀ i k j, i < G.2.2 → G.2.1 i k = some j → j < G.2.2) (hr : ∀ k, rf k = none) :
    mi_W ca ad G μ ++ [(q, mi_cl ca ad kd rf row)] = mi_W ca (mi_up ad G.2.2 q) (mi_up G.1 G.2.2 kd, mi_up G.2.1 G.2.2 rf, G.2.2 + 1) (mi_row μ G.2.2 row) := by
  apply List.ext_getElem?
  intro i
  by_cases hi : i < G.2.2
  · rw [List.getElem?_append_left (by rw [mi_W_len]; exact hi), mi_W_get hi, mi_W_get (G := (mi_up G.1 G.2.2 kd, mi_up G.2.1 G.2.2 rf, G.2.2 + 1)) (show i < G.2.2 + 1 by omega)]
    have e : i ≠ G.2.2 := by omega
    simp only [mi_up_ne e, mi_row_ne e]
    rw [mi_cl_ad (ad' := mi_up ad G.2.2 q) (ad := ad)]
    intro k j hk
    exact mi_up_ne (Nat.ne_of_lt (hw i k j hi hk))
  · by_cases e : i = G.2.2
    · subst e
      rw [List.getElem?_append_right (by rw [mi_W_len]; omega), mi_W_len, Nat.sub_self, mi_W_get (G := (mi_up G.1 G.2.2 kd, mi_up G.2.1 G.2.2 rf, G.2.2 + 1)) (show G.2.2 < G.2.2 + 1 by omega)]
      simp only [mi_up_self, mi_row_self]
      rw [mi_cl_ad (ad' := mi_up ad G.2.2 q) (ad := ad)]
      · rfl
      · intro k j hk; rw [hr k] at hk; cases hk
    · rw [List.getElem?_eq_none (by rw [List.length_append, mi_W_len]; simp only [List.length_cons, List.length_nil]; omega), List.getElem?_eq_none (by rw [mi_W_len]; show G.2.2 + 1 ≤ i; omega)]
/-! integers and ints -/
theorem mi_wr_toInt (z : Int) : (Int32.ofInt z).toInt = mi_wr z := Int32.toInt_ofInt
theorem mi_of_toInt (x : Int32) : Int32.ofInt x.toInt = x := Int32.ofInt_toInt x
theorem mi_wr_lt {a b : Int} : Int32.ofInt a < Int32.ofInt b ↔ mi_wr a < mi_wr b := by
  rw [Int32.lt_iff_toInt_lt, mi_wr_toInt, mi_wr_toInt]
theorem mi_wr_eq {a b : Int} : Int32.ofInt a = Int32.ofInt b ↔ mi_wr a = mi_wr b := by
  rw [← mi_wr_toInt, ← mi_wr_toInt]
  exact ⟨fun h => by rw [h], fun h => Int32.toInt_inj.mp h⟩
theorem mi_wr_id {z : Int} (h1 : -2147483648 ≤ z) (h2 : z < 2147483648) : mi_wr z = z := Int.bmod_eq_of_le (by omega) (by omega)
theorem mi_ix {j : Int} {n : Nat} (h : 0 ≤ j ∧ j < (n : Int)) (hn : n < 2147483648) : vp_in (Int32.ofInt j) n ∧ (Int32.ofInt j).toNatClampNeg = j.toNat := by
  have e : Int32.ofInt j = nI j.toNat := by
    unfold nI
    rw [← Int32.ofInt_eq_ofNat]
    congr 1
    omega
  have hk : j.toNat < n := by omega
  rw [e]
  exact ⟨vp_in_nI hk (by omega), nI_clamp (by omega)⟩
end
section
/-! WHAT STANDS AROUND: the tables' words, the statics, the script, the texts; all of it lies below 'base' and never changes -/
def mi_gw : Cond → Bool
  | .fieldLinkNest _ _ _ _ _ _ => true
  | .methodLinkNest _ _ _ _ => true
  | .castable _ _ => true
  | w => goodWord w
theorem mi_gw_at {s U : State} {a a' : Array Value} (hW : s.WarmedH U.vm) {w : Cond} (hg : mi_gw w = true) (h : w.before a s = true) : w.before a' U = true := by
  cases w <;> first
    | exact word_at hW (good_of_word hg) h
    | exact va_Nw.use rfl (va_Nw.warmF hW (va_Nw.of rfl h))
    | exact va_Nw.use rfl (va_Nw.warmM hW (va_Nw.of rfl h))
    | exact va_Nw.use rfl (va_Nw.warmC hW (va_Nw.of rfl h))
def mi_len : List Nat := mi_sc.map List.length
def mi_byt : List (List Int32) := mi_sc.map (fun l => l.map Int32.ofInt)
/-- the texts -/
noncomputable def mi_eS (base : Nat) (sa : Nat → Nat) (U : State) (H : Heap) : Prop :=
  (∀ e ∈ mi_TL, vk_R (mi_rs e.1) e.2.1 (mi_ss.getD (e.2.2 - 1020) "") (sa e.2.2) U) ∧ (∃ adV : Nat → Nat, vk_S 9 mi_len mi_byt (fun i => sa (1020 + i)) adV (mi_A base) U H) ∧ va_Z "java/lang/String" "COMPACT_STRINGS" "Z" (.int 1) (mi_A base) U H
/-- what a throw wants -/
def mi_eT (base : Nat) (U : State) (H : Heap) : Prop :=
  (∃ q : Nat, vk_R RX11 302 "no such place" q U) ∧ vx_Zq Bundle.tN "UNASSIGNED_STACK" Bundle.steD (mi_A base) U H ∧ vx_Zq Bundle.tN "SUPPRESSED_SENTINEL" Bundle.listD (mi_A base) U H
abbrev mi_ty (ca : Nat → ClassId) : List (ClassId × FieldType) := [(ca 0, .int), (ca 1, .byte), (ca 2, .long), (ca 3, .object RX9), (ca 4, .object RX0)]
noncomputable def mi_env (X : mi_X) (base : Nat) (D : va_G) (ca : Nat → ClassId) (sa : Nat → Nat) (U : State) (H : Heap) : Prop :=
  (∀ w ∈ lw_tbl, mi_gw w = true → w.before #[] U = true) ∧ va_K D vwCl (mi_ty ca) U ∧
  (∀ j, j < 6 → va_Z "TwoViews" (mi_sn.getD j "") "[I" (.ref (sa (1000 + j))) (mi_A base) U H ∧ va_T .int (sa (1000 + j)) 8 (fun i => .int (Int32.ofInt ((mi_sv.getD j []).getD i 0))) (mi_A base) U H) ∧
  (va_X (sa 1010) X.2 X.1 U H ∧ sa 1010 < base ∧ X.2 < 2147483648 ∧ base ≤ H.size) ∧ mi_eS base sa U H ∧ mi_eT base U H ∧ va_AO RX9 U ∧ va_AO RX0 U
theorem mi_env.go {X : mi_X} {base : Nat} {D : va_G} {ca : Nat → ClassId} {sa : Nat → Nat} {s U : State} {H0 H : Heap} (h : mi_env X base D ca sa s H0) (hW : s.WarmedH U.vm) (hz : H0.size ≤ H.size) (hk : ∀ q : Nat, q < H0.size → ¬ mi_A base q → H[q]? = H0[q]?) : mi_env X base D ca sa U H := by
  obtain ⟨h1, h2, h3, ⟨⟨scr, x1, x2, x3, x4, x5⟩, x6, x7, x8⟩, ⟨s1, ⟨adV, s2⟩, s3⟩, ⟨⟨q, t1⟩, t2, t3⟩, h8, h9⟩ := h
  have hv := hW.alike
  refine ⟨fun w hw hg => mi_gw_at hW hg (h1 w hw hg), va_K.moved hv h2, fun j hj => ⟨(((h3 j hj).1).kept hk).moved hv, (((h3 j hj).2).kept hk).moved hv⟩, ⟨⟨scr, ?_, State.isArrayOf_alike hv x2, x3, x4, x5⟩, x6, x7, Nat.le_trans x8 hz⟩, ⟨fun e he => (s1 e he).warm hW, ⟨adV, (s2.kept hk).moved hv⟩, (s3.kept hk).moved hv⟩, ⟨⟨q, t1.warm hW⟩, (t2.kept hk).moved hv, (t3.kept hk).moved hv⟩, h8.moved hv, h9.moved hv⟩
  rw [hk _ (Nat.lt_of_lt_of_le x6 x8) (by unfold mi_A; omega)]
  exact x1
theorem mi_env.w {X : mi_X} {base : Nat} {D : va_G} {ca : Nat → ClassId} {sa : Nat → Nat} {U : State} {H : Heap} (h : mi_env X base D ca sa U H) {w : Cond} (hw : w ∈ lw_tbl) (hg : mi_gw w = true) {a : Array Value} : w.before a U = true := mi_gw_at (State.WarmedH.refl U) hg (h.1 w hw hg)
/-- a world of the small machine behind a method -/
noncomputable def mi_wl (base : Nat) (D : va_G) (ca : Nat → ClassId) (sa adE : Nat → Nat) (nE : Nat) (ad : Nat → Nat) (G : mi_G) (μ : mi_M) (H : Heap) : Prop :=
  va_P D vwCl (mi_W ca ad G μ) H ∧ va_D (mi_A base) (mi_W ca ad G μ) ∧ (∀ i, 1000 ≤ i → ad i = sa i) ∧ (∀ i, i < nE → ad i = adE i) ∧ nE ≤ G.2.2 ∧ mi_wf G
noncomputable def mi_Pc (X : mi_X) (base : Nat) (D : va_G) (ca : Nat → ClassId) (sa ad : Nat → Nat) (G : mi_G) (μ : mi_M) (as : List mi_V) : Array Value → State → Prop := fun a U =>
  a = (as.map (mi_c ad)).toArray ∧ mi_env X base D ca sa U U.heap ∧ mi_wl base D ca sa ad G.2.2 ad G μ U.heap ∧ ∀ v ∈ as, mi_vo G.2.2 v
noncomputable def mi_Qc (base : Nat) (D : va_G) (ca : Nat → ClassId) (sa adE : Nat → Nat) (nE : Nat) (Q : mi_R → mi_G → mi_M → Prop) : Array Value → State → Outcome → State → Prop := fun _ st o t =>
  (∃ (v : Option mi_V) (G' : mi_G) (μ' : mi_M) (ad' : Nat → Nat), o = .returned (v.map (mi_c ad')) ∧ Q (.inl v) G' μ' ∧ mi_wl base D ca sa adE nE ad' G' μ' t.heap ∧ ∀ x, v = some x → mi_vo G'.2.2 x) ∧ va_F (mi_A base) st t
noncomputable def mi_XC (base : Nat) (D : va_G) (ca : Nat → ClassId) (sa adE : Nat → Nat) (nE : Nat) (Q : mi_R → mi_G → mi_M → Prop) : String → State → State → Prop := fun E st t =>
  E = "java/util/NoSuchElementException" ∧ (∃ (G' : mi_G) (μ' : mi_M) (ad' : Nat → Nat), Q (.inr ()) G' μ' ∧ mi_wl base D ca sa adE nE ad' G' μ' t.heap) ∧ va_F (mi_A base) st t
noncomputable def mi_room (k : Nat) (b : mi_U) : Room := { frames := (mi_rm k).1, cells := b.1, slots := b.2, locals := (mi_rm k).2 }
/-- a call's contract -/
noncomputable def mi_cok (X : mi_X) (k : Nat) (as : List mi_V) (G : mi_G) (μ : mi_M) (b : mi_U) (Q : mi_R → mi_G → mi_M → Prop) : Prop :=
  ∀ (base : Nat) (D : va_G) (ca : Nat → ClassId) (sa ad : Nat → Nat) (l : Launch), l.stackTraces = false →
    vx_Met l (mi_nm k) [mi_w k] (mi_room k b) (mi_Pc X base D ca sa ad G μ as) (mi_Qc base D ca sa ad G.2.2 Q) (mi_XC base D ca sa ad G.2.2 Q) b.1 b.2 (mi_A base)
/-- a method's body stands -/
noncomputable def mi_AF (X : mi_X) (base : Nat) (D : va_G) (ca : Nat → ClassId) (sa : Nat → Nat) (k : Nat) (p : Program) (l : Launch) (R : Room) (s : State) (m : MethodId) (meth : Method) (c : Code) : Prop :=
  p.tables.exec = Jvm.exec ∧ c.code = mi_cd k ∧ c.maxLocals = (mi_hd k).2.1 ∧ meth.sig.returnType = mi_rt k ∧ s.vm.findClass (mi_rs (mi_on k)) = some m.cls ∧ meth.locks = false ∧ (mi_ini k = true → meth.name = "<init>") ∧ c.exceptionTable.toList = tableOf (mi_hh k) ∧ l.stackTraces = false ∧ (mi_rm k).1 ≤ R.frames ∧ (mi_rm k).2 ≤ R.locals ∧ mi_env X base D ca sa s s.heap
noncomputable def mi_SF (base : Nat) (D : va_G) (ca : Nat → ClassId) (sa adE : Nat → Nat) (k : Nat) (Ge : mi_G) (ls : mi_L) (st : mi_S) (G : mi_G) (μ : mi_M) (u : mi_U) (R : Room) (s : State) (ad : Nat → Nat) (la : Array Slot) (H : Heap) (locs : List Loc) (cells slots : Nat) : Prop :=
  ls.length = (mi_hd k).2.1 ∧ la.size = (mi_hd k).2.1 ∧ lv_wf la ∧ (∀ i v, mi_lget ls i = some v → la[i]? = some (.val (mi_c ad v)) ∧ mi_vo G.2.2 v ∧ ∀ z, v ≠ .inr (.inr z)) ∧ (∀ v ∈ st, mi_vo G.2.2 v) ∧
  mi_wl base D ca sa adE Ge.2.2 ad G μ H ∧ va_S (mi_A base) s.heap H locs ∧ ((mi_hd k).2.2.2.1 = false → mi_ag Ge G ∧ mi_wf Ge) ∧ cells + u.1 ≤ R.cells ∧ slots + u.2 ≤ R.slots
/-- from here on the method ends as Q says -/
noncomputable def mi_ok (X : mi_X) (k : Nat) (Ge : mi_G) (Q : mi_R → mi_G → mi_M → Prop) (pc : Nat) (ls : mi_L) (st : mi_S) (G : mi_G) (μ : mi_M) (u : mi_U) : Prop :=
  ∀ (base : Nat) (D : va_G) (ca : Nat → ClassId) (sa adE : Nat → Nat) (p : Program) (l : Launch) (e : Env) (R : Room) (s : State) (m : MethodId) (args : Array Value) (below : List Frame) (meth : Method) (c : Code), mi_AF X base D ca sa k p l R s m meth c →
    ∀ (ad : Nat → Nat) (la : Array Slot) (H : Heap) (locs : List Loc) (cells slots : Nat), mi_SF base D ca sa adE k Ge ls st G μ u R s ad la H locs cells slots →
      W p l e R s m args below meth c H locs cells slots (vx_MQ below (mi_Qc base D ca sa adE Ge.2.2 Q) (mi_XC base D ca sa adE Ge.2.2 Q) args s R.cells R.slots (mi_A base)) (F0 m pc la (st.map (mi_c ad)))
theorem mi_lget_len : ∀ (ls : mi_L) (i : Nat) (v : mi_V), mi_lget ls i = some v → i < ls.length
  | [], _, _, h => by simp [mi_lget] at h
  | _ :: _, 0, _, _ => by simp
  | _ :: l, n + 1, v, h => by
    have := mi_lget_len l n v h
    simp only [List.length_cons]; omega
theorem mi_lget_get : ∀ (ls : mi_L) (i : Nat) (v : mi_V), mi_lget ls i = some v ↔ ls[i]? = some (some v)
  | [], i, v => by simp [mi_lget]
  | x :: l, 0, v => by simp [mi_lget]
  | _ :: l, n + 1, v => by
    have := mi_lget_get l n v
    simp only [mi_lget, List.getElem?_cons_succ]; exact this
theorem mi_lset_get : ∀ (ls : mi_L) (i j : Nat) (x : Option mi_V) (v : mi_V), mi_lget (mi_lset ls i x) j = some v → (j = i ∧ x = some v) ∨ (j ≠ i ∧ mi_lget ls j = some v)
  | [], i, j, x, v, h => by cases i <;> simp [mi_lset, mi_lget] at h
  | y :: l, 0, 0, x, v, h => by simp [mi_lset, mi_lget] at h; exact Or.inl ⟨rfl, h⟩
  | y :: l, 0, j + 1, x, v, h => by simp [mi_lset, mi_lget] at h; exact Or.inr ⟨by omega, h⟩
  | y :: l, i + 1, 0, x, v, h => by simp [mi_lset, mi_lget] at h; exact Or.inr ⟨by omega, h⟩
  | y :: l, i + 1, j + 1, x, v, h => by
    simp only [mi_lset, mi_lget] at h ⊢
    rcases mi_lset_get l i j x v h with ⟨h1, h2⟩ | ⟨h1, h2⟩
    · exact Or.inl ⟨by omega, h2⟩
    · exact Or.inr ⟨by omega, h2⟩
theorem mi_lset_len : ∀ (ls : mi_L) (i : Nat) (x : Option mi_V), (mi_lset ls i x).length = ls.length
  | [], i, x => by cases i <;> rfl
  | _ :: _, 0, _ => rfl
  | _ :: l, n + 1, x => by simp only [mi_lset, List.length_cons, mi_lset_len l n x]
def mi_nl : List mi_V → Bool
  | [] => true
  | .inr (.inr _) :: _ => false
  | _ :: r => mi_nl r
theorem mi_nl_cat {ad : Nat → Nat} : ∀ {as : List mi_V}, mi_nl as = true → ∀ v ∈ as.map (mi_c ad), v.category = 1
  | [], _, v, h => absurd h (by simp)
  | .inl z :: r, hn, v, h => by
    rcases List.mem_cons.mp h with e | h'
    · subst e; rfl
    · exact mi_nl_cat (as := r) hn v h'
  | .inr (.inl q) :: r, hn, v, h => by
    rcases List.mem_cons.mp h with e | h'
    · subst e; cases q <;> rfl
    · exact mi_nl_cat (as := r) hn v h'
  | .inr (.inr z) :: r, hn, v, h => by simp [mi_nl] at hn
end
section
/-! every row of every method is checked -/
theorem mi_ka0 : ∀ k ∈ [0, 1, 2, 3, 4, 5, 6, 7, 8, 9, 10, 11, 12, 13, 14, 15, 16, 17, 18, 19, 20, 21, 22, 23, 24, 25, 26, 27, 28, 29, 30, 31], (mi_tb k).all (mi_chl k) = true := List.forall_mem_cons.mpr ⟨mi_k0, List.forall_mem_cons.mpr ⟨mi_k1, List.forall_mem_cons.mpr ⟨mi_k2, List.forall_mem_cons.mpr ⟨mi_k3, List.forall_mem_cons.mpr ⟨mi_k4, List.forall_mem_cons.mpr ⟨mi_k5, List.forall_mem_cons.mpr ⟨mi_k6, List.forall_mem_cons.mpr ⟨mi_k7, List.forall_mem_cons.mpr ⟨mi_k8, List.forall_mem_cons.mpr ⟨mi_k9, List.forall_mem_cons.mpr ⟨mi_k10, List.forall_mem_cons.mpr ⟨mi_k11, List.forall_mem_cons.mpr ⟨mi_k12, List.forall_mem_cons.mpr ⟨mi_k13, List.forall_mem_cons.mpr ⟨mi_k14, List.forall_mem_cons.mpr ⟨mi_k15, List.forall_mem_cons.mpr ⟨mi_k16, List.forall_mem_cons.mpr ⟨mi_k17, List.forall_mem_cons.mpr ⟨mi_k18, List.forall_mem_cons.mpr ⟨mi_k19, List.forall_mem_cons.mpr ⟨mi_k20, List.forall_mem_cons.mpr ⟨mi_k21, List.forall_mem_cons.mpr ⟨mi_k22, List.forall_mem_cons.mpr ⟨mi_k23, List.forall_mem_cons.mpr ⟨mi_k24, List.forall_mem_cons.mpr ⟨mi_k25, List.forall_mem_cons.mpr ⟨mi_k26, List.forall_mem_cons.mpr ⟨mi_k27, List.forall_mem_cons.mpr ⟨mi_k28, List.forall_mem_cons.mpr ⟨mi_k29, List.forall_mem_cons.mpr ⟨mi_k30, List.forall_mem_cons.mpr ⟨mi_k31, fun _ h => absurd h List.not_mem_nil⟩⟩⟩⟩⟩⟩⟩⟩⟩⟩⟩⟩⟩⟩⟩⟩⟩⟩⟩⟩⟩⟩⟩⟩⟩⟩⟩⟩⟩⟩⟩⟩
theorem mi_ka1 : ∀ k ∈ [32, 33, 34, 35, 36, 37, 38, 39, 40, 41, 42, 43, 44, 45, 46, 47, 48, 49, 50, 51, 52, 53, 54, 55, 56, 57, 58, 59, 60, 61, 62, 63], (mi_tb k).all (mi_chl k) = true := List.forall_mem_cons.mpr ⟨mi_k32, List.forall_mem_cons.mpr ⟨mi_k33, List.forall_mem_cons.mpr ⟨mi_k34, List.forall_mem_cons.mpr ⟨mi_k35, List.forall_mem_cons.mpr ⟨mi_k36, List.forall_mem_cons.mpr ⟨mi_k37, List.forall_mem_cons.mpr ⟨mi_k38, List.forall_mem_cons.mpr ⟨mi_k39, List.forall_mem_cons.mpr ⟨mi_k40, List.forall_mem_cons.mpr ⟨mi_k41, List.forall_mem_cons.mpr ⟨mi_k42, List.forall_mem_cons.mpr ⟨mi_k43, List.forall_mem_cons.mpr ⟨mi_k44, List.forall_mem_cons.mpr ⟨mi_k45, List.forall_mem_cons.mpr ⟨mi_k46, List.forall_mem_cons.mpr ⟨mi_k47, List.forall_mem_cons.mpr ⟨mi_k48, List.forall_mem_cons.mpr ⟨mi_k49, List.forall_mem_cons.mpr ⟨mi_k50, List.forall_mem_cons.mpr ⟨mi_k51, List.forall_mem_cons.mpr ⟨mi_k52, List.forall_mem_cons.mpr ⟨mi_k53, List.forall_mem_cons.mpr ⟨mi_k54, List.forall_mem_cons.mpr ⟨mi_k55, List.forall_mem_cons.mpr ⟨mi_k56, List.forall_mem_cons.mpr ⟨mi_k57, List.forall_mem_cons.mpr ⟨mi_k58, List.forall_mem_cons.mpr ⟨mi_k59, List.forall_mem_cons.mpr ⟨mi_k60, List.forall_mem_cons.mpr ⟨mi_k61, List.forall_mem_cons.mpr ⟨mi_k62, List.forall_mem_cons.mpr ⟨mi_k63, fun _ h => absurd h List.not_mem_nil⟩⟩⟩⟩⟩⟩⟩⟩⟩⟩⟩⟩⟩⟩⟩⟩⟩⟩⟩⟩⟩⟩⟩⟩⟩⟩⟩⟩⟩⟩⟩⟩
theorem mi_ka2 : ∀ k ∈ [64, 65, 66, 67, 68, 69, 70, 71, 72, 73, 74, 75, 76, 77, 78, 79, 80, 81, 82, 83, 84, 85, 86, 87, 88, 89, 90, 91, 92, 93, 94, 95], (mi_tb k).all (mi_chl k) = true := List.forall_mem_cons.mpr ⟨mi_k64, List.forall_mem_cons.mpr ⟨mi_k65, List.forall_mem_cons.mpr ⟨mi_k66, List.forall_mem_cons.mpr ⟨mi_k67, List.forall_mem_cons.mpr ⟨mi_k68, List.forall_mem_cons.mpr ⟨mi_k69, List.forall_mem_cons.mpr ⟨mi_k70, List.forall_mem_cons.mpr ⟨mi_k71, List.forall_mem_cons.mpr ⟨mi_k72, List.forall_mem_cons.mpr ⟨mi_k73, List.forall_mem_cons.mpr ⟨mi_k74, List.forall_mem_cons.mpr ⟨mi_k75, List.forall_mem_cons.mpr ⟨mi_k76, List.forall_mem_cons.mpr ⟨mi_k77, List.forall_mem_cons.mpr ⟨mi_k78, List.forall_mem_cons.mpr ⟨mi_k79, List.forall_mem_cons.mpr ⟨mi_k80, List.forall_mem_cons.mpr ⟨mi_k81, List.forall_mem_cons.mpr ⟨mi_k82, List.forall_mem_cons.mpr ⟨mi_k83, List.forall_mem_cons.mpr ⟨mi_k84, List.forall_mem_cons.mpr ⟨mi_k85, List.forall_mem_cons.mpr ⟨mi_k86, List.forall_mem_cons.mpr ⟨mi_k87, List.forall_mem_cons.mpr ⟨mi_k88, List.forall_mem_cons.mpr ⟨mi_k89, List.forall_mem_cons.mpr ⟨mi_k90, List.forall_mem_cons.mpr ⟨mi_k91, List.forall_mem_cons.mpr ⟨mi_k92, List.forall_mem_cons.mpr ⟨mi_k93, List.forall_mem_cons.mpr ⟨mi_k94, List.forall_mem_cons.mpr ⟨mi_k95, fun _ h => absurd h List.not_mem_nil⟩⟩⟩⟩⟩⟩⟩⟩⟩⟩⟩⟩⟩⟩⟩⟩⟩⟩⟩⟩⟩⟩⟩⟩⟩⟩⟩⟩⟩⟩⟩⟩
theorem mi_ka3 : ∀ k ∈ [96, 97, 98, 99, 100, 101, 102, 103, 104, 105, 106, 107, 108, 109, 110, 111, 112, 113, 114, 115, 116, 117, 118, 119, 120, 121, 122, 123, 124, 125, 126, 127], (mi_tb k).all (mi_chl k) = true := List.forall_mem_cons.mpr ⟨mi_k96, List.forall_mem_cons.mpr ⟨mi_k97, List.forall_mem_cons.mpr ⟨mi_k98, List.forall_mem_cons.mpr ⟨mi_k99, List.forall_mem_cons.mpr ⟨mi_k100, List.forall_mem_cons.mpr ⟨mi_k101, List.forall_mem_cons.mpr ⟨mi_k102, List.forall_mem_cons.mpr ⟨mi_k103, List.forall_mem_cons.mpr ⟨mi_k104, List.forall_mem_cons.mpr ⟨mi_k105, List.forall_mem_cons.mpr ⟨mi_k106, List.forall_mem_cons.mpr ⟨mi_k107, List.forall_mem_cons.mpr ⟨mi_k108, List.forall_mem_cons.mpr ⟨mi_k109, List.forall_mem_cons.mpr ⟨mi_k110, List.forall_mem_cons.mpr ⟨mi_k111, List.forall_mem_cons.mpr ⟨mi_k112, List.forall_mem_cons.mpr ⟨mi_k113, List.forall_mem_cons.mpr ⟨mi_k114, List.forall_mem_cons.mpr ⟨mi_k115, List.forall_mem_cons.mpr ⟨mi_k116, List.forall_mem_cons.mpr ⟨mi_k117, List.forall_mem_cons.mpr ⟨mi_k118, List.forall_mem_cons.mpr ⟨mi_k119, List.forall_mem_cons.mpr ⟨mi_k120, List.forall_mem_cons.mpr ⟨mi_k121, List.forall_mem_cons.mpr ⟨mi_k122, List.forall_mem_cons.mpr ⟨mi_k123, List.forall_mem_cons.mpr ⟨mi_k124, List.forall_mem_cons.mpr ⟨mi_k125, List.forall_mem_cons.mpr ⟨mi_k126, List.forall_mem_cons.mpr ⟨mi_k127, fun _ h => absurd h List.not_mem_nil⟩⟩⟩⟩⟩⟩⟩⟩⟩⟩⟩⟩⟩⟩⟩⟩⟩⟩⟩⟩⟩⟩⟩⟩⟩⟩⟩⟩⟩⟩⟩⟩
theorem mi_ka4 : ∀ k ∈ [128, 129, 130, 131, 132, 133, 134, 135, 136, 137, 138, 139, 140, 141, 142, 143, 144, 145, 146, 147, 148, 149, 150, 151, 152, 153, 154, 155, 156, 157, 158, 159], (mi_tb k).all (mi_chl k) = true := List.forall_mem_cons.mpr ⟨mi_k128, List.forall_mem_cons.mpr ⟨mi_k129, List.forall_mem_cons.mpr ⟨mi_k130, List.forall_mem_cons.mpr ⟨mi_k131, List.forall_mem_cons.mpr ⟨mi_k132, List.forall_mem_cons.mpr ⟨mi_k133, List.forall_mem_cons.mpr ⟨mi_k134, List.forall_mem_cons.mpr ⟨mi_k135, List.forall_mem_cons.mpr ⟨mi_k136, List.forall_mem_cons.mpr ⟨mi_k137, List.forall_mem_cons.mpr ⟨mi_k138, List.forall_mem_cons.mpr ⟨mi_k139, List.forall_mem_cons.mpr ⟨mi_k140, List.forall_mem_cons.mpr ⟨mi_k141, List.forall_mem_cons.mpr ⟨mi_k142, List.forall_mem_cons.mpr ⟨mi_k143, List.forall_mem_cons.mpr ⟨mi_k144, List.forall_mem_cons.mpr ⟨mi_k145, List.forall_mem_cons.mpr ⟨mi_k146, List.forall_mem_cons.mpr ⟨mi_k147, List.forall_mem_cons.mpr ⟨mi_k148, List.forall_mem_cons.mpr ⟨mi_k149, List.forall_mem_cons.mpr ⟨mi_k150, List.forall_mem_cons.mpr ⟨mi_k151, List.forall_mem_cons.mpr ⟨mi_k152, List.forall_mem_cons.mpr ⟨mi_k153, List.forall_mem_cons.mpr ⟨mi_k154, List.forall_mem_cons.mpr ⟨mi_k155, List.forall_mem_cons.mpr ⟨mi_k156, List.forall_mem_cons.mpr ⟨mi_k157, List.forall_mem_cons.mpr ⟨mi_k158, List.forall_mem_cons.mpr ⟨mi_k159, fun _ h => absurd h List.not_mem_nil⟩⟩⟩⟩⟩⟩⟩⟩⟩⟩⟩⟩⟩⟩⟩⟩⟩⟩⟩⟩⟩⟩⟩⟩⟩⟩⟩⟩⟩⟩⟩⟩
theorem mi_ka5 : ∀ k ∈ [160, 161, 162, 163, 164, 165, 166, 167, 168, 169, 170, 171, 172, 173, 174, 175, 176, 177, 178, 179, 180, 181, 182, 183, 184, 185, 186, 187, 188, 189, 190, 191], (mi_tb k).all (mi_chl k) = true := List.forall_mem_cons.mpr ⟨mi_k160, List.forall_mem_cons.mpr ⟨mi_k161, List.forall_mem_cons.mpr ⟨mi_k162, List.forall_mem_cons.mpr ⟨mi_k163, List.forall_mem_cons.mpr ⟨mi_k164, List.forall_mem_cons.mpr ⟨mi_k165, List.forall_mem_cons.mpr ⟨mi_k166, List.forall_mem_cons.mpr ⟨mi_k167, List.forall_mem_cons.mpr ⟨mi_k168, List.forall_mem_cons.mpr ⟨mi_k169, List.forall_mem_cons.mpr ⟨mi_k170, List.forall_mem_cons.mpr ⟨mi_k171, List.forall_mem_cons.mpr ⟨mi_k172, List.forall_mem_cons.mpr ⟨mi_k173, List.forall_mem_cons.mpr ⟨mi_k174, List.forall_mem_cons.mpr ⟨mi_k175, List.forall_mem_cons.mpr ⟨mi_k176, List.forall_mem_cons.mpr ⟨mi_k177, List.forall_mem_cons.mpr ⟨mi_k178, List.forall_mem_cons.mpr ⟨mi_k179, List.forall_mem_cons.mpr ⟨mi_k180, List.forall_mem_cons.mpr ⟨mi_k181, List.forall_mem_cons.mpr ⟨mi_k182, List.forall_mem_cons.mpr ⟨mi_k183, List.forall_mem_cons.mpr ⟨mi_k184, List.forall_mem_cons.mpr ⟨mi_k185, List.forall_mem_cons.mpr ⟨mi_k186, List.forall_mem_cons.mpr ⟨mi_k187, List.forall_mem_cons.mpr ⟨mi_k188, List.forall_mem_cons.mpr ⟨mi_k189, List.forall_mem_cons.mpr ⟨mi_k190, List.forall_mem_cons.mpr ⟨mi_k191, fun _ h => absurd h List.not_mem_nil⟩⟩⟩⟩⟩⟩⟩⟩⟩⟩⟩⟩⟩⟩⟩⟩⟩⟩⟩⟩⟩⟩⟩⟩⟩⟩⟩⟩⟩⟩⟩⟩
theorem mi_ka6 : ∀ k ∈ [192, 193, 194, 195, 196, 197, 198, 199, 200, 201, 202, 203, 204, 205, 206, 207, 208, 209, 210, 211, 212, 213, 214, 215, 216, 217, 218, 219, 220, 221, 222, 223], (mi_tb k).all (mi_chl k) = true := List.forall_mem_cons.mpr ⟨mi_k192, List.forall_mem_cons.mpr ⟨mi_k193, List.forall_mem_cons.mpr ⟨mi_k194, List.forall_mem_cons.mpr ⟨mi_k195, List.forall_mem_cons.mpr ⟨mi_k196, List.forall_mem_cons.mpr ⟨mi_k197, List.forall_mem_cons.mpr ⟨mi_k198, List.forall_mem_cons.mpr ⟨mi_k199, List.forall_mem_cons.mpr ⟨mi_k200, List.forall_mem_cons.mpr ⟨mi_k201, List.forall_mem_cons.mpr ⟨mi_k202, List.forall_mem_cons.mpr ⟨mi_k203, List.forall_mem_cons.mpr ⟨mi_k204, List.forall_mem_cons.mpr ⟨mi_k205, List.forall_mem_cons.mpr ⟨mi_k206, List.forall_mem_cons.mpr ⟨mi_k207, List.forall_mem_cons.mpr ⟨mi_k208, List.forall_mem_cons.mpr ⟨mi_k209, List.forall_mem_cons.mpr ⟨mi_k210, List.forall_mem_cons.mpr ⟨mi_k211, List.forall_mem_cons.mpr ⟨mi_k212, List.forall_mem_cons.mpr ⟨mi_k213, List.forall_mem_cons.mpr ⟨mi_k214, List.forall_mem_cons.mpr ⟨mi_k215, List.forall_mem_cons.mpr ⟨mi_k216, List.forall_mem_cons.mpr ⟨mi_k217, List.forall_mem_cons.mpr ⟨mi_k218, List.forall_mem_cons.mpr ⟨mi_k219, List.forall_mem_cons.mpr ⟨mi_k220, List.forall_mem_cons.mpr ⟨mi_k221, List.forall_mem_cons.mpr ⟨mi_k222, List.forall_mem_cons.mpr ⟨mi_k223, fun _ h => absurd h List.not_mem_nil⟩⟩⟩⟩⟩⟩⟩⟩⟩⟩⟩⟩⟩⟩⟩⟩⟩⟩⟩⟩⟩⟩⟩⟩⟩⟩⟩⟩⟩⟩⟩⟩
theorem mi_ka7 : ∀ k ∈ [224, 225, 226, 227, 228, 229, 230, 231, 232, 233, 234, 235, 236, 237, 238, 239, 240, 241, 242, 243, 244, 245, 246, 247, 248, 249, 250, 251, 252, 253, 254, 255], (mi_tb k).all (mi_chl k) = true := List.forall_mem_cons.mpr ⟨mi_k224, List.forall_mem_cons.mpr ⟨mi_k225, List.forall_mem_cons.mpr ⟨mi_k226, List.forall_mem_cons.mpr ⟨mi_k227, List.forall_mem_cons.mpr ⟨mi_k228, List.forall_mem_cons.mpr ⟨mi_k229, List.forall_mem_cons.mpr ⟨mi_k230, List.forall_mem_cons.mpr ⟨mi_k231, List.forall_mem_cons.mpr ⟨mi_k232, List.forall_mem_cons.mpr ⟨mi_k233, List.forall_mem_cons.mpr ⟨mi_k234, List.forall_mem_cons.mpr ⟨mi_k235, List.forall_mem_cons.mpr ⟨mi_k236, List.forall_mem_cons.mpr ⟨mi_k237, List.forall_mem_cons.mpr ⟨mi_k238, List.forall_mem_cons.mpr ⟨mi_k239, List.forall_mem_cons.mpr ⟨mi_k240, List.forall_mem_cons.mpr ⟨mi_k241, List.forall_mem_cons.mpr ⟨mi_k242, List.forall_mem_cons.mpr ⟨mi_k243, List.forall_mem_cons.mpr ⟨mi_k244, List.forall_mem_cons.mpr ⟨mi_k245, List.forall_mem_cons.mpr ⟨mi_k246, List.forall_mem_cons.mpr ⟨mi_k247, List.forall_mem_cons.mpr ⟨mi_k248, List.forall_mem_cons.mpr ⟨mi_k249, List.forall_mem_cons.mpr ⟨mi_k250, List.forall_mem_cons.mpr ⟨mi_k251, List.forall_mem_cons.mpr ⟨mi_k252, List.forall_mem_cons.mpr ⟨mi_k253, List.forall_mem_cons.mpr ⟨mi_k254, List.forall_mem_cons.mpr ⟨mi_k255, fun _ h => absurd h List.not_mem_nil⟩⟩⟩⟩⟩⟩⟩⟩⟩⟩⟩⟩⟩⟩⟩⟩⟩⟩⟩⟩⟩⟩⟩⟩⟩⟩⟩⟩⟩⟩⟩⟩
theorem mi_ka8 : ∀ k ∈ [256, 257, 258, 259, 260, 261], (mi_tb k).all (mi_chl k) = true := List.forall_mem_cons.mpr ⟨mi_k256, List.forall_mem_cons.mpr ⟨mi_k257, List.forall_mem_cons.mpr ⟨mi_k258, List.forall_mem_cons.mpr ⟨mi_k259, List.forall_mem_cons.mpr ⟨mi_k260, List.forall_mem_cons.mpr ⟨mi_k261, fun _ h => absurd h List.not_mem_nil⟩⟩⟩⟩⟩⟩
theorem mi_kall (k : Nat) (hk : k < 262) : (mi_tb k).all (mi_chl k) = true := by
  by_cases h0 : k < 32
  · exact mi_ka0 k (by have : k ∈ List.range' 0 32 := List.mem_range'_1.mpr ⟨by omega, by omega⟩; exact this)
  by_cases h1 : k < 64
  · exact mi_ka1 k (by have : k ∈ List.range' 32 32 := List.mem_range'_1.mpr ⟨by omega, by omega⟩; exact this)
  by_cases h2 : k < 96
  · exact mi_ka2 k (by have : k ∈ List.range' 64 32 := List.mem_range'_1.mpr ⟨by omega, by omega⟩; exact this)
  by_cases h3 : k < 128
  · exact mi_ka3 k (by have : k ∈ List.range' 96 32 := List.mem_range'_1.mpr ⟨by omega, by omega⟩; exact this)
  by_cases h4 : k < 160
  · exact mi_ka4 k (by have : k ∈ List.range' 128 32 := List.mem_range'_1.mpr ⟨by omega, by omega⟩; exact this)
  by_cases h5 : k < 192
  · exact mi_ka5 k (by have : k ∈ List.range' 160 32 := List.mem_range'_1.mpr ⟨by omega, by omega⟩; exact this)
  by_cases h6 : k < 224
  · exact mi_ka6 k (by have : k ∈ List.range' 192 32 := List.mem_range'_1.mpr ⟨by omega, by omega⟩; exact this)
  by_cases h7 : k < 256
  · exact mi_ka7 k (by have : k ∈ List.range' 224 32 := List.mem_range'_1.mpr ⟨by omega, by omega⟩; exact this)
  by_cases h8 : k < 262
  · exact mi_ka8 k (by have : k ∈ List.range' 256 6 := List.mem_range'_1.mpr ⟨by omega, by omega⟩; exact this)
  omega
theorem mi_find_mem : ∀ (l : List mi_E) (pc : Nat) (x : Instr × Nat × Nat), mi_find pc l = some x → (pc, x) ∈ l
  | [], _, _, h => by simp [mi_find] at h
  | e :: r, pc, x, h => by
    simp only [mi_find] at h
    cases hb : Nat.beq e.1 pc with
    | true =>
      rw [hb] at h
      have h1 : e.2 = x := Option.some.inj h
      have h2 : e.1 = pc := Nat.eq_of_beq_eq_true hb
      subst h1; subst h2
      exact List.mem_cons_self
    | false =>
      rw [hb] at h
      exact List.mem_cons_of_mem _ (mi_find_mem r pc x h)
theorem mi_nth_mem : ∀ (tb : mi_T) (n : Nat), mi_nth tb n = [] ∨ mi_nth tb n ∈ tb
  | [], _ => Or.inl rfl
  | x :: _, 0 => Or.inr List.mem_cons_self
  | _ :: l, n + 1 => (mi_nth_mem l n).elim Or.inl (fun h => Or.inr (List.mem_cons_of_mem _ h))
theorem mi_at_chk {k pc nx aux : Nat} {i : Instr} (hk : k < 262) (h : mi_at (mi_tb k) pc = some (i, nx, aux)) : mi_chk k (pc, i, nx, aux) = true := by
  have h1 := mi_find_mem _ _ _ h
  rcases mi_nth_mem (mi_tb k) (pc / 32) with h2 | h2
  · rw [h2] at h1; exact absurd h1 List.not_mem_nil
  · exact List.all_eq_true.mp (List.all_eq_true.mp (mi_kall k hk) _ h2) _ h1
theorem mi_dec {k pc nx aux : Nat} {i : Instr} (hk : k < 262) (h : mi_at (mi_tb k) pc = some (i, nx, aux)) (L : Nat) (hL : mi_ln i = L) (h0 : L ≠ 0) : decode (mi_cd k) pc = .ok (i, L) ∧ nx = pc + L ∧ mi_ck2 k pc i aux = true := by
  have h1 := mi_at_chk hk h
  simp only [mi_chk, Bool.and_eq_true, Bool.or_eq_true, decide_eq_true_eq] at h1
  obtain ⟨⟨h2, h3⟩, h4⟩ := h1
  have h5 : nx = pc + L := by
    rcases h3 with h3 | h3
    · have := Nat.eq_of_beq_eq_true h3; omega
    · have := Nat.eq_of_beq_eq_true h3; rw [hL] at this; exact this
  refine ⟨?_, h5, h4⟩
  rw [h2, h5, Nat.add_sub_cancel_left]
theorem mi_decS {k pc nx aux : Nat} {i : Instr} (hk : k < 262) (h : mi_at (mi_tb k) pc = some (i, nx, aux)) : decode (mi_cd k) pc = .ok (i, nx - pc) ∧ mi_ck2 k pc i aux = true := by
  have h1 := mi_at_chk hk h
  simp only [mi_chk, Bool.and_eq_true, Bool.or_eq_true, decide_eq_true_eq] at h1
  exact ⟨h1.1.1, h1.2⟩
theorem mi_vo_i {n : Nat} {z : Int} : mi_vo n (.inl z) := fun r h => by cases h
theorem mi_vo_l {n : Nat} {z : Int} : mi_vo n (.inr (.inr z)) := fun r h => by cases h
theorem mi_vo_n {n : Nat} : mi_vo n (.inr (.inl none)) := fun r h => by cases h
theorem mi_vo_r {n r : Nat} (h : r < n ∨ 1000 ≤ r) : mi_vo n (.inr (.inl (some r))) := fun q e => by cases e; exact h
theorem mi_vo_c {n : Nat} {v : mi_V} {st : mi_S} (h1 : mi_vo n v) (h2 : ∀ v ∈ st, mi_vo n v) : ∀ x ∈ v :: st, mi_vo n x := List.forall_mem_cons.mpr ⟨h1, h2⟩
section
variable {X : mi_X} {k : Nat} {Ge : mi_G} {Q : mi_R → mi_G → mi_M → Prop} {pc nx aux : Nat} {ls : mi_L} {st st' : mi_S} {G : mi_G} {μ : mi_M} {u : mi_U}
/-- a step on the stack alone -/
theorem mi_stk (hv : ∀ n, (∀ v ∈ st, mi_vo n v) → ∀ v ∈ st', mi_vo n v) (hk : mi_ok X k Ge Q nx ls st' G μ u)
    (hrow : ∀ (p : Program) (l : Launch) (e : Env) (R : Room) (s : State) (m : MethodId) (args : Array Value) (below : List Frame) (meth : Method) (c : Code) (H : Heap) (locs : List Loc) (cells slots : Nat) (Qf : State → Prop) (la : Array Slot) (ad : Nat → Nat), p.tables.exec = Jvm.exec → c.code = mi_cd k → s.vm.findClass (mi_rs (mi_on k)) = some m.cls → (∀ w ∈ lw_tbl, mi_gw w = true → w.before args s = true) →
      W p l e R s m args below meth c H locs cells slots Qf (F0 m nx la (st'.map (mi_c ad))) → W p l e R s m args below meth c H locs cells slots Qf (F0 m pc la (st.map (mi_c ad)))) : mi_ok X k Ge Q pc ls st G μ u := by
  intro base D ca sa adE p l e R s m args below meth c hA ad la H locs cells slots hS
  have hA' := hA
  obtain ⟨hx, hb, hml, hr, hown, hlk, hin, hex, hst, hf, hlo, hE⟩ := hA'
  refine hrow p l e R s m args below meth c H locs cells slots _ la ad hx hb hown (fun w hw hg => hE.w hw hg) ?_
  obtain ⟨s1, s2, s3, s4, s5, s6⟩ := hS
  exact hk base D ca sa adE p l e R s m args below meth c hA ad la H locs cells slots ⟨s1, s2, s3, s4, hv _ s5, s6⟩
theorem mi_s_iadd (h262 : k < 262) (hat : mi_at (mi_tb k) pc = some (.iadd, nx, aux)) {a b : Int} (hk : mi_ok X k Ge Q nx ls (.inl (a + b) :: st) G μ u) : mi_ok X k Ge Q pc ls (.inl b :: .inl a :: st) G μ u := by
  obtain ⟨hd, hn, -⟩ := mi_dec h262 hat 1 rfl (by decide)
  subst hn
  refine mi_stk (fun n h => mi_vo_c mi_vo_i (fun v hv => h v (List.mem_cons_of_mem _ (List.mem_cons_of_mem _ hv)))) hk ?_
  intro p l e R s m args below meth c H locs cells slots Qf la ad hx hb ho hw hW
  exact lv_iadd hx hb hd (by rw [← Int32.ofInt_add]; exact hW)
theorem mi_s_isub (h262 : k < 262) (hat : mi_at (mi_tb k) pc = some (.isub, nx, aux)) {a b : Int} (hk : mi_ok X k Ge Q nx ls (.inl (a - b) :: st) G μ u) : mi_ok X k Ge Q pc ls (.inl b :: .inl a :: st) G μ u := by
  obtain ⟨hd, hn, -⟩ := mi_dec h262 hat 1 rfl (by decide)
  subst hn
  refine mi_stk (fun n h => mi_vo_c mi_vo_i (fun v hv => h v (List.mem_cons_of_mem _ (List.mem_cons_of_mem _ hv)))) hk ?_
  intro p l e R s m args below meth c H locs cells slots Qf la ad hx hb ho hw hW
  exact lv_isub hx hb hd (by rw [← Int32.ofInt_sub]; exact hW)
theorem mi_s_imul (h262 : k < 262) (hat : mi_at (mi_tb k) pc = some (.imul, nx, aux)) {a b : Int} (hk : mi_ok X k Ge Q nx ls (.inl (a * b) :: st) G μ u) : mi_ok X k Ge Q pc ls (.inl b :: .inl a :: st) G μ u := by
  obtain ⟨hd, hn, -⟩ := mi_dec h262 hat 1 rfl (by decide)
  subst hn
  refine mi_stk (fun n h => mi_vo_c mi_vo_i (fun v hv => h v (List.mem_cons_of_mem _ (List.mem_cons_of_mem _ hv)))) hk ?_
  intro p l e R s m args below meth c H locs cells slots Qf la ad hx hb ho hw hW
  exact lv_imul hx hb hd (by rw [← Int32.ofInt_mul]; exact hW)
theorem mi_s_ishl (h262 : k < 262) (hat : mi_at (mi_tb k) pc = some (.ishl, nx, aux)) {a b : Int} (hk : mi_ok X k Ge Q nx ls (.inl (mi_shl a b) :: st) G μ u) : mi_ok X k Ge Q pc ls (.inl b :: .inl a :: st) G μ u := by
  obtain ⟨hd, hn, -⟩ := mi_dec h262 hat 1 rfl (by decide)
  subst hn
  refine mi_stk (fun n h => mi_vo_c mi_vo_i (fun v hv => h v (List.mem_cons_of_mem _ (List.mem_cons_of_mem _ hv)))) hk ?_
  intro p l e R s m args below meth c H locs cells slots Qf la ad hx hb ho hw hW
  exact lv_ishl hx hb hd (by rw [← mi_of_toInt (Int32.ofInt a <<< (Int32.ofInt b &&& 31))]; exact hW)
theorem mi_s_ishr (h262 : k < 262) (hat : mi_at (mi_tb k) pc = some (.ishr, nx, aux)) {a b : Int} (hk : mi_ok X k Ge Q nx ls (.inl (mi_shr a b) :: st) G μ u) : mi_ok X k Ge Q pc ls (.inl b :: .inl a :: st) G μ u := by
  obtain ⟨hd, hn, -⟩ := mi_dec h262 hat 1 rfl (by decide)
  subst hn
  refine mi_stk (fun n h => mi_vo_c mi_vo_i (fun v hv => h v (List.mem_cons_of_mem _ (List.mem_cons_of_mem _ hv)))) hk ?_
  intro p l e R s m args below meth c H locs cells slots Qf la ad hx hb ho hw hW
  exact lv_ishr hx hb hd (by rw [← mi_of_toInt (Int32.ofInt a >>> (Int32.ofInt b &&& 31))]; exact hW)
theorem mi_s_iand (h262 : k < 262) (hat : mi_at (mi_tb k) pc = some (.iand, nx, aux)) {a b : Int} (hk : mi_ok X k Ge Q nx ls (.inl (mi_and a b) :: st) G μ u) : mi_ok X k Ge Q pc ls (.inl b :: .inl a :: st) G μ u := by
  obtain ⟨hd, hn, -⟩ := mi_dec h262 hat 1 rfl (by decide)
  subst hn
  refine mi_stk (fun n h => mi_vo_c mi_vo_i (fun v hv => h v (List.mem_cons_of_mem _ (List.mem_cons_of_mem _ hv)))) hk ?_
  intro p l e R s m args below meth c H locs cells slots Qf la ad hx hb ho hw hW
  exact lv_iand hx hb hd (by rw [← mi_of_toInt (Int32.ofInt a &&& Int32.ofInt b)]; exact hW)
theorem mi_s_ior (h262 : k < 262) (hat : mi_at (mi_tb k) pc = some (.ior, nx, aux)) {a b : Int} (hk : mi_ok X k Ge Q nx ls (.inl (mi_or a b) :: st) G μ u) : mi_ok X k Ge Q pc ls (.inl b :: .inl a :: st) G μ u := by
  obtain ⟨hd, hn, -⟩ := mi_dec h262 hat 1 rfl (by decide)
  subst hn
  refine mi_stk (fun n h => mi_vo_c mi_vo_i (fun v hv => h v (List.mem_cons_of_mem _ (List.mem_cons_of_mem _ hv)))) hk ?_
  intro p l e R s m args below meth c H locs cells slots Qf la ad hx hb ho hw hW
  exact lv_ior hx hb hd (by rw [← mi_of_toInt (Int32.ofInt a ||| Int32.ofInt b)]; exact hW)
theorem mi_s_ixor (h262 : k < 262) (hat : mi_at (mi_tb k) pc = some (.ixor, nx, aux)) {a b : Int} (hk : mi_ok X k Ge Q nx ls (.inl (mi_xor a b) :: st) G μ u) : mi_ok X k Ge Q pc ls (.inl b :: .inl a :: st) G μ u := by
  obtain ⟨hd, hn, -⟩ := mi_dec h262 hat 1 rfl (by decide)
  subst hn
  refine mi_stk (fun n h => mi_vo_c mi_vo_i (fun v hv => h v (List.mem_cons_of_mem _ (List.mem_cons_of_mem _ hv)))) hk ?_
  intro p l e R s m args below meth c H locs cells slots Qf la ad hx hb ho hw hW
  exact lv_ixor hx hb hd (by rw [← mi_of_toInt (Int32.ofInt a ^^^ Int32.ofInt b)]; exact hW)
theorem mi_s_iushr (h262 : k < 262) (hat : mi_at (mi_tb k) pc = some (.iushr, nx, aux)) {a b : Int} (hk : mi_ok X k Ge Q nx ls (.inl (mi_ushr a b) :: st) G μ u) : mi_ok X k Ge Q pc ls (.inl b :: .inl a :: st) G μ u := by
  obtain ⟨hd, hn, -⟩ := mi_dec h262 hat 1 rfl (by decide)
  subst hn
  refine mi_stk (fun n h => mi_vo_c mi_vo_i (fun v hv => h v (List.mem_cons_of_mem _ (List.mem_cons_of_mem _ hv)))) hk ?_
  intro p l e R s m args below meth c H locs cells slots Qf la ad hx hb ho hw hW
  exact lv_iushr hx hb hd (mi_of_toInt _).symm hW
theorem mi_s_idiv (h262 : k < 262) (hat : mi_at (mi_tb k) pc = some (.idiv, nx, aux)) {a b : Int} (hb0 : mi_wr b ≠ 0) (hk : mi_ok X k Ge Q nx ls (.inl (mi_div a b) :: st) G μ u) : mi_ok X k Ge Q pc ls (.inl b :: .inl a :: st) G μ u := by
  obtain ⟨hd, hn, -⟩ := mi_dec h262 hat 1 rfl (by decide)
  subst hn
  refine mi_stk (fun n h => mi_vo_c mi_vo_i (fun v hv => h v (List.mem_cons_of_mem _ (List.mem_cons_of_mem _ hv)))) hk ?_
  intro p l e R s m args below meth c H locs cells slots Qf la ad hx hb ho hw hW
  exact lv_idiv hx hb hd (fun e => hb0 (by rw [← mi_wr_toInt, e]; rfl)) (by rw [← mi_of_toInt (Int32.ofInt a / Int32.ofInt b)]; exact hW)
theorem mi_s_irem (h262 : k < 262) (hat : mi_at (mi_tb k) pc = some (.irem, nx, aux)) {a b : Int} (hb0 : mi_wr b ≠ 0) (hk : mi_ok X k Ge Q nx ls (.inl (mi_rem a b) :: st) G μ u) : mi_ok X k Ge Q pc ls (.inl b :: .inl a :: st) G μ u := by
  obtain ⟨hd, hn, -⟩ := mi_dec h262 hat 1 rfl (by decide)
  subst hn
  refine mi_stk (fun n h => mi_vo_c mi_vo_i (fun v hv => h v (List.mem_cons_of_mem _ (List.mem_cons_of_mem _ hv)))) hk ?_
  intro p l e R s m args below meth c H locs cells slots Qf la ad hx hb ho hw hW
  exact lv_irem hx hb hd (fun e => hb0 (by rw [← mi_wr_toInt, e]; rfl)) (by rw [← mi_of_toInt (Int32.ofInt a - Int32.ofInt a / Int32.ofInt b * Int32.ofInt b)]; exact hW)
theorem mi_s_ineg (h262 : k < 262) (hat : mi_at (mi_tb k) pc = some (.ineg, nx, aux)) {a : Int} (hk : mi_ok X k Ge Q nx ls (.inl (-a) :: st) G μ u) : mi_ok X k Ge Q pc ls (.inl a :: st) G μ u := by
  obtain ⟨hd, hn, -⟩ := mi_dec h262 hat 1 rfl (by decide)
  subst hn
  refine mi_stk (fun n h => mi_vo_c mi_vo_i (fun v hv => h v (List.mem_cons_of_mem _ hv))) hk ?_
  intro p l e R s m args below meth c H locs cells slots Qf la ad hx hb ho hw hW
  exact lv_ineg hx hb hd (by rw [← Int32.ofInt_neg]; exact hW)
theorem mi_s_i2b (h262 : k < 262) (hat : mi_at (mi_tb k) pc = some (.i2b, nx, aux)) {a : Int} (hk : mi_ok X k Ge Q nx ls (.inl (mi_i2b a) :: st) G μ u) : mi_ok X k Ge Q pc ls (.inl a :: st) G μ u := by
  obtain ⟨hd, hn, -⟩ := mi_dec h262 hat 1 rfl (by decide)
  subst hn
  refine mi_stk (fun n h => mi_vo_c mi_vo_i (fun v hv => h v (List.mem_cons_of_mem _ hv))) hk ?_
  intro p l e R s m args below meth c H locs cells slots Qf la ad hx hb ho hw hW
  exact lv_i2b hx hb hd (mi_of_toInt _).symm hW
theorem mi_l_of (x : Int32) : x.toInt64 = Int64.ofInt x.toInt := by
  apply Int64.toInt_inj.mp
  rw [Int32.toInt_toInt64, Int64.toInt_ofInt]
  exact (Int.bmod_eq_of_le (by have := x.le_toInt; have e : Int64.size = 18446744073709551616 := rfl; rw [e]; omega) (by have := x.toInt_lt; have e : Int64.size = 18446744073709551616 := rfl; rw [e]; omega)).symm
theorem mi_s_i2l (h262 : k < 262) (hat : mi_at (mi_tb k) pc = some (.i2l, nx, aux)) {a : Int} (hk : mi_ok X k Ge Q nx ls (.inr (.inr (mi_wr a)) :: st) G μ u) : mi_ok X k Ge Q pc ls (.inl a :: st) G μ u := by
  obtain ⟨hd, hn, -⟩ := mi_dec h262 hat 1 rfl (by decide)
  subst hn
  refine mi_stk (fun n h => mi_vo_c mi_vo_l (fun v hv => h v (List.mem_cons_of_mem _ hv))) hk ?_
  intro p l e R s m args below meth c H locs cells slots Qf la ad hx hb ho hw hW
  exact lv_i2l hx hb hd (by rw [← mi_wr_toInt]; exact (mi_l_of _)) hW
theorem mi_s_lcmp (h262 : k < 262) (hat : mi_at (mi_tb k) pc = some (.lcmp, nx, aux)) {a b : Int} (hk : mi_ok X k Ge Q nx ls (.inl (mi_cmpl a b) :: st) G μ u) : mi_ok X k Ge Q pc ls (.inr (.inr b) :: .inr (.inr a) :: st) G μ u := by
  obtain ⟨hd, hn, -⟩ := mi_dec h262 hat 1 rfl (by decide)
  subst hn
  refine mi_stk (fun n h => mi_vo_c mi_vo_i (fun v hv => h v (List.mem_cons_of_mem _ (List.mem_cons_of_mem _ hv)))) hk ?_
  intro p l e R s m args below meth c H locs cells slots Qf la ad hx hb ho hw hW
  exact W.lcmp hx hb hd (by rw [← mi_of_toInt (lg_cmp (Int64.ofInt a) (Int64.ofInt b))]; exact hW)
theorem mi_s_iconst (h262 : k < 262) {z : Int} (hat : mi_at (mi_tb k) pc = some (.iconst z, nx, aux)) (hk : mi_ok X k Ge Q nx ls (.inl z :: st) G μ u) : mi_ok X k Ge Q pc ls st G μ u := by
  obtain ⟨hd, hn, -⟩ := mi_dec h262 hat 1 rfl (by decide)
  subst hn
  refine mi_stk (fun n h => mi_vo_c mi_vo_i h) hk ?_
  intro p l e R s m args below meth c H locs cells slots Qf la ad hx hb ho hw hW
  exact lv_iconst hx hb hd rfl hW
theorem mi_s_bipush (h262 : k < 262) {z : Int} (hat : mi_at (mi_tb k) pc = some (.bipush z, nx, aux)) (h1 : -128 ≤ z) (h2 : z < 128) (hk : mi_ok X k Ge Q nx ls (.inl z :: st) G μ u) : mi_ok X k Ge Q pc ls st G μ u := by
  obtain ⟨hd, hn, -⟩ := mi_dec h262 hat 2 rfl (by decide)
  subst hn
  refine mi_stk (fun n h => mi_vo_c mi_vo_i h) hk ?_
  intro p l e R s m args below meth c H locs cells slots Qf la ad hx hb ho hw hW
  refine lv_bipush hx hb hd ?_ hW
  apply Int32.toInt_inj.mp
  rw [Int8.toInt_toInt32, Int8.toInt_ofInt, mi_wr_toInt, mi_wr_id (by omega) (by omega)]
  exact Int.bmod_eq_of_le (by have e : Int8.size = 256 := rfl; rw [e]; omega) (by have e : Int8.size = 256 := rfl; rw [e]; omega)
theorem mi_s_sipush (h262 : k < 262) {z : Int} (hat : mi_at (mi_tb k) pc = some (.sipush z, nx, aux)) (h1 : -32768 ≤ z) (h2 : z < 32768) (hk : mi_ok X k Ge Q nx ls (.inl z :: st) G μ u) : mi_ok X k Ge Q pc ls st G μ u := by
  obtain ⟨hd, hn, -⟩ := mi_dec h262 hat 3 rfl (by decide)
  subst hn
  refine mi_stk (fun n h => mi_vo_c mi_vo_i h) hk ?_
  intro p l e R s m args below meth c H locs cells slots Qf la ad hx hb ho hw hW
  refine lv_sipush hx hb hd ?_ hW
  apply Int32.toInt_inj.mp
  rw [Int16.toInt_toInt32, Int16.toInt_ofInt, mi_wr_toInt, mi_wr_id (by omega) (by omega)]
  exact Int.bmod_eq_of_le (by have e : Int16.size = 65536 := rfl; rw [e]; omega) (by have e : Int16.size = 65536 := rfl; rw [e]; omega)
theorem mi_KL_in {k i aux : Nat} (h : (mi_on k, i, aux) ∈ mi_KL) : Cond.constant (mi_rs (mi_on k)) i (Int32.ofNat aux) ∈ lw_tbl := mi_KL_ok _ h
theorem mi_s_ldc (h262 : k < 262) {i : Nat} (hat : mi_at (mi_tb k) pc = some (.ldc i, nx, aux)) (ha : Nat.blt aux 2147483648 = true) (hk : mi_ok X k Ge Q nx ls (.inl (aux : Int) :: st) G μ u) : mi_ok X k Ge Q pc ls st G μ u := by
  obtain ⟨hd, hn, hc⟩ := mi_dec h262 hat 2 rfl (by decide)
  subst hn
  simp only [mi_ck2, ha, cond_true, decide_eq_true_eq] at hc
  refine mi_stk (fun n h => mi_vo_c mi_vo_i h) hk ?_
  intro p l e R s m args below meth c H locs cells slots Qf la ad hx hb ho hw hW
  exact lv_ldc hx hb ho (hw _ (mi_KL_in hc) rfl) hd (by rw [← Int32.ofInt_eq_ofNat]; exact hW)
theorem mi_s_ldcw (h262 : k < 262) {i : Nat} (hat : mi_at (mi_tb k) pc = some (.ldc_w i, nx, aux)) (hk : mi_ok X k Ge Q nx ls (.inl (aux : Int) :: st) G μ u) : mi_ok X k Ge Q pc ls st G μ u := by
  obtain ⟨hd, hn, hc⟩ := mi_dec h262 hat 3 rfl (by decide)
  subst hn
  simp only [mi_ck2, decide_eq_true_eq] at hc
  refine mi_stk (fun n h => mi_vo_c mi_vo_i h) hk ?_
  intro p l e R s m args below meth c H locs cells slots Qf la ad hx hb ho hw hW
  exact lv_ldcw hx hb ho (hw _ (mi_KL_in hc) rfl) hd (by rw [← Int32.ofInt_eq_ofNat]; exact hW)
theorem mi_s_dup (h262 : k < 262) (hat : mi_at (mi_tb k) pc = some (.dup, nx, aux)) {v : mi_V} (hv : ∀ z, v ≠ .inr (.inr z)) (hk : mi_ok X k Ge Q nx ls (v :: v :: st) G μ u) : mi_ok X k Ge Q pc ls (v :: st) G μ u := by
  obtain ⟨hd, hn, -⟩ := mi_dec h262 hat 1 rfl (by decide)
  subst hn
  refine mi_stk (fun n h => mi_vo_c (h v List.mem_cons_self) h) hk ?_
  intro p l e R s m args below meth c H locs cells slots Qf la ad hx hb ho hw hW
  refine lv_dup hx hb hd ?_ hW
  match v, hv with
  | .inl _, _ => rfl
  | .inr (.inl none), _ => rfl
  | .inr (.inl (some _)), _ => rfl
  | .inr (.inr z), hv => exact absurd rfl (hv z)
theorem mi_s_pop (h262 : k < 262) (hat : mi_at (mi_tb k) pc = some (.pop, nx, aux)) {a : Int} (hk : mi_ok X k Ge Q nx ls st G μ u) : mi_ok X k Ge Q pc ls (.inl a :: st) G μ u := by
  obtain ⟨hd, hn, -⟩ := mi_dec h262 hat 1 rfl (by decide)
  subst hn
  refine mi_stk (fun n h v hv => h v (List.mem_cons_of_mem _ hv)) hk ?_
  intro p l e R s m args below meth c H locs cells slots Qf la ad hx hb ho hw hW
  exact lv_pop hx hb hd rfl hW
theorem mi_s_goto (h262 : k < 262) {o : Int} (hat : mi_at (mi_tb k) pc = some (.goto o, nx, aux)) (hk : mi_ok X k Ge Q aux ls st G μ u) : mi_ok X k Ge Q pc ls st G μ u := by
  obtain ⟨hd, hn, hc⟩ := mi_dec h262 hat 3 rfl (by decide)
  simp only [mi_ck2, decide_eq_true_eq] at hc
  refine mi_stk (fun n h => h) hk ?_
  intro p l e R s m args below meth c H locs cells slots Qf la ad hx hb ho hw hW
  exact lv_goto hx hb hd hc hW
end
end
section
/-! branches, locals, returns -/
theorem mi_wr0 : mi_wr 0 = 0 := mi_wr_id (by omega) (by omega)
theorem mi_0 : (0 : Int32) = Int32.ofInt 0 := rfl
theorem mi_wr_lt0 {a : Int} : Int32.ofInt a < 0 ↔ mi_wr a < 0 := by rw [mi_0, mi_wr_lt, mi_wr0]
theorem mi_wr_0lt {a : Int} : 0 < Int32.ofInt a ↔ 0 < mi_wr a := by rw [mi_0, mi_wr_lt, mi_wr0]
theorem mi_wr_eq0 {a : Int} : Int32.ofInt a = 0 ↔ mi_wr a = 0 := by rw [mi_0, mi_wr_eq, mi_wr0]
section
variable {X : mi_X} {k : Nat} {Ge : mi_G} {Q : mi_R → mi_G → mi_M → Prop} {pc nx aux : Nat} {ls : mi_L} {st st' : mi_S} {G : mi_G} {μ : mi_M} {u : mi_U}
theorem mi_s_dup2 (h262 : k < 262) (hat : mi_at (mi_tb k) pc = some (.dup2, nx, aux)) {b : Int} {r : Option Nat} (hk : mi_ok X k Ge Q nx ls (.inl b :: .inr (.inl r) :: .inl b :: .inr (.inl r) :: st) G μ u) : mi_ok X k Ge Q pc ls (.inl b :: .inr (.inl r) :: st) G μ u := by
  obtain ⟨hd, hn, -⟩ := mi_dec h262 hat 1 rfl (by decide)
  subst hn
  refine mi_stk (fun n h => mi_vo_c mi_vo_i (mi_vo_c (h _ (List.mem_cons_of_mem _ List.mem_cons_self)) h)) hk ?_
  intro p l e R s m args below meth c H locs cells slots Qf la ad hx hb ho hw hW
  exact lv_dup2_11 hx hb hd rfl (by cases r <;> rfl) hW
theorem mi_br {P : Prop} {p1 p2 : Nat} (hv : ∀ n, (∀ v ∈ st, mi_vo n v) → ∀ v ∈ st', mi_vo n v) (h1 : P → mi_ok X k Ge Q p1 ls st' G μ u) (h2 : ¬ P → mi_ok X k Ge Q p2 ls st' G μ u)
    (hrow : ∀ (p : Program) (l : Launch) (e : Env) (R : Room) (s : State) (m : MethodId) (args : Array Value) (below : List Frame) (meth : Method) (c : Code) (H : Heap) (locs : List Loc) (cells slots : Nat) (Qf : State → Prop) (la : Array Slot) (ad : Nat → Nat), p.tables.exec = Jvm.exec → c.code = mi_cd k →
      (P → W p l e R s m args below meth c H locs cells slots Qf (F0 m p1 la (st'.map (mi_c ad)))) → (¬ P → W p l e R s m args below meth c H locs cells slots Qf (F0 m p2 la (st'.map (mi_c ad)))) → W p l e R s m args below meth c H locs cells slots Qf (F0 m pc la (st.map (mi_c ad)))) : mi_ok X k Ge Q pc ls st G μ u := by
  intro base D ca sa adE p l e R s m args below meth c hA ad la H locs cells slots hS
  have hA' := hA
  obtain ⟨hx, hb, hml, hr, hown, hlk, hin, hex, hst, hf, hlo, hE⟩ := hA'
  obtain ⟨s1, s2, s3, s4, s5, s6⟩ := hS
  exact hrow p l e R s m args below meth c H locs cells slots _ la ad hx hb
    (fun h => h1 h base D ca sa adE p l e R s m args below meth c hA ad la H locs cells slots ⟨s1, s2, s3, s4, hv _ s5, s6⟩)
    (fun h => h2 h base D ca sa adE p l e R s m args below meth c hA ad la H locs cells slots ⟨s1, s2, s3, s4, hv _ s5, s6⟩)
theorem mi_s_icmp_eq (h262 : k < 262) {o : Int} (hat : mi_at (mi_tb k) pc = some (.if_icmp .eq o, nx, aux)) {a b : Int} (h1 : mi_wr a = mi_wr b → mi_ok X k Ge Q aux ls st G μ u) (h2 : ¬ mi_wr a = mi_wr b → mi_ok X k Ge Q nx ls st G μ u) : mi_ok X k Ge Q pc ls (.inl b :: .inl a :: st) G μ u := by
  obtain ⟨hd, hn, hc⟩ := mi_dec h262 hat 3 rfl (by decide)
  subst hn
  simp only [mi_ck2, decide_eq_true_eq] at hc
  refine mi_br (fun n h v hv => h v (List.mem_cons_of_mem _ (List.mem_cons_of_mem _ hv))) h1 h2 ?_
  intro p l e R s m args below meth c H locs cells slots Qf la ad hx hb w1 w2
  exact lv_icmp_eq hx hb hd hc (fun h => w1 (mi_wr_eq.mp h)) (fun h => w2 (fun q => h (mi_wr_eq.mpr q)))
theorem mi_s_icmp_ne (h262 : k < 262) {o : Int} (hat : mi_at (mi_tb k) pc = some (.if_icmp .ne o, nx, aux)) {a b : Int} (h1 : mi_wr a = mi_wr b → mi_ok X k Ge Q nx ls st G μ u) (h2 : ¬ mi_wr a = mi_wr b → mi_ok X k Ge Q aux ls st G μ u) : mi_ok X k Ge Q pc ls (.inl b :: .inl a :: st) G μ u := by
  obtain ⟨hd, hn, hc⟩ := mi_dec h262 hat 3 rfl (by decide)
  subst hn
  simp only [mi_ck2, decide_eq_true_eq] at hc
  refine mi_br (fun n h v hv => h v (List.mem_cons_of_mem _ (List.mem_cons_of_mem _ hv))) h1 h2 ?_
  intro p l e R s m args below meth c H locs cells slots Qf la ad hx hb w1 w2
  exact lv_icmp_ne hx hb hd hc (fun h => w2 (fun q => h (mi_wr_eq.mpr q))) (fun h => w1 (mi_wr_eq.mp h))
theorem mi_s_icmp_lt (h262 : k < 262) {o : Int} (hat : mi_at (mi_tb k) pc = some (.if_icmp .lt o, nx, aux)) {a b : Int} (h1 : mi_wr a < mi_wr b → mi_ok X k Ge Q aux ls st G μ u) (h2 : ¬ mi_wr a < mi_wr b → mi_ok X k Ge Q nx ls st G μ u) : mi_ok X k Ge Q pc ls (.inl b :: .inl a :: st) G μ u := by
  obtain ⟨hd, hn, hc⟩ := mi_dec h262 hat 3 rfl (by decide)
  subst hn
  simp only [mi_ck2, decide_eq_true_eq] at hc
  refine mi_br (fun n h v hv => h v (List.mem_cons_of_mem _ (List.mem_cons_of_mem _ hv))) h1 h2 ?_
  intro p l e R s m args below meth c H locs cells slots Qf la ad hx hb w1 w2
  exact lv_icmp_lt hx hb hd hc (fun h => w1 (mi_wr_lt.mp h)) (fun h => w2 (fun q => h (mi_wr_lt.mpr q)))
theorem mi_s_icmp_ge (h262 : k < 262) {o : Int} (hat : mi_at (mi_tb k) pc = some (.if_icmp .ge o, nx, aux)) {a b : Int} (h1 : mi_wr a < mi_wr b → mi_ok X k Ge Q nx ls st G μ u) (h2 : ¬ mi_wr a < mi_wr b → mi_ok X k Ge Q aux ls st G μ u) : mi_ok X k Ge Q pc ls (.inl b :: .inl a :: st) G μ u := by
  obtain ⟨hd, hn, hc⟩ := mi_dec h262 hat 3 rfl (by decide)
  subst hn
  simp only [mi_ck2, decide_eq_true_eq] at hc
  refine mi_br (fun n h v hv => h v (List.mem_cons_of_mem _ (List.mem_cons_of_mem _ hv))) h1 h2 ?_
  intro p l e R s m args below meth c H locs cells slots Qf la ad hx hb w1 w2
  exact lv_icmp_ge hx hb hd hc (fun h => w2 (fun q => Int32.not_le.mpr (mi_wr_lt.mpr q) h)) (fun h => w1 (mi_wr_lt.mp (Int32.not_le.mp h)))
theorem mi_s_icmp_gt (h262 : k < 262) {o : Int} (hat : mi_at (mi_tb k) pc = some (.if_icmp .gt o, nx, aux)) {a b : Int} (h1 : mi_wr b < mi_wr a → mi_ok X k Ge Q aux ls st G μ u) (h2 : ¬ mi_wr b < mi_wr a → mi_ok X k Ge Q nx ls st G μ u) : mi_ok X k Ge Q pc ls (.inl b :: .inl a :: st) G μ u := by
  obtain ⟨hd, hn, hc⟩ := mi_dec h262 hat 3 rfl (by decide)
  subst hn
  simp only [mi_ck2, decide_eq_true_eq] at hc
  refine mi_br (fun n h v hv => h v (List.mem_cons_of_mem _ (List.mem_cons_of_mem _ hv))) h1 h2 ?_
  intro p l e R s m args below meth c H locs cells slots Qf la ad hx hb w1 w2
  exact lv_icmp_gt hx hb hd hc (fun h => w1 (mi_wr_lt.mp h)) (fun h => w2 (fun q => h (mi_wr_lt.mpr q)))
theorem mi_s_icmp_le (h262 : k < 262) {o : Int} (hat : mi_at (mi_tb k) pc = some (.if_icmp .le o, nx, aux)) {a b : Int} (h1 : mi_wr b < mi_wr a → mi_ok X k Ge Q nx ls st G μ u) (h2 : ¬ mi_wr b < mi_wr a → mi_ok X k Ge Q aux ls st G μ u) : mi_ok X k Ge Q pc ls (.inl b :: .inl a :: st) G μ u := by
  obtain ⟨hd, hn, hc⟩ := mi_dec h262 hat 3 rfl (by decide)
  subst hn
  simp only [mi_ck2, decide_eq_true_eq] at hc
  refine mi_br (fun n h v hv => h v (List.mem_cons_of_mem _ (List.mem_cons_of_mem _ hv))) h1 h2 ?_
  intro p l e R s m args below meth c H locs cells slots Qf la ad hx hb w1 w2
  exact lv_icmp_le hx hb hd hc (fun h => w2 (fun q => Int32.not_le.mpr (mi_wr_lt.mpr q) h)) (fun h => w1 (mi_wr_lt.mp (Int32.not_le.mp h)))
theorem mi_s_if_eq (h262 : k < 262) {o : Int} (hat : mi_at (mi_tb k) pc = some (.ifCond .eq o, nx, aux)) {a : Int} (h1 : mi_wr a = 0 → mi_ok X k Ge Q aux ls st G μ u) (h2 : ¬ mi_wr a = 0 → mi_ok X k Ge Q nx ls st G μ u) : mi_ok X k Ge Q pc ls (.inl a :: st) G μ u := by
  obtain ⟨hd, hn, hc⟩ := mi_dec h262 hat 3 rfl (by decide)
  subst hn
  simp only [mi_ck2, decide_eq_true_eq] at hc
  refine mi_br (fun n h v hv => h v (List.mem_cons_of_mem _ hv)) h1 h2 ?_
  intro p l e R s m args below meth c H locs cells slots Qf la ad hx hb w1 w2
  exact lv_if_eq hx hb hd hc (fun h => w1 (mi_wr_eq0.mp h)) (fun h => w2 (fun q => h (mi_wr_eq0.mpr q)))
theorem mi_s_if_ne (h262 : k < 262) {o : Int} (hat : mi_at (mi_tb k) pc = some (.ifCond .ne o, nx, aux)) {a : Int} (h1 : mi_wr a = 0 → mi_ok X k Ge Q nx ls st G μ u) (h2 : ¬ mi_wr a = 0 → mi_ok X k Ge Q aux ls st G μ u) : mi_ok X k Ge Q pc ls (.inl a :: st) G μ u := by
  obtain ⟨hd, hn, hc⟩ := mi_dec h262 hat 3 rfl (by decide)
  subst hn
  simp only [mi_ck2, decide_eq_true_eq] at hc
  refine mi_br (fun n h v hv => h v (List.mem_cons_of_mem _ hv)) h1 h2 ?_
  intro p l e R s m args below meth c H locs cells slots Qf la ad hx hb w1 w2
  exact lv_if_ne hx hb hd hc (fun h => w2 (fun q => h (mi_wr_eq0.mpr q))) (fun h => w1 (mi_wr_eq0.mp h))
theorem mi_s_if_lt (h262 : k < 262) {o : Int} (hat : mi_at (mi_tb k) pc = some (.ifCond .lt o, nx, aux)) {a : Int} (h1 : mi_wr a < 0 → mi_ok X k Ge Q aux ls st G μ u) (h2 : ¬ mi_wr a < 0 → mi_ok X k Ge Q nx ls st G μ u) : mi_ok X k Ge Q pc ls (.inl a :: st) G μ u := by
  obtain ⟨hd, hn, hc⟩ := mi_dec h262 hat 3 rfl (by decide)
  subst hn
  simp only [mi_ck2, decide_eq_true_eq] at hc
  refine mi_br (fun n h v hv => h v (List.mem_cons_of_mem _ hv)) h1 h2 ?_
  intro p l e R s m args below meth c H locs cells slots Qf la ad hx hb w1 w2
  exact lv_if_lt hx hb hd hc (fun h => w1 (mi_wr_lt0.mp h)) (fun h => w2 (fun q => h (mi_wr_lt0.mpr q)))
theorem mi_s_if_ge (h262 : k < 262) {o : Int} (hat : mi_at (mi_tb k) pc = some (.ifCond .ge o, nx, aux)) {a : Int} (h1 : mi_wr a < 0 → mi_ok X k Ge Q nx ls st G μ u) (h2 : ¬ mi_wr a < 0 → mi_ok X k Ge Q aux ls st G μ u) : mi_ok X k Ge Q pc ls (.inl a :: st) G μ u := by
  obtain ⟨hd, hn, hc⟩ := mi_dec h262 hat 3 rfl (by decide)
  subst hn
  simp only [mi_ck2, decide_eq_true_eq] at hc
  refine mi_br (fun n h v hv => h v (List.mem_cons_of_mem _ hv)) h1 h2 ?_
  intro p l e R s m args below meth c H locs cells slots Qf la ad hx hb w1 w2
  exact lv_if_ge hx hb hd hc (fun h => w2 (fun q => Int32.not_le.mpr (mi_wr_lt0.mpr q) h)) (fun h => w1 (mi_wr_lt0.mp (Int32.not_le.mp h)))
theorem mi_s_if_gt (h262 : k < 262) {o : Int} (hat : mi_at (mi_tb k) pc = some (.ifCond .gt o, nx, aux)) {a : Int} (h1 : 0 < mi_wr a → mi_ok X k Ge Q aux ls st G μ u) (h2 : ¬ 0 < mi_wr a → mi_ok X k Ge Q nx ls st G μ u) : mi_ok X k Ge Q pc ls (.inl a :: st) G μ u := by
  obtain ⟨hd, hn, hc⟩ := mi_dec h262 hat 3 rfl (by decide)
  subst hn
  simp only [mi_ck2, decide_eq_true_eq] at hc
  refine mi_br (fun n h v hv => h v (List.mem_cons_of_mem _ hv)) h1 h2 ?_
  intro p l e R s m args below meth c H locs cells slots Qf la ad hx hb w1 w2
  exact lv_if_gt hx hb hd hc (fun h => w1 (mi_wr_0lt.mp h)) (fun h => w2 (fun q => h (mi_wr_0lt.mpr q)))
theorem mi_s_if_le (h262 : k < 262) {o : Int} (hat : mi_at (mi_tb k) pc = some (.ifCond .le o, nx, aux)) {a : Int} (h1 : 0 < mi_wr a → mi_ok X k Ge Q nx ls st G μ u) (h2 : ¬ 0 < mi_wr a → mi_ok X k Ge Q aux ls st G μ u) : mi_ok X k Ge Q pc ls (.inl a :: st) G μ u := by
  obtain ⟨hd, hn, hc⟩ := mi_dec h262 hat 3 rfl (by decide)
  subst hn
  simp only [mi_ck2, decide_eq_true_eq] at hc
  refine mi_br (fun n h v hv => h v (List.mem_cons_of_mem _ hv)) h1 h2 ?_
  intro p l e R s m args below meth c H locs cells slots Qf la ad hx hb w1 w2
  exact lv_if_le hx hb hd hc (fun h => w2 (fun q => Int32.not_le.mpr (mi_wr_0lt.mpr q) h)) (fun h => w1 (mi_wr_0lt.mp (Int32.not_le.mp h)))
theorem mi_sw_of {x : Int} {K : Int → Prop} : ∀ {offs : List Int} {lo d : Int}, mi_sw x K lo offs d → (x < lo ∨ lo + offs.length ≤ x → K d) ∧ (∀ o, lo ≤ x → offs[(x - lo).toNat]? = some o → K o)
  | [], lo, d, h => ⟨fun _ => h, fun o _ ho => by simp at ho⟩
  | o :: r, lo, d, h => by
    simp only [mi_sw] at h
    by_cases e : x = lo
    · rw [if_pos e] at h
      refine ⟨fun q => by simp only [List.length_cons] at q; omega, fun o' _ ho => ?_⟩
      rw [e, Int.sub_self] at ho
      have : o = o' := by simpa using ho
      rw [← this]; exact h
    · rw [if_neg e] at h
      obtain ⟨h1, h2⟩ := mi_sw_of h
      refine ⟨fun q => h1 (by simp only [List.length_cons] at q; omega), fun o' q ho => h2 o' (by omega) ?_⟩
      have e2 : (x - lo).toNat = (x - (lo + 1)).toNat + 1 := by omega
      rw [e2] at ho
      simpa using ho
theorem mi_s_sw (h262 : k < 262) {d lo hi : Int} {offs : Array Int} (hat : mi_at (mi_tb k) pc = some (.tableswitch d lo hi offs, nx, aux)) {a : Int} (h : mi_sw (mi_wr a) (fun o => mi_ok X k Ge Q ((pc : Int) + o).toNat ls st G μ u) lo offs.toList d) : mi_ok X k Ge Q pc ls (.inl a :: st) G μ u := by
  obtain ⟨hd, hc⟩ := mi_decS h262 hat
  simp only [mi_ck2, Bool.and_eq_true, decide_eq_true_eq, List.all_eq_true] at hc
  obtain ⟨⟨c1, c2⟩, c3⟩ := hc
  obtain ⟨h1, h2⟩ := mi_sw_of h
  intro base D ca sa adE p l e R s m args below meth c hA ad la H locs cells slots hS
  have hA' := hA
  obtain ⟨hx, hb, hml, hr, hown, hlk, hin, hex, hst, hf, hlo, hE⟩ := hA'
  obtain ⟨s1, s2, s3, s4, s5, s6⟩ := hS
  have s5' : ∀ v ∈ st, mi_vo G.2.2 v := fun v hv => s5 v (List.mem_cons_of_mem _ hv)
  have hlen : (offs.toList.length : Int) = (offs.size : Int) := by rw [Array.length_toList]
  by_cases q : mi_wr a < lo ∨ hi < mi_wr a
  · refine lv_tableOut (tgt := ((pc : Int) + d).toNat) hx hb hd (by rw [mi_wr_toInt]; exact q) (by omega) ?_
    exact h1 (by omega) base D ca sa adE p l e R s m args below meth c hA ad la H locs cells slots ⟨s1, s2, s3, s4, s5', s6⟩
  · have hlt : (mi_wr a - lo).toNat < offs.size := by omega
    have ho : offs[(mi_wr a - lo).toNat]? = some offs[(mi_wr a - lo).toNat] := by simp [hlt]
    have ho' : offs.toList[(mi_wr a - lo).toNat]? = some offs[(mi_wr a - lo).toNat] := by rw [Array.getElem?_toList]; exact ho
    have hnn := c2 _ (List.mem_of_getElem? ho')
    refine lv_tableIn (tgt := ((pc : Int) + offs[(mi_wr a - lo).toNat]).toNat) (off := offs[(mi_wr a - lo).toNat]) hx hb hd (by rw [mi_wr_toInt]; omega) (by rw [mi_wr_toInt]; omega) (by rw [mi_wr_toInt]; exact ho) (by omega) ?_
    exact h2 _ (by omega) ho' base D ca sa adE p l e R s m args below meth c hA ad la H locs cells slots ⟨s1, s2, s3, s4, s5', s6⟩
theorem mi_s_iload (h262 : k < 262) {n : Nat} (hat : mi_at (mi_tb k) pc = some (.iload n, nx, aux)) {x : Int} (hl : mi_lget ls n = some (.inl x)) (hk : mi_ok X k Ge Q nx ls (.inl x :: st) G μ u) : mi_ok X k Ge Q pc ls st G μ u := by
  obtain ⟨hd, hn, -⟩ := mi_dec h262 hat 2 rfl (by decide)
  subst hn
  intro base D ca sa adE p l e R s m args below meth c hA ad la H locs cells slots hS
  have hA' := hA
  obtain ⟨hx, hb, hml, hr, hown, hlk, hin, hex, hst, hf, hlo, hE⟩ := hA'
  obtain ⟨s1, s2, s3, s4, s5, s6⟩ := hS
  refine lv_iload hx hb hd (s4 _ _ hl).1 ?_
  exact hk base D ca sa adE p l e R s m args below meth c hA ad la H locs cells slots ⟨s1, s2, s3, s4, mi_vo_c (s4 _ _ hl).2.1 s5, s6⟩
theorem mi_s_iload_n (h262 : k < 262) {n : Fin 4} (hat : mi_at (mi_tb k) pc = some (.iload_n n, nx, aux)) {x : Int} (hl : mi_lget ls n.val = some (.inl x)) (hk : mi_ok X k Ge Q nx ls (.inl x :: st) G μ u) : mi_ok X k Ge Q pc ls st G μ u := by
  obtain ⟨hd, hn, -⟩ := mi_dec h262 hat 1 rfl (by decide)
  subst hn
  intro base D ca sa adE p l e R s m args below meth c hA ad la H locs cells slots hS
  have hA' := hA
  obtain ⟨hx, hb, hml, hr, hown, hlk, hin, hex, hst, hf, hlo, hE⟩ := hA'
  obtain ⟨s1, s2, s3, s4, s5, s6⟩ := hS
  refine lv_iload_n hx hb hd rfl (s4 _ _ hl).1 ?_
  exact hk base D ca sa adE p l e R s m args below meth c hA ad la H locs cells slots ⟨s1, s2, s3, s4, mi_vo_c (s4 _ _ hl).2.1 s5, s6⟩
theorem mi_s_aload (h262 : k < 262) {n : Nat} (hat : mi_at (mi_tb k) pc = some (.aload n, nx, aux)) {x : Nat} (hl : mi_lget ls n = some (.inr (.inl (some x)))) (hk : mi_ok X k Ge Q nx ls (.inr (.inl (some x)) :: st) G μ u) : mi_ok X k Ge Q pc ls st G μ u := by
  obtain ⟨hd, hn, -⟩ := mi_dec h262 hat 2 rfl (by decide)
  subst hn
  intro base D ca sa adE p l e R s m args below meth c hA ad la H locs cells slots hS
  have hA' := hA
  obtain ⟨hx, hb, hml, hr, hown, hlk, hin, hex, hst, hf, hlo, hE⟩ := hA'
  obtain ⟨s1, s2, s3, s4, s5, s6⟩ := hS
  refine lv_aload hx hb hd (s4 _ _ hl).1 ?_
  exact hk base D ca sa adE p l e R s m args below meth c hA ad la H locs cells slots ⟨s1, s2, s3, s4, mi_vo_c (s4 _ _ hl).2.1 s5, s6⟩
theorem mi_s_aload_n (h262 : k < 262) {n : Fin 4} (hat : mi_at (mi_tb k) pc = some (.aload_n n, nx, aux)) {x : Nat} (hl : mi_lget ls n.val = some (.inr (.inl (some x)))) (hk : mi_ok X k Ge Q nx ls (.inr (.inl (some x)) :: st) G μ u) : mi_ok X k Ge Q pc ls st G μ u := by
  obtain ⟨hd, hn, -⟩ := mi_dec h262 hat 1 rfl (by decide)
  subst hn
  intro base D ca sa adE p l e R s m args below meth c hA ad la H locs cells slots hS
  have hA' := hA
  obtain ⟨hx, hb, hml, hr, hown, hlk, hin, hex, hst, hf, hlo, hE⟩ := hA'
  obtain ⟨s1, s2, s3, s4, s5, s6⟩ := hS
  refine lv_aload_n hx hb hd rfl (s4 _ _ hl).1 ?_
  exact hk base D ca sa adE p l e R s m args below meth c hA ad la H locs cells slots ⟨s1, s2, s3, s4, mi_vo_c (s4 _ _ hl).2.1 s5, s6⟩
def mi_ent (ad : Nat → Nat) (ls : mi_L) : List (Nat × Value) := (List.range ls.length).filterMap (fun i => (mi_lget ls i).map (fun v => (i, mi_c ad v)))
theorem mi_ent_mem {ad : Nat → Nat} {ls : mi_L} {q : Nat × Value} : q ∈ mi_ent ad ls ↔ ∃ v, mi_lget ls q.1 = some v ∧ q.2 = mi_c ad v := by
  unfold mi_ent
  rw [List.mem_filterMap]
  constructor
  · rintro ⟨i, -, hi⟩
    cases hv : mi_lget ls i with
    | none => rw [hv] at hi; simp at hi
    | some v =>
      rw [hv] at hi
      have := Option.some.inj hi
      subst this
      exact ⟨v, hv, rfl⟩
  · rintro ⟨v, h1, h2⟩
    refine ⟨q.1, List.mem_range.mpr (mi_lget_len _ _ _ h1), ?_⟩
    rw [h1]
    show some (q.1, mi_c ad v) = some q
    rw [← h2]
theorem mi_cat_ne {ad : Nat → Nat} {v : mi_V} (h : ∀ z, v ≠ .inr (.inr z)) : ((mi_c ad v).category == 2) = false := by
  match v, h with
  | .inl _, _ => rfl
  | .inr (.inl none), _ => rfl
  | .inr (.inl (some _)), _ => rfl
  | .inr (.inr z), h => exact absurd rfl (h z)
/-- behind a store into a local -/
theorem mi_loc_set {ad : Nat → Nat} {ls : mi_L} {n nL g : Nat} {y : Value} {x : Option mi_V} {la' : Array Slot} {P : Nat → mi_V → Prop}
    (hs : ∀ i v, mi_lget ls i = some v → P i v ∧ mi_vo g v ∧ ∀ z, v ≠ .inr (.inr z)) (hx : ∀ v, x = some v → y = mi_c ad v ∧ mi_vo g v ∧ ∀ z, v ≠ .inr (.inr z))
    (h : lv_has la' nL ((n, y) :: (mi_ent ad ls).filter (fun q => !(q.1 == n) && !(q.1 + 1 == n && q.2.category == 2)))) :
    ∀ i v, mi_lget (mi_lset ls n x) i = some v → la'[i]? = some (.val (mi_c ad v)) ∧ mi_vo g v ∧ ∀ z, v ≠ .inr (.inr z) := by
  intro i v hv
  rcases mi_lset_get ls n i x v hv with ⟨h1, h2⟩ | ⟨h1, h2⟩
  · obtain ⟨e, hr⟩ := hx v h2
    subst h1; subst e
    exact ⟨h.2.2 _ List.mem_cons_self, hr⟩
  · refine ⟨?_, (hs i v h2).2⟩
    have hm : (i, mi_c ad v) ∈ (mi_ent ad ls).filter (fun q => !(q.1 == n) && !(q.1 + 1 == n && q.2.category == 2)) := by
      rw [List.mem_filter]
      refine ⟨mi_ent_mem.mpr ⟨v, h2, rfl⟩, ?_⟩
      have e1 : (i == n) = false := by simp [h1]
      simp only [e1, mi_cat_ne (hs i v h2).2.2, Bool.and_false, Bool.not_false, Bool.and_self]
    exact h.2.2 _ (List.mem_cons_of_mem _ hm)
theorem mi_s_istore (h262 : k < 262) {n : Nat} (hat : mi_at (mi_tb k) pc = some (.istore n, nx, aux)) {x : Int} (hl : n < ls.length) (hk : mi_ok X k Ge Q nx (mi_lset ls n (some (.inl x))) st G μ u) : mi_ok X k Ge Q pc ls (.inl x :: st) G μ u := by
  obtain ⟨hd, hn, -⟩ := mi_dec h262 hat 2 rfl (by decide)
  subst hn
  intro base D ca sa adE p l e R s m args below meth c hA ad la H locs cells slots hS
  have hA' := hA
  obtain ⟨hx, hb, hml, hr, hown, hlk, hin, hex, hst, hf, hlo, hE⟩ := hA'
  obtain ⟨s1, s2, s3, s4, s5, s6⟩ := hS
  refine lv_istore hx hb hd (lv := mi_ent ad ls) ⟨s2, s3, fun q hq => by obtain ⟨v, h1, h2⟩ := mi_ent_mem.mp hq; rw [h2]; exact (s4 _ _ h1).1⟩ (by rw [← s1]; exact hl) rfl ?_
  intro la' hla
  exact hk base D ca sa adE p l e R s m args below meth c hA ad la' H locs cells slots ⟨by rw [mi_lset_len]; exact s1, hla.1, hla.2.1, mi_loc_set (P := fun i v => la[i]? = some (.val (mi_c ad v))) s4 (fun v hv => by cases hv; exact ⟨rfl, s5 _ List.mem_cons_self, fun z hz => by cases hz⟩) hla, fun v hv => s5 v (List.mem_cons_of_mem _ hv), s6⟩
theorem mi_s_istore_n (h262 : k < 262) {n : Fin 4} (hat : mi_at (mi_tb k) pc = some (.istore_n n, nx, aux)) {x : Int} (hl : n.val < ls.length) (hk : mi_ok X k Ge Q nx (mi_lset ls n.val (some (.inl x))) st G μ u) : mi_ok X k Ge Q pc ls (.inl x :: st) G μ u := by
  obtain ⟨hd, hn, -⟩ := mi_dec h262 hat 1 rfl (by decide)
  subst hn
  intro base D ca sa adE p l e R s m args below meth c hA ad la H locs cells slots hS
  have hA' := hA
  obtain ⟨hx, hb, hml, hr, hown, hlk, hin, hex, hst, hf, hlo, hE⟩ := hA'
  obtain ⟨s1, s2, s3, s4, s5, s6⟩ := hS
  refine lv_istore_n hx hb hd rfl (lv := mi_ent ad ls) ⟨s2, s3, fun q hq => by obtain ⟨v, h1, h2⟩ := mi_ent_mem.mp hq; rw [h2]; exact (s4 _ _ h1).1⟩ (by rw [← s1]; exact hl) rfl ?_
  intro la' hla
  exact hk base D ca sa adE p l e R s m args below meth c hA ad la' H locs cells slots ⟨by rw [mi_lset_len]; exact s1, hla.1, hla.2.1, mi_loc_set (P := fun i v => la[i]? = some (.val (mi_c ad v))) s4 (fun v hv => by cases hv; exact ⟨rfl, s5 _ List.mem_cons_self, fun z hz => by cases hz⟩) hla, fun v hv => s5 v (List.mem_cons_of_mem _ hv), s6⟩
theorem mi_s_astore (h262 : k < 262) {n : Nat} (hat : mi_at (mi_tb k) pc = some (.astore n, nx, aux)) {x : Nat} (hl : n < ls.length) (hk : mi_ok X k Ge Q nx (mi_lset ls n (some (.inr (.inl (some x))))) st G μ u) : mi_ok X k Ge Q pc ls (.inr (.inl (some x)) :: st) G μ u := by
  obtain ⟨hd, hn, -⟩ := mi_dec h262 hat 2 rfl (by decide)
  subst hn
  intro base D ca sa adE p l e R s m args below meth c hA ad la H locs cells slots hS
  have hA' := hA
  obtain ⟨hx, hb, hml, hr, hown, hlk, hin, hex, hst, hf, hlo, hE⟩ := hA'
  obtain ⟨s1, s2, s3, s4, s5, s6⟩ := hS
  refine lv_astore hx hb hd (lv := mi_ent ad ls) ⟨s2, s3, fun q hq => by obtain ⟨v, h1, h2⟩ := mi_ent_mem.mp hq; rw [h2]; exact (s4 _ _ h1).1⟩ (by rw [← s1]; exact hl) rfl ?_
  intro la' hla
  exact hk base D ca sa adE p l e R s m args below meth c hA ad la' H locs cells slots ⟨by rw [mi_lset_len]; exact s1, hla.1, hla.2.1, mi_loc_set (P := fun i v => la[i]? = some (.val (mi_c ad v))) s4 (fun v hv => by cases hv; exact ⟨rfl, s5 _ List.mem_cons_self, fun z hz => by cases hz⟩) hla, fun v hv => s5 v (List.mem_cons_of_mem _ hv), s6⟩
theorem mi_s_astore_n (h262 : k < 262) {n : Fin 4} (hat : mi_at (mi_tb k) pc = some (.astore_n n, nx, aux)) {x : Nat} (hl : n.val < ls.length) (hk : mi_ok X k Ge Q nx (mi_lset ls n.val (some (.inr (.inl (some x))))) st G μ u) : mi_ok X k Ge Q pc ls (.inr (.inl (some x)) :: st) G μ u := by
  obtain ⟨hd, hn, -⟩ := mi_dec h262 hat 1 rfl (by decide)
  subst hn
  intro base D ca sa adE p l e R s m args below meth c hA ad la H locs cells slots hS
  have hA' := hA
  obtain ⟨hx, hb, hml, hr, hown, hlk, hin, hex, hst, hf, hlo, hE⟩ := hA'
  obtain ⟨s1, s2, s3, s4, s5, s6⟩ := hS
  refine lv_astore_n hx hb hd rfl (lv := mi_ent ad ls) ⟨s2, s3, fun q hq => by obtain ⟨v, h1, h2⟩ := mi_ent_mem.mp hq; rw [h2]; exact (s4 _ _ h1).1⟩ (by rw [← s1]; exact hl) rfl ?_
  intro la' hla
  exact hk base D ca sa adE p l e R s m args below meth c hA ad la' H locs cells slots ⟨by rw [mi_lset_len]; exact s1, hla.1, hla.2.1, mi_loc_set (P := fun i v => la[i]? = some (.val (mi_c ad v))) s4 (fun v hv => by cases hv; exact ⟨rfl, s5 _ List.mem_cons_self, fun z hz => by cases hz⟩) hla, fun v hv => s5 v (List.mem_cons_of_mem _ hv), s6⟩
theorem mi_s_iinc (h262 : k < 262) {n : Nat} {z : Int} (hat : mi_at (mi_tb k) pc = some (.iinc n z, nx, aux)) {x : Int} (hl : mi_lget ls n = some (.inl x)) (hk : mi_ok X k Ge Q nx (mi_lset ls n (some (.inl (x + z)))) st G μ u) : mi_ok X k Ge Q pc ls st G μ u := by
  obtain ⟨hd, hn, -⟩ := mi_dec h262 hat 3 rfl (by decide)
  subst hn
  intro base D ca sa adE p l e R s m args below meth c hA ad la H locs cells slots hS
  have hA' := hA
  obtain ⟨hx, hb, hml, hr, hown, hlk, hin, hex, hst, hf, hlo, hE⟩ := hA'
  obtain ⟨s1, s2, s3, s4, s5, s6⟩ := hS
  have hm : (n, Value.int (Int32.ofInt x)) ∈ mi_ent ad ls := mi_ent_mem.mpr ⟨_, hl, rfl⟩
  obtain ⟨j, hj⟩ := List.mem_iff_getElem?.mp hm
  refine lv_iinc (k := j) hx hb hd (lv := mi_ent ad ls) ⟨s2, s3, fun q hq => by obtain ⟨v, h1, h2⟩ := mi_ent_mem.mp hq; rw [h2]; exact (s4 _ _ h1).1⟩ hj (Int32.ofInt_add x z).symm (by rw [← s1]; exact mi_lget_len _ _ _ hl) rfl ?_
  intro la' hla
  exact hk base D ca sa adE p l e R s m args below meth c hA ad la' H locs cells slots ⟨by rw [mi_lset_len]; exact s1, hla.1, hla.2.1, mi_loc_set (P := fun i v => la[i]? = some (.val (mi_c ad v))) s4 (fun v hv => by cases hv; exact ⟨rfl, mi_vo_i, fun z hz => by cases hz⟩) hla, s5, s6⟩
theorem mi_wl_cut {base : Nat} {D : va_G} {ca : Nat → ClassId} {sa adE : Nat → Nat} {Ge G : mi_G} {ad : Nat → Nat} {μ : mi_M} {H : Heap} (h : mi_wl base D ca sa adE Ge.2.2 ad G μ H) (ha : mi_ag Ge G) (hw : mi_wf Ge) : mi_wl base D ca sa adE Ge.2.2 ad Ge μ H := by
  obtain ⟨h1, h2, h3, h4, h5, h6⟩ := h
  exact ⟨fun k q hq => h1 k q (mi_W_take ha k q hq), ⟨fun i j p q hp hq e => h2.1 i j p q (mi_W_take ha _ _ hp) (mi_W_take ha _ _ hq) e, fun k q hq => h2.2 k q (mi_W_take ha _ _ hq)⟩, h3, h4, Nat.le_refl _, hw⟩
theorem mi_wl_ret {base : Nat} {D : va_G} {ca : Nat → ClassId} {sa adE : Nat → Nat} {ad : Nat → Nat} {H : Heap} (h : mi_wl base D ca sa adE Ge.2.2 ad G μ H) (ha : (mi_hd k).2.2.2.1 = false → mi_ag Ge G ∧ mi_wf Ge) : mi_wl base D ca sa adE Ge.2.2 ad (bif (mi_hd k).2.2.2.1 then G else Ge) μ H := by
  cases hc : (mi_hd k).2.2.2.1 with
  | true => exact h
  | false => exact mi_wl_cut h (ha hc).1 (ha hc).2
theorem mi_s_ireturn (h262 : k < 262) (hat : mi_at (mi_tb k) pc = some (.ireturn, nx, aux)) {z : Int} (hz : Nat.beq aux 1 = true → z = 0 ∨ z = 1) (hQ : Q (.inl (some (.inl z))) (bif (mi_hd k).2.2.2.1 then G else Ge) μ) : mi_ok X k Ge Q pc ls [.inl z] G μ u := by
  obtain ⟨hd, hn, hc⟩ := mi_dec h262 hat 1 rfl (by decide)
  intro base D ca sa adE p l e R s m args below meth c hA ad la H locs cells slots hS
  obtain ⟨hx, hb, hml, hr, hown, hlk, hin, hex, hst, hf, hlo, hE⟩ := hA
  obtain ⟨s1, s2, s3, s4, s5, s6, s7, s8, s9, s10⟩ := hS
  refine vx_ret (W.widen (Nat.le_trans (Nat.le_add_right _ _) s9) (Nat.le_trans (Nat.le_add_right _ _) s10) ?_)
  have hq : ∀ t : State, t.heap = H → s.WarmedH t.vm → mi_Qc base D ca sa adE Ge.2.2 Q args s (.returned (some (.int (Int32.ofInt z)))) t := fun t ht _ => ⟨⟨some (.inl z), _, μ, ad, rfl, hQ, by rw [ht]; exact mi_wl_ret s6 s8, fun x hx => by cases hx; exact mi_vo_i⟩, s7.F ht⟩
  cases ha : Nat.beq aux 1 with
  | true =>
    simp only [mi_ck2, ha, cond_true, decide_eq_true_eq] at hc
    rw [hc] at hr
    refine W.zret hx hb hr ?_ hq s7.2.2 hd hlk
    rcases hz ha with e | e
    · subst e; rfl
    · subst e; rfl
  | false =>
    simp only [mi_ck2, ha, cond_false, decide_eq_true_eq] at hc
    rw [hc] at hr
    exact W.iret hx hb hr hq s7.2.2 hd hlk
theorem mi_s_return (h262 : k < 262) (hat : mi_at (mi_tb k) pc = some (.return_, nx, aux)) (hQ : Q (.inl none) (bif (mi_hd k).2.2.2.1 then G else Ge) μ) : mi_ok X k Ge Q pc ls [] G μ u := by
  obtain ⟨hd, hn, hc⟩ := mi_dec h262 hat 1 rfl (by decide)
  intro base D ca sa adE p l e R s m args below meth c hA ad la H locs cells slots hS
  obtain ⟨hx, hb, hml, hr, hown, hlk, hin, hex, hst, hf, hlo, hE⟩ := hA
  obtain ⟨s1, s2, s3, s4, s5, s6, s7, s8, s9, s10⟩ := hS
  refine vx_ret (W.widen (Nat.le_trans (Nat.le_add_right _ _) s9) (Nat.le_trans (Nat.le_add_right _ _) s10) ?_)
  simp only [mi_ck2, decide_eq_true_eq] at hc
  rw [hc] at hr
  exact W.vret hx hb hr (fun t ht _ => ⟨⟨none, _, μ, ad, rfl, hQ, by rw [ht]; exact mi_wl_ret s6 s8, fun x hx => by cases hx⟩, s7.F ht⟩) s7.2.2 hd hlk
end
end
section
/-! the classes: their words, fields, types -/
def mi_gl : List Cond := lw_tbl.filter mi_gw
theorem mi_in2 (L : List Cond) (ps : List Nat) (h : L = ps.filterMap (fun i => lw_tbl[i]?)) (hg : L.all mi_gw = true) : ∀ w ∈ L, w ∈ mi_gl := by
  intro w hw
  have h2 := List.all_eq_true.mp hg w hw
  rw [h] at hw
  obtain ⟨i, -, hi⟩ := List.mem_filterMap.mp hw
  exact List.mem_filter.mpr ⟨List.mem_of_getElem? hi, h2⟩
set_option maxRecDepth 100000 in
theorem mi_u0 : ∀ w ∈ u_ws RX0 TX0 3, w ∈ mi_gl := mi_in2 _ [293, 295, 297] (by decide +kernel) (by decide +kernel)
set_option maxRecDepth 100000 in
theorem mi_u1 : ∀ w ∈ u_ws RX1 TX1 7, w ∈ mi_gl := mi_in2 _ [199, 201, 203, 205, 207, 209, 211] (by decide +kernel) (by decide +kernel)
set_option maxRecDepth 100000 in
theorem mi_u2 : ∀ w ∈ u_ws RX2 TX2 3, w ∈ mi_gl := mi_in2 _ [421, 423, 425] (by decide +kernel) (by decide +kernel)
set_option maxRecDepth 100000 in
theorem mi_u3 : ∀ w ∈ u_ws RX3 TX3 6, w ∈ mi_gl := mi_in2 _ [351, 353, 355, 357, 359, 361] (by decide +kernel) (by decide +kernel)
set_option maxRecDepth 100000 in
theorem mi_u4 : ∀ w ∈ u_ws RX4 TX4 6, w ∈ mi_gl := mi_in2 _ [319, 321, 323, 325, 327, 329] (by decide +kernel) (by decide +kernel)
set_option maxRecDepth 100000 in
theorem mi_u5 : ∀ w ∈ u_ws RX5 TX5 3, w ∈ mi_gl := mi_in2 _ [270, 272, 274] (by decide +kernel) (by decide +kernel)
set_option maxRecDepth 100000 in
theorem mi_u6 : ∀ w ∈ u_ws RX6 TX6 7, w ∈ mi_gl := mi_in2 _ [377, 379, 381, 383, 385, 387, 389] (by decide +kernel) (by decide +kernel)
set_option maxRecDepth 100000 in
theorem mi_u7 : ∀ w ∈ u_ws RX7 TX7 6, w ∈ mi_gl := mi_in2 _ [244, 246, 248, 250, 252, 254] (by decide +kernel) (by decide +kernel)
set_option maxRecDepth 100000 in
theorem mi_u8 : ∀ w ∈ u_ws RX8 TX8 4, w ∈ mi_gl := mi_in2 _ [403, 405, 407, 409] (by decide +kernel) (by decide +kernel)
set_option maxRecDepth 100000 in
theorem mi_u9 : ∀ w ∈ u_ws RX9 TX9 4, w ∈ mi_gl := mi_in2 _ [169, 171, 173, 175] (by decide +kernel) (by decide +kernel)
set_option maxRecDepth 100000 in
theorem mi_u10 : ∀ w ∈ u_ws RX10 TX10 2, w ∈ mi_gl := mi_in2 _ [223, 225] (by decide +kernel) (by decide +kernel)
set_option maxRecDepth 100000 in
theorem mi_u11 : ∀ w ∈ u_ws RX11 TX11 12, w ∈ mi_gl := mi_in2 _ [440, 442, 444, 446, 448, 450, 452, 454, 456, 458, 460, 462] (by decide +kernel) (by decide +kernel)
set_option maxRecDepth 100000 in
theorem mi_u12 : ∀ w ∈ u_ws RX12 TX12 27, w ∈ mi_gl := mi_in2 _ [1240, 1242, 1244, 1246, 1248, 1250, 1252, 1254, 1256, 1258, 1260, 1262, 1264, 1266, 1268, 1270, 1272, 1274, 1276, 1278, 1280, 1282, 1284, 1286, 1288, 1290, 1292] (by decide +kernel) (by decide +kernel)
theorem mi_cls : ∀ c, c < 13 → vwCl[c]? = some (mi_rs c, mi_ct c, mi_cn c) ∧ (∀ w ∈ u_ws (mi_rs c) (mi_ct c) (mi_cn c), w ∈ mi_gl) ∧ (∀ k, k < mi_cn c → parseFieldDescriptor (mi_ct c k).2.2.1 = some (mi_cy c k)) ∧ (∀ a, a < mi_cn c → ∀ b, b < mi_cn c → a ≠ b → (mi_ct c a).2.1 ≠ (mi_ct c b).2.1)
  | 0, _ => ⟨rfl, mi_u0, tyX0_ok, nmX0⟩
  | 1, _ => ⟨rfl, mi_u1, tyX1_ok, nmX1⟩
  | 2, _ => ⟨rfl, mi_u2, tyX2_ok, nmX2⟩
  | 3, _ => ⟨rfl, mi_u3, tyX3_ok, nmX3⟩
  | 4, _ => ⟨rfl, mi_u4, tyX4_ok, nmX4⟩
  | 5, _ => ⟨rfl, mi_u5, tyX5_ok, nmX5⟩
  | 6, _ => ⟨rfl, mi_u6, tyX6_ok, nmX6⟩
  | 7, _ => ⟨rfl, mi_u7, tyX7_ok, nmX7⟩
  | 8, _ => ⟨rfl, mi_u8, tyX8_ok, nmX8⟩
  | 9, _ => ⟨rfl, mi_u9, tyX9_ok, nmX9⟩
  | 10, _ => ⟨rfl, mi_u10, tyX10_ok, nmX10⟩
  | 11, _ => ⟨rfl, mi_u11, tyX11_ok, nmX11⟩
  | 12, _ => ⟨rfl, mi_u12, tyX12_ok, nmX12⟩
  | n + 13, h => absurd h (by omega)
set_option maxRecDepth 100000 in
theorem mi_fR : ∀ c, c < 13 → ∀ k, k < mi_cn c → mi_fr c k = true → (mi_ct c k).2.2.2 = true ∧ (mi_ct c k).1 = mi_rs c ∧ defaultValue (mi_cy c k) = .null ∧ fits (mi_cy c k) (.ref 0) = true := by decide +kernel
set_option maxRecDepth 100000 in
theorem mi_fI1 : ∀ c, c < 13 → ∀ k, k < mi_cn c → mi_fr c k = false → (mi_ct c k).2.2.2 = false ∧ (mi_ct c k).1 = mi_rs c ∧ defaultValue (mi_cy c k) = .int 0 := by decide +kernel
set_option maxRecDepth 100000 in
theorem mi_fI2 : ∀ c, c < 13 → ∀ k, k < mi_cn c → mi_fr c k = false → mi_cy c k = (bif Nat.beq (c * 64 + k) 0 then .boolean else .int) := by decide +kernel
set_option maxRecDepth 100000 in
theorem mi_fN : ∀ c, c < 13 → mi_cn c < 64 := by decide +kernel
end
section
/-! fields, rows, new cells -/
theorem mi_blt {a b : Nat} (h : Nat.blt a b = true) : a < b := Nat.le_of_ble_eq_true h
theorem mi_ble {a b : Nat} (h : Nat.ble a b = true) : a ≤ b := Nat.le_of_ble_eq_true h
theorem mi_beq {a b : Nat} (h : Nat.beq a b = true) : a = b := Nat.eq_of_beq_eq_true h
theorem mi_env.gl {X : mi_X} {base : Nat} {D : va_G} {ca : Nat → ClassId} {sa : Nat → Nat} {U : State} {H : Heap} (h : mi_env X base D ca sa U H) {a : Array Value} : ∀ w ∈ mi_gl, w.before a U = true := fun _ hw => h.w (List.mem_filter.mp hw).1 (List.mem_filter.mp hw).2
section
variable {ca : Nat → ClassId} {ad : Nat → Nat} {kd : Nat × Nat} {rf : Nat → Option Nat} {row : Int → Int}
theorem mi_cl_obj {c : Nat} (h : kd.1 = 10 + c) : mi_cl ca ad kd rf row = .inr (c, (List.range kd.2).map (mi_fv ad c rf row)) := by
  obtain ⟨t, n⟩ := kd
  have h' : t = (c + 5) + 5 := by simp only at h; omega
  subst h'
  show (Sum.inr (c + 5 - 5, (List.range n).map (mi_fv ad (c + 5 - 5) rf row)) : va_E) = _
  rw [Nat.add_sub_cancel]
theorem mi_cl_0 (h : kd.1 = 0) : mi_cl ca ad kd rf row = .inl (ca 0, kd.2, .inl (fun j => Int32.ofInt (row (j : Int)))) := by obtain ⟨t, n⟩ := kd; simp only at h; subst h; rfl
theorem mi_cl_1 (h : kd.1 = 1) : mi_cl ca ad kd rf row = .inl (ca 1, kd.2, .inl (fun j => Int32.ofInt (row (j : Int)))) := by obtain ⟨t, n⟩ := kd; simp only at h; subst h; rfl
theorem mi_cl_2 (h : kd.1 = 2) : mi_cl ca ad kd rf row = .inl (ca 2, kd.2, .inr (.inl (fun j => Int64.ofInt (row (j : Int))))) := by obtain ⟨t, n⟩ := kd; simp only at h; subst h; rfl
theorem mi_cl_3 (h : kd.1 = 3) : mi_cl ca ad kd rf row = .inl (ca 3, kd.2, .inr (.inr (.inr (.inr (fun j => (rf j).map ad))))) := by obtain ⟨t, n⟩ := kd; simp only at h; subst h; rfl
theorem mi_cl_4 (h : kd.1 = 4) : mi_cl ca ad kd rf row = .inl (ca 4, kd.2, .inr (.inr (.inr (.inr (fun j => (rf j).map ad))))) := by obtain ⟨t, n⟩ := kd; simp only at h; subst h; rfl
theorem mi_fv_set {c N j : Nat} {z : Int} (hf : mi_fr c j = false) : ((List.range N).map (mi_fv ad c rf row)).set j (.int (Int32.ofInt z)) = (List.range N).map (mi_fv ad c rf (fun k => if k = (j : Int) then z else row k)) := by
  apply List.ext_getElem?
  intro i
  by_cases hi : i < N
  · rw [List.getElem?_map, List.getElem?_range hi]
    by_cases e : j = i
    · subst e
      rw [List.getElem?_set_self (by simp [hi])]
      simp [mi_fv, hf]
    · rw [List.getElem?_set_ne e, List.getElem?_map, List.getElem?_range hi]
      have : (i : Int) ≠ (j : Int) := by omega
      simp [mi_fv, this]
  · rw [List.getElem?_eq_none (by simp; omega), List.getElem?_eq_none (by simp; omega)]
theorem mi_fv_ref {c N j q : Nat} (hf : mi_fr c j = true) : ((List.range N).map (mi_fv ad c rf row)).set j (.ref (ad q)) = (List.range N).map (mi_fv ad c (mi_up rf j (some q)) row) := by
  apply List.ext_getElem?
  intro i
  by_cases hi : i < N
  · rw [List.getElem?_map, List.getElem?_range hi]
    by_cases e : j = i
    · subst e
      rw [List.getElem?_set_self (by simp [hi])]
      simp [mi_fv, hf, mi_up_self, va_rf]
    · rw [List.getElem?_set_ne e, List.getElem?_map, List.getElem?_range hi]
      simp [mi_fv, mi_up_ne (fun h => e h.symm)]
  · rw [List.getElem?_eq_none (by simp; omega), List.getElem?_eq_none (by simp; omega)]
theorem mi_upd {j : Int} {z : Int} {n : Nat} (hj : j = (n : Int)) : upd (fun j : Nat => Int32.ofInt (row (j : Int))) n (Int32.ofInt z) = fun i : Nat => Int32.ofInt ((fun k => if k = j then z else row k) (i : Int)) := by
  funext i
  subst hj
  by_cases e : i = n
  · subst e; simp [upd]
  · have : (i : Int) ≠ (n : Int) := by omega
    simp [upd, e, this]
theorem mi_updL {j : Int} {z : Int} {n : Nat} (hj : j = (n : Int)) : vp_updL (fun j : Nat => Int64.ofInt (row (j : Int))) n (Int64.ofInt z) = fun i : Nat => Int64.ofInt ((fun k => if k = j then z else row k) (i : Int)) := by
  funext i
  subst hj
  by_cases e : i = n
  · subst e; simp [vp_updL]
  · have : (i : Int) ≠ (n : Int) := by omega
    simp [vp_updL, e, this]
theorem mi_upq {n q : Nat} : va_up (fun j => (rf j).map ad) n (some (ad q)) = fun i => ((mi_up rf n (some q)) i).map ad := by
  funext i
  by_cases e : i = n
  · subst e; simp [va_up, mi_up_self]
  · simp [va_up, e, mi_up_ne e]
end
theorem mi_fit_ref (ty : FieldType) (a b : Nat) : fits ty (.ref a) = fits ty (.ref b) := by cases ty <;> rfl
theorem mi_nar_ref (ty : FieldType) (a : Nat) : narrow ty (.ref a) = .ref a := by cases ty <;> rfl
section
variable {X : mi_X} {k : Nat} {Ge : mi_G} {Q : mi_R → mi_G → mi_M → Prop} {pc nx aux : Nat} {ls : mi_L} {st st' : mi_S} {G : mi_G} {μ : mi_M} {u : mi_U}
theorem mi_wf_len (hw : mi_wf G) {r c : Nat} (hr : r < G.2.2) (ht : (G.1 r).1 = 10 + c) : (G.1 r).2 = mi_cn c := by
  rcases (hw.2.2 r hr).2 with h | ⟨h1, h2, h3⟩
  · omega
  · rw [h3, ht, Nat.add_sub_cancel_left]
theorem mi_s_getI (h262 : k < 262) {i : Nat} (hat : mi_at (mi_tb k) pc = some (.getfield i, nx, aux)) {r : Nat} (hr : r < G.2.2) (ht : (G.1 r).1 = 10 + aux / 64) (hf : mi_fr (aux / 64) (aux % 64) = false) (hk : mi_ok X k Ge Q nx ls (.inl (μ r ((aux % 64 : Nat) : Int)) :: st) G μ u) : mi_ok X k Ge Q pc ls (.inr (.inl (some r)) :: st) G μ u := by
  obtain ⟨hd, hn, hc⟩ := mi_dec h262 hat 3 rfl (by decide)
  subst hn
  simp only [mi_ck2, Bool.and_eq_true, decide_eq_true_eq] at hc
  obtain ⟨⟨c1, c2⟩, c3⟩ := hc
  have c2 := mi_blt c2
  have c3 := mi_blt c3
  intro base D ca sa adE p l e R s m args below meth c hA ad la H locs cells slots hS
  have hA' := hA
  obtain ⟨hx, hb, hml, hre, hown, hlk, hin, hex, hst, hfr, hlo, hE⟩ := hA'
  obtain ⟨s1, s2, s3, s4, s5, s6, s7⟩ := hS
  obtain ⟨k1, k2, k3, k4⟩ := mi_cls _ c2
  have hlen := mi_wf_len s6.2.2.2.2.2 hr ht
  have he := mi_W_get (ca := ca) (ad := ad) (μ := μ) hr
  rw [mi_cl_obj ht] at he
  refine va_get (D := D) (ci := aux / 64) (v := .int (Int32.ofInt (μ r ((aux % 64 : Nat) : Int)))) (C := mi_rs (aux / 64)) (T := mi_ct (aux / 64)) (N := mi_cn (aux / 64)) hx hb (hE.gl) k2 hown hE.2.1 s6.1 r he k1 (aux % 64) c3 (hE.w (mi_FL_ok _ c1) rfl) (fun x h => by rw [(mi_fI1 _ c2 _ c3 hf).2.1] at h; exact h) ?_ hd ?_
  · rw [List.getElem?_map, List.getElem?_range (by rw [hlen]; exact c3)]
    simp only [Option.map_some, mi_fv, hf, cond_false]
  · exact hk base D ca sa adE p l e R s m args below meth c hA ad la H locs cells slots ⟨s1, s2, s3, s4, mi_vo_c mi_vo_i (fun v hv => s5 v (List.mem_cons_of_mem _ hv)), s6, s7⟩
theorem mi_s_getR (h262 : k < 262) {i : Nat} (hat : mi_at (mi_tb k) pc = some (.getfield i, nx, aux)) {r : Nat} (hr : r < G.2.2) (ht : (G.1 r).1 = 10 + aux / 64) (hf : mi_fr (aux / 64) (aux % 64) = true) (hk : mi_ok X k Ge Q nx ls (.inr (.inl (G.2.1 r (aux % 64))) :: st) G μ u) : mi_ok X k Ge Q pc ls (.inr (.inl (some r)) :: st) G μ u := by
  obtain ⟨hd, hn, hc⟩ := mi_dec h262 hat 3 rfl (by decide)
  subst hn
  simp only [mi_ck2, Bool.and_eq_true, decide_eq_true_eq] at hc
  obtain ⟨⟨c1, c2⟩, c3⟩ := hc
  have c2 := mi_blt c2
  have c3 := mi_blt c3
  intro base D ca sa adE p l e R s m args below meth c hA ad la H locs cells slots hS
  have hA' := hA
  obtain ⟨hx, hb, hml, hre, hown, hlk, hin, hex, hst, hfr, hlo, hE⟩ := hA'
  obtain ⟨s1, s2, s3, s4, s5, s6, s7⟩ := hS
  obtain ⟨k1, k2, k3, k4⟩ := mi_cls _ c2
  have hw := s6.2.2.2.2.2
  have hlen := mi_wf_len hw hr ht
  have he := mi_W_get (ca := ca) (ad := ad) (μ := μ) hr
  rw [mi_cl_obj ht] at he
  refine va_get (D := D) (ci := aux / 64) (v := va_rf ((G.2.1 r (aux % 64)).map ad)) (C := mi_rs (aux / 64)) (T := mi_ct (aux / 64)) (N := mi_cn (aux / 64)) hx hb (hE.gl) k2 hown hE.2.1 s6.1 r he k1 (aux % 64) c3 (hE.w (mi_FL_ok _ c1) rfl) (fun x h => by rw [(mi_fR _ c2 _ c3 hf).2.1] at h; exact h) ?_ hd ?_
  · rw [List.getElem?_map, List.getElem?_range (by rw [hlen]; exact c3)]
    simp only [Option.map_some, mi_fv, hf, cond_true]
  · refine hk base D ca sa adE p l e R s m args below meth c hA ad la H locs cells slots ⟨s1, s2, s3, s4, mi_vo_c (fun q hq => ?_) (fun v hv => s5 v (List.mem_cons_of_mem _ hv)), s6, s7⟩
    have hq' : G.2.1 r (aux % 64) = some q := by injection hq with h1; injection h1
    exact Or.inl (hw.2.1 r _ q hr hq')
/-- numbers of a cell that is there are others -/
theorem mi_SF_row {base : Nat} {D : va_G} {ca : Nat → ClassId} {sa adE : Nat → Nat} {R : Room} {s : State} {ad : Nat → Nat} {la : Array Slot} {H H1 : Heap} {locs locs1 : List Loc} {cells slots : Nat} {r : Nat} {f : Int → Int}
    (hS : mi_SF base D ca sa adE k Ge ls st G μ u R s ad la H locs cells slots) (hv : ∀ v ∈ st', mi_vo G.2.2 v) (hP : va_P D vwCl (mi_W ca ad G (mi_row μ r f)) H1) (hD : va_D (mi_A base) (mi_W ca ad G (mi_row μ r f))) (h7 : va_S (mi_A base) s.heap H1 locs1) : mi_SF base D ca sa adE k Ge ls st' G (mi_row μ r f) u R s ad la H1 locs1 cells slots := by
  obtain ⟨s1, s2, s3, s4, s5, ⟨w1, w2, w3, w4, w5, w6⟩, s7, s8, s9, s10⟩ := hS
  exact ⟨s1, s2, s3, s4, hv, ⟨hP, hD, w3, w4, w5, w6⟩, h7, s8, s9, s10⟩
theorem mi_s_putI (h262 : k < 262) {i : Nat} (hat : mi_at (mi_tb k) pc = some (.putfield i, nx, aux)) {r : Nat} {z : Int} (hr : r < G.2.2) (ht : (G.1 r).1 = 10 + aux / 64) (hf : mi_fr (aux / 64) (aux % 64) = false) (hz : Nat.beq aux 0 = true → z = 0 ∨ z = 1) (hk : mi_ok X k Ge Q nx ls st G (mi_set μ r ((aux % 64 : Nat) : Int) z) u) : mi_ok X k Ge Q pc ls (.inl z :: .inr (.inl (some r)) :: st) G μ u := by
  obtain ⟨hd, hn, hc⟩ := mi_dec h262 hat 3 rfl (by decide)
  subst hn
  simp only [mi_ck2, Bool.and_eq_true, decide_eq_true_eq] at hc
  obtain ⟨⟨⟨c1, c2⟩, c3⟩, c4⟩ := hc
  have c2 := mi_blt c2
  have c3 := mi_blt c3
  intro base D ca sa adE p l e R s m args below meth c hA ad la H locs cells slots hS
  have hA' := hA
  have hS' := hS
  obtain ⟨hx, hb, hml, hre, hown, hlk, hin, hex, hst, hfr, hlo, hE⟩ := hA'
  obtain ⟨s1, s2, s3, s4, s5, s6, s7, s8⟩ := hS'
  obtain ⟨k1, k2, k3, k4⟩ := mi_cls _ c2
  have hlen := mi_wf_len s6.2.2.2.2.2 hr ht
  have he := mi_W_get (ca := ca) (ad := ad) (μ := μ) hr
  rw [mi_cl_obj ht] at he
  have hty := mi_fI2 _ c2 _ c3 hf
  have hax : aux / 64 * 64 + aux % 64 = aux := Nat.div_add_mod' aux 64
  rw [hax] at hty
  have hn : narrow (mi_cy (aux / 64) (aux % 64)) (.int (Int32.ofInt z)) = .int (Int32.ofInt z) ∧ fits (mi_cy (aux / 64) (aux % 64)) (.int (Int32.ofInt z)) = true := by
    rw [hty]
    cases hb0 : Nat.beq aux 0 with
    | false => exact ⟨rfl, rfl⟩
    | true =>
      rcases hz hb0 with e | e
      · subst e; exact ⟨rfl, rfl⟩
      · subst e; exact ⟨rfl, rfl⟩
  refine va_put (D := D) (ci := aux / 64) (v := .int (Int32.ofInt z)) (ty := mi_cy (aux / 64) (aux % 64)) (C := mi_rs (aux / 64)) (T := mi_ct (aux / 64)) (N := mi_cn (aux / 64)) hx hb (hE.gl) k2 (mi_cy (aux / 64)) k3 k4 hown hE.2.1 s6.1 s6.2.1 s7 r he k1 (aux % 64) c3 (hE.w (mi_FL_ok _ c1) rfl) (fun x h => by rw [(mi_fI1 _ c2 _ c3 hf).2.1] at h; exact h) (mi_fI1 _ c2 _ c3 hf).1 (k3 _ c3) hn.1 hn.2 (by simp only [List.length_map, List.length_range, hlen]; exact c3) hd ?_
  intro H1 locs1 hP1 hD1 hS1
  rw [mi_fv_set hf, ← mi_cl_obj (ca := ca) ht, mi_W_row _ hr] at hP1 hD1
  rw [mi_set_row] at hk
  exact hk base D ca sa adE p l e R s m args below meth c hA ad la H1 locs1 cells slots (mi_SF_row hS (fun v hv => s5 v (List.mem_cons_of_mem _ (List.mem_cons_of_mem _ hv))) hP1 hD1 hS1)
theorem mi_s_putR (h262 : k < 262) {i : Nat} (hat : mi_at (mi_tb k) pc = some (.putfield i, nx, aux)) {r q : Nat} (hct : (mi_hd k).2.2.2.1 = true) (hr : r < G.2.2) (hq : q < G.2.2) (ht : (G.1 r).1 = 10 + aux / 64) (hf : mi_fr (aux / 64) (aux % 64) = true) (hk : mi_ok X k Ge Q nx ls st (G.1, mi_up G.2.1 r (mi_up (G.2.1 r) (aux % 64) (some q)), G.2.2) μ u) : mi_ok X k Ge Q pc ls (.inr (.inl (some q)) :: .inr (.inl (some r)) :: st) G μ u := by
  obtain ⟨hd, hn, hc⟩ := mi_dec h262 hat 3 rfl (by decide)
  subst hn
  simp only [mi_ck2, Bool.and_eq_true, decide_eq_true_eq] at hc
  obtain ⟨⟨⟨c1, c2⟩, c3⟩, c4⟩ := hc
  have c2 := mi_blt c2
  have c3 := mi_blt c3
  obtain ⟨f1, f2, f3, f4⟩ := mi_fR _ c2 _ c3 hf
  rw [f1, cond_true, Bool.and_eq_true] at c4
  intro base D ca sa adE p l e R s m args below meth c hA ad la H locs cells slots hS
  have hA' := hA
  obtain ⟨hx, hb, hml, hre, hown, hlk, hin, hex, hst, hfr, hlo, hE⟩ := hA'
  obtain ⟨s1, s2, s3, s4, s5, ⟨w1, w2, w3, w4, w5, w6⟩, s7, s8, s9, s10⟩ := hS
  obtain ⟨k1, k2, k3, k4⟩ := mi_cls _ c2
  have hlen := mi_wf_len w6 hr ht
  have he := mi_W_get (ca := ca) (ad := ad) (μ := μ) hr
  rw [mi_cl_obj ht] at he
  refine va_putF (D := D) (ci := aux / 64) (v := .ref (ad q)) (ty := mi_cy (aux / 64) (aux % 64)) (C := mi_rs (aux / 64)) (T := mi_ct (aux / 64)) (N := mi_cn (aux / 64)) hx hb (hE.gl) k2 (mi_cy (aux / 64)) k3 k4 hown hE.2.1 w1 w2 s7 r he k1 (aux % 64) c3 (hE.w (mi_FL_ok _ c1) rfl) (fun x h => by rw [f2] at h; exact h) f1 (hin c4.1) (by rw [f2, mi_beq c4.2]) (k3 _ c3) (mi_nar_ref _ _) ((mi_fit_ref _ _ 0).trans f4) (by simp only [List.length_map, List.length_range, hlen]; exact c3) hd ?_
  intro H1 locs1 hP1 hD1 hS1
  rw [mi_fv_ref hf, ← mi_cl_obj (ca := ca) ht, mi_W_ref _ hr] at hP1 hD1
  refine hk base D ca sa adE p l e R s m args below meth c hA ad la H1 locs1 cells slots ⟨s1, s2, s3, s4, fun v hv => s5 v (List.mem_cons_of_mem _ (List.mem_cons_of_mem _ hv)), ⟨hP1, hD1, w3, w4, w5, ⟨w6.1, ?_, w6.2.2⟩⟩, hS1, (fun h => by rw [hct] at h; cases h), s9, s10⟩
  intro i' k' j' hi' hj'
  by_cases e1 : i' = r
  · subst e1
    simp only [mi_up_self] at hj'
    by_cases e2 : k' = aux % 64
    · subst e2
      rw [mi_up_self] at hj'
      cases hj'; exact hq
    · rw [mi_up_ne e2] at hj'
      exact w6.2.1 _ _ _ hi' hj'
  · simp only [mi_up_ne e1] at hj'
    exact w6.2.1 _ _ _ hi' hj'
end
end
section
section
variable {X : mi_X} {k : Nat} {Ge : mi_G} {Q : mi_R → mi_G → mi_M → Prop} {pc nx aux : Nat} {ls : mi_L} {st st' : mi_S} {G : mi_G} {μ : mi_M} {u : mi_U}
theorem mi_wfn (hw : mi_wf G) : G.2.2 ≤ 999 := hw.1
theorem mi_s_iald (h262 : k < 262) (hat : mi_at (mi_tb k) pc = some (.iaload, nx, aux)) {r : Nat} {j : Int} (hr : r < G.2.2) (ht : (G.1 r).1 = 0) (hl : (G.1 r).2 < 2147483648) (hj : 0 ≤ j ∧ j < ((G.1 r).2 : Int)) (hk : mi_ok X k Ge Q nx ls (.inl (μ r j) :: st) G μ u) : mi_ok X k Ge Q pc ls (.inl j :: .inr (.inl (some r)) :: st) G μ u := by
  obtain ⟨hd, hn, -⟩ := mi_dec h262 hat 1 rfl (by decide)
  subst hn
  intro base D ca sa adE p l e R s m args below meth c hA ad la H locs cells slots hS
  have hA' := hA
  obtain ⟨hx, hb, hml, hre, hown, hlk, hin, hex, hst, hfr, hlo, hE⟩ := hA'
  obtain ⟨s1, s2, s3, s4, s5, s6, s7⟩ := hS
  have he := mi_W_get (ca := ca) (ad := ad) (μ := μ) hr
  rw [mi_cl_0 ht] at he
  obtain ⟨i1, i2⟩ := mi_ix hj hl
  refine va_iald hx hb hE.2.1 s6.1 r 0 he rfl i1 hd ?_
  rw [i2]
  have e : ((j.toNat : Nat) : Int) = j := by omega
  rw [e]
  exact hk base D ca sa adE p l _ R s m args below meth c hA ad la H locs cells slots ⟨s1, s2, s3, s4, mi_vo_c mi_vo_i (fun v hv => s5 v (List.mem_cons_of_mem _ (List.mem_cons_of_mem _ hv))), s6, s7⟩
theorem mi_s_bald (h262 : k < 262) (hat : mi_at (mi_tb k) pc = some (.baload, nx, aux)) {r : Nat} {j : Int} (hr : r < G.2.2) (ht : (G.1 r).1 = 1) (hl : (G.1 r).2 < 2147483648) (hj : 0 ≤ j ∧ j < ((G.1 r).2 : Int)) (hk : mi_ok X k Ge Q nx ls (.inl (μ r j) :: st) G μ u) : mi_ok X k Ge Q pc ls (.inl j :: .inr (.inl (some r)) :: st) G μ u := by
  obtain ⟨hd, hn, -⟩ := mi_dec h262 hat 1 rfl (by decide)
  subst hn
  intro base D ca sa adE p l e R s m args below meth c hA ad la H locs cells slots hS
  have hA' := hA
  obtain ⟨hx, hb, hml, hre, hown, hlk, hin, hex, hst, hfr, hlo, hE⟩ := hA'
  obtain ⟨s1, s2, s3, s4, s5, s6, s7⟩ := hS
  have he := mi_W_get (ca := ca) (ad := ad) (μ := μ) hr
  rw [mi_cl_1 ht] at he
  obtain ⟨i1, i2⟩ := mi_ix hj hl
  refine va_bald hx hb hE.2.1 s6.1 r 1 he rfl i1 hd ?_
  rw [i2]
  have e : ((j.toNat : Nat) : Int) = j := by omega
  rw [e]
  exact hk base D ca sa adE p l _ R s m args below meth c hA ad la H locs cells slots ⟨s1, s2, s3, s4, mi_vo_c mi_vo_i (fun v hv => s5 v (List.mem_cons_of_mem _ (List.mem_cons_of_mem _ hv))), s6, s7⟩
theorem mi_s_lald (h262 : k < 262) (hat : mi_at (mi_tb k) pc = some (.laload, nx, aux)) {r : Nat} {j : Int} (hr : r < G.2.2) (ht : (G.1 r).1 = 2) (hl : (G.1 r).2 < 2147483648) (hj : 0 ≤ j ∧ j < ((G.1 r).2 : Int)) (hk : mi_ok X k Ge Q nx ls (.inr (.inr (μ r j)) :: st) G μ u) : mi_ok X k Ge Q pc ls (.inl j :: .inr (.inl (some r)) :: st) G μ u := by
  obtain ⟨hd, hn, -⟩ := mi_dec h262 hat 1 rfl (by decide)
  subst hn
  intro base D ca sa adE p l e R s m args below meth c hA ad la H locs cells slots hS
  have hA' := hA
  obtain ⟨hx, hb, hml, hre, hown, hlk, hin, hex, hst, hfr, hlo, hE⟩ := hA'
  obtain ⟨s1, s2, s3, s4, s5, s6, s7⟩ := hS
  have he := mi_W_get (ca := ca) (ad := ad) (μ := μ) hr
  rw [mi_cl_2 ht] at he
  obtain ⟨i1, i2⟩ := mi_ix hj hl
  refine va_lald hx hb hE.2.1 s6.1 r 2 he rfl i1 hd ?_
  rw [i2]
  have e : ((j.toNat : Nat) : Int) = j := by omega
  rw [e]
  exact hk base D ca sa adE p l _ R s m args below meth c hA ad la H locs cells slots ⟨s1, s2, s3, s4, mi_vo_c mi_vo_l (fun v hv => s5 v (List.mem_cons_of_mem _ (List.mem_cons_of_mem _ hv))), s6, s7⟩
theorem mi_s_aald (h262 : k < 262) (hat : mi_at (mi_tb k) pc = some (.aaload, nx, aux)) {r : Nat} {j : Int} (hr : r < G.2.2) (ht : (G.1 r).1 = 3 ∨ (G.1 r).1 = 4) (hl : (G.1 r).2 < 2147483648) (hj : 0 ≤ j ∧ j < ((G.1 r).2 : Int)) (hk : mi_ok X k Ge Q nx ls (.inr (.inl (G.2.1 r j.toNat)) :: st) G μ u) : mi_ok X k Ge Q pc ls (.inl j :: .inr (.inl (some r)) :: st) G μ u := by
  obtain ⟨hd, hn, -⟩ := mi_dec h262 hat 1 rfl (by decide)
  subst hn
  intro base D ca sa adE p l e R s m args below meth c hA ad la H locs cells slots hS
  have hA' := hA
  obtain ⟨hx, hb, hml, hre, hown, hlk, hin, hex, hst, hfr, hlo, hE⟩ := hA'
  obtain ⟨s1, s2, s3, s4, s5, s6, s7⟩ := hS
  have he := mi_W_get (ca := ca) (ad := ad) (μ := μ) hr
  obtain ⟨i1, i2⟩ := mi_ix hj hl
  have hgo : W p l e R s m args below meth c H locs cells slots (vx_MQ below (mi_Qc base D ca sa adE Ge.2.2 Q) (mi_XC base D ca sa adE Ge.2.2 Q) args s R.cells R.slots (mi_A base)) (F0 m (pc + 1) la (va_rf ((G.2.1 r j.toNat).map ad) :: st.map (mi_c ad))) := by
    refine hk base D ca sa adE p l e R s m args below meth c hA ad la H locs cells slots ⟨s1, s2, s3, s4, mi_vo_c (fun q hq => ?_) (fun v hv => s5 v (List.mem_cons_of_mem _ (List.mem_cons_of_mem _ hv))), s6, s7⟩
    have hq' : G.2.1 r j.toNat = some q := by injection hq with h1; injection h1
    exact Or.inl (s6.2.2.2.2.2.2.1 r _ q hr hq')
  rcases ht with ht | ht
  · rw [mi_cl_3 ht] at he
    refine va_aldq hx hb hE.2.1 s6.1 r 3 he rfl i1 hd ?_
    rw [i2]
    exact hgo
  · rw [mi_cl_4 ht] at he
    refine va_aldq hx hb hE.2.1 s6.1 r 4 he rfl i1 hd ?_
    rw [i2]
    exact hgo
theorem mi_s_iast (h262 : k < 262) (hat : mi_at (mi_tb k) pc = some (.iastore, nx, aux)) {r : Nat} {j z : Int} (hr : r < G.2.2) (ht : (G.1 r).1 = 0) (hl : (G.1 r).2 < 2147483648) (hj : 0 ≤ j ∧ j < ((G.1 r).2 : Int)) (hk : mi_ok X k Ge Q nx ls st G (mi_set μ r j z) u) : mi_ok X k Ge Q pc ls (.inl z :: .inl j :: .inr (.inl (some r)) :: st) G μ u := by
  obtain ⟨hd, hn, -⟩ := mi_dec h262 hat 1 rfl (by decide)
  subst hn
  intro base D ca sa adE p l e R s m args below meth c hA ad la H locs cells slots hS
  have hA' := hA
  have hS' := hS
  obtain ⟨hx, hb, hml, hre, hown, hlk, hin, hex, hst, hfr, hlo, hE⟩ := hA'
  obtain ⟨s1, s2, s3, s4, s5, s6, s7, s8⟩ := hS'
  have he := mi_W_get (ca := ca) (ad := ad) (μ := μ) hr
  rw [mi_cl_0 ht] at he
  obtain ⟨i1, i2⟩ := mi_ix hj hl
  refine va_iast hx hb hE.2.1 s6.1 s6.2.1 s7 r 0 he rfl i1 hd ?_
  intro H1 locs1 hP1 hD1 hS1
  have e : j = ((j.toNat : Nat) : Int) := by omega
  rw [i2, mi_upd e, ← mi_cl_0 (ca := ca) (ad := ad) (rf := G.2.1 r) (row := fun k => if k = j then z else μ r k) ht, mi_W_row _ hr] at hP1 hD1
  rw [mi_set_row] at hk
  exact hk base D ca sa adE p l _ R s m args below meth c hA ad la H1 locs1 cells slots (mi_SF_row hS (fun v hv => s5 v (List.mem_cons_of_mem _ (List.mem_cons_of_mem _ (List.mem_cons_of_mem _ hv)))) hP1 hD1 hS1)
theorem mi_s_bast (h262 : k < 262) (hat : mi_at (mi_tb k) pc = some (.bastore, nx, aux)) {r : Nat} {j z : Int} (hr : r < G.2.2) (ht : (G.1 r).1 = 1) (hl : (G.1 r).2 < 2147483648) (hj : 0 ≤ j ∧ j < ((G.1 r).2 : Int)) (hk : mi_ok X k Ge Q nx ls st G (mi_set μ r j (mi_i2b z)) u) : mi_ok X k Ge Q pc ls (.inl z :: .inl j :: .inr (.inl (some r)) :: st) G μ u := by
  obtain ⟨hd, hn, -⟩ := mi_dec h262 hat 1 rfl (by decide)
  subst hn
  intro base D ca sa adE p l e R s m args below meth c hA ad la H locs cells slots hS
  have hA' := hA
  have hS' := hS
  obtain ⟨hx, hb, hml, hre, hown, hlk, hin, hex, hst, hfr, hlo, hE⟩ := hA'
  obtain ⟨s1, s2, s3, s4, s5, s6, s7, s8⟩ := hS'
  have he := mi_W_get (ca := ca) (ad := ad) (μ := μ) hr
  rw [mi_cl_1 ht] at he
  obtain ⟨i1, i2⟩ := mi_ix hj hl
  refine va_bast hx hb hE.2.1 s6.1 s6.2.1 s7 r 1 he rfl i1 hd ?_
  intro H1 locs1 hP1 hD1 hS1
  have e : j = ((j.toNat : Nat) : Int) := by omega
  have e2 : vp_nar .byte (Int32.ofInt z) = Int32.ofInt (mi_i2b z) := by rw [vp_nar_byte]; exact (mi_of_toInt _).symm
  rw [i2, e2, mi_upd e, ← mi_cl_1 (ca := ca) (ad := ad) (rf := G.2.1 r) (row := fun k => if k = j then mi_i2b z else μ r k) ht, mi_W_row _ hr] at hP1 hD1
  rw [mi_set_row] at hk
  exact hk base D ca sa adE p l _ R s m args below meth c hA ad la H1 locs1 cells slots (mi_SF_row hS (fun v hv => s5 v (List.mem_cons_of_mem _ (List.mem_cons_of_mem _ (List.mem_cons_of_mem _ hv)))) hP1 hD1 hS1)
theorem mi_s_last (h262 : k < 262) (hat : mi_at (mi_tb k) pc = some (.lastore, nx, aux)) {r : Nat} {j z : Int} (hr : r < G.2.2) (ht : (G.1 r).1 = 2) (hl : (G.1 r).2 < 2147483648) (hj : 0 ≤ j ∧ j < ((G.1 r).2 : Int)) (hk : mi_ok X k Ge Q nx ls st G (mi_set μ r j z) u) : mi_ok X k Ge Q pc ls (.inr (.inr z) :: .inl j :: .inr (.inl (some r)) :: st) G μ u := by
  obtain ⟨hd, hn, -⟩ := mi_dec h262 hat 1 rfl (by decide)
  subst hn
  intro base D ca sa adE p l e R s m args below meth c hA ad la H locs cells slots hS
  have hA' := hA
  have hS' := hS
  obtain ⟨hx, hb, hml, hre, hown, hlk, hin, hex, hst, hfr, hlo, hE⟩ := hA'
  obtain ⟨s1, s2, s3, s4, s5, s6, s7, s8⟩ := hS'
  have he := mi_W_get (ca := ca) (ad := ad) (μ := μ) hr
  rw [mi_cl_2 ht] at he
  obtain ⟨i1, i2⟩ := mi_ix hj hl
  refine va_last hx hb hE.2.1 s6.1 s6.2.1 s7 r 2 he rfl i1 hd ?_
  intro H1 locs1 hP1 hD1 hS1
  have e : j = ((j.toNat : Nat) : Int) := by omega
  rw [i2, mi_updL e, ← mi_cl_2 (ca := ca) (ad := ad) (rf := G.2.1 r) (row := fun k => if k = j then z else μ r k) ht, mi_W_row _ hr] at hP1 hD1
  rw [mi_set_row] at hk
  exact hk base D ca sa adE p l _ R s m args below meth c hA ad la H1 locs1 cells slots (mi_SF_row hS (fun v hv => s5 v (List.mem_cons_of_mem _ (List.mem_cons_of_mem _ (List.mem_cons_of_mem _ hv)))) hP1 hD1 hS1)
theorem mi_s_aast (h262 : k < 262) (hat : mi_at (mi_tb k) pc = some (.aastore, nx, aux)) {r q : Nat} {j : Int} (hct : (mi_hd k).2.2.2.1 = true) (hr : r < G.2.2) (hq : q < G.2.2) (ht : ((G.1 r).1 = 3 ∧ (G.1 q).1 = 19) ∨ ((G.1 r).1 = 4 ∧ (G.1 q).1 = 10)) (hl : (G.1 r).2 < 2147483648) (hj : 0 ≤ j ∧ j < ((G.1 r).2 : Int)) (hk : mi_ok X k Ge Q nx ls st (G.1, mi_up G.2.1 r (mi_up (G.2.1 r) j.toNat (some q)), G.2.2) μ u) : mi_ok X k Ge Q pc ls (.inr (.inl (some q)) :: .inl j :: .inr (.inl (some r)) :: st) G μ u := by
  obtain ⟨hd, hn, -⟩ := mi_dec h262 hat 1 rfl (by decide)
  subst hn
  intro base D ca sa adE p l e R s m args below meth c hA ad la H locs cells slots hS
  have hA' := hA
  obtain ⟨hx, hb, hml, hre, hown, hlk, hin, hex, hst, hfr, hlo, hE⟩ := hA'
  obtain ⟨s1, s2, s3, s4, s5, ⟨w1, w2, w3, w4, w5, w6⟩, s7, s8, s9, s10⟩ := hS
  have he := mi_W_get (ca := ca) (ad := ad) (μ := μ) hr
  have hv := mi_W_get (ca := ca) (ad := ad) (μ := μ) hq
  obtain ⟨i1, i2⟩ := mi_ix hj hl
  have hw : mi_wf (G.1, mi_up G.2.1 r (mi_up (G.2.1 r) j.toNat (some q)), G.2.2) := by
    refine ⟨w6.1, ?_, w6.2.2⟩
    intro i' k' j' hi' hj'
    by_cases e1 : i' = r
    · subst e1
      simp only [mi_up_self] at hj'
      by_cases e2 : k' = j.toNat
      · subst e2
        rw [mi_up_self] at hj'
        cases hj'; exact hq
      · rw [mi_up_ne e2] at hj'
        exact w6.2.1 _ _ _ hi' hj'
    · simp only [mi_up_ne e1] at hj'
      exact w6.2.1 _ _ _ hi' hj'
  have hgo : ∀ H1 locs1, va_P D vwCl (mi_W ca ad (G.1, mi_up G.2.1 r (mi_up (G.2.1 r) j.toNat (some q)), G.2.2) μ) H1 → va_D (mi_A base) (mi_W ca ad (G.1, mi_up G.2.1 r (mi_up (G.2.1 r) j.toNat (some q)), G.2.2) μ) → va_S (mi_A base) s.heap H1 locs1 → W p l e R s m args below meth c H1 locs1 cells slots (vx_MQ below (mi_Qc base D ca sa adE Ge.2.2 Q) (mi_XC base D ca sa adE Ge.2.2 Q) args s R.cells R.slots (mi_A base)) (F0 m (pc + 1) la (st.map (mi_c ad))) := fun H1 locs1 hP1 hD1 hS1 =>
    hk base D ca sa adE p l e R s m args below meth c hA ad la H1 locs1 cells slots ⟨s1, s2, s3, s4, fun v hv => s5 v (List.mem_cons_of_mem _ (List.mem_cons_of_mem _ (List.mem_cons_of_mem _ hv))), ⟨hP1, hD1, w3, w4, w5, hw⟩, hS1, (fun h => by rw [hct] at h; cases h), s9, s10⟩
  rcases ht with ⟨ht, hc⟩ | ⟨ht, hc⟩
  · rw [mi_cl_3 ht] at he
    rw [mi_cl_obj (c := 9) hc] at hv
    refine va_astq (r := (RX9, TX9, 4)) hx hb hE.2.1 w1 w2 s7 r 3 q 9 he rfl hv rfl i1 hd ?_
    intro H1 locs1 hP1 hD1 hS1
    rw [i2, mi_upq, ← mi_cl_3 (ca := ca) (ad := ad) (row := μ r) ht, mi_W_ref _ hr] at hP1 hD1
    exact hgo H1 locs1 hP1 hD1 hS1
  · rw [mi_cl_4 ht] at he
    rw [mi_cl_obj (c := 0) hc] at hv
    refine va_astq (r := (RX0, TX0, 3)) hx hb hE.2.1 w1 w2 s7 r 4 q 0 he rfl hv rfl i1 hd ?_
    intro H1 locs1 hP1 hD1 hS1
    rw [i2, mi_upq, ← mi_cl_4 (ca := ca) (ad := ad) (row := μ r) ht, mi_W_ref _ hr] at hP1 hD1
    exact hgo H1 locs1 hP1 hD1 hS1
end
end
section
/-! statics, the script, texts by name; new cells; Object's constructor; arraycopy -/
theorem mi_getD_l {α : Type} (l : List α) (i : Nat) (d : α) (h : i < l.length) : ∃ x, l[i]? = some x ∧ l.getD i d = x := ⟨l[i], by simp [h], by simp [h]⟩
section
variable {X : mi_X} {k : Nat} {Ge : mi_G} {Q : mi_R → mi_G → mi_M → Prop} {pc nx aux : Nat} {ls : mi_L} {st st' : mi_S} {G : mi_G} {μ : mi_M} {u : mi_U}
theorem mi_s_getS (h262 : k < 262) {i : Nat} (hat : mi_at (mi_tb k) pc = some (.getstatic i, nx, aux)) (hk : mi_ok X k Ge Q nx ls (.inr (.inl (some aux)) :: st) G μ u) : mi_ok X k Ge Q pc ls st G μ u := by
  obtain ⟨hd, hn, hc⟩ := mi_dec h262 hat 3 rfl (by decide)
  subst hn
  simp only [mi_ck2, Bool.and_eq_true, Bool.or_eq_true, decide_eq_true_eq] at hc
  obtain ⟨⟨c1, c2⟩, c3⟩ := hc
  have c1 := mi_ble c1
  have c2 := mi_blt c2
  intro base D ca sa adE p l e R s m args below meth c hA ad la H locs cells slots hS
  have hA' := hA
  obtain ⟨hx, hb, hml, hre, hown, hlk, hin, hex, hst, hfr, hlo, hE⟩ := hA'
  obtain ⟨s1, s2, s3, s4, s5, s6, s7⟩ := hS
  have hz := (hE.2.2.1 (aux - 1000) (by omega)).1
  have e9 : 1000 + (aux - 1000) = aux := by omega
  rw [e9, ← s6.2.2.1 aux c1] at hz
  have hgo : W p l e R s m args below meth c H locs cells slots (vx_MQ below (mi_Qc base D ca sa adE Ge.2.2 Q) (mi_XC base D ca sa adE Ge.2.2 Q) args s R.cells R.slots (mi_A base)) (F0 m (pc + 3) la (.ref (ad aux) :: st.map (mi_c ad))) :=
    hk base D ca sa adE p l e R s m args below meth c hA ad la H locs cells slots ⟨s1, s2, s3, s4, mi_vo_c (mi_vo_r (Or.inr c1)) s5, s6, s7⟩
  rcases c3 with c3 | c3
  · exact va_getsN (ref := "TwoViews") (host := "TwoViews") hx hb hz s7.1 hown (hE.w (mi_SL_ok _ c3) rfl) (fun x h => h) hd hgo
  · exact va_gets (ref := "TwoViews") hx hb hz s7.1 hown (hE.w (mi_SL_ok _ c3) rfl) (fun x h => h) hd hgo
theorem mi_sv8 : ∀ j, j < 6 → (mi_sv.getD j []).length = 8 := by decide
theorem mi_ro_st {r : Nat} (h1 : r < 1010) (j : Int) : mi_ro X r j = (mi_sv.getD (r - 1000) []).getD j.toNat 0 := by
  have : Nat.blt r 1010 = true := Nat.ble_eq_true_of_le h1
  simp only [mi_ro, this, cond_true]
theorem mi_s_ialdS (h262 : k < 262) (hat : mi_at (mi_tb k) pc = some (.iaload, nx, aux)) {r : Nat} {j : Int} (h1 : 1000 ≤ r) (h2 : r < 1006) (hj : 0 ≤ j ∧ j < 8) (hk : mi_ok X k Ge Q nx ls (.inl (mi_ro X r j) :: st) G μ u) : mi_ok X k Ge Q pc ls (.inl j :: .inr (.inl (some r)) :: st) G μ u := by
  obtain ⟨hd, hn, -⟩ := mi_dec h262 hat 1 rfl (by decide)
  subst hn
  intro base D ca sa adE p l e R s m args below meth c hA ad la H locs cells slots hS
  have hA' := hA
  obtain ⟨hx, hb, hml, hre, hown, hlk, hin, hex, hst, hfr, hlo, hE⟩ := hA'
  obtain ⟨s1, s2, s3, s4, s5, s6, s7⟩ := hS
  have hT := (hE.2.2.1 (r - 1000) (by omega)).2
  have e9 : 1000 + (r - 1000) = r := by omega
  rw [e9, ← s6.2.2.1 r h1] at hT
  obtain ⟨i1, i2⟩ := mi_ix (n := 8) hj (by omega)
  refine va_ti (v := .int (Int32.ofInt (mi_ro X r j))) hx hb hT s7.1 i1 ?_ hd ?_
  · rw [i2, mi_ro_st (by omega)]
  · exact hk base D ca sa adE p l e R s m args below meth c hA ad la H locs cells slots ⟨s1, s2, s3, s4, mi_vo_c mi_vo_i (fun v hv => s5 v (List.mem_cons_of_mem _ (List.mem_cons_of_mem _ hv))), s6, s7⟩
theorem mi_s_ialdX (h262 : k < 262) (hat : mi_at (mi_tb k) pc = some (.iaload, nx, aux)) {j : Int} (hj : 0 ≤ j ∧ j < (X.2 : Int)) (hk : mi_ok X k Ge Q nx ls (.inl (mi_ro X 1010 j) :: st) G μ u) : mi_ok X k Ge Q pc ls (.inl j :: .inr (.inl (some 1010)) :: st) G μ u := by
  obtain ⟨hd, hn, -⟩ := mi_dec h262 hat 1 rfl (by decide)
  subst hn
  intro base D ca sa adE p l e R s m args below meth c hA ad la H locs cells slots hS
  have hA' := hA
  obtain ⟨hx, hb, hml, hre, hown, hlk, hin, hex, hst, hfr, hlo, hE⟩ := hA'
  obtain ⟨s1, s2, s3, s4, s5, s6, s7⟩ := hS
  obtain ⟨x1, x2, x3, x4⟩ := hE.2.2.2.1
  obtain ⟨i1, i2⟩ := mi_ix hj x3
  have e9 : mi_c ad (.inr (.inl (some 1010))) = .ref (sa 1010) := by
    show Value.ref (ad 1010) = _
    rw [s6.2.2.1 1010 (by omega)]
  show W p l e R s m args below meth c H locs cells slots _ (F0 m pc la (.int (Int32.ofInt j) :: mi_c ad (.inr (.inl (some 1010))) :: st.map (mi_c ad)))
  rw [e9]
  refine va_sld hx hb x1 (Nat.lt_of_lt_of_le x2 x4) (show ¬ mi_A base (sa 1010) by unfold mi_A; omega) s7.1 i1 hd ?_
  rw [i2]
  have e8 : X.1 j.toNat = Int32.ofInt (mi_ro X 1010 j) := (mi_of_toInt _).symm
  rw [e8]
  exact hk base D ca sa adE p l e R s m args below meth c hA ad la H locs cells slots ⟨s1, s2, s3, s4, mi_vo_c mi_vo_i (fun v hv => s5 v (List.mem_cons_of_mem _ (List.mem_cons_of_mem _ hv))), s6, s7⟩
theorem mi_s_alenX (h262 : k < 262) (hat : mi_at (mi_tb k) pc = some (.arraylength, nx, aux)) (hk : mi_ok X k Ge Q nx ls (.inl (X.2 : Int) :: st) G μ u) : mi_ok X k Ge Q pc ls (.inr (.inl (some 1010)) :: st) G μ u := by
  obtain ⟨hd, hn, -⟩ := mi_dec h262 hat 1 rfl (by decide)
  subst hn
  intro base D ca sa adE p l e R s m args below meth c hA ad la H locs cells slots hS
  have hA' := hA
  obtain ⟨hx, hb, hml, hre, hown, hlk, hin, hex, hst, hfr, hlo, hE⟩ := hA'
  obtain ⟨s1, s2, s3, s4, s5, s6, s7⟩ := hS
  obtain ⟨x1, x2, x3, x4⟩ := hE.2.2.2.1
  have e9 : mi_c ad (.inr (.inl (some 1010))) = .ref (sa 1010) := by
    show Value.ref (ad 1010) = _
    rw [s6.2.2.1 1010 (by omega)]
  show W p l e R s m args below meth c H locs cells slots _ (F0 m pc la (mi_c ad (.inr (.inl (some 1010))) :: st.map (mi_c ad)))
  rw [e9]
  refine va_slen hx hb x1 (Nat.lt_of_lt_of_le x2 x4) (show ¬ mi_A base (sa 1010) by unfold mi_A; omega) s7.1 hd ?_
  rw [← Int32.ofInt_eq_ofNat]
  exact hk base D ca sa adE p l e R s m args below meth c hA ad la H locs cells slots ⟨s1, s2, s3, s4, mi_vo_c mi_vo_i (fun v hv => s5 v (List.mem_cons_of_mem _ hv)), s6, s7⟩
theorem mi_TL_lo : ∀ e ∈ mi_TL, 1020 ≤ e.2.2 ∧ e.2.2 < 1029 := by decide
theorem mi_s_ldcS (h262 : k < 262) {i : Nat} (hat : mi_at (mi_tb k) pc = some (.ldc i, nx, aux)) (ha : Nat.blt aux 2147483648 = false) (hk : mi_ok X k Ge Q nx ls (.inr (.inl (some (aux - 2147483648))) :: st) G μ u) : mi_ok X k Ge Q pc ls st G μ u := by
  obtain ⟨hd, hn, hc⟩ := mi_dec h262 hat 2 rfl (by decide)
  subst hn
  simp only [mi_ck2, ha, cond_false, decide_eq_true_eq] at hc
  intro base D ca sa adE p l e R s m args below meth c hA ad la H locs cells slots hS
  have hA' := hA
  obtain ⟨hx, hb, hml, hre, hown, hlk, hin, hex, hst, hfr, hlo, hE⟩ := hA'
  obtain ⟨s1, s2, s3, s4, s5, s6, s7⟩ := hS
  have hR := hE.2.2.2.2.1.1 _ hc
  have hlo := mi_TL_lo _ hc
  refine va_ldcS hx hb hown hR hd ?_
  show W p l e R s m args below meth c H locs cells slots _ (F0 m (pc + 2) la (.ref (sa (aux - 2147483648)) :: st.map (mi_c ad)))
  rw [← s6.2.2.1 _ (show 1000 ≤ aux - 2147483648 by have := hlo.1; simp only at this; omega)]
  exact hk base D ca sa adE p l e R s m args below meth c hA ad la H locs cells slots ⟨s1, s2, s3, s4, mi_vo_c (mi_vo_r (Or.inr (by have := hlo.1; simp only at this; omega))) s5, s6, s7⟩
/-- one cell more -/
theorem mi_push {base : Nat} {D : va_G} {ca : Nat → ClassId} {sa adE : Nat → Nat} {R : Room} {s : State} {ad : Nat → Nat} {la : Array Slot} {H H1 : Heap} {locs : List Loc} {cells slots q w : Nat} {kd : Nat × Nat}
    (hS : mi_SF base D ca sa adE k Ge ls st' G μ u R s ad la H locs cells slots) (hv : ∀ v ∈ st, v ∈ st') (hn : G.2.2 < 999) (hkd : kd.2 ≤ 4096 ∧ (kd.1 ≤ 4 ∨ 10 ≤ kd.1 ∧ kd.1 < 23 ∧ kd.2 = mi_cn (kd.1 - 10)))
    (hP : va_P D vwCl (mi_W ca ad G μ ++ [(q, mi_cl ca ad kd (fun _ => none) (fun _ => 0))]) H1) (hD : va_D (mi_A base) (mi_W ca ad G μ ++ [(q, mi_cl ca ad kd (fun _ => none) (fun _ => 0))])) (h7 : va_S (mi_A base) s.heap H1 locs) (hu : 1 ≤ u.1 ∧ w ≤ u.2) :
    mi_SF base D ca sa adE k Ge ls (.inr (.inl (some G.2.2)) :: st) (mi_up G.1 G.2.2 kd, mi_up G.2.1 G.2.2 (fun _ => none), G.2.2 + 1) (mi_row μ G.2.2 (fun _ => 0)) (u.1 - 1, u.2 - w) R s (mi_up ad G.2.2 q) la H1 locs (cells + 1) (slots + w) ∧ ((.inr (.inl (some G.2.2)) :: st : mi_S).map (mi_c (mi_up ad G.2.2 q)) = .ref q :: st.map (mi_c ad)) := by
  obtain ⟨s1, s2, s3, s4, s5, ⟨w1, w2, w3, w4, w5, w6⟩, s7, s8, s9, s10⟩ := hS
  have hlt : ∀ i, i < G.2.2 → mi_up ad G.2.2 q i = ad i := fun i hi => mi_up_ne (Nat.ne_of_lt hi)
  have hge : ∀ i, 1000 ≤ i → mi_up ad G.2.2 q i = ad i := fun i hi => mi_up_ne (by omega)
  have hvo : ∀ v, mi_vo G.2.2 v → mi_vo (G.2.2 + 1) v := fun v h r e => (h r e).imp (fun h => by omega) id
  rw [mi_W_push w6.2.1 (fun _ => rfl)] at hP hD
  refine ⟨⟨s1, s2, s3, fun i v hi => ?_, mi_vo_c (mi_vo_r (Or.inl (Nat.lt_succ_self _))) (fun v h => hvo v (s5 v (hv v h))), ⟨hP, hD, fun i hi => (hge i hi).trans (w3 i hi), fun i hi => (hlt i (Nat.lt_of_lt_of_le hi w5)).trans (w4 i hi), Nat.le_succ_of_le w5, ⟨by show G.2.2 + 1 ≤ 999; omega, ?_, ?_⟩⟩, h7, fun h => ?_, by show cells + 1 + (u.1 - 1) ≤ R.cells; omega, by show slots + w + (u.2 - w) ≤ R.slots; omega⟩, ?_⟩
  · obtain ⟨a1, a2, a3⟩ := s4 i v hi
    exact ⟨by rw [mi_c_ad a2 hlt hge]; exact a1, hvo v a2, a3⟩
  · intro i k' j hi hj
    by_cases e : i = G.2.2
    · subst e
      simp only [mi_up_self] at hj
      cases hj
    · simp only [mi_up_ne e] at hj
      have := w6.2.1 i k' j (by have : i < G.2.2 + 1 := hi; omega) hj
      exact Nat.lt_succ_of_lt this
  · intro i hi
    by_cases e : i = G.2.2
    · subst e
      simp only [mi_up_self]
      exact hkd
    · simp only [mi_up_ne e]
      exact w6.2.2 i (by have : i < G.2.2 + 1 := hi; omega)
  · obtain ⟨a1, a2⟩ := s8 h
    refine ⟨⟨Nat.le_succ_of_le a1.1, fun i hi => ?_⟩, a2⟩
    have e : i ≠ G.2.2 := by have := a1.1; omega
    simp only [mi_up_ne e]
    exact a1.2 i hi
  · have e1 : st.map (mi_c (mi_up ad G.2.2 q)) = st.map (mi_c ad) := List.map_congr_left (fun v h => mi_c_ad (s5 v (hv v h)) hlt hge)
    show Value.ref (mi_up ad G.2.2 q G.2.2) :: st.map (mi_c (mi_up ad G.2.2 q)) = _
    rw [e1, mi_up_self]
end
end
