section
-- ===== PART A: goes FIRST, ahead of the names: the tables' words, and 'selects' of the private methods out of them =====
/-- a private method of a class that the tables say can be made, by its rows of tables_1 -/
def lw_okq (q : MethodName × Nat) : Prop := (q.1.cls ≠ "java/lang/invoke/MethodHandle" ∧ q.1.cls ≠ "java/lang/invoke/VarHandle") ∧ Cond.instantiable q.1.cls q.2 ∈ tables_1 ∧ Cond.privateMethod q.1 ∈ tables_1 ∧ Cond.instanceMethod q.1 ∈ tables_1
theorem lw_p0 : lw_okq (⟨"CandleBar$Light", "unheld", "(II)I"⟩, 6) := ⟨⟨by decide +kernel, by decide +kernel⟩, List.mem_of_getElem? (i := 45) (by decide +kernel), List.mem_of_getElem? (i := 423) (by decide +kernel), List.mem_of_getElem? (i := 424) (by decide +kernel)⟩
theorem lw_p1 : lw_okq (⟨"CandleBar$Light", "glow", "(I)I"⟩, 6) := ⟨⟨by decide +kernel, by decide +kernel⟩, List.mem_of_getElem? (i := 45) (by decide +kernel), List.mem_of_getElem? (i := 427) (by decide +kernel), List.mem_of_getElem? (i := 428) (by decide +kernel)⟩
theorem lw_p2 : lw_okq (⟨"CandleBar", "shelfRefusal", "(II)I"⟩, 9) := ⟨⟨by decide +kernel, by decide +kernel⟩, List.mem_of_getElem? (i := 24) (by decide +kernel), List.mem_of_getElem? (i := 506) (by decide +kernel), List.mem_of_getElem? (i := 507) (by decide +kernel)⟩
theorem lw_p3 : lw_okq (⟨"CandleBar$Row", "leastNumber", "()I"⟩, 3) := ⟨⟨by decide +kernel, by decide +kernel⟩, List.mem_of_getElem? (i := 321) (by decide +kernel), List.mem_of_getElem? (i := 514) (by decide +kernel), List.mem_of_getElem? (i := 515) (by decide +kernel)⟩
theorem lw_p4 : lw_okq (⟨"CandleBar$ChainFinder", "measure", "(LCandleBar$State;I)V"⟩, 5) := ⟨⟨by decide +kernel, by decide +kernel⟩, List.mem_of_getElem? (i := 249) (by decide +kernel), List.mem_of_getElem? (i := 540) (by decide +kernel), List.mem_of_getElem? (i := 541) (by decide +kernel)⟩
theorem lw_p5 : lw_okq (⟨"CandleBar$ChainFinder", "reach", "(III)V"⟩, 5) := ⟨⟨by decide +kernel, by decide +kernel⟩, List.mem_of_getElem? (i := 249) (by decide +kernel), List.mem_of_getElem? (i := 544) (by decide +kernel), List.mem_of_getElem? (i := 545) (by decide +kernel)⟩
theorem lw_p6 : lw_okq (⟨"CandleBar$ChainFinder", "firstNearer", "(LCandleBar$State;I)I"⟩, 5) := ⟨⟨by decide +kernel, by decide +kernel⟩, List.mem_of_getElem? (i := 249) (by decide +kernel), List.mem_of_getElem? (i := 548) (by decide +kernel), List.mem_of_getElem? (i := 549) (by decide +kernel)⟩
theorem lw_p7 : lw_okq (⟨"CandleBar$LawBook", "strike", "(LCandleBar$State;LCandleBar$Match;I)V"⟩, 4) := ⟨⟨by decide +kernel, by decide +kernel⟩, List.mem_of_getElem? (i := 291) (by decide +kernel), List.mem_of_getElem? (i := 580) (by decide +kernel), List.mem_of_getElem? (i := 581) (by decide +kernel)⟩
theorem lw_p8 : lw_okq (⟨"CandleBar$LawBook", "sumUp", "()V"⟩, 4) := ⟨⟨by decide +kernel, by decide +kernel⟩, List.mem_of_getElem? (i := 291) (by decide +kernel), List.mem_of_getElem? (i := 593) (by decide +kernel), List.mem_of_getElem? (i := 594) (by decide +kernel)⟩
theorem lw_p9 : lw_okq (⟨"CandleBar", "makeMeanEye", "(I)V"⟩, 9) := ⟨⟨by decide +kernel, by decide +kernel⟩, List.mem_of_getElem? (i := 24) (by decide +kernel), List.mem_of_getElem? (i := 630) (by decide +kernel), List.mem_of_getElem? (i := 631) (by decide +kernel)⟩
theorem lw_p10 : lw_okq (⟨"CandleBar", "textRefusal", "(I)I"⟩, 9) := ⟨⟨by decide +kernel, by decide +kernel⟩, List.mem_of_getElem? (i := 24) (by decide +kernel), List.mem_of_getElem? (i := 652) (by decide +kernel), List.mem_of_getElem? (i := 653) (by decide +kernel)⟩
theorem lw_p11 : lw_okq (⟨"CandleBar$RuleReader", "begin", "([II)V"⟩, 6) := ⟨⟨by decide +kernel, by decide +kernel⟩, List.mem_of_getElem? (i := 224) (by decide +kernel), List.mem_of_getElem? (i := 660) (by decide +kernel), List.mem_of_getElem? (i := 661) (by decide +kernel)⟩
theorem lw_p12 : lw_okq (⟨"CandleBar$RuleReader", "step", "()V"⟩, 6) := ⟨⟨by decide +kernel, by decide +kernel⟩, List.mem_of_getElem? (i := 224) (by decide +kernel), List.mem_of_getElem? (i := 665) (by decide +kernel), List.mem_of_getElem? (i := 666) (by decide +kernel)⟩
theorem lw_p13 : lw_okq (⟨"CandleBar$RuleReader", "readSum", "(I)I"⟩, 6) := ⟨⟨by decide +kernel, by decide +kernel⟩, List.mem_of_getElem? (i := 224) (by decide +kernel), List.mem_of_getElem? (i := 669) (by decide +kernel), List.mem_of_getElem? (i := 670) (by decide +kernel)⟩
theorem lw_p14 : lw_okq (⟨"CandleBar$RuleReader", "readProduct", "(I)I"⟩, 6) := ⟨⟨by decide +kernel, by decide +kernel⟩, List.mem_of_getElem? (i := 224) (by decide +kernel), List.mem_of_getElem? (i := 673) (by decide +kernel), List.mem_of_getElem? (i := 674) (by decide +kernel)⟩
theorem lw_p15 : lw_okq (⟨"CandleBar$RuleReader", "readAtom", "(I)I"⟩, 6) := ⟨⟨by decide +kernel, by decide +kernel⟩, List.mem_of_getElem? (i := 224) (by decide +kernel), List.mem_of_getElem? (i := 677) (by decide +kernel), List.mem_of_getElem? (i := 678) (by decide +kernel)⟩
def lw_privs_1 : List (MethodName × Nat) := [(⟨"CandleBar$Light", "unheld", "(II)I"⟩, 6), (⟨"CandleBar$Light", "glow", "(I)I"⟩, 6), (⟨"CandleBar", "shelfRefusal", "(II)I"⟩, 9), (⟨"CandleBar$Row", "leastNumber", "()I"⟩, 3), (⟨"CandleBar$ChainFinder", "measure", "(LCandleBar$State;I)V"⟩, 5), (⟨"CandleBar$ChainFinder", "reach", "(III)V"⟩, 5), (⟨"CandleBar$ChainFinder", "firstNearer", "(LCandleBar$State;I)I"⟩, 5), (⟨"CandleBar$LawBook", "strike", "(LCandleBar$State;LCandleBar$Match;I)V"⟩, 4), (⟨"CandleBar$LawBook", "sumUp", "()V"⟩, 4), (⟨"CandleBar", "makeMeanEye", "(I)V"⟩, 9), (⟨"CandleBar", "textRefusal", "(I)I"⟩, 9), (⟨"CandleBar$RuleReader", "begin", "([II)V"⟩, 6), (⟨"CandleBar$RuleReader", "step", "()V"⟩, 6), (⟨"CandleBar$RuleReader", "readSum", "(I)I"⟩, 6), (⟨"CandleBar$RuleReader", "readProduct", "(I)I"⟩, 6), (⟨"CandleBar$RuleReader", "readAtom", "(I)I"⟩, 6)]
theorem lw_r1 : ∀ q ∈ lw_privs_1, lw_okq q := List.forall_mem_cons.mpr ⟨lw_p0, List.forall_mem_cons.mpr ⟨lw_p1, List.forall_mem_cons.mpr ⟨lw_p2, List.forall_mem_cons.mpr ⟨lw_p3, List.forall_mem_cons.mpr ⟨lw_p4, List.forall_mem_cons.mpr ⟨lw_p5, List.forall_mem_cons.mpr ⟨lw_p6, List.forall_mem_cons.mpr ⟨lw_p7, List.forall_mem_cons.mpr ⟨lw_p8, List.forall_mem_cons.mpr ⟨lw_p9, List.forall_mem_cons.mpr ⟨lw_p10, List.forall_mem_cons.mpr ⟨lw_p11, List.forall_mem_cons.mpr ⟨lw_p12, List.forall_mem_cons.mpr ⟨lw_p13, List.forall_mem_cons.mpr ⟨lw_p14, List.forall_mem_cons.mpr ⟨lw_p15, fun _ h => absurd h List.not_mem_nil⟩⟩⟩⟩⟩⟩⟩⟩⟩⟩⟩⟩⟩⟩⟩⟩
theorem lw_p16 : lw_okq (⟨"CandleBar$RuleReader", "readNumber", "()I"⟩, 6) := ⟨⟨by decide +kernel, by decide +kernel⟩, List.mem_of_getElem? (i := 224) (by decide +kernel), List.mem_of_getElem? (i := 682) (by decide +kernel), List.mem_of_getElem? (i := 683) (by decide +kernel)⟩
theorem lw_p17 : lw_okq (⟨"CandleBar$RuleReader", "expect", "(I)V"⟩, 6) := ⟨⟨by decide +kernel, by decide +kernel⟩, List.mem_of_getElem? (i := 224) (by decide +kernel), List.mem_of_getElem? (i := 686) (by decide +kernel), List.mem_of_getElem? (i := 687) (by decide +kernel)⟩
theorem lw_p18 : lw_okq (⟨"CandleBar", "worthOf", "(LCandleBar$Light;)J"⟩, 9) := ⟨⟨by decide +kernel, by decide +kernel⟩, List.mem_of_getElem? (i := 24) (by decide +kernel), List.mem_of_getElem? (i := 719) (by decide +kernel), List.mem_of_getElem? (i := 720) (by decide +kernel)⟩
theorem lw_p19 : lw_okq (⟨"CandleBar", "isSteadier", "(LCandleBar$Light;LCandleBar$Light;)Z"⟩, 9) := ⟨⟨by decide +kernel, by decide +kernel⟩, List.mem_of_getElem? (i := 24) (by decide +kernel), List.mem_of_getElem? (i := 728) (by decide +kernel), List.mem_of_getElem? (i := 729) (by decide +kernel)⟩
theorem lw_p20 : lw_okq (⟨"CandleBar$Groups", "unite", "(II)V"⟩, 3) := ⟨⟨by decide +kernel, by decide +kernel⟩, List.mem_of_getElem? (i := 275) (by decide +kernel), List.mem_of_getElem? (i := 783) (by decide +kernel), List.mem_of_getElem? (i := 784) (by decide +kernel)⟩
theorem lw_p21 : lw_okq (⟨"java/lang/Throwable", "fillInStackTrace", "(I)Ljava/lang/Throwable;"⟩, 6) := ⟨⟨by decide +kernel, by decide +kernel⟩, List.mem_of_getElem? (i := 922) (by decide +kernel), List.mem_of_getElem? (i := 920) (by decide +kernel), List.mem_of_getElem? (i := 921) (by decide +kernel)⟩
theorem lw_p22 : lw_okq (⟨"CandleBarModel", "isLight", "(I)Z"⟩, 23) := ⟨⟨by decide +kernel, by decide +kernel⟩, List.mem_of_getElem? (i := 998) (by decide +kernel), List.mem_of_getElem? (i := 1094) (by decide +kernel), List.mem_of_getElem? (i := 1095) (by decide +kernel)⟩
theorem lw_p23 : lw_okq (⟨"CandleBarModel", "becomes", "(II)I"⟩, 23) := ⟨⟨by decide +kernel, by decide +kernel⟩, List.mem_of_getElem? (i := 998) (by decide +kernel), List.mem_of_getElem? (i := 1098) (by decide +kernel), List.mem_of_getElem? (i := 1099) (by decide +kernel)⟩
theorem lw_p24 : lw_okq (⟨"CandleBarModel", "get", "(II)I"⟩, 23) := ⟨⟨by decide +kernel, by decide +kernel⟩, List.mem_of_getElem? (i := 998) (by decide +kernel), List.mem_of_getElem? (i := 1107) (by decide +kernel), List.mem_of_getElem? (i := 1108) (by decide +kernel)⟩
theorem lw_p25 : lw_okq (⟨"CandleBarModel", "givesNow", "(I)I"⟩, 23) := ⟨⟨by decide +kernel, by decide +kernel⟩, List.mem_of_getElem? (i := 998) (by decide +kernel), List.mem_of_getElem? (i := 1122) (by decide +kernel), List.mem_of_getElem? (i := 1123) (by decide +kernel)⟩
theorem lw_p26 : lw_okq (⟨"CandleBarModel", "givesBy", "([III)I"⟩, 23) := ⟨⟨by decide +kernel, by decide +kernel⟩, List.mem_of_getElem? (i := 998) (by decide +kernel), List.mem_of_getElem? (i := 1126) (by decide +kernel), List.mem_of_getElem? (i := 1127) (by decide +kernel)⟩
theorem lw_p27 : lw_okq (⟨"CandleBarModel", "wanders", "(I)I"⟩, 23) := ⟨⟨by decide +kernel, by decide +kernel⟩, List.mem_of_getElem? (i := 998) (by decide +kernel), List.mem_of_getElem? (i := 1130) (by decide +kernel), List.mem_of_getElem? (i := 1131) (by decide +kernel)⟩
theorem lw_p28 : lw_okq (⟨"CandleBarModel", "yellowOf", "(II)I"⟩, 23) := ⟨⟨by decide +kernel, by decide +kernel⟩, List.mem_of_getElem? (i := 998) (by decide +kernel), List.mem_of_getElem? (i := 1151) (by decide +kernel), List.mem_of_getElem? (i := 1152) (by decide +kernel)⟩
theorem lw_p29 : lw_okq (⟨"CandleBarModel", "blueOf", "(II)I"⟩, 23) := ⟨⟨by decide +kernel, by decide +kernel⟩, List.mem_of_getElem? (i := 998) (by decide +kernel), List.mem_of_getElem? (i := 1155) (by decide +kernel), List.mem_of_getElem? (i := 1156) (by decide +kernel)⟩
theorem lw_p30 : lw_okq (⟨"CandleBarModel", "seenBy", "(III)J"⟩, 23) := ⟨⟨by decide +kernel, by decide +kernel⟩, List.mem_of_getElem? (i := 998) (by decide +kernel), List.mem_of_getElem? (i := 1159) (by decide +kernel), List.mem_of_getElem? (i := 1160) (by decide +kernel)⟩
theorem lw_p31 : lw_okq (⟨"CandleBarModel", "isPair", "(II)Z"⟩, 23) := ⟨⟨by decide +kernel, by decide +kernel⟩, List.mem_of_getElem? (i := 998) (by decide +kernel), List.mem_of_getElem? (i := 1168) (by decide +kernel), List.mem_of_getElem? (i := 1169) (by decide +kernel)⟩
def lw_privs_2 : List (MethodName × Nat) := [(⟨"CandleBar$RuleReader", "readNumber", "()I"⟩, 6), (⟨"CandleBar$RuleReader", "expect", "(I)V"⟩, 6), (⟨"CandleBar", "worthOf", "(LCandleBar$Light;)J"⟩, 9), (⟨"CandleBar", "isSteadier", "(LCandleBar$Light;LCandleBar$Light;)Z"⟩, 9), (⟨"CandleBar$Groups", "unite", "(II)V"⟩, 3), (⟨"java/lang/Throwable", "fillInStackTrace", "(I)Ljava/lang/Throwable;"⟩, 6), (⟨"CandleBarModel", "isLight", "(I)Z"⟩, 23), (⟨"CandleBarModel", "becomes", "(II)I"⟩, 23), (⟨"CandleBarModel", "get", "(II)I"⟩, 23), (⟨"CandleBarModel", "givesNow", "(I)I"⟩, 23), (⟨"CandleBarModel", "givesBy", "([III)I"⟩, 23), (⟨"CandleBarModel", "wanders", "(I)I"⟩, 23), (⟨"CandleBarModel", "yellowOf", "(II)I"⟩, 23), (⟨"CandleBarModel", "blueOf", "(II)I"⟩, 23), (⟨"CandleBarModel", "seenBy", "(III)J"⟩, 23), (⟨"CandleBarModel", "isPair", "(II)Z"⟩, 23)]
theorem lw_r2 : ∀ q ∈ lw_privs_2, lw_okq q := List.forall_mem_cons.mpr ⟨lw_p16, List.forall_mem_cons.mpr ⟨lw_p17, List.forall_mem_cons.mpr ⟨lw_p18, List.forall_mem_cons.mpr ⟨lw_p19, List.forall_mem_cons.mpr ⟨lw_p20, List.forall_mem_cons.mpr ⟨lw_p21, List.forall_mem_cons.mpr ⟨lw_p22, List.forall_mem_cons.mpr ⟨lw_p23, List.forall_mem_cons.mpr ⟨lw_p24, List.forall_mem_cons.mpr ⟨lw_p25, List.forall_mem_cons.mpr ⟨lw_p26, List.forall_mem_cons.mpr ⟨lw_p27, List.forall_mem_cons.mpr ⟨lw_p28, List.forall_mem_cons.mpr ⟨lw_p29, List.forall_mem_cons.mpr ⟨lw_p30, List.forall_mem_cons.mpr ⟨lw_p31, fun _ h => absurd h List.not_mem_nil⟩⟩⟩⟩⟩⟩⟩⟩⟩⟩⟩⟩⟩⟩⟩⟩
theorem lw_p32 : lw_okq (⟨"CandleBarModel", "alikeOf", "(IIII)I"⟩, 23) := ⟨⟨by decide +kernel, by decide +kernel⟩, List.mem_of_getElem? (i := 998) (by decide +kernel), List.mem_of_getElem? (i := 1172) (by decide +kernel), List.mem_of_getElem? (i := 1173) (by decide +kernel)⟩
theorem lw_p33 : lw_okq (⟨"CandleBarModel", "placeBy", "(IIII)I"⟩, 23) := ⟨⟨by decide +kernel, by decide +kernel⟩, List.mem_of_getElem? (i := 998) (by decide +kernel), List.mem_of_getElem? (i := 1176) (by decide +kernel), List.mem_of_getElem? (i := 1177) (by decide +kernel)⟩
theorem lw_p34 : lw_okq (⟨"CandleBarModel", "tells", "(IIIII)V"⟩, 23) := ⟨⟨by decide +kernel, by decide +kernel⟩, List.mem_of_getElem? (i := 998) (by decide +kernel), List.mem_of_getElem? (i := 1187) (by decide +kernel), List.mem_of_getElem? (i := 1188) (by decide +kernel)⟩
theorem lw_p35 : lw_okq (⟨"CandleBarModel", "wrongRow", "(II)I"⟩, 23) := ⟨⟨by decide +kernel, by decide +kernel⟩, List.mem_of_getElem? (i := 998) (by decide +kernel), List.mem_of_getElem? (i := 1195) (by decide +kernel), List.mem_of_getElem? (i := 1196) (by decide +kernel)⟩
theorem lw_p36 : lw_okq (⟨"CandleBarModel", "isTired", "(II)Z"⟩, 23) := ⟨⟨by decide +kernel, by decide +kernel⟩, List.mem_of_getElem? (i := 998) (by decide +kernel), List.mem_of_getElem? (i := 1202) (by decide +kernel), List.mem_of_getElem? (i := 1203) (by decide +kernel)⟩
theorem lw_p37 : lw_okq (⟨"CandleBarModel", "isMatch", "(I)Z"⟩, 23) := ⟨⟨by decide +kernel, by decide +kernel⟩, List.mem_of_getElem? (i := 998) (by decide +kernel), List.mem_of_getElem? (i := 1212) (by decide +kernel), List.mem_of_getElem? (i := 1213) (by decide +kernel)⟩
theorem lw_p38 : lw_okq (⟨"CandleBarModel", "say", "(II)I"⟩, 23) := ⟨⟨by decide +kernel, by decide +kernel⟩, List.mem_of_getElem? (i := 998) (by decide +kernel), List.mem_of_getElem? (i := 1217) (by decide +kernel), List.mem_of_getElem? (i := 1218) (by decide +kernel)⟩
theorem lw_p39 : lw_okq (⟨"CandleBarModel", "findChain", "(II)Z"⟩, 23) := ⟨⟨by decide +kernel, by decide +kernel⟩, List.mem_of_getElem? (i := 998) (by decide +kernel), List.mem_of_getElem? (i := 1229) (by decide +kernel), List.mem_of_getElem? (i := 1230) (by decide +kernel)⟩
theorem lw_p40 : lw_okq (⟨"CandleBarModel", "goesOn", "(III)Z"⟩, 23) := ⟨⟨by decide +kernel, by decide +kernel⟩, List.mem_of_getElem? (i := 998) (by decide +kernel), List.mem_of_getElem? (i := 1233) (by decide +kernel), List.mem_of_getElem? (i := 1234) (by decide +kernel)⟩
theorem lw_p41 : lw_okq (⟨"CandleBarModel", "findLaws", "(II)I"⟩, 23) := ⟨⟨by decide +kernel, by decide +kernel⟩, List.mem_of_getElem? (i := 998) (by decide +kernel), List.mem_of_getElem? (i := 1249) (by decide +kernel), List.mem_of_getElem? (i := 1250) (by decide +kernel)⟩
theorem lw_p42 : lw_okq (⟨"CandleBarModel", "isLet", "(IIII)Z"⟩, 23) := ⟨⟨by decide +kernel, by decide +kernel⟩, List.mem_of_getElem? (i := 998) (by decide +kernel), List.mem_of_getElem? (i := 1253) (by decide +kernel), List.mem_of_getElem? (i := 1254) (by decide +kernel)⟩
theorem lw_p43 : lw_okq (⟨"CandleBarModel", "partOf", "(III)I"⟩, 23) := ⟨⟨by decide +kernel, by decide +kernel⟩, List.mem_of_getElem? (i := 998) (by decide +kernel), List.mem_of_getElem? (i := 1261) (by decide +kernel), List.mem_of_getElem? (i := 1262) (by decide +kernel)⟩
theorem lw_p44 : lw_okq (⟨"CandleBarModel", "meanOf", "(II)I"⟩, 23) := ⟨⟨by decide +kernel, by decide +kernel⟩, List.mem_of_getElem? (i := 998) (by decide +kernel), List.mem_of_getElem? (i := 1279) (by decide +kernel), List.mem_of_getElem? (i := 1280) (by decide +kernel)⟩
theorem lw_p45 : lw_okq (⟨"CandleBarModel", "faultIn", "(I)I"⟩, 23) := ⟨⟨by decide +kernel, by decide +kernel⟩, List.mem_of_getElem? (i := 998) (by decide +kernel), List.mem_of_getElem? (i := 1292) (by decide +kernel), List.mem_of_getElem? (i := 1293) (by decide +kernel)⟩
theorem lw_p46 : lw_okq (⟨"CandleBarModel", "readsSum", "()Z"⟩, 23) := ⟨⟨by decide +kernel, by decide +kernel⟩, List.mem_of_getElem? (i := 998) (by decide +kernel), List.mem_of_getElem? (i := 1296) (by decide +kernel), List.mem_of_getElem? (i := 1297) (by decide +kernel)⟩
theorem lw_p47 : lw_okq (⟨"CandleBarModel", "readsProduct", "()Z"⟩, 23) := ⟨⟨by decide +kernel, by decide +kernel⟩, List.mem_of_getElem? (i := 998) (by decide +kernel), List.mem_of_getElem? (i := 1300) (by decide +kernel), List.mem_of_getElem? (i := 1301) (by decide +kernel)⟩
def lw_privs_3 : List (MethodName × Nat) := [(⟨"CandleBarModel", "alikeOf", "(IIII)I"⟩, 23), (⟨"CandleBarModel", "placeBy", "(IIII)I"⟩, 23), (⟨"CandleBarModel", "tells", "(IIIII)V"⟩, 23), (⟨"CandleBarModel", "wrongRow", "(II)I"⟩, 23), (⟨"CandleBarModel", "isTired", "(II)Z"⟩, 23), (⟨"CandleBarModel", "isMatch", "(I)Z"⟩, 23), (⟨"CandleBarModel", "say", "(II)I"⟩, 23), (⟨"CandleBarModel", "findChain", "(II)Z"⟩, 23), (⟨"CandleBarModel", "goesOn", "(III)Z"⟩, 23), (⟨"CandleBarModel", "findLaws", "(II)I"⟩, 23), (⟨"CandleBarModel", "isLet", "(IIII)Z"⟩, 23), (⟨"CandleBarModel", "partOf", "(III)I"⟩, 23), (⟨"CandleBarModel", "meanOf", "(II)I"⟩, 23), (⟨"CandleBarModel", "faultIn", "(I)I"⟩, 23), (⟨"CandleBarModel", "readsSum", "()Z"⟩, 23), (⟨"CandleBarModel", "readsProduct", "()Z"⟩, 23)]
theorem lw_r3 : ∀ q ∈ lw_privs_3, lw_okq q := List.forall_mem_cons.mpr ⟨lw_p32, List.forall_mem_cons.mpr ⟨lw_p33, List.forall_mem_cons.mpr ⟨lw_p34, List.forall_mem_cons.mpr ⟨lw_p35, List.forall_mem_cons.mpr ⟨lw_p36, List.forall_mem_cons.mpr ⟨lw_p37, List.forall_mem_cons.mpr ⟨lw_p38, List.forall_mem_cons.mpr ⟨lw_p39, List.forall_mem_cons.mpr ⟨lw_p40, List.forall_mem_cons.mpr ⟨lw_p41, List.forall_mem_cons.mpr ⟨lw_p42, List.forall_mem_cons.mpr ⟨lw_p43, List.forall_mem_cons.mpr ⟨lw_p44, List.forall_mem_cons.mpr ⟨lw_p45, List.forall_mem_cons.mpr ⟨lw_p46, List.forall_mem_cons.mpr ⟨lw_p47, fun _ h => absurd h List.not_mem_nil⟩⟩⟩⟩⟩⟩⟩⟩⟩⟩⟩⟩⟩⟩⟩⟩
theorem lw_p48 : lw_okq (⟨"CandleBarModel", "readsAtom", "()Z"⟩, 23) := ⟨⟨by decide +kernel, by decide +kernel⟩, List.mem_of_getElem? (i := 998) (by decide +kernel), List.mem_of_getElem? (i := 1304) (by decide +kernel), List.mem_of_getElem? (i := 1305) (by decide +kernel)⟩
theorem lw_p49 : lw_okq (⟨"CandleBarModel", "sign", "()I"⟩, 23) := ⟨⟨by decide +kernel, by decide +kernel⟩, List.mem_of_getElem? (i := 998) (by decide +kernel), List.mem_of_getElem? (i := 1308) (by decide +kernel), List.mem_of_getElem? (i := 1309) (by decide +kernel)⟩
theorem lw_p50 : lw_okq (⟨"CandleBarModel", "takes", "(I)Z"⟩, 23) := ⟨⟨by decide +kernel, by decide +kernel⟩, List.mem_of_getElem? (i := 998) (by decide +kernel), List.mem_of_getElem? (i := 1312) (by decide +kernel), List.mem_of_getElem? (i := 1313) (by decide +kernel)⟩
theorem lw_p51 : lw_okq (⟨"CandleBarModel", "readsNumber", "()Z"⟩, 23) := ⟨⟨by decide +kernel, by decide +kernel⟩, List.mem_of_getElem? (i := 998) (by decide +kernel), List.mem_of_getElem? (i := 1319) (by decide +kernel), List.mem_of_getElem? (i := 1320) (by decide +kernel)⟩
theorem lw_p52 : lw_okq (⟨"CandleBarModel", "rightOf", "(I)I"⟩, 23) := ⟨⟨by decide +kernel, by decide +kernel⟩, List.mem_of_getElem? (i := 998) (by decide +kernel), List.mem_of_getElem? (i := 1333) (by decide +kernel), List.mem_of_getElem? (i := 1334) (by decide +kernel)⟩
theorem lw_p53 : lw_okq (⟨"CandleBarModel", "sum", "()I"⟩, 23) := ⟨⟨by decide +kernel, by decide +kernel⟩, List.mem_of_getElem? (i := 998) (by decide +kernel), List.mem_of_getElem? (i := 1337) (by decide +kernel), List.mem_of_getElem? (i := 1338) (by decide +kernel)⟩
theorem lw_p54 : lw_okq (⟨"CandleBarModel", "product", "()I"⟩, 23) := ⟨⟨by decide +kernel, by decide +kernel⟩, List.mem_of_getElem? (i := 998) (by decide +kernel), List.mem_of_getElem? (i := 1341) (by decide +kernel), List.mem_of_getElem? (i := 1342) (by decide +kernel)⟩
theorem lw_p55 : lw_okq (⟨"CandleBarModel", "atom", "()I"⟩, 23) := ⟨⟨by decide +kernel, by decide +kernel⟩, List.mem_of_getElem? (i := 998) (by decide +kernel), List.mem_of_getElem? (i := 1345) (by decide +kernel), List.mem_of_getElem? (i := 1346) (by decide +kernel)⟩
theorem lw_p56 : lw_okq (⟨"CandleBarModel", "worthOf", "(I)J"⟩, 23) := ⟨⟨by decide +kernel, by decide +kernel⟩, List.mem_of_getElem? (i := 998) (by decide +kernel), List.mem_of_getElem? (i := 1358) (by decide +kernel), List.mem_of_getElem? (i := 1359) (by decide +kernel)⟩
theorem lw_p57 : lw_okq (⟨"CandleBarModel", "findGroups", "()V"⟩, 23) := ⟨⟨by decide +kernel, by decide +kernel⟩, List.mem_of_getElem? (i := 998) (by decide +kernel), List.mem_of_getElem? (i := 1412) (by decide +kernel), List.mem_of_getElem? (i := 1413) (by decide +kernel)⟩
theorem lw_p58 : lw_okq (⟨"CandleBarModel", "sizeOf", "(I)I"⟩, 23) := ⟨⟨by decide +kernel, by decide +kernel⟩, List.mem_of_getElem? (i := 998) (by decide +kernel), List.mem_of_getElem? (i := 1416) (by decide +kernel), List.mem_of_getElem? (i := 1417) (by decide +kernel)⟩
theorem lw_p59 : lw_okq (⟨"CandleBarModel", "wrongKept", "(I)I"⟩, 23) := ⟨⟨by decide +kernel, by decide +kernel⟩, List.mem_of_getElem? (i := 998) (by decide +kernel), List.mem_of_getElem? (i := 1456) (by decide +kernel), List.mem_of_getElem? (i := 1457) (by decide +kernel)⟩
def lw_privs_4 : List (MethodName × Nat) := [(⟨"CandleBarModel", "readsAtom", "()Z"⟩, 23), (⟨"CandleBarModel", "sign", "()I"⟩, 23), (⟨"CandleBarModel", "takes", "(I)Z"⟩, 23), (⟨"CandleBarModel", "readsNumber", "()Z"⟩, 23), (⟨"CandleBarModel", "rightOf", "(I)I"⟩, 23), (⟨"CandleBarModel", "sum", "()I"⟩, 23), (⟨"CandleBarModel", "product", "()I"⟩, 23), (⟨"CandleBarModel", "atom", "()I"⟩, 23), (⟨"CandleBarModel", "worthOf", "(I)J"⟩, 23), (⟨"CandleBarModel", "findGroups", "()V"⟩, 23), (⟨"CandleBarModel", "sizeOf", "(I)I"⟩, 23), (⟨"CandleBarModel", "wrongKept", "(I)I"⟩, 23)]
theorem lw_r4 : ∀ q ∈ lw_privs_4, lw_okq q := List.forall_mem_cons.mpr ⟨lw_p48, List.forall_mem_cons.mpr ⟨lw_p49, List.forall_mem_cons.mpr ⟨lw_p50, List.forall_mem_cons.mpr ⟨lw_p51, List.forall_mem_cons.mpr ⟨lw_p52, List.forall_mem_cons.mpr ⟨lw_p53, List.forall_mem_cons.mpr ⟨lw_p54, List.forall_mem_cons.mpr ⟨lw_p55, List.forall_mem_cons.mpr ⟨lw_p56, List.forall_mem_cons.mpr ⟨lw_p57, List.forall_mem_cons.mpr ⟨lw_p58, List.forall_mem_cons.mpr ⟨lw_p59, fun _ h => absurd h List.not_mem_nil⟩⟩⟩⟩⟩⟩⟩⟩⟩⟩⟩⟩
def lw_privs : List (MethodName × Nat) := lw_privs_1 ++ (lw_privs_2 ++ (lw_privs_3 ++ (lw_privs_4)))
def lw_tbl : List Cond := k2_sels lw_privs ++ tables_1
theorem lw_privs_ok : ∀ q ∈ lw_privs, lw_okq q := by
  show ∀ q ∈ lw_privs_1 ++ (lw_privs_2 ++ (lw_privs_3 ++ (lw_privs_4))), lw_okq q
  exact List.forall_mem_append.mpr ⟨lw_r1, List.forall_mem_append.mpr ⟨lw_r2, List.forall_mem_append.mpr ⟨lw_r3, lw_r4⟩⟩⟩
-- ===== end of PART A; then your names; then what follows =====
end
section
def RX0 : String := "CandleBar$Bill"
def TX0 : u_T := fun k => match k with
  | 0 => ("CandleBar$Bill", "house", "I", false)
  | 1 => ("CandleBar$Bill", "light", "I", false)
  | 2 => ("CandleBar$Bill", "price", "I", false)
  | _ => ("CandleBar$Bill", "paid", "J", false)
def tyX0 : Nat → FieldType := fun k => match k with
  | 0 => .int
  | 1 => .int
  | 2 => .int
  | _ => .long
abbrev wsX00 : List Cond := u_ws RX0 TX0 4
theorem nmX0 : ∀ a, a < 4 → ∀ b, b < 4 → a ≠ b → (TX0 a).2.1 ≠ (TX0 b).2.1 := by decide +kernel
theorem tyX0_ok : ∀ k, k < 4 → parseFieldDescriptor (TX0 k).2.2.1 = some (tyX0 k) := by decide +kernel
abbrev cX0_init : ByteArray := prog_2_method_1_code
def yX0_init : MethodName := ⟨RX0, "<init>", "()V"⟩
abbrev cX0_takeFrom : ByteArray := prog_2_method_2_code
def yX0_takeFrom : MethodName := ⟨RX0, "takeFrom", "(LCandleBar$Bill;)V"⟩
def RX1 : String := "CandleBar$ChainFinder"
def TX1 : u_T := fun k => match k with
  | 0 => ("CandleBar$ChainFinder", "away", "[I", true)
  | 1 => ("CandleBar$ChainFinder", "path", "[I", true)
  | 2 => ("CandleBar$ChainFinder", "length", "I", false)
  | 3 => ("CandleBar$ChainFinder", "above", "J", false)
  | _ => ("CandleBar$ChainFinder", "below", "J", false)
def tyX1 : Nat → FieldType := fun k => match k with
  | 0 => .array .int
  | 1 => .array .int
  | 2 => .int
  | 3 => .long
  | _ => .long
abbrev wsX10 : List Cond := u_ws RX1 TX1 5
theorem nmX1 : ∀ a, a < 5 → ∀ b, b < 5 → a ≠ b → (TX1 a).2.1 ≠ (TX1 b).2.1 := by decide +kernel
theorem tyX1_ok : ∀ k, k < 5 → parseFieldDescriptor (TX1 k).2.2.1 = some (tyX1 k) := by decide +kernel
abbrev cX1_init : ByteArray := prog_3_method_1_code
def yX1_init : MethodName := ⟨RX1, "<init>", "()V"⟩
abbrev cX1_find : ByteArray := prog_3_method_2_code
def yX1_find : MethodName := ⟨RX1, "find", "(LCandleBar$State;II)Z"⟩
abbrev cX1_measure : ByteArray := prog_3_method_3_code
def yX1_measure : MethodName := ⟨RX1, "measure", "(LCandleBar$State;I)V"⟩
abbrev cX1_reach : ByteArray := prog_3_method_4_code
def yX1_reach : MethodName := ⟨RX1, "reach", "(III)V"⟩
abbrev cX1_firstNearer : ByteArray := prog_3_method_5_code
def yX1_firstNearer : MethodName := ⟨RX1, "firstNearer", "(LCandleBar$State;I)I"⟩
abbrev cX1_multiply : ByteArray := prog_3_method_6_code
def yX1_multiply : MethodName := ⟨RX1, "multiply", "(LCandleBar$State;II)V"⟩
abbrev cX1_greatestDivisor : ByteArray := prog_3_method_7_code
def yX1_greatestDivisor : MethodName := ⟨RX1, "greatestDivisor", "(JJ)J"⟩
def RX2 : String := "CandleBar$Eye"
def TX2 : u_T := fun k => match k with
  | 0 => ("CandleBar$Eye", "yellow", "I", false)
  | 1 => ("CandleBar$Eye", "blue", "I", false)
  | _ => ("CandleBar$Eye", "lean", "I", false)
def tyX2 : Nat → FieldType := fun k => match k with
  | 0 => .int
  | 1 => .int
  | _ => .int
abbrev wsX20 : List Cond := u_ws RX2 TX2 3
theorem nmX2 : ∀ a, a < 3 → ∀ b, b < 3 → a ≠ b → (TX2 a).2.1 ≠ (TX2 b).2.1 := by decide +kernel
theorem tyX2_ok : ∀ k, k < 3 → parseFieldDescriptor (TX2 k).2.2.1 = some (tyX2 k) := by decide +kernel
abbrev cX2_init : ByteArray := prog_4_method_1_code
def yX2_init : MethodName := ⟨RX2, "<init>", "()V"⟩
abbrev cX2_weightOf : ByteArray := prog_4_method_2_code
def yX2_weightOf : MethodName := ⟨RX2, "weightOf", "(I)I"⟩
abbrev cX2_change : ByteArray := prog_4_method_3_code
def yX2_change : MethodName := ⟨RX2, "change", "(II)V"⟩
abbrev cX2_see : ByteArray := prog_4_method_4_code
def yX2_see : MethodName := ⟨RX2, "see", "(LCandleBar$Light;II)J"⟩
abbrev cX2_weigh : ByteArray := prog_4_method_5_code
def yX2_weigh : MethodName := ⟨RX2, "weigh", "(LCandleBar$Light;III)J"⟩
abbrev cX2_takeFrom : ByteArray := prog_4_method_6_code
def yX2_takeFrom : MethodName := ⟨RX2, "takeFrom", "(LCandleBar$Eye;)V"⟩
def RX3 : String := "CandleBar$Groups"
def TX3 : u_T := fun k => match k with
  | 0 => ("CandleBar$Groups", "groupOf", "[I", true)
  | 1 => ("CandleBar$Groups", "sizes", "[I", true)
  | _ => ("CandleBar$Groups", "many", "I", false)
def tyX3 : Nat → FieldType := fun k => match k with
  | 0 => .array .int
  | 1 => .array .int
  | _ => .int
abbrev wsX30 : List Cond := u_ws RX3 TX3 3
theorem nmX3 : ∀ a, a < 3 → ∀ b, b < 3 → a ≠ b → (TX3 a).2.1 ≠ (TX3 b).2.1 := by decide +kernel
theorem tyX3_ok : ∀ k, k < 3 → parseFieldDescriptor (TX3 k).2.2.1 = some (tyX3 k) := by decide +kernel
abbrev cX3_init : ByteArray := prog_5_method_1_code
def yX3_init : MethodName := ⟨RX3, "<init>", "()V"⟩
abbrev cX3_gather : ByteArray := prog_5_method_2_code
def yX3_gather : MethodName := ⟨RX3, "gather", "(LCandleBar$State;)V"⟩
abbrev cX3_unite : ByteArray := prog_5_method_3_code
def yX3_unite : MethodName := ⟨RX3, "unite", "(II)V"⟩
abbrev cX3_areJoined : ByteArray := prog_5_method_4_code
def yX3_areJoined : MethodName := ⟨RX3, "areJoined", "(II)Z"⟩
abbrev cX3_sizeWith : ByteArray := prog_5_method_5_code
def yX3_sizeWith : MethodName := ⟨RX3, "sizeWith", "(I)I"⟩
abbrev cX3_countPairs : ByteArray := prog_5_method_6_code
def yX3_countPairs : MethodName := ⟨RX3, "countPairs", "()I"⟩
def RX4 : String := "CandleBar$LawBook"
def TX4 : u_T := fun k => match k with
  | 0 => ("CandleBar$LawBook", "isLet", "[Z", true)
  | 1 => ("CandleBar$LawBook", "letCount", "I", false)
  | 2 => ("CandleBar$LawBook", "mostYellow", "I", false)
  | _ => ("CandleBar$LawBook", "mostBlue", "I", false)
def tyX4 : Nat → FieldType := fun k => match k with
  | 0 => .array .boolean
  | 1 => .int
  | 2 => .int
  | _ => .int
abbrev wsX40 : List Cond := u_ws RX4 TX4 4
theorem nmX4 : ∀ a, a < 4 → ∀ b, b < 4 → a ≠ b → (TX4 a).2.1 ≠ (TX4 b).2.1 := by decide +kernel
theorem tyX4_ok : ∀ k, k < 4 → parseFieldDescriptor (TX4 k).2.2.1 = some (tyX4 k) := by decide +kernel
abbrev cX4_init : ByteArray := prog_6_method_1_code
def yX4_init : MethodName := ⟨RX4, "<init>", "()V"⟩
abbrev cX4_read : ByteArray := prog_6_method_2_code
def yX4_read : MethodName := ⟨RX4, "read", "(LCandleBar$State;II)V"⟩
abbrev cX4_yellowOf : ByteArray := prog_6_method_3_code
def yX4_yellowOf : MethodName := ⟨RX4, "yellowOf", "(I)I"⟩
abbrev cX4_blueOf : ByteArray := prog_6_method_4_code
def yX4_blueOf : MethodName := ⟨RX4, "blueOf", "(I)I"⟩
abbrev cX4_strike : ByteArray := prog_6_method_5_code
def yX4_strike : MethodName := ⟨RX4, "strike", "(LCandleBar$State;LCandleBar$Match;I)V"⟩
abbrev cX4_sumUp : ByteArray := prog_6_method_6_code
def yX4_sumUp : MethodName := ⟨RX4, "sumUp", "()V"⟩
abbrev cX4_isYellower : ByteArray := prog_6_method_7_code
def yX4_isYellower : MethodName := ⟨RX4, "isYellower", "(II)Z"⟩
abbrev cX4_lawAt : ByteArray := prog_6_method_8_code
def yX4_lawAt : MethodName := ⟨RX4, "lawAt", "(I)I"⟩
abbrev cX4_apart : ByteArray := prog_6_method_9_code
def yX4_apart : MethodName := ⟨RX4, "apart", "(LCandleBar$State;II)I"⟩
abbrev cX4_placeBy : ByteArray := prog_6_method_10_code
def yX4_placeBy : MethodName := ⟨RX4, "placeBy", "(ILCandleBar$State;II)I"⟩
def RX5 : String := "CandleBar$Light"
def TX5 : u_T := fun k => match k with
  | 0 => ("CandleBar$Light", "number", "I", false)
  | 1 => ("CandleBar$Light", "kind", "I", false)
  | 2 => ("CandleBar$Light", "strength", "I", false)
  | 3 => ("CandleBar$Light", "yellow", "I", false)
  | 4 => ("CandleBar$Light", "setting", "I", false)
  | _ => ("CandleBar$Light", "hours", "I", false)
def tyX5 : Nat → FieldType := fun k => match k with
  | 0 => .int
  | 1 => .int
  | 2 => .int
  | 3 => .int
  | 4 => .int
  | _ => .int
abbrev wsX50 : List Cond := u_ws RX5 TX5 6
theorem nmX5 : ∀ a, a < 6 → ∀ b, b < 6 → a ≠ b → (TX5 a).2.1 ≠ (TX5 b).2.1 := by decide +kernel
theorem tyX5_ok : ∀ k, k < 6 → parseFieldDescriptor (TX5 k).2.2.1 = some (tyX5 k) := by decide +kernel
abbrev cX5_init : ByteArray := prog_7_method_1_code
def yX5_init : MethodName := ⟨RX5, "<init>", "()V"⟩
abbrev cX5_shineIn : ByteArray := prog_7_method_2_code
def yX5_shineIn : MethodName := ⟨RX5, "shineIn", "(I)I"⟩
abbrev cX5_shineAfter : ByteArray := prog_7_method_3_code
def yX5_shineAfter : MethodName := ⟨RX5, "shineAfter", "(II)I"⟩
abbrev cX5_unheld : ByteArray := prog_7_method_4_code
def yX5_unheld : MethodName := ⟨RX5, "unheld", "(II)I"⟩
abbrev cX5_glow : ByteArray := prog_7_method_5_code
def yX5_glow : MethodName := ⟨RX5, "glow", "(I)I"⟩
abbrev cX5_wanderIn : ByteArray := prog_7_method_6_code
def yX5_wanderIn : MethodName := ⟨RX5, "wanderIn", "(I)I"⟩
abbrev cX5_isAgedBy : ByteArray := prog_7_method_7_code
def yX5_isAgedBy : MethodName := ⟨RX5, "isAgedBy", "(II)Z"⟩
abbrev cX5_fail : ByteArray := prog_7_method_8_code
def yX5_fail : MethodName := ⟨RX5, "fail", "()V"⟩
abbrev cX5_takeFrom : ByteArray := prog_7_method_9_code
def yX5_takeFrom : MethodName := ⟨RX5, "takeFrom", "(LCandleBar$Light;)V"⟩
def RX6 : String := "CandleBar$Match"
def TX6 : u_T := fun k => match k with
  | 0 => ("CandleBar$Match", "a", "I", false)
  | 1 => ("CandleBar$Match", "b", "I", false)
  | 2 => ("CandleBar$Match", "eye", "I", false)
  | 3 => ("CandleBar$Match", "x", "I", false)
  | 4 => ("CandleBar$Match", "night", "I", false)
  | _ => ("CandleBar$Match", "isOut", "Z", false)
def tyX6 : Nat → FieldType := fun k => match k with
  | 0 => .int
  | 1 => .int
  | 2 => .int
  | 3 => .int
  | 4 => .int
  | _ => .boolean
abbrev wsX60 : List Cond := u_ws RX6 TX6 6
theorem nmX6 : ∀ a, a < 6 → ∀ b, b < 6 → a ≠ b → (TX6 a).2.1 ≠ (TX6 b).2.1 := by decide +kernel
theorem tyX6_ok : ∀ k, k < 6 → parseFieldDescriptor (TX6 k).2.2.1 = some (tyX6 k) := by decide +kernel
abbrev cX6_init : ByteArray := prog_8_method_1_code
def yX6_init : MethodName := ⟨RX6, "<init>", "()V"⟩
abbrev cX6_joins : ByteArray := prog_8_method_2_code
def yX6_joins : MethodName := ⟨RX6, "joins", "(I)Z"⟩
abbrev cX6_otherThan : ByteArray := prog_8_method_3_code
def yX6_otherThan : MethodName := ⟨RX6, "otherThan", "(I)I"⟩
abbrev cX6_takeFrom : ByteArray := prog_8_method_4_code
def yX6_takeFrom : MethodName := ⟨RX6, "takeFrom", "(LCandleBar$Match;)V"⟩
def RX7 : String := "CandleBar$Row"
def TX7 : u_T := fun k => match k with
  | 0 => ("CandleBar$Row", "sort", "I", false)
  | 1 => ("CandleBar$Row", "size", "I", false)
  | _ => ("CandleBar$Row", "elements", "[I", true)
def tyX7 : Nat → FieldType := fun k => match k with
  | 0 => .int
  | 1 => .int
  | _ => .array .int
abbrev wsX70 : List Cond := u_ws RX7 TX7 3
theorem nmX7 : ∀ a, a < 3 → ∀ b, b < 3 → a ≠ b → (TX7 a).2.1 ≠ (TX7 b).2.1 := by decide +kernel
theorem tyX7_ok : ∀ k, k < 3 → parseFieldDescriptor (TX7 k).2.2.1 = some (tyX7 k) := by decide +kernel
abbrev cX7_init : ByteArray := prog_9_method_1_code
def yX7_init : MethodName := ⟨RX7, "<init>", "()V"⟩
abbrev cX7_begin : ByteArray := prog_9_method_2_code
def yX7_begin : MethodName := ⟨RX7, "begin", "(II)V"⟩
abbrev cX7_lowestBits : ByteArray := prog_9_method_3_code
def yX7_lowestBits : MethodName := ⟨RX7, "lowestBits", "(I)I"⟩
abbrev cX7_leastNumber : ByteArray := prog_9_method_4_code
def yX7_leastNumber : MethodName := ⟨RX7, "leastNumber", "()I"⟩
abbrev cX7_isTiredAt : ByteArray := prog_9_method_5_code
def yX7_isTiredAt : MethodName := ⟨RX7, "isTiredAt", "(I)Z"⟩
def RX8 : String := "CandleBar$RuleReader"
def TX8 : u_T := fun k => match k with
  | 0 => ("CandleBar$RuleReader", "values", "[I", true)
  | 1 => ("CandleBar$RuleReader", "text", "[I", false)
  | 2 => ("CandleBar$RuleReader", "size", "I", false)
  | 3 => ("CandleBar$RuleReader", "place", "I", false)
  | 4 => ("CandleBar$RuleReader", "sign", "I", false)
  | _ => ("CandleBar$RuleReader", "failed", "Z", false)
def tyX8 : Nat → FieldType := fun k => match k with
  | 0 => .array .int
  | 1 => .array .int
  | 2 => .int
  | 3 => .int
  | 4 => .int
  | _ => .boolean
abbrev wsX80 : List Cond := u_ws RX8 TX8 6
theorem nmX8 : ∀ a, a < 6 → ∀ b, b < 6 → a ≠ b → (TX8 a).2.1 ≠ (TX8 b).2.1 := by decide +kernel
theorem tyX8_ok : ∀ k, k < 6 → parseFieldDescriptor (TX8 k).2.2.1 = some (tyX8 k) := by decide +kernel
abbrev cX8_init : ByteArray := prog_10_method_1_code
def yX8_init : MethodName := ⟨RX8, "<init>", "()V"⟩
abbrev cX8_findFault : ByteArray := prog_10_method_2_code
def yX8_findFault : MethodName := ⟨RX8, "findFault", "([II)I"⟩
abbrev cX8_workOut : ByteArray := prog_10_method_3_code
def yX8_workOut : MethodName := ⟨RX8, "workOut", "(LCandleBar$State;LCandleBar$Light;)I"⟩
abbrev cX8_begin : ByteArray := prog_10_method_4_code
def yX8_begin : MethodName := ⟨RX8, "begin", "([II)V"⟩
abbrev cX8_step : ByteArray := prog_10_method_5_code
def yX8_step : MethodName := ⟨RX8, "step", "()V"⟩
abbrev cX8_expect : ByteArray := prog_10_method_6_code
def yX8_expect : MethodName := ⟨RX8, "expect", "(I)V"⟩
abbrev cX8_readSum : ByteArray := prog_10_method_7_code
def yX8_readSum : MethodName := ⟨RX8, "readSum", "(I)I"⟩
abbrev cX8_readProduct : ByteArray := prog_10_method_8_code
def yX8_readProduct : MethodName := ⟨RX8, "readProduct", "(I)I"⟩
abbrev cX8_readAtom : ByteArray := prog_10_method_9_code
def yX8_readAtom : MethodName := ⟨RX8, "readAtom", "(I)I"⟩
abbrev cX8_readNumber : ByteArray := prog_10_method_10_code
def yX8_readNumber : MethodName := ⟨RX8, "readNumber", "()I"⟩
def RX9 : String := "CandleBar$Shelf"
def TX9 : u_T := fun k => match k with
  | 0 => ("CandleBar$Shelf", "held", "I", false)
  | 1 => ("CandleBar$Shelf", "light", "LCandleBar$Light;", true)
  | _ => ("CandleBar$Shelf", "row", "LCandleBar$Row;", true)
def tyX9 : Nat → FieldType := fun k => match k with
  | 0 => .int
  | 1 => .object "CandleBar$Light"
  | _ => .object "CandleBar$Row"
abbrev wsX90 : List Cond := u_ws RX9 TX9 3
theorem nmX9 : ∀ a, a < 3 → ∀ b, b < 3 → a ≠ b → (TX9 a).2.1 ≠ (TX9 b).2.1 := by decide +kernel
theorem tyX9_ok : ∀ k, k < 3 → parseFieldDescriptor (TX9 k).2.2.1 = some (tyX9 k) := by decide +kernel
abbrev cX9_init : ByteArray := prog_11_method_1_code
def yX9_init : MethodName := ⟨RX9, "<init>", "()V"⟩
def RX10 : String := "CandleBar$State"
def TX10 : u_T := fun k => match k with
  | 0 => ("CandleBar$State", "lights", "[LCandleBar$Light;", true)
  | 1 => ("CandleBar$State", "lightCount", "I", false)
  | 2 => ("CandleBar$State", "damp", "I", false)
  | 3 => ("CandleBar$State", "eyes", "[LCandleBar$Eye;", true)
  | 4 => ("CandleBar$State", "matches", "[LCandleBar$Match;", true)
  | 5 => ("CandleBar$State", "matchCount", "I", false)
  | 6 => ("CandleBar$State", "bills", "[LCandleBar$Bill;", true)
  | 7 => ("CandleBar$State", "billCount", "I", false)
  | 8 => ("CandleBar$State", "rule", "[I", true)
  | 9 => ("CandleBar$State", "ruleSize", "I", false)
  | _ => ("CandleBar$State", "standard", "I", false)
def tyX10 : Nat → FieldType := fun k => match k with
  | 0 => .array (.object "CandleBar$Light")
  | 1 => .int
  | 2 => .int
  | 3 => .array (.object "CandleBar$Eye")
  | 4 => .array (.object "CandleBar$Match")
  | 5 => .int
  | 6 => .array (.object "CandleBar$Bill")
  | 7 => .int
  | 8 => .array .int
  | 9 => .int
  | _ => .int
abbrev wsX100 : List Cond := u_ws RX10 TX10 11
theorem nmX10 : ∀ a, a < 11 → ∀ b, b < 11 → a ≠ b → (TX10 a).2.1 ≠ (TX10 b).2.1 := by decide +kernel
theorem tyX10_ok : ∀ k, k < 11 → parseFieldDescriptor (TX10 k).2.2.1 = some (tyX10 k) := by decide +kernel
abbrev cX10_init : ByteArray := prog_12_method_1_code
def yX10_init : MethodName := ⟨RX10, "<init>", "()V"⟩
abbrev cX10_takeFrom : ByteArray := prog_12_method_2_code
def yX10_takeFrom : MethodName := ⟨RX10, "takeFrom", "(LCandleBar$State;)V"⟩
abbrev cX10_putInForce : ByteArray := prog_12_method_3_code
def yX10_putInForce : MethodName := ⟨RX10, "putInForce", "([II)V"⟩
abbrev cX10_isLight : ByteArray := prog_12_method_4_code
def yX10_isLight : MethodName := ⟨RX10, "isLight", "(I)Z"⟩
abbrev cX10_isPair : ByteArray := prog_12_method_5_code
def yX10_isPair : MethodName := ⟨RX10, "isPair", "(II)Z"⟩
abbrev cX10_lightAt : ByteArray := prog_12_method_6_code
def yX10_lightAt : MethodName := ⟨RX10, "lightAt", "(I)LCandleBar$Light;"⟩
abbrev cX10_eyeAt : ByteArray := prog_12_method_7_code
def yX10_eyeAt : MethodName := ⟨RX10, "eyeAt", "(I)LCandleBar$Eye;"⟩
abbrev cX10_matchAt : ByteArray := prog_12_method_8_code
def yX10_matchAt : MethodName := ⟨RX10, "matchAt", "(I)LCandleBar$Match;"⟩
abbrev cX10_placeFor : ByteArray := prog_12_method_9_code
def yX10_placeFor : MethodName := ⟨RX10, "placeFor", "(IILCandleBar$Eye;I)I"⟩
abbrev cX10_addMatch : ByteArray := prog_12_method_10_code
def yX10_addMatch : MethodName := ⟨RX10, "addMatch", "(IIIII)I"⟩
abbrev cX10_countOut : ByteArray := prog_12_method_11_code
def yX10_countOut : MethodName := ⟨RX10, "countOut", "()I"⟩
abbrev cX10_allHours : ByteArray := prog_12_method_12_code
def yX10_allHours : MethodName := ⟨RX10, "allHours", "()I"⟩
def RX11 : String := "CandleBar"
def TX11 : u_T := fun k => match k with
  | 0 => ("CandleBar", "now", "LCandleBar$State;", true)
  | 1 => ("CandleBar", "image", "LCandleBar$State;", true)
  | 2 => ("CandleBar", "imageTaken", "Z", false)
  | 3 => ("CandleBar", "shelves", "[LCandleBar$Shelf;", true)
  | 4 => ("CandleBar", "reader", "LCandleBar$RuleReader;", true)
  | 5 => ("CandleBar", "finder", "LCandleBar$ChainFinder;", true)
  | 6 => ("CandleBar", "groups", "LCandleBar$Groups;", true)
  | 7 => ("CandleBar", "book", "LCandleBar$LawBook;", true)
  | _ => ("CandleBar", "meanEye", "LCandleBar$Eye;", true)
def tyX11 : Nat → FieldType := fun k => match k with
  | 0 => .object "CandleBar$State"
  | 1 => .object "CandleBar$State"
  | 2 => .boolean
  | 3 => .array (.object "CandleBar$Shelf")
  | 4 => .object "CandleBar$RuleReader"
  | 5 => .object "CandleBar$ChainFinder"
  | 6 => .object "CandleBar$Groups"
  | 7 => .object "CandleBar$LawBook"
  | _ => .object "CandleBar$Eye"
abbrev wsX110 : List Cond := u_ws RX11 TX11 9
theorem nmX11 : ∀ a, a < 9 → ∀ b, b < 9 → a ≠ b → (TX11 a).2.1 ≠ (TX11 b).2.1 := by decide +kernel
theorem tyX11_ok : ∀ k, k < 9 → parseFieldDescriptor (TX11 k).2.2.1 = some (tyX11 k) := by decide +kernel
abbrev cX11_init : ByteArray := prog_1_method_1_code
def yX11_init : MethodName := ⟨RX11, "<init>", "()V"⟩
abbrev cX11_light : ByteArray := prog_1_method_2_code
def yX11_light : MethodName := ⟨RX11, "light", "(IIII)I"⟩
abbrev cX11_setting : ByteArray := prog_1_method_3_code
def yX11_setting : MethodName := ⟨RX11, "setting", "(II)I"⟩
abbrev cX11_burn : ByteArray := prog_1_method_4_code
def yX11_burn : MethodName := ⟨RX11, "burn", "(II)I"⟩
abbrev cX11_damp : ByteArray := prog_1_method_5_code
def yX11_damp : MethodName := ⟨RX11, "damp", "(I)I"⟩
abbrev cX11_of : ByteArray := prog_1_method_6_code
def yX11_of : MethodName := ⟨RX11, "of", "(II)I"⟩
abbrev cX11_eye : ByteArray := prog_1_method_7_code
def yX11_eye : MethodName := ⟨RX11, "eye", "(III)I"⟩
abbrev cX11_seen : ByteArray := prog_1_method_8_code
def yX11_seen : MethodName := ⟨RX11, "seen", "(III)J"⟩
abbrev cX11_alike : ByteArray := prog_1_method_9_code
def yX11_alike : MethodName := ⟨RX11, "alike", "(IIII)I"⟩
abbrev cX11_match : ByteArray := prog_1_method_10_code
def yX11_match : MethodName := ⟨RX11, "match", "(IIII)I"⟩
abbrev cX11_hear : ByteArray := prog_1_method_11_code
def yX11_hear : MethodName := ⟨RX11, "hear", "(I)I"⟩
abbrev cX11_told : ByteArray := prog_1_method_12_code
def yX11_told : MethodName := ⟨RX11, "told", "(II)I"⟩
abbrev cX11_out : ByteArray := prog_1_method_13_code
def yX11_out : MethodName := ⟨RX11, "out", "(IZ)I"⟩
abbrev cX11_chain : ByteArray := prog_1_method_14_code
def yX11_chain : MethodName := ⟨RX11, "chain", "(III)I"⟩
abbrev cX11_span : ByteArray := prog_1_method_15_code
def yX11_span : MethodName := ⟨RX11, "span", "(IIII)J"⟩
abbrev cX11_placeOf : ByteArray := prog_1_method_16_code
def yX11_placeOf : MethodName := ⟨RX11, "placeOf", "(JJ)I"⟩
abbrev cX11_isPlaceUpTo : ByteArray := prog_1_method_17_code
def yX11_isPlaceUpTo : MethodName := ⟨RX11, "isPlaceUpTo", "(IJJ)Z"⟩
abbrev cX11_laws : ByteArray := prog_1_method_18_code
def yX11_laws : MethodName := ⟨RX11, "laws", "(III)I"⟩
abbrev cX11_parts : ByteArray := prog_1_method_19_code
def yX11_parts : MethodName := ⟨RX11, "parts", "(IIII)I"⟩
abbrev cX11_show : ByteArray := prog_1_method_20_code
def yX11_show : MethodName := ⟨RX11, "show", "(II)I"⟩
abbrev cX11_disagree : ByteArray := prog_1_method_21_code
def yX11_disagree : MethodName := ⟨RX11, "disagree", "(IIIII)I"⟩
abbrev cX11_mean : ByteArray := prog_1_method_22_code
def yX11_mean : MethodName := ⟨RX11, "mean", "(II)I"⟩
abbrev cX11_stands : ByteArray := prog_1_method_23_code
def yX11_stands : MethodName := ⟨RX11, "stands", "(III)I"⟩
abbrev cX11_makeMeanEye : ByteArray := prog_1_method_24_code
def yX11_makeMeanEye : MethodName := ⟨RX11, "makeMeanEye", "(I)V"⟩
abbrev cX11_fault : ByteArray := prog_1_method_25_code
def yX11_fault : MethodName := ⟨RX11, "fault", "(I)I"⟩
abbrev cX11_rule : ByteArray := prog_1_method_26_code
def yX11_rule : MethodName := ⟨RX11, "rule", "(I)I"⟩
abbrev cX11_right : ByteArray := prog_1_method_27_code
def yX11_right : MethodName := ⟨RX11, "right", "(I)I"⟩
abbrev cX11_standard : ByteArray := prog_1_method_28_code
def yX11_standard : MethodName := ⟨RX11, "standard", "(I)I"⟩
abbrev cX11_worth : ByteArray := prog_1_method_29_code
def yX11_worth : MethodName := ⟨RX11, "worth", "(I)J"⟩
abbrev cX11_steady : ByteArray := prog_1_method_30_code
def yX11_steady : MethodName := ⟨RX11, "steady", "(I)I"⟩
abbrev cX11_aged : ByteArray := prog_1_method_31_code
def yX11_aged : MethodName := ⟨RX11, "aged", "(I)I"⟩
abbrev cX11_bill : ByteArray := prog_1_method_32_code
def yX11_bill : MethodName := ⟨RX11, "bill", "(III)I"⟩
abbrev cX11_paid : ByteArray := prog_1_method_33_code
def yX11_paid : MethodName := ⟨RX11, "paid", "(I)J"⟩
abbrev cX11_owed : ByteArray := prog_1_method_34_code
def yX11_owed : MethodName := ⟨RX11, "owed", "(I)J"⟩
abbrev cX11_worthOf : ByteArray := prog_1_method_35_code
def yX11_worthOf : MethodName := ⟨RX11, "worthOf", "(LCandleBar$Light;)J"⟩
abbrev cX11_isSteadier : ByteArray := prog_1_method_36_code
def yX11_isSteadier : MethodName := ⟨RX11, "isSteadier", "(LCandleBar$Light;LCandleBar$Light;)Z"⟩
abbrev cX11_gain : ByteArray := prog_1_method_37_code
def yX11_gain : MethodName := ⟨RX11, "gain", "(IIIIZ)I"⟩
abbrev cX11_best : ByteArray := prog_1_method_38_code
def yX11_best : MethodName := ⟨RX11, "best", "(IIII)I"⟩
abbrev cX11_narrows : ByteArray := prog_1_method_39_code
def yX11_narrows : MethodName := ⟨RX11, "narrows", "()I"⟩
abbrev cX11_areTerms : ByteArray := prog_1_method_40_code
def yX11_areTerms : MethodName := ⟨RX11, "areTerms", "(II)Z"⟩
abbrev cX11_savedBy : ByteArray := prog_1_method_41_code
def yX11_savedBy : MethodName := ⟨RX11, "savedBy", "(I)I"⟩
abbrev cX11_gainOfAnIllDay : ByteArray := prog_1_method_42_code
def yX11_gainOfAnIllDay : MethodName := ⟨RX11, "gainOfAnIllDay", "(III)I"⟩
abbrev cX11_image : ByteArray := prog_1_method_43_code
def yX11_image : MethodName := ⟨RX11, "image", "()I"⟩
abbrev cX11_restore : ByteArray := prog_1_method_44_code
def yX11_restore : MethodName := ⟨RX11, "restore", "()I"⟩
abbrev cX11_count : ByteArray := prog_1_method_45_code
def yX11_count : MethodName := ⟨RX11, "count", "(I)I"⟩
abbrev cX11_keep : ByteArray := prog_1_method_46_code
def yX11_keep : MethodName := ⟨RX11, "keep", "(III)I"⟩
abbrev cX11_row : ByteArray := prog_1_method_47_code
def yX11_row : MethodName := ⟨RX11, "row", "(III)I"⟩
abbrev cX11_put : ByteArray := prog_1_method_48_code
def yX11_put : MethodName := ⟨RX11, "put", "(III)I"⟩
abbrev cX11_element : ByteArray := prog_1_method_49_code
def yX11_element : MethodName := ⟨RX11, "element", "(II)J"⟩
abbrev cX11_copy : ByteArray := prog_1_method_50_code
def yX11_copy : MethodName := ⟨RX11, "copy", "(IIIII)I"⟩
abbrev cX11_gives : ByteArray := prog_1_method_51_code
def yX11_gives : MethodName := ⟨RX11, "gives", "(I)I"⟩
abbrev cX11_toss : ByteArray := prog_1_method_52_code
def yX11_toss : MethodName := ⟨RX11, "toss", "(I)I"⟩
abbrev cX11_shelfRefusal : ByteArray := prog_1_method_53_code
def yX11_shelfRefusal : MethodName := ⟨RX11, "shelfRefusal", "(II)I"⟩
abbrev cX11_textRefusal : ByteArray := prog_1_method_54_code
def yX11_textRefusal : MethodName := ⟨RX11, "textRefusal", "(I)I"⟩
abbrev cX11_within : ByteArray := prog_1_method_55_code
def yX11_within : MethodName := ⟨RX11, "within", "(III)Z"⟩
abbrev cX11_isIn : ByteArray := prog_1_method_56_code
def yX11_isIn : MethodName := ⟨RX11, "isIn", "(II)Z"⟩
def RX12 : String := "CandleBarModel"
def TX12 : u_T := fun k => match k with
  | 0 => ("CandleBarModel", "s", "[I", true)
  | 1 => ("CandleBarModel", "image", "[I", true)
  | 2 => ("CandleBarModel", "paid", "[J", true)
  | 3 => ("CandleBarModel", "paidThen", "[J", true)
  | 4 => ("CandleBarModel", "kept", "[I", true)
  | 5 => ("CandleBarModel", "sort", "[I", true)
  | 6 => ("CandleBarModel", "size", "[I", true)
  | 7 => ("CandleBarModel", "element", "[I", true)
  | 8 => ("CandleBarModel", "keptLight", "[I", true)
  | 9 => ("CandleBarModel", "keptToss", "[I", true)
  | 10 => ("CandleBarModel", "hasImage", "Z", false)
  | 11 => ("CandleBarModel", "thrown", "I", false)
  | 12 => ("CandleBarModel", "chain", "[I", true)
  | 13 => ("CandleBarModel", "chained", "I", false)
  | 14 => ("CandleBarModel", "let", "[I", true)
  | 15 => ("CandleBarModel", "pos", "I", false)
  | 16 => ("CandleBarModel", "base", "I", false)
  | 17 => ("CandleBarModel", "end", "I", false)
  | 18 => ("CandleBarModel", "deep", "I", false)
  | 19 => ("CandleBarModel", "number", "I", false)
  | 20 => ("CandleBarModel", "text", "[I", false)
  | 21 => ("CandleBarModel", "asked", "I", false)
  | _ => ("CandleBarModel", "group", "[I", true)
def tyX12 : Nat → FieldType := fun k => match k with
  | 0 => .array .int
  | 1 => .array .int
  | 2 => .array .long
  | 3 => .array .long
  | 4 => .array .int
  | 5 => .array .int
  | 6 => .array .int
  | 7 => .array .int
  | 8 => .array .int
  | 9 => .array .int
  | 10 => .boolean
  | 11 => .int
  | 12 => .array .int
  | 13 => .int
  | 14 => .array .int
  | 15 => .int
  | 16 => .int
  | 17 => .int
  | 18 => .int
  | 19 => .int
  | 20 => .array .int
  | 21 => .int
  | _ => .array .int
abbrev wsX120 : List Cond := u_ws RX12 TX12 23
theorem nmX12 : ∀ a, a < 23 → ∀ b, b < 23 → a ≠ b → (TX12 a).2.1 ≠ (TX12 b).2.1 := by decide +kernel
theorem tyX12_ok : ∀ k, k < 23 → parseFieldDescriptor (TX12 k).2.2.1 = some (tyX12 k) := by decide +kernel
abbrev cX12_init : ByteArray := prog_14_method_1_code
def yX12_init : MethodName := ⟨RX12, "<init>", "()V"⟩
abbrev cX12_thrown : ByteArray := prog_14_method_2_code
def yX12_thrown : MethodName := ⟨RX12, "thrown", "()I"⟩
abbrev cX12_isIn : ByteArray := prog_14_method_3_code
def yX12_isIn : MethodName := ⟨RX12, "isIn", "(JJJ)Z"⟩
abbrev cX12_isLight : ByteArray := prog_14_method_4_code
def yX12_isLight : MethodName := ⟨RX12, "isLight", "(I)Z"⟩
abbrev cX12_isPair : ByteArray := prog_14_method_5_code
def yX12_isPair : MethodName := ⟨RX12, "isPair", "(II)Z"⟩
abbrev cX12_isEye : ByteArray := prog_14_method_6_code
def yX12_isEye : MethodName := ⟨RX12, "isEye", "(I)Z"⟩
abbrev cX12_isDim : ByteArray := prog_14_method_7_code
def yX12_isDim : MethodName := ⟨RX12, "isDim", "(I)Z"⟩
abbrev cX12_isShelf : ByteArray := prog_14_method_8_code
def yX12_isShelf : MethodName := ⟨RX12, "isShelf", "(I)Z"⟩
abbrev cX12_get : ByteArray := prog_14_method_9_code
def yX12_get : MethodName := ⟨RX12, "get", "(II)I"⟩
abbrev cX12_becomes : ByteArray := prog_14_method_10_code
def yX12_becomes : MethodName := ⟨RX12, "becomes", "(II)I"⟩
abbrev cX12_light : ByteArray := prog_14_method_11_code
def yX12_light : MethodName := ⟨RX12, "light", "(IIII)I"⟩
abbrev cX12_setting : ByteArray := prog_14_method_12_code
def yX12_setting : MethodName := ⟨RX12, "setting", "(II)I"⟩
abbrev cX12_burn : ByteArray := prog_14_method_13_code
def yX12_burn : MethodName := ⟨RX12, "burn", "(II)I"⟩
abbrev cX12_damp : ByteArray := prog_14_method_14_code
def yX12_damp : MethodName := ⟨RX12, "damp", "(I)I"⟩
abbrev cX12_givesBy : ByteArray := prog_14_method_15_code
def yX12_givesBy : MethodName := ⟨RX12, "givesBy", "([III)I"⟩
abbrev cX12_givesNow : ByteArray := prog_14_method_16_code
def yX12_givesNow : MethodName := ⟨RX12, "givesNow", "(I)I"⟩
abbrev cX12_wanders : ByteArray := prog_14_method_17_code
def yX12_wanders : MethodName := ⟨RX12, "wanders", "(I)I"⟩
abbrev cX12_of : ByteArray := prog_14_method_18_code
def yX12_of : MethodName := ⟨RX12, "of", "(II)I"⟩
abbrev cX12_eye : ByteArray := prog_14_method_19_code
def yX12_eye : MethodName := ⟨RX12, "eye", "(III)I"⟩
abbrev cX12_seenBy : ByteArray := prog_14_method_20_code
def yX12_seenBy : MethodName := ⟨RX12, "seenBy", "(III)J"⟩
abbrev cX12_yellowOf : ByteArray := prog_14_method_21_code
def yX12_yellowOf : MethodName := ⟨RX12, "yellowOf", "(II)I"⟩
abbrev cX12_blueOf : ByteArray := prog_14_method_22_code
def yX12_blueOf : MethodName := ⟨RX12, "blueOf", "(II)I"⟩
abbrev cX12_seen : ByteArray := prog_14_method_23_code
def yX12_seen : MethodName := ⟨RX12, "seen", "(III)J"⟩
abbrev cX12_placeOf : ByteArray := prog_14_method_24_code
def yX12_placeOf : MethodName := ⟨RX12, "placeOf", "(JJ)I"⟩
abbrev cX12_placeBy : ByteArray := prog_14_method_25_code
def yX12_placeBy : MethodName := ⟨RX12, "placeBy", "(IIII)I"⟩
abbrev cX12_alikeOf : ByteArray := prog_14_method_26_code
def yX12_alikeOf : MethodName := ⟨RX12, "alikeOf", "(IIII)I"⟩
abbrev cX12_alike : ByteArray := prog_14_method_27_code
def yX12_alike : MethodName := ⟨RX12, "alike", "(IIII)I"⟩
abbrev cX12_tells : ByteArray := prog_14_method_28_code
def yX12_tells : MethodName := ⟨RX12, "tells", "(IIIII)V"⟩
abbrev cX12_match : ByteArray := prog_14_method_29_code
def yX12_match : MethodName := ⟨RX12, "match", "(IIII)I"⟩
abbrev cX12_wrongRow : ByteArray := prog_14_method_30_code
def yX12_wrongRow : MethodName := ⟨RX12, "wrongRow", "(II)I"⟩
abbrev cX12_isTired : ByteArray := prog_14_method_31_code
def yX12_isTired : MethodName := ⟨RX12, "isTired", "(II)Z"⟩
abbrev cX12_hear : ByteArray := prog_14_method_32_code
def yX12_hear : MethodName := ⟨RX12, "hear", "(I)I"⟩
abbrev cX12_isMatch : ByteArray := prog_14_method_33_code
def yX12_isMatch : MethodName := ⟨RX12, "isMatch", "(I)Z"⟩
abbrev cX12_say : ByteArray := prog_14_method_34_code
def yX12_say : MethodName := ⟨RX12, "say", "(II)I"⟩
abbrev cX12_told : ByteArray := prog_14_method_35_code
def yX12_told : MethodName := ⟨RX12, "told", "(II)I"⟩
abbrev cX12_out : ByteArray := prog_14_method_36_code
def yX12_out : MethodName := ⟨RX12, "out", "(IZ)I"⟩
abbrev cX12_goesOn : ByteArray := prog_14_method_37_code
def yX12_goesOn : MethodName := ⟨RX12, "goesOn", "(III)Z"⟩
abbrev cX12_findChain : ByteArray := prog_14_method_38_code
def yX12_findChain : MethodName := ⟨RX12, "findChain", "(II)Z"⟩
abbrev cX12_chain : ByteArray := prog_14_method_39_code
def yX12_chain : MethodName := ⟨RX12, "chain", "(III)I"⟩
abbrev cX12_common : ByteArray := prog_14_method_40_code
def yX12_common : MethodName := ⟨RX12, "common", "(JJ)J"⟩
abbrev cX12_span : ByteArray := prog_14_method_41_code
def yX12_span : MethodName := ⟨RX12, "span", "(IIII)J"⟩
abbrev cX12_isLet : ByteArray := prog_14_method_42_code
def yX12_isLet : MethodName := ⟨RX12, "isLet", "(IIII)Z"⟩
abbrev cX12_findLaws : ByteArray := prog_14_method_43_code
def yX12_findLaws : MethodName := ⟨RX12, "findLaws", "(II)I"⟩
abbrev cX12_laws : ByteArray := prog_14_method_44_code
def yX12_laws : MethodName := ⟨RX12, "laws", "(III)I"⟩
abbrev cX12_partOf : ByteArray := prog_14_method_45_code
def yX12_partOf : MethodName := ⟨RX12, "partOf", "(III)I"⟩
abbrev cX12_parts : ByteArray := prog_14_method_46_code
def yX12_parts : MethodName := ⟨RX12, "parts", "(IIII)I"⟩
abbrev cX12_show : ByteArray := prog_14_method_47_code
def yX12_show : MethodName := ⟨RX12, "show", "(II)I"⟩
abbrev cX12_disagree : ByteArray := prog_14_method_48_code
def yX12_disagree : MethodName := ⟨RX12, "disagree", "(IIIII)I"⟩
abbrev cX12_meanOf : ByteArray := prog_14_method_49_code
def yX12_meanOf : MethodName := ⟨RX12, "meanOf", "(II)I"⟩
abbrev cX12_mean : ByteArray := prog_14_method_50_code
def yX12_mean : MethodName := ⟨RX12, "mean", "(II)I"⟩
abbrev cX12_stands : ByteArray := prog_14_method_51_code
def yX12_stands : MethodName := ⟨RX12, "stands", "(III)I"⟩
abbrev cX12_sign : ByteArray := prog_14_method_52_code
def yX12_sign : MethodName := ⟨RX12, "sign", "()I"⟩
abbrev cX12_takes : ByteArray := prog_14_method_53_code
def yX12_takes : MethodName := ⟨RX12, "takes", "(I)Z"⟩
abbrev cX12_readsNumber : ByteArray := prog_14_method_54_code
def yX12_readsNumber : MethodName := ⟨RX12, "readsNumber", "()Z"⟩
abbrev cX12_readsSum : ByteArray := prog_14_method_55_code
def yX12_readsSum : MethodName := ⟨RX12, "readsSum", "()Z"⟩
abbrev cX12_readsProduct : ByteArray := prog_14_method_56_code
def yX12_readsProduct : MethodName := ⟨RX12, "readsProduct", "()Z"⟩
abbrev cX12_isField : ByteArray := prog_14_method_57_code
def yX12_isField : MethodName := ⟨RX12, "isField", "(I)Z"⟩
abbrev cX12_readsAtom : ByteArray := prog_14_method_58_code
def yX12_readsAtom : MethodName := ⟨RX12, "readsAtom", "()Z"⟩
abbrev cX12_faultIn : ByteArray := prog_14_method_59_code
def yX12_faultIn : MethodName := ⟨RX12, "faultIn", "(I)I"⟩
abbrev cX12_fault : ByteArray := prog_14_method_60_code
def yX12_fault : MethodName := ⟨RX12, "fault", "(I)I"⟩
abbrev cX12_rule : ByteArray := prog_14_method_61_code
def yX12_rule : MethodName := ⟨RX12, "rule", "(I)I"⟩
abbrev cX12_sum : ByteArray := prog_14_method_62_code
def yX12_sum : MethodName := ⟨RX12, "sum", "()I"⟩
abbrev cX12_product : ByteArray := prog_14_method_63_code
def yX12_product : MethodName := ⟨RX12, "product", "()I"⟩
abbrev cX12_atom : ByteArray := prog_14_method_64_code
def yX12_atom : MethodName := ⟨RX12, "atom", "()I"⟩
abbrev cX12_rightOf : ByteArray := prog_14_method_65_code
def yX12_rightOf : MethodName := ⟨RX12, "rightOf", "(I)I"⟩
abbrev cX12_right : ByteArray := prog_14_method_66_code
def yX12_right : MethodName := ⟨RX12, "right", "(I)I"⟩
abbrev cX12_standard : ByteArray := prog_14_method_67_code
def yX12_standard : MethodName := ⟨RX12, "standard", "(I)I"⟩
abbrev cX12_worthOf : ByteArray := prog_14_method_68_code
def yX12_worthOf : MethodName := ⟨RX12, "worthOf", "(I)J"⟩
abbrev cX12_worth : ByteArray := prog_14_method_69_code
def yX12_worth : MethodName := ⟨RX12, "worth", "(I)J"⟩
abbrev cX12_steady : ByteArray := prog_14_method_70_code
def yX12_steady : MethodName := ⟨RX12, "steady", "(I)I"⟩
abbrev cX12_aged : ByteArray := prog_14_method_71_code
def yX12_aged : MethodName := ⟨RX12, "aged", "(I)I"⟩
abbrev cX12_bill : ByteArray := prog_14_method_72_code
def yX12_bill : MethodName := ⟨RX12, "bill", "(III)I"⟩
abbrev cX12_paid : ByteArray := prog_14_method_73_code
def yX12_paid : MethodName := ⟨RX12, "paid", "(I)J"⟩
abbrev cX12_owed : ByteArray := prog_14_method_74_code
def yX12_owed : MethodName := ⟨RX12, "owed", "(I)J"⟩
abbrev cX12_bits : ByteArray := prog_14_method_75_code
def yX12_bits : MethodName := ⟨RX12, "bits", "(I)I"⟩
abbrev cX12_isCosts : ByteArray := prog_14_method_76_code
def yX12_isCosts : MethodName := ⟨RX12, "isCosts", "(II)Z"⟩
abbrev cX12_gainBy : ByteArray := prog_14_method_77_code
def yX12_gainBy : MethodName := ⟨RX12, "gainBy", "(IIII)I"⟩
abbrev cX12_byLot : ByteArray := prog_14_method_78_code
def yX12_byLot : MethodName := ⟨RX12, "byLot", "(IIII)I"⟩
abbrev cX12_gain : ByteArray := prog_14_method_79_code
def yX12_gain : MethodName := ⟨RX12, "gain", "(IIIIZ)I"⟩
abbrev cX12_isEnough : ByteArray := prog_14_method_80_code
def yX12_isEnough : MethodName := ⟨RX12, "isEnough", "(III)Z"⟩
abbrev cX12_best : ByteArray := prog_14_method_81_code
def yX12_best : MethodName := ⟨RX12, "best", "(IIII)I"⟩
abbrev cX12_findGroups : ByteArray := prog_14_method_82_code
def yX12_findGroups : MethodName := ⟨RX12, "findGroups", "()V"⟩
abbrev cX12_sizeOf : ByteArray := prog_14_method_83_code
def yX12_sizeOf : MethodName := ⟨RX12, "sizeOf", "(I)I"⟩
abbrev cX12_narrows : ByteArray := prog_14_method_84_code
def yX12_narrows : MethodName := ⟨RX12, "narrows", "()I"⟩
abbrev cX12_image : ByteArray := prog_14_method_85_code
def yX12_image : MethodName := ⟨RX12, "image", "()I"⟩
abbrev cX12_restore : ByteArray := prog_14_method_86_code
def yX12_restore : MethodName := ⟨RX12, "restore", "()I"⟩
abbrev cX12_count : ByteArray := prog_14_method_87_code
def yX12_count : MethodName := ⟨RX12, "count", "(I)I"⟩
abbrev cX12_keep : ByteArray := prog_14_method_88_code
def yX12_keep : MethodName := ⟨RX12, "keep", "(III)I"⟩
abbrev cX12_row : ByteArray := prog_14_method_89_code
def yX12_row : MethodName := ⟨RX12, "row", "(III)I"⟩
abbrev cX12_put : ByteArray := prog_14_method_90_code
def yX12_put : MethodName := ⟨RX12, "put", "(III)I"⟩
abbrev cX12_element : ByteArray := prog_14_method_91_code
def yX12_element : MethodName := ⟨RX12, "element", "(II)J"⟩
abbrev cX12_copy : ByteArray := prog_14_method_92_code
def yX12_copy : MethodName := ⟨RX12, "copy", "(IIIII)I"⟩
abbrev cX12_wrongKept : ByteArray := prog_14_method_93_code
def yX12_wrongKept : MethodName := ⟨RX12, "wrongKept", "(I)I"⟩
abbrev cX12_gives : ByteArray := prog_14_method_94_code
def yX12_gives : MethodName := ⟨RX12, "gives", "(I)I"⟩
abbrev cX12_toss : ByteArray := prog_14_method_95_code
def yX12_toss : MethodName := ⟨RX12, "toss", "(I)I"⟩
def RJ6 : String := "java/lang/Integer"
def TJ6 : u_T := fun k => match k with
  | _ => ("", "", "", false)
def tyJ6 : Nat → FieldType := fun k => match k with
  | _ => .int
abbrev wsJ60 : List Cond := u_ws RJ6 TJ6 0
theorem nmJ6 : ∀ a, a < 0 → ∀ b, b < 0 → a ≠ b → (TJ6 a).2.1 ≠ (TJ6 b).2.1 := by decide +kernel
theorem tyJ6_ok : ∀ k, k < 0 → parseFieldDescriptor (TJ6 k).2.2.1 = some (tyJ6 k) := by decide +kernel
abbrev cJ6_bitCount_0f7a4 : ByteArray := prog_18_method_49_code
def yJ6_bitCount_0f7a4 : MethodName := ⟨RJ6, "bitCount", "(I)I"⟩
def RJ9 : String := "java/lang/Math"
def TJ9 : u_T := fun k => match k with
  | _ => ("", "", "", false)
def tyJ9 : Nat → FieldType := fun k => match k with
  | _ => .int
abbrev wsJ90 : List Cond := u_ws RJ9 TJ9 0
theorem nmJ9 : ∀ a, a < 0 → ∀ b, b < 0 → a ≠ b → (TJ9 a).2.1 ≠ (TJ9 b).2.1 := by decide +kernel
theorem tyJ9_ok : ∀ k, k < 0 → parseFieldDescriptor (TJ9 k).2.2.1 = some (tyJ9 k) := by decide +kernel
abbrev cJ9_abs_0f7a4 : ByteArray := prog_19_method_59_code
def yJ9_abs_0f7a4 : MethodName := ⟨RJ9, "abs", "(I)I"⟩
abbrev cJ9_max_7cf53 : ByteArray := prog_19_method_65_code
def yJ9_max_7cf53 : MethodName := ⟨RJ9, "max", "(II)I"⟩
abbrev cJ9_min_7cf53 : ByteArray := prog_19_method_69_code
def yJ9_min_7cf53 : MethodName := ⟨RJ9, "min", "(II)I"⟩
def RJ0 : String := "java/lang/String"
def TJ0 : u_T := fun k => match k with
  | _ => ("", "", "", false)
def tyJ0 : Nat → FieldType := fun k => match k with
  | _ => .int
abbrev wsJ00 : List Cond := u_ws RJ0 TJ0 0
theorem nmJ0 : ∀ a, a < 0 → ∀ b, b < 0 → a ≠ b → (TJ0 a).2.1 ≠ (TJ0 b).2.1 := by decide +kernel
theorem tyJ0_ok : ∀ k, k < 0 → parseFieldDescriptor (TJ0 k).2.2.1 = some (tyJ0 k) := by decide +kernel
def RJ10 : String := "java/lang/System"
def TJ10 : u_T := fun k => match k with
  | _ => ("", "", "", false)
def tyJ10 : Nat → FieldType := fun k => match k with
  | _ => .int
abbrev wsJ100 : List Cond := u_ws RJ10 TJ10 0
theorem nmJ10 : ∀ a, a < 0 → ∀ b, b < 0 → a ≠ b → (TJ10 a).2.1 ≠ (TJ10 b).2.1 := by decide +kernel
theorem tyJ10_ok : ∀ k, k < 0 → parseFieldDescriptor (TJ10 k).2.2.1 = some (tyJ10 k) := by decide +kernel
def RL : String := "CandleBarLaw"
abbrev cL_element : ByteArray := method_3_code
def yL_element : MethodName := ⟨RL, "element", "(LCandleBar;II[J)I"⟩
abbrev cL_law : ByteArray := code
def yL_law : MethodName := ⟨RL, "law", "([I)Z"⟩
abbrev vwCl : List vw_C := [(RX0, TX0, 4), (RX1, TX1, 5), (RX2, TX2, 3), (RX3, TX3, 3), (RX4, TX4, 4), (RX5, TX5, 6), (RX6, TX6, 6), (RX7, TX7, 3), (RX8, TX8, 6), (RX9, TX9, 3), (RX10, TX10, 11), (RX11, TX11, 9), (RX12, TX12, 23)]
end
section
theorem dX0_init_0 : decode cX0_init 0 = .ok (.aload_n 0, 1) := by decide +kernel
theorem dX0_init_1 : decode cX0_init 1 = .ok (.invokespecial 1, 3) := by decide +kernel
theorem dX0_init_4 : decode cX0_init 4 = .ok (.return_, 1) := by decide +kernel
theorem dX0_takeFrom_0 : decode cX0_takeFrom 0 = .ok (.aload_n 0, 1) := by decide +kernel
theorem dX0_takeFrom_1 : decode cX0_takeFrom 1 = .ok (.aload_n 1, 1) := by decide +kernel
theorem dX0_takeFrom_2 : decode cX0_takeFrom 2 = .ok (.getfield 7, 3) := by decide +kernel
theorem dX0_takeFrom_5 : decode cX0_takeFrom 5 = .ok (.putfield 7, 3) := by decide +kernel
theorem dX0_takeFrom_8 : decode cX0_takeFrom 8 = .ok (.aload_n 0, 1) := by decide +kernel
theorem dX0_takeFrom_9 : decode cX0_takeFrom 9 = .ok (.aload_n 1, 1) := by decide +kernel
theorem dX0_takeFrom_10 : decode cX0_takeFrom 10 = .ok (.getfield 13, 3) := by decide +kernel
theorem dX0_takeFrom_13 : decode cX0_takeFrom 13 = .ok (.putfield 13, 3) := by decide +kernel
theorem dX0_takeFrom_16 : decode cX0_takeFrom 16 = .ok (.aload_n 0, 1) := by decide +kernel
theorem dX0_takeFrom_17 : decode cX0_takeFrom 17 = .ok (.aload_n 1, 1) := by decide +kernel
theorem dX0_takeFrom_18 : decode cX0_takeFrom 18 = .ok (.getfield 16, 3) := by decide +kernel
theorem dX0_takeFrom_21 : decode cX0_takeFrom 21 = .ok (.putfield 16, 3) := by decide +kernel
theorem dX0_takeFrom_24 : decode cX0_takeFrom 24 = .ok (.aload_n 0, 1) := by decide +kernel
theorem dX0_takeFrom_25 : decode cX0_takeFrom 25 = .ok (.aload_n 1, 1) := by decide +kernel
theorem dX0_takeFrom_26 : decode cX0_takeFrom 26 = .ok (.getfield 19, 3) := by decide +kernel
theorem dX0_takeFrom_29 : decode cX0_takeFrom 29 = .ok (.putfield 19, 3) := by decide +kernel
theorem dX0_takeFrom_32 : decode cX0_takeFrom 32 = .ok (.return_, 1) := by decide +kernel
theorem dX1_init_0 : decode cX1_init 0 = .ok (.aload_n 0, 1) := by decide +kernel
theorem dX1_init_1 : decode cX1_init 1 = .ok (.invokespecial 3, 3) := by decide +kernel
theorem dX1_init_4 : decode cX1_init 4 = .ok (.aload_n 0, 1) := by decide +kernel
theorem dX1_init_5 : decode cX1_init 5 = .ok (.bipush 12, 2) := by decide +kernel
theorem dX1_init_7 : decode cX1_init 7 = .ok (.newarray .int, 2) := by decide +kernel
theorem dX1_init_9 : decode cX1_init 9 = .ok (.putfield 9, 3) := by decide +kernel
theorem dX1_init_12 : decode cX1_init 12 = .ok (.aload_n 0, 1) := by decide +kernel
theorem dX1_init_13 : decode cX1_init 13 = .ok (.iconst 4, 1) := by decide +kernel
theorem dX1_init_14 : decode cX1_init 14 = .ok (.newarray .int, 2) := by decide +kernel
theorem dX1_init_16 : decode cX1_init 16 = .ok (.putfield 15, 3) := by decide +kernel
theorem dX1_init_19 : decode cX1_init 19 = .ok (.return_, 1) := by decide +kernel
theorem dX1_find_0 : decode cX1_find 0 = .ok (.aload_n 0, 1) := by decide +kernel
theorem dX1_find_1 : decode cX1_find 1 = .ok (.aload_n 1, 1) := by decide +kernel
theorem dX1_find_2 : decode cX1_find 2 = .ok (.iload_n 3, 1) := by decide +kernel
theorem dX1_find_3 : decode cX1_find 3 = .ok (.invokevirtual 18, 3) := by decide +kernel
theorem dX1_find_6 : decode cX1_find 6 = .ok (.aload_n 0, 1) := by decide +kernel
theorem dX1_find_7 : decode cX1_find 7 = .ok (.getfield 9, 3) := by decide +kernel
theorem dX1_find_10 : decode cX1_find 10 = .ok (.iload_n 2, 1) := by decide +kernel
theorem dX1_find_11 : decode cX1_find 11 = .ok (.iaload, 1) := by decide +kernel
theorem dX1_find_12 : decode cX1_find 12 = .ok (.iconst 4, 1) := by decide +kernel
theorem dX1_find_13 : decode cX1_find 13 = .ok (.if_icmp .le 5, 3) := by decide +kernel
theorem dX1_find_16 : decode cX1_find 16 = .ok (.iconst 0, 1) := by decide +kernel
theorem dX1_find_17 : decode cX1_find 17 = .ok (.ireturn, 1) := by decide +kernel
theorem dX1_find_18 : decode cX1_find 18 = .ok (.aload_n 0, 1) := by decide +kernel
theorem dX1_find_19 : decode cX1_find 19 = .ok (.aload_n 0, 1) := by decide +kernel
theorem dX1_find_20 : decode cX1_find 20 = .ok (.getfield 9, 3) := by decide +kernel
theorem dX1_find_23 : decode cX1_find 23 = .ok (.iload_n 2, 1) := by decide +kernel
theorem dX1_find_24 : decode cX1_find 24 = .ok (.iaload, 1) := by decide +kernel
theorem dX1_find_25 : decode cX1_find 25 = .ok (.putfield 22, 3) := by decide +kernel
theorem dX1_find_28 : decode cX1_find 28 = .ok (.iload_n 2, 1) := by decide +kernel
theorem dX1_find_29 : decode cX1_find 29 = .ok (.istore 4, 2) := by decide +kernel
theorem dX1_find_31 : decode cX1_find 31 = .ok (.iconst 0, 1) := by decide +kernel
theorem dX1_find_32 : decode cX1_find 32 = .ok (.istore 5, 2) := by decide +kernel
theorem dX1_find_34 : decode cX1_find 34 = .ok (.iload 5, 2) := by decide +kernel
theorem dX1_find_36 : decode cX1_find 36 = .ok (.aload_n 0, 1) := by decide +kernel
theorem dX1_find_37 : decode cX1_find 37 = .ok (.getfield 22, 3) := by decide +kernel
theorem dX1_find_40 : decode cX1_find 40 = .ok (.if_icmp .ge 42, 3) := by decide +kernel
theorem dX1_find_43 : decode cX1_find 43 = .ok (.aload_n 0, 1) := by decide +kernel
theorem dX1_find_44 : decode cX1_find 44 = .ok (.getfield 15, 3) := by decide +kernel
theorem dX1_find_47 : decode cX1_find 47 = .ok (.iload 5, 2) := by decide +kernel
theorem dX1_find_49 : decode cX1_find 49 = .ok (.aload_n 0, 1) := by decide +kernel
theorem dX1_find_50 : decode cX1_find 50 = .ok (.aload_n 1, 1) := by decide +kernel
theorem dX1_find_51 : decode cX1_find 51 = .ok (.iload 4, 2) := by decide +kernel
theorem dX1_find_53 : decode cX1_find 53 = .ok (.invokevirtual 26, 3) := by decide +kernel
theorem dX1_find_56 : decode cX1_find 56 = .ok (.iastore, 1) := by decide +kernel
theorem dX1_find_57 : decode cX1_find 57 = .ok (.aload_n 1, 1) := by decide +kernel
theorem dX1_find_58 : decode cX1_find 58 = .ok (.getfield 30, 3) := by decide +kernel
theorem dX1_find_61 : decode cX1_find 61 = .ok (.aload_n 0, 1) := by decide +kernel
theorem dX1_find_62 : decode cX1_find 62 = .ok (.getfield 15, 3) := by decide +kernel
theorem dX1_find_65 : decode cX1_find 65 = .ok (.iload 5, 2) := by decide +kernel
theorem dX1_find_67 : decode cX1_find 67 = .ok (.iaload, 1) := by decide +kernel
theorem dX1_find_68 : decode cX1_find 68 = .ok (.aaload, 1) := by decide +kernel
theorem dX1_find_69 : decode cX1_find 69 = .ok (.iload 4, 2) := by decide +kernel
theorem dX1_find_71 : decode cX1_find 71 = .ok (.invokevirtual 36, 3) := by decide +kernel
theorem dX1_find_74 : decode cX1_find 74 = .ok (.istore 4, 2) := by decide +kernel
theorem dX1_find_76 : decode cX1_find 76 = .ok (.iinc 5 1, 3) := by decide +kernel
theorem dX1_find_79 : decode cX1_find 79 = .ok (.goto (-45), 3) := by decide +kernel
theorem dX1_find_82 : decode cX1_find 82 = .ok (.iconst 1, 1) := by decide +kernel
theorem dX1_find_83 : decode cX1_find 83 = .ok (.ireturn, 1) := by decide +kernel
theorem dX1_measure_0 : decode cX1_measure 0 = .ok (.iconst 0, 1) := by decide +kernel
theorem dX1_measure_1 : decode cX1_measure 1 = .ok (.istore_n 3, 1) := by decide +kernel
theorem dX1_measure_2 : decode cX1_measure 2 = .ok (.iload_n 3, 1) := by decide +kernel
theorem dX1_measure_3 : decode cX1_measure 3 = .ok (.bipush 12, 2) := by decide +kernel
theorem dX1_measure_5 : decode cX1_measure 5 = .ok (.if_icmp .ge 16, 3) := by decide +kernel
theorem dX1_measure_8 : decode cX1_measure 8 = .ok (.aload_n 0, 1) := by decide +kernel
theorem dX1_measure_9 : decode cX1_measure 9 = .ok (.getfield 9, 3) := by decide +kernel
theorem dX1_measure_12 : decode cX1_measure 12 = .ok (.iload_n 3, 1) := by decide +kernel
theorem dX1_measure_13 : decode cX1_measure 13 = .ok (.iconst 5, 1) := by decide +kernel
theorem dX1_measure_14 : decode cX1_measure 14 = .ok (.iastore, 1) := by decide +kernel
theorem dX1_measure_15 : decode cX1_measure 15 = .ok (.iinc 3 1, 3) := by decide +kernel
theorem dX1_measure_18 : decode cX1_measure 18 = .ok (.goto (-16), 3) := by decide +kernel
theorem dX1_measure_21 : decode cX1_measure 21 = .ok (.aload_n 0, 1) := by decide +kernel
theorem dX1_measure_22 : decode cX1_measure 22 = .ok (.getfield 9, 3) := by decide +kernel
theorem dX1_measure_25 : decode cX1_measure 25 = .ok (.iload_n 2, 1) := by decide +kernel
theorem dX1_measure_26 : decode cX1_measure 26 = .ok (.iconst 0, 1) := by decide +kernel
theorem dX1_measure_27 : decode cX1_measure 27 = .ok (.iastore, 1) := by decide +kernel
theorem dX1_measure_28 : decode cX1_measure 28 = .ok (.iconst 1, 1) := by decide +kernel
theorem dX1_measure_29 : decode cX1_measure 29 = .ok (.istore_n 3, 1) := by decide +kernel
theorem dX1_measure_30 : decode cX1_measure 30 = .ok (.iload_n 3, 1) := by decide +kernel
theorem dX1_measure_31 : decode cX1_measure 31 = .ok (.iconst 4, 1) := by decide +kernel
theorem dX1_measure_32 : decode cX1_measure 32 = .ok (.if_icmp .gt 74, 3) := by decide +kernel
theorem dX1_measure_35 : decode cX1_measure 35 = .ok (.iconst 0, 1) := by decide +kernel
theorem dX1_measure_36 : decode cX1_measure 36 = .ok (.istore 4, 2) := by decide +kernel
theorem dX1_measure_38 : decode cX1_measure 38 = .ok (.iload 4, 2) := by decide +kernel
theorem dX1_measure_40 : decode cX1_measure 40 = .ok (.aload_n 1, 1) := by decide +kernel
theorem dX1_measure_41 : decode cX1_measure 41 = .ok (.getfield 42, 3) := by decide +kernel
theorem dX1_measure_44 : decode cX1_measure 44 = .ok (.if_icmp .ge 56, 3) := by decide +kernel
theorem dX1_measure_47 : decode cX1_measure 47 = .ok (.aload_n 1, 1) := by decide +kernel
theorem dX1_measure_48 : decode cX1_measure 48 = .ok (.getfield 30, 3) := by decide +kernel
theorem dX1_measure_51 : decode cX1_measure 51 = .ok (.iload 4, 2) := by decide +kernel
theorem dX1_measure_53 : decode cX1_measure 53 = .ok (.aaload, 1) := by decide +kernel
theorem dX1_measure_54 : decode cX1_measure 54 = .ok (.astore 5, 2) := by decide +kernel
theorem dX1_measure_56 : decode cX1_measure 56 = .ok (.aload 5, 2) := by decide +kernel
theorem dX1_measure_58 : decode cX1_measure 58 = .ok (.getfield 45, 3) := by decide +kernel
theorem dX1_measure_61 : decode cX1_measure 61 = .ok (.ifCond .ne 33, 3) := by decide +kernel
theorem dX1_measure_64 : decode cX1_measure 64 = .ok (.aload_n 0, 1) := by decide +kernel
theorem dX1_measure_65 : decode cX1_measure 65 = .ok (.aload 5, 2) := by decide +kernel
theorem dX1_measure_67 : decode cX1_measure 67 = .ok (.getfield 49, 3) := by decide +kernel
theorem dX1_measure_70 : decode cX1_measure 70 = .ok (.aload 5, 2) := by decide +kernel
theorem dX1_measure_72 : decode cX1_measure 72 = .ok (.getfield 52, 3) := by decide +kernel
theorem dX1_measure_75 : decode cX1_measure 75 = .ok (.iload_n 3, 1) := by decide +kernel
theorem dX1_measure_76 : decode cX1_measure 76 = .ok (.invokevirtual 55, 3) := by decide +kernel
theorem dX1_measure_79 : decode cX1_measure 79 = .ok (.aload_n 0, 1) := by decide +kernel
theorem dX1_measure_80 : decode cX1_measure 80 = .ok (.aload 5, 2) := by decide +kernel
theorem dX1_measure_82 : decode cX1_measure 82 = .ok (.getfield 52, 3) := by decide +kernel
theorem dX1_measure_85 : decode cX1_measure 85 = .ok (.aload 5, 2) := by decide +kernel
theorem dX1_measure_87 : decode cX1_measure 87 = .ok (.getfield 49, 3) := by decide +kernel
theorem dX1_measure_90 : decode cX1_measure 90 = .ok (.iload_n 3, 1) := by decide +kernel
theorem dX1_measure_91 : decode cX1_measure 91 = .ok (.invokevirtual 55, 3) := by decide +kernel
theorem dX1_measure_94 : decode cX1_measure 94 = .ok (.iinc 4 1, 3) := by decide +kernel
theorem dX1_measure_97 : decode cX1_measure 97 = .ok (.goto (-59), 3) := by decide +kernel
theorem dX1_measure_100 : decode cX1_measure 100 = .ok (.iinc 3 1, 3) := by decide +kernel
theorem dX1_measure_103 : decode cX1_measure 103 = .ok (.goto (-73), 3) := by decide +kernel
theorem dX1_measure_106 : decode cX1_measure 106 = .ok (.return_, 1) := by decide +kernel
theorem dX1_reach_0 : decode cX1_reach 0 = .ok (.aload_n 0, 1) := by decide +kernel
theorem dX1_reach_1 : decode cX1_reach 1 = .ok (.getfield 9, 3) := by decide +kernel
theorem dX1_reach_4 : decode cX1_reach 4 = .ok (.iload_n 1, 1) := by decide +kernel
theorem dX1_reach_5 : decode cX1_reach 5 = .ok (.iaload, 1) := by decide +kernel
theorem dX1_reach_6 : decode cX1_reach 6 = .ok (.iload_n 3, 1) := by decide +kernel
theorem dX1_reach_7 : decode cX1_reach 7 = .ok (.iconst 1, 1) := by decide +kernel
theorem dX1_reach_8 : decode cX1_reach 8 = .ok (.isub, 1) := by decide +kernel
theorem dX1_reach_9 : decode cX1_reach 9 = .ok (.if_icmp .ne 20, 3) := by decide +kernel
theorem dX1_reach_12 : decode cX1_reach 12 = .ok (.aload_n 0, 1) := by decide +kernel
theorem dX1_reach_13 : decode cX1_reach 13 = .ok (.getfield 9, 3) := by decide +kernel
theorem dX1_reach_16 : decode cX1_reach 16 = .ok (.iload_n 2, 1) := by decide +kernel
theorem dX1_reach_17 : decode cX1_reach 17 = .ok (.iaload, 1) := by decide +kernel
theorem dX1_reach_18 : decode cX1_reach 18 = .ok (.iload_n 3, 1) := by decide +kernel
theorem dX1_reach_19 : decode cX1_reach 19 = .ok (.if_icmp .le 10, 3) := by decide +kernel
theorem dX1_reach_22 : decode cX1_reach 22 = .ok (.aload_n 0, 1) := by decide +kernel
theorem dX1_reach_23 : decode cX1_reach 23 = .ok (.getfield 9, 3) := by decide +kernel
theorem dX1_reach_26 : decode cX1_reach 26 = .ok (.iload_n 2, 1) := by decide +kernel
theorem dX1_reach_27 : decode cX1_reach 27 = .ok (.iload_n 3, 1) := by decide +kernel
theorem dX1_reach_28 : decode cX1_reach 28 = .ok (.iastore, 1) := by decide +kernel
theorem dX1_reach_29 : decode cX1_reach 29 = .ok (.return_, 1) := by decide +kernel
theorem dX1_firstNearer_0 : decode cX1_firstNearer 0 = .ok (.iconst 0, 1) := by decide +kernel
theorem dX1_firstNearer_1 : decode cX1_firstNearer 1 = .ok (.istore_n 3, 1) := by decide +kernel
theorem dX1_firstNearer_2 : decode cX1_firstNearer 2 = .ok (.iload_n 3, 1) := by decide +kernel
theorem dX1_firstNearer_3 : decode cX1_firstNearer 3 = .ok (.aload_n 1, 1) := by decide +kernel
theorem dX1_firstNearer_4 : decode cX1_firstNearer 4 = .ok (.getfield 42, 3) := by decide +kernel
theorem dX1_firstNearer_7 : decode cX1_firstNearer 7 = .ok (.if_icmp .ge 50, 3) := by decide +kernel
theorem dX1_firstNearer_10 : decode cX1_firstNearer 10 = .ok (.aload_n 1, 1) := by decide +kernel
theorem dX1_firstNearer_11 : decode cX1_firstNearer 11 = .ok (.getfield 30, 3) := by decide +kernel
theorem dX1_firstNearer_14 : decode cX1_firstNearer 14 = .ok (.iload_n 3, 1) := by decide +kernel
theorem dX1_firstNearer_15 : decode cX1_firstNearer 15 = .ok (.aaload, 1) := by decide +kernel
theorem dX1_firstNearer_16 : decode cX1_firstNearer 16 = .ok (.astore 4, 2) := by decide +kernel
theorem dX1_firstNearer_18 : decode cX1_firstNearer 18 = .ok (.aload 4, 2) := by decide +kernel
theorem dX1_firstNearer_20 : decode cX1_firstNearer 20 = .ok (.iload_n 2, 1) := by decide +kernel
theorem dX1_firstNearer_21 : decode cX1_firstNearer 21 = .ok (.invokevirtual 59, 3) := by decide +kernel
theorem dX1_firstNearer_24 : decode cX1_firstNearer 24 = .ok (.ifCond .eq 27, 3) := by decide +kernel
theorem dX1_firstNearer_27 : decode cX1_firstNearer 27 = .ok (.aload_n 0, 1) := by decide +kernel
theorem dX1_firstNearer_28 : decode cX1_firstNearer 28 = .ok (.getfield 9, 3) := by decide +kernel
theorem dX1_firstNearer_31 : decode cX1_firstNearer 31 = .ok (.aload 4, 2) := by decide +kernel
theorem dX1_firstNearer_33 : decode cX1_firstNearer 33 = .ok (.iload_n 2, 1) := by decide +kernel
theorem dX1_firstNearer_34 : decode cX1_firstNearer 34 = .ok (.invokevirtual 36, 3) := by decide +kernel
theorem dX1_firstNearer_37 : decode cX1_firstNearer 37 = .ok (.iaload, 1) := by decide +kernel
theorem dX1_firstNearer_38 : decode cX1_firstNearer 38 = .ok (.aload_n 0, 1) := by decide +kernel
theorem dX1_firstNearer_39 : decode cX1_firstNearer 39 = .ok (.getfield 9, 3) := by decide +kernel
theorem dX1_firstNearer_42 : decode cX1_firstNearer 42 = .ok (.iload_n 2, 1) := by decide +kernel
theorem dX1_firstNearer_43 : decode cX1_firstNearer 43 = .ok (.iaload, 1) := by decide +kernel
theorem dX1_firstNearer_44 : decode cX1_firstNearer 44 = .ok (.iconst 1, 1) := by decide +kernel
theorem dX1_firstNearer_45 : decode cX1_firstNearer 45 = .ok (.isub, 1) := by decide +kernel
theorem dX1_firstNearer_46 : decode cX1_firstNearer 46 = .ok (.if_icmp .ne 5, 3) := by decide +kernel
theorem dX1_firstNearer_49 : decode cX1_firstNearer 49 = .ok (.iload_n 3, 1) := by decide +kernel
theorem dX1_firstNearer_50 : decode cX1_firstNearer 50 = .ok (.ireturn, 1) := by decide +kernel
theorem dX1_firstNearer_51 : decode cX1_firstNearer 51 = .ok (.iinc 3 1, 3) := by decide +kernel
theorem dX1_firstNearer_54 : decode cX1_firstNearer 54 = .ok (.goto (-52), 3) := by decide +kernel
theorem dX1_firstNearer_57 : decode cX1_firstNearer 57 = .ok (.iconst 0, 1) := by decide +kernel
theorem dX1_firstNearer_58 : decode cX1_firstNearer 58 = .ok (.ireturn, 1) := by decide +kernel
theorem dX1_multiply_0 : decode cX1_multiply 0 = .ok (.aload_n 0, 1) := by decide +kernel
theorem dX1_multiply_1 : decode cX1_multiply 1 = .ok (.lconst 1, 1) := by decide +kernel
theorem dX1_multiply_2 : decode cX1_multiply 2 = .ok (.putfield 63, 3) := by decide +kernel
theorem dX1_multiply_5 : decode cX1_multiply 5 = .ok (.aload_n 0, 1) := by decide +kernel
theorem dX1_multiply_6 : decode cX1_multiply 6 = .ok (.lconst 1, 1) := by decide +kernel
theorem dX1_multiply_7 : decode cX1_multiply 7 = .ok (.putfield 67, 3) := by decide +kernel
theorem dX1_multiply_10 : decode cX1_multiply 10 = .ok (.iload_n 2, 1) := by decide +kernel
theorem dX1_multiply_11 : decode cX1_multiply 11 = .ok (.istore 4, 2) := by decide +kernel
theorem dX1_multiply_13 : decode cX1_multiply 13 = .ok (.iconst 0, 1) := by decide +kernel
theorem dX1_multiply_14 : decode cX1_multiply 14 = .ok (.istore 5, 2) := by decide +kernel
theorem dX1_multiply_16 : decode cX1_multiply 16 = .ok (.iload 5, 2) := by decide +kernel
theorem dX1_multiply_18 : decode cX1_multiply 18 = .ok (.aload_n 0, 1) := by decide +kernel
theorem dX1_multiply_19 : decode cX1_multiply 19 = .ok (.getfield 22, 3) := by decide +kernel
theorem dX1_multiply_22 : decode cX1_multiply 22 = .ok (.if_icmp .ge 169, 3) := by decide +kernel
theorem dX1_multiply_25 : decode cX1_multiply 25 = .ok (.aload_n 1, 1) := by decide +kernel
theorem dX1_multiply_26 : decode cX1_multiply 26 = .ok (.getfield 30, 3) := by decide +kernel
theorem dX1_multiply_29 : decode cX1_multiply 29 = .ok (.aload_n 0, 1) := by decide +kernel
theorem dX1_multiply_30 : decode cX1_multiply 30 = .ok (.getfield 15, 3) := by decide +kernel
theorem dX1_multiply_33 : decode cX1_multiply 33 = .ok (.iload 5, 2) := by decide +kernel
theorem dX1_multiply_35 : decode cX1_multiply 35 = .ok (.iaload, 1) := by decide +kernel
theorem dX1_multiply_36 : decode cX1_multiply 36 = .ok (.aaload, 1) := by decide +kernel
theorem dX1_multiply_37 : decode cX1_multiply 37 = .ok (.astore 6, 2) := by decide +kernel
theorem dX1_multiply_39 : decode cX1_multiply 39 = .ok (.aload 6, 2) := by decide +kernel
theorem dX1_multiply_41 : decode cX1_multiply 41 = .ok (.getfield 52, 3) := by decide +kernel
theorem dX1_multiply_44 : decode cX1_multiply 44 = .ok (.iload 4, 2) := by decide +kernel
theorem dX1_multiply_46 : decode cX1_multiply 46 = .ok (.if_icmp .ne 7, 3) := by decide +kernel
theorem dX1_multiply_49 : decode cX1_multiply 49 = .ok (.iconst 1, 1) := by decide +kernel
theorem dX1_multiply_50 : decode cX1_multiply 50 = .ok (.goto 4, 3) := by decide +kernel
theorem dX1_multiply_53 : decode cX1_multiply 53 = .ok (.iconst 0, 1) := by decide +kernel
theorem dX1_multiply_54 : decode cX1_multiply 54 = .ok (.istore 7, 2) := by decide +kernel
theorem dX1_multiply_56 : decode cX1_multiply 56 = .ok (.iload_n 3, 1) := by decide +kernel
theorem dX1_multiply_57 : decode cX1_multiply 57 = .ok (.ifCond .ne 7, 3) := by decide +kernel
theorem dX1_multiply_60 : decode cX1_multiply 60 = .ok (.iconst 0, 1) := by decide +kernel
theorem dX1_multiply_61 : decode cX1_multiply 61 = .ok (.goto 23, 3) := by decide +kernel
theorem dX1_multiply_64 : decode cX1_multiply 64 = .ok (.iload_n 3, 1) := by decide +kernel
theorem dX1_multiply_65 : decode cX1_multiply 65 = .ok (.iconst 1, 1) := by decide +kernel
theorem dX1_multiply_66 : decode cX1_multiply 66 = .ok (.if_icmp .ne 7, 3) := by decide +kernel
theorem dX1_multiply_69 : decode cX1_multiply 69 = .ok (.iconst 1, 1) := by decide +kernel
theorem dX1_multiply_70 : decode cX1_multiply 70 = .ok (.goto 4, 3) := by decide +kernel
theorem dX1_multiply_73 : decode cX1_multiply 73 = .ok (.iconst 0, 1) := by decide +kernel
theorem dX1_multiply_74 : decode cX1_multiply 74 = .ok (.iload 7, 2) := by decide +kernel
theorem dX1_multiply_76 : decode cX1_multiply 76 = .ok (.if_icmp .ne 7, 3) := by decide +kernel
theorem dX1_multiply_79 : decode cX1_multiply 79 = .ok (.iconst 1, 1) := by decide +kernel
theorem dX1_multiply_80 : decode cX1_multiply 80 = .ok (.goto 4, 3) := by decide +kernel
theorem dX1_multiply_83 : decode cX1_multiply 83 = .ok (.iconst (-1), 1) := by decide +kernel
theorem dX1_multiply_84 : decode cX1_multiply 84 = .ok (.istore 8, 2) := by decide +kernel
theorem dX1_multiply_86 : decode cX1_multiply 86 = .ok (.aload 6, 2) := by decide +kernel
theorem dX1_multiply_88 : decode cX1_multiply 88 = .ok (.getfield 70, 3) := by decide +kernel
theorem dX1_multiply_91 : decode cX1_multiply 91 = .ok (.iload 8, 2) := by decide +kernel
theorem dX1_multiply_93 : decode cX1_multiply 93 = .ok (.iadd, 1) := by decide +kernel
theorem dX1_multiply_94 : decode cX1_multiply 94 = .ok (.i2l, 1) := by decide +kernel
theorem dX1_multiply_95 : decode cX1_multiply 95 = .ok (.aload 6, 2) := by decide +kernel
theorem dX1_multiply_97 : decode cX1_multiply 97 = .ok (.getfield 70, 3) := by decide +kernel
theorem dX1_multiply_100 : decode cX1_multiply 100 = .ok (.iload 8, 2) := by decide +kernel
theorem dX1_multiply_102 : decode cX1_multiply 102 = .ok (.iadd, 1) := by decide +kernel
theorem dX1_multiply_103 : decode cX1_multiply 103 = .ok (.i2l, 1) := by decide +kernel
theorem dX1_multiply_104 : decode cX1_multiply 104 = .ok (.lmul, 1) := by decide +kernel
theorem dX1_multiply_105 : decode cX1_multiply 105 = .ok (.lstore 9, 2) := by decide +kernel
theorem dX1_multiply_107 : decode cX1_multiply 107 = .ok (.bipush 100, 2) := by decide +kernel
theorem dX1_multiply_109 : decode cX1_multiply 109 = .ok (.aload 6, 2) := by decide +kernel
theorem dX1_multiply_111 : decode cX1_multiply 111 = .ok (.getfield 70, 3) := by decide +kernel
theorem dX1_multiply_114 : decode cX1_multiply 114 = .ok (.isub, 1) := by decide +kernel
theorem dX1_multiply_115 : decode cX1_multiply 115 = .ok (.iload 8, 2) := by decide +kernel
theorem dX1_multiply_117 : decode cX1_multiply 117 = .ok (.isub, 1) := by decide +kernel
theorem dX1_multiply_118 : decode cX1_multiply 118 = .ok (.i2l, 1) := by decide +kernel
theorem dX1_multiply_119 : decode cX1_multiply 119 = .ok (.bipush 100, 2) := by decide +kernel
theorem dX1_multiply_121 : decode cX1_multiply 121 = .ok (.aload 6, 2) := by decide +kernel
theorem dX1_multiply_123 : decode cX1_multiply 123 = .ok (.getfield 70, 3) := by decide +kernel
theorem dX1_multiply_126 : decode cX1_multiply 126 = .ok (.isub, 1) := by decide +kernel
theorem dX1_multiply_127 : decode cX1_multiply 127 = .ok (.iload 8, 2) := by decide +kernel
theorem dX1_multiply_129 : decode cX1_multiply 129 = .ok (.isub, 1) := by decide +kernel
theorem dX1_multiply_130 : decode cX1_multiply 130 = .ok (.i2l, 1) := by decide +kernel
theorem dX1_multiply_131 : decode cX1_multiply 131 = .ok (.lmul, 1) := by decide +kernel
theorem dX1_multiply_132 : decode cX1_multiply 132 = .ok (.lstore 11, 2) := by decide +kernel
theorem dX1_multiply_134 : decode cX1_multiply 134 = .ok (.aload_n 0, 1) := by decide +kernel
theorem dX1_multiply_135 : decode cX1_multiply 135 = .ok (.dup, 1) := by decide +kernel
theorem dX1_multiply_136 : decode cX1_multiply 136 = .ok (.getfield 63, 3) := by decide +kernel
theorem dX1_multiply_139 : decode cX1_multiply 139 = .ok (.iload 7, 2) := by decide +kernel
theorem dX1_multiply_141 : decode cX1_multiply 141 = .ok (.ifCond .eq 8, 3) := by decide +kernel
theorem dX1_multiply_144 : decode cX1_multiply 144 = .ok (.lload 11, 2) := by decide +kernel
theorem dX1_multiply_146 : decode cX1_multiply 146 = .ok (.goto 5, 3) := by decide +kernel
theorem dX1_multiply_149 : decode cX1_multiply 149 = .ok (.lload 9, 2) := by decide +kernel
theorem dX1_multiply_151 : decode cX1_multiply 151 = .ok (.lmul, 1) := by decide +kernel
theorem dX1_multiply_152 : decode cX1_multiply 152 = .ok (.putfield 63, 3) := by decide +kernel
theorem dX1_multiply_155 : decode cX1_multiply 155 = .ok (.aload_n 0, 1) := by decide +kernel
theorem dX1_multiply_156 : decode cX1_multiply 156 = .ok (.dup, 1) := by decide +kernel
theorem dX1_multiply_157 : decode cX1_multiply 157 = .ok (.getfield 67, 3) := by decide +kernel
theorem dX1_multiply_160 : decode cX1_multiply 160 = .ok (.iload 7, 2) := by decide +kernel
theorem dX1_multiply_162 : decode cX1_multiply 162 = .ok (.ifCond .eq 8, 3) := by decide +kernel
theorem dX1_multiply_165 : decode cX1_multiply 165 = .ok (.lload 9, 2) := by decide +kernel
theorem dX1_multiply_167 : decode cX1_multiply 167 = .ok (.goto 5, 3) := by decide +kernel
theorem dX1_multiply_170 : decode cX1_multiply 170 = .ok (.lload 11, 2) := by decide +kernel
theorem dX1_multiply_172 : decode cX1_multiply 172 = .ok (.lmul, 1) := by decide +kernel
theorem dX1_multiply_173 : decode cX1_multiply 173 = .ok (.putfield 67, 3) := by decide +kernel
theorem dX1_multiply_176 : decode cX1_multiply 176 = .ok (.aload 6, 2) := by decide +kernel
theorem dX1_multiply_178 : decode cX1_multiply 178 = .ok (.iload 4, 2) := by decide +kernel
theorem dX1_multiply_180 : decode cX1_multiply 180 = .ok (.invokevirtual 36, 3) := by decide +kernel
theorem dX1_multiply_183 : decode cX1_multiply 183 = .ok (.istore 4, 2) := by decide +kernel
theorem dX1_multiply_185 : decode cX1_multiply 185 = .ok (.iinc 5 1, 3) := by decide +kernel
theorem dX1_multiply_188 : decode cX1_multiply 188 = .ok (.goto (-172), 3) := by decide +kernel
theorem dX1_multiply_191 : decode cX1_multiply 191 = .ok (.aload_n 0, 1) := by decide +kernel
theorem dX1_multiply_192 : decode cX1_multiply 192 = .ok (.getfield 63, 3) := by decide +kernel
theorem dX1_multiply_195 : decode cX1_multiply 195 = .ok (.aload_n 0, 1) := by decide +kernel
theorem dX1_multiply_196 : decode cX1_multiply 196 = .ok (.getfield 67, 3) := by decide +kernel
theorem dX1_multiply_199 : decode cX1_multiply 199 = .ok (.invokestatic 73, 3) := by decide +kernel
theorem dX1_multiply_202 : decode cX1_multiply 202 = .ok (.lstore 5, 2) := by decide +kernel
theorem dX1_multiply_204 : decode cX1_multiply 204 = .ok (.lload 5, 2) := by decide +kernel
theorem dX1_multiply_206 : decode cX1_multiply 206 = .ok (.lconst 0, 1) := by decide +kernel
theorem dX1_multiply_207 : decode cX1_multiply 207 = .ok (.lcmp, 1) := by decide +kernel
theorem dX1_multiply_208 : decode cX1_multiply 208 = .ok (.ifCond .le 25, 3) := by decide +kernel
theorem dX1_multiply_211 : decode cX1_multiply 211 = .ok (.aload_n 0, 1) := by decide +kernel
theorem dX1_multiply_212 : decode cX1_multiply 212 = .ok (.dup, 1) := by decide +kernel
theorem dX1_multiply_213 : decode cX1_multiply 213 = .ok (.getfield 63, 3) := by decide +kernel
theorem dX1_multiply_216 : decode cX1_multiply 216 = .ok (.lload 5, 2) := by decide +kernel
theorem dX1_multiply_218 : decode cX1_multiply 218 = .ok (.ldiv, 1) := by decide +kernel
theorem dX1_multiply_219 : decode cX1_multiply 219 = .ok (.putfield 63, 3) := by decide +kernel
theorem dX1_multiply_222 : decode cX1_multiply 222 = .ok (.aload_n 0, 1) := by decide +kernel
theorem dX1_multiply_223 : decode cX1_multiply 223 = .ok (.dup, 1) := by decide +kernel
theorem dX1_multiply_224 : decode cX1_multiply 224 = .ok (.getfield 67, 3) := by decide +kernel
theorem dX1_multiply_227 : decode cX1_multiply 227 = .ok (.lload 5, 2) := by decide +kernel
theorem dX1_multiply_229 : decode cX1_multiply 229 = .ok (.ldiv, 1) := by decide +kernel
theorem dX1_multiply_230 : decode cX1_multiply 230 = .ok (.putfield 67, 3) := by decide +kernel
theorem dX1_multiply_233 : decode cX1_multiply 233 = .ok (.return_, 1) := by decide +kernel
theorem dX1_greatestDivisor_0 : decode cX1_greatestDivisor 0 = .ok (.lload_n 0, 1) := by decide +kernel
theorem dX1_greatestDivisor_1 : decode cX1_greatestDivisor 1 = .ok (.lstore 4, 2) := by decide +kernel
theorem dX1_greatestDivisor_3 : decode cX1_greatestDivisor 3 = .ok (.lload_n 2, 1) := by decide +kernel
theorem dX1_greatestDivisor_4 : decode cX1_greatestDivisor 4 = .ok (.lstore 6, 2) := by decide +kernel
theorem dX1_greatestDivisor_6 : decode cX1_greatestDivisor 6 = .ok (.iconst 0, 1) := by decide +kernel
theorem dX1_greatestDivisor_7 : decode cX1_greatestDivisor 7 = .ok (.istore 8, 2) := by decide +kernel
theorem dX1_greatestDivisor_9 : decode cX1_greatestDivisor 9 = .ok (.iload 8, 2) := by decide +kernel
theorem dX1_greatestDivisor_11 : decode cX1_greatestDivisor 11 = .ok (.sipush 1000, 3) := by decide +kernel
theorem dX1_greatestDivisor_14 : decode cX1_greatestDivisor 14 = .ok (.if_icmp .ge 31, 3) := by decide +kernel
theorem dX1_greatestDivisor_17 : decode cX1_greatestDivisor 17 = .ok (.lload 6, 2) := by decide +kernel
theorem dX1_greatestDivisor_19 : decode cX1_greatestDivisor 19 = .ok (.lconst 0, 1) := by decide +kernel
theorem dX1_greatestDivisor_20 : decode cX1_greatestDivisor 20 = .ok (.lcmp, 1) := by decide +kernel
theorem dX1_greatestDivisor_21 : decode cX1_greatestDivisor 21 = .ok (.ifCond .eq 24, 3) := by decide +kernel
theorem dX1_greatestDivisor_24 : decode cX1_greatestDivisor 24 = .ok (.lload 4, 2) := by decide +kernel
theorem dX1_greatestDivisor_26 : decode cX1_greatestDivisor 26 = .ok (.lload 6, 2) := by decide +kernel
theorem dX1_greatestDivisor_28 : decode cX1_greatestDivisor 28 = .ok (.lrem, 1) := by decide +kernel
theorem dX1_greatestDivisor_29 : decode cX1_greatestDivisor 29 = .ok (.lstore 9, 2) := by decide +kernel
theorem dX1_greatestDivisor_31 : decode cX1_greatestDivisor 31 = .ok (.lload 6, 2) := by decide +kernel
theorem dX1_greatestDivisor_33 : decode cX1_greatestDivisor 33 = .ok (.lstore 4, 2) := by decide +kernel
theorem dX1_greatestDivisor_35 : decode cX1_greatestDivisor 35 = .ok (.lload 9, 2) := by decide +kernel
theorem dX1_greatestDivisor_37 : decode cX1_greatestDivisor 37 = .ok (.lstore 6, 2) := by decide +kernel
theorem dX1_greatestDivisor_39 : decode cX1_greatestDivisor 39 = .ok (.iinc 8 1, 3) := by decide +kernel
theorem dX1_greatestDivisor_42 : decode cX1_greatestDivisor 42 = .ok (.goto (-33), 3) := by decide +kernel
theorem dX1_greatestDivisor_45 : decode cX1_greatestDivisor 45 = .ok (.lload 4, 2) := by decide +kernel
theorem dX1_greatestDivisor_47 : decode cX1_greatestDivisor 47 = .ok (.lreturn, 1) := by decide +kernel
theorem dX2_init_0 : decode cX2_init 0 = .ok (.aload_n 0, 1) := by decide +kernel
theorem dX2_init_1 : decode cX2_init 1 = .ok (.invokespecial 1, 3) := by decide +kernel
theorem dX2_init_4 : decode cX2_init 4 = .ok (.aload_n 0, 1) := by decide +kernel
theorem dX2_init_5 : decode cX2_init 5 = .ok (.bipush 100, 2) := by decide +kernel
theorem dX2_init_7 : decode cX2_init 7 = .ok (.putfield 7, 3) := by decide +kernel
theorem dX2_init_10 : decode cX2_init 10 = .ok (.aload_n 0, 1) := by decide +kernel
theorem dX2_init_11 : decode cX2_init 11 = .ok (.bipush 100, 2) := by decide +kernel
theorem dX2_init_13 : decode cX2_init 13 = .ok (.putfield 13, 3) := by decide +kernel
theorem dX2_init_16 : decode cX2_init 16 = .ok (.return_, 1) := by decide +kernel
theorem dX2_weightOf_0 : decode cX2_weightOf 0 = .ok (.iload_n 1, 1) := by decide +kernel
theorem dX2_weightOf_1 : decode cX2_weightOf 1 = .ok (.ifCond .ne 10, 3) := by decide +kernel
theorem dX2_weightOf_4 : decode cX2_weightOf 4 = .ok (.aload_n 0, 1) := by decide +kernel
theorem dX2_weightOf_5 : decode cX2_weightOf 5 = .ok (.getfield 7, 3) := by decide +kernel
theorem dX2_weightOf_8 : decode cX2_weightOf 8 = .ok (.goto 19, 3) := by decide +kernel
theorem dX2_weightOf_11 : decode cX2_weightOf 11 = .ok (.iload_n 1, 1) := by decide +kernel
theorem dX2_weightOf_12 : decode cX2_weightOf 12 = .ok (.iconst 1, 1) := by decide +kernel
theorem dX2_weightOf_13 : decode cX2_weightOf 13 = .ok (.if_icmp .ne 10, 3) := by decide +kernel
theorem dX2_weightOf_16 : decode cX2_weightOf 16 = .ok (.aload_n 0, 1) := by decide +kernel
theorem dX2_weightOf_17 : decode cX2_weightOf 17 = .ok (.getfield 13, 3) := by decide +kernel
theorem dX2_weightOf_20 : decode cX2_weightOf 20 = .ok (.goto 7, 3) := by decide +kernel
theorem dX2_weightOf_23 : decode cX2_weightOf 23 = .ok (.aload_n 0, 1) := by decide +kernel
theorem dX2_weightOf_24 : decode cX2_weightOf 24 = .ok (.getfield 16, 3) := by decide +kernel
theorem dX2_weightOf_27 : decode cX2_weightOf 27 = .ok (.ireturn, 1) := by decide +kernel
theorem dX2_change_0 : decode cX2_change 0 = .ok (.iload_n 1, 1) := by decide +kernel
theorem dX2_change_1 : decode cX2_change 1 = .ok (.ifCond .ne 11, 3) := by decide +kernel
theorem dX2_change_4 : decode cX2_change 4 = .ok (.aload_n 0, 1) := by decide +kernel
theorem dX2_change_5 : decode cX2_change 5 = .ok (.iload_n 2, 1) := by decide +kernel
theorem dX2_change_6 : decode cX2_change 6 = .ok (.putfield 7, 3) := by decide +kernel
theorem dX2_change_9 : decode cX2_change 9 = .ok (.goto 21, 3) := by decide +kernel
theorem dX2_change_12 : decode cX2_change 12 = .ok (.iload_n 1, 1) := by decide +kernel
theorem dX2_change_13 : decode cX2_change 13 = .ok (.iconst 1, 1) := by decide +kernel
theorem dX2_change_14 : decode cX2_change 14 = .ok (.if_icmp .ne 11, 3) := by decide +kernel
theorem dX2_change_17 : decode cX2_change 17 = .ok (.aload_n 0, 1) := by decide +kernel
theorem dX2_change_18 : decode cX2_change 18 = .ok (.iload_n 2, 1) := by decide +kernel
theorem dX2_change_19 : decode cX2_change 19 = .ok (.putfield 13, 3) := by decide +kernel
theorem dX2_change_22 : decode cX2_change 22 = .ok (.goto 8, 3) := by decide +kernel
theorem dX2_change_25 : decode cX2_change 25 = .ok (.aload_n 0, 1) := by decide +kernel
theorem dX2_change_26 : decode cX2_change 26 = .ok (.iload_n 2, 1) := by decide +kernel
theorem dX2_change_27 : decode cX2_change 27 = .ok (.putfield 16, 3) := by decide +kernel
theorem dX2_change_30 : decode cX2_change 30 = .ok (.return_, 1) := by decide +kernel
theorem dX2_see_0 : decode cX2_see 0 = .ok (.iconst 1, 1) := by decide +kernel
theorem dX2_see_1 : decode cX2_see 1 = .ok (.aload_n 0, 1) := by decide +kernel
theorem dX2_see_2 : decode cX2_see 2 = .ok (.getfield 7, 3) := by decide +kernel
theorem dX2_see_5 : decode cX2_see 5 = .ok (.iload_n 3, 1) := by decide +kernel
theorem dX2_see_6 : decode cX2_see 6 = .ok (.aload_n 0, 1) := by decide +kernel
theorem dX2_see_7 : decode cX2_see 7 = .ok (.getfield 16, 3) := by decide +kernel
theorem dX2_see_10 : decode cX2_see 10 = .ok (.imul, 1) := by decide +kernel
theorem dX2_see_11 : decode cX2_see 11 = .ok (.isub, 1) := by decide +kernel
theorem dX2_see_12 : decode cX2_see 12 = .ok (.invokestatic 19, 3) := by decide +kernel
theorem dX2_see_15 : decode cX2_see 15 = .ok (.istore 4, 2) := by decide +kernel
theorem dX2_see_17 : decode cX2_see 17 = .ok (.aload_n 1, 1) := by decide +kernel
theorem dX2_see_18 : decode cX2_see 18 = .ok (.aload_n 1, 1) := by decide +kernel
theorem dX2_see_19 : decode cX2_see 19 = .ok (.iload_n 2, 1) := by decide +kernel
theorem dX2_see_20 : decode cX2_see 20 = .ok (.invokevirtual 25, 3) := by decide +kernel
theorem dX2_see_23 : decode cX2_see 23 = .ok (.iload 4, 2) := by decide +kernel
theorem dX2_see_25 : decode cX2_see 25 = .ok (.aload_n 0, 1) := by decide +kernel
theorem dX2_see_26 : decode cX2_see 26 = .ok (.getfield 13, 3) := by decide +kernel
theorem dX2_see_29 : decode cX2_see 29 = .ok (.iload_n 3, 1) := by decide +kernel
theorem dX2_see_30 : decode cX2_see 30 = .ok (.aload_n 0, 1) := by decide +kernel
theorem dX2_see_31 : decode cX2_see 31 = .ok (.getfield 16, 3) := by decide +kernel
theorem dX2_see_34 : decode cX2_see 34 = .ok (.imul, 1) := by decide +kernel
theorem dX2_see_35 : decode cX2_see 35 = .ok (.iadd, 1) := by decide +kernel
theorem dX2_see_36 : decode cX2_see 36 = .ok (.invokestatic 31, 3) := by decide +kernel
theorem dX2_see_39 : decode cX2_see 39 = .ok (.lreturn, 1) := by decide +kernel
theorem dX2_weigh_0 : decode cX2_weigh 0 = .ok (.iload_n 1, 1) := by decide +kernel
theorem dX2_weigh_1 : decode cX2_weigh 1 = .ok (.i2l, 1) := by decide +kernel
theorem dX2_weigh_2 : decode cX2_weigh 2 = .ok (.aload_n 0, 1) := by decide +kernel
theorem dX2_weigh_3 : decode cX2_weigh 3 = .ok (.getfield 35, 3) := by decide +kernel
theorem dX2_weigh_6 : decode cX2_weigh 6 = .ok (.iload_n 2, 1) := by decide +kernel
theorem dX2_weigh_7 : decode cX2_weigh 7 = .ok (.imul, 1) := by decide +kernel
theorem dX2_weigh_8 : decode cX2_weigh 8 = .ok (.bipush 100, 2) := by decide +kernel
theorem dX2_weigh_10 : decode cX2_weigh 10 = .ok (.aload_n 0, 1) := by decide +kernel
theorem dX2_weigh_11 : decode cX2_weigh 11 = .ok (.getfield 35, 3) := by decide +kernel
theorem dX2_weigh_14 : decode cX2_weigh 14 = .ok (.isub, 1) := by decide +kernel
theorem dX2_weigh_15 : decode cX2_weigh 15 = .ok (.iload_n 3, 1) := by decide +kernel
theorem dX2_weigh_16 : decode cX2_weigh 16 = .ok (.imul, 1) := by decide +kernel
theorem dX2_weigh_17 : decode cX2_weigh 17 = .ok (.iadd, 1) := by decide +kernel
theorem dX2_weigh_18 : decode cX2_weigh 18 = .ok (.i2l, 1) := by decide +kernel
theorem dX2_weigh_19 : decode cX2_weigh 19 = .ok (.lmul, 1) := by decide +kernel
theorem dX2_weigh_20 : decode cX2_weigh 20 = .ok (.lreturn, 1) := by decide +kernel
theorem dX2_takeFrom_0 : decode cX2_takeFrom 0 = .ok (.aload_n 0, 1) := by decide +kernel
theorem dX2_takeFrom_1 : decode cX2_takeFrom 1 = .ok (.aload_n 1, 1) := by decide +kernel
theorem dX2_takeFrom_2 : decode cX2_takeFrom 2 = .ok (.getfield 7, 3) := by decide +kernel
theorem dX2_takeFrom_5 : decode cX2_takeFrom 5 = .ok (.putfield 7, 3) := by decide +kernel
theorem dX2_takeFrom_8 : decode cX2_takeFrom 8 = .ok (.aload_n 0, 1) := by decide +kernel
theorem dX2_takeFrom_9 : decode cX2_takeFrom 9 = .ok (.aload_n 1, 1) := by decide +kernel
theorem dX2_takeFrom_10 : decode cX2_takeFrom 10 = .ok (.getfield 13, 3) := by decide +kernel
theorem dX2_takeFrom_13 : decode cX2_takeFrom 13 = .ok (.putfield 13, 3) := by decide +kernel
theorem dX2_takeFrom_16 : decode cX2_takeFrom 16 = .ok (.aload_n 0, 1) := by decide +kernel
theorem dX2_takeFrom_17 : decode cX2_takeFrom 17 = .ok (.aload_n 1, 1) := by decide +kernel
theorem dX2_takeFrom_18 : decode cX2_takeFrom 18 = .ok (.getfield 16, 3) := by decide +kernel
theorem dX2_takeFrom_21 : decode cX2_takeFrom 21 = .ok (.putfield 16, 3) := by decide +kernel
theorem dX2_takeFrom_24 : decode cX2_takeFrom 24 = .ok (.return_, 1) := by decide +kernel
theorem dX3_init_0 : decode cX3_init 0 = .ok (.aload_n 0, 1) := by decide +kernel
theorem dX3_init_1 : decode cX3_init 1 = .ok (.invokespecial 3, 3) := by decide +kernel
theorem dX3_init_4 : decode cX3_init 4 = .ok (.aload_n 0, 1) := by decide +kernel
theorem dX3_init_5 : decode cX3_init 5 = .ok (.bipush 12, 2) := by decide +kernel
theorem dX3_init_7 : decode cX3_init 7 = .ok (.newarray .int, 2) := by decide +kernel
theorem dX3_init_9 : decode cX3_init 9 = .ok (.putfield 9, 3) := by decide +kernel
theorem dX3_init_12 : decode cX3_init 12 = .ok (.aload_n 0, 1) := by decide +kernel
theorem dX3_init_13 : decode cX3_init 13 = .ok (.bipush 12, 2) := by decide +kernel
theorem dX3_init_15 : decode cX3_init 15 = .ok (.newarray .int, 2) := by decide +kernel
theorem dX3_init_17 : decode cX3_init 17 = .ok (.putfield 15, 3) := by decide +kernel
theorem dX3_init_20 : decode cX3_init 20 = .ok (.return_, 1) := by decide +kernel
theorem dX3_gather_0 : decode cX3_gather 0 = .ok (.aload_n 0, 1) := by decide +kernel
theorem dX3_gather_1 : decode cX3_gather 1 = .ok (.aload_n 1, 1) := by decide +kernel
theorem dX3_gather_2 : decode cX3_gather 2 = .ok (.getfield 18, 3) := by decide +kernel
theorem dX3_gather_5 : decode cX3_gather 5 = .ok (.putfield 24, 3) := by decide +kernel
theorem dX3_gather_8 : decode cX3_gather 8 = .ok (.iconst 0, 1) := by decide +kernel
theorem dX3_gather_9 : decode cX3_gather 9 = .ok (.istore_n 2, 1) := by decide +kernel
theorem dX3_gather_10 : decode cX3_gather 10 = .ok (.iload_n 2, 1) := by decide +kernel
theorem dX3_gather_11 : decode cX3_gather 11 = .ok (.bipush 12, 2) := by decide +kernel
theorem dX3_gather_13 : decode cX3_gather 13 = .ok (.if_icmp .ge 23, 3) := by decide +kernel
theorem dX3_gather_16 : decode cX3_gather 16 = .ok (.aload_n 0, 1) := by decide +kernel
theorem dX3_gather_17 : decode cX3_gather 17 = .ok (.getfield 9, 3) := by decide +kernel
theorem dX3_gather_20 : decode cX3_gather 20 = .ok (.iload_n 2, 1) := by decide +kernel
theorem dX3_gather_21 : decode cX3_gather 21 = .ok (.iload_n 2, 1) := by decide +kernel
theorem dX3_gather_22 : decode cX3_gather 22 = .ok (.iastore, 1) := by decide +kernel
theorem dX3_gather_23 : decode cX3_gather 23 = .ok (.aload_n 0, 1) := by decide +kernel
theorem dX3_gather_24 : decode cX3_gather 24 = .ok (.getfield 15, 3) := by decide +kernel
theorem dX3_gather_27 : decode cX3_gather 27 = .ok (.iload_n 2, 1) := by decide +kernel
theorem dX3_gather_28 : decode cX3_gather 28 = .ok (.iconst 1, 1) := by decide +kernel
theorem dX3_gather_29 : decode cX3_gather 29 = .ok (.iastore, 1) := by decide +kernel
theorem dX3_gather_30 : decode cX3_gather 30 = .ok (.iinc 2 1, 3) := by decide +kernel
theorem dX3_gather_33 : decode cX3_gather 33 = .ok (.goto (-23), 3) := by decide +kernel
theorem dX3_gather_36 : decode cX3_gather 36 = .ok (.iconst 0, 1) := by decide +kernel
theorem dX3_gather_37 : decode cX3_gather 37 = .ok (.istore_n 2, 1) := by decide +kernel
theorem dX3_gather_38 : decode cX3_gather 38 = .ok (.iload_n 2, 1) := by decide +kernel
theorem dX3_gather_39 : decode cX3_gather 39 = .ok (.aload_n 1, 1) := by decide +kernel
theorem dX3_gather_40 : decode cX3_gather 40 = .ok (.getfield 27, 3) := by decide +kernel
theorem dX3_gather_43 : decode cX3_gather 43 = .ok (.if_icmp .ge 45, 3) := by decide +kernel
theorem dX3_gather_46 : decode cX3_gather 46 = .ok (.aload_n 1, 1) := by decide +kernel
theorem dX3_gather_47 : decode cX3_gather 47 = .ok (.getfield 30, 3) := by decide +kernel
theorem dX3_gather_50 : decode cX3_gather 50 = .ok (.iload_n 2, 1) := by decide +kernel
theorem dX3_gather_51 : decode cX3_gather 51 = .ok (.aaload, 1) := by decide +kernel
theorem dX3_gather_52 : decode cX3_gather 52 = .ok (.astore_n 3, 1) := by decide +kernel
theorem dX3_gather_53 : decode cX3_gather 53 = .ok (.aload_n 3, 1) := by decide +kernel
theorem dX3_gather_54 : decode cX3_gather 54 = .ok (.getfield 34, 3) := by decide +kernel
theorem dX3_gather_57 : decode cX3_gather 57 = .ok (.ifCond .ne 25, 3) := by decide +kernel
theorem dX3_gather_60 : decode cX3_gather 60 = .ok (.aload_n 0, 1) := by decide +kernel
theorem dX3_gather_61 : decode cX3_gather 61 = .ok (.aload_n 0, 1) := by decide +kernel
theorem dX3_gather_62 : decode cX3_gather 62 = .ok (.getfield 9, 3) := by decide +kernel
theorem dX3_gather_65 : decode cX3_gather 65 = .ok (.aload_n 3, 1) := by decide +kernel
theorem dX3_gather_66 : decode cX3_gather 66 = .ok (.getfield 40, 3) := by decide +kernel
theorem dX3_gather_69 : decode cX3_gather 69 = .ok (.iaload, 1) := by decide +kernel
theorem dX3_gather_70 : decode cX3_gather 70 = .ok (.aload_n 0, 1) := by decide +kernel
theorem dX3_gather_71 : decode cX3_gather 71 = .ok (.getfield 9, 3) := by decide +kernel
theorem dX3_gather_74 : decode cX3_gather 74 = .ok (.aload_n 3, 1) := by decide +kernel
theorem dX3_gather_75 : decode cX3_gather 75 = .ok (.getfield 43, 3) := by decide +kernel
theorem dX3_gather_78 : decode cX3_gather 78 = .ok (.iaload, 1) := by decide +kernel
theorem dX3_gather_79 : decode cX3_gather 79 = .ok (.invokevirtual 46, 3) := by decide +kernel
theorem dX3_gather_82 : decode cX3_gather 82 = .ok (.iinc 2 1, 3) := by decide +kernel
theorem dX3_gather_85 : decode cX3_gather 85 = .ok (.goto (-47), 3) := by decide +kernel
theorem dX3_gather_88 : decode cX3_gather 88 = .ok (.return_, 1) := by decide +kernel
theorem dX3_unite_0 : decode cX3_unite 0 = .ok (.iload_n 1, 1) := by decide +kernel
theorem dX3_unite_1 : decode cX3_unite 1 = .ok (.iload_n 2, 1) := by decide +kernel
theorem dX3_unite_2 : decode cX3_unite 2 = .ok (.if_icmp .ne 4, 3) := by decide +kernel
theorem dX3_unite_5 : decode cX3_unite 5 = .ok (.return_, 1) := by decide +kernel
theorem dX3_unite_6 : decode cX3_unite 6 = .ok (.aload_n 0, 1) := by decide +kernel
theorem dX3_unite_7 : decode cX3_unite 7 = .ok (.getfield 15, 3) := by decide +kernel
theorem dX3_unite_10 : decode cX3_unite 10 = .ok (.iload_n 1, 1) := by decide +kernel
theorem dX3_unite_11 : decode cX3_unite 11 = .ok (.dup2, 1) := by decide +kernel
theorem dX3_unite_12 : decode cX3_unite 12 = .ok (.iaload, 1) := by decide +kernel
theorem dX3_unite_13 : decode cX3_unite 13 = .ok (.aload_n 0, 1) := by decide +kernel
theorem dX3_unite_14 : decode cX3_unite 14 = .ok (.getfield 15, 3) := by decide +kernel
theorem dX3_unite_17 : decode cX3_unite 17 = .ok (.iload_n 2, 1) := by decide +kernel
theorem dX3_unite_18 : decode cX3_unite 18 = .ok (.iaload, 1) := by decide +kernel
theorem dX3_unite_19 : decode cX3_unite 19 = .ok (.iadd, 1) := by decide +kernel
theorem dX3_unite_20 : decode cX3_unite 20 = .ok (.iastore, 1) := by decide +kernel
theorem dX3_unite_21 : decode cX3_unite 21 = .ok (.iconst 0, 1) := by decide +kernel
theorem dX3_unite_22 : decode cX3_unite 22 = .ok (.istore_n 3, 1) := by decide +kernel
theorem dX3_unite_23 : decode cX3_unite 23 = .ok (.iload_n 3, 1) := by decide +kernel
theorem dX3_unite_24 : decode cX3_unite 24 = .ok (.bipush 12, 2) := by decide +kernel
theorem dX3_unite_26 : decode cX3_unite 26 = .ok (.if_icmp .ge 26, 3) := by decide +kernel
theorem dX3_unite_29 : decode cX3_unite 29 = .ok (.aload_n 0, 1) := by decide +kernel
theorem dX3_unite_30 : decode cX3_unite 30 = .ok (.getfield 9, 3) := by decide +kernel
theorem dX3_unite_33 : decode cX3_unite 33 = .ok (.iload_n 3, 1) := by decide +kernel
theorem dX3_unite_34 : decode cX3_unite 34 = .ok (.iaload, 1) := by decide +kernel
theorem dX3_unite_35 : decode cX3_unite 35 = .ok (.iload_n 2, 1) := by decide +kernel
theorem dX3_unite_36 : decode cX3_unite 36 = .ok (.if_icmp .ne 10, 3) := by decide +kernel
theorem dX3_unite_39 : decode cX3_unite 39 = .ok (.aload_n 0, 1) := by decide +kernel
theorem dX3_unite_40 : decode cX3_unite 40 = .ok (.getfield 9, 3) := by decide +kernel
theorem dX3_unite_43 : decode cX3_unite 43 = .ok (.iload_n 3, 1) := by decide +kernel
theorem dX3_unite_44 : decode cX3_unite 44 = .ok (.iload_n 1, 1) := by decide +kernel
theorem dX3_unite_45 : decode cX3_unite 45 = .ok (.iastore, 1) := by decide +kernel
theorem dX3_unite_46 : decode cX3_unite 46 = .ok (.iinc 3 1, 3) := by decide +kernel
theorem dX3_unite_49 : decode cX3_unite 49 = .ok (.goto (-26), 3) := by decide +kernel
theorem dX3_unite_52 : decode cX3_unite 52 = .ok (.return_, 1) := by decide +kernel
theorem dX3_areJoined_0 : decode cX3_areJoined 0 = .ok (.aload_n 0, 1) := by decide +kernel
theorem dX3_areJoined_1 : decode cX3_areJoined 1 = .ok (.getfield 9, 3) := by decide +kernel
theorem dX3_areJoined_4 : decode cX3_areJoined 4 = .ok (.iload_n 1, 1) := by decide +kernel
theorem dX3_areJoined_5 : decode cX3_areJoined 5 = .ok (.iaload, 1) := by decide +kernel
theorem dX3_areJoined_6 : decode cX3_areJoined 6 = .ok (.aload_n 0, 1) := by decide +kernel
theorem dX3_areJoined_7 : decode cX3_areJoined 7 = .ok (.getfield 9, 3) := by decide +kernel
theorem dX3_areJoined_10 : decode cX3_areJoined 10 = .ok (.iload_n 2, 1) := by decide +kernel
theorem dX3_areJoined_11 : decode cX3_areJoined 11 = .ok (.iaload, 1) := by decide +kernel
theorem dX3_areJoined_12 : decode cX3_areJoined 12 = .ok (.if_icmp .ne 7, 3) := by decide +kernel
theorem dX3_areJoined_15 : decode cX3_areJoined 15 = .ok (.iconst 1, 1) := by decide +kernel
theorem dX3_areJoined_16 : decode cX3_areJoined 16 = .ok (.goto 4, 3) := by decide +kernel
theorem dX3_areJoined_19 : decode cX3_areJoined 19 = .ok (.iconst 0, 1) := by decide +kernel
theorem dX3_areJoined_20 : decode cX3_areJoined 20 = .ok (.ireturn, 1) := by decide +kernel
theorem dX3_sizeWith_0 : decode cX3_sizeWith 0 = .ok (.aload_n 0, 1) := by decide +kernel
theorem dX3_sizeWith_1 : decode cX3_sizeWith 1 = .ok (.getfield 15, 3) := by decide +kernel
theorem dX3_sizeWith_4 : decode cX3_sizeWith 4 = .ok (.aload_n 0, 1) := by decide +kernel
theorem dX3_sizeWith_5 : decode cX3_sizeWith 5 = .ok (.getfield 9, 3) := by decide +kernel
theorem dX3_sizeWith_8 : decode cX3_sizeWith 8 = .ok (.iload_n 1, 1) := by decide +kernel
theorem dX3_sizeWith_9 : decode cX3_sizeWith 9 = .ok (.iaload, 1) := by decide +kernel
theorem dX3_sizeWith_10 : decode cX3_sizeWith 10 = .ok (.iaload, 1) := by decide +kernel
theorem dX3_sizeWith_11 : decode cX3_sizeWith 11 = .ok (.ireturn, 1) := by decide +kernel
theorem dX3_countPairs_0 : decode cX3_countPairs 0 = .ok (.iconst 0, 1) := by decide +kernel
theorem dX3_countPairs_1 : decode cX3_countPairs 1 = .ok (.istore_n 1, 1) := by decide +kernel
theorem dX3_countPairs_2 : decode cX3_countPairs 2 = .ok (.iconst 0, 1) := by decide +kernel
theorem dX3_countPairs_3 : decode cX3_countPairs 3 = .ok (.istore_n 2, 1) := by decide +kernel
theorem dX3_countPairs_4 : decode cX3_countPairs 4 = .ok (.iload_n 2, 1) := by decide +kernel
theorem dX3_countPairs_5 : decode cX3_countPairs 5 = .ok (.aload_n 0, 1) := by decide +kernel
theorem dX3_countPairs_6 : decode cX3_countPairs 6 = .ok (.getfield 24, 3) := by decide +kernel
theorem dX3_countPairs_9 : decode cX3_countPairs 9 = .ok (.if_icmp .ge 44, 3) := by decide +kernel
theorem dX3_countPairs_12 : decode cX3_countPairs 12 = .ok (.iload_n 2, 1) := by decide +kernel
theorem dX3_countPairs_13 : decode cX3_countPairs 13 = .ok (.iconst 1, 1) := by decide +kernel
theorem dX3_countPairs_14 : decode cX3_countPairs 14 = .ok (.iadd, 1) := by decide +kernel
theorem dX3_countPairs_15 : decode cX3_countPairs 15 = .ok (.istore_n 3, 1) := by decide +kernel
theorem dX3_countPairs_16 : decode cX3_countPairs 16 = .ok (.iload_n 3, 1) := by decide +kernel
theorem dX3_countPairs_17 : decode cX3_countPairs 17 = .ok (.aload_n 0, 1) := by decide +kernel
theorem dX3_countPairs_18 : decode cX3_countPairs 18 = .ok (.getfield 24, 3) := by decide +kernel
theorem dX3_countPairs_21 : decode cX3_countPairs 21 = .ok (.if_icmp .ge 26, 3) := by decide +kernel
theorem dX3_countPairs_24 : decode cX3_countPairs 24 = .ok (.iload_n 1, 1) := by decide +kernel
theorem dX3_countPairs_25 : decode cX3_countPairs 25 = .ok (.aload_n 0, 1) := by decide +kernel
theorem dX3_countPairs_26 : decode cX3_countPairs 26 = .ok (.iload_n 2, 1) := by decide +kernel
theorem dX3_countPairs_27 : decode cX3_countPairs 27 = .ok (.iload_n 3, 1) := by decide +kernel
theorem dX3_countPairs_28 : decode cX3_countPairs 28 = .ok (.invokevirtual 50, 3) := by decide +kernel
theorem dX3_countPairs_31 : decode cX3_countPairs 31 = .ok (.ifCond .eq 7, 3) := by decide +kernel
theorem dX3_countPairs_34 : decode cX3_countPairs 34 = .ok (.iconst 1, 1) := by decide +kernel
theorem dX3_countPairs_35 : decode cX3_countPairs 35 = .ok (.goto 4, 3) := by decide +kernel
theorem dX3_countPairs_38 : decode cX3_countPairs 38 = .ok (.iconst 0, 1) := by decide +kernel
theorem dX3_countPairs_39 : decode cX3_countPairs 39 = .ok (.iadd, 1) := by decide +kernel
theorem dX3_countPairs_40 : decode cX3_countPairs 40 = .ok (.istore_n 1, 1) := by decide +kernel
theorem dX3_countPairs_41 : decode cX3_countPairs 41 = .ok (.iinc 3 1, 3) := by decide +kernel
theorem dX3_countPairs_44 : decode cX3_countPairs 44 = .ok (.goto (-28), 3) := by decide +kernel
theorem dX3_countPairs_47 : decode cX3_countPairs 47 = .ok (.iinc 2 1, 3) := by decide +kernel
theorem dX3_countPairs_50 : decode cX3_countPairs 50 = .ok (.goto (-46), 3) := by decide +kernel
theorem dX3_countPairs_53 : decode cX3_countPairs 53 = .ok (.iload_n 1, 1) := by decide +kernel
theorem dX3_countPairs_54 : decode cX3_countPairs 54 = .ok (.ireturn, 1) := by decide +kernel
theorem dX4_init_0 : decode cX4_init 0 = .ok (.aload_n 0, 1) := by decide +kernel
theorem dX4_init_1 : decode cX4_init 1 = .ok (.invokespecial 3, 3) := by decide +kernel
theorem dX4_init_4 : decode cX4_init 4 = .ok (.aload_n 0, 1) := by decide +kernel
theorem dX4_init_5 : decode cX4_init 5 = .ok (.sipush 400, 3) := by decide +kernel
theorem dX4_init_8 : decode cX4_init 8 = .ok (.newarray .boolean, 2) := by decide +kernel
theorem dX4_init_10 : decode cX4_init 10 = .ok (.putfield 11, 3) := by decide +kernel
theorem dX4_init_13 : decode cX4_init 13 = .ok (.return_, 1) := by decide +kernel
theorem dX4_read_0 : decode cX4_read 0 = .ok (.iconst 0, 1) := by decide +kernel
theorem dX4_read_1 : decode cX4_read 1 = .ok (.istore 4, 2) := by decide +kernel
theorem dX4_read_3 : decode cX4_read 3 = .ok (.iload 4, 2) := by decide +kernel
theorem dX4_read_5 : decode cX4_read 5 = .ok (.sipush 400, 3) := by decide +kernel
theorem dX4_read_8 : decode cX4_read 8 = .ok (.if_icmp .ge 17, 3) := by decide +kernel
theorem dX4_read_11 : decode cX4_read 11 = .ok (.aload_n 0, 1) := by decide +kernel
theorem dX4_read_12 : decode cX4_read 12 = .ok (.getfield 11, 3) := by decide +kernel
theorem dX4_read_15 : decode cX4_read 15 = .ok (.iload 4, 2) := by decide +kernel
theorem dX4_read_17 : decode cX4_read 17 = .ok (.iconst 1, 1) := by decide +kernel
theorem dX4_read_18 : decode cX4_read 18 = .ok (.bastore, 1) := by decide +kernel
theorem dX4_read_19 : decode cX4_read 19 = .ok (.iinc 4 1, 3) := by decide +kernel
theorem dX4_read_22 : decode cX4_read 22 = .ok (.goto (-19), 3) := by decide +kernel
theorem dX4_read_25 : decode cX4_read 25 = .ok (.iconst 0, 1) := by decide +kernel
theorem dX4_read_26 : decode cX4_read 26 = .ok (.istore 4, 2) := by decide +kernel
theorem dX4_read_28 : decode cX4_read 28 = .ok (.iload 4, 2) := by decide +kernel
theorem dX4_read_30 : decode cX4_read 30 = .ok (.aload_n 1, 1) := by decide +kernel
theorem dX4_read_31 : decode cX4_read 31 = .ok (.getfield 15, 3) := by decide +kernel
theorem dX4_read_34 : decode cX4_read 34 = .ok (.if_icmp .ge 49, 3) := by decide +kernel
theorem dX4_read_37 : decode cX4_read 37 = .ok (.aload_n 1, 1) := by decide +kernel
theorem dX4_read_38 : decode cX4_read 38 = .ok (.getfield 21, 3) := by decide +kernel
theorem dX4_read_41 : decode cX4_read 41 = .ok (.iload 4, 2) := by decide +kernel
theorem dX4_read_43 : decode cX4_read 43 = .ok (.aaload, 1) := by decide +kernel
theorem dX4_read_44 : decode cX4_read 44 = .ok (.getfield 25, 3) := by decide +kernel
theorem dX4_read_47 : decode cX4_read 47 = .ok (.ifCond .ne 30, 3) := by decide +kernel
theorem dX4_read_50 : decode cX4_read 50 = .ok (.aload_n 1, 1) := by decide +kernel
theorem dX4_read_51 : decode cX4_read 51 = .ok (.getfield 21, 3) := by decide +kernel
theorem dX4_read_54 : decode cX4_read 54 = .ok (.iload 4, 2) := by decide +kernel
theorem dX4_read_56 : decode cX4_read 56 = .ok (.aaload, 1) := by decide +kernel
theorem dX4_read_57 : decode cX4_read 57 = .ok (.getfield 31, 3) := by decide +kernel
theorem dX4_read_60 : decode cX4_read 60 = .ok (.iload_n 2, 1) := by decide +kernel
theorem dX4_read_61 : decode cX4_read 61 = .ok (.if_icmp .ne 16, 3) := by decide +kernel
theorem dX4_read_64 : decode cX4_read 64 = .ok (.aload_n 0, 1) := by decide +kernel
theorem dX4_read_65 : decode cX4_read 65 = .ok (.aload_n 1, 1) := by decide +kernel
theorem dX4_read_66 : decode cX4_read 66 = .ok (.aload_n 1, 1) := by decide +kernel
theorem dX4_read_67 : decode cX4_read 67 = .ok (.getfield 21, 3) := by decide +kernel
theorem dX4_read_70 : decode cX4_read 70 = .ok (.iload 4, 2) := by decide +kernel
theorem dX4_read_72 : decode cX4_read 72 = .ok (.aaload, 1) := by decide +kernel
theorem dX4_read_73 : decode cX4_read 73 = .ok (.iload_n 3, 1) := by decide +kernel
theorem dX4_read_74 : decode cX4_read 74 = .ok (.invokevirtual 34, 3) := by decide +kernel
theorem dX4_read_77 : decode cX4_read 77 = .ok (.iinc 4 1, 3) := by decide +kernel
theorem dX4_read_80 : decode cX4_read 80 = .ok (.goto (-52), 3) := by decide +kernel
theorem dX4_read_83 : decode cX4_read 83 = .ok (.aload_n 0, 1) := by decide +kernel
theorem dX4_read_84 : decode cX4_read 84 = .ok (.invokevirtual 38, 3) := by decide +kernel
theorem dX4_read_87 : decode cX4_read 87 = .ok (.return_, 1) := by decide +kernel
theorem dX4_yellowOf_0 : decode cX4_yellowOf 0 = .ok (.iload_n 0, 1) := by decide +kernel
theorem dX4_yellowOf_1 : decode cX4_yellowOf 1 = .ok (.bipush 20, 2) := by decide +kernel
theorem dX4_yellowOf_3 : decode cX4_yellowOf 3 = .ok (.idiv, 1) := by decide +kernel
theorem dX4_yellowOf_4 : decode cX4_yellowOf 4 = .ok (.iconst 1, 1) := by decide +kernel
theorem dX4_yellowOf_5 : decode cX4_yellowOf 5 = .ok (.iadd, 1) := by decide +kernel
theorem dX4_yellowOf_6 : decode cX4_yellowOf 6 = .ok (.bipush 10, 2) := by decide +kernel
theorem dX4_yellowOf_8 : decode cX4_yellowOf 8 = .ok (.imul, 1) := by decide +kernel
theorem dX4_yellowOf_9 : decode cX4_yellowOf 9 = .ok (.ireturn, 1) := by decide +kernel
theorem dX4_blueOf_0 : decode cX4_blueOf 0 = .ok (.iload_n 0, 1) := by decide +kernel
theorem dX4_blueOf_1 : decode cX4_blueOf 1 = .ok (.bipush 20, 2) := by decide +kernel
theorem dX4_blueOf_3 : decode cX4_blueOf 3 = .ok (.irem, 1) := by decide +kernel
theorem dX4_blueOf_4 : decode cX4_blueOf 4 = .ok (.iconst 1, 1) := by decide +kernel
theorem dX4_blueOf_5 : decode cX4_blueOf 5 = .ok (.iadd, 1) := by decide +kernel
theorem dX4_blueOf_6 : decode cX4_blueOf 6 = .ok (.bipush 10, 2) := by decide +kernel
theorem dX4_blueOf_8 : decode cX4_blueOf 8 = .ok (.imul, 1) := by decide +kernel
theorem dX4_blueOf_9 : decode cX4_blueOf 9 = .ok (.ireturn, 1) := by decide +kernel
theorem dX4_strike_0 : decode cX4_strike 0 = .ok (.aload_n 1, 1) := by decide +kernel
theorem dX4_strike_1 : decode cX4_strike 1 = .ok (.getfield 41, 3) := by decide +kernel
theorem dX4_strike_4 : decode cX4_strike 4 = .ok (.aload_n 2, 1) := by decide +kernel
theorem dX4_strike_5 : decode cX4_strike 5 = .ok (.getfield 45, 3) := by decide +kernel
theorem dX4_strike_8 : decode cX4_strike 8 = .ok (.aaload, 1) := by decide +kernel
theorem dX4_strike_9 : decode cX4_strike 9 = .ok (.astore 4, 2) := by decide +kernel
theorem dX4_strike_11 : decode cX4_strike 11 = .ok (.aload_n 1, 1) := by decide +kernel
theorem dX4_strike_12 : decode cX4_strike 12 = .ok (.getfield 41, 3) := by decide +kernel
theorem dX4_strike_15 : decode cX4_strike 15 = .ok (.aload_n 2, 1) := by decide +kernel
theorem dX4_strike_16 : decode cX4_strike 16 = .ok (.getfield 48, 3) := by decide +kernel
theorem dX4_strike_19 : decode cX4_strike 19 = .ok (.aaload, 1) := by decide +kernel
theorem dX4_strike_20 : decode cX4_strike 20 = .ok (.astore 5, 2) := by decide +kernel
theorem dX4_strike_22 : decode cX4_strike 22 = .ok (.aload 4, 2) := by decide +kernel
theorem dX4_strike_24 : decode cX4_strike 24 = .ok (.aload_n 1, 1) := by decide +kernel
theorem dX4_strike_25 : decode cX4_strike 25 = .ok (.getfield 51, 3) := by decide +kernel
theorem dX4_strike_28 : decode cX4_strike 28 = .ok (.invokevirtual 54, 3) := by decide +kernel
theorem dX4_strike_31 : decode cX4_strike 31 = .ok (.istore 6, 2) := by decide +kernel
theorem dX4_strike_33 : decode cX4_strike 33 = .ok (.aload 5, 2) := by decide +kernel
theorem dX4_strike_35 : decode cX4_strike 35 = .ok (.aload_n 1, 1) := by decide +kernel
theorem dX4_strike_36 : decode cX4_strike 36 = .ok (.getfield 51, 3) := by decide +kernel
theorem dX4_strike_39 : decode cX4_strike 39 = .ok (.invokevirtual 54, 3) := by decide +kernel
theorem dX4_strike_42 : decode cX4_strike 42 = .ok (.istore 7, 2) := by decide +kernel
theorem dX4_strike_44 : decode cX4_strike 44 = .ok (.iconst 0, 1) := by decide +kernel
theorem dX4_strike_45 : decode cX4_strike 45 = .ok (.istore 8, 2) := by decide +kernel
theorem dX4_strike_47 : decode cX4_strike 47 = .ok (.iload 8, 2) := by decide +kernel
theorem dX4_strike_49 : decode cX4_strike 49 = .ok (.sipush 400, 3) := by decide +kernel
theorem dX4_strike_52 : decode cX4_strike 52 = .ok (.if_icmp .ge 103, 3) := by decide +kernel
theorem dX4_strike_55 : decode cX4_strike 55 = .ok (.aload_n 0, 1) := by decide +kernel
theorem dX4_strike_56 : decode cX4_strike 56 = .ok (.getfield 11, 3) := by decide +kernel
theorem dX4_strike_59 : decode cX4_strike 59 = .ok (.iload 8, 2) := by decide +kernel
theorem dX4_strike_61 : decode cX4_strike 61 = .ok (.baload, 1) := by decide +kernel
theorem dX4_strike_62 : decode cX4_strike 62 = .ok (.ifCond .eq 87, 3) := by decide +kernel
theorem dX4_strike_65 : decode cX4_strike 65 = .ok (.aload 4, 2) := by decide +kernel
theorem dX4_strike_67 : decode cX4_strike 67 = .ok (.iload 6, 2) := by decide +kernel
theorem dX4_strike_69 : decode cX4_strike 69 = .ok (.iload 8, 2) := by decide +kernel
theorem dX4_strike_71 : decode cX4_strike 71 = .ok (.invokestatic 60, 3) := by decide +kernel
theorem dX4_strike_74 : decode cX4_strike 74 = .ok (.iload 8, 2) := by decide +kernel
theorem dX4_strike_76 : decode cX4_strike 76 = .ok (.invokestatic 63, 3) := by decide +kernel
theorem dX4_strike_79 : decode cX4_strike 79 = .ok (.invokestatic 66, 3) := by decide +kernel
theorem dX4_strike_82 : decode cX4_strike 82 = .ok (.lstore 9, 2) := by decide +kernel
theorem dX4_strike_84 : decode cX4_strike 84 = .ok (.aload 5, 2) := by decide +kernel
theorem dX4_strike_86 : decode cX4_strike 86 = .ok (.iload 7, 2) := by decide +kernel
theorem dX4_strike_88 : decode cX4_strike 88 = .ok (.iload 8, 2) := by decide +kernel
theorem dX4_strike_90 : decode cX4_strike 90 = .ok (.invokestatic 60, 3) := by decide +kernel
theorem dX4_strike_93 : decode cX4_strike 93 = .ok (.iload 8, 2) := by decide +kernel
theorem dX4_strike_95 : decode cX4_strike 95 = .ok (.invokestatic 63, 3) := by decide +kernel
theorem dX4_strike_98 : decode cX4_strike 98 = .ok (.invokestatic 66, 3) := by decide +kernel
theorem dX4_strike_101 : decode cX4_strike 101 = .ok (.lstore 11, 2) := by decide +kernel
theorem dX4_strike_103 : decode cX4_strike 103 = .ok (.aload_n 0, 1) := by decide +kernel
theorem dX4_strike_104 : decode cX4_strike 104 = .ok (.getfield 11, 3) := by decide +kernel
theorem dX4_strike_107 : decode cX4_strike 107 = .ok (.iload 8, 2) := by decide +kernel
theorem dX4_strike_109 : decode cX4_strike 109 = .ok (.aload_n 2, 1) := by decide +kernel
theorem dX4_strike_110 : decode cX4_strike 110 = .ok (.getfield 72, 3) := by decide +kernel
theorem dX4_strike_113 : decode cX4_strike 113 = .ok (.iload_n 3, 1) := by decide +kernel
theorem dX4_strike_114 : decode cX4_strike 114 = .ok (.iadd, 1) := by decide +kernel
theorem dX4_strike_115 : decode cX4_strike 115 = .ok (.lload 9, 2) := by decide +kernel
theorem dX4_strike_117 : decode cX4_strike 117 = .ok (.lload 11, 2) := by decide +kernel
theorem dX4_strike_119 : decode cX4_strike 119 = .ok (.invokestatic 75, 3) := by decide +kernel
theorem dX4_strike_122 : decode cX4_strike 122 = .ok (.ifCond .eq 25, 3) := by decide +kernel
theorem dX4_strike_125 : decode cX4_strike 125 = .ok (.aload_n 2, 1) := by decide +kernel
theorem dX4_strike_126 : decode cX4_strike 126 = .ok (.getfield 72, 3) := by decide +kernel
theorem dX4_strike_129 : decode cX4_strike 129 = .ok (.iload_n 3, 1) := by decide +kernel
theorem dX4_strike_130 : decode cX4_strike 130 = .ok (.isub, 1) := by decide +kernel
theorem dX4_strike_131 : decode cX4_strike 131 = .ok (.iconst 1, 1) := by decide +kernel
theorem dX4_strike_132 : decode cX4_strike 132 = .ok (.isub, 1) := by decide +kernel
theorem dX4_strike_133 : decode cX4_strike 133 = .ok (.lload 9, 2) := by decide +kernel
theorem dX4_strike_135 : decode cX4_strike 135 = .ok (.lload 11, 2) := by decide +kernel
theorem dX4_strike_137 : decode cX4_strike 137 = .ok (.invokestatic 75, 3) := by decide +kernel
theorem dX4_strike_140 : decode cX4_strike 140 = .ok (.ifCond .ne 7, 3) := by decide +kernel
theorem dX4_strike_143 : decode cX4_strike 143 = .ok (.iconst 1, 1) := by decide +kernel
theorem dX4_strike_144 : decode cX4_strike 144 = .ok (.goto 4, 3) := by decide +kernel
theorem dX4_strike_147 : decode cX4_strike 147 = .ok (.iconst 0, 1) := by decide +kernel
theorem dX4_strike_148 : decode cX4_strike 148 = .ok (.bastore, 1) := by decide +kernel
theorem dX4_strike_149 : decode cX4_strike 149 = .ok (.iinc 8 1, 3) := by decide +kernel
theorem dX4_strike_152 : decode cX4_strike 152 = .ok (.goto (-105), 3) := by decide +kernel
theorem dX4_strike_155 : decode cX4_strike 155 = .ok (.return_, 1) := by decide +kernel
theorem dX4_sumUp_0 : decode cX4_sumUp 0 = .ok (.aload_n 0, 1) := by decide +kernel
theorem dX4_sumUp_1 : decode cX4_sumUp 1 = .ok (.iconst 0, 1) := by decide +kernel
theorem dX4_sumUp_2 : decode cX4_sumUp 2 = .ok (.putfield 79, 3) := by decide +kernel
theorem dX4_sumUp_5 : decode cX4_sumUp 5 = .ok (.iconst 0, 1) := by decide +kernel
theorem dX4_sumUp_6 : decode cX4_sumUp 6 = .ok (.istore_n 1, 1) := by decide +kernel
theorem dX4_sumUp_7 : decode cX4_sumUp 7 = .ok (.iload_n 1, 1) := by decide +kernel
theorem dX4_sumUp_8 : decode cX4_sumUp 8 = .ok (.sipush 400, 3) := by decide +kernel
theorem dX4_sumUp_11 : decode cX4_sumUp 11 = .ok (.if_icmp .ge 88, 3) := by decide +kernel
theorem dX4_sumUp_14 : decode cX4_sumUp 14 = .ok (.aload_n 0, 1) := by decide +kernel
theorem dX4_sumUp_15 : decode cX4_sumUp 15 = .ok (.getfield 11, 3) := by decide +kernel
theorem dX4_sumUp_18 : decode cX4_sumUp 18 = .ok (.iload_n 1, 1) := by decide +kernel
theorem dX4_sumUp_19 : decode cX4_sumUp 19 = .ok (.baload, 1) := by decide +kernel
theorem dX4_sumUp_20 : decode cX4_sumUp 20 = .ok (.ifCond .eq 73, 3) := by decide +kernel
theorem dX4_sumUp_23 : decode cX4_sumUp 23 = .ok (.aload_n 0, 1) := by decide +kernel
theorem dX4_sumUp_24 : decode cX4_sumUp 24 = .ok (.aload_n 0, 1) := by decide +kernel
theorem dX4_sumUp_25 : decode cX4_sumUp 25 = .ok (.getfield 79, 3) := by decide +kernel
theorem dX4_sumUp_28 : decode cX4_sumUp 28 = .ok (.ifCond .eq 14, 3) := by decide +kernel
theorem dX4_sumUp_31 : decode cX4_sumUp 31 = .ok (.iload_n 1, 1) := by decide +kernel
theorem dX4_sumUp_32 : decode cX4_sumUp 32 = .ok (.aload_n 0, 1) := by decide +kernel
theorem dX4_sumUp_33 : decode cX4_sumUp 33 = .ok (.getfield 82, 3) := by decide +kernel
theorem dX4_sumUp_36 : decode cX4_sumUp 36 = .ok (.invokestatic 85, 3) := by decide +kernel
theorem dX4_sumUp_39 : decode cX4_sumUp 39 = .ok (.ifCond .eq 7, 3) := by decide +kernel
theorem dX4_sumUp_42 : decode cX4_sumUp 42 = .ok (.iload_n 1, 1) := by decide +kernel
theorem dX4_sumUp_43 : decode cX4_sumUp 43 = .ok (.goto 7, 3) := by decide +kernel
theorem dX4_sumUp_46 : decode cX4_sumUp 46 = .ok (.aload_n 0, 1) := by decide +kernel
theorem dX4_sumUp_47 : decode cX4_sumUp 47 = .ok (.getfield 82, 3) := by decide +kernel
theorem dX4_sumUp_50 : decode cX4_sumUp 50 = .ok (.putfield 82, 3) := by decide +kernel
theorem dX4_sumUp_53 : decode cX4_sumUp 53 = .ok (.aload_n 0, 1) := by decide +kernel
theorem dX4_sumUp_54 : decode cX4_sumUp 54 = .ok (.aload_n 0, 1) := by decide +kernel
theorem dX4_sumUp_55 : decode cX4_sumUp 55 = .ok (.getfield 79, 3) := by decide +kernel
theorem dX4_sumUp_58 : decode cX4_sumUp 58 = .ok (.ifCond .eq 14, 3) := by decide +kernel
theorem dX4_sumUp_61 : decode cX4_sumUp 61 = .ok (.aload_n 0, 1) := by decide +kernel
theorem dX4_sumUp_62 : decode cX4_sumUp 62 = .ok (.getfield 89, 3) := by decide +kernel
theorem dX4_sumUp_65 : decode cX4_sumUp 65 = .ok (.iload_n 1, 1) := by decide +kernel
theorem dX4_sumUp_66 : decode cX4_sumUp 66 = .ok (.invokestatic 85, 3) := by decide +kernel
theorem dX4_sumUp_69 : decode cX4_sumUp 69 = .ok (.ifCond .eq 7, 3) := by decide +kernel
theorem dX4_sumUp_72 : decode cX4_sumUp 72 = .ok (.iload_n 1, 1) := by decide +kernel
theorem dX4_sumUp_73 : decode cX4_sumUp 73 = .ok (.goto 7, 3) := by decide +kernel
theorem dX4_sumUp_76 : decode cX4_sumUp 76 = .ok (.aload_n 0, 1) := by decide +kernel
theorem dX4_sumUp_77 : decode cX4_sumUp 77 = .ok (.getfield 89, 3) := by decide +kernel
theorem dX4_sumUp_80 : decode cX4_sumUp 80 = .ok (.putfield 89, 3) := by decide +kernel
theorem dX4_sumUp_83 : decode cX4_sumUp 83 = .ok (.aload_n 0, 1) := by decide +kernel
theorem dX4_sumUp_84 : decode cX4_sumUp 84 = .ok (.dup, 1) := by decide +kernel
theorem dX4_sumUp_85 : decode cX4_sumUp 85 = .ok (.getfield 79, 3) := by decide +kernel
theorem dX4_sumUp_88 : decode cX4_sumUp 88 = .ok (.iconst 1, 1) := by decide +kernel
theorem dX4_sumUp_89 : decode cX4_sumUp 89 = .ok (.iadd, 1) := by decide +kernel
theorem dX4_sumUp_90 : decode cX4_sumUp 90 = .ok (.putfield 79, 3) := by decide +kernel
theorem dX4_sumUp_93 : decode cX4_sumUp 93 = .ok (.iinc 1 1, 3) := by decide +kernel
theorem dX4_sumUp_96 : decode cX4_sumUp 96 = .ok (.goto (-89), 3) := by decide +kernel
theorem dX4_sumUp_99 : decode cX4_sumUp 99 = .ok (.return_, 1) := by decide +kernel
theorem dX4_isYellower_0 : decode cX4_isYellower 0 = .ok (.iload_n 0, 1) := by decide +kernel
theorem dX4_isYellower_1 : decode cX4_isYellower 1 = .ok (.invokestatic 60, 3) := by decide +kernel
theorem dX4_isYellower_4 : decode cX4_isYellower 4 = .ok (.iload_n 1, 1) := by decide +kernel
theorem dX4_isYellower_5 : decode cX4_isYellower 5 = .ok (.invokestatic 63, 3) := by decide +kernel
theorem dX4_isYellower_8 : decode cX4_isYellower 8 = .ok (.imul, 1) := by decide +kernel
theorem dX4_isYellower_9 : decode cX4_isYellower 9 = .ok (.iload_n 1, 1) := by decide +kernel
theorem dX4_isYellower_10 : decode cX4_isYellower 10 = .ok (.invokestatic 60, 3) := by decide +kernel
theorem dX4_isYellower_13 : decode cX4_isYellower 13 = .ok (.iload_n 0, 1) := by decide +kernel
theorem dX4_isYellower_14 : decode cX4_isYellower 14 = .ok (.invokestatic 63, 3) := by decide +kernel
theorem dX4_isYellower_17 : decode cX4_isYellower 17 = .ok (.imul, 1) := by decide +kernel
theorem dX4_isYellower_18 : decode cX4_isYellower 18 = .ok (.if_icmp .le 7, 3) := by decide +kernel
theorem dX4_isYellower_21 : decode cX4_isYellower 21 = .ok (.iconst 1, 1) := by decide +kernel
theorem dX4_isYellower_22 : decode cX4_isYellower 22 = .ok (.goto 4, 3) := by decide +kernel
theorem dX4_isYellower_25 : decode cX4_isYellower 25 = .ok (.iconst 0, 1) := by decide +kernel
theorem dX4_isYellower_26 : decode cX4_isYellower 26 = .ok (.ireturn, 1) := by decide +kernel
theorem dX4_lawAt_0 : decode cX4_lawAt 0 = .ok (.iconst 0, 1) := by decide +kernel
theorem dX4_lawAt_1 : decode cX4_lawAt 1 = .ok (.istore_n 2, 1) := by decide +kernel
theorem dX4_lawAt_2 : decode cX4_lawAt 2 = .ok (.iconst 0, 1) := by decide +kernel
theorem dX4_lawAt_3 : decode cX4_lawAt 3 = .ok (.istore_n 3, 1) := by decide +kernel
theorem dX4_lawAt_4 : decode cX4_lawAt 4 = .ok (.iload_n 3, 1) := by decide +kernel
theorem dX4_lawAt_5 : decode cX4_lawAt 5 = .ok (.sipush 400, 3) := by decide +kernel
theorem dX4_lawAt_8 : decode cX4_lawAt 8 = .ok (.if_icmp .ge 40, 3) := by decide +kernel
theorem dX4_lawAt_11 : decode cX4_lawAt 11 = .ok (.aload_n 0, 1) := by decide +kernel
theorem dX4_lawAt_12 : decode cX4_lawAt 12 = .ok (.getfield 11, 3) := by decide +kernel
theorem dX4_lawAt_15 : decode cX4_lawAt 15 = .ok (.iload_n 3, 1) := by decide +kernel
theorem dX4_lawAt_16 : decode cX4_lawAt 16 = .ok (.baload, 1) := by decide +kernel
theorem dX4_lawAt_17 : decode cX4_lawAt 17 = .ok (.ifCond .eq 25, 3) := by decide +kernel
theorem dX4_lawAt_20 : decode cX4_lawAt 20 = .ok (.iload_n 2, 1) := by decide +kernel
theorem dX4_lawAt_21 : decode cX4_lawAt 21 = .ok (.iload_n 1, 1) := by decide +kernel
theorem dX4_lawAt_22 : decode cX4_lawAt 22 = .ok (.if_icmp .ne 17, 3) := by decide +kernel
theorem dX4_lawAt_25 : decode cX4_lawAt 25 = .ok (.sipush 1000, 3) := by decide +kernel
theorem dX4_lawAt_28 : decode cX4_lawAt 28 = .ok (.iload_n 3, 1) := by decide +kernel
theorem dX4_lawAt_29 : decode cX4_lawAt 29 = .ok (.invokestatic 60, 3) := by decide +kernel
theorem dX4_lawAt_32 : decode cX4_lawAt 32 = .ok (.imul, 1) := by decide +kernel
theorem dX4_lawAt_33 : decode cX4_lawAt 33 = .ok (.iload_n 3, 1) := by decide +kernel
theorem dX4_lawAt_34 : decode cX4_lawAt 34 = .ok (.invokestatic 63, 3) := by decide +kernel
theorem dX4_lawAt_37 : decode cX4_lawAt 37 = .ok (.iadd, 1) := by decide +kernel
theorem dX4_lawAt_38 : decode cX4_lawAt 38 = .ok (.ireturn, 1) := by decide +kernel
theorem dX4_lawAt_39 : decode cX4_lawAt 39 = .ok (.iinc 2 1, 3) := by decide +kernel
theorem dX4_lawAt_42 : decode cX4_lawAt 42 = .ok (.iinc 3 1, 3) := by decide +kernel
theorem dX4_lawAt_45 : decode cX4_lawAt 45 = .ok (.goto (-41), 3) := by decide +kernel
theorem dX4_lawAt_48 : decode cX4_lawAt 48 = .ok (.bipush (-4), 2) := by decide +kernel
theorem dX4_lawAt_50 : decode cX4_lawAt 50 = .ok (.ireturn, 1) := by decide +kernel
theorem dX4_apart_0 : decode cX4_apart 0 = .ok (.aload_n 0, 1) := by decide +kernel
theorem dX4_apart_1 : decode cX4_apart 1 = .ok (.getfield 82, 3) := by decide +kernel
theorem dX4_apart_4 : decode cX4_apart 4 = .ok (.aload_n 1, 1) := by decide +kernel
theorem dX4_apart_5 : decode cX4_apart 5 = .ok (.iload_n 2, 1) := by decide +kernel
theorem dX4_apart_6 : decode cX4_apart 6 = .ok (.iload_n 3, 1) := by decide +kernel
theorem dX4_apart_7 : decode cX4_apart 7 = .ok (.invokestatic 92, 3) := by decide +kernel
theorem dX4_apart_10 : decode cX4_apart 10 = .ok (.aload_n 0, 1) := by decide +kernel
theorem dX4_apart_11 : decode cX4_apart 11 = .ok (.getfield 89, 3) := by decide +kernel
theorem dX4_apart_14 : decode cX4_apart 14 = .ok (.aload_n 1, 1) := by decide +kernel
theorem dX4_apart_15 : decode cX4_apart 15 = .ok (.iload_n 2, 1) := by decide +kernel
theorem dX4_apart_16 : decode cX4_apart 16 = .ok (.iload_n 3, 1) := by decide +kernel
theorem dX4_apart_17 : decode cX4_apart 17 = .ok (.invokestatic 92, 3) := by decide +kernel
theorem dX4_apart_20 : decode cX4_apart 20 = .ok (.isub, 1) := by decide +kernel
theorem dX4_apart_21 : decode cX4_apart 21 = .ok (.invokestatic 96, 3) := by decide +kernel
theorem dX4_apart_24 : decode cX4_apart 24 = .ok (.ireturn, 1) := by decide +kernel
theorem dX4_placeBy_0 : decode cX4_placeBy 0 = .ok (.aload_n 1, 1) := by decide +kernel
theorem dX4_placeBy_1 : decode cX4_placeBy 1 = .ok (.getfield 41, 3) := by decide +kernel
theorem dX4_placeBy_4 : decode cX4_placeBy 4 = .ok (.iload_n 2, 1) := by decide +kernel
theorem dX4_placeBy_5 : decode cX4_placeBy 5 = .ok (.aaload, 1) := by decide +kernel
theorem dX4_placeBy_6 : decode cX4_placeBy 6 = .ok (.astore 4, 2) := by decide +kernel
theorem dX4_placeBy_8 : decode cX4_placeBy 8 = .ok (.aload_n 1, 1) := by decide +kernel
theorem dX4_placeBy_9 : decode cX4_placeBy 9 = .ok (.getfield 41, 3) := by decide +kernel
theorem dX4_placeBy_12 : decode cX4_placeBy 12 = .ok (.iload_n 3, 1) := by decide +kernel
theorem dX4_placeBy_13 : decode cX4_placeBy 13 = .ok (.aaload, 1) := by decide +kernel
theorem dX4_placeBy_14 : decode cX4_placeBy 14 = .ok (.astore 5, 2) := by decide +kernel
theorem dX4_placeBy_16 : decode cX4_placeBy 16 = .ok (.iload_n 0, 1) := by decide +kernel
theorem dX4_placeBy_17 : decode cX4_placeBy 17 = .ok (.invokestatic 60, 3) := by decide +kernel
theorem dX4_placeBy_20 : decode cX4_placeBy 20 = .ok (.istore 6, 2) := by decide +kernel
theorem dX4_placeBy_22 : decode cX4_placeBy 22 = .ok (.iload_n 0, 1) := by decide +kernel
theorem dX4_placeBy_23 : decode cX4_placeBy 23 = .ok (.invokestatic 63, 3) := by decide +kernel
theorem dX4_placeBy_26 : decode cX4_placeBy 26 = .ok (.istore 7, 2) := by decide +kernel
theorem dX4_placeBy_28 : decode cX4_placeBy 28 = .ok (.aload 4, 2) := by decide +kernel
theorem dX4_placeBy_30 : decode cX4_placeBy 30 = .ok (.aload 4, 2) := by decide +kernel
theorem dX4_placeBy_32 : decode cX4_placeBy 32 = .ok (.aload_n 1, 1) := by decide +kernel
theorem dX4_placeBy_33 : decode cX4_placeBy 33 = .ok (.getfield 51, 3) := by decide +kernel
theorem dX4_placeBy_36 : decode cX4_placeBy 36 = .ok (.invokevirtual 54, 3) := by decide +kernel
theorem dX4_placeBy_39 : decode cX4_placeBy 39 = .ok (.iload 6, 2) := by decide +kernel
theorem dX4_placeBy_41 : decode cX4_placeBy 41 = .ok (.iload 7, 2) := by decide +kernel
theorem dX4_placeBy_43 : decode cX4_placeBy 43 = .ok (.invokestatic 66, 3) := by decide +kernel
theorem dX4_placeBy_46 : decode cX4_placeBy 46 = .ok (.aload 5, 2) := by decide +kernel
theorem dX4_placeBy_48 : decode cX4_placeBy 48 = .ok (.aload 5, 2) := by decide +kernel
theorem dX4_placeBy_50 : decode cX4_placeBy 50 = .ok (.aload_n 1, 1) := by decide +kernel
theorem dX4_placeBy_51 : decode cX4_placeBy 51 = .ok (.getfield 51, 3) := by decide +kernel
theorem dX4_placeBy_54 : decode cX4_placeBy 54 = .ok (.invokevirtual 54, 3) := by decide +kernel
theorem dX4_placeBy_57 : decode cX4_placeBy 57 = .ok (.iload 6, 2) := by decide +kernel
theorem dX4_placeBy_59 : decode cX4_placeBy 59 = .ok (.iload 7, 2) := by decide +kernel
theorem dX4_placeBy_61 : decode cX4_placeBy 61 = .ok (.invokestatic 66, 3) := by decide +kernel
theorem dX4_placeBy_64 : decode cX4_placeBy 64 = .ok (.invokestatic 101, 3) := by decide +kernel
theorem dX4_placeBy_67 : decode cX4_placeBy 67 = .ok (.ireturn, 1) := by decide +kernel
theorem dX5_init_0 : decode cX5_init 0 = .ok (.aload_n 0, 1) := by decide +kernel
theorem dX5_init_1 : decode cX5_init 1 = .ok (.invokespecial 3, 3) := by decide +kernel
theorem dX5_init_4 : decode cX5_init 4 = .ok (.return_, 1) := by decide +kernel
theorem dX5_shineIn_0 : decode cX5_shineIn 0 = .ok (.aload_n 0, 1) := by decide +kernel
theorem dX5_shineIn_1 : decode cX5_shineIn 1 = .ok (.aload_n 0, 1) := by decide +kernel
theorem dX5_shineIn_2 : decode cX5_shineIn 2 = .ok (.getfield 9, 3) := by decide +kernel
theorem dX5_shineIn_5 : decode cX5_shineIn 5 = .ok (.iload_n 1, 1) := by decide +kernel
theorem dX5_shineIn_6 : decode cX5_shineIn 6 = .ok (.invokevirtual 15, 3) := by decide +kernel
theorem dX5_shineIn_9 : decode cX5_shineIn 9 = .ok (.ireturn, 1) := by decide +kernel
theorem dX5_shineAfter_0 : decode cX5_shineAfter 0 = .ok (.iconst 1, 1) := by decide +kernel
theorem dX5_shineAfter_1 : decode cX5_shineAfter 1 = .ok (.ldc 19, 2) := by decide +kernel
theorem dX5_shineAfter_3 : decode cX5_shineAfter 3 = .ok (.aload_n 0, 1) := by decide +kernel
theorem dX5_shineAfter_4 : decode cX5_shineAfter 4 = .ok (.iload_n 1, 1) := by decide +kernel
theorem dX5_shineAfter_5 : decode cX5_shineAfter 5 = .ok (.iload_n 2, 1) := by decide +kernel
theorem dX5_shineAfter_6 : decode cX5_shineAfter 6 = .ok (.invokevirtual 20, 3) := by decide +kernel
theorem dX5_shineAfter_9 : decode cX5_shineAfter 9 = .ok (.invokestatic 23, 3) := by decide +kernel
theorem dX5_shineAfter_12 : decode cX5_shineAfter 12 = .ok (.invokestatic 28, 3) := by decide +kernel
theorem dX5_shineAfter_15 : decode cX5_shineAfter 15 = .ok (.ireturn, 1) := by decide +kernel
theorem dX5_unheld_0 : decode cX5_unheld 0 = .ok (.aload_n 0, 1) := by decide +kernel
theorem dX5_unheld_1 : decode cX5_unheld 1 = .ok (.getfield 31, 3) := by decide +kernel
theorem dX5_unheld_4 : decode cX5_unheld 4 = .ok (.tableswitch 114 1 7 #[44, 57, 72, 90, 96, 114, 103], 44) := by decide +kernel
theorem dX5_unheld_48 : decode cX5_unheld 48 = .ok (.aload_n 0, 1) := by decide +kernel
theorem dX5_unheld_49 : decode cX5_unheld 49 = .ok (.getfield 34, 3) := by decide +kernel
theorem dX5_unheld_52 : decode cX5_unheld 52 = .ok (.aload_n 0, 1) := by decide +kernel
theorem dX5_unheld_53 : decode cX5_unheld 53 = .ok (.getfield 37, 3) := by decide +kernel
theorem dX5_unheld_56 : decode cX5_unheld 56 = .ok (.imul, 1) := by decide +kernel
theorem dX5_unheld_57 : decode cX5_unheld 57 = .ok (.bipush 120, 2) := by decide +kernel
theorem dX5_unheld_59 : decode cX5_unheld 59 = .ok (.idiv, 1) := by decide +kernel
theorem dX5_unheld_60 : decode cX5_unheld 60 = .ok (.ireturn, 1) := by decide +kernel
theorem dX5_unheld_61 : decode cX5_unheld 61 = .ok (.aload_n 0, 1) := by decide +kernel
theorem dX5_unheld_62 : decode cX5_unheld 62 = .ok (.getfield 34, 3) := by decide +kernel
theorem dX5_unheld_65 : decode cX5_unheld 65 = .ok (.iconst 5, 1) := by decide +kernel
theorem dX5_unheld_66 : decode cX5_unheld 66 = .ok (.aload_n 0, 1) := by decide +kernel
theorem dX5_unheld_67 : decode cX5_unheld 67 = .ok (.getfield 37, 3) := by decide +kernel
theorem dX5_unheld_70 : decode cX5_unheld 70 = .ok (.bipush 40, 2) := by decide +kernel
theorem dX5_unheld_72 : decode cX5_unheld 72 = .ok (.isub, 1) := by decide +kernel
theorem dX5_unheld_73 : decode cX5_unheld 73 = .ok (.imul, 1) := by decide +kernel
theorem dX5_unheld_74 : decode cX5_unheld 74 = .ok (.iadd, 1) := by decide +kernel
theorem dX5_unheld_75 : decode cX5_unheld 75 = .ok (.ireturn, 1) := by decide +kernel
theorem dX5_unheld_76 : decode cX5_unheld 76 = .ok (.aload_n 0, 1) := by decide +kernel
theorem dX5_unheld_77 : decode cX5_unheld 77 = .ok (.getfield 34, 3) := by decide +kernel
theorem dX5_unheld_80 : decode cX5_unheld 80 = .ok (.bipush 100, 2) := by decide +kernel
theorem dX5_unheld_82 : decode cX5_unheld 82 = .ok (.aload_n 0, 1) := by decide +kernel
theorem dX5_unheld_83 : decode cX5_unheld 83 = .ok (.getfield 37, 3) := by decide +kernel
theorem dX5_unheld_86 : decode cX5_unheld 86 = .ok (.iadd, 1) := by decide +kernel
theorem dX5_unheld_87 : decode cX5_unheld 87 = .ok (.imul, 1) := by decide +kernel
theorem dX5_unheld_88 : decode cX5_unheld 88 = .ok (.bipush 100, 2) := by decide +kernel
theorem dX5_unheld_90 : decode cX5_unheld 90 = .ok (.idiv, 1) := by decide +kernel
theorem dX5_unheld_91 : decode cX5_unheld 91 = .ok (.iload_n 2, 1) := by decide +kernel
theorem dX5_unheld_92 : decode cX5_unheld 92 = .ok (.isub, 1) := by decide +kernel
theorem dX5_unheld_93 : decode cX5_unheld 93 = .ok (.ireturn, 1) := by decide +kernel
theorem dX5_unheld_94 : decode cX5_unheld 94 = .ok (.aload_n 0, 1) := by decide +kernel
theorem dX5_unheld_95 : decode cX5_unheld 95 = .ok (.iload_n 1, 1) := by decide +kernel
theorem dX5_unheld_96 : decode cX5_unheld 96 = .ok (.invokevirtual 40, 3) := by decide +kernel
theorem dX5_unheld_99 : decode cX5_unheld 99 = .ok (.ireturn, 1) := by decide +kernel
theorem dX5_unheld_100 : decode cX5_unheld 100 = .ok (.aload_n 0, 1) := by decide +kernel
theorem dX5_unheld_101 : decode cX5_unheld 101 = .ok (.getfield 34, 3) := by decide +kernel
theorem dX5_unheld_104 : decode cX5_unheld 104 = .ok (.iload_n 2, 1) := by decide +kernel
theorem dX5_unheld_105 : decode cX5_unheld 105 = .ok (.isub, 1) := by decide +kernel
theorem dX5_unheld_106 : decode cX5_unheld 106 = .ok (.ireturn, 1) := by decide +kernel
theorem dX5_unheld_107 : decode cX5_unheld 107 = .ok (.aload_n 0, 1) := by decide +kernel
theorem dX5_unheld_108 : decode cX5_unheld 108 = .ok (.iload_n 1, 1) := by decide +kernel
theorem dX5_unheld_109 : decode cX5_unheld 109 = .ok (.invokevirtual 40, 3) := by decide +kernel
theorem dX5_unheld_112 : decode cX5_unheld 112 = .ok (.iload_n 1, 1) := by decide +kernel
theorem dX5_unheld_113 : decode cX5_unheld 113 = .ok (.bipush 20, 2) := by decide +kernel
theorem dX5_unheld_115 : decode cX5_unheld 115 = .ok (.idiv, 1) := by decide +kernel
theorem dX5_unheld_116 : decode cX5_unheld 116 = .ok (.isub, 1) := by decide +kernel
theorem dX5_unheld_117 : decode cX5_unheld 117 = .ok (.ireturn, 1) := by decide +kernel
theorem dX5_unheld_118 : decode cX5_unheld 118 = .ok (.aload_n 0, 1) := by decide +kernel
theorem dX5_unheld_119 : decode cX5_unheld 119 = .ok (.getfield 34, 3) := by decide +kernel
theorem dX5_unheld_122 : decode cX5_unheld 122 = .ok (.ireturn, 1) := by decide +kernel
theorem dX5_glow_0 : decode cX5_glow 0 = .ok (.aload_n 0, 1) := by decide +kernel
theorem dX5_glow_1 : decode cX5_glow 1 = .ok (.getfield 34, 3) := by decide +kernel
theorem dX5_glow_4 : decode cX5_glow 4 = .ok (.aload_n 0, 1) := by decide +kernel
theorem dX5_glow_5 : decode cX5_glow 5 = .ok (.getfield 37, 3) := by decide +kernel
theorem dX5_glow_8 : decode cX5_glow 8 = .ok (.imul, 1) := by decide +kernel
theorem dX5_glow_9 : decode cX5_glow 9 = .ok (.bipush 100, 2) := by decide +kernel
theorem dX5_glow_11 : decode cX5_glow 11 = .ok (.idiv, 1) := by decide +kernel
theorem dX5_glow_12 : decode cX5_glow 12 = .ok (.iload_n 1, 1) := by decide +kernel
theorem dX5_glow_13 : decode cX5_glow 13 = .ok (.bipush 10, 2) := by decide +kernel
theorem dX5_glow_15 : decode cX5_glow 15 = .ok (.idiv, 1) := by decide +kernel
theorem dX5_glow_16 : decode cX5_glow 16 = .ok (.isub, 1) := by decide +kernel
theorem dX5_glow_17 : decode cX5_glow 17 = .ok (.ireturn, 1) := by decide +kernel
theorem dX5_wanderIn_0 : decode cX5_wanderIn 0 = .ok (.aload_n 0, 1) := by decide +kernel
theorem dX5_wanderIn_1 : decode cX5_wanderIn 1 = .ok (.getfield 31, 3) := by decide +kernel
theorem dX5_wanderIn_4 : decode cX5_wanderIn 4 = .ok (.tableswitch 81 1 7 #[44, 48, 61, 64, 66, 69, 71], 44) := by decide +kernel
theorem dX5_wanderIn_48 : decode cX5_wanderIn 48 = .ok (.iconst 3, 1) := by decide +kernel
theorem dX5_wanderIn_49 : decode cX5_wanderIn 49 = .ok (.iload_n 1, 1) := by decide +kernel
theorem dX5_wanderIn_50 : decode cX5_wanderIn 50 = .ok (.iadd, 1) := by decide +kernel
theorem dX5_wanderIn_51 : decode cX5_wanderIn 51 = .ok (.ireturn, 1) := by decide +kernel
theorem dX5_wanderIn_52 : decode cX5_wanderIn 52 = .ok (.iconst 3, 1) := by decide +kernel
theorem dX5_wanderIn_53 : decode cX5_wanderIn 53 = .ok (.aload_n 0, 1) := by decide +kernel
theorem dX5_wanderIn_54 : decode cX5_wanderIn 54 = .ok (.getfield 37, 3) := by decide +kernel
theorem dX5_wanderIn_57 : decode cX5_wanderIn 57 = .ok (.bipush 40, 2) := by decide +kernel
theorem dX5_wanderIn_59 : decode cX5_wanderIn 59 = .ok (.isub, 1) := by decide +kernel
theorem dX5_wanderIn_60 : decode cX5_wanderIn 60 = .ok (.invokestatic 44, 3) := by decide +kernel
theorem dX5_wanderIn_63 : decode cX5_wanderIn 63 = .ok (.iadd, 1) := by decide +kernel
theorem dX5_wanderIn_64 : decode cX5_wanderIn 64 = .ok (.ireturn, 1) := by decide +kernel
theorem dX5_wanderIn_65 : decode cX5_wanderIn 65 = .ok (.bipush 6, 2) := by decide +kernel
theorem dX5_wanderIn_67 : decode cX5_wanderIn 67 = .ok (.ireturn, 1) := by decide +kernel
theorem dX5_wanderIn_68 : decode cX5_wanderIn 68 = .ok (.iconst 1, 1) := by decide +kernel
theorem dX5_wanderIn_69 : decode cX5_wanderIn 69 = .ok (.ireturn, 1) := by decide +kernel
theorem dX5_wanderIn_70 : decode cX5_wanderIn 70 = .ok (.bipush 7, 2) := by decide +kernel
theorem dX5_wanderIn_72 : decode cX5_wanderIn 72 = .ok (.ireturn, 1) := by decide +kernel
theorem dX5_wanderIn_73 : decode cX5_wanderIn 73 = .ok (.iconst 0, 1) := by decide +kernel
theorem dX5_wanderIn_74 : decode cX5_wanderIn 74 = .ok (.ireturn, 1) := by decide +kernel
theorem dX5_wanderIn_75 : decode cX5_wanderIn 75 = .ok (.iconst 1, 1) := by decide +kernel
theorem dX5_wanderIn_76 : decode cX5_wanderIn 76 = .ok (.aload_n 0, 1) := by decide +kernel
theorem dX5_wanderIn_77 : decode cX5_wanderIn 77 = .ok (.getfield 9, 3) := by decide +kernel
theorem dX5_wanderIn_80 : decode cX5_wanderIn 80 = .ok (.bipush 100, 2) := by decide +kernel
theorem dX5_wanderIn_82 : decode cX5_wanderIn 82 = .ok (.idiv, 1) := by decide +kernel
theorem dX5_wanderIn_83 : decode cX5_wanderIn 83 = .ok (.iadd, 1) := by decide +kernel
theorem dX5_wanderIn_84 : decode cX5_wanderIn 84 = .ok (.ireturn, 1) := by decide +kernel
theorem dX5_wanderIn_85 : decode cX5_wanderIn 85 = .ok (.iconst 3, 1) := by decide +kernel
theorem dX5_wanderIn_86 : decode cX5_wanderIn 86 = .ok (.ireturn, 1) := by decide +kernel
theorem dX5_isAgedBy_0 : decode cX5_isAgedBy 0 = .ok (.aload_n 0, 1) := by decide +kernel
theorem dX5_isAgedBy_1 : decode cX5_isAgedBy 1 = .ok (.getfield 31, 3) := by decide +kernel
theorem dX5_isAgedBy_4 : decode cX5_isAgedBy 4 = .ok (.iconst 4, 1) := by decide +kernel
theorem dX5_isAgedBy_5 : decode cX5_isAgedBy 5 = .ok (.if_icmp .eq 14, 3) := by decide +kernel
theorem dX5_isAgedBy_8 : decode cX5_isAgedBy 8 = .ok (.aload_n 0, 1) := by decide +kernel
theorem dX5_isAgedBy_9 : decode cX5_isAgedBy 9 = .ok (.getfield 31, 3) := by decide +kernel
theorem dX5_isAgedBy_12 : decode cX5_isAgedBy 12 = .ok (.bipush 7, 2) := by decide +kernel
theorem dX5_isAgedBy_14 : decode cX5_isAgedBy 14 = .ok (.if_icmp .eq 5, 3) := by decide +kernel
theorem dX5_isAgedBy_17 : decode cX5_isAgedBy 17 = .ok (.iconst 0, 1) := by decide +kernel
theorem dX5_isAgedBy_18 : decode cX5_isAgedBy 18 = .ok (.ireturn, 1) := by decide +kernel
theorem dX5_isAgedBy_19 : decode cX5_isAgedBy 19 = .ok (.aload_n 0, 1) := by decide +kernel
theorem dX5_isAgedBy_20 : decode cX5_isAgedBy 20 = .ok (.iconst 0, 1) := by decide +kernel
theorem dX5_isAgedBy_21 : decode cX5_isAgedBy 21 = .ok (.iload_n 2, 1) := by decide +kernel
theorem dX5_isAgedBy_22 : decode cX5_isAgedBy 22 = .ok (.invokevirtual 15, 3) := by decide +kernel
theorem dX5_isAgedBy_25 : decode cX5_isAgedBy 25 = .ok (.istore_n 3, 1) := by decide +kernel
theorem dX5_isAgedBy_26 : decode cX5_isAgedBy 26 = .ok (.iload_n 3, 1) := by decide +kernel
theorem dX5_isAgedBy_27 : decode cX5_isAgedBy 27 = .ok (.aload_n 0, 1) := by decide +kernel
theorem dX5_isAgedBy_28 : decode cX5_isAgedBy 28 = .ok (.iload_n 2, 1) := by decide +kernel
theorem dX5_isAgedBy_29 : decode cX5_isAgedBy 29 = .ok (.invokevirtual 47, 3) := by decide +kernel
theorem dX5_isAgedBy_32 : decode cX5_isAgedBy 32 = .ok (.isub, 1) := by decide +kernel
theorem dX5_isAgedBy_33 : decode cX5_isAgedBy 33 = .ok (.bipush 100, 2) := by decide +kernel
theorem dX5_isAgedBy_35 : decode cX5_isAgedBy 35 = .ok (.imul, 1) := by decide +kernel
theorem dX5_isAgedBy_36 : decode cX5_isAgedBy 36 = .ok (.iload_n 1, 1) := by decide +kernel
theorem dX5_isAgedBy_37 : decode cX5_isAgedBy 37 = .ok (.iload_n 3, 1) := by decide +kernel
theorem dX5_isAgedBy_38 : decode cX5_isAgedBy 38 = .ok (.imul, 1) := by decide +kernel
theorem dX5_isAgedBy_39 : decode cX5_isAgedBy 39 = .ok (.if_icmp .lt 7, 3) := by decide +kernel
theorem dX5_isAgedBy_42 : decode cX5_isAgedBy 42 = .ok (.iconst 1, 1) := by decide +kernel
theorem dX5_isAgedBy_43 : decode cX5_isAgedBy 43 = .ok (.goto 4, 3) := by decide +kernel
theorem dX5_isAgedBy_46 : decode cX5_isAgedBy 46 = .ok (.iconst 0, 1) := by decide +kernel
theorem dX5_isAgedBy_47 : decode cX5_isAgedBy 47 = .ok (.ireturn, 1) := by decide +kernel
theorem dX5_fail_0 : decode cX5_fail 0 = .ok (.aload_n 0, 1) := by decide +kernel
theorem dX5_fail_1 : decode cX5_fail 1 = .ok (.getfield 31, 3) := by decide +kernel
theorem dX5_fail_4 : decode cX5_fail 4 = .ok (.bipush 6, 2) := by decide +kernel
theorem dX5_fail_6 : decode cX5_fail 6 = .ok (.if_icmp .eq 10, 3) := by decide +kernel
theorem dX5_fail_9 : decode cX5_fail 9 = .ok (.aload_n 0, 1) := by decide +kernel
theorem dX5_fail_10 : decode cX5_fail 10 = .ok (.getfield 37, 3) := by decide +kernel
theorem dX5_fail_13 : decode cX5_fail 13 = .ok (.ifCond .ne 4, 3) := by decide +kernel
theorem dX5_fail_16 : decode cX5_fail 16 = .ok (.return_, 1) := by decide +kernel
theorem dX5_fail_17 : decode cX5_fail 17 = .ok (.aload_n 0, 1) := by decide +kernel
theorem dX5_fail_18 : decode cX5_fail 18 = .ok (.getfield 31, 3) := by decide +kernel
theorem dX5_fail_21 : decode cX5_fail 21 = .ok (.iconst 3, 1) := by decide +kernel
theorem dX5_fail_22 : decode cX5_fail 22 = .ok (.if_icmp .ne 13, 3) := by decide +kernel
theorem dX5_fail_25 : decode cX5_fail 25 = .ok (.new 50, 3) := by decide +kernel
theorem dX5_fail_28 : decode cX5_fail 28 = .ok (.dup, 1) := by decide +kernel
theorem dX5_fail_29 : decode cX5_fail 29 = .ok (.ldc 52, 2) := by decide +kernel
theorem dX5_fail_31 : decode cX5_fail 31 = .ok (.invokespecial 54, 3) := by decide +kernel
theorem dX5_fail_34 : decode cX5_fail 34 = .ok (.athrow, 1) := by decide +kernel
theorem dX5_fail_35 : decode cX5_fail 35 = .ok (.aload_n 0, 1) := by decide +kernel
theorem dX5_fail_36 : decode cX5_fail 36 = .ok (.getfield 31, 3) := by decide +kernel
theorem dX5_fail_39 : decode cX5_fail 39 = .ok (.bipush 7, 2) := by decide +kernel
theorem dX5_fail_41 : decode cX5_fail 41 = .ok (.if_icmp .ne 13, 3) := by decide +kernel
theorem dX5_fail_44 : decode cX5_fail 44 = .ok (.new 57, 3) := by decide +kernel
theorem dX5_fail_47 : decode cX5_fail 47 = .ok (.dup, 1) := by decide +kernel
theorem dX5_fail_48 : decode cX5_fail 48 = .ok (.ldc 59, 2) := by decide +kernel
theorem dX5_fail_50 : decode cX5_fail 50 = .ok (.invokespecial 61, 3) := by decide +kernel
theorem dX5_fail_53 : decode cX5_fail 53 = .ok (.athrow, 1) := by decide +kernel
theorem dX5_fail_54 : decode cX5_fail 54 = .ok (.new 62, 3) := by decide +kernel
theorem dX5_fail_57 : decode cX5_fail 57 = .ok (.dup, 1) := by decide +kernel
theorem dX5_fail_58 : decode cX5_fail 58 = .ok (.ldc 64, 2) := by decide +kernel
theorem dX5_fail_60 : decode cX5_fail 60 = .ok (.invokespecial 66, 3) := by decide +kernel
theorem dX5_fail_63 : decode cX5_fail 63 = .ok (.athrow, 1) := by decide +kernel
theorem dX5_takeFrom_0 : decode cX5_takeFrom 0 = .ok (.aload_n 0, 1) := by decide +kernel
theorem dX5_takeFrom_1 : decode cX5_takeFrom 1 = .ok (.aload_n 1, 1) := by decide +kernel
theorem dX5_takeFrom_2 : decode cX5_takeFrom 2 = .ok (.getfield 67, 3) := by decide +kernel
theorem dX5_takeFrom_5 : decode cX5_takeFrom 5 = .ok (.putfield 67, 3) := by decide +kernel
theorem dX5_takeFrom_8 : decode cX5_takeFrom 8 = .ok (.aload_n 0, 1) := by decide +kernel
theorem dX5_takeFrom_9 : decode cX5_takeFrom 9 = .ok (.aload_n 1, 1) := by decide +kernel
theorem dX5_takeFrom_10 : decode cX5_takeFrom 10 = .ok (.getfield 31, 3) := by decide +kernel
theorem dX5_takeFrom_13 : decode cX5_takeFrom 13 = .ok (.putfield 31, 3) := by decide +kernel
theorem dX5_takeFrom_16 : decode cX5_takeFrom 16 = .ok (.aload_n 0, 1) := by decide +kernel
theorem dX5_takeFrom_17 : decode cX5_takeFrom 17 = .ok (.aload_n 1, 1) := by decide +kernel
theorem dX5_takeFrom_18 : decode cX5_takeFrom 18 = .ok (.getfield 34, 3) := by decide +kernel
theorem dX5_takeFrom_21 : decode cX5_takeFrom 21 = .ok (.putfield 34, 3) := by decide +kernel
theorem dX5_takeFrom_24 : decode cX5_takeFrom 24 = .ok (.aload_n 0, 1) := by decide +kernel
theorem dX5_takeFrom_25 : decode cX5_takeFrom 25 = .ok (.aload_n 1, 1) := by decide +kernel
theorem dX5_takeFrom_26 : decode cX5_takeFrom 26 = .ok (.getfield 70, 3) := by decide +kernel
theorem dX5_takeFrom_29 : decode cX5_takeFrom 29 = .ok (.putfield 70, 3) := by decide +kernel
theorem dX5_takeFrom_32 : decode cX5_takeFrom 32 = .ok (.aload_n 0, 1) := by decide +kernel
theorem dX5_takeFrom_33 : decode cX5_takeFrom 33 = .ok (.aload_n 1, 1) := by decide +kernel
theorem dX5_takeFrom_34 : decode cX5_takeFrom 34 = .ok (.getfield 37, 3) := by decide +kernel
theorem dX5_takeFrom_37 : decode cX5_takeFrom 37 = .ok (.putfield 37, 3) := by decide +kernel
theorem dX5_takeFrom_40 : decode cX5_takeFrom 40 = .ok (.aload_n 0, 1) := by decide +kernel
theorem dX5_takeFrom_41 : decode cX5_takeFrom 41 = .ok (.aload_n 1, 1) := by decide +kernel
theorem dX5_takeFrom_42 : decode cX5_takeFrom 42 = .ok (.getfield 9, 3) := by decide +kernel
theorem dX5_takeFrom_45 : decode cX5_takeFrom 45 = .ok (.putfield 9, 3) := by decide +kernel
theorem dX5_takeFrom_48 : decode cX5_takeFrom 48 = .ok (.return_, 1) := by decide +kernel
theorem dX6_init_0 : decode cX6_init 0 = .ok (.aload_n 0, 1) := by decide +kernel
theorem dX6_init_1 : decode cX6_init 1 = .ok (.invokespecial 1, 3) := by decide +kernel
theorem dX6_init_4 : decode cX6_init 4 = .ok (.return_, 1) := by decide +kernel
theorem dX6_joins_0 : decode cX6_joins 0 = .ok (.aload_n 0, 1) := by decide +kernel
theorem dX6_joins_1 : decode cX6_joins 1 = .ok (.getfield 7, 3) := by decide +kernel
theorem dX6_joins_4 : decode cX6_joins 4 = .ok (.ifCond .ne 23, 3) := by decide +kernel
theorem dX6_joins_7 : decode cX6_joins 7 = .ok (.aload_n 0, 1) := by decide +kernel
theorem dX6_joins_8 : decode cX6_joins 8 = .ok (.getfield 13, 3) := by decide +kernel
theorem dX6_joins_11 : decode cX6_joins 11 = .ok (.iload_n 1, 1) := by decide +kernel
theorem dX6_joins_12 : decode cX6_joins 12 = .ok (.if_icmp .eq 11, 3) := by decide +kernel
theorem dX6_joins_15 : decode cX6_joins 15 = .ok (.aload_n 0, 1) := by decide +kernel
theorem dX6_joins_16 : decode cX6_joins 16 = .ok (.getfield 17, 3) := by decide +kernel
theorem dX6_joins_19 : decode cX6_joins 19 = .ok (.iload_n 1, 1) := by decide +kernel
theorem dX6_joins_20 : decode cX6_joins 20 = .ok (.if_icmp .ne 7, 3) := by decide +kernel
theorem dX6_joins_23 : decode cX6_joins 23 = .ok (.iconst 1, 1) := by decide +kernel
theorem dX6_joins_24 : decode cX6_joins 24 = .ok (.goto 4, 3) := by decide +kernel
theorem dX6_joins_27 : decode cX6_joins 27 = .ok (.iconst 0, 1) := by decide +kernel
theorem dX6_joins_28 : decode cX6_joins 28 = .ok (.ireturn, 1) := by decide +kernel
theorem dX6_otherThan_0 : decode cX6_otherThan 0 = .ok (.aload_n 0, 1) := by decide +kernel
theorem dX6_otherThan_1 : decode cX6_otherThan 1 = .ok (.getfield 13, 3) := by decide +kernel
theorem dX6_otherThan_4 : decode cX6_otherThan 4 = .ok (.iload_n 1, 1) := by decide +kernel
theorem dX6_otherThan_5 : decode cX6_otherThan 5 = .ok (.if_icmp .ne 10, 3) := by decide +kernel
theorem dX6_otherThan_8 : decode cX6_otherThan 8 = .ok (.aload_n 0, 1) := by decide +kernel
theorem dX6_otherThan_9 : decode cX6_otherThan 9 = .ok (.getfield 17, 3) := by decide +kernel
theorem dX6_otherThan_12 : decode cX6_otherThan 12 = .ok (.goto 7, 3) := by decide +kernel
theorem dX6_otherThan_15 : decode cX6_otherThan 15 = .ok (.aload_n 0, 1) := by decide +kernel
theorem dX6_otherThan_16 : decode cX6_otherThan 16 = .ok (.getfield 13, 3) := by decide +kernel
theorem dX6_otherThan_19 : decode cX6_otherThan 19 = .ok (.ireturn, 1) := by decide +kernel
theorem dX6_takeFrom_0 : decode cX6_takeFrom 0 = .ok (.aload_n 0, 1) := by decide +kernel
theorem dX6_takeFrom_1 : decode cX6_takeFrom 1 = .ok (.aload_n 1, 1) := by decide +kernel
theorem dX6_takeFrom_2 : decode cX6_takeFrom 2 = .ok (.getfield 13, 3) := by decide +kernel
theorem dX6_takeFrom_5 : decode cX6_takeFrom 5 = .ok (.putfield 13, 3) := by decide +kernel
theorem dX6_takeFrom_8 : decode cX6_takeFrom 8 = .ok (.aload_n 0, 1) := by decide +kernel
theorem dX6_takeFrom_9 : decode cX6_takeFrom 9 = .ok (.aload_n 1, 1) := by decide +kernel
theorem dX6_takeFrom_10 : decode cX6_takeFrom 10 = .ok (.getfield 17, 3) := by decide +kernel
theorem dX6_takeFrom_13 : decode cX6_takeFrom 13 = .ok (.putfield 17, 3) := by decide +kernel
theorem dX6_takeFrom_16 : decode cX6_takeFrom 16 = .ok (.aload_n 0, 1) := by decide +kernel
theorem dX6_takeFrom_17 : decode cX6_takeFrom 17 = .ok (.aload_n 1, 1) := by decide +kernel
theorem dX6_takeFrom_18 : decode cX6_takeFrom 18 = .ok (.getfield 20, 3) := by decide +kernel
theorem dX6_takeFrom_21 : decode cX6_takeFrom 21 = .ok (.putfield 20, 3) := by decide +kernel
theorem dX6_takeFrom_24 : decode cX6_takeFrom 24 = .ok (.aload_n 0, 1) := by decide +kernel
theorem dX6_takeFrom_25 : decode cX6_takeFrom 25 = .ok (.aload_n 1, 1) := by decide +kernel
theorem dX6_takeFrom_26 : decode cX6_takeFrom 26 = .ok (.getfield 23, 3) := by decide +kernel
theorem dX6_takeFrom_29 : decode cX6_takeFrom 29 = .ok (.putfield 23, 3) := by decide +kernel
theorem dX6_takeFrom_32 : decode cX6_takeFrom 32 = .ok (.aload_n 0, 1) := by decide +kernel
theorem dX6_takeFrom_33 : decode cX6_takeFrom 33 = .ok (.aload_n 1, 1) := by decide +kernel
theorem dX6_takeFrom_34 : decode cX6_takeFrom 34 = .ok (.getfield 26, 3) := by decide +kernel
theorem dX6_takeFrom_37 : decode cX6_takeFrom 37 = .ok (.putfield 26, 3) := by decide +kernel
theorem dX6_takeFrom_40 : decode cX6_takeFrom 40 = .ok (.aload_n 0, 1) := by decide +kernel
theorem dX6_takeFrom_41 : decode cX6_takeFrom 41 = .ok (.aload_n 1, 1) := by decide +kernel
theorem dX6_takeFrom_42 : decode cX6_takeFrom 42 = .ok (.getfield 7, 3) := by decide +kernel
theorem dX6_takeFrom_45 : decode cX6_takeFrom 45 = .ok (.putfield 7, 3) := by decide +kernel
theorem dX6_takeFrom_48 : decode cX6_takeFrom 48 = .ok (.return_, 1) := by decide +kernel
theorem dX7_init_0 : decode cX7_init 0 = .ok (.aload_n 0, 1) := by decide +kernel
theorem dX7_init_1 : decode cX7_init 1 = .ok (.invokespecial 3, 3) := by decide +kernel
theorem dX7_init_4 : decode cX7_init 4 = .ok (.aload_n 0, 1) := by decide +kernel
theorem dX7_init_5 : decode cX7_init 5 = .ok (.bipush 100, 2) := by decide +kernel
theorem dX7_init_7 : decode cX7_init 7 = .ok (.newarray .int, 2) := by decide +kernel
theorem dX7_init_9 : decode cX7_init 9 = .ok (.putfield 9, 3) := by decide +kernel
theorem dX7_init_12 : decode cX7_init 12 = .ok (.return_, 1) := by decide +kernel
theorem dX7_begin_0 : decode cX7_begin 0 = .ok (.aload_n 0, 1) := by decide +kernel
theorem dX7_begin_1 : decode cX7_begin 1 = .ok (.iload_n 1, 1) := by decide +kernel
theorem dX7_begin_2 : decode cX7_begin 2 = .ok (.putfield 15, 3) := by decide +kernel
theorem dX7_begin_5 : decode cX7_begin 5 = .ok (.aload_n 0, 1) := by decide +kernel
theorem dX7_begin_6 : decode cX7_begin 6 = .ok (.iload_n 2, 1) := by decide +kernel
theorem dX7_begin_7 : decode cX7_begin 7 = .ok (.putfield 19, 3) := by decide +kernel
theorem dX7_begin_10 : decode cX7_begin 10 = .ok (.iconst 0, 1) := by decide +kernel
theorem dX7_begin_11 : decode cX7_begin 11 = .ok (.istore_n 3, 1) := by decide +kernel
theorem dX7_begin_12 : decode cX7_begin 12 = .ok (.iload_n 3, 1) := by decide +kernel
theorem dX7_begin_13 : decode cX7_begin 13 = .ok (.bipush 100, 2) := by decide +kernel
theorem dX7_begin_15 : decode cX7_begin 15 = .ok (.if_icmp .ge 16, 3) := by decide +kernel
theorem dX7_begin_18 : decode cX7_begin 18 = .ok (.aload_n 0, 1) := by decide +kernel
theorem dX7_begin_19 : decode cX7_begin 19 = .ok (.getfield 9, 3) := by decide +kernel
theorem dX7_begin_22 : decode cX7_begin 22 = .ok (.iload_n 3, 1) := by decide +kernel
theorem dX7_begin_23 : decode cX7_begin 23 = .ok (.iconst 0, 1) := by decide +kernel
theorem dX7_begin_24 : decode cX7_begin 24 = .ok (.iastore, 1) := by decide +kernel
theorem dX7_begin_25 : decode cX7_begin 25 = .ok (.iinc 3 1, 3) := by decide +kernel
theorem dX7_begin_28 : decode cX7_begin 28 = .ok (.goto (-16), 3) := by decide +kernel
theorem dX7_begin_31 : decode cX7_begin 31 = .ok (.return_, 1) := by decide +kernel
theorem dX7_lowestBits_0 : decode cX7_lowestBits 0 = .ok (.aload_n 0, 1) := by decide +kernel
theorem dX7_lowestBits_1 : decode cX7_lowestBits 1 = .ok (.getfield 15, 3) := by decide +kernel
theorem dX7_lowestBits_4 : decode cX7_lowestBits 4 = .ok (.ifCond .ne 8, 3) := by decide +kernel
theorem dX7_lowestBits_7 : decode cX7_lowestBits 7 = .ok (.iload_n 1, 1) := by decide +kernel
theorem dX7_lowestBits_8 : decode cX7_lowestBits 8 = .ok (.i2b, 1) := by decide +kernel
theorem dX7_lowestBits_9 : decode cX7_lowestBits 9 = .ok (.goto 17, 3) := by decide +kernel
theorem dX7_lowestBits_12 : decode cX7_lowestBits 12 = .ok (.aload_n 0, 1) := by decide +kernel
theorem dX7_lowestBits_13 : decode cX7_lowestBits 13 = .ok (.getfield 15, 3) := by decide +kernel
theorem dX7_lowestBits_16 : decode cX7_lowestBits 16 = .ok (.iconst 1, 1) := by decide +kernel
theorem dX7_lowestBits_17 : decode cX7_lowestBits 17 = .ok (.if_icmp .ne 8, 3) := by decide +kernel
theorem dX7_lowestBits_20 : decode cX7_lowestBits 20 = .ok (.iload_n 1, 1) := by decide +kernel
theorem dX7_lowestBits_21 : decode cX7_lowestBits 21 = .ok (.i2s, 1) := by decide +kernel
theorem dX7_lowestBits_22 : decode cX7_lowestBits 22 = .ok (.goto 4, 3) := by decide +kernel
theorem dX7_lowestBits_25 : decode cX7_lowestBits 25 = .ok (.iload_n 1, 1) := by decide +kernel
theorem dX7_lowestBits_26 : decode cX7_lowestBits 26 = .ok (.ireturn, 1) := by decide +kernel
theorem dX7_leastNumber_0 : decode cX7_leastNumber 0 = .ok (.aload_n 0, 1) := by decide +kernel
theorem dX7_leastNumber_1 : decode cX7_leastNumber 1 = .ok (.getfield 15, 3) := by decide +kernel
theorem dX7_leastNumber_4 : decode cX7_leastNumber 4 = .ok (.ifCond .ne 8, 3) := by decide +kernel
theorem dX7_leastNumber_7 : decode cX7_leastNumber 7 = .ok (.bipush (-128), 2) := by decide +kernel
theorem dX7_leastNumber_9 : decode cX7_leastNumber 9 = .ok (.goto 19, 3) := by decide +kernel
theorem dX7_leastNumber_12 : decode cX7_leastNumber 12 = .ok (.aload_n 0, 1) := by decide +kernel
theorem dX7_leastNumber_13 : decode cX7_leastNumber 13 = .ok (.getfield 15, 3) := by decide +kernel
theorem dX7_leastNumber_16 : decode cX7_leastNumber 16 = .ok (.iconst 1, 1) := by decide +kernel
theorem dX7_leastNumber_17 : decode cX7_leastNumber 17 = .ok (.if_icmp .ne 9, 3) := by decide +kernel
theorem dX7_leastNumber_20 : decode cX7_leastNumber 20 = .ok (.sipush (-32768), 3) := by decide +kernel
theorem dX7_leastNumber_23 : decode cX7_leastNumber 23 = .ok (.goto 5, 3) := by decide +kernel
theorem dX7_leastNumber_26 : decode cX7_leastNumber 26 = .ok (.ldc 24, 2) := by decide +kernel
theorem dX7_leastNumber_28 : decode cX7_leastNumber 28 = .ok (.ireturn, 1) := by decide +kernel
theorem dX7_isTiredAt_0 : decode cX7_isTiredAt 0 = .ok (.aload_n 0, 1) := by decide +kernel
theorem dX7_isTiredAt_1 : decode cX7_isTiredAt 1 = .ok (.invokevirtual 25, 3) := by decide +kernel
theorem dX7_isTiredAt_4 : decode cX7_isTiredAt 4 = .ok (.istore_n 2, 1) := by decide +kernel
theorem dX7_isTiredAt_5 : decode cX7_isTiredAt 5 = .ok (.iload_n 1, 1) := by decide +kernel
theorem dX7_isTiredAt_6 : decode cX7_isTiredAt 6 = .ok (.istore_n 3, 1) := by decide +kernel
theorem dX7_isTiredAt_7 : decode cX7_isTiredAt 7 = .ok (.iload_n 3, 1) := by decide +kernel
theorem dX7_isTiredAt_8 : decode cX7_isTiredAt 8 = .ok (.iload_n 1, 1) := by decide +kernel
theorem dX7_isTiredAt_9 : decode cX7_isTiredAt 9 = .ok (.iconst 5, 1) := by decide +kernel
theorem dX7_isTiredAt_10 : decode cX7_isTiredAt 10 = .ok (.iadd, 1) := by decide +kernel
theorem dX7_isTiredAt_11 : decode cX7_isTiredAt 11 = .ok (.if_icmp .ge 29, 3) := by decide +kernel
theorem dX7_isTiredAt_14 : decode cX7_isTiredAt 14 = .ok (.iload_n 3, 1) := by decide +kernel
theorem dX7_isTiredAt_15 : decode cX7_isTiredAt 15 = .ok (.aload_n 0, 1) := by decide +kernel
theorem dX7_isTiredAt_16 : decode cX7_isTiredAt 16 = .ok (.getfield 19, 3) := by decide +kernel
theorem dX7_isTiredAt_19 : decode cX7_isTiredAt 19 = .ok (.if_icmp .ge 21, 3) := by decide +kernel
theorem dX7_isTiredAt_22 : decode cX7_isTiredAt 22 = .ok (.aload_n 0, 1) := by decide +kernel
theorem dX7_isTiredAt_23 : decode cX7_isTiredAt 23 = .ok (.getfield 9, 3) := by decide +kernel
theorem dX7_isTiredAt_26 : decode cX7_isTiredAt 26 = .ok (.iload_n 3, 1) := by decide +kernel
theorem dX7_isTiredAt_27 : decode cX7_isTiredAt 27 = .ok (.iaload, 1) := by decide +kernel
theorem dX7_isTiredAt_28 : decode cX7_isTiredAt 28 = .ok (.iload_n 2, 1) := by decide +kernel
theorem dX7_isTiredAt_29 : decode cX7_isTiredAt 29 = .ok (.if_icmp .ne 5, 3) := by decide +kernel
theorem dX7_isTiredAt_32 : decode cX7_isTiredAt 32 = .ok (.iconst 1, 1) := by decide +kernel
theorem dX7_isTiredAt_33 : decode cX7_isTiredAt 33 = .ok (.ireturn, 1) := by decide +kernel
theorem dX7_isTiredAt_34 : decode cX7_isTiredAt 34 = .ok (.iinc 3 1, 3) := by decide +kernel
theorem dX7_isTiredAt_37 : decode cX7_isTiredAt 37 = .ok (.goto (-30), 3) := by decide +kernel
theorem dX7_isTiredAt_40 : decode cX7_isTiredAt 40 = .ok (.iconst 0, 1) := by decide +kernel
theorem dX7_isTiredAt_41 : decode cX7_isTiredAt 41 = .ok (.ireturn, 1) := by decide +kernel
theorem dX8_init_0 : decode cX8_init 0 = .ok (.aload_n 0, 1) := by decide +kernel
theorem dX8_init_1 : decode cX8_init 1 = .ok (.invokespecial 3, 3) := by decide +kernel
theorem dX8_init_4 : decode cX8_init 4 = .ok (.aload_n 0, 1) := by decide +kernel
theorem dX8_init_5 : decode cX8_init 5 = .ok (.bipush 7, 2) := by decide +kernel
theorem dX8_init_7 : decode cX8_init 7 = .ok (.newarray .int, 2) := by decide +kernel
theorem dX8_init_9 : decode cX8_init 9 = .ok (.putfield 9, 3) := by decide +kernel
theorem dX8_init_12 : decode cX8_init 12 = .ok (.aload_n 0, 1) := by decide +kernel
theorem dX8_init_13 : decode cX8_init 13 = .ok (.iconst 0, 1) := by decide +kernel
theorem dX8_init_14 : decode cX8_init 14 = .ok (.newarray .int, 2) := by decide +kernel
theorem dX8_init_16 : decode cX8_init 16 = .ok (.putfield 15, 3) := by decide +kernel
theorem dX8_init_19 : decode cX8_init 19 = .ok (.return_, 1) := by decide +kernel
theorem dX8_findFault_0 : decode cX8_findFault 0 = .ok (.aload_n 0, 1) := by decide +kernel
theorem dX8_findFault_1 : decode cX8_findFault 1 = .ok (.aload_n 1, 1) := by decide +kernel
theorem dX8_findFault_2 : decode cX8_findFault 2 = .ok (.iload_n 2, 1) := by decide +kernel
theorem dX8_findFault_3 : decode cX8_findFault 3 = .ok (.invokevirtual 18, 3) := by decide +kernel
theorem dX8_findFault_6 : decode cX8_findFault 6 = .ok (.aload_n 0, 1) := by decide +kernel
theorem dX8_findFault_7 : decode cX8_findFault 7 = .ok (.iconst 0, 1) := by decide +kernel
theorem dX8_findFault_8 : decode cX8_findFault 8 = .ok (.invokevirtual 22, 3) := by decide +kernel
theorem dX8_findFault_11 : decode cX8_findFault 11 = .ok (.pop, 1) := by decide +kernel
theorem dX8_findFault_12 : decode cX8_findFault 12 = .ok (.aload_n 0, 1) := by decide +kernel
theorem dX8_findFault_13 : decode cX8_findFault 13 = .ok (.getfield 26, 3) := by decide +kernel
theorem dX8_findFault_16 : decode cX8_findFault 16 = .ok (.ifCond .ne 13, 3) := by decide +kernel
theorem dX8_findFault_19 : decode cX8_findFault 19 = .ok (.aload_n 0, 1) := by decide +kernel
theorem dX8_findFault_20 : decode cX8_findFault 20 = .ok (.getfield 30, 3) := by decide +kernel
theorem dX8_findFault_23 : decode cX8_findFault 23 = .ok (.sipush 256, 3) := by decide +kernel
theorem dX8_findFault_26 : decode cX8_findFault 26 = .ok (.if_icmp .eq 10, 3) := by decide +kernel
theorem dX8_findFault_29 : decode cX8_findFault 29 = .ok (.aload_n 0, 1) := by decide +kernel
theorem dX8_findFault_30 : decode cX8_findFault 30 = .ok (.getfield 34, 3) := by decide +kernel
theorem dX8_findFault_33 : decode cX8_findFault 33 = .ok (.goto 5, 3) := by decide +kernel
theorem dX8_findFault_36 : decode cX8_findFault 36 = .ok (.bipush (-4), 2) := by decide +kernel
theorem dX8_findFault_38 : decode cX8_findFault 38 = .ok (.ireturn, 1) := by decide +kernel
theorem dX8_workOut_0 : decode cX8_workOut 0 = .ok (.aload_n 0, 1) := by decide +kernel
theorem dX8_workOut_1 : decode cX8_workOut 1 = .ok (.getfield 9, 3) := by decide +kernel
theorem dX8_workOut_4 : decode cX8_workOut 4 = .ok (.iconst 0, 1) := by decide +kernel
theorem dX8_workOut_5 : decode cX8_workOut 5 = .ok (.aload_n 2, 1) := by decide +kernel
theorem dX8_workOut_6 : decode cX8_workOut 6 = .ok (.aload_n 1, 1) := by decide +kernel
theorem dX8_workOut_7 : decode cX8_workOut 7 = .ok (.getfield 37, 3) := by decide +kernel
theorem dX8_workOut_10 : decode cX8_workOut 10 = .ok (.invokevirtual 42, 3) := by decide +kernel
theorem dX8_workOut_13 : decode cX8_workOut 13 = .ok (.iastore, 1) := by decide +kernel
theorem dX8_workOut_14 : decode cX8_workOut 14 = .ok (.aload_n 0, 1) := by decide +kernel
theorem dX8_workOut_15 : decode cX8_workOut 15 = .ok (.getfield 9, 3) := by decide +kernel
theorem dX8_workOut_18 : decode cX8_workOut 18 = .ok (.iconst 1, 1) := by decide +kernel
theorem dX8_workOut_19 : decode cX8_workOut 19 = .ok (.aload_n 2, 1) := by decide +kernel
theorem dX8_workOut_20 : decode cX8_workOut 20 = .ok (.getfield 47, 3) := by decide +kernel
theorem dX8_workOut_23 : decode cX8_workOut 23 = .ok (.iastore, 1) := by decide +kernel
theorem dX8_workOut_24 : decode cX8_workOut 24 = .ok (.aload_n 0, 1) := by decide +kernel
theorem dX8_workOut_25 : decode cX8_workOut 25 = .ok (.getfield 9, 3) := by decide +kernel
theorem dX8_workOut_28 : decode cX8_workOut 28 = .ok (.iconst 2, 1) := by decide +kernel
theorem dX8_workOut_29 : decode cX8_workOut 29 = .ok (.aload_n 2, 1) := by decide +kernel
theorem dX8_workOut_30 : decode cX8_workOut 30 = .ok (.getfield 50, 3) := by decide +kernel
theorem dX8_workOut_33 : decode cX8_workOut 33 = .ok (.iastore, 1) := by decide +kernel
theorem dX8_workOut_34 : decode cX8_workOut 34 = .ok (.aload_n 0, 1) := by decide +kernel
theorem dX8_workOut_35 : decode cX8_workOut 35 = .ok (.getfield 9, 3) := by decide +kernel
theorem dX8_workOut_38 : decode cX8_workOut 38 = .ok (.iconst 3, 1) := by decide +kernel
theorem dX8_workOut_39 : decode cX8_workOut 39 = .ok (.aload_n 2, 1) := by decide +kernel
theorem dX8_workOut_40 : decode cX8_workOut 40 = .ok (.getfield 53, 3) := by decide +kernel
theorem dX8_workOut_43 : decode cX8_workOut 43 = .ok (.iastore, 1) := by decide +kernel
theorem dX8_workOut_44 : decode cX8_workOut 44 = .ok (.aload_n 0, 1) := by decide +kernel
theorem dX8_workOut_45 : decode cX8_workOut 45 = .ok (.getfield 9, 3) := by decide +kernel
theorem dX8_workOut_48 : decode cX8_workOut 48 = .ok (.iconst 4, 1) := by decide +kernel
theorem dX8_workOut_49 : decode cX8_workOut 49 = .ok (.aload_n 2, 1) := by decide +kernel
theorem dX8_workOut_50 : decode cX8_workOut 50 = .ok (.aload_n 1, 1) := by decide +kernel
theorem dX8_workOut_51 : decode cX8_workOut 51 = .ok (.getfield 37, 3) := by decide +kernel
theorem dX8_workOut_54 : decode cX8_workOut 54 = .ok (.invokevirtual 56, 3) := by decide +kernel
theorem dX8_workOut_57 : decode cX8_workOut 57 = .ok (.iastore, 1) := by decide +kernel
theorem dX8_workOut_58 : decode cX8_workOut 58 = .ok (.aload_n 0, 1) := by decide +kernel
theorem dX8_workOut_59 : decode cX8_workOut 59 = .ok (.getfield 9, 3) := by decide +kernel
theorem dX8_workOut_62 : decode cX8_workOut 62 = .ok (.iconst 5, 1) := by decide +kernel
theorem dX8_workOut_63 : decode cX8_workOut 63 = .ok (.aload_n 1, 1) := by decide +kernel
theorem dX8_workOut_64 : decode cX8_workOut 64 = .ok (.getfield 37, 3) := by decide +kernel
theorem dX8_workOut_67 : decode cX8_workOut 67 = .ok (.iastore, 1) := by decide +kernel
theorem dX8_workOut_68 : decode cX8_workOut 68 = .ok (.aload_n 0, 1) := by decide +kernel
theorem dX8_workOut_69 : decode cX8_workOut 69 = .ok (.getfield 9, 3) := by decide +kernel
theorem dX8_workOut_72 : decode cX8_workOut 72 = .ok (.bipush 6, 2) := by decide +kernel
theorem dX8_workOut_74 : decode cX8_workOut 74 = .ok (.aload_n 2, 1) := by decide +kernel
theorem dX8_workOut_75 : decode cX8_workOut 75 = .ok (.getfield 59, 3) := by decide +kernel
theorem dX8_workOut_78 : decode cX8_workOut 78 = .ok (.iastore, 1) := by decide +kernel
theorem dX8_workOut_79 : decode cX8_workOut 79 = .ok (.aload_n 0, 1) := by decide +kernel
theorem dX8_workOut_80 : decode cX8_workOut 80 = .ok (.aload_n 1, 1) := by decide +kernel
theorem dX8_workOut_81 : decode cX8_workOut 81 = .ok (.getfield 62, 3) := by decide +kernel
theorem dX8_workOut_84 : decode cX8_workOut 84 = .ok (.aload_n 1, 1) := by decide +kernel
theorem dX8_workOut_85 : decode cX8_workOut 85 = .ok (.getfield 65, 3) := by decide +kernel
theorem dX8_workOut_88 : decode cX8_workOut 88 = .ok (.invokevirtual 18, 3) := by decide +kernel
theorem dX8_workOut_91 : decode cX8_workOut 91 = .ok (.aload_n 0, 1) := by decide +kernel
theorem dX8_workOut_92 : decode cX8_workOut 92 = .ok (.iconst 0, 1) := by decide +kernel
theorem dX8_workOut_93 : decode cX8_workOut 93 = .ok (.invokevirtual 22, 3) := by decide +kernel
theorem dX8_workOut_96 : decode cX8_workOut 96 = .ok (.ireturn, 1) := by decide +kernel
theorem dX8_begin_0 : decode cX8_begin 0 = .ok (.aload_n 0, 1) := by decide +kernel
theorem dX8_begin_1 : decode cX8_begin 1 = .ok (.aload_n 1, 1) := by decide +kernel
theorem dX8_begin_2 : decode cX8_begin 2 = .ok (.putfield 15, 3) := by decide +kernel
theorem dX8_begin_5 : decode cX8_begin 5 = .ok (.aload_n 0, 1) := by decide +kernel
theorem dX8_begin_6 : decode cX8_begin 6 = .ok (.iload_n 2, 1) := by decide +kernel
theorem dX8_begin_7 : decode cX8_begin 7 = .ok (.aload_n 1, 1) := by decide +kernel
theorem dX8_begin_8 : decode cX8_begin 8 = .ok (.arraylength, 1) := by decide +kernel
theorem dX8_begin_9 : decode cX8_begin 9 = .ok (.invokestatic 68, 3) := by decide +kernel
theorem dX8_begin_12 : decode cX8_begin 12 = .ok (.putfield 74, 3) := by decide +kernel
theorem dX8_begin_15 : decode cX8_begin 15 = .ok (.aload_n 0, 1) := by decide +kernel
theorem dX8_begin_16 : decode cX8_begin 16 = .ok (.iconst (-1), 1) := by decide +kernel
theorem dX8_begin_17 : decode cX8_begin 17 = .ok (.putfield 34, 3) := by decide +kernel
theorem dX8_begin_20 : decode cX8_begin 20 = .ok (.aload_n 0, 1) := by decide +kernel
theorem dX8_begin_21 : decode cX8_begin 21 = .ok (.iconst 0, 1) := by decide +kernel
theorem dX8_begin_22 : decode cX8_begin 22 = .ok (.putfield 26, 3) := by decide +kernel
theorem dX8_begin_25 : decode cX8_begin 25 = .ok (.aload_n 0, 1) := by decide +kernel
theorem dX8_begin_26 : decode cX8_begin 26 = .ok (.invokevirtual 77, 3) := by decide +kernel
theorem dX8_begin_29 : decode cX8_begin 29 = .ok (.return_, 1) := by decide +kernel
theorem dX8_step_0 : decode cX8_step 0 = .ok (.aload_n 0, 1) := by decide +kernel
theorem dX8_step_1 : decode cX8_step 1 = .ok (.dup, 1) := by decide +kernel
theorem dX8_step_2 : decode cX8_step 2 = .ok (.getfield 34, 3) := by decide +kernel
theorem dX8_step_5 : decode cX8_step 5 = .ok (.iconst 1, 1) := by decide +kernel
theorem dX8_step_6 : decode cX8_step 6 = .ok (.iadd, 1) := by decide +kernel
theorem dX8_step_7 : decode cX8_step 7 = .ok (.putfield 34, 3) := by decide +kernel
theorem dX8_step_10 : decode cX8_step 10 = .ok (.aload_n 0, 1) := by decide +kernel
theorem dX8_step_11 : decode cX8_step 11 = .ok (.aload_n 0, 1) := by decide +kernel
theorem dX8_step_12 : decode cX8_step 12 = .ok (.getfield 34, 3) := by decide +kernel
theorem dX8_step_15 : decode cX8_step 15 = .ok (.aload_n 0, 1) := by decide +kernel
theorem dX8_step_16 : decode cX8_step 16 = .ok (.getfield 74, 3) := by decide +kernel
theorem dX8_step_19 : decode cX8_step 19 = .ok (.if_icmp .ge 15, 3) := by decide +kernel
theorem dX8_step_22 : decode cX8_step 22 = .ok (.aload_n 0, 1) := by decide +kernel
theorem dX8_step_23 : decode cX8_step 23 = .ok (.getfield 15, 3) := by decide +kernel
theorem dX8_step_26 : decode cX8_step 26 = .ok (.aload_n 0, 1) := by decide +kernel
theorem dX8_step_27 : decode cX8_step 27 = .ok (.getfield 34, 3) := by decide +kernel
theorem dX8_step_30 : decode cX8_step 30 = .ok (.iaload, 1) := by decide +kernel
theorem dX8_step_31 : decode cX8_step 31 = .ok (.goto 6, 3) := by decide +kernel
theorem dX8_step_34 : decode cX8_step 34 = .ok (.sipush 256, 3) := by decide +kernel
theorem dX8_step_37 : decode cX8_step 37 = .ok (.putfield 30, 3) := by decide +kernel
theorem dX8_step_40 : decode cX8_step 40 = .ok (.return_, 1) := by decide +kernel
theorem dX8_expect_0 : decode cX8_expect 0 = .ok (.aload_n 0, 1) := by decide +kernel
theorem dX8_expect_1 : decode cX8_expect 1 = .ok (.getfield 26, 3) := by decide +kernel
theorem dX8_expect_4 : decode cX8_expect 4 = .ok (.ifCond .ne 11, 3) := by decide +kernel
theorem dX8_expect_7 : decode cX8_expect 7 = .ok (.aload_n 0, 1) := by decide +kernel
theorem dX8_expect_8 : decode cX8_expect 8 = .ok (.getfield 30, 3) := by decide +kernel
theorem dX8_expect_11 : decode cX8_expect 11 = .ok (.iload_n 1, 1) := by decide +kernel
theorem dX8_expect_12 : decode cX8_expect 12 = .ok (.if_icmp .eq 9, 3) := by decide +kernel
theorem dX8_expect_15 : decode cX8_expect 15 = .ok (.aload_n 0, 1) := by decide +kernel
theorem dX8_expect_16 : decode cX8_expect 16 = .ok (.iconst 1, 1) := by decide +kernel
theorem dX8_expect_17 : decode cX8_expect 17 = .ok (.putfield 26, 3) := by decide +kernel
theorem dX8_expect_20 : decode cX8_expect 20 = .ok (.return_, 1) := by decide +kernel
theorem dX8_expect_21 : decode cX8_expect 21 = .ok (.aload_n 0, 1) := by decide +kernel
theorem dX8_expect_22 : decode cX8_expect 22 = .ok (.invokevirtual 77, 3) := by decide +kernel
theorem dX8_expect_25 : decode cX8_expect 25 = .ok (.return_, 1) := by decide +kernel
theorem dX8_readSum_0 : decode cX8_readSum 0 = .ok (.aload_n 0, 1) := by decide +kernel
theorem dX8_readSum_1 : decode cX8_readSum 1 = .ok (.iload_n 1, 1) := by decide +kernel
theorem dX8_readSum_2 : decode cX8_readSum 2 = .ok (.invokevirtual 80, 3) := by decide +kernel
theorem dX8_readSum_5 : decode cX8_readSum 5 = .ok (.istore_n 2, 1) := by decide +kernel
theorem dX8_readSum_6 : decode cX8_readSum 6 = .ok (.iconst 0, 1) := by decide +kernel
theorem dX8_readSum_7 : decode cX8_readSum 7 = .ok (.istore_n 3, 1) := by decide +kernel
theorem dX8_readSum_8 : decode cX8_readSum 8 = .ok (.iload_n 3, 1) := by decide +kernel
theorem dX8_readSum_9 : decode cX8_readSum 9 = .ok (.aload_n 0, 1) := by decide +kernel
theorem dX8_readSum_10 : decode cX8_readSum 10 = .ok (.getfield 74, 3) := by decide +kernel
theorem dX8_readSum_13 : decode cX8_readSum 13 = .ok (.if_icmp .ge 78, 3) := by decide +kernel
theorem dX8_readSum_16 : decode cX8_readSum 16 = .ok (.aload_n 0, 1) := by decide +kernel
theorem dX8_readSum_17 : decode cX8_readSum 17 = .ok (.getfield 26, 3) := by decide +kernel
theorem dX8_readSum_20 : decode cX8_readSum 20 = .ok (.ifCond .ne 71, 3) := by decide +kernel
theorem dX8_readSum_23 : decode cX8_readSum 23 = .ok (.aload_n 0, 1) := by decide +kernel
theorem dX8_readSum_24 : decode cX8_readSum 24 = .ok (.getfield 30, 3) := by decide +kernel
theorem dX8_readSum_27 : decode cX8_readSum 27 = .ok (.bipush 43, 2) := by decide +kernel
theorem dX8_readSum_29 : decode cX8_readSum 29 = .ok (.if_icmp .eq 12, 3) := by decide +kernel
theorem dX8_readSum_32 : decode cX8_readSum 32 = .ok (.aload_n 0, 1) := by decide +kernel
theorem dX8_readSum_33 : decode cX8_readSum 33 = .ok (.getfield 30, 3) := by decide +kernel
theorem dX8_readSum_36 : decode cX8_readSum 36 = .ok (.bipush 45, 2) := by decide +kernel
theorem dX8_readSum_38 : decode cX8_readSum 38 = .ok (.if_icmp .ne 53, 3) := by decide +kernel
theorem dX8_readSum_41 : decode cX8_readSum 41 = .ok (.aload_n 0, 1) := by decide +kernel
theorem dX8_readSum_42 : decode cX8_readSum 42 = .ok (.getfield 30, 3) := by decide +kernel
theorem dX8_readSum_45 : decode cX8_readSum 45 = .ok (.bipush 43, 2) := by decide +kernel
theorem dX8_readSum_47 : decode cX8_readSum 47 = .ok (.if_icmp .ne 7, 3) := by decide +kernel
theorem dX8_readSum_50 : decode cX8_readSum 50 = .ok (.iconst 1, 1) := by decide +kernel
theorem dX8_readSum_51 : decode cX8_readSum 51 = .ok (.goto 4, 3) := by decide +kernel
theorem dX8_readSum_54 : decode cX8_readSum 54 = .ok (.iconst 0, 1) := by decide +kernel
theorem dX8_readSum_55 : decode cX8_readSum 55 = .ok (.istore 4, 2) := by decide +kernel
theorem dX8_readSum_57 : decode cX8_readSum 57 = .ok (.aload_n 0, 1) := by decide +kernel
theorem dX8_readSum_58 : decode cX8_readSum 58 = .ok (.invokevirtual 77, 3) := by decide +kernel
theorem dX8_readSum_61 : decode cX8_readSum 61 = .ok (.aload_n 0, 1) := by decide +kernel
theorem dX8_readSum_62 : decode cX8_readSum 62 = .ok (.iload_n 1, 1) := by decide +kernel
theorem dX8_readSum_63 : decode cX8_readSum 63 = .ok (.invokevirtual 80, 3) := by decide +kernel
theorem dX8_readSum_66 : decode cX8_readSum 66 = .ok (.istore 5, 2) := by decide +kernel
theorem dX8_readSum_68 : decode cX8_readSum 68 = .ok (.iload 4, 2) := by decide +kernel
theorem dX8_readSum_70 : decode cX8_readSum 70 = .ok (.ifCond .eq 10, 3) := by decide +kernel
theorem dX8_readSum_73 : decode cX8_readSum 73 = .ok (.iload_n 2, 1) := by decide +kernel
theorem dX8_readSum_74 : decode cX8_readSum 74 = .ok (.iload 5, 2) := by decide +kernel
theorem dX8_readSum_76 : decode cX8_readSum 76 = .ok (.iadd, 1) := by decide +kernel
theorem dX8_readSum_77 : decode cX8_readSum 77 = .ok (.goto 7, 3) := by decide +kernel
theorem dX8_readSum_80 : decode cX8_readSum 80 = .ok (.iload_n 2, 1) := by decide +kernel
theorem dX8_readSum_81 : decode cX8_readSum 81 = .ok (.iload 5, 2) := by decide +kernel
theorem dX8_readSum_83 : decode cX8_readSum 83 = .ok (.isub, 1) := by decide +kernel
theorem dX8_readSum_84 : decode cX8_readSum 84 = .ok (.istore_n 2, 1) := by decide +kernel
theorem dX8_readSum_85 : decode cX8_readSum 85 = .ok (.iinc 3 1, 3) := by decide +kernel
theorem dX8_readSum_88 : decode cX8_readSum 88 = .ok (.goto (-80), 3) := by decide +kernel
theorem dX8_readSum_91 : decode cX8_readSum 91 = .ok (.iload_n 2, 1) := by decide +kernel
theorem dX8_readSum_92 : decode cX8_readSum 92 = .ok (.ireturn, 1) := by decide +kernel
theorem dX8_readProduct_0 : decode cX8_readProduct 0 = .ok (.aload_n 0, 1) := by decide +kernel
theorem dX8_readProduct_1 : decode cX8_readProduct 1 = .ok (.iload_n 1, 1) := by decide +kernel
theorem dX8_readProduct_2 : decode cX8_readProduct 2 = .ok (.invokevirtual 83, 3) := by decide +kernel
theorem dX8_readProduct_5 : decode cX8_readProduct 5 = .ok (.istore_n 2, 1) := by decide +kernel
theorem dX8_readProduct_6 : decode cX8_readProduct 6 = .ok (.iconst 0, 1) := by decide +kernel
theorem dX8_readProduct_7 : decode cX8_readProduct 7 = .ok (.istore_n 3, 1) := by decide +kernel
theorem dX8_readProduct_8 : decode cX8_readProduct 8 = .ok (.iload_n 3, 1) := by decide +kernel
theorem dX8_readProduct_9 : decode cX8_readProduct 9 = .ok (.aload_n 0, 1) := by decide +kernel
theorem dX8_readProduct_10 : decode cX8_readProduct 10 = .ok (.getfield 74, 3) := by decide +kernel
theorem dX8_readProduct_13 : decode cX8_readProduct 13 = .ok (.if_icmp .ge 88, 3) := by decide +kernel
theorem dX8_readProduct_16 : decode cX8_readProduct 16 = .ok (.aload_n 0, 1) := by decide +kernel
theorem dX8_readProduct_17 : decode cX8_readProduct 17 = .ok (.getfield 26, 3) := by decide +kernel
theorem dX8_readProduct_20 : decode cX8_readProduct 20 = .ok (.ifCond .ne 81, 3) := by decide +kernel
theorem dX8_readProduct_23 : decode cX8_readProduct 23 = .ok (.aload_n 0, 1) := by decide +kernel
theorem dX8_readProduct_24 : decode cX8_readProduct 24 = .ok (.getfield 30, 3) := by decide +kernel
theorem dX8_readProduct_27 : decode cX8_readProduct 27 = .ok (.bipush 42, 2) := by decide +kernel
theorem dX8_readProduct_29 : decode cX8_readProduct 29 = .ok (.if_icmp .eq 12, 3) := by decide +kernel
theorem dX8_readProduct_32 : decode cX8_readProduct 32 = .ok (.aload_n 0, 1) := by decide +kernel
theorem dX8_readProduct_33 : decode cX8_readProduct 33 = .ok (.getfield 30, 3) := by decide +kernel
theorem dX8_readProduct_36 : decode cX8_readProduct 36 = .ok (.bipush 47, 2) := by decide +kernel
theorem dX8_readProduct_38 : decode cX8_readProduct 38 = .ok (.if_icmp .ne 63, 3) := by decide +kernel
theorem dX8_readProduct_41 : decode cX8_readProduct 41 = .ok (.aload_n 0, 1) := by decide +kernel
theorem dX8_readProduct_42 : decode cX8_readProduct 42 = .ok (.getfield 30, 3) := by decide +kernel
theorem dX8_readProduct_45 : decode cX8_readProduct 45 = .ok (.bipush 42, 2) := by decide +kernel
theorem dX8_readProduct_47 : decode cX8_readProduct 47 = .ok (.if_icmp .ne 7, 3) := by decide +kernel
theorem dX8_readProduct_50 : decode cX8_readProduct 50 = .ok (.iconst 1, 1) := by decide +kernel
theorem dX8_readProduct_51 : decode cX8_readProduct 51 = .ok (.goto 4, 3) := by decide +kernel
theorem dX8_readProduct_54 : decode cX8_readProduct 54 = .ok (.iconst 0, 1) := by decide +kernel
theorem dX8_readProduct_55 : decode cX8_readProduct 55 = .ok (.istore 4, 2) := by decide +kernel
theorem dX8_readProduct_57 : decode cX8_readProduct 57 = .ok (.aload_n 0, 1) := by decide +kernel
theorem dX8_readProduct_58 : decode cX8_readProduct 58 = .ok (.invokevirtual 77, 3) := by decide +kernel
theorem dX8_readProduct_61 : decode cX8_readProduct 61 = .ok (.aload_n 0, 1) := by decide +kernel
theorem dX8_readProduct_62 : decode cX8_readProduct 62 = .ok (.iload_n 1, 1) := by decide +kernel
theorem dX8_readProduct_63 : decode cX8_readProduct 63 = .ok (.invokevirtual 83, 3) := by decide +kernel
theorem dX8_readProduct_66 : decode cX8_readProduct 66 = .ok (.istore 5, 2) := by decide +kernel
theorem dX8_readProduct_68 : decode cX8_readProduct 68 = .ok (.iload 4, 2) := by decide +kernel
theorem dX8_readProduct_70 : decode cX8_readProduct 70 = .ok (.ifCond .eq 11, 3) := by decide +kernel
theorem dX8_readProduct_73 : decode cX8_readProduct 73 = .ok (.iload_n 2, 1) := by decide +kernel
theorem dX8_readProduct_74 : decode cX8_readProduct 74 = .ok (.iload 5, 2) := by decide +kernel
theorem dX8_readProduct_76 : decode cX8_readProduct 76 = .ok (.imul, 1) := by decide +kernel
theorem dX8_readProduct_77 : decode cX8_readProduct 77 = .ok (.istore_n 2, 1) := by decide +kernel
theorem dX8_readProduct_78 : decode cX8_readProduct 78 = .ok (.goto 17, 3) := by decide +kernel
theorem dX8_readProduct_81 : decode cX8_readProduct 81 = .ok (.iload 5, 2) := by decide +kernel
theorem dX8_readProduct_83 : decode cX8_readProduct 83 = .ok (.ifCond .ne 7, 3) := by decide +kernel
theorem dX8_readProduct_86 : decode cX8_readProduct 86 = .ok (.iconst 0, 1) := by decide +kernel
theorem dX8_readProduct_87 : decode cX8_readProduct 87 = .ok (.goto 7, 3) := by decide +kernel
theorem dX8_readProduct_90 : decode cX8_readProduct 90 = .ok (.iload_n 2, 1) := by decide +kernel
theorem dX8_readProduct_91 : decode cX8_readProduct 91 = .ok (.iload 5, 2) := by decide +kernel
theorem dX8_readProduct_93 : decode cX8_readProduct 93 = .ok (.idiv, 1) := by decide +kernel
theorem dX8_readProduct_94 : decode cX8_readProduct 94 = .ok (.istore_n 2, 1) := by decide +kernel
theorem dX8_readProduct_95 : decode cX8_readProduct 95 = .ok (.iinc 3 1, 3) := by decide +kernel
theorem dX8_readProduct_98 : decode cX8_readProduct 98 = .ok (.goto (-90), 3) := by decide +kernel
theorem dX8_readProduct_101 : decode cX8_readProduct 101 = .ok (.iload_n 2, 1) := by decide +kernel
theorem dX8_readProduct_102 : decode cX8_readProduct 102 = .ok (.ireturn, 1) := by decide +kernel
theorem dX8_readAtom_0 : decode cX8_readAtom 0 = .ok (.aload_n 0, 1) := by decide +kernel
theorem dX8_readAtom_1 : decode cX8_readAtom 1 = .ok (.getfield 30, 3) := by decide +kernel
theorem dX8_readAtom_4 : decode cX8_readAtom 4 = .ok (.istore_n 2, 1) := by decide +kernel
theorem dX8_readAtom_5 : decode cX8_readAtom 5 = .ok (.iload_n 2, 1) := by decide +kernel
theorem dX8_readAtom_6 : decode cX8_readAtom 6 = .ok (.bipush 48, 2) := by decide +kernel
theorem dX8_readAtom_8 : decode cX8_readAtom 8 = .ok (.bipush 57, 2) := by decide +kernel
theorem dX8_readAtom_10 : decode cX8_readAtom 10 = .ok (.invokestatic 86, 3) := by decide +kernel
theorem dX8_readAtom_13 : decode cX8_readAtom 13 = .ok (.ifCond .eq 8, 3) := by decide +kernel
theorem dX8_readAtom_16 : decode cX8_readAtom 16 = .ok (.aload_n 0, 1) := by decide +kernel
theorem dX8_readAtom_17 : decode cX8_readAtom 17 = .ok (.invokevirtual 90, 3) := by decide +kernel
theorem dX8_readAtom_20 : decode cX8_readAtom 20 = .ok (.ireturn, 1) := by decide +kernel
theorem dX8_readAtom_21 : decode cX8_readAtom 21 = .ok (.iload_n 2, 1) := by decide +kernel
theorem dX8_readAtom_22 : decode cX8_readAtom 22 = .ok (.bipush 40, 2) := by decide +kernel
theorem dX8_readAtom_24 : decode cX8_readAtom 24 = .ok (.if_icmp .eq 9, 3) := by decide +kernel
theorem dX8_readAtom_27 : decode cX8_readAtom 27 = .ok (.iload_n 2, 1) := by decide +kernel
theorem dX8_readAtom_28 : decode cX8_readAtom 28 = .ok (.bipush 91, 2) := by decide +kernel
theorem dX8_readAtom_30 : decode cX8_readAtom 30 = .ok (.if_icmp .ne 82, 3) := by decide +kernel
theorem dX8_readAtom_33 : decode cX8_readAtom 33 = .ok (.iload_n 1, 1) := by decide +kernel
theorem dX8_readAtom_34 : decode cX8_readAtom 34 = .ok (.bipush 6, 2) := by decide +kernel
theorem dX8_readAtom_36 : decode cX8_readAtom 36 = .ok (.if_icmp .lt 10, 3) := by decide +kernel
theorem dX8_readAtom_39 : decode cX8_readAtom 39 = .ok (.aload_n 0, 1) := by decide +kernel
theorem dX8_readAtom_40 : decode cX8_readAtom 40 = .ok (.iconst 1, 1) := by decide +kernel
theorem dX8_readAtom_41 : decode cX8_readAtom 41 = .ok (.putfield 26, 3) := by decide +kernel
theorem dX8_readAtom_44 : decode cX8_readAtom 44 = .ok (.iconst 0, 1) := by decide +kernel
theorem dX8_readAtom_45 : decode cX8_readAtom 45 = .ok (.ireturn, 1) := by decide +kernel
theorem dX8_readAtom_46 : decode cX8_readAtom 46 = .ok (.aload_n 0, 1) := by decide +kernel
theorem dX8_readAtom_47 : decode cX8_readAtom 47 = .ok (.invokevirtual 77, 3) := by decide +kernel
theorem dX8_readAtom_50 : decode cX8_readAtom 50 = .ok (.aload_n 0, 1) := by decide +kernel
theorem dX8_readAtom_51 : decode cX8_readAtom 51 = .ok (.iload_n 1, 1) := by decide +kernel
theorem dX8_readAtom_52 : decode cX8_readAtom 52 = .ok (.iconst 1, 1) := by decide +kernel
theorem dX8_readAtom_53 : decode cX8_readAtom 53 = .ok (.iadd, 1) := by decide +kernel
theorem dX8_readAtom_54 : decode cX8_readAtom 54 = .ok (.invokevirtual 22, 3) := by decide +kernel
theorem dX8_readAtom_57 : decode cX8_readAtom 57 = .ok (.istore_n 3, 1) := by decide +kernel
theorem dX8_readAtom_58 : decode cX8_readAtom 58 = .ok (.iload_n 2, 1) := by decide +kernel
theorem dX8_readAtom_59 : decode cX8_readAtom 59 = .ok (.bipush 91, 2) := by decide +kernel
theorem dX8_readAtom_61 : decode cX8_readAtom 61 = .ok (.if_icmp .ne 32, 3) := by decide +kernel
theorem dX8_readAtom_64 : decode cX8_readAtom 64 = .ok (.aload_n 0, 1) := by decide +kernel
theorem dX8_readAtom_65 : decode cX8_readAtom 65 = .ok (.bipush 44, 2) := by decide +kernel
theorem dX8_readAtom_67 : decode cX8_readAtom 67 = .ok (.invokevirtual 94, 3) := by decide +kernel
theorem dX8_readAtom_70 : decode cX8_readAtom 70 = .ok (.aload_n 0, 1) := by decide +kernel
theorem dX8_readAtom_71 : decode cX8_readAtom 71 = .ok (.getfield 26, 3) := by decide +kernel
theorem dX8_readAtom_74 : decode cX8_readAtom 74 = .ok (.ifCond .eq 7, 3) := by decide +kernel
theorem dX8_readAtom_77 : decode cX8_readAtom 77 = .ok (.iconst 0, 1) := by decide +kernel
theorem dX8_readAtom_78 : decode cX8_readAtom 78 = .ok (.goto 14, 3) := by decide +kernel
theorem dX8_readAtom_81 : decode cX8_readAtom 81 = .ok (.iload_n 3, 1) := by decide +kernel
theorem dX8_readAtom_82 : decode cX8_readAtom 82 = .ok (.aload_n 0, 1) := by decide +kernel
theorem dX8_readAtom_83 : decode cX8_readAtom 83 = .ok (.iload_n 1, 1) := by decide +kernel
theorem dX8_readAtom_84 : decode cX8_readAtom 84 = .ok (.iconst 1, 1) := by decide +kernel
theorem dX8_readAtom_85 : decode cX8_readAtom 85 = .ok (.iadd, 1) := by decide +kernel
theorem dX8_readAtom_86 : decode cX8_readAtom 86 = .ok (.invokevirtual 22, 3) := by decide +kernel
theorem dX8_readAtom_89 : decode cX8_readAtom 89 = .ok (.invokestatic 68, 3) := by decide +kernel
theorem dX8_readAtom_92 : decode cX8_readAtom 92 = .ok (.istore_n 3, 1) := by decide +kernel
theorem dX8_readAtom_93 : decode cX8_readAtom 93 = .ok (.aload_n 0, 1) := by decide +kernel
theorem dX8_readAtom_94 : decode cX8_readAtom 94 = .ok (.iload_n 2, 1) := by decide +kernel
theorem dX8_readAtom_95 : decode cX8_readAtom 95 = .ok (.bipush 40, 2) := by decide +kernel
theorem dX8_readAtom_97 : decode cX8_readAtom 97 = .ok (.if_icmp .ne 8, 3) := by decide +kernel
theorem dX8_readAtom_100 : decode cX8_readAtom 100 = .ok (.bipush 41, 2) := by decide +kernel
theorem dX8_readAtom_102 : decode cX8_readAtom 102 = .ok (.goto 5, 3) := by decide +kernel
theorem dX8_readAtom_105 : decode cX8_readAtom 105 = .ok (.bipush 93, 2) := by decide +kernel
theorem dX8_readAtom_107 : decode cX8_readAtom 107 = .ok (.invokevirtual 94, 3) := by decide +kernel
theorem dX8_readAtom_110 : decode cX8_readAtom 110 = .ok (.iload_n 3, 1) := by decide +kernel
theorem dX8_readAtom_111 : decode cX8_readAtom 111 = .ok (.ireturn, 1) := by decide +kernel
theorem dX8_readAtom_112 : decode cX8_readAtom 112 = .ok (.iconst 0, 1) := by decide +kernel
theorem dX8_readAtom_113 : decode cX8_readAtom 113 = .ok (.istore_n 3, 1) := by decide +kernel
theorem dX8_readAtom_114 : decode cX8_readAtom 114 = .ok (.iload_n 3, 1) := by decide +kernel
theorem dX8_readAtom_115 : decode cX8_readAtom 115 = .ok (.getstatic 98, 3) := by decide +kernel
theorem dX8_readAtom_118 : decode cX8_readAtom 118 = .ok (.arraylength, 1) := by decide +kernel
theorem dX8_readAtom_119 : decode cX8_readAtom 119 = .ok (.if_icmp .ge 38, 3) := by decide +kernel
theorem dX8_readAtom_122 : decode cX8_readAtom 122 = .ok (.iload_n 3, 1) := by decide +kernel
theorem dX8_readAtom_123 : decode cX8_readAtom 123 = .ok (.aload_n 0, 1) := by decide +kernel
theorem dX8_readAtom_124 : decode cX8_readAtom 124 = .ok (.getfield 9, 3) := by decide +kernel
theorem dX8_readAtom_127 : decode cX8_readAtom 127 = .ok (.arraylength, 1) := by decide +kernel
theorem dX8_readAtom_128 : decode cX8_readAtom 128 = .ok (.if_icmp .ge 29, 3) := by decide +kernel
theorem dX8_readAtom_131 : decode cX8_readAtom 131 = .ok (.getstatic 98, 3) := by decide +kernel
theorem dX8_readAtom_134 : decode cX8_readAtom 134 = .ok (.iload_n 3, 1) := by decide +kernel
theorem dX8_readAtom_135 : decode cX8_readAtom 135 = .ok (.caload, 1) := by decide +kernel
theorem dX8_readAtom_136 : decode cX8_readAtom 136 = .ok (.iload_n 2, 1) := by decide +kernel
theorem dX8_readAtom_137 : decode cX8_readAtom 137 = .ok (.if_icmp .ne 14, 3) := by decide +kernel
theorem dX8_readAtom_140 : decode cX8_readAtom 140 = .ok (.aload_n 0, 1) := by decide +kernel
theorem dX8_readAtom_141 : decode cX8_readAtom 141 = .ok (.invokevirtual 77, 3) := by decide +kernel
theorem dX8_readAtom_144 : decode cX8_readAtom 144 = .ok (.aload_n 0, 1) := by decide +kernel
theorem dX8_readAtom_145 : decode cX8_readAtom 145 = .ok (.getfield 9, 3) := by decide +kernel
theorem dX8_readAtom_148 : decode cX8_readAtom 148 = .ok (.iload_n 3, 1) := by decide +kernel
theorem dX8_readAtom_149 : decode cX8_readAtom 149 = .ok (.iaload, 1) := by decide +kernel
theorem dX8_readAtom_150 : decode cX8_readAtom 150 = .ok (.ireturn, 1) := by decide +kernel
theorem dX8_readAtom_151 : decode cX8_readAtom 151 = .ok (.iinc 3 1, 3) := by decide +kernel
theorem dX8_readAtom_154 : decode cX8_readAtom 154 = .ok (.goto (-40), 3) := by decide +kernel
theorem dX8_readAtom_157 : decode cX8_readAtom 157 = .ok (.aload_n 0, 1) := by decide +kernel
theorem dX8_readAtom_158 : decode cX8_readAtom 158 = .ok (.iconst 1, 1) := by decide +kernel
theorem dX8_readAtom_159 : decode cX8_readAtom 159 = .ok (.putfield 26, 3) := by decide +kernel
theorem dX8_readAtom_162 : decode cX8_readAtom 162 = .ok (.iconst 0, 1) := by decide +kernel
theorem dX8_readAtom_163 : decode cX8_readAtom 163 = .ok (.ireturn, 1) := by decide +kernel
theorem dX8_readNumber_0 : decode cX8_readNumber 0 = .ok (.aload_n 0, 1) := by decide +kernel
theorem dX8_readNumber_1 : decode cX8_readNumber 1 = .ok (.getfield 30, 3) := by decide +kernel
theorem dX8_readNumber_4 : decode cX8_readNumber 4 = .ok (.bipush 48, 2) := by decide +kernel
theorem dX8_readNumber_6 : decode cX8_readNumber 6 = .ok (.isub, 1) := by decide +kernel
theorem dX8_readNumber_7 : decode cX8_readNumber 7 = .ok (.istore_n 1, 1) := by decide +kernel
theorem dX8_readNumber_8 : decode cX8_readNumber 8 = .ok (.iload_n 1, 1) := by decide +kernel
theorem dX8_readNumber_9 : decode cX8_readNumber 9 = .ok (.ifCond .eq 7, 3) := by decide +kernel
theorem dX8_readNumber_12 : decode cX8_readNumber 12 = .ok (.iconst 1, 1) := by decide +kernel
theorem dX8_readNumber_13 : decode cX8_readNumber 13 = .ok (.goto 4, 3) := by decide +kernel
theorem dX8_readNumber_16 : decode cX8_readNumber 16 = .ok (.iconst 0, 1) := by decide +kernel
theorem dX8_readNumber_17 : decode cX8_readNumber 17 = .ok (.istore_n 2, 1) := by decide +kernel
theorem dX8_readNumber_18 : decode cX8_readNumber 18 = .ok (.aload_n 0, 1) := by decide +kernel
theorem dX8_readNumber_19 : decode cX8_readNumber 19 = .ok (.invokevirtual 77, 3) := by decide +kernel
theorem dX8_readNumber_22 : decode cX8_readNumber 22 = .ok (.iconst 1, 1) := by decide +kernel
theorem dX8_readNumber_23 : decode cX8_readNumber 23 = .ok (.istore_n 3, 1) := by decide +kernel
theorem dX8_readNumber_24 : decode cX8_readNumber 24 = .ok (.iload_n 3, 1) := by decide +kernel
theorem dX8_readNumber_25 : decode cX8_readNumber 25 = .ok (.iconst 4, 1) := by decide +kernel
theorem dX8_readNumber_26 : decode cX8_readNumber 26 = .ok (.if_icmp .ge 44, 3) := by decide +kernel
theorem dX8_readNumber_29 : decode cX8_readNumber 29 = .ok (.iload_n 2, 1) := by decide +kernel
theorem dX8_readNumber_30 : decode cX8_readNumber 30 = .ok (.ifCond .eq 40, 3) := by decide +kernel
theorem dX8_readNumber_33 : decode cX8_readNumber 33 = .ok (.aload_n 0, 1) := by decide +kernel
theorem dX8_readNumber_34 : decode cX8_readNumber 34 = .ok (.getfield 30, 3) := by decide +kernel
theorem dX8_readNumber_37 : decode cX8_readNumber 37 = .ok (.bipush 48, 2) := by decide +kernel
theorem dX8_readNumber_39 : decode cX8_readNumber 39 = .ok (.bipush 57, 2) := by decide +kernel
theorem dX8_readNumber_41 : decode cX8_readNumber 41 = .ok (.invokestatic 86, 3) := by decide +kernel
theorem dX8_readNumber_44 : decode cX8_readNumber 44 = .ok (.ifCond .eq 26, 3) := by decide +kernel
theorem dX8_readNumber_47 : decode cX8_readNumber 47 = .ok (.iload_n 1, 1) := by decide +kernel
theorem dX8_readNumber_48 : decode cX8_readNumber 48 = .ok (.bipush 10, 2) := by decide +kernel
theorem dX8_readNumber_50 : decode cX8_readNumber 50 = .ok (.imul, 1) := by decide +kernel
theorem dX8_readNumber_51 : decode cX8_readNumber 51 = .ok (.aload_n 0, 1) := by decide +kernel
theorem dX8_readNumber_52 : decode cX8_readNumber 52 = .ok (.getfield 30, 3) := by decide +kernel
theorem dX8_readNumber_55 : decode cX8_readNumber 55 = .ok (.iadd, 1) := by decide +kernel
theorem dX8_readNumber_56 : decode cX8_readNumber 56 = .ok (.bipush 48, 2) := by decide +kernel
theorem dX8_readNumber_58 : decode cX8_readNumber 58 = .ok (.isub, 1) := by decide +kernel
theorem dX8_readNumber_59 : decode cX8_readNumber 59 = .ok (.istore_n 1, 1) := by decide +kernel
theorem dX8_readNumber_60 : decode cX8_readNumber 60 = .ok (.aload_n 0, 1) := by decide +kernel
theorem dX8_readNumber_61 : decode cX8_readNumber 61 = .ok (.invokevirtual 77, 3) := by decide +kernel
theorem dX8_readNumber_64 : decode cX8_readNumber 64 = .ok (.iinc 3 1, 3) := by decide +kernel
theorem dX8_readNumber_67 : decode cX8_readNumber 67 = .ok (.goto (-43), 3) := by decide +kernel
theorem dX8_readNumber_70 : decode cX8_readNumber 70 = .ok (.iload_n 1, 1) := by decide +kernel
theorem dX8_readNumber_71 : decode cX8_readNumber 71 = .ok (.ireturn, 1) := by decide +kernel
theorem dX9_init_0 : decode cX9_init 0 = .ok (.aload_n 0, 1) := by decide +kernel
theorem dX9_init_1 : decode cX9_init 1 = .ok (.invokespecial 3, 3) := by decide +kernel
theorem dX9_init_4 : decode cX9_init 4 = .ok (.aload_n 0, 1) := by decide +kernel
theorem dX9_init_5 : decode cX9_init 5 = .ok (.iconst 0, 1) := by decide +kernel
theorem dX9_init_6 : decode cX9_init 6 = .ok (.putfield 9, 3) := by decide +kernel
theorem dX9_init_9 : decode cX9_init 9 = .ok (.aload_n 0, 1) := by decide +kernel
theorem dX9_init_10 : decode cX9_init 10 = .ok (.new 15, 3) := by decide +kernel
theorem dX9_init_13 : decode cX9_init 13 = .ok (.dup, 1) := by decide +kernel
theorem dX9_init_14 : decode cX9_init 14 = .ok (.invokespecial 17, 3) := by decide +kernel
theorem dX9_init_17 : decode cX9_init 17 = .ok (.putfield 18, 3) := by decide +kernel
theorem dX9_init_20 : decode cX9_init 20 = .ok (.aload_n 0, 1) := by decide +kernel
theorem dX9_init_21 : decode cX9_init 21 = .ok (.new 22, 3) := by decide +kernel
theorem dX9_init_24 : decode cX9_init 24 = .ok (.dup, 1) := by decide +kernel
theorem dX9_init_25 : decode cX9_init 25 = .ok (.invokespecial 24, 3) := by decide +kernel
theorem dX9_init_28 : decode cX9_init 28 = .ok (.putfield 25, 3) := by decide +kernel
theorem dX9_init_31 : decode cX9_init 31 = .ok (.return_, 1) := by decide +kernel
theorem dX10_init_0 : decode cX10_init 0 = .ok (.aload_n 0, 1) := by decide +kernel
theorem dX10_init_1 : decode cX10_init 1 = .ok (.invokespecial 3, 3) := by decide +kernel
theorem dX10_init_4 : decode cX10_init 4 = .ok (.aload_n 0, 1) := by decide +kernel
theorem dX10_init_5 : decode cX10_init 5 = .ok (.bipush 12, 2) := by decide +kernel
theorem dX10_init_7 : decode cX10_init 7 = .ok (.anewarray 9, 3) := by decide +kernel
theorem dX10_init_10 : decode cX10_init 10 = .ok (.putfield 11, 3) := by decide +kernel
theorem dX10_init_13 : decode cX10_init 13 = .ok (.aload_n 0, 1) := by decide +kernel
theorem dX10_init_14 : decode cX10_init 14 = .ok (.bipush 8, 2) := by decide +kernel
theorem dX10_init_16 : decode cX10_init 16 = .ok (.anewarray 17, 3) := by decide +kernel
theorem dX10_init_19 : decode cX10_init 19 = .ok (.putfield 19, 3) := by decide +kernel
theorem dX10_init_22 : decode cX10_init 22 = .ok (.aload_n 0, 1) := by decide +kernel
theorem dX10_init_23 : decode cX10_init 23 = .ok (.bipush 30, 2) := by decide +kernel
theorem dX10_init_25 : decode cX10_init 25 = .ok (.anewarray 23, 3) := by decide +kernel
theorem dX10_init_28 : decode cX10_init 28 = .ok (.putfield 25, 3) := by decide +kernel
theorem dX10_init_31 : decode cX10_init 31 = .ok (.aload_n 0, 1) := by decide +kernel
theorem dX10_init_32 : decode cX10_init 32 = .ok (.bipush 20, 2) := by decide +kernel
theorem dX10_init_34 : decode cX10_init 34 = .ok (.anewarray 29, 3) := by decide +kernel
theorem dX10_init_37 : decode cX10_init 37 = .ok (.putfield 31, 3) := by decide +kernel
theorem dX10_init_40 : decode cX10_init 40 = .ok (.aload_n 0, 1) := by decide +kernel
theorem dX10_init_41 : decode cX10_init 41 = .ok (.bipush 100, 2) := by decide +kernel
theorem dX10_init_43 : decode cX10_init 43 = .ok (.newarray .int, 2) := by decide +kernel
theorem dX10_init_45 : decode cX10_init 45 = .ok (.putfield 35, 3) := by decide +kernel
theorem dX10_init_48 : decode cX10_init 48 = .ok (.aload_n 0, 1) := by decide +kernel
theorem dX10_init_49 : decode cX10_init 49 = .ok (.iconst 1, 1) := by decide +kernel
theorem dX10_init_50 : decode cX10_init 50 = .ok (.putfield 39, 3) := by decide +kernel
theorem dX10_init_53 : decode cX10_init 53 = .ok (.aload_n 0, 1) := by decide +kernel
theorem dX10_init_54 : decode cX10_init 54 = .ok (.bipush (-4), 2) := by decide +kernel
theorem dX10_init_56 : decode cX10_init 56 = .ok (.putfield 43, 3) := by decide +kernel
theorem dX10_init_59 : decode cX10_init 59 = .ok (.iconst 0, 1) := by decide +kernel
theorem dX10_init_60 : decode cX10_init 60 = .ok (.istore_n 1, 1) := by decide +kernel
theorem dX10_init_61 : decode cX10_init 61 = .ok (.iload_n 1, 1) := by decide +kernel
theorem dX10_init_62 : decode cX10_init 62 = .ok (.bipush 12, 2) := by decide +kernel
theorem dX10_init_64 : decode cX10_init 64 = .ok (.if_icmp .ge 22, 3) := by decide +kernel
theorem dX10_init_67 : decode cX10_init 67 = .ok (.aload_n 0, 1) := by decide +kernel
theorem dX10_init_68 : decode cX10_init 68 = .ok (.getfield 11, 3) := by decide +kernel
theorem dX10_init_71 : decode cX10_init 71 = .ok (.iload_n 1, 1) := by decide +kernel
theorem dX10_init_72 : decode cX10_init 72 = .ok (.new 9, 3) := by decide +kernel
theorem dX10_init_75 : decode cX10_init 75 = .ok (.dup, 1) := by decide +kernel
theorem dX10_init_76 : decode cX10_init 76 = .ok (.invokespecial 46, 3) := by decide +kernel
theorem dX10_init_79 : decode cX10_init 79 = .ok (.aastore, 1) := by decide +kernel
theorem dX10_init_80 : decode cX10_init 80 = .ok (.iinc 1 1, 3) := by decide +kernel
theorem dX10_init_83 : decode cX10_init 83 = .ok (.goto (-22), 3) := by decide +kernel
theorem dX10_init_86 : decode cX10_init 86 = .ok (.iconst 0, 1) := by decide +kernel
theorem dX10_init_87 : decode cX10_init 87 = .ok (.istore_n 1, 1) := by decide +kernel
theorem dX10_init_88 : decode cX10_init 88 = .ok (.iload_n 1, 1) := by decide +kernel
theorem dX10_init_89 : decode cX10_init 89 = .ok (.bipush 8, 2) := by decide +kernel
theorem dX10_init_91 : decode cX10_init 91 = .ok (.if_icmp .ge 22, 3) := by decide +kernel
theorem dX10_init_94 : decode cX10_init 94 = .ok (.aload_n 0, 1) := by decide +kernel
theorem dX10_init_95 : decode cX10_init 95 = .ok (.getfield 19, 3) := by decide +kernel
theorem dX10_init_98 : decode cX10_init 98 = .ok (.iload_n 1, 1) := by decide +kernel
theorem dX10_init_99 : decode cX10_init 99 = .ok (.new 17, 3) := by decide +kernel
theorem dX10_init_102 : decode cX10_init 102 = .ok (.dup, 1) := by decide +kernel
theorem dX10_init_103 : decode cX10_init 103 = .ok (.invokespecial 47, 3) := by decide +kernel
theorem dX10_init_106 : decode cX10_init 106 = .ok (.aastore, 1) := by decide +kernel
theorem dX10_init_107 : decode cX10_init 107 = .ok (.iinc 1 1, 3) := by decide +kernel
theorem dX10_init_110 : decode cX10_init 110 = .ok (.goto (-22), 3) := by decide +kernel
theorem dX10_init_113 : decode cX10_init 113 = .ok (.iconst 0, 1) := by decide +kernel
theorem dX10_init_114 : decode cX10_init 114 = .ok (.istore_n 1, 1) := by decide +kernel
theorem dX10_init_115 : decode cX10_init 115 = .ok (.iload_n 1, 1) := by decide +kernel
theorem dX10_init_116 : decode cX10_init 116 = .ok (.bipush 30, 2) := by decide +kernel
theorem dX10_init_118 : decode cX10_init 118 = .ok (.if_icmp .ge 22, 3) := by decide +kernel
theorem dX10_init_121 : decode cX10_init 121 = .ok (.aload_n 0, 1) := by decide +kernel
theorem dX10_init_122 : decode cX10_init 122 = .ok (.getfield 25, 3) := by decide +kernel
theorem dX10_init_125 : decode cX10_init 125 = .ok (.iload_n 1, 1) := by decide +kernel
theorem dX10_init_126 : decode cX10_init 126 = .ok (.new 23, 3) := by decide +kernel
theorem dX10_init_129 : decode cX10_init 129 = .ok (.dup, 1) := by decide +kernel
theorem dX10_init_130 : decode cX10_init 130 = .ok (.invokespecial 48, 3) := by decide +kernel
theorem dX10_init_133 : decode cX10_init 133 = .ok (.aastore, 1) := by decide +kernel
theorem dX10_init_134 : decode cX10_init 134 = .ok (.iinc 1 1, 3) := by decide +kernel
theorem dX10_init_137 : decode cX10_init 137 = .ok (.goto (-22), 3) := by decide +kernel
theorem dX10_init_140 : decode cX10_init 140 = .ok (.iconst 0, 1) := by decide +kernel
theorem dX10_init_141 : decode cX10_init 141 = .ok (.istore_n 1, 1) := by decide +kernel
theorem dX10_init_142 : decode cX10_init 142 = .ok (.iload_n 1, 1) := by decide +kernel
theorem dX10_init_143 : decode cX10_init 143 = .ok (.bipush 20, 2) := by decide +kernel
theorem dX10_init_145 : decode cX10_init 145 = .ok (.if_icmp .ge 22, 3) := by decide +kernel
theorem dX10_init_148 : decode cX10_init 148 = .ok (.aload_n 0, 1) := by decide +kernel
theorem dX10_init_149 : decode cX10_init 149 = .ok (.getfield 31, 3) := by decide +kernel
theorem dX10_init_152 : decode cX10_init 152 = .ok (.iload_n 1, 1) := by decide +kernel
theorem dX10_init_153 : decode cX10_init 153 = .ok (.new 29, 3) := by decide +kernel
theorem dX10_init_156 : decode cX10_init 156 = .ok (.dup, 1) := by decide +kernel
theorem dX10_init_157 : decode cX10_init 157 = .ok (.invokespecial 49, 3) := by decide +kernel
theorem dX10_init_160 : decode cX10_init 160 = .ok (.aastore, 1) := by decide +kernel
theorem dX10_init_161 : decode cX10_init 161 = .ok (.iinc 1 1, 3) := by decide +kernel
theorem dX10_init_164 : decode cX10_init 164 = .ok (.goto (-22), 3) := by decide +kernel
theorem dX10_init_167 : decode cX10_init 167 = .ok (.aload_n 0, 1) := by decide +kernel
theorem dX10_init_168 : decode cX10_init 168 = .ok (.getfield 35, 3) := by decide +kernel
theorem dX10_init_171 : decode cX10_init 171 = .ok (.iconst 0, 1) := by decide +kernel
theorem dX10_init_172 : decode cX10_init 172 = .ok (.bipush 103, 2) := by decide +kernel
theorem dX10_init_174 : decode cX10_init 174 = .ok (.iastore, 1) := by decide +kernel
theorem dX10_init_175 : decode cX10_init 175 = .ok (.return_, 1) := by decide +kernel
theorem dX10_takeFrom_0 : decode cX10_takeFrom 0 = .ok (.aload_n 0, 1) := by decide +kernel
theorem dX10_takeFrom_1 : decode cX10_takeFrom 1 = .ok (.aload_n 1, 1) := by decide +kernel
theorem dX10_takeFrom_2 : decode cX10_takeFrom 2 = .ok (.getfield 50, 3) := by decide +kernel
theorem dX10_takeFrom_5 : decode cX10_takeFrom 5 = .ok (.putfield 50, 3) := by decide +kernel
theorem dX10_takeFrom_8 : decode cX10_takeFrom 8 = .ok (.aload_n 0, 1) := by decide +kernel
theorem dX10_takeFrom_9 : decode cX10_takeFrom 9 = .ok (.aload_n 1, 1) := by decide +kernel
theorem dX10_takeFrom_10 : decode cX10_takeFrom 10 = .ok (.getfield 53, 3) := by decide +kernel
theorem dX10_takeFrom_13 : decode cX10_takeFrom 13 = .ok (.putfield 53, 3) := by decide +kernel
theorem dX10_takeFrom_16 : decode cX10_takeFrom 16 = .ok (.aload_n 0, 1) := by decide +kernel
theorem dX10_takeFrom_17 : decode cX10_takeFrom 17 = .ok (.aload_n 1, 1) := by decide +kernel
theorem dX10_takeFrom_18 : decode cX10_takeFrom 18 = .ok (.getfield 56, 3) := by decide +kernel
theorem dX10_takeFrom_21 : decode cX10_takeFrom 21 = .ok (.putfield 56, 3) := by decide +kernel
theorem dX10_takeFrom_24 : decode cX10_takeFrom 24 = .ok (.aload_n 0, 1) := by decide +kernel
theorem dX10_takeFrom_25 : decode cX10_takeFrom 25 = .ok (.aload_n 1, 1) := by decide +kernel
theorem dX10_takeFrom_26 : decode cX10_takeFrom 26 = .ok (.getfield 59, 3) := by decide +kernel
theorem dX10_takeFrom_29 : decode cX10_takeFrom 29 = .ok (.putfield 59, 3) := by decide +kernel
theorem dX10_takeFrom_32 : decode cX10_takeFrom 32 = .ok (.aload_n 0, 1) := by decide +kernel
theorem dX10_takeFrom_33 : decode cX10_takeFrom 33 = .ok (.aload_n 1, 1) := by decide +kernel
theorem dX10_takeFrom_34 : decode cX10_takeFrom 34 = .ok (.getfield 43, 3) := by decide +kernel
theorem dX10_takeFrom_37 : decode cX10_takeFrom 37 = .ok (.putfield 43, 3) := by decide +kernel
theorem dX10_takeFrom_40 : decode cX10_takeFrom 40 = .ok (.iconst 0, 1) := by decide +kernel
theorem dX10_takeFrom_41 : decode cX10_takeFrom 41 = .ok (.istore_n 2, 1) := by decide +kernel
theorem dX10_takeFrom_42 : decode cX10_takeFrom 42 = .ok (.iload_n 2, 1) := by decide +kernel
theorem dX10_takeFrom_43 : decode cX10_takeFrom 43 = .ok (.bipush 12, 2) := by decide +kernel
theorem dX10_takeFrom_45 : decode cX10_takeFrom 45 = .ok (.if_icmp .ge 24, 3) := by decide +kernel
theorem dX10_takeFrom_48 : decode cX10_takeFrom 48 = .ok (.aload_n 0, 1) := by decide +kernel
theorem dX10_takeFrom_49 : decode cX10_takeFrom 49 = .ok (.getfield 11, 3) := by decide +kernel
theorem dX10_takeFrom_52 : decode cX10_takeFrom 52 = .ok (.iload_n 2, 1) := by decide +kernel
theorem dX10_takeFrom_53 : decode cX10_takeFrom 53 = .ok (.aaload, 1) := by decide +kernel
theorem dX10_takeFrom_54 : decode cX10_takeFrom 54 = .ok (.aload_n 1, 1) := by decide +kernel
theorem dX10_takeFrom_55 : decode cX10_takeFrom 55 = .ok (.getfield 11, 3) := by decide +kernel
theorem dX10_takeFrom_58 : decode cX10_takeFrom 58 = .ok (.iload_n 2, 1) := by decide +kernel
theorem dX10_takeFrom_59 : decode cX10_takeFrom 59 = .ok (.aaload, 1) := by decide +kernel
theorem dX10_takeFrom_60 : decode cX10_takeFrom 60 = .ok (.invokevirtual 62, 3) := by decide +kernel
theorem dX10_takeFrom_63 : decode cX10_takeFrom 63 = .ok (.iinc 2 1, 3) := by decide +kernel
theorem dX10_takeFrom_66 : decode cX10_takeFrom 66 = .ok (.goto (-24), 3) := by decide +kernel
theorem dX10_takeFrom_69 : decode cX10_takeFrom 69 = .ok (.iconst 0, 1) := by decide +kernel
theorem dX10_takeFrom_70 : decode cX10_takeFrom 70 = .ok (.istore_n 2, 1) := by decide +kernel
theorem dX10_takeFrom_71 : decode cX10_takeFrom 71 = .ok (.iload_n 2, 1) := by decide +kernel
theorem dX10_takeFrom_72 : decode cX10_takeFrom 72 = .ok (.bipush 8, 2) := by decide +kernel
theorem dX10_takeFrom_74 : decode cX10_takeFrom 74 = .ok (.if_icmp .ge 24, 3) := by decide +kernel
theorem dX10_takeFrom_77 : decode cX10_takeFrom 77 = .ok (.aload_n 0, 1) := by decide +kernel
theorem dX10_takeFrom_78 : decode cX10_takeFrom 78 = .ok (.getfield 19, 3) := by decide +kernel
theorem dX10_takeFrom_81 : decode cX10_takeFrom 81 = .ok (.iload_n 2, 1) := by decide +kernel
theorem dX10_takeFrom_82 : decode cX10_takeFrom 82 = .ok (.aaload, 1) := by decide +kernel
theorem dX10_takeFrom_83 : decode cX10_takeFrom 83 = .ok (.aload_n 1, 1) := by decide +kernel
theorem dX10_takeFrom_84 : decode cX10_takeFrom 84 = .ok (.getfield 19, 3) := by decide +kernel
theorem dX10_takeFrom_87 : decode cX10_takeFrom 87 = .ok (.iload_n 2, 1) := by decide +kernel
theorem dX10_takeFrom_88 : decode cX10_takeFrom 88 = .ok (.aaload, 1) := by decide +kernel
theorem dX10_takeFrom_89 : decode cX10_takeFrom 89 = .ok (.invokevirtual 66, 3) := by decide +kernel
theorem dX10_takeFrom_92 : decode cX10_takeFrom 92 = .ok (.iinc 2 1, 3) := by decide +kernel
theorem dX10_takeFrom_95 : decode cX10_takeFrom 95 = .ok (.goto (-24), 3) := by decide +kernel
theorem dX10_takeFrom_98 : decode cX10_takeFrom 98 = .ok (.iconst 0, 1) := by decide +kernel
theorem dX10_takeFrom_99 : decode cX10_takeFrom 99 = .ok (.istore_n 2, 1) := by decide +kernel
theorem dX10_takeFrom_100 : decode cX10_takeFrom 100 = .ok (.iload_n 2, 1) := by decide +kernel
theorem dX10_takeFrom_101 : decode cX10_takeFrom 101 = .ok (.bipush 30, 2) := by decide +kernel
theorem dX10_takeFrom_103 : decode cX10_takeFrom 103 = .ok (.if_icmp .ge 24, 3) := by decide +kernel
theorem dX10_takeFrom_106 : decode cX10_takeFrom 106 = .ok (.aload_n 0, 1) := by decide +kernel
theorem dX10_takeFrom_107 : decode cX10_takeFrom 107 = .ok (.getfield 25, 3) := by decide +kernel
theorem dX10_takeFrom_110 : decode cX10_takeFrom 110 = .ok (.iload_n 2, 1) := by decide +kernel
theorem dX10_takeFrom_111 : decode cX10_takeFrom 111 = .ok (.aaload, 1) := by decide +kernel
theorem dX10_takeFrom_112 : decode cX10_takeFrom 112 = .ok (.aload_n 1, 1) := by decide +kernel
theorem dX10_takeFrom_113 : decode cX10_takeFrom 113 = .ok (.getfield 25, 3) := by decide +kernel
theorem dX10_takeFrom_116 : decode cX10_takeFrom 116 = .ok (.iload_n 2, 1) := by decide +kernel
theorem dX10_takeFrom_117 : decode cX10_takeFrom 117 = .ok (.aaload, 1) := by decide +kernel
theorem dX10_takeFrom_118 : decode cX10_takeFrom 118 = .ok (.invokevirtual 69, 3) := by decide +kernel
theorem dX10_takeFrom_121 : decode cX10_takeFrom 121 = .ok (.iinc 2 1, 3) := by decide +kernel
theorem dX10_takeFrom_124 : decode cX10_takeFrom 124 = .ok (.goto (-24), 3) := by decide +kernel
theorem dX10_takeFrom_127 : decode cX10_takeFrom 127 = .ok (.iconst 0, 1) := by decide +kernel
theorem dX10_takeFrom_128 : decode cX10_takeFrom 128 = .ok (.istore_n 2, 1) := by decide +kernel
theorem dX10_takeFrom_129 : decode cX10_takeFrom 129 = .ok (.iload_n 2, 1) := by decide +kernel
theorem dX10_takeFrom_130 : decode cX10_takeFrom 130 = .ok (.bipush 20, 2) := by decide +kernel
theorem dX10_takeFrom_132 : decode cX10_takeFrom 132 = .ok (.if_icmp .ge 24, 3) := by decide +kernel
theorem dX10_takeFrom_135 : decode cX10_takeFrom 135 = .ok (.aload_n 0, 1) := by decide +kernel
theorem dX10_takeFrom_136 : decode cX10_takeFrom 136 = .ok (.getfield 31, 3) := by decide +kernel
theorem dX10_takeFrom_139 : decode cX10_takeFrom 139 = .ok (.iload_n 2, 1) := by decide +kernel
theorem dX10_takeFrom_140 : decode cX10_takeFrom 140 = .ok (.aaload, 1) := by decide +kernel
theorem dX10_takeFrom_141 : decode cX10_takeFrom 141 = .ok (.aload_n 1, 1) := by decide +kernel
theorem dX10_takeFrom_142 : decode cX10_takeFrom 142 = .ok (.getfield 31, 3) := by decide +kernel
theorem dX10_takeFrom_145 : decode cX10_takeFrom 145 = .ok (.iload_n 2, 1) := by decide +kernel
theorem dX10_takeFrom_146 : decode cX10_takeFrom 146 = .ok (.aaload, 1) := by decide +kernel
theorem dX10_takeFrom_147 : decode cX10_takeFrom 147 = .ok (.invokevirtual 72, 3) := by decide +kernel
theorem dX10_takeFrom_150 : decode cX10_takeFrom 150 = .ok (.iinc 2 1, 3) := by decide +kernel
theorem dX10_takeFrom_153 : decode cX10_takeFrom 153 = .ok (.goto (-24), 3) := by decide +kernel
theorem dX10_takeFrom_156 : decode cX10_takeFrom 156 = .ok (.aload_n 0, 1) := by decide +kernel
theorem dX10_takeFrom_157 : decode cX10_takeFrom 157 = .ok (.aload_n 1, 1) := by decide +kernel
theorem dX10_takeFrom_158 : decode cX10_takeFrom 158 = .ok (.getfield 35, 3) := by decide +kernel
theorem dX10_takeFrom_161 : decode cX10_takeFrom 161 = .ok (.aload_n 1, 1) := by decide +kernel
theorem dX10_takeFrom_162 : decode cX10_takeFrom 162 = .ok (.getfield 39, 3) := by decide +kernel
theorem dX10_takeFrom_165 : decode cX10_takeFrom 165 = .ok (.invokevirtual 75, 3) := by decide +kernel
theorem dX10_takeFrom_168 : decode cX10_takeFrom 168 = .ok (.return_, 1) := by decide +kernel
theorem dX10_putInForce_0 : decode cX10_putInForce 0 = .ok (.iconst 0, 1) := by decide +kernel
theorem dX10_putInForce_1 : decode cX10_putInForce 1 = .ok (.istore_n 3, 1) := by decide +kernel
theorem dX10_putInForce_2 : decode cX10_putInForce 2 = .ok (.iload_n 3, 1) := by decide +kernel
theorem dX10_putInForce_3 : decode cX10_putInForce 3 = .ok (.iload_n 2, 1) := by decide +kernel
theorem dX10_putInForce_4 : decode cX10_putInForce 4 = .ok (.if_icmp .ge 30, 3) := by decide +kernel
theorem dX10_putInForce_7 : decode cX10_putInForce 7 = .ok (.iload_n 3, 1) := by decide +kernel
theorem dX10_putInForce_8 : decode cX10_putInForce 8 = .ok (.aload_n 1, 1) := by decide +kernel
theorem dX10_putInForce_9 : decode cX10_putInForce 9 = .ok (.arraylength, 1) := by decide +kernel
theorem dX10_putInForce_10 : decode cX10_putInForce 10 = .ok (.if_icmp .ge 24, 3) := by decide +kernel
theorem dX10_putInForce_13 : decode cX10_putInForce 13 = .ok (.iload_n 3, 1) := by decide +kernel
theorem dX10_putInForce_14 : decode cX10_putInForce 14 = .ok (.bipush 100, 2) := by decide +kernel
theorem dX10_putInForce_16 : decode cX10_putInForce 16 = .ok (.if_icmp .ge 18, 3) := by decide +kernel
theorem dX10_putInForce_19 : decode cX10_putInForce 19 = .ok (.aload_n 0, 1) := by decide +kernel
theorem dX10_putInForce_20 : decode cX10_putInForce 20 = .ok (.getfield 35, 3) := by decide +kernel
theorem dX10_putInForce_23 : decode cX10_putInForce 23 = .ok (.iload_n 3, 1) := by decide +kernel
theorem dX10_putInForce_24 : decode cX10_putInForce 24 = .ok (.aload_n 1, 1) := by decide +kernel
theorem dX10_putInForce_25 : decode cX10_putInForce 25 = .ok (.iload_n 3, 1) := by decide +kernel
theorem dX10_putInForce_26 : decode cX10_putInForce 26 = .ok (.iaload, 1) := by decide +kernel
theorem dX10_putInForce_27 : decode cX10_putInForce 27 = .ok (.iastore, 1) := by decide +kernel
theorem dX10_putInForce_28 : decode cX10_putInForce 28 = .ok (.iinc 3 1, 3) := by decide +kernel
theorem dX10_putInForce_31 : decode cX10_putInForce 31 = .ok (.goto (-29), 3) := by decide +kernel
theorem dX10_putInForce_34 : decode cX10_putInForce 34 = .ok (.aload_n 0, 1) := by decide +kernel
theorem dX10_putInForce_35 : decode cX10_putInForce 35 = .ok (.iload_n 2, 1) := by decide +kernel
theorem dX10_putInForce_36 : decode cX10_putInForce 36 = .ok (.putfield 39, 3) := by decide +kernel
theorem dX10_putInForce_39 : decode cX10_putInForce 39 = .ok (.return_, 1) := by decide +kernel
theorem dX10_isLight_0 : decode cX10_isLight 0 = .ok (.iload_n 1, 1) := by decide +kernel
theorem dX10_isLight_1 : decode cX10_isLight 1 = .ok (.iconst 0, 1) := by decide +kernel
theorem dX10_isLight_2 : decode cX10_isLight 2 = .ok (.aload_n 0, 1) := by decide +kernel
theorem dX10_isLight_3 : decode cX10_isLight 3 = .ok (.getfield 50, 3) := by decide +kernel
theorem dX10_isLight_6 : decode cX10_isLight 6 = .ok (.iconst 1, 1) := by decide +kernel
theorem dX10_isLight_7 : decode cX10_isLight 7 = .ok (.isub, 1) := by decide +kernel
theorem dX10_isLight_8 : decode cX10_isLight 8 = .ok (.invokestatic 79, 3) := by decide +kernel
theorem dX10_isLight_11 : decode cX10_isLight 11 = .ok (.ireturn, 1) := by decide +kernel
theorem dX10_isPair_0 : decode cX10_isPair 0 = .ok (.aload_n 0, 1) := by decide +kernel
theorem dX10_isPair_1 : decode cX10_isPair 1 = .ok (.iload_n 1, 1) := by decide +kernel
theorem dX10_isPair_2 : decode cX10_isPair 2 = .ok (.invokevirtual 83, 3) := by decide +kernel
theorem dX10_isPair_5 : decode cX10_isPair 5 = .ok (.ifCond .eq 20, 3) := by decide +kernel
theorem dX10_isPair_8 : decode cX10_isPair 8 = .ok (.aload_n 0, 1) := by decide +kernel
theorem dX10_isPair_9 : decode cX10_isPair 9 = .ok (.iload_n 2, 1) := by decide +kernel
theorem dX10_isPair_10 : decode cX10_isPair 10 = .ok (.invokevirtual 83, 3) := by decide +kernel
theorem dX10_isPair_13 : decode cX10_isPair 13 = .ok (.ifCond .eq 12, 3) := by decide +kernel
theorem dX10_isPair_16 : decode cX10_isPair 16 = .ok (.iload_n 1, 1) := by decide +kernel
theorem dX10_isPair_17 : decode cX10_isPair 17 = .ok (.iload_n 2, 1) := by decide +kernel
theorem dX10_isPair_18 : decode cX10_isPair 18 = .ok (.if_icmp .eq 7, 3) := by decide +kernel
theorem dX10_isPair_21 : decode cX10_isPair 21 = .ok (.iconst 1, 1) := by decide +kernel
theorem dX10_isPair_22 : decode cX10_isPair 22 = .ok (.goto 4, 3) := by decide +kernel
theorem dX10_isPair_25 : decode cX10_isPair 25 = .ok (.iconst 0, 1) := by decide +kernel
theorem dX10_isPair_26 : decode cX10_isPair 26 = .ok (.ireturn, 1) := by decide +kernel
theorem dX10_lightAt_0 : decode cX10_lightAt 0 = .ok (.aload_n 0, 1) := by decide +kernel
theorem dX10_lightAt_1 : decode cX10_lightAt 1 = .ok (.iload_n 1, 1) := by decide +kernel
theorem dX10_lightAt_2 : decode cX10_lightAt 2 = .ok (.invokevirtual 83, 3) := by decide +kernel
theorem dX10_lightAt_5 : decode cX10_lightAt 5 = .ok (.ifCond .eq 12, 3) := by decide +kernel
theorem dX10_lightAt_8 : decode cX10_lightAt 8 = .ok (.aload_n 0, 1) := by decide +kernel
theorem dX10_lightAt_9 : decode cX10_lightAt 9 = .ok (.getfield 11, 3) := by decide +kernel
theorem dX10_lightAt_12 : decode cX10_lightAt 12 = .ok (.iload_n 1, 1) := by decide +kernel
theorem dX10_lightAt_13 : decode cX10_lightAt 13 = .ok (.aaload, 1) := by decide +kernel
theorem dX10_lightAt_14 : decode cX10_lightAt 14 = .ok (.goto 4, 3) := by decide +kernel
theorem dX10_lightAt_17 : decode cX10_lightAt 17 = .ok (.aconst_null, 1) := by decide +kernel
theorem dX10_lightAt_18 : decode cX10_lightAt 18 = .ok (.areturn, 1) := by decide +kernel
theorem dX10_eyeAt_0 : decode cX10_eyeAt 0 = .ok (.iload_n 1, 1) := by decide +kernel
theorem dX10_eyeAt_1 : decode cX10_eyeAt 1 = .ok (.iconst 0, 1) := by decide +kernel
theorem dX10_eyeAt_2 : decode cX10_eyeAt 2 = .ok (.bipush 7, 2) := by decide +kernel
theorem dX10_eyeAt_4 : decode cX10_eyeAt 4 = .ok (.invokestatic 79, 3) := by decide +kernel
theorem dX10_eyeAt_7 : decode cX10_eyeAt 7 = .ok (.ifCond .eq 12, 3) := by decide +kernel
theorem dX10_eyeAt_10 : decode cX10_eyeAt 10 = .ok (.aload_n 0, 1) := by decide +kernel
theorem dX10_eyeAt_11 : decode cX10_eyeAt 11 = .ok (.getfield 19, 3) := by decide +kernel
theorem dX10_eyeAt_14 : decode cX10_eyeAt 14 = .ok (.iload_n 1, 1) := by decide +kernel
theorem dX10_eyeAt_15 : decode cX10_eyeAt 15 = .ok (.aaload, 1) := by decide +kernel
theorem dX10_eyeAt_16 : decode cX10_eyeAt 16 = .ok (.goto 4, 3) := by decide +kernel
theorem dX10_eyeAt_19 : decode cX10_eyeAt 19 = .ok (.aconst_null, 1) := by decide +kernel
theorem dX10_eyeAt_20 : decode cX10_eyeAt 20 = .ok (.areturn, 1) := by decide +kernel
theorem dX10_matchAt_0 : decode cX10_matchAt 0 = .ok (.iload_n 1, 1) := by decide +kernel
theorem dX10_matchAt_1 : decode cX10_matchAt 1 = .ok (.iconst 0, 1) := by decide +kernel
theorem dX10_matchAt_2 : decode cX10_matchAt 2 = .ok (.aload_n 0, 1) := by decide +kernel
theorem dX10_matchAt_3 : decode cX10_matchAt 3 = .ok (.getfield 56, 3) := by decide +kernel
theorem dX10_matchAt_6 : decode cX10_matchAt 6 = .ok (.iconst 1, 1) := by decide +kernel
theorem dX10_matchAt_7 : decode cX10_matchAt 7 = .ok (.isub, 1) := by decide +kernel
theorem dX10_matchAt_8 : decode cX10_matchAt 8 = .ok (.invokestatic 79, 3) := by decide +kernel
theorem dX10_matchAt_11 : decode cX10_matchAt 11 = .ok (.ifCond .eq 12, 3) := by decide +kernel
theorem dX10_matchAt_14 : decode cX10_matchAt 14 = .ok (.aload_n 0, 1) := by decide +kernel
theorem dX10_matchAt_15 : decode cX10_matchAt 15 = .ok (.getfield 25, 3) := by decide +kernel
theorem dX10_matchAt_18 : decode cX10_matchAt 18 = .ok (.iload_n 1, 1) := by decide +kernel
theorem dX10_matchAt_19 : decode cX10_matchAt 19 = .ok (.aaload, 1) := by decide +kernel
theorem dX10_matchAt_20 : decode cX10_matchAt 20 = .ok (.goto 4, 3) := by decide +kernel
theorem dX10_matchAt_23 : decode cX10_matchAt 23 = .ok (.aconst_null, 1) := by decide +kernel
theorem dX10_matchAt_24 : decode cX10_matchAt 24 = .ok (.areturn, 1) := by decide +kernel
theorem dX10_placeFor_0 : decode cX10_placeFor 0 = .ok (.aload_n 3, 1) := by decide +kernel
theorem dX10_placeFor_1 : decode cX10_placeFor 1 = .ok (.aload_n 0, 1) := by decide +kernel
theorem dX10_placeFor_2 : decode cX10_placeFor 2 = .ok (.getfield 11, 3) := by decide +kernel
theorem dX10_placeFor_5 : decode cX10_placeFor 5 = .ok (.iload_n 1, 1) := by decide +kernel
theorem dX10_placeFor_6 : decode cX10_placeFor 6 = .ok (.aaload, 1) := by decide +kernel
theorem dX10_placeFor_7 : decode cX10_placeFor 7 = .ok (.aload_n 0, 1) := by decide +kernel
theorem dX10_placeFor_8 : decode cX10_placeFor 8 = .ok (.getfield 53, 3) := by decide +kernel
theorem dX10_placeFor_11 : decode cX10_placeFor 11 = .ok (.iload 4, 2) := by decide +kernel
theorem dX10_placeFor_13 : decode cX10_placeFor 13 = .ok (.invokevirtual 87, 3) := by decide +kernel
theorem dX10_placeFor_16 : decode cX10_placeFor 16 = .ok (.aload_n 3, 1) := by decide +kernel
theorem dX10_placeFor_17 : decode cX10_placeFor 17 = .ok (.aload_n 0, 1) := by decide +kernel
theorem dX10_placeFor_18 : decode cX10_placeFor 18 = .ok (.getfield 11, 3) := by decide +kernel
theorem dX10_placeFor_21 : decode cX10_placeFor 21 = .ok (.iload_n 2, 1) := by decide +kernel
theorem dX10_placeFor_22 : decode cX10_placeFor 22 = .ok (.aaload, 1) := by decide +kernel
theorem dX10_placeFor_23 : decode cX10_placeFor 23 = .ok (.aload_n 0, 1) := by decide +kernel
theorem dX10_placeFor_24 : decode cX10_placeFor 24 = .ok (.getfield 53, 3) := by decide +kernel
theorem dX10_placeFor_27 : decode cX10_placeFor 27 = .ok (.iload 4, 2) := by decide +kernel
theorem dX10_placeFor_29 : decode cX10_placeFor 29 = .ok (.invokevirtual 87, 3) := by decide +kernel
theorem dX10_placeFor_32 : decode cX10_placeFor 32 = .ok (.invokestatic 91, 3) := by decide +kernel
theorem dX10_placeFor_35 : decode cX10_placeFor 35 = .ok (.ireturn, 1) := by decide +kernel
theorem dX10_addMatch_0 : decode cX10_addMatch 0 = .ok (.aload_n 0, 1) := by decide +kernel
theorem dX10_addMatch_1 : decode cX10_addMatch 1 = .ok (.iload_n 1, 1) := by decide +kernel
theorem dX10_addMatch_2 : decode cX10_addMatch 2 = .ok (.iload_n 2, 1) := by decide +kernel
theorem dX10_addMatch_3 : decode cX10_addMatch 3 = .ok (.invokevirtual 95, 3) := by decide +kernel
theorem dX10_addMatch_6 : decode cX10_addMatch 6 = .ok (.ifCond .eq 36, 3) := by decide +kernel
theorem dX10_addMatch_9 : decode cX10_addMatch 9 = .ok (.iload_n 3, 1) := by decide +kernel
theorem dX10_addMatch_10 : decode cX10_addMatch 10 = .ok (.iconst 0, 1) := by decide +kernel
theorem dX10_addMatch_11 : decode cX10_addMatch 11 = .ok (.bipush 7, 2) := by decide +kernel
theorem dX10_addMatch_13 : decode cX10_addMatch 13 = .ok (.invokestatic 79, 3) := by decide +kernel
theorem dX10_addMatch_16 : decode cX10_addMatch 16 = .ok (.ifCond .eq 26, 3) := by decide +kernel
theorem dX10_addMatch_19 : decode cX10_addMatch 19 = .ok (.iload 4, 2) := by decide +kernel
theorem dX10_addMatch_21 : decode cX10_addMatch 21 = .ok (.iconst 1, 1) := by decide +kernel
theorem dX10_addMatch_22 : decode cX10_addMatch 22 = .ok (.bipush 99, 2) := by decide +kernel
theorem dX10_addMatch_24 : decode cX10_addMatch 24 = .ok (.invokestatic 79, 3) := by decide +kernel
theorem dX10_addMatch_27 : decode cX10_addMatch 27 = .ok (.ifCond .eq 15, 3) := by decide +kernel
theorem dX10_addMatch_30 : decode cX10_addMatch 30 = .ok (.iload 5, 2) := by decide +kernel
theorem dX10_addMatch_32 : decode cX10_addMatch 32 = .ok (.iconst 0, 1) := by decide +kernel
theorem dX10_addMatch_33 : decode cX10_addMatch 33 = .ok (.sipush 999, 3) := by decide +kernel
theorem dX10_addMatch_36 : decode cX10_addMatch 36 = .ok (.invokestatic 79, 3) := by decide +kernel
theorem dX10_addMatch_39 : decode cX10_addMatch 39 = .ok (.ifCond .ne 5, 3) := by decide +kernel
theorem dX10_addMatch_42 : decode cX10_addMatch 42 = .ok (.iconst (-1), 1) := by decide +kernel
theorem dX10_addMatch_43 : decode cX10_addMatch 43 = .ok (.ireturn, 1) := by decide +kernel
theorem dX10_addMatch_44 : decode cX10_addMatch 44 = .ok (.aload_n 0, 1) := by decide +kernel
theorem dX10_addMatch_45 : decode cX10_addMatch 45 = .ok (.getfield 56, 3) := by decide +kernel
theorem dX10_addMatch_48 : decode cX10_addMatch 48 = .ok (.bipush 30, 2) := by decide +kernel
theorem dX10_addMatch_50 : decode cX10_addMatch 50 = .ok (.if_icmp .lt 6, 3) := by decide +kernel
theorem dX10_addMatch_53 : decode cX10_addMatch 53 = .ok (.bipush (-2), 2) := by decide +kernel
theorem dX10_addMatch_55 : decode cX10_addMatch 55 = .ok (.ireturn, 1) := by decide +kernel
theorem dX10_addMatch_56 : decode cX10_addMatch 56 = .ok (.aload_n 0, 1) := by decide +kernel
theorem dX10_addMatch_57 : decode cX10_addMatch 57 = .ok (.getfield 56, 3) := by decide +kernel
theorem dX10_addMatch_60 : decode cX10_addMatch 60 = .ok (.istore 6, 2) := by decide +kernel
theorem dX10_addMatch_62 : decode cX10_addMatch 62 = .ok (.aload_n 0, 1) := by decide +kernel
theorem dX10_addMatch_63 : decode cX10_addMatch 63 = .ok (.getfield 25, 3) := by decide +kernel
theorem dX10_addMatch_66 : decode cX10_addMatch 66 = .ok (.iload 6, 2) := by decide +kernel
theorem dX10_addMatch_68 : decode cX10_addMatch 68 = .ok (.aaload, 1) := by decide +kernel
theorem dX10_addMatch_69 : decode cX10_addMatch 69 = .ok (.astore 7, 2) := by decide +kernel
theorem dX10_addMatch_71 : decode cX10_addMatch 71 = .ok (.aload 7, 2) := by decide +kernel
theorem dX10_addMatch_73 : decode cX10_addMatch 73 = .ok (.iload_n 1, 1) := by decide +kernel
theorem dX10_addMatch_74 : decode cX10_addMatch 74 = .ok (.putfield 99, 3) := by decide +kernel
theorem dX10_addMatch_77 : decode cX10_addMatch 77 = .ok (.aload 7, 2) := by decide +kernel
theorem dX10_addMatch_79 : decode cX10_addMatch 79 = .ok (.iload_n 2, 1) := by decide +kernel
theorem dX10_addMatch_80 : decode cX10_addMatch 80 = .ok (.putfield 102, 3) := by decide +kernel
theorem dX10_addMatch_83 : decode cX10_addMatch 83 = .ok (.aload 7, 2) := by decide +kernel
theorem dX10_addMatch_85 : decode cX10_addMatch 85 = .ok (.iload_n 3, 1) := by decide +kernel
theorem dX10_addMatch_86 : decode cX10_addMatch 86 = .ok (.putfield 105, 3) := by decide +kernel
theorem dX10_addMatch_89 : decode cX10_addMatch 89 = .ok (.aload 7, 2) := by decide +kernel
theorem dX10_addMatch_91 : decode cX10_addMatch 91 = .ok (.iload 4, 2) := by decide +kernel
theorem dX10_addMatch_93 : decode cX10_addMatch 93 = .ok (.putfield 108, 3) := by decide +kernel
theorem dX10_addMatch_96 : decode cX10_addMatch 96 = .ok (.aload 7, 2) := by decide +kernel
theorem dX10_addMatch_98 : decode cX10_addMatch 98 = .ok (.iload 5, 2) := by decide +kernel
theorem dX10_addMatch_100 : decode cX10_addMatch 100 = .ok (.putfield 111, 3) := by decide +kernel
theorem dX10_addMatch_103 : decode cX10_addMatch 103 = .ok (.aload 7, 2) := by decide +kernel
theorem dX10_addMatch_105 : decode cX10_addMatch 105 = .ok (.iconst 0, 1) := by decide +kernel
theorem dX10_addMatch_106 : decode cX10_addMatch 106 = .ok (.putfield 114, 3) := by decide +kernel
theorem dX10_addMatch_109 : decode cX10_addMatch 109 = .ok (.aload_n 0, 1) := by decide +kernel
theorem dX10_addMatch_110 : decode cX10_addMatch 110 = .ok (.dup, 1) := by decide +kernel
theorem dX10_addMatch_111 : decode cX10_addMatch 111 = .ok (.getfield 56, 3) := by decide +kernel
theorem dX10_addMatch_114 : decode cX10_addMatch 114 = .ok (.iconst 1, 1) := by decide +kernel
theorem dX10_addMatch_115 : decode cX10_addMatch 115 = .ok (.iadd, 1) := by decide +kernel
theorem dX10_addMatch_116 : decode cX10_addMatch 116 = .ok (.putfield 56, 3) := by decide +kernel
theorem dX10_addMatch_119 : decode cX10_addMatch 119 = .ok (.iload 6, 2) := by decide +kernel
theorem dX10_addMatch_121 : decode cX10_addMatch 121 = .ok (.ireturn, 1) := by decide +kernel
theorem dX10_countOut_0 : decode cX10_countOut 0 = .ok (.iconst 0, 1) := by decide +kernel
theorem dX10_countOut_1 : decode cX10_countOut 1 = .ok (.istore_n 1, 1) := by decide +kernel
theorem dX10_countOut_2 : decode cX10_countOut 2 = .ok (.iconst 0, 1) := by decide +kernel
theorem dX10_countOut_3 : decode cX10_countOut 3 = .ok (.istore_n 2, 1) := by decide +kernel
theorem dX10_countOut_4 : decode cX10_countOut 4 = .ok (.iload_n 2, 1) := by decide +kernel
theorem dX10_countOut_5 : decode cX10_countOut 5 = .ok (.aload_n 0, 1) := by decide +kernel
theorem dX10_countOut_6 : decode cX10_countOut 6 = .ok (.getfield 56, 3) := by decide +kernel
theorem dX10_countOut_9 : decode cX10_countOut 9 = .ok (.if_icmp .ge 29, 3) := by decide +kernel
theorem dX10_countOut_12 : decode cX10_countOut 12 = .ok (.iload_n 1, 1) := by decide +kernel
theorem dX10_countOut_13 : decode cX10_countOut 13 = .ok (.aload_n 0, 1) := by decide +kernel
theorem dX10_countOut_14 : decode cX10_countOut 14 = .ok (.getfield 25, 3) := by decide +kernel
theorem dX10_countOut_17 : decode cX10_countOut 17 = .ok (.iload_n 2, 1) := by decide +kernel
theorem dX10_countOut_18 : decode cX10_countOut 18 = .ok (.aaload, 1) := by decide +kernel
theorem dX10_countOut_19 : decode cX10_countOut 19 = .ok (.getfield 114, 3) := by decide +kernel
theorem dX10_countOut_22 : decode cX10_countOut 22 = .ok (.ifCond .eq 7, 3) := by decide +kernel
theorem dX10_countOut_25 : decode cX10_countOut 25 = .ok (.iconst 1, 1) := by decide +kernel
theorem dX10_countOut_26 : decode cX10_countOut 26 = .ok (.goto 4, 3) := by decide +kernel
theorem dX10_countOut_29 : decode cX10_countOut 29 = .ok (.iconst 0, 1) := by decide +kernel
theorem dX10_countOut_30 : decode cX10_countOut 30 = .ok (.iadd, 1) := by decide +kernel
theorem dX10_countOut_31 : decode cX10_countOut 31 = .ok (.istore_n 1, 1) := by decide +kernel
theorem dX10_countOut_32 : decode cX10_countOut 32 = .ok (.iinc 2 1, 3) := by decide +kernel
theorem dX10_countOut_35 : decode cX10_countOut 35 = .ok (.goto (-31), 3) := by decide +kernel
theorem dX10_countOut_38 : decode cX10_countOut 38 = .ok (.iload_n 1, 1) := by decide +kernel
theorem dX10_countOut_39 : decode cX10_countOut 39 = .ok (.ireturn, 1) := by decide +kernel
theorem dX10_allHours_0 : decode cX10_allHours 0 = .ok (.iconst 0, 1) := by decide +kernel
theorem dX10_allHours_1 : decode cX10_allHours 1 = .ok (.istore_n 1, 1) := by decide +kernel
theorem dX10_allHours_2 : decode cX10_allHours 2 = .ok (.iconst 0, 1) := by decide +kernel
theorem dX10_allHours_3 : decode cX10_allHours 3 = .ok (.istore_n 2, 1) := by decide +kernel
theorem dX10_allHours_4 : decode cX10_allHours 4 = .ok (.iload_n 2, 1) := by decide +kernel
theorem dX10_allHours_5 : decode cX10_allHours 5 = .ok (.aload_n 0, 1) := by decide +kernel
theorem dX10_allHours_6 : decode cX10_allHours 6 = .ok (.getfield 50, 3) := by decide +kernel
theorem dX10_allHours_9 : decode cX10_allHours 9 = .ok (.if_icmp .ge 21, 3) := by decide +kernel
theorem dX10_allHours_12 : decode cX10_allHours 12 = .ok (.iload_n 1, 1) := by decide +kernel
theorem dX10_allHours_13 : decode cX10_allHours 13 = .ok (.aload_n 0, 1) := by decide +kernel
theorem dX10_allHours_14 : decode cX10_allHours 14 = .ok (.getfield 11, 3) := by decide +kernel
theorem dX10_allHours_17 : decode cX10_allHours 17 = .ok (.iload_n 2, 1) := by decide +kernel
theorem dX10_allHours_18 : decode cX10_allHours 18 = .ok (.aaload, 1) := by decide +kernel
theorem dX10_allHours_19 : decode cX10_allHours 19 = .ok (.getfield 118, 3) := by decide +kernel
theorem dX10_allHours_22 : decode cX10_allHours 22 = .ok (.iadd, 1) := by decide +kernel
theorem dX10_allHours_23 : decode cX10_allHours 23 = .ok (.istore_n 1, 1) := by decide +kernel
theorem dX10_allHours_24 : decode cX10_allHours 24 = .ok (.iinc 2 1, 3) := by decide +kernel
theorem dX10_allHours_27 : decode cX10_allHours 27 = .ok (.goto (-23), 3) := by decide +kernel
theorem dX10_allHours_30 : decode cX10_allHours 30 = .ok (.iload_n 1, 1) := by decide +kernel
theorem dX10_allHours_31 : decode cX10_allHours 31 = .ok (.ireturn, 1) := by decide +kernel
end
section
theorem dX11_init_0 : decode cX11_init 0 = .ok (.aload_n 0, 1) := by decide +kernel
theorem dX11_init_1 : decode cX11_init 1 = .ok (.invokespecial 1, 3) := by decide +kernel
theorem dX11_init_4 : decode cX11_init 4 = .ok (.aload_n 0, 1) := by decide +kernel
theorem dX11_init_5 : decode cX11_init 5 = .ok (.new 7, 3) := by decide +kernel
theorem dX11_init_8 : decode cX11_init 8 = .ok (.dup, 1) := by decide +kernel
theorem dX11_init_9 : decode cX11_init 9 = .ok (.invokespecial 9, 3) := by decide +kernel
theorem dX11_init_12 : decode cX11_init 12 = .ok (.putfield 10, 3) := by decide +kernel
theorem dX11_init_15 : decode cX11_init 15 = .ok (.aload_n 0, 1) := by decide +kernel
theorem dX11_init_16 : decode cX11_init 16 = .ok (.new 7, 3) := by decide +kernel
theorem dX11_init_19 : decode cX11_init 19 = .ok (.dup, 1) := by decide +kernel
theorem dX11_init_20 : decode cX11_init 20 = .ok (.invokespecial 9, 3) := by decide +kernel
theorem dX11_init_23 : decode cX11_init 23 = .ok (.putfield 16, 3) := by decide +kernel
theorem dX11_init_26 : decode cX11_init 26 = .ok (.aload_n 0, 1) := by decide +kernel
theorem dX11_init_27 : decode cX11_init 27 = .ok (.bipush 8, 2) := by decide +kernel
theorem dX11_init_29 : decode cX11_init 29 = .ok (.anewarray 19, 3) := by decide +kernel
theorem dX11_init_32 : decode cX11_init 32 = .ok (.putfield 21, 3) := by decide +kernel
theorem dX11_init_35 : decode cX11_init 35 = .ok (.aload_n 0, 1) := by decide +kernel
theorem dX11_init_36 : decode cX11_init 36 = .ok (.new 25, 3) := by decide +kernel
theorem dX11_init_39 : decode cX11_init 39 = .ok (.dup, 1) := by decide +kernel
theorem dX11_init_40 : decode cX11_init 40 = .ok (.invokespecial 27, 3) := by decide +kernel
theorem dX11_init_43 : decode cX11_init 43 = .ok (.putfield 28, 3) := by decide +kernel
theorem dX11_init_46 : decode cX11_init 46 = .ok (.aload_n 0, 1) := by decide +kernel
theorem dX11_init_47 : decode cX11_init 47 = .ok (.new 32, 3) := by decide +kernel
theorem dX11_init_50 : decode cX11_init 50 = .ok (.dup, 1) := by decide +kernel
theorem dX11_init_51 : decode cX11_init 51 = .ok (.invokespecial 34, 3) := by decide +kernel
theorem dX11_init_54 : decode cX11_init 54 = .ok (.putfield 35, 3) := by decide +kernel
theorem dX11_init_57 : decode cX11_init 57 = .ok (.aload_n 0, 1) := by decide +kernel
theorem dX11_init_58 : decode cX11_init 58 = .ok (.new 39, 3) := by decide +kernel
theorem dX11_init_61 : decode cX11_init 61 = .ok (.dup, 1) := by decide +kernel
theorem dX11_init_62 : decode cX11_init 62 = .ok (.invokespecial 41, 3) := by decide +kernel
theorem dX11_init_65 : decode cX11_init 65 = .ok (.putfield 42, 3) := by decide +kernel
theorem dX11_init_68 : decode cX11_init 68 = .ok (.aload_n 0, 1) := by decide +kernel
theorem dX11_init_69 : decode cX11_init 69 = .ok (.new 46, 3) := by decide +kernel
theorem dX11_init_72 : decode cX11_init 72 = .ok (.dup, 1) := by decide +kernel
theorem dX11_init_73 : decode cX11_init 73 = .ok (.invokespecial 48, 3) := by decide +kernel
theorem dX11_init_76 : decode cX11_init 76 = .ok (.putfield 49, 3) := by decide +kernel
theorem dX11_init_79 : decode cX11_init 79 = .ok (.aload_n 0, 1) := by decide +kernel
theorem dX11_init_80 : decode cX11_init 80 = .ok (.new 53, 3) := by decide +kernel
theorem dX11_init_83 : decode cX11_init 83 = .ok (.dup, 1) := by decide +kernel
theorem dX11_init_84 : decode cX11_init 84 = .ok (.invokespecial 55, 3) := by decide +kernel
theorem dX11_init_87 : decode cX11_init 87 = .ok (.putfield 56, 3) := by decide +kernel
theorem dX11_init_90 : decode cX11_init 90 = .ok (.iconst 0, 1) := by decide +kernel
theorem dX11_init_91 : decode cX11_init 91 = .ok (.istore_n 1, 1) := by decide +kernel
theorem dX11_init_92 : decode cX11_init 92 = .ok (.iload_n 1, 1) := by decide +kernel
theorem dX11_init_93 : decode cX11_init 93 = .ok (.bipush 8, 2) := by decide +kernel
theorem dX11_init_95 : decode cX11_init 95 = .ok (.if_icmp .ge 22, 3) := by decide +kernel
theorem dX11_init_98 : decode cX11_init 98 = .ok (.aload_n 0, 1) := by decide +kernel
theorem dX11_init_99 : decode cX11_init 99 = .ok (.getfield 21, 3) := by decide +kernel
theorem dX11_init_102 : decode cX11_init 102 = .ok (.iload_n 1, 1) := by decide +kernel
theorem dX11_init_103 : decode cX11_init 103 = .ok (.new 19, 3) := by decide +kernel
theorem dX11_init_106 : decode cX11_init 106 = .ok (.dup, 1) := by decide +kernel
theorem dX11_init_107 : decode cX11_init 107 = .ok (.invokespecial 60, 3) := by decide +kernel
theorem dX11_init_110 : decode cX11_init 110 = .ok (.aastore, 1) := by decide +kernel
theorem dX11_init_111 : decode cX11_init 111 = .ok (.iinc 1 1, 3) := by decide +kernel
theorem dX11_init_114 : decode cX11_init 114 = .ok (.goto (-22), 3) := by decide +kernel
theorem dX11_init_117 : decode cX11_init 117 = .ok (.return_, 1) := by decide +kernel
theorem dX11_light_0 : decode cX11_light 0 = .ok (.iload_n 1, 1) := by decide +kernel
theorem dX11_light_1 : decode cX11_light 1 = .ok (.iconst 0, 1) := by decide +kernel
theorem dX11_light_2 : decode cX11_light 2 = .ok (.bipush 7, 2) := by decide +kernel
theorem dX11_light_4 : decode cX11_light 4 = .ok (.invokestatic 61, 3) := by decide +kernel
theorem dX11_light_7 : decode cX11_light 7 = .ok (.ifCond .eq 36, 3) := by decide +kernel
theorem dX11_light_10 : decode cX11_light 10 = .ok (.iload_n 2, 1) := by decide +kernel
theorem dX11_light_11 : decode cX11_light 11 = .ok (.iconst 1, 1) := by decide +kernel
theorem dX11_light_12 : decode cX11_light 12 = .ok (.sipush 9999, 3) := by decide +kernel
theorem dX11_light_15 : decode cX11_light 15 = .ok (.invokestatic 61, 3) := by decide +kernel
theorem dX11_light_18 : decode cX11_light 18 = .ok (.ifCond .eq 25, 3) := by decide +kernel
theorem dX11_light_21 : decode cX11_light 21 = .ok (.iload_n 3, 1) := by decide +kernel
theorem dX11_light_22 : decode cX11_light 22 = .ok (.iconst 0, 1) := by decide +kernel
theorem dX11_light_23 : decode cX11_light 23 = .ok (.bipush 100, 2) := by decide +kernel
theorem dX11_light_25 : decode cX11_light 25 = .ok (.invokestatic 61, 3) := by decide +kernel
theorem dX11_light_28 : decode cX11_light 28 = .ok (.ifCond .eq 15, 3) := by decide +kernel
theorem dX11_light_31 : decode cX11_light 31 = .ok (.iload 4, 2) := by decide +kernel
theorem dX11_light_33 : decode cX11_light 33 = .ok (.iconst 0, 1) := by decide +kernel
theorem dX11_light_34 : decode cX11_light 34 = .ok (.sipush 200, 3) := by decide +kernel
theorem dX11_light_37 : decode cX11_light 37 = .ok (.invokestatic 61, 3) := by decide +kernel
theorem dX11_light_40 : decode cX11_light 40 = .ok (.ifCond .ne 5, 3) := by decide +kernel
theorem dX11_light_43 : decode cX11_light 43 = .ok (.iconst (-1), 1) := by decide +kernel
theorem dX11_light_44 : decode cX11_light 44 = .ok (.ireturn, 1) := by decide +kernel
theorem dX11_light_45 : decode cX11_light 45 = .ok (.aload_n 0, 1) := by decide +kernel
theorem dX11_light_46 : decode cX11_light 46 = .ok (.getfield 10, 3) := by decide +kernel
theorem dX11_light_49 : decode cX11_light 49 = .ok (.getfield 65, 3) := by decide +kernel
theorem dX11_light_52 : decode cX11_light 52 = .ok (.bipush 12, 2) := by decide +kernel
theorem dX11_light_54 : decode cX11_light 54 = .ok (.if_icmp .lt 6, 3) := by decide +kernel
theorem dX11_light_57 : decode cX11_light 57 = .ok (.bipush (-2), 2) := by decide +kernel
theorem dX11_light_59 : decode cX11_light 59 = .ok (.ireturn, 1) := by decide +kernel
theorem dX11_light_60 : decode cX11_light 60 = .ok (.aload_n 0, 1) := by decide +kernel
theorem dX11_light_61 : decode cX11_light 61 = .ok (.getfield 10, 3) := by decide +kernel
theorem dX11_light_64 : decode cX11_light 64 = .ok (.getfield 65, 3) := by decide +kernel
theorem dX11_light_67 : decode cX11_light 67 = .ok (.istore 5, 2) := by decide +kernel
theorem dX11_light_69 : decode cX11_light 69 = .ok (.aload_n 0, 1) := by decide +kernel
theorem dX11_light_70 : decode cX11_light 70 = .ok (.getfield 10, 3) := by decide +kernel
theorem dX11_light_73 : decode cX11_light 73 = .ok (.getfield 69, 3) := by decide +kernel
theorem dX11_light_76 : decode cX11_light 76 = .ok (.iload 5, 2) := by decide +kernel
theorem dX11_light_78 : decode cX11_light 78 = .ok (.aaload, 1) := by decide +kernel
theorem dX11_light_79 : decode cX11_light 79 = .ok (.astore 6, 2) := by decide +kernel
theorem dX11_light_81 : decode cX11_light 81 = .ok (.aload 6, 2) := by decide +kernel
theorem dX11_light_83 : decode cX11_light 83 = .ok (.iload 5, 2) := by decide +kernel
theorem dX11_light_85 : decode cX11_light 85 = .ok (.putfield 73, 3) := by decide +kernel
theorem dX11_light_88 : decode cX11_light 88 = .ok (.aload 6, 2) := by decide +kernel
theorem dX11_light_90 : decode cX11_light 90 = .ok (.iload_n 1, 1) := by decide +kernel
theorem dX11_light_91 : decode cX11_light 91 = .ok (.putfield 78, 3) := by decide +kernel
theorem dX11_light_94 : decode cX11_light 94 = .ok (.aload 6, 2) := by decide +kernel
theorem dX11_light_96 : decode cX11_light 96 = .ok (.iload_n 2, 1) := by decide +kernel
theorem dX11_light_97 : decode cX11_light 97 = .ok (.putfield 81, 3) := by decide +kernel
theorem dX11_light_100 : decode cX11_light 100 = .ok (.aload 6, 2) := by decide +kernel
theorem dX11_light_102 : decode cX11_light 102 = .ok (.iload_n 3, 1) := by decide +kernel
theorem dX11_light_103 : decode cX11_light 103 = .ok (.putfield 84, 3) := by decide +kernel
theorem dX11_light_106 : decode cX11_light 106 = .ok (.aload 6, 2) := by decide +kernel
theorem dX11_light_108 : decode cX11_light 108 = .ok (.iload 4, 2) := by decide +kernel
theorem dX11_light_110 : decode cX11_light 110 = .ok (.putfield 87, 3) := by decide +kernel
theorem dX11_light_113 : decode cX11_light 113 = .ok (.aload 6, 2) := by decide +kernel
theorem dX11_light_115 : decode cX11_light 115 = .ok (.iconst 0, 1) := by decide +kernel
theorem dX11_light_116 : decode cX11_light 116 = .ok (.putfield 90, 3) := by decide +kernel
theorem dX11_light_119 : decode cX11_light 119 = .ok (.aload_n 0, 1) := by decide +kernel
theorem dX11_light_120 : decode cX11_light 120 = .ok (.getfield 10, 3) := by decide +kernel
theorem dX11_light_123 : decode cX11_light 123 = .ok (.dup, 1) := by decide +kernel
theorem dX11_light_124 : decode cX11_light 124 = .ok (.getfield 65, 3) := by decide +kernel
theorem dX11_light_127 : decode cX11_light 127 = .ok (.iconst 1, 1) := by decide +kernel
theorem dX11_light_128 : decode cX11_light 128 = .ok (.iadd, 1) := by decide +kernel
theorem dX11_light_129 : decode cX11_light 129 = .ok (.putfield 65, 3) := by decide +kernel
theorem dX11_light_132 : decode cX11_light 132 = .ok (.iload 5, 2) := by decide +kernel
theorem dX11_light_134 : decode cX11_light 134 = .ok (.ireturn, 1) := by decide +kernel
theorem dX11_setting_0 : decode cX11_setting 0 = .ok (.aload_n 0, 1) := by decide +kernel
theorem dX11_setting_1 : decode cX11_setting 1 = .ok (.getfield 10, 3) := by decide +kernel
theorem dX11_setting_4 : decode cX11_setting 4 = .ok (.iload_n 1, 1) := by decide +kernel
theorem dX11_setting_5 : decode cX11_setting 5 = .ok (.invokevirtual 93, 3) := by decide +kernel
theorem dX11_setting_8 : decode cX11_setting 8 = .ok (.astore_n 3, 1) := by decide +kernel
theorem dX11_setting_9 : decode cX11_setting 9 = .ok (.aload_n 3, 1) := by decide +kernel
theorem dX11_setting_10 : decode cX11_setting 10 = .ok (.ifnull 14, 3) := by decide +kernel
theorem dX11_setting_13 : decode cX11_setting 13 = .ok (.iload_n 2, 1) := by decide +kernel
theorem dX11_setting_14 : decode cX11_setting 14 = .ok (.iconst 0, 1) := by decide +kernel
theorem dX11_setting_15 : decode cX11_setting 15 = .ok (.sipush 200, 3) := by decide +kernel
theorem dX11_setting_18 : decode cX11_setting 18 = .ok (.invokestatic 61, 3) := by decide +kernel
theorem dX11_setting_21 : decode cX11_setting 21 = .ok (.ifCond .ne 5, 3) := by decide +kernel
theorem dX11_setting_24 : decode cX11_setting 24 = .ok (.iconst (-1), 1) := by decide +kernel
theorem dX11_setting_25 : decode cX11_setting 25 = .ok (.ireturn, 1) := by decide +kernel
theorem dX11_setting_26 : decode cX11_setting 26 = .ok (.aload_n 3, 1) := by decide +kernel
theorem dX11_setting_27 : decode cX11_setting 27 = .ok (.getfield 87, 3) := by decide +kernel
theorem dX11_setting_30 : decode cX11_setting 30 = .ok (.istore 4, 2) := by decide +kernel
theorem dX11_setting_32 : decode cX11_setting 32 = .ok (.aload_n 3, 1) := by decide +kernel
theorem dX11_setting_33 : decode cX11_setting 33 = .ok (.iload_n 2, 1) := by decide +kernel
theorem dX11_setting_34 : decode cX11_setting 34 = .ok (.putfield 87, 3) := by decide +kernel
theorem dX11_setting_37 : decode cX11_setting 37 = .ok (.iload 4, 2) := by decide +kernel
theorem dX11_setting_39 : decode cX11_setting 39 = .ok (.ireturn, 1) := by decide +kernel
theorem dX11_burn_0 : decode cX11_burn 0 = .ok (.aload_n 0, 1) := by decide +kernel
theorem dX11_burn_1 : decode cX11_burn 1 = .ok (.getfield 10, 3) := by decide +kernel
theorem dX11_burn_4 : decode cX11_burn 4 = .ok (.iload_n 1, 1) := by decide +kernel
theorem dX11_burn_5 : decode cX11_burn 5 = .ok (.invokevirtual 93, 3) := by decide +kernel
theorem dX11_burn_8 : decode cX11_burn 8 = .ok (.astore_n 3, 1) := by decide +kernel
theorem dX11_burn_9 : decode cX11_burn 9 = .ok (.aload_n 3, 1) := by decide +kernel
theorem dX11_burn_10 : decode cX11_burn 10 = .ok (.ifnull 14, 3) := by decide +kernel
theorem dX11_burn_13 : decode cX11_burn 13 = .ok (.iload_n 2, 1) := by decide +kernel
theorem dX11_burn_14 : decode cX11_burn 14 = .ok (.iconst 1, 1) := by decide +kernel
theorem dX11_burn_15 : decode cX11_burn 15 = .ok (.sipush 999, 3) := by decide +kernel
theorem dX11_burn_18 : decode cX11_burn 18 = .ok (.invokestatic 61, 3) := by decide +kernel
theorem dX11_burn_21 : decode cX11_burn 21 = .ok (.ifCond .ne 5, 3) := by decide +kernel
theorem dX11_burn_24 : decode cX11_burn 24 = .ok (.iconst (-1), 1) := by decide +kernel
theorem dX11_burn_25 : decode cX11_burn 25 = .ok (.ireturn, 1) := by decide +kernel
theorem dX11_burn_26 : decode cX11_burn 26 = .ok (.aload_n 3, 1) := by decide +kernel
theorem dX11_burn_27 : decode cX11_burn 27 = .ok (.getfield 90, 3) := by decide +kernel
theorem dX11_burn_30 : decode cX11_burn 30 = .ok (.iload_n 2, 1) := by decide +kernel
theorem dX11_burn_31 : decode cX11_burn 31 = .ok (.iadd, 1) := by decide +kernel
theorem dX11_burn_32 : decode cX11_burn 32 = .ok (.ldc 97, 2) := by decide +kernel
theorem dX11_burn_34 : decode cX11_burn 34 = .ok (.if_icmp .le 6, 3) := by decide +kernel
theorem dX11_burn_37 : decode cX11_burn 37 = .ok (.bipush (-2), 2) := by decide +kernel
theorem dX11_burn_39 : decode cX11_burn 39 = .ok (.ireturn, 1) := by decide +kernel
theorem dX11_burn_40 : decode cX11_burn 40 = .ok (.aload_n 3, 1) := by decide +kernel
theorem dX11_burn_41 : decode cX11_burn 41 = .ok (.dup, 1) := by decide +kernel
theorem dX11_burn_42 : decode cX11_burn 42 = .ok (.getfield 90, 3) := by decide +kernel
theorem dX11_burn_45 : decode cX11_burn 45 = .ok (.iload_n 2, 1) := by decide +kernel
theorem dX11_burn_46 : decode cX11_burn 46 = .ok (.iadd, 1) := by decide +kernel
theorem dX11_burn_47 : decode cX11_burn 47 = .ok (.putfield 90, 3) := by decide +kernel
theorem dX11_burn_50 : decode cX11_burn 50 = .ok (.aload_n 3, 1) := by decide +kernel
theorem dX11_burn_51 : decode cX11_burn 51 = .ok (.getfield 90, 3) := by decide +kernel
theorem dX11_burn_54 : decode cX11_burn 54 = .ok (.ireturn, 1) := by decide +kernel
theorem dX11_damp_0 : decode cX11_damp 0 = .ok (.iload_n 1, 1) := by decide +kernel
theorem dX11_damp_1 : decode cX11_damp 1 = .ok (.iconst 0, 1) := by decide +kernel
theorem dX11_damp_2 : decode cX11_damp 2 = .ok (.bipush 50, 2) := by decide +kernel
theorem dX11_damp_4 : decode cX11_damp 4 = .ok (.invokestatic 61, 3) := by decide +kernel
theorem dX11_damp_7 : decode cX11_damp 7 = .ok (.ifCond .ne 5, 3) := by decide +kernel
theorem dX11_damp_10 : decode cX11_damp 10 = .ok (.iconst (-1), 1) := by decide +kernel
theorem dX11_damp_11 : decode cX11_damp 11 = .ok (.ireturn, 1) := by decide +kernel
theorem dX11_damp_12 : decode cX11_damp 12 = .ok (.aload_n 0, 1) := by decide +kernel
theorem dX11_damp_13 : decode cX11_damp 13 = .ok (.getfield 10, 3) := by decide +kernel
theorem dX11_damp_16 : decode cX11_damp 16 = .ok (.getfield 98, 3) := by decide +kernel
theorem dX11_damp_19 : decode cX11_damp 19 = .ok (.istore_n 2, 1) := by decide +kernel
theorem dX11_damp_20 : decode cX11_damp 20 = .ok (.aload_n 0, 1) := by decide +kernel
theorem dX11_damp_21 : decode cX11_damp 21 = .ok (.getfield 10, 3) := by decide +kernel
theorem dX11_damp_24 : decode cX11_damp 24 = .ok (.iload_n 1, 1) := by decide +kernel
theorem dX11_damp_25 : decode cX11_damp 25 = .ok (.putfield 98, 3) := by decide +kernel
theorem dX11_damp_28 : decode cX11_damp 28 = .ok (.iload_n 2, 1) := by decide +kernel
theorem dX11_damp_29 : decode cX11_damp 29 = .ok (.ireturn, 1) := by decide +kernel
theorem dX11_of_0 : decode cX11_of 0 = .ok (.aload_n 0, 1) := by decide +kernel
theorem dX11_of_1 : decode cX11_of 1 = .ok (.getfield 10, 3) := by decide +kernel
theorem dX11_of_4 : decode cX11_of 4 = .ok (.iload_n 1, 1) := by decide +kernel
theorem dX11_of_5 : decode cX11_of 5 = .ok (.invokevirtual 93, 3) := by decide +kernel
theorem dX11_of_8 : decode cX11_of 8 = .ok (.astore_n 3, 1) := by decide +kernel
theorem dX11_of_9 : decode cX11_of 9 = .ok (.aload_n 3, 1) := by decide +kernel
theorem dX11_of_10 : decode cX11_of 10 = .ok (.ifnonnull 5, 3) := by decide +kernel
theorem dX11_of_13 : decode cX11_of 13 = .ok (.iconst (-1), 1) := by decide +kernel
theorem dX11_of_14 : decode cX11_of 14 = .ok (.ireturn, 1) := by decide +kernel
theorem dX11_of_15 : decode cX11_of 15 = .ok (.iload_n 2, 1) := by decide +kernel
theorem dX11_of_16 : decode cX11_of 16 = .ok (.tableswitch 93 0 6 #[44, 49, 54, 59, 64, 69, 81], 44) := by decide +kernel
theorem dX11_of_60 : decode cX11_of 60 = .ok (.aload_n 3, 1) := by decide +kernel
theorem dX11_of_61 : decode cX11_of 61 = .ok (.getfield 78, 3) := by decide +kernel
theorem dX11_of_64 : decode cX11_of 64 = .ok (.ireturn, 1) := by decide +kernel
theorem dX11_of_65 : decode cX11_of 65 = .ok (.aload_n 3, 1) := by decide +kernel
theorem dX11_of_66 : decode cX11_of 66 = .ok (.getfield 81, 3) := by decide +kernel
theorem dX11_of_69 : decode cX11_of 69 = .ok (.ireturn, 1) := by decide +kernel
theorem dX11_of_70 : decode cX11_of 70 = .ok (.aload_n 3, 1) := by decide +kernel
theorem dX11_of_71 : decode cX11_of 71 = .ok (.getfield 84, 3) := by decide +kernel
theorem dX11_of_74 : decode cX11_of 74 = .ok (.ireturn, 1) := by decide +kernel
theorem dX11_of_75 : decode cX11_of 75 = .ok (.aload_n 3, 1) := by decide +kernel
theorem dX11_of_76 : decode cX11_of 76 = .ok (.getfield 87, 3) := by decide +kernel
theorem dX11_of_79 : decode cX11_of 79 = .ok (.ireturn, 1) := by decide +kernel
theorem dX11_of_80 : decode cX11_of 80 = .ok (.aload_n 3, 1) := by decide +kernel
theorem dX11_of_81 : decode cX11_of 81 = .ok (.getfield 90, 3) := by decide +kernel
theorem dX11_of_84 : decode cX11_of 84 = .ok (.ireturn, 1) := by decide +kernel
theorem dX11_of_85 : decode cX11_of 85 = .ok (.aload_n 3, 1) := by decide +kernel
theorem dX11_of_86 : decode cX11_of 86 = .ok (.aload_n 0, 1) := by decide +kernel
theorem dX11_of_87 : decode cX11_of 87 = .ok (.getfield 10, 3) := by decide +kernel
theorem dX11_of_90 : decode cX11_of 90 = .ok (.getfield 98, 3) := by decide +kernel
theorem dX11_of_93 : decode cX11_of 93 = .ok (.invokevirtual 101, 3) := by decide +kernel
theorem dX11_of_96 : decode cX11_of 96 = .ok (.ireturn, 1) := by decide +kernel
theorem dX11_of_97 : decode cX11_of 97 = .ok (.aload_n 3, 1) := by decide +kernel
theorem dX11_of_98 : decode cX11_of 98 = .ok (.aload_n 0, 1) := by decide +kernel
theorem dX11_of_99 : decode cX11_of 99 = .ok (.getfield 10, 3) := by decide +kernel
theorem dX11_of_102 : decode cX11_of 102 = .ok (.getfield 98, 3) := by decide +kernel
theorem dX11_of_105 : decode cX11_of 105 = .ok (.invokevirtual 105, 3) := by decide +kernel
theorem dX11_of_108 : decode cX11_of 108 = .ok (.ireturn, 1) := by decide +kernel
theorem dX11_of_109 : decode cX11_of 109 = .ok (.iconst (-1), 1) := by decide +kernel
theorem dX11_of_110 : decode cX11_of 110 = .ok (.ireturn, 1) := by decide +kernel
theorem dX11_eye_0 : decode cX11_eye 0 = .ok (.aload_n 0, 1) := by decide +kernel
theorem dX11_eye_1 : decode cX11_eye 1 = .ok (.getfield 10, 3) := by decide +kernel
theorem dX11_eye_4 : decode cX11_eye 4 = .ok (.iload_n 1, 1) := by decide +kernel
theorem dX11_eye_5 : decode cX11_eye 5 = .ok (.invokevirtual 108, 3) := by decide +kernel
theorem dX11_eye_8 : decode cX11_eye 8 = .ok (.astore 4, 2) := by decide +kernel
theorem dX11_eye_10 : decode cX11_eye 10 = .ok (.aload 4, 2) := by decide +kernel
theorem dX11_eye_12 : decode cX11_eye 12 = .ok (.ifnull 12, 3) := by decide +kernel
theorem dX11_eye_15 : decode cX11_eye 15 = .ok (.iload_n 2, 1) := by decide +kernel
theorem dX11_eye_16 : decode cX11_eye 16 = .ok (.iconst 0, 1) := by decide +kernel
theorem dX11_eye_17 : decode cX11_eye 17 = .ok (.iconst 2, 1) := by decide +kernel
theorem dX11_eye_18 : decode cX11_eye 18 = .ok (.invokestatic 61, 3) := by decide +kernel
theorem dX11_eye_21 : decode cX11_eye 21 = .ok (.ifCond .ne 5, 3) := by decide +kernel
theorem dX11_eye_24 : decode cX11_eye 24 = .ok (.iconst (-1), 1) := by decide +kernel
theorem dX11_eye_25 : decode cX11_eye 25 = .ok (.ireturn, 1) := by decide +kernel
theorem dX11_eye_26 : decode cX11_eye 26 = .ok (.iload_n 2, 1) := by decide +kernel
theorem dX11_eye_27 : decode cX11_eye 27 = .ok (.iconst 2, 1) := by decide +kernel
theorem dX11_eye_28 : decode cX11_eye 28 = .ok (.if_icmp .ne 13, 3) := by decide +kernel
theorem dX11_eye_31 : decode cX11_eye 31 = .ok (.iload_n 3, 1) := by decide +kernel
theorem dX11_eye_32 : decode cX11_eye 32 = .ok (.iconst 0, 1) := by decide +kernel
theorem dX11_eye_33 : decode cX11_eye 33 = .ok (.bipush 20, 2) := by decide +kernel
theorem dX11_eye_35 : decode cX11_eye 35 = .ok (.invokestatic 61, 3) := by decide +kernel
theorem dX11_eye_38 : decode cX11_eye 38 = .ok (.goto 11, 3) := by decide +kernel
theorem dX11_eye_41 : decode cX11_eye 41 = .ok (.iload_n 3, 1) := by decide +kernel
theorem dX11_eye_42 : decode cX11_eye 42 = .ok (.iconst 1, 1) := by decide +kernel
theorem dX11_eye_43 : decode cX11_eye 43 = .ok (.sipush 200, 3) := by decide +kernel
theorem dX11_eye_46 : decode cX11_eye 46 = .ok (.invokestatic 61, 3) := by decide +kernel
theorem dX11_eye_49 : decode cX11_eye 49 = .ok (.istore 5, 2) := by decide +kernel
theorem dX11_eye_51 : decode cX11_eye 51 = .ok (.iload 5, 2) := by decide +kernel
theorem dX11_eye_53 : decode cX11_eye 53 = .ok (.ifCond .ne 5, 3) := by decide +kernel
theorem dX11_eye_56 : decode cX11_eye 56 = .ok (.iconst (-1), 1) := by decide +kernel
theorem dX11_eye_57 : decode cX11_eye 57 = .ok (.ireturn, 1) := by decide +kernel
theorem dX11_eye_58 : decode cX11_eye 58 = .ok (.aload 4, 2) := by decide +kernel
theorem dX11_eye_60 : decode cX11_eye 60 = .ok (.iload_n 2, 1) := by decide +kernel
theorem dX11_eye_61 : decode cX11_eye 61 = .ok (.invokevirtual 112, 3) := by decide +kernel
theorem dX11_eye_64 : decode cX11_eye 64 = .ok (.istore 6, 2) := by decide +kernel
theorem dX11_eye_66 : decode cX11_eye 66 = .ok (.aload 4, 2) := by decide +kernel
theorem dX11_eye_68 : decode cX11_eye 68 = .ok (.iload_n 2, 1) := by decide +kernel
theorem dX11_eye_69 : decode cX11_eye 69 = .ok (.iload_n 3, 1) := by decide +kernel
theorem dX11_eye_70 : decode cX11_eye 70 = .ok (.invokevirtual 115, 3) := by decide +kernel
theorem dX11_eye_73 : decode cX11_eye 73 = .ok (.iload 6, 2) := by decide +kernel
theorem dX11_eye_75 : decode cX11_eye 75 = .ok (.ireturn, 1) := by decide +kernel
theorem dX11_seen_0 : decode cX11_seen 0 = .ok (.aload_n 0, 1) := by decide +kernel
theorem dX11_seen_1 : decode cX11_seen 1 = .ok (.getfield 10, 3) := by decide +kernel
theorem dX11_seen_4 : decode cX11_seen 4 = .ok (.iload_n 1, 1) := by decide +kernel
theorem dX11_seen_5 : decode cX11_seen 5 = .ok (.invokevirtual 93, 3) := by decide +kernel
theorem dX11_seen_8 : decode cX11_seen 8 = .ok (.astore 4, 2) := by decide +kernel
theorem dX11_seen_10 : decode cX11_seen 10 = .ok (.aload_n 0, 1) := by decide +kernel
theorem dX11_seen_11 : decode cX11_seen 11 = .ok (.getfield 10, 3) := by decide +kernel
theorem dX11_seen_14 : decode cX11_seen 14 = .ok (.iload_n 2, 1) := by decide +kernel
theorem dX11_seen_15 : decode cX11_seen 15 = .ok (.invokevirtual 108, 3) := by decide +kernel
theorem dX11_seen_18 : decode cX11_seen 18 = .ok (.astore 5, 2) := by decide +kernel
theorem dX11_seen_20 : decode cX11_seen 20 = .ok (.aload 4, 2) := by decide +kernel
theorem dX11_seen_22 : decode cX11_seen 22 = .ok (.ifnull 18, 3) := by decide +kernel
theorem dX11_seen_25 : decode cX11_seen 25 = .ok (.aload 5, 2) := by decide +kernel
theorem dX11_seen_27 : decode cX11_seen 27 = .ok (.ifnull 13, 3) := by decide +kernel
theorem dX11_seen_30 : decode cX11_seen 30 = .ok (.iload_n 3, 1) := by decide +kernel
theorem dX11_seen_31 : decode cX11_seen 31 = .ok (.iconst 0, 1) := by decide +kernel
theorem dX11_seen_32 : decode cX11_seen 32 = .ok (.bipush 9, 2) := by decide +kernel
theorem dX11_seen_34 : decode cX11_seen 34 = .ok (.invokestatic 61, 3) := by decide +kernel
theorem dX11_seen_37 : decode cX11_seen 37 = .ok (.ifCond .ne 7, 3) := by decide +kernel
theorem dX11_seen_40 : decode cX11_seen 40 = .ok (.ldc2_w 119, 3) := by decide +kernel
theorem dX11_seen_43 : decode cX11_seen 43 = .ok (.lreturn, 1) := by decide +kernel
theorem dX11_seen_44 : decode cX11_seen 44 = .ok (.aload 5, 2) := by decide +kernel
theorem dX11_seen_46 : decode cX11_seen 46 = .ok (.aload 4, 2) := by decide +kernel
theorem dX11_seen_48 : decode cX11_seen 48 = .ok (.aload_n 0, 1) := by decide +kernel
theorem dX11_seen_49 : decode cX11_seen 49 = .ok (.getfield 10, 3) := by decide +kernel
theorem dX11_seen_52 : decode cX11_seen 52 = .ok (.getfield 98, 3) := by decide +kernel
theorem dX11_seen_55 : decode cX11_seen 55 = .ok (.iload_n 3, 1) := by decide +kernel
theorem dX11_seen_56 : decode cX11_seen 56 = .ok (.invokevirtual 121, 3) := by decide +kernel
theorem dX11_seen_59 : decode cX11_seen 59 = .ok (.lreturn, 1) := by decide +kernel
theorem dX11_alike_0 : decode cX11_alike 0 = .ok (.aload_n 0, 1) := by decide +kernel
theorem dX11_alike_1 : decode cX11_alike 1 = .ok (.getfield 10, 3) := by decide +kernel
theorem dX11_alike_4 : decode cX11_alike 4 = .ok (.iload_n 3, 1) := by decide +kernel
theorem dX11_alike_5 : decode cX11_alike 5 = .ok (.invokevirtual 108, 3) := by decide +kernel
theorem dX11_alike_8 : decode cX11_alike 8 = .ok (.astore 5, 2) := by decide +kernel
theorem dX11_alike_10 : decode cX11_alike 10 = .ok (.aload_n 0, 1) := by decide +kernel
theorem dX11_alike_11 : decode cX11_alike 11 = .ok (.getfield 10, 3) := by decide +kernel
theorem dX11_alike_14 : decode cX11_alike 14 = .ok (.iload_n 1, 1) := by decide +kernel
theorem dX11_alike_15 : decode cX11_alike 15 = .ok (.iload_n 2, 1) := by decide +kernel
theorem dX11_alike_16 : decode cX11_alike 16 = .ok (.invokevirtual 125, 3) := by decide +kernel
theorem dX11_alike_19 : decode cX11_alike 19 = .ok (.ifCond .eq 19, 3) := by decide +kernel
theorem dX11_alike_22 : decode cX11_alike 22 = .ok (.aload 5, 2) := by decide +kernel
theorem dX11_alike_24 : decode cX11_alike 24 = .ok (.ifnull 14, 3) := by decide +kernel
theorem dX11_alike_27 : decode cX11_alike 27 = .ok (.iload 4, 2) := by decide +kernel
theorem dX11_alike_29 : decode cX11_alike 29 = .ok (.iconst 0, 1) := by decide +kernel
theorem dX11_alike_30 : decode cX11_alike 30 = .ok (.bipush 9, 2) := by decide +kernel
theorem dX11_alike_32 : decode cX11_alike 32 = .ok (.invokestatic 61, 3) := by decide +kernel
theorem dX11_alike_35 : decode cX11_alike 35 = .ok (.ifCond .ne 5, 3) := by decide +kernel
theorem dX11_alike_38 : decode cX11_alike 38 = .ok (.iconst (-1), 1) := by decide +kernel
theorem dX11_alike_39 : decode cX11_alike 39 = .ok (.ireturn, 1) := by decide +kernel
theorem dX11_alike_40 : decode cX11_alike 40 = .ok (.aload_n 0, 1) := by decide +kernel
theorem dX11_alike_41 : decode cX11_alike 41 = .ok (.getfield 10, 3) := by decide +kernel
theorem dX11_alike_44 : decode cX11_alike 44 = .ok (.iload_n 1, 1) := by decide +kernel
theorem dX11_alike_45 : decode cX11_alike 45 = .ok (.iload_n 2, 1) := by decide +kernel
theorem dX11_alike_46 : decode cX11_alike 46 = .ok (.aload 5, 2) := by decide +kernel
theorem dX11_alike_48 : decode cX11_alike 48 = .ok (.iload 4, 2) := by decide +kernel
theorem dX11_alike_50 : decode cX11_alike 50 = .ok (.invokevirtual 129, 3) := by decide +kernel
theorem dX11_alike_53 : decode cX11_alike 53 = .ok (.ireturn, 1) := by decide +kernel
theorem dX11_match_0 : decode cX11_match 0 = .ok (.aload_n 0, 1) := by decide +kernel
theorem dX11_match_1 : decode cX11_match 1 = .ok (.getfield 10, 3) := by decide +kernel
theorem dX11_match_4 : decode cX11_match 4 = .ok (.iload_n 3, 1) := by decide +kernel
theorem dX11_match_5 : decode cX11_match 5 = .ok (.invokevirtual 108, 3) := by decide +kernel
theorem dX11_match_8 : decode cX11_match 8 = .ok (.astore 5, 2) := by decide +kernel
theorem dX11_match_10 : decode cX11_match 10 = .ok (.aload_n 0, 1) := by decide +kernel
theorem dX11_match_11 : decode cX11_match 11 = .ok (.getfield 10, 3) := by decide +kernel
theorem dX11_match_14 : decode cX11_match 14 = .ok (.iload_n 1, 1) := by decide +kernel
theorem dX11_match_15 : decode cX11_match 15 = .ok (.iload_n 2, 1) := by decide +kernel
theorem dX11_match_16 : decode cX11_match 16 = .ok (.invokevirtual 125, 3) := by decide +kernel
theorem dX11_match_19 : decode cX11_match 19 = .ok (.ifCond .eq 8, 3) := by decide +kernel
theorem dX11_match_22 : decode cX11_match 22 = .ok (.aload 5, 2) := by decide +kernel
theorem dX11_match_24 : decode cX11_match 24 = .ok (.ifnonnull 5, 3) := by decide +kernel
theorem dX11_match_27 : decode cX11_match 27 = .ok (.iconst (-1), 1) := by decide +kernel
theorem dX11_match_28 : decode cX11_match 28 = .ok (.ireturn, 1) := by decide +kernel
theorem dX11_match_29 : decode cX11_match 29 = .ok (.aload_n 0, 1) := by decide +kernel
theorem dX11_match_30 : decode cX11_match 30 = .ok (.getfield 10, 3) := by decide +kernel
theorem dX11_match_33 : decode cX11_match 33 = .ok (.iload_n 1, 1) := by decide +kernel
theorem dX11_match_34 : decode cX11_match 34 = .ok (.iload_n 2, 1) := by decide +kernel
theorem dX11_match_35 : decode cX11_match 35 = .ok (.iload_n 3, 1) := by decide +kernel
theorem dX11_match_36 : decode cX11_match 36 = .ok (.aload_n 0, 1) := by decide +kernel
theorem dX11_match_37 : decode cX11_match 37 = .ok (.getfield 10, 3) := by decide +kernel
theorem dX11_match_40 : decode cX11_match 40 = .ok (.iload_n 1, 1) := by decide +kernel
theorem dX11_match_41 : decode cX11_match 41 = .ok (.iload_n 2, 1) := by decide +kernel
theorem dX11_match_42 : decode cX11_match 42 = .ok (.aload 5, 2) := by decide +kernel
theorem dX11_match_44 : decode cX11_match 44 = .ok (.iconst 0, 1) := by decide +kernel
theorem dX11_match_45 : decode cX11_match 45 = .ok (.invokevirtual 129, 3) := by decide +kernel
theorem dX11_match_48 : decode cX11_match 48 = .ok (.iload 4, 2) := by decide +kernel
theorem dX11_match_50 : decode cX11_match 50 = .ok (.invokevirtual 133, 3) := by decide +kernel
theorem dX11_match_53 : decode cX11_match 53 = .ok (.ireturn, 1) := by decide +kernel
theorem dX11_hear_0 : decode cX11_hear 0 = .ok (.aload_n 0, 1) := by decide +kernel
theorem dX11_hear_1 : decode cX11_hear 1 = .ok (.iload_n 1, 1) := by decide +kernel
theorem dX11_hear_2 : decode cX11_hear 2 = .ok (.iconst 2, 1) := by decide +kernel
theorem dX11_hear_3 : decode cX11_hear 3 = .ok (.invokevirtual 137, 3) := by decide +kernel
theorem dX11_hear_6 : decode cX11_hear 6 = .ok (.istore_n 2, 1) := by decide +kernel
theorem dX11_hear_7 : decode cX11_hear 7 = .ok (.iload_n 2, 1) := by decide +kernel
theorem dX11_hear_8 : decode cX11_hear 8 = .ok (.ifCond .eq 5, 3) := by decide +kernel
theorem dX11_hear_11 : decode cX11_hear 11 = .ok (.iload_n 2, 1) := by decide +kernel
theorem dX11_hear_12 : decode cX11_hear 12 = .ok (.ireturn, 1) := by decide +kernel
theorem dX11_hear_13 : decode cX11_hear 13 = .ok (.aload_n 0, 1) := by decide +kernel
theorem dX11_hear_14 : decode cX11_hear 14 = .ok (.getfield 21, 3) := by decide +kernel
theorem dX11_hear_17 : decode cX11_hear 17 = .ok (.iload_n 1, 1) := by decide +kernel
theorem dX11_hear_18 : decode cX11_hear 18 = .ok (.aaload, 1) := by decide +kernel
theorem dX11_hear_19 : decode cX11_hear 19 = .ok (.getfield 141, 3) := by decide +kernel
theorem dX11_hear_22 : decode cX11_hear 22 = .ok (.astore_n 3, 1) := by decide +kernel
theorem dX11_hear_23 : decode cX11_hear 23 = .ok (.iconst 0, 1) := by decide +kernel
theorem dX11_hear_24 : decode cX11_hear 24 = .ok (.istore 4, 2) := by decide +kernel
theorem dX11_hear_26 : decode cX11_hear 26 = .ok (.iconst 0, 1) := by decide +kernel
theorem dX11_hear_27 : decode cX11_hear 27 = .ok (.istore 5, 2) := by decide +kernel
theorem dX11_hear_29 : decode cX11_hear 29 = .ok (.iload 5, 2) := by decide +kernel
theorem dX11_hear_31 : decode cX11_hear 31 = .ok (.iconst 5, 1) := by decide +kernel
theorem dX11_hear_32 : decode cX11_hear 32 = .ok (.iadd, 1) := by decide +kernel
theorem dX11_hear_33 : decode cX11_hear 33 = .ok (.aload_n 3, 1) := by decide +kernel
theorem dX11_hear_34 : decode cX11_hear 34 = .ok (.getfield 145, 3) := by decide +kernel
theorem dX11_hear_37 : decode cX11_hear 37 = .ok (.if_icmp .gt 76, 3) := by decide +kernel
theorem dX11_hear_40 : decode cX11_hear 40 = .ok (.aload_n 3, 1) := by decide +kernel
theorem dX11_hear_41 : decode cX11_hear 41 = .ok (.iload 5, 2) := by decide +kernel
theorem dX11_hear_43 : decode cX11_hear 43 = .ok (.invokevirtual 150, 3) := by decide +kernel
theorem dX11_hear_46 : decode cX11_hear 46 = .ok (.ifCond .eq 6, 3) := by decide +kernel
theorem dX11_hear_49 : decode cX11_hear 49 = .ok (.goto 58, 3) := by decide +kernel
theorem dX11_hear_52 : decode cX11_hear 52 = .ok (.aload_n 3, 1) := by decide +kernel
theorem dX11_hear_53 : decode cX11_hear 53 = .ok (.getfield 154, 3) := by decide +kernel
theorem dX11_hear_56 : decode cX11_hear 56 = .ok (.astore 6, 2) := by decide +kernel
theorem dX11_hear_58 : decode cX11_hear 58 = .ok (.aload_n 0, 1) := by decide +kernel
theorem dX11_hear_59 : decode cX11_hear 59 = .ok (.getfield 10, 3) := by decide +kernel
theorem dX11_hear_62 : decode cX11_hear 62 = .ok (.aload 6, 2) := by decide +kernel
theorem dX11_hear_64 : decode cX11_hear 64 = .ok (.iload 5, 2) := by decide +kernel
theorem dX11_hear_66 : decode cX11_hear 66 = .ok (.iaload, 1) := by decide +kernel
theorem dX11_hear_67 : decode cX11_hear 67 = .ok (.aload 6, 2) := by decide +kernel
theorem dX11_hear_69 : decode cX11_hear 69 = .ok (.iload 5, 2) := by decide +kernel
theorem dX11_hear_71 : decode cX11_hear 71 = .ok (.iconst 1, 1) := by decide +kernel
theorem dX11_hear_72 : decode cX11_hear 72 = .ok (.iadd, 1) := by decide +kernel
theorem dX11_hear_73 : decode cX11_hear 73 = .ok (.iaload, 1) := by decide +kernel
theorem dX11_hear_74 : decode cX11_hear 74 = .ok (.aload 6, 2) := by decide +kernel
theorem dX11_hear_76 : decode cX11_hear 76 = .ok (.iload 5, 2) := by decide +kernel
theorem dX11_hear_78 : decode cX11_hear 78 = .ok (.iconst 2, 1) := by decide +kernel
theorem dX11_hear_79 : decode cX11_hear 79 = .ok (.iadd, 1) := by decide +kernel
theorem dX11_hear_80 : decode cX11_hear 80 = .ok (.iaload, 1) := by decide +kernel
theorem dX11_hear_81 : decode cX11_hear 81 = .ok (.aload 6, 2) := by decide +kernel
theorem dX11_hear_83 : decode cX11_hear 83 = .ok (.iload 5, 2) := by decide +kernel
theorem dX11_hear_85 : decode cX11_hear 85 = .ok (.iconst 3, 1) := by decide +kernel
theorem dX11_hear_86 : decode cX11_hear 86 = .ok (.iadd, 1) := by decide +kernel
theorem dX11_hear_87 : decode cX11_hear 87 = .ok (.iaload, 1) := by decide +kernel
theorem dX11_hear_88 : decode cX11_hear 88 = .ok (.aload 6, 2) := by decide +kernel
theorem dX11_hear_90 : decode cX11_hear 90 = .ok (.iload 5, 2) := by decide +kernel
theorem dX11_hear_92 : decode cX11_hear 92 = .ok (.iconst 4, 1) := by decide +kernel
theorem dX11_hear_93 : decode cX11_hear 93 = .ok (.iadd, 1) := by decide +kernel
theorem dX11_hear_94 : decode cX11_hear 94 = .ok (.iaload, 1) := by decide +kernel
theorem dX11_hear_95 : decode cX11_hear 95 = .ok (.invokevirtual 133, 3) := by decide +kernel
theorem dX11_hear_98 : decode cX11_hear 98 = .ok (.ifCond .ge 6, 3) := by decide +kernel
theorem dX11_hear_101 : decode cX11_hear 101 = .ok (.goto 12, 3) := by decide +kernel
theorem dX11_hear_104 : decode cX11_hear 104 = .ok (.iinc 4 1, 3) := by decide +kernel
theorem dX11_hear_107 : decode cX11_hear 107 = .ok (.iinc 5 5, 3) := by decide +kernel
theorem dX11_hear_110 : decode cX11_hear 110 = .ok (.goto (-81), 3) := by decide +kernel
theorem dX11_hear_113 : decode cX11_hear 113 = .ok (.iload 4, 2) := by decide +kernel
theorem dX11_hear_115 : decode cX11_hear 115 = .ok (.ireturn, 1) := by decide +kernel
theorem dX11_told_0 : decode cX11_told 0 = .ok (.aload_n 0, 1) := by decide +kernel
theorem dX11_told_1 : decode cX11_told 1 = .ok (.getfield 10, 3) := by decide +kernel
theorem dX11_told_4 : decode cX11_told 4 = .ok (.iload_n 1, 1) := by decide +kernel
theorem dX11_told_5 : decode cX11_told 5 = .ok (.invokevirtual 158, 3) := by decide +kernel
theorem dX11_told_8 : decode cX11_told 8 = .ok (.astore_n 3, 1) := by decide +kernel
theorem dX11_told_9 : decode cX11_told 9 = .ok (.aload_n 3, 1) := by decide +kernel
theorem dX11_told_10 : decode cX11_told 10 = .ok (.ifnonnull 5, 3) := by decide +kernel
theorem dX11_told_13 : decode cX11_told 13 = .ok (.iconst (-1), 1) := by decide +kernel
theorem dX11_told_14 : decode cX11_told 14 = .ok (.ireturn, 1) := by decide +kernel
theorem dX11_told_15 : decode cX11_told 15 = .ok (.iload_n 2, 1) := by decide +kernel
theorem dX11_told_16 : decode cX11_told 16 = .ok (.tableswitch 78 0 5 #[40, 45, 50, 55, 60, 65], 40) := by decide +kernel
theorem dX11_told_56 : decode cX11_told 56 = .ok (.aload_n 3, 1) := by decide +kernel
theorem dX11_told_57 : decode cX11_told 57 = .ok (.getfield 162, 3) := by decide +kernel
theorem dX11_told_60 : decode cX11_told 60 = .ok (.ireturn, 1) := by decide +kernel
theorem dX11_told_61 : decode cX11_told 61 = .ok (.aload_n 3, 1) := by decide +kernel
theorem dX11_told_62 : decode cX11_told 62 = .ok (.getfield 167, 3) := by decide +kernel
theorem dX11_told_65 : decode cX11_told 65 = .ok (.ireturn, 1) := by decide +kernel
theorem dX11_told_66 : decode cX11_told 66 = .ok (.aload_n 3, 1) := by decide +kernel
theorem dX11_told_67 : decode cX11_told 67 = .ok (.getfield 170, 3) := by decide +kernel
theorem dX11_told_70 : decode cX11_told 70 = .ok (.ireturn, 1) := by decide +kernel
theorem dX11_told_71 : decode cX11_told 71 = .ok (.aload_n 3, 1) := by decide +kernel
theorem dX11_told_72 : decode cX11_told 72 = .ok (.getfield 173, 3) := by decide +kernel
theorem dX11_told_75 : decode cX11_told 75 = .ok (.ireturn, 1) := by decide +kernel
theorem dX11_told_76 : decode cX11_told 76 = .ok (.aload_n 3, 1) := by decide +kernel
theorem dX11_told_77 : decode cX11_told 77 = .ok (.getfield 176, 3) := by decide +kernel
theorem dX11_told_80 : decode cX11_told 80 = .ok (.ireturn, 1) := by decide +kernel
theorem dX11_told_81 : decode cX11_told 81 = .ok (.aload_n 3, 1) := by decide +kernel
theorem dX11_told_82 : decode cX11_told 82 = .ok (.getfield 179, 3) := by decide +kernel
theorem dX11_told_85 : decode cX11_told 85 = .ok (.ifCond .eq 7, 3) := by decide +kernel
theorem dX11_told_88 : decode cX11_told 88 = .ok (.iconst 1, 1) := by decide +kernel
theorem dX11_told_89 : decode cX11_told 89 = .ok (.goto 4, 3) := by decide +kernel
theorem dX11_told_92 : decode cX11_told 92 = .ok (.iconst 0, 1) := by decide +kernel
theorem dX11_told_93 : decode cX11_told 93 = .ok (.ireturn, 1) := by decide +kernel
theorem dX11_told_94 : decode cX11_told 94 = .ok (.iconst (-1), 1) := by decide +kernel
theorem dX11_told_95 : decode cX11_told 95 = .ok (.ireturn, 1) := by decide +kernel
theorem dX11_out_0 : decode cX11_out 0 = .ok (.aload_n 0, 1) := by decide +kernel
theorem dX11_out_1 : decode cX11_out 1 = .ok (.getfield 10, 3) := by decide +kernel
theorem dX11_out_4 : decode cX11_out 4 = .ok (.iload_n 1, 1) := by decide +kernel
theorem dX11_out_5 : decode cX11_out 5 = .ok (.invokevirtual 158, 3) := by decide +kernel
theorem dX11_out_8 : decode cX11_out 8 = .ok (.astore_n 3, 1) := by decide +kernel
theorem dX11_out_9 : decode cX11_out 9 = .ok (.aload_n 3, 1) := by decide +kernel
theorem dX11_out_10 : decode cX11_out 10 = .ok (.ifnonnull 5, 3) := by decide +kernel
theorem dX11_out_13 : decode cX11_out 13 = .ok (.iconst (-1), 1) := by decide +kernel
theorem dX11_out_14 : decode cX11_out 14 = .ok (.ireturn, 1) := by decide +kernel
theorem dX11_out_15 : decode cX11_out 15 = .ok (.aload_n 3, 1) := by decide +kernel
theorem dX11_out_16 : decode cX11_out 16 = .ok (.getfield 179, 3) := by decide +kernel
theorem dX11_out_19 : decode cX11_out 19 = .ok (.istore 4, 2) := by decide +kernel
theorem dX11_out_21 : decode cX11_out 21 = .ok (.aload_n 3, 1) := by decide +kernel
theorem dX11_out_22 : decode cX11_out 22 = .ok (.iload_n 2, 1) := by decide +kernel
theorem dX11_out_23 : decode cX11_out 23 = .ok (.putfield 179, 3) := by decide +kernel
theorem dX11_out_26 : decode cX11_out 26 = .ok (.iload 4, 2) := by decide +kernel
theorem dX11_out_28 : decode cX11_out 28 = .ok (.iload_n 2, 1) := by decide +kernel
theorem dX11_out_29 : decode cX11_out 29 = .ok (.if_icmp .ne 7, 3) := by decide +kernel
theorem dX11_out_32 : decode cX11_out 32 = .ok (.iconst 0, 1) := by decide +kernel
theorem dX11_out_33 : decode cX11_out 33 = .ok (.goto 4, 3) := by decide +kernel
theorem dX11_out_36 : decode cX11_out 36 = .ok (.iconst 1, 1) := by decide +kernel
theorem dX11_out_37 : decode cX11_out 37 = .ok (.ireturn, 1) := by decide +kernel
theorem dX11_chain_0 : decode cX11_chain 0 = .ok (.aload_n 0, 1) := by decide +kernel
theorem dX11_chain_1 : decode cX11_chain 1 = .ok (.getfield 10, 3) := by decide +kernel
theorem dX11_chain_4 : decode cX11_chain 4 = .ok (.iload_n 1, 1) := by decide +kernel
theorem dX11_chain_5 : decode cX11_chain 5 = .ok (.invokevirtual 183, 3) := by decide +kernel
theorem dX11_chain_8 : decode cX11_chain 8 = .ok (.ifCond .eq 19, 3) := by decide +kernel
theorem dX11_chain_11 : decode cX11_chain 11 = .ok (.aload_n 0, 1) := by decide +kernel
theorem dX11_chain_12 : decode cX11_chain 12 = .ok (.getfield 10, 3) := by decide +kernel
theorem dX11_chain_15 : decode cX11_chain 15 = .ok (.iload_n 2, 1) := by decide +kernel
theorem dX11_chain_16 : decode cX11_chain 16 = .ok (.invokevirtual 183, 3) := by decide +kernel
theorem dX11_chain_19 : decode cX11_chain 19 = .ok (.ifCond .eq 8, 3) := by decide +kernel
theorem dX11_chain_22 : decode cX11_chain 22 = .ok (.iload_n 3, 1) := by decide +kernel
theorem dX11_chain_23 : decode cX11_chain 23 = .ok (.iconst (-1), 1) := by decide +kernel
theorem dX11_chain_24 : decode cX11_chain 24 = .ok (.if_icmp .ge 5, 3) := by decide +kernel
theorem dX11_chain_27 : decode cX11_chain 27 = .ok (.iconst (-1), 1) := by decide +kernel
theorem dX11_chain_28 : decode cX11_chain 28 = .ok (.ireturn, 1) := by decide +kernel
theorem dX11_chain_29 : decode cX11_chain 29 = .ok (.aload_n 0, 1) := by decide +kernel
theorem dX11_chain_30 : decode cX11_chain 30 = .ok (.getfield 35, 3) := by decide +kernel
theorem dX11_chain_33 : decode cX11_chain 33 = .ok (.aload_n 0, 1) := by decide +kernel
theorem dX11_chain_34 : decode cX11_chain 34 = .ok (.getfield 10, 3) := by decide +kernel
theorem dX11_chain_37 : decode cX11_chain 37 = .ok (.iload_n 1, 1) := by decide +kernel
theorem dX11_chain_38 : decode cX11_chain 38 = .ok (.iload_n 2, 1) := by decide +kernel
theorem dX11_chain_39 : decode cX11_chain 39 = .ok (.invokevirtual 186, 3) := by decide +kernel
theorem dX11_chain_42 : decode cX11_chain 42 = .ok (.ifCond .ne 6, 3) := by decide +kernel
theorem dX11_chain_45 : decode cX11_chain 45 = .ok (.bipush (-4), 2) := by decide +kernel
theorem dX11_chain_47 : decode cX11_chain 47 = .ok (.ireturn, 1) := by decide +kernel
theorem dX11_chain_48 : decode cX11_chain 48 = .ok (.iload_n 3, 1) := by decide +kernel
theorem dX11_chain_49 : decode cX11_chain 49 = .ok (.iconst (-1), 1) := by decide +kernel
theorem dX11_chain_50 : decode cX11_chain 50 = .ok (.if_icmp .ne 11, 3) := by decide +kernel
theorem dX11_chain_53 : decode cX11_chain 53 = .ok (.aload_n 0, 1) := by decide +kernel
theorem dX11_chain_54 : decode cX11_chain 54 = .ok (.getfield 35, 3) := by decide +kernel
theorem dX11_chain_57 : decode cX11_chain 57 = .ok (.getfield 190, 3) := by decide +kernel
theorem dX11_chain_60 : decode cX11_chain 60 = .ok (.ireturn, 1) := by decide +kernel
theorem dX11_chain_61 : decode cX11_chain 61 = .ok (.iload_n 3, 1) := by decide +kernel
theorem dX11_chain_62 : decode cX11_chain 62 = .ok (.aload_n 0, 1) := by decide +kernel
theorem dX11_chain_63 : decode cX11_chain 63 = .ok (.getfield 35, 3) := by decide +kernel
theorem dX11_chain_66 : decode cX11_chain 66 = .ok (.getfield 190, 3) := by decide +kernel
theorem dX11_chain_69 : decode cX11_chain 69 = .ok (.if_icmp .ge 15, 3) := by decide +kernel
theorem dX11_chain_72 : decode cX11_chain 72 = .ok (.aload_n 0, 1) := by decide +kernel
theorem dX11_chain_73 : decode cX11_chain 73 = .ok (.getfield 35, 3) := by decide +kernel
theorem dX11_chain_76 : decode cX11_chain 76 = .ok (.getfield 193, 3) := by decide +kernel
theorem dX11_chain_79 : decode cX11_chain 79 = .ok (.iload_n 3, 1) := by decide +kernel
theorem dX11_chain_80 : decode cX11_chain 80 = .ok (.iaload, 1) := by decide +kernel
theorem dX11_chain_81 : decode cX11_chain 81 = .ok (.goto 5, 3) := by decide +kernel
theorem dX11_chain_84 : decode cX11_chain 84 = .ok (.bipush (-4), 2) := by decide +kernel
theorem dX11_chain_86 : decode cX11_chain 86 = .ok (.ireturn, 1) := by decide +kernel
theorem dX11_span_0 : decode cX11_span 0 = .ok (.aload_n 0, 1) := by decide +kernel
theorem dX11_span_1 : decode cX11_span 1 = .ok (.getfield 10, 3) := by decide +kernel
theorem dX11_span_4 : decode cX11_span 4 = .ok (.iload_n 1, 1) := by decide +kernel
theorem dX11_span_5 : decode cX11_span 5 = .ok (.invokevirtual 183, 3) := by decide +kernel
theorem dX11_span_8 : decode cX11_span 8 = .ok (.ifCond .eq 33, 3) := by decide +kernel
theorem dX11_span_11 : decode cX11_span 11 = .ok (.aload_n 0, 1) := by decide +kernel
theorem dX11_span_12 : decode cX11_span 12 = .ok (.getfield 10, 3) := by decide +kernel
theorem dX11_span_15 : decode cX11_span 15 = .ok (.iload_n 2, 1) := by decide +kernel
theorem dX11_span_16 : decode cX11_span 16 = .ok (.invokevirtual 183, 3) := by decide +kernel
theorem dX11_span_19 : decode cX11_span 19 = .ok (.ifCond .eq 22, 3) := by decide +kernel
theorem dX11_span_22 : decode cX11_span 22 = .ok (.iload_n 3, 1) := by decide +kernel
theorem dX11_span_23 : decode cX11_span 23 = .ok (.iconst 0, 1) := by decide +kernel
theorem dX11_span_24 : decode cX11_span 24 = .ok (.iconst 2, 1) := by decide +kernel
theorem dX11_span_25 : decode cX11_span 25 = .ok (.invokestatic 61, 3) := by decide +kernel
theorem dX11_span_28 : decode cX11_span 28 = .ok (.ifCond .eq 13, 3) := by decide +kernel
theorem dX11_span_31 : decode cX11_span 31 = .ok (.iload 4, 2) := by decide +kernel
theorem dX11_span_33 : decode cX11_span 33 = .ok (.iconst 0, 1) := by decide +kernel
theorem dX11_span_34 : decode cX11_span 34 = .ok (.iconst 1, 1) := by decide +kernel
theorem dX11_span_35 : decode cX11_span 35 = .ok (.invokestatic 61, 3) := by decide +kernel
theorem dX11_span_38 : decode cX11_span 38 = .ok (.ifCond .ne 7, 3) := by decide +kernel
theorem dX11_span_41 : decode cX11_span 41 = .ok (.ldc2_w 119, 3) := by decide +kernel
theorem dX11_span_44 : decode cX11_span 44 = .ok (.lreturn, 1) := by decide +kernel
theorem dX11_span_45 : decode cX11_span 45 = .ok (.aload_n 0, 1) := by decide +kernel
theorem dX11_span_46 : decode cX11_span 46 = .ok (.getfield 35, 3) := by decide +kernel
theorem dX11_span_49 : decode cX11_span 49 = .ok (.aload_n 0, 1) := by decide +kernel
theorem dX11_span_50 : decode cX11_span 50 = .ok (.getfield 10, 3) := by decide +kernel
theorem dX11_span_53 : decode cX11_span 53 = .ok (.iload_n 1, 1) := by decide +kernel
theorem dX11_span_54 : decode cX11_span 54 = .ok (.iload_n 2, 1) := by decide +kernel
theorem dX11_span_55 : decode cX11_span 55 = .ok (.invokevirtual 186, 3) := by decide +kernel
theorem dX11_span_58 : decode cX11_span 58 = .ok (.ifCond .ne 7, 3) := by decide +kernel
theorem dX11_span_61 : decode cX11_span 61 = .ok (.ldc2_w 196, 3) := by decide +kernel
theorem dX11_span_64 : decode cX11_span 64 = .ok (.lreturn, 1) := by decide +kernel
theorem dX11_span_65 : decode cX11_span 65 = .ok (.aload_n 0, 1) := by decide +kernel
theorem dX11_span_66 : decode cX11_span 66 = .ok (.getfield 35, 3) := by decide +kernel
theorem dX11_span_69 : decode cX11_span 69 = .ok (.aload_n 0, 1) := by decide +kernel
theorem dX11_span_70 : decode cX11_span 70 = .ok (.getfield 10, 3) := by decide +kernel
theorem dX11_span_73 : decode cX11_span 73 = .ok (.iload_n 1, 1) := by decide +kernel
theorem dX11_span_74 : decode cX11_span 74 = .ok (.iload_n 3, 1) := by decide +kernel
theorem dX11_span_75 : decode cX11_span 75 = .ok (.invokevirtual 198, 3) := by decide +kernel
theorem dX11_span_78 : decode cX11_span 78 = .ok (.iload 4, 2) := by decide +kernel
theorem dX11_span_80 : decode cX11_span 80 = .ok (.ifCond .ne 13, 3) := by decide +kernel
theorem dX11_span_83 : decode cX11_span 83 = .ok (.aload_n 0, 1) := by decide +kernel
theorem dX11_span_84 : decode cX11_span 84 = .ok (.getfield 35, 3) := by decide +kernel
theorem dX11_span_87 : decode cX11_span 87 = .ok (.getfield 202, 3) := by decide +kernel
theorem dX11_span_90 : decode cX11_span 90 = .ok (.goto 10, 3) := by decide +kernel
theorem dX11_span_93 : decode cX11_span 93 = .ok (.aload_n 0, 1) := by decide +kernel
theorem dX11_span_94 : decode cX11_span 94 = .ok (.getfield 35, 3) := by decide +kernel
theorem dX11_span_97 : decode cX11_span 97 = .ok (.getfield 206, 3) := by decide +kernel
theorem dX11_span_100 : decode cX11_span 100 = .ok (.lreturn, 1) := by decide +kernel
theorem dX11_placeOf_0 : decode cX11_placeOf 0 = .ok (.iconst 0, 1) := by decide +kernel
theorem dX11_placeOf_1 : decode cX11_placeOf 1 = .ok (.istore 4, 2) := by decide +kernel
theorem dX11_placeOf_3 : decode cX11_placeOf 3 = .ok (.bipush 64, 2) := by decide +kernel
theorem dX11_placeOf_5 : decode cX11_placeOf 5 = .ok (.istore 5, 2) := by decide +kernel
theorem dX11_placeOf_7 : decode cX11_placeOf 7 = .ok (.iload 5, 2) := by decide +kernel
theorem dX11_placeOf_9 : decode cX11_placeOf 9 = .ok (.ifCond .le 32, 3) := by decide +kernel
theorem dX11_placeOf_12 : decode cX11_placeOf 12 = .ok (.iload 4, 2) := by decide +kernel
theorem dX11_placeOf_14 : decode cX11_placeOf 14 = .ok (.iload 5, 2) := by decide +kernel
theorem dX11_placeOf_16 : decode cX11_placeOf 16 = .ok (.iadd, 1) := by decide +kernel
theorem dX11_placeOf_17 : decode cX11_placeOf 17 = .ok (.lload_n 0, 1) := by decide +kernel
theorem dX11_placeOf_18 : decode cX11_placeOf 18 = .ok (.lload_n 2, 1) := by decide +kernel
theorem dX11_placeOf_19 : decode cX11_placeOf 19 = .ok (.invokestatic 209, 3) := by decide +kernel
theorem dX11_placeOf_22 : decode cX11_placeOf 22 = .ok (.ifCond .ne 10, 3) := by decide +kernel
theorem dX11_placeOf_25 : decode cX11_placeOf 25 = .ok (.iload 4, 2) := by decide +kernel
theorem dX11_placeOf_27 : decode cX11_placeOf 27 = .ok (.iload 5, 2) := by decide +kernel
theorem dX11_placeOf_29 : decode cX11_placeOf 29 = .ok (.iadd, 1) := by decide +kernel
theorem dX11_placeOf_30 : decode cX11_placeOf 30 = .ok (.istore 4, 2) := by decide +kernel
theorem dX11_placeOf_32 : decode cX11_placeOf 32 = .ok (.iload 5, 2) := by decide +kernel
theorem dX11_placeOf_34 : decode cX11_placeOf 34 = .ok (.iconst 2, 1) := by decide +kernel
theorem dX11_placeOf_35 : decode cX11_placeOf 35 = .ok (.idiv, 1) := by decide +kernel
theorem dX11_placeOf_36 : decode cX11_placeOf 36 = .ok (.istore 5, 2) := by decide +kernel
theorem dX11_placeOf_38 : decode cX11_placeOf 38 = .ok (.goto (-31), 3) := by decide +kernel
theorem dX11_placeOf_41 : decode cX11_placeOf 41 = .ok (.iload 4, 2) := by decide +kernel
theorem dX11_placeOf_43 : decode cX11_placeOf 43 = .ok (.iconst 1, 1) := by decide +kernel
theorem dX11_placeOf_44 : decode cX11_placeOf 44 = .ok (.iadd, 1) := by decide +kernel
theorem dX11_placeOf_45 : decode cX11_placeOf 45 = .ok (.ireturn, 1) := by decide +kernel
theorem dX11_isPlaceUpTo_0 : decode cX11_isPlaceUpTo 0 = .ok (.iload_n 0, 1) := by decide +kernel
theorem dX11_isPlaceUpTo_1 : decode cX11_isPlaceUpTo 1 = .ok (.iconst 1, 1) := by decide +kernel
theorem dX11_isPlaceUpTo_2 : decode cX11_isPlaceUpTo 2 = .ok (.if_icmp .lt 9, 3) := by decide +kernel
theorem dX11_isPlaceUpTo_5 : decode cX11_isPlaceUpTo 5 = .ok (.iload_n 0, 1) := by decide +kernel
theorem dX11_isPlaceUpTo_6 : decode cX11_isPlaceUpTo 6 = .ok (.bipush 99, 2) := by decide +kernel
theorem dX11_isPlaceUpTo_8 : decode cX11_isPlaceUpTo 8 = .ok (.if_icmp .lt 15, 3) := by decide +kernel
theorem dX11_isPlaceUpTo_11 : decode cX11_isPlaceUpTo 11 = .ok (.iload_n 0, 1) := by decide +kernel
theorem dX11_isPlaceUpTo_12 : decode cX11_isPlaceUpTo 12 = .ok (.bipush 99, 2) := by decide +kernel
theorem dX11_isPlaceUpTo_14 : decode cX11_isPlaceUpTo 14 = .ok (.if_icmp .lt 7, 3) := by decide +kernel
theorem dX11_isPlaceUpTo_17 : decode cX11_isPlaceUpTo 17 = .ok (.iconst 1, 1) := by decide +kernel
theorem dX11_isPlaceUpTo_18 : decode cX11_isPlaceUpTo 18 = .ok (.goto 4, 3) := by decide +kernel
theorem dX11_isPlaceUpTo_21 : decode cX11_isPlaceUpTo 21 = .ok (.iconst 0, 1) := by decide +kernel
theorem dX11_isPlaceUpTo_22 : decode cX11_isPlaceUpTo 22 = .ok (.ireturn, 1) := by decide +kernel
theorem dX11_isPlaceUpTo_23 : decode cX11_isPlaceUpTo 23 = .ok (.bipush 100, 2) := by decide +kernel
theorem dX11_isPlaceUpTo_25 : decode cX11_isPlaceUpTo 25 = .ok (.iload_n 0, 1) := by decide +kernel
theorem dX11_isPlaceUpTo_26 : decode cX11_isPlaceUpTo 26 = .ok (.isub, 1) := by decide +kernel
theorem dX11_isPlaceUpTo_27 : decode cX11_isPlaceUpTo 27 = .ok (.bipush 100, 2) := by decide +kernel
theorem dX11_isPlaceUpTo_29 : decode cX11_isPlaceUpTo 29 = .ok (.iload_n 0, 1) := by decide +kernel
theorem dX11_isPlaceUpTo_30 : decode cX11_isPlaceUpTo 30 = .ok (.isub, 1) := by decide +kernel
theorem dX11_isPlaceUpTo_31 : decode cX11_isPlaceUpTo 31 = .ok (.imul, 1) := by decide +kernel
theorem dX11_isPlaceUpTo_32 : decode cX11_isPlaceUpTo 32 = .ok (.bipush 99, 2) := by decide +kernel
theorem dX11_isPlaceUpTo_34 : decode cX11_isPlaceUpTo 34 = .ok (.iload_n 0, 1) := by decide +kernel
theorem dX11_isPlaceUpTo_35 : decode cX11_isPlaceUpTo 35 = .ok (.isub, 1) := by decide +kernel
theorem dX11_isPlaceUpTo_36 : decode cX11_isPlaceUpTo 36 = .ok (.bipush 99, 2) := by decide +kernel
theorem dX11_isPlaceUpTo_38 : decode cX11_isPlaceUpTo 38 = .ok (.iload_n 0, 1) := by decide +kernel
theorem dX11_isPlaceUpTo_39 : decode cX11_isPlaceUpTo 39 = .ok (.isub, 1) := by decide +kernel
theorem dX11_isPlaceUpTo_40 : decode cX11_isPlaceUpTo 40 = .ok (.imul, 1) := by decide +kernel
theorem dX11_isPlaceUpTo_41 : decode cX11_isPlaceUpTo 41 = .ok (.iadd, 1) := by decide +kernel
theorem dX11_isPlaceUpTo_42 : decode cX11_isPlaceUpTo 42 = .ok (.istore 5, 2) := by decide +kernel
theorem dX11_isPlaceUpTo_44 : decode cX11_isPlaceUpTo 44 = .ok (.iload_n 0, 1) := by decide +kernel
theorem dX11_isPlaceUpTo_45 : decode cX11_isPlaceUpTo 45 = .ok (.iload_n 0, 1) := by decide +kernel
theorem dX11_isPlaceUpTo_46 : decode cX11_isPlaceUpTo 46 = .ok (.imul, 1) := by decide +kernel
theorem dX11_isPlaceUpTo_47 : decode cX11_isPlaceUpTo 47 = .ok (.iload_n 0, 1) := by decide +kernel
theorem dX11_isPlaceUpTo_48 : decode cX11_isPlaceUpTo 48 = .ok (.iconst 1, 1) := by decide +kernel
theorem dX11_isPlaceUpTo_49 : decode cX11_isPlaceUpTo 49 = .ok (.iadd, 1) := by decide +kernel
theorem dX11_isPlaceUpTo_50 : decode cX11_isPlaceUpTo 50 = .ok (.iload_n 0, 1) := by decide +kernel
theorem dX11_isPlaceUpTo_51 : decode cX11_isPlaceUpTo 51 = .ok (.iconst 1, 1) := by decide +kernel
theorem dX11_isPlaceUpTo_52 : decode cX11_isPlaceUpTo 52 = .ok (.iadd, 1) := by decide +kernel
theorem dX11_isPlaceUpTo_53 : decode cX11_isPlaceUpTo 53 = .ok (.imul, 1) := by decide +kernel
theorem dX11_isPlaceUpTo_54 : decode cX11_isPlaceUpTo 54 = .ok (.iadd, 1) := by decide +kernel
theorem dX11_isPlaceUpTo_55 : decode cX11_isPlaceUpTo 55 = .ok (.istore 6, 2) := by decide +kernel
theorem dX11_isPlaceUpTo_57 : decode cX11_isPlaceUpTo 57 = .ok (.lload_n 1, 1) := by decide +kernel
theorem dX11_isPlaceUpTo_58 : decode cX11_isPlaceUpTo 58 = .ok (.iload 5, 2) := by decide +kernel
theorem dX11_isPlaceUpTo_60 : decode cX11_isPlaceUpTo 60 = .ok (.i2l, 1) := by decide +kernel
theorem dX11_isPlaceUpTo_61 : decode cX11_isPlaceUpTo 61 = .ok (.lmul, 1) := by decide +kernel
theorem dX11_isPlaceUpTo_62 : decode cX11_isPlaceUpTo 62 = .ok (.lload_n 3, 1) := by decide +kernel
theorem dX11_isPlaceUpTo_63 : decode cX11_isPlaceUpTo 63 = .ok (.iload 6, 2) := by decide +kernel
theorem dX11_isPlaceUpTo_65 : decode cX11_isPlaceUpTo 65 = .ok (.i2l, 1) := by decide +kernel
theorem dX11_isPlaceUpTo_66 : decode cX11_isPlaceUpTo 66 = .ok (.lmul, 1) := by decide +kernel
theorem dX11_isPlaceUpTo_67 : decode cX11_isPlaceUpTo 67 = .ok (.lcmp, 1) := by decide +kernel
theorem dX11_isPlaceUpTo_68 : decode cX11_isPlaceUpTo 68 = .ok (.ifCond .gt 7, 3) := by decide +kernel
theorem dX11_isPlaceUpTo_71 : decode cX11_isPlaceUpTo 71 = .ok (.iconst 1, 1) := by decide +kernel
theorem dX11_isPlaceUpTo_72 : decode cX11_isPlaceUpTo 72 = .ok (.goto 4, 3) := by decide +kernel
theorem dX11_isPlaceUpTo_75 : decode cX11_isPlaceUpTo 75 = .ok (.iconst 0, 1) := by decide +kernel
theorem dX11_isPlaceUpTo_76 : decode cX11_isPlaceUpTo 76 = .ok (.ireturn, 1) := by decide +kernel
theorem dX11_laws_0 : decode cX11_laws 0 = .ok (.iload_n 1, 1) := by decide +kernel
theorem dX11_laws_1 : decode cX11_laws 1 = .ok (.iconst 0, 1) := by decide +kernel
theorem dX11_laws_2 : decode cX11_laws 2 = .ok (.bipush 7, 2) := by decide +kernel
theorem dX11_laws_4 : decode cX11_laws 4 = .ok (.invokestatic 61, 3) := by decide +kernel
theorem dX11_laws_7 : decode cX11_laws 7 = .ok (.ifCond .eq 18, 3) := by decide +kernel
theorem dX11_laws_10 : decode cX11_laws 10 = .ok (.iload_n 2, 1) := by decide +kernel
theorem dX11_laws_11 : decode cX11_laws 11 = .ok (.iconst 0, 1) := by decide +kernel
theorem dX11_laws_12 : decode cX11_laws 12 = .ok (.bipush 50, 2) := by decide +kernel
theorem dX11_laws_14 : decode cX11_laws 14 = .ok (.invokestatic 61, 3) := by decide +kernel
theorem dX11_laws_17 : decode cX11_laws 17 = .ok (.ifCond .eq 8, 3) := by decide +kernel
theorem dX11_laws_20 : decode cX11_laws 20 = .ok (.iload_n 3, 1) := by decide +kernel
theorem dX11_laws_21 : decode cX11_laws 21 = .ok (.iconst (-1), 1) := by decide +kernel
theorem dX11_laws_22 : decode cX11_laws 22 = .ok (.if_icmp .ge 5, 3) := by decide +kernel
theorem dX11_laws_25 : decode cX11_laws 25 = .ok (.iconst (-1), 1) := by decide +kernel
theorem dX11_laws_26 : decode cX11_laws 26 = .ok (.ireturn, 1) := by decide +kernel
theorem dX11_laws_27 : decode cX11_laws 27 = .ok (.aload_n 0, 1) := by decide +kernel
theorem dX11_laws_28 : decode cX11_laws 28 = .ok (.getfield 49, 3) := by decide +kernel
theorem dX11_laws_31 : decode cX11_laws 31 = .ok (.aload_n 0, 1) := by decide +kernel
theorem dX11_laws_32 : decode cX11_laws 32 = .ok (.getfield 10, 3) := by decide +kernel
theorem dX11_laws_35 : decode cX11_laws 35 = .ok (.iload_n 1, 1) := by decide +kernel
theorem dX11_laws_36 : decode cX11_laws 36 = .ok (.iload_n 2, 1) := by decide +kernel
theorem dX11_laws_37 : decode cX11_laws 37 = .ok (.invokevirtual 213, 3) := by decide +kernel
theorem dX11_laws_40 : decode cX11_laws 40 = .ok (.iload_n 3, 1) := by decide +kernel
theorem dX11_laws_41 : decode cX11_laws 41 = .ok (.iconst (-1), 1) := by decide +kernel
theorem dX11_laws_42 : decode cX11_laws 42 = .ok (.if_icmp .ne 13, 3) := by decide +kernel
theorem dX11_laws_45 : decode cX11_laws 45 = .ok (.aload_n 0, 1) := by decide +kernel
theorem dX11_laws_46 : decode cX11_laws 46 = .ok (.getfield 49, 3) := by decide +kernel
theorem dX11_laws_49 : decode cX11_laws 49 = .ok (.getfield 216, 3) := by decide +kernel
theorem dX11_laws_52 : decode cX11_laws 52 = .ok (.goto 11, 3) := by decide +kernel
theorem dX11_laws_55 : decode cX11_laws 55 = .ok (.aload_n 0, 1) := by decide +kernel
theorem dX11_laws_56 : decode cX11_laws 56 = .ok (.getfield 49, 3) := by decide +kernel
theorem dX11_laws_59 : decode cX11_laws 59 = .ok (.iload_n 3, 1) := by decide +kernel
theorem dX11_laws_60 : decode cX11_laws 60 = .ok (.invokevirtual 219, 3) := by decide +kernel
theorem dX11_laws_63 : decode cX11_laws 63 = .ok (.ireturn, 1) := by decide +kernel
theorem dX11_parts_0 : decode cX11_parts 0 = .ok (.iload_n 1, 1) := by decide +kernel
theorem dX11_parts_1 : decode cX11_parts 1 = .ok (.iconst 0, 1) := by decide +kernel
theorem dX11_parts_2 : decode cX11_parts 2 = .ok (.bipush 7, 2) := by decide +kernel
theorem dX11_parts_4 : decode cX11_parts 4 = .ok (.invokestatic 61, 3) := by decide +kernel
theorem dX11_parts_7 : decode cX11_parts 7 = .ok (.ifCond .eq 26, 3) := by decide +kernel
theorem dX11_parts_10 : decode cX11_parts 10 = .ok (.iload_n 2, 1) := by decide +kernel
theorem dX11_parts_11 : decode cX11_parts 11 = .ok (.iconst 0, 1) := by decide +kernel
theorem dX11_parts_12 : decode cX11_parts 12 = .ok (.bipush 50, 2) := by decide +kernel
theorem dX11_parts_14 : decode cX11_parts 14 = .ok (.invokestatic 61, 3) := by decide +kernel
theorem dX11_parts_17 : decode cX11_parts 17 = .ok (.ifCond .eq 16, 3) := by decide +kernel
theorem dX11_parts_20 : decode cX11_parts 20 = .ok (.aload_n 0, 1) := by decide +kernel
theorem dX11_parts_21 : decode cX11_parts 21 = .ok (.getfield 10, 3) := by decide +kernel
theorem dX11_parts_24 : decode cX11_parts 24 = .ok (.iload_n 3, 1) := by decide +kernel
theorem dX11_parts_25 : decode cX11_parts 25 = .ok (.iload 4, 2) := by decide +kernel
theorem dX11_parts_27 : decode cX11_parts 27 = .ok (.invokevirtual 125, 3) := by decide +kernel
theorem dX11_parts_30 : decode cX11_parts 30 = .ok (.ifCond .ne 5, 3) := by decide +kernel
theorem dX11_parts_33 : decode cX11_parts 33 = .ok (.iconst (-1), 1) := by decide +kernel
theorem dX11_parts_34 : decode cX11_parts 34 = .ok (.ireturn, 1) := by decide +kernel
theorem dX11_parts_35 : decode cX11_parts 35 = .ok (.aload_n 0, 1) := by decide +kernel
theorem dX11_parts_36 : decode cX11_parts 36 = .ok (.getfield 49, 3) := by decide +kernel
theorem dX11_parts_39 : decode cX11_parts 39 = .ok (.aload_n 0, 1) := by decide +kernel
theorem dX11_parts_40 : decode cX11_parts 40 = .ok (.getfield 10, 3) := by decide +kernel
theorem dX11_parts_43 : decode cX11_parts 43 = .ok (.iload_n 1, 1) := by decide +kernel
theorem dX11_parts_44 : decode cX11_parts 44 = .ok (.iload_n 2, 1) := by decide +kernel
theorem dX11_parts_45 : decode cX11_parts 45 = .ok (.invokevirtual 213, 3) := by decide +kernel
theorem dX11_parts_48 : decode cX11_parts 48 = .ok (.aload_n 0, 1) := by decide +kernel
theorem dX11_parts_49 : decode cX11_parts 49 = .ok (.getfield 49, 3) := by decide +kernel
theorem dX11_parts_52 : decode cX11_parts 52 = .ok (.getfield 216, 3) := by decide +kernel
theorem dX11_parts_55 : decode cX11_parts 55 = .ok (.ifCond .ne 8, 3) := by decide +kernel
theorem dX11_parts_58 : decode cX11_parts 58 = .ok (.bipush (-4), 2) := by decide +kernel
theorem dX11_parts_60 : decode cX11_parts 60 = .ok (.goto 17, 3) := by decide +kernel
theorem dX11_parts_63 : decode cX11_parts 63 = .ok (.aload_n 0, 1) := by decide +kernel
theorem dX11_parts_64 : decode cX11_parts 64 = .ok (.getfield 49, 3) := by decide +kernel
theorem dX11_parts_67 : decode cX11_parts 67 = .ok (.aload_n 0, 1) := by decide +kernel
theorem dX11_parts_68 : decode cX11_parts 68 = .ok (.getfield 10, 3) := by decide +kernel
theorem dX11_parts_71 : decode cX11_parts 71 = .ok (.iload_n 3, 1) := by decide +kernel
theorem dX11_parts_72 : decode cX11_parts 72 = .ok (.iload 4, 2) := by decide +kernel
theorem dX11_parts_74 : decode cX11_parts 74 = .ok (.invokevirtual 222, 3) := by decide +kernel
theorem dX11_parts_77 : decode cX11_parts 77 = .ok (.ireturn, 1) := by decide +kernel
theorem dX11_show_0 : decode cX11_show 0 = .ok (.iload_n 1, 1) := by decide +kernel
theorem dX11_show_1 : decode cX11_show 1 = .ok (.iconst 0, 1) := by decide +kernel
theorem dX11_show_2 : decode cX11_show 2 = .ok (.bipush 7, 2) := by decide +kernel
theorem dX11_show_4 : decode cX11_show 4 = .ok (.invokestatic 61, 3) := by decide +kernel
theorem dX11_show_7 : decode cX11_show 7 = .ok (.ifCond .eq 13, 3) := by decide +kernel
theorem dX11_show_10 : decode cX11_show 10 = .ok (.iload_n 2, 1) := by decide +kernel
theorem dX11_show_11 : decode cX11_show 11 = .ok (.iconst 0, 1) := by decide +kernel
theorem dX11_show_12 : decode cX11_show 12 = .ok (.bipush 50, 2) := by decide +kernel
theorem dX11_show_14 : decode cX11_show 14 = .ok (.invokestatic 61, 3) := by decide +kernel
theorem dX11_show_17 : decode cX11_show 17 = .ok (.ifCond .ne 5, 3) := by decide +kernel
theorem dX11_show_20 : decode cX11_show 20 = .ok (.iconst (-1), 1) := by decide +kernel
theorem dX11_show_21 : decode cX11_show 21 = .ok (.ireturn, 1) := by decide +kernel
theorem dX11_show_22 : decode cX11_show 22 = .ok (.aload_n 0, 1) := by decide +kernel
theorem dX11_show_23 : decode cX11_show 23 = .ok (.getfield 49, 3) := by decide +kernel
theorem dX11_show_26 : decode cX11_show 26 = .ok (.aload_n 0, 1) := by decide +kernel
theorem dX11_show_27 : decode cX11_show 27 = .ok (.getfield 10, 3) := by decide +kernel
theorem dX11_show_30 : decode cX11_show 30 = .ok (.iload_n 1, 1) := by decide +kernel
theorem dX11_show_31 : decode cX11_show 31 = .ok (.iload_n 2, 1) := by decide +kernel
theorem dX11_show_32 : decode cX11_show 32 = .ok (.invokevirtual 213, 3) := by decide +kernel
theorem dX11_show_35 : decode cX11_show 35 = .ok (.aload_n 0, 1) := by decide +kernel
theorem dX11_show_36 : decode cX11_show 36 = .ok (.getfield 49, 3) := by decide +kernel
theorem dX11_show_39 : decode cX11_show 39 = .ok (.getfield 216, 3) := by decide +kernel
theorem dX11_show_42 : decode cX11_show 42 = .ok (.ifCond .ne 6, 3) := by decide +kernel
theorem dX11_show_45 : decode cX11_show 45 = .ok (.bipush (-4), 2) := by decide +kernel
theorem dX11_show_47 : decode cX11_show 47 = .ok (.ireturn, 1) := by decide +kernel
theorem dX11_show_48 : decode cX11_show 48 = .ok (.bipush (-4), 2) := by decide +kernel
theorem dX11_show_50 : decode cX11_show 50 = .ok (.istore_n 3, 1) := by decide +kernel
theorem dX11_show_51 : decode cX11_show 51 = .ok (.iconst (-1), 1) := by decide +kernel
theorem dX11_show_52 : decode cX11_show 52 = .ok (.istore 4, 2) := by decide +kernel
theorem dX11_show_54 : decode cX11_show 54 = .ok (.iconst 0, 1) := by decide +kernel
theorem dX11_show_55 : decode cX11_show 55 = .ok (.istore 5, 2) := by decide +kernel
theorem dX11_show_57 : decode cX11_show 57 = .ok (.iload 5, 2) := by decide +kernel
theorem dX11_show_59 : decode cX11_show 59 = .ok (.aload_n 0, 1) := by decide +kernel
theorem dX11_show_60 : decode cX11_show 60 = .ok (.getfield 10, 3) := by decide +kernel
theorem dX11_show_63 : decode cX11_show 63 = .ok (.getfield 65, 3) := by decide +kernel
theorem dX11_show_66 : decode cX11_show 66 = .ok (.if_icmp .ge 70, 3) := by decide +kernel
theorem dX11_show_69 : decode cX11_show 69 = .ok (.iload 5, 2) := by decide +kernel
theorem dX11_show_71 : decode cX11_show 71 = .ok (.iconst 1, 1) := by decide +kernel
theorem dX11_show_72 : decode cX11_show 72 = .ok (.iadd, 1) := by decide +kernel
theorem dX11_show_73 : decode cX11_show 73 = .ok (.istore 6, 2) := by decide +kernel
theorem dX11_show_75 : decode cX11_show 75 = .ok (.iload 6, 2) := by decide +kernel
theorem dX11_show_77 : decode cX11_show 77 = .ok (.aload_n 0, 1) := by decide +kernel
theorem dX11_show_78 : decode cX11_show 78 = .ok (.getfield 10, 3) := by decide +kernel
theorem dX11_show_81 : decode cX11_show 81 = .ok (.getfield 65, 3) := by decide +kernel
theorem dX11_show_84 : decode cX11_show 84 = .ok (.if_icmp .ge 46, 3) := by decide +kernel
theorem dX11_show_87 : decode cX11_show 87 = .ok (.aload_n 0, 1) := by decide +kernel
theorem dX11_show_88 : decode cX11_show 88 = .ok (.getfield 49, 3) := by decide +kernel
theorem dX11_show_91 : decode cX11_show 91 = .ok (.aload_n 0, 1) := by decide +kernel
theorem dX11_show_92 : decode cX11_show 92 = .ok (.getfield 10, 3) := by decide +kernel
theorem dX11_show_95 : decode cX11_show 95 = .ok (.iload 5, 2) := by decide +kernel
theorem dX11_show_97 : decode cX11_show 97 = .ok (.iload 6, 2) := by decide +kernel
theorem dX11_show_99 : decode cX11_show 99 = .ok (.invokevirtual 222, 3) := by decide +kernel
theorem dX11_show_102 : decode cX11_show 102 = .ok (.istore 7, 2) := by decide +kernel
theorem dX11_show_104 : decode cX11_show 104 = .ok (.iload 7, 2) := by decide +kernel
theorem dX11_show_106 : decode cX11_show 106 = .ok (.iload 4, 2) := by decide +kernel
theorem dX11_show_108 : decode cX11_show 108 = .ok (.if_icmp .le 16, 3) := by decide +kernel
theorem dX11_show_111 : decode cX11_show 111 = .ok (.iload 7, 2) := by decide +kernel
theorem dX11_show_113 : decode cX11_show 113 = .ok (.istore 4, 2) := by decide +kernel
theorem dX11_show_115 : decode cX11_show 115 = .ok (.bipush 100, 2) := by decide +kernel
theorem dX11_show_117 : decode cX11_show 117 = .ok (.iload 5, 2) := by decide +kernel
theorem dX11_show_119 : decode cX11_show 119 = .ok (.imul, 1) := by decide +kernel
theorem dX11_show_120 : decode cX11_show 120 = .ok (.iload 6, 2) := by decide +kernel
theorem dX11_show_122 : decode cX11_show 122 = .ok (.iadd, 1) := by decide +kernel
theorem dX11_show_123 : decode cX11_show 123 = .ok (.istore_n 3, 1) := by decide +kernel
theorem dX11_show_124 : decode cX11_show 124 = .ok (.iinc 6 1, 3) := by decide +kernel
theorem dX11_show_127 : decode cX11_show 127 = .ok (.goto (-52), 3) := by decide +kernel
theorem dX11_show_130 : decode cX11_show 130 = .ok (.iinc 5 1, 3) := by decide +kernel
theorem dX11_show_133 : decode cX11_show 133 = .ok (.goto (-76), 3) := by decide +kernel
theorem dX11_show_136 : decode cX11_show 136 = .ok (.iload_n 3, 1) := by decide +kernel
theorem dX11_show_137 : decode cX11_show 137 = .ok (.ireturn, 1) := by decide +kernel
theorem dX11_disagree_0 : decode cX11_disagree 0 = .ok (.aload_n 0, 1) := by decide +kernel
theorem dX11_disagree_1 : decode cX11_disagree 1 = .ok (.getfield 10, 3) := by decide +kernel
theorem dX11_disagree_4 : decode cX11_disagree 4 = .ok (.iload_n 1, 1) := by decide +kernel
theorem dX11_disagree_5 : decode cX11_disagree 5 = .ok (.invokevirtual 108, 3) := by decide +kernel
theorem dX11_disagree_8 : decode cX11_disagree 8 = .ok (.astore 6, 2) := by decide +kernel
theorem dX11_disagree_10 : decode cX11_disagree 10 = .ok (.aload_n 0, 1) := by decide +kernel
theorem dX11_disagree_11 : decode cX11_disagree 11 = .ok (.getfield 10, 3) := by decide +kernel
theorem dX11_disagree_14 : decode cX11_disagree 14 = .ok (.iload_n 2, 1) := by decide +kernel
theorem dX11_disagree_15 : decode cX11_disagree 15 = .ok (.invokevirtual 108, 3) := by decide +kernel
theorem dX11_disagree_18 : decode cX11_disagree 18 = .ok (.astore 7, 2) := by decide +kernel
theorem dX11_disagree_20 : decode cX11_disagree 20 = .ok (.aload 6, 2) := by decide +kernel
theorem dX11_disagree_22 : decode cX11_disagree 22 = .ok (.ifnull 32, 3) := by decide +kernel
theorem dX11_disagree_25 : decode cX11_disagree 25 = .ok (.aload 7, 2) := by decide +kernel
theorem dX11_disagree_27 : decode cX11_disagree 27 = .ok (.ifnull 27, 3) := by decide +kernel
theorem dX11_disagree_30 : decode cX11_disagree 30 = .ok (.aload_n 0, 1) := by decide +kernel
theorem dX11_disagree_31 : decode cX11_disagree 31 = .ok (.getfield 10, 3) := by decide +kernel
theorem dX11_disagree_34 : decode cX11_disagree 34 = .ok (.iload_n 3, 1) := by decide +kernel
theorem dX11_disagree_35 : decode cX11_disagree 35 = .ok (.iload 4, 2) := by decide +kernel
theorem dX11_disagree_37 : decode cX11_disagree 37 = .ok (.invokevirtual 125, 3) := by decide +kernel
theorem dX11_disagree_40 : decode cX11_disagree 40 = .ok (.ifCond .eq 14, 3) := by decide +kernel
theorem dX11_disagree_43 : decode cX11_disagree 43 = .ok (.iload 5, 2) := by decide +kernel
theorem dX11_disagree_45 : decode cX11_disagree 45 = .ok (.iconst 0, 1) := by decide +kernel
theorem dX11_disagree_46 : decode cX11_disagree 46 = .ok (.bipush 9, 2) := by decide +kernel
theorem dX11_disagree_48 : decode cX11_disagree 48 = .ok (.invokestatic 61, 3) := by decide +kernel
theorem dX11_disagree_51 : decode cX11_disagree 51 = .ok (.ifCond .ne 6, 3) := by decide +kernel
theorem dX11_disagree_54 : decode cX11_disagree 54 = .ok (.ldc 226, 2) := by decide +kernel
theorem dX11_disagree_56 : decode cX11_disagree 56 = .ok (.ireturn, 1) := by decide +kernel
theorem dX11_disagree_57 : decode cX11_disagree 57 = .ok (.aload_n 0, 1) := by decide +kernel
theorem dX11_disagree_58 : decode cX11_disagree 58 = .ok (.getfield 10, 3) := by decide +kernel
theorem dX11_disagree_61 : decode cX11_disagree 61 = .ok (.iload_n 3, 1) := by decide +kernel
theorem dX11_disagree_62 : decode cX11_disagree 62 = .ok (.iload 4, 2) := by decide +kernel
theorem dX11_disagree_64 : decode cX11_disagree 64 = .ok (.aload 6, 2) := by decide +kernel
theorem dX11_disagree_66 : decode cX11_disagree 66 = .ok (.iload 5, 2) := by decide +kernel
theorem dX11_disagree_68 : decode cX11_disagree 68 = .ok (.invokevirtual 129, 3) := by decide +kernel
theorem dX11_disagree_71 : decode cX11_disagree 71 = .ok (.aload_n 0, 1) := by decide +kernel
theorem dX11_disagree_72 : decode cX11_disagree 72 = .ok (.getfield 10, 3) := by decide +kernel
theorem dX11_disagree_75 : decode cX11_disagree 75 = .ok (.iload_n 3, 1) := by decide +kernel
theorem dX11_disagree_76 : decode cX11_disagree 76 = .ok (.iload 4, 2) := by decide +kernel
theorem dX11_disagree_78 : decode cX11_disagree 78 = .ok (.aload 7, 2) := by decide +kernel
theorem dX11_disagree_80 : decode cX11_disagree 80 = .ok (.iload 5, 2) := by decide +kernel
theorem dX11_disagree_82 : decode cX11_disagree 82 = .ok (.invokevirtual 129, 3) := by decide +kernel
theorem dX11_disagree_85 : decode cX11_disagree 85 = .ok (.isub, 1) := by decide +kernel
theorem dX11_disagree_86 : decode cX11_disagree 86 = .ok (.ireturn, 1) := by decide +kernel
theorem dX11_mean_0 : decode cX11_mean 0 = .ok (.iload_n 1, 1) := by decide +kernel
theorem dX11_mean_1 : decode cX11_mean 1 = .ok (.iconst 1, 1) := by decide +kernel
theorem dX11_mean_2 : decode cX11_mean 2 = .ok (.sipush 255, 3) := by decide +kernel
theorem dX11_mean_5 : decode cX11_mean 5 = .ok (.invokestatic 61, 3) := by decide +kernel
theorem dX11_mean_8 : decode cX11_mean 8 = .ok (.ifCond .eq 12, 3) := by decide +kernel
theorem dX11_mean_11 : decode cX11_mean 11 = .ok (.iload_n 2, 1) := by decide +kernel
theorem dX11_mean_12 : decode cX11_mean 12 = .ok (.iconst 0, 1) := by decide +kernel
theorem dX11_mean_13 : decode cX11_mean 13 = .ok (.iconst 2, 1) := by decide +kernel
theorem dX11_mean_14 : decode cX11_mean 14 = .ok (.invokestatic 61, 3) := by decide +kernel
theorem dX11_mean_17 : decode cX11_mean 17 = .ok (.ifCond .ne 5, 3) := by decide +kernel
theorem dX11_mean_20 : decode cX11_mean 20 = .ok (.iconst (-1), 1) := by decide +kernel
theorem dX11_mean_21 : decode cX11_mean 21 = .ok (.ireturn, 1) := by decide +kernel
theorem dX11_mean_22 : decode cX11_mean 22 = .ok (.aload_n 0, 1) := by decide +kernel
theorem dX11_mean_23 : decode cX11_mean 23 = .ok (.iload_n 1, 1) := by decide +kernel
theorem dX11_mean_24 : decode cX11_mean 24 = .ok (.invokevirtual 227, 3) := by decide +kernel
theorem dX11_mean_27 : decode cX11_mean 27 = .ok (.aload_n 0, 1) := by decide +kernel
theorem dX11_mean_28 : decode cX11_mean 28 = .ok (.getfield 56, 3) := by decide +kernel
theorem dX11_mean_31 : decode cX11_mean 31 = .ok (.iload_n 2, 1) := by decide +kernel
theorem dX11_mean_32 : decode cX11_mean 32 = .ok (.invokevirtual 112, 3) := by decide +kernel
theorem dX11_mean_35 : decode cX11_mean 35 = .ok (.ireturn, 1) := by decide +kernel
theorem dX11_stands_0 : decode cX11_stands 0 = .ok (.iload_n 1, 1) := by decide +kernel
theorem dX11_stands_1 : decode cX11_stands 1 = .ok (.iconst 1, 1) := by decide +kernel
theorem dX11_stands_2 : decode cX11_stands 2 = .ok (.sipush 255, 3) := by decide +kernel
theorem dX11_stands_5 : decode cX11_stands 5 = .ok (.invokestatic 61, 3) := by decide +kernel
theorem dX11_stands_8 : decode cX11_stands 8 = .ok (.ifCond .eq 15, 3) := by decide +kernel
theorem dX11_stands_11 : decode cX11_stands 11 = .ok (.aload_n 0, 1) := by decide +kernel
theorem dX11_stands_12 : decode cX11_stands 12 = .ok (.getfield 10, 3) := by decide +kernel
theorem dX11_stands_15 : decode cX11_stands 15 = .ok (.iload_n 2, 1) := by decide +kernel
theorem dX11_stands_16 : decode cX11_stands 16 = .ok (.iload_n 3, 1) := by decide +kernel
theorem dX11_stands_17 : decode cX11_stands 17 = .ok (.invokevirtual 125, 3) := by decide +kernel
theorem dX11_stands_20 : decode cX11_stands 20 = .ok (.ifCond .ne 5, 3) := by decide +kernel
theorem dX11_stands_23 : decode cX11_stands 23 = .ok (.iconst (-1), 1) := by decide +kernel
theorem dX11_stands_24 : decode cX11_stands 24 = .ok (.ireturn, 1) := by decide +kernel
theorem dX11_stands_25 : decode cX11_stands 25 = .ok (.aload_n 0, 1) := by decide +kernel
theorem dX11_stands_26 : decode cX11_stands 26 = .ok (.iload_n 1, 1) := by decide +kernel
theorem dX11_stands_27 : decode cX11_stands 27 = .ok (.invokevirtual 227, 3) := by decide +kernel
theorem dX11_stands_30 : decode cX11_stands 30 = .ok (.aload_n 0, 1) := by decide +kernel
theorem dX11_stands_31 : decode cX11_stands 31 = .ok (.getfield 10, 3) := by decide +kernel
theorem dX11_stands_34 : decode cX11_stands 34 = .ok (.iload_n 2, 1) := by decide +kernel
theorem dX11_stands_35 : decode cX11_stands 35 = .ok (.iload_n 3, 1) := by decide +kernel
theorem dX11_stands_36 : decode cX11_stands 36 = .ok (.aload_n 0, 1) := by decide +kernel
theorem dX11_stands_37 : decode cX11_stands 37 = .ok (.getfield 56, 3) := by decide +kernel
theorem dX11_stands_40 : decode cX11_stands 40 = .ok (.iconst 0, 1) := by decide +kernel
theorem dX11_stands_41 : decode cX11_stands 41 = .ok (.invokevirtual 129, 3) := by decide +kernel
theorem dX11_stands_44 : decode cX11_stands 44 = .ok (.istore 4, 2) := by decide +kernel
theorem dX11_stands_46 : decode cX11_stands 46 = .ok (.iconst 0, 1) := by decide +kernel
theorem dX11_stands_47 : decode cX11_stands 47 = .ok (.istore 5, 2) := by decide +kernel
theorem dX11_stands_49 : decode cX11_stands 49 = .ok (.iconst 0, 1) := by decide +kernel
theorem dX11_stands_50 : decode cX11_stands 50 = .ok (.istore 6, 2) := by decide +kernel
theorem dX11_stands_52 : decode cX11_stands 52 = .ok (.iload 6, 2) := by decide +kernel
theorem dX11_stands_54 : decode cX11_stands 54 = .ok (.bipush 8, 2) := by decide +kernel
theorem dX11_stands_56 : decode cX11_stands 56 = .ok (.if_icmp .ge 57, 3) := by decide +kernel
theorem dX11_stands_59 : decode cX11_stands 59 = .ok (.iload_n 1, 1) := by decide +kernel
theorem dX11_stands_60 : decode cX11_stands 60 = .ok (.iload 6, 2) := by decide +kernel
theorem dX11_stands_62 : decode cX11_stands 62 = .ok (.invokestatic 231, 3) := by decide +kernel
theorem dX11_stands_65 : decode cX11_stands 65 = .ok (.ifCond .eq 42, 3) := by decide +kernel
theorem dX11_stands_68 : decode cX11_stands 68 = .ok (.aload_n 0, 1) := by decide +kernel
theorem dX11_stands_69 : decode cX11_stands 69 = .ok (.getfield 10, 3) := by decide +kernel
theorem dX11_stands_72 : decode cX11_stands 72 = .ok (.iload_n 2, 1) := by decide +kernel
theorem dX11_stands_73 : decode cX11_stands 73 = .ok (.iload_n 3, 1) := by decide +kernel
theorem dX11_stands_74 : decode cX11_stands 74 = .ok (.aload_n 0, 1) := by decide +kernel
theorem dX11_stands_75 : decode cX11_stands 75 = .ok (.getfield 10, 3) := by decide +kernel
theorem dX11_stands_78 : decode cX11_stands 78 = .ok (.getfield 234, 3) := by decide +kernel
theorem dX11_stands_81 : decode cX11_stands 81 = .ok (.iload 6, 2) := by decide +kernel
theorem dX11_stands_83 : decode cX11_stands 83 = .ok (.aaload, 1) := by decide +kernel
theorem dX11_stands_84 : decode cX11_stands 84 = .ok (.iconst 0, 1) := by decide +kernel
theorem dX11_stands_85 : decode cX11_stands 85 = .ok (.invokevirtual 129, 3) := by decide +kernel
theorem dX11_stands_88 : decode cX11_stands 88 = .ok (.iload 4, 2) := by decide +kernel
theorem dX11_stands_90 : decode cX11_stands 90 = .ok (.isub, 1) := by decide +kernel
theorem dX11_stands_91 : decode cX11_stands 91 = .ok (.invokestatic 238, 3) := by decide +kernel
theorem dX11_stands_94 : decode cX11_stands 94 = .ok (.iconst 1, 1) := by decide +kernel
theorem dX11_stands_95 : decode cX11_stands 95 = .ok (.if_icmp .gt 12, 3) := by decide +kernel
theorem dX11_stands_98 : decode cX11_stands 98 = .ok (.iload 5, 2) := by decide +kernel
theorem dX11_stands_100 : decode cX11_stands 100 = .ok (.iconst 1, 1) := by decide +kernel
theorem dX11_stands_101 : decode cX11_stands 101 = .ok (.iload 6, 2) := by decide +kernel
theorem dX11_stands_103 : decode cX11_stands 103 = .ok (.ishl, 1) := by decide +kernel
theorem dX11_stands_104 : decode cX11_stands 104 = .ok (.ior, 1) := by decide +kernel
theorem dX11_stands_105 : decode cX11_stands 105 = .ok (.istore 5, 2) := by decide +kernel
theorem dX11_stands_107 : decode cX11_stands 107 = .ok (.iinc 6 1, 3) := by decide +kernel
theorem dX11_stands_110 : decode cX11_stands 110 = .ok (.goto (-58), 3) := by decide +kernel
theorem dX11_stands_113 : decode cX11_stands 113 = .ok (.iload 5, 2) := by decide +kernel
theorem dX11_stands_115 : decode cX11_stands 115 = .ok (.ireturn, 1) := by decide +kernel
theorem dX11_makeMeanEye_0 : decode cX11_makeMeanEye 0 = .ok (.iload_n 1, 1) := by decide +kernel
theorem dX11_makeMeanEye_1 : decode cX11_makeMeanEye 1 = .ok (.sipush 255, 3) := by decide +kernel
theorem dX11_makeMeanEye_4 : decode cX11_makeMeanEye 4 = .ok (.iand, 1) := by decide +kernel
theorem dX11_makeMeanEye_5 : decode cX11_makeMeanEye 5 = .ok (.invokestatic 243, 3) := by decide +kernel
theorem dX11_makeMeanEye_8 : decode cX11_makeMeanEye 8 = .ok (.istore_n 2, 1) := by decide +kernel
theorem dX11_makeMeanEye_9 : decode cX11_makeMeanEye 9 = .ok (.iconst 0, 1) := by decide +kernel
theorem dX11_makeMeanEye_10 : decode cX11_makeMeanEye 10 = .ok (.istore_n 3, 1) := by decide +kernel
theorem dX11_makeMeanEye_11 : decode cX11_makeMeanEye 11 = .ok (.iload_n 3, 1) := by decide +kernel
theorem dX11_makeMeanEye_12 : decode cX11_makeMeanEye 12 = .ok (.iconst 2, 1) := by decide +kernel
theorem dX11_makeMeanEye_13 : decode cX11_makeMeanEye 13 = .ok (.if_icmp .gt 80, 3) := by decide +kernel
theorem dX11_makeMeanEye_16 : decode cX11_makeMeanEye 16 = .ok (.iconst 0, 1) := by decide +kernel
theorem dX11_makeMeanEye_17 : decode cX11_makeMeanEye 17 = .ok (.istore 4, 2) := by decide +kernel
theorem dX11_makeMeanEye_19 : decode cX11_makeMeanEye 19 = .ok (.iconst 0, 1) := by decide +kernel
theorem dX11_makeMeanEye_20 : decode cX11_makeMeanEye 20 = .ok (.istore 5, 2) := by decide +kernel
theorem dX11_makeMeanEye_22 : decode cX11_makeMeanEye 22 = .ok (.iload 5, 2) := by decide +kernel
theorem dX11_makeMeanEye_24 : decode cX11_makeMeanEye 24 = .ok (.bipush 8, 2) := by decide +kernel
theorem dX11_makeMeanEye_26 : decode cX11_makeMeanEye 26 = .ok (.if_icmp .ge 41, 3) := by decide +kernel
theorem dX11_makeMeanEye_29 : decode cX11_makeMeanEye 29 = .ok (.iload 4, 2) := by decide +kernel
theorem dX11_makeMeanEye_31 : decode cX11_makeMeanEye 31 = .ok (.iload_n 1, 1) := by decide +kernel
theorem dX11_makeMeanEye_32 : decode cX11_makeMeanEye 32 = .ok (.iload 5, 2) := by decide +kernel
theorem dX11_makeMeanEye_34 : decode cX11_makeMeanEye 34 = .ok (.invokestatic 231, 3) := by decide +kernel
theorem dX11_makeMeanEye_37 : decode cX11_makeMeanEye 37 = .ok (.ifCond .eq 20, 3) := by decide +kernel
theorem dX11_makeMeanEye_40 : decode cX11_makeMeanEye 40 = .ok (.aload_n 0, 1) := by decide +kernel
theorem dX11_makeMeanEye_41 : decode cX11_makeMeanEye 41 = .ok (.getfield 10, 3) := by decide +kernel
theorem dX11_makeMeanEye_44 : decode cX11_makeMeanEye 44 = .ok (.getfield 234, 3) := by decide +kernel
theorem dX11_makeMeanEye_47 : decode cX11_makeMeanEye 47 = .ok (.iload 5, 2) := by decide +kernel
theorem dX11_makeMeanEye_49 : decode cX11_makeMeanEye 49 = .ok (.aaload, 1) := by decide +kernel
theorem dX11_makeMeanEye_50 : decode cX11_makeMeanEye 50 = .ok (.iload_n 3, 1) := by decide +kernel
theorem dX11_makeMeanEye_51 : decode cX11_makeMeanEye 51 = .ok (.invokevirtual 112, 3) := by decide +kernel
theorem dX11_makeMeanEye_54 : decode cX11_makeMeanEye 54 = .ok (.goto 4, 3) := by decide +kernel
theorem dX11_makeMeanEye_57 : decode cX11_makeMeanEye 57 = .ok (.iconst 0, 1) := by decide +kernel
theorem dX11_makeMeanEye_58 : decode cX11_makeMeanEye 58 = .ok (.iadd, 1) := by decide +kernel
theorem dX11_makeMeanEye_59 : decode cX11_makeMeanEye 59 = .ok (.istore 4, 2) := by decide +kernel
theorem dX11_makeMeanEye_61 : decode cX11_makeMeanEye 61 = .ok (.iinc 5 1, 3) := by decide +kernel
theorem dX11_makeMeanEye_64 : decode cX11_makeMeanEye 64 = .ok (.goto (-42), 3) := by decide +kernel
theorem dX11_makeMeanEye_67 : decode cX11_makeMeanEye 67 = .ok (.aload_n 0, 1) := by decide +kernel
theorem dX11_makeMeanEye_68 : decode cX11_makeMeanEye 68 = .ok (.getfield 56, 3) := by decide +kernel
theorem dX11_makeMeanEye_71 : decode cX11_makeMeanEye 71 = .ok (.iload_n 3, 1) := by decide +kernel
theorem dX11_makeMeanEye_72 : decode cX11_makeMeanEye 72 = .ok (.iload_n 2, 1) := by decide +kernel
theorem dX11_makeMeanEye_73 : decode cX11_makeMeanEye 73 = .ok (.ifCond .ne 7, 3) := by decide +kernel
theorem dX11_makeMeanEye_76 : decode cX11_makeMeanEye 76 = .ok (.iconst 0, 1) := by decide +kernel
theorem dX11_makeMeanEye_77 : decode cX11_makeMeanEye 77 = .ok (.goto 7, 3) := by decide +kernel
theorem dX11_makeMeanEye_80 : decode cX11_makeMeanEye 80 = .ok (.iload 4, 2) := by decide +kernel
theorem dX11_makeMeanEye_82 : decode cX11_makeMeanEye 82 = .ok (.iload_n 2, 1) := by decide +kernel
theorem dX11_makeMeanEye_83 : decode cX11_makeMeanEye 83 = .ok (.idiv, 1) := by decide +kernel
theorem dX11_makeMeanEye_84 : decode cX11_makeMeanEye 84 = .ok (.invokevirtual 115, 3) := by decide +kernel
theorem dX11_makeMeanEye_87 : decode cX11_makeMeanEye 87 = .ok (.iinc 3 1, 3) := by decide +kernel
theorem dX11_makeMeanEye_90 : decode cX11_makeMeanEye 90 = .ok (.goto (-79), 3) := by decide +kernel
theorem dX11_makeMeanEye_93 : decode cX11_makeMeanEye 93 = .ok (.return_, 1) := by decide +kernel
theorem dX11_fault_0 : decode cX11_fault 0 = .ok (.aload_n 0, 1) := by decide +kernel
theorem dX11_fault_1 : decode cX11_fault 1 = .ok (.iload_n 1, 1) := by decide +kernel
theorem dX11_fault_2 : decode cX11_fault 2 = .ok (.invokevirtual 248, 3) := by decide +kernel
theorem dX11_fault_5 : decode cX11_fault 5 = .ok (.istore_n 2, 1) := by decide +kernel
theorem dX11_fault_6 : decode cX11_fault 6 = .ok (.iload_n 2, 1) := by decide +kernel
theorem dX11_fault_7 : decode cX11_fault 7 = .ok (.ifCond .eq 5, 3) := by decide +kernel
theorem dX11_fault_10 : decode cX11_fault 10 = .ok (.iload_n 2, 1) := by decide +kernel
theorem dX11_fault_11 : decode cX11_fault 11 = .ok (.ireturn, 1) := by decide +kernel
theorem dX11_fault_12 : decode cX11_fault 12 = .ok (.aload_n 0, 1) := by decide +kernel
theorem dX11_fault_13 : decode cX11_fault 13 = .ok (.getfield 28, 3) := by decide +kernel
theorem dX11_fault_16 : decode cX11_fault 16 = .ok (.aload_n 0, 1) := by decide +kernel
theorem dX11_fault_17 : decode cX11_fault 17 = .ok (.getfield 21, 3) := by decide +kernel
theorem dX11_fault_20 : decode cX11_fault 20 = .ok (.iload_n 1, 1) := by decide +kernel
theorem dX11_fault_21 : decode cX11_fault 21 = .ok (.aaload, 1) := by decide +kernel
theorem dX11_fault_22 : decode cX11_fault 22 = .ok (.getfield 141, 3) := by decide +kernel
theorem dX11_fault_25 : decode cX11_fault 25 = .ok (.getfield 154, 3) := by decide +kernel
theorem dX11_fault_28 : decode cX11_fault 28 = .ok (.aload_n 0, 1) := by decide +kernel
theorem dX11_fault_29 : decode cX11_fault 29 = .ok (.getfield 21, 3) := by decide +kernel
theorem dX11_fault_32 : decode cX11_fault 32 = .ok (.iload_n 1, 1) := by decide +kernel
theorem dX11_fault_33 : decode cX11_fault 33 = .ok (.aaload, 1) := by decide +kernel
theorem dX11_fault_34 : decode cX11_fault 34 = .ok (.getfield 141, 3) := by decide +kernel
theorem dX11_fault_37 : decode cX11_fault 37 = .ok (.getfield 145, 3) := by decide +kernel
theorem dX11_fault_40 : decode cX11_fault 40 = .ok (.invokevirtual 251, 3) := by decide +kernel
theorem dX11_fault_43 : decode cX11_fault 43 = .ok (.ireturn, 1) := by decide +kernel
theorem dX11_rule_0 : decode cX11_rule 0 = .ok (.aload_n 0, 1) := by decide +kernel
theorem dX11_rule_1 : decode cX11_rule 1 = .ok (.iload_n 1, 1) := by decide +kernel
theorem dX11_rule_2 : decode cX11_rule 2 = .ok (.invokevirtual 248, 3) := by decide +kernel
theorem dX11_rule_5 : decode cX11_rule 5 = .ok (.istore_n 2, 1) := by decide +kernel
theorem dX11_rule_6 : decode cX11_rule 6 = .ok (.iload_n 2, 1) := by decide +kernel
theorem dX11_rule_7 : decode cX11_rule 7 = .ok (.ifCond .eq 5, 3) := by decide +kernel
theorem dX11_rule_10 : decode cX11_rule 10 = .ok (.iload_n 2, 1) := by decide +kernel
theorem dX11_rule_11 : decode cX11_rule 11 = .ok (.ireturn, 1) := by decide +kernel
theorem dX11_rule_12 : decode cX11_rule 12 = .ok (.aload_n 0, 1) := by decide +kernel
theorem dX11_rule_13 : decode cX11_rule 13 = .ok (.getfield 21, 3) := by decide +kernel
theorem dX11_rule_16 : decode cX11_rule 16 = .ok (.iload_n 1, 1) := by decide +kernel
theorem dX11_rule_17 : decode cX11_rule 17 = .ok (.aaload, 1) := by decide +kernel
theorem dX11_rule_18 : decode cX11_rule 18 = .ok (.getfield 141, 3) := by decide +kernel
theorem dX11_rule_21 : decode cX11_rule 21 = .ok (.astore_n 3, 1) := by decide +kernel
theorem dX11_rule_22 : decode cX11_rule 22 = .ok (.aload_n 0, 1) := by decide +kernel
theorem dX11_rule_23 : decode cX11_rule 23 = .ok (.getfield 28, 3) := by decide +kernel
theorem dX11_rule_26 : decode cX11_rule 26 = .ok (.aload_n 3, 1) := by decide +kernel
theorem dX11_rule_27 : decode cX11_rule 27 = .ok (.getfield 154, 3) := by decide +kernel
theorem dX11_rule_30 : decode cX11_rule 30 = .ok (.aload_n 3, 1) := by decide +kernel
theorem dX11_rule_31 : decode cX11_rule 31 = .ok (.getfield 145, 3) := by decide +kernel
theorem dX11_rule_34 : decode cX11_rule 34 = .ok (.invokevirtual 251, 3) := by decide +kernel
theorem dX11_rule_37 : decode cX11_rule 37 = .ok (.istore 4, 2) := by decide +kernel
theorem dX11_rule_39 : decode cX11_rule 39 = .ok (.iload 4, 2) := by decide +kernel
theorem dX11_rule_41 : decode cX11_rule 41 = .ok (.bipush (-4), 2) := by decide +kernel
theorem dX11_rule_43 : decode cX11_rule 43 = .ok (.if_icmp .eq 9, 3) := by decide +kernel
theorem dX11_rule_46 : decode cX11_rule 46 = .ok (.bipush (-100), 2) := by decide +kernel
theorem dX11_rule_48 : decode cX11_rule 48 = .ok (.iload 4, 2) := by decide +kernel
theorem dX11_rule_50 : decode cX11_rule 50 = .ok (.isub, 1) := by decide +kernel
theorem dX11_rule_51 : decode cX11_rule 51 = .ok (.ireturn, 1) := by decide +kernel
theorem dX11_rule_52 : decode cX11_rule 52 = .ok (.aload_n 0, 1) := by decide +kernel
theorem dX11_rule_53 : decode cX11_rule 53 = .ok (.getfield 10, 3) := by decide +kernel
theorem dX11_rule_56 : decode cX11_rule 56 = .ok (.aload_n 3, 1) := by decide +kernel
theorem dX11_rule_57 : decode cX11_rule 57 = .ok (.getfield 154, 3) := by decide +kernel
theorem dX11_rule_60 : decode cX11_rule 60 = .ok (.aload_n 3, 1) := by decide +kernel
theorem dX11_rule_61 : decode cX11_rule 61 = .ok (.getfield 145, 3) := by decide +kernel
theorem dX11_rule_64 : decode cX11_rule 64 = .ok (.invokevirtual 255, 3) := by decide +kernel
theorem dX11_rule_67 : decode cX11_rule 67 = .ok (.iconst 1, 1) := by decide +kernel
theorem dX11_rule_68 : decode cX11_rule 68 = .ok (.ireturn, 1) := by decide +kernel
theorem dX11_right_0 : decode cX11_right 0 = .ok (.aload_n 0, 1) := by decide +kernel
theorem dX11_right_1 : decode cX11_right 1 = .ok (.getfield 10, 3) := by decide +kernel
theorem dX11_right_4 : decode cX11_right 4 = .ok (.iload_n 1, 1) := by decide +kernel
theorem dX11_right_5 : decode cX11_right 5 = .ok (.invokevirtual 93, 3) := by decide +kernel
theorem dX11_right_8 : decode cX11_right 8 = .ok (.astore_n 2, 1) := by decide +kernel
theorem dX11_right_9 : decode cX11_right 9 = .ok (.aload_n 2, 1) := by decide +kernel
theorem dX11_right_10 : decode cX11_right 10 = .ok (.ifnonnull 8, 3) := by decide +kernel
theorem dX11_right_13 : decode cX11_right 13 = .ok (.ldc 226, 2) := by decide +kernel
theorem dX11_right_15 : decode cX11_right 15 = .ok (.goto 15, 3) := by decide +kernel
theorem dX11_right_18 : decode cX11_right 18 = .ok (.aload_n 0, 1) := by decide +kernel
theorem dX11_right_19 : decode cX11_right 19 = .ok (.getfield 28, 3) := by decide +kernel
theorem dX11_right_22 : decode cX11_right 22 = .ok (.aload_n 0, 1) := by decide +kernel
theorem dX11_right_23 : decode cX11_right 23 = .ok (.getfield 10, 3) := by decide +kernel
theorem dX11_right_26 : decode cX11_right 26 = .ok (.aload_n 2, 1) := by decide +kernel
theorem dX11_right_27 : decode cX11_right 27 = .ok (.invokevirtual 259, 3) := by decide +kernel
theorem dX11_right_30 : decode cX11_right 30 = .ok (.ireturn, 1) := by decide +kernel
theorem dX11_standard_0 : decode cX11_standard 0 = .ok (.aload_n 0, 1) := by decide +kernel
theorem dX11_standard_1 : decode cX11_standard 1 = .ok (.getfield 10, 3) := by decide +kernel
theorem dX11_standard_4 : decode cX11_standard 4 = .ok (.iload_n 1, 1) := by decide +kernel
theorem dX11_standard_5 : decode cX11_standard 5 = .ok (.invokevirtual 183, 3) := by decide +kernel
theorem dX11_standard_8 : decode cX11_standard 8 = .ok (.ifCond .ne 5, 3) := by decide +kernel
theorem dX11_standard_11 : decode cX11_standard 11 = .ok (.iconst (-1), 1) := by decide +kernel
theorem dX11_standard_12 : decode cX11_standard 12 = .ok (.ireturn, 1) := by decide +kernel
theorem dX11_standard_13 : decode cX11_standard 13 = .ok (.aload_n 0, 1) := by decide +kernel
theorem dX11_standard_14 : decode cX11_standard 14 = .ok (.getfield 10, 3) := by decide +kernel
theorem dX11_standard_17 : decode cX11_standard 17 = .ok (.getfield 263, 3) := by decide +kernel
theorem dX11_standard_20 : decode cX11_standard 20 = .ok (.istore_n 2, 1) := by decide +kernel
theorem dX11_standard_21 : decode cX11_standard 21 = .ok (.aload_n 0, 1) := by decide +kernel
theorem dX11_standard_22 : decode cX11_standard 22 = .ok (.getfield 10, 3) := by decide +kernel
theorem dX11_standard_25 : decode cX11_standard 25 = .ok (.iload_n 1, 1) := by decide +kernel
theorem dX11_standard_26 : decode cX11_standard 26 = .ok (.putfield 263, 3) := by decide +kernel
theorem dX11_standard_29 : decode cX11_standard 29 = .ok (.iload_n 2, 1) := by decide +kernel
theorem dX11_standard_30 : decode cX11_standard 30 = .ok (.ireturn, 1) := by decide +kernel
theorem dX11_worth_0 : decode cX11_worth 0 = .ok (.aload_n 0, 1) := by decide +kernel
theorem dX11_worth_1 : decode cX11_worth 1 = .ok (.getfield 10, 3) := by decide +kernel
theorem dX11_worth_4 : decode cX11_worth 4 = .ok (.iload_n 1, 1) := by decide +kernel
theorem dX11_worth_5 : decode cX11_worth 5 = .ok (.invokevirtual 93, 3) := by decide +kernel
theorem dX11_worth_8 : decode cX11_worth 8 = .ok (.astore_n 2, 1) := by decide +kernel
theorem dX11_worth_9 : decode cX11_worth 9 = .ok (.aload_n 2, 1) := by decide +kernel
theorem dX11_worth_10 : decode cX11_worth 10 = .ok (.ifnonnull 7, 3) := by decide +kernel
theorem dX11_worth_13 : decode cX11_worth 13 = .ok (.ldc2_w 119, 3) := by decide +kernel
theorem dX11_worth_16 : decode cX11_worth 16 = .ok (.lreturn, 1) := by decide +kernel
theorem dX11_worth_17 : decode cX11_worth 17 = .ok (.aload_n 0, 1) := by decide +kernel
theorem dX11_worth_18 : decode cX11_worth 18 = .ok (.getfield 10, 3) := by decide +kernel
theorem dX11_worth_21 : decode cX11_worth 21 = .ok (.getfield 263, 3) := by decide +kernel
theorem dX11_worth_24 : decode cX11_worth 24 = .ok (.bipush (-4), 2) := by decide +kernel
theorem dX11_worth_26 : decode cX11_worth 26 = .ok (.if_icmp .ne 7, 3) := by decide +kernel
theorem dX11_worth_29 : decode cX11_worth 29 = .ok (.ldc2_w 266, 3) := by decide +kernel
theorem dX11_worth_32 : decode cX11_worth 32 = .ok (.lreturn, 1) := by decide +kernel
theorem dX11_worth_33 : decode cX11_worth 33 = .ok (.aload_n 0, 1) := by decide +kernel
theorem dX11_worth_34 : decode cX11_worth 34 = .ok (.aload_n 2, 1) := by decide +kernel
theorem dX11_worth_35 : decode cX11_worth 35 = .ok (.invokevirtual 268, 3) := by decide +kernel
theorem dX11_worth_38 : decode cX11_worth 38 = .ok (.lreturn, 1) := by decide +kernel
theorem dX11_steady_0 : decode cX11_steady 0 = .ok (.iload_n 1, 1) := by decide +kernel
theorem dX11_steady_1 : decode cX11_steady 1 = .ok (.ifCond .le 16, 3) := by decide +kernel
theorem dX11_steady_4 : decode cX11_steady 4 = .ok (.iload_n 1, 1) := by decide +kernel
theorem dX11_steady_5 : decode cX11_steady 5 = .ok (.iconst 1, 1) := by decide +kernel
theorem dX11_steady_6 : decode cX11_steady 6 = .ok (.aload_n 0, 1) := by decide +kernel
theorem dX11_steady_7 : decode cX11_steady 7 = .ok (.getfield 10, 3) := by decide +kernel
theorem dX11_steady_10 : decode cX11_steady 10 = .ok (.getfield 65, 3) := by decide +kernel
theorem dX11_steady_13 : decode cX11_steady 13 = .ok (.ishl, 1) := by decide +kernel
theorem dX11_steady_14 : decode cX11_steady 14 = .ok (.if_icmp .lt 5, 3) := by decide +kernel
theorem dX11_steady_17 : decode cX11_steady 17 = .ok (.iconst (-1), 1) := by decide +kernel
theorem dX11_steady_18 : decode cX11_steady 18 = .ok (.ireturn, 1) := by decide +kernel
theorem dX11_steady_19 : decode cX11_steady 19 = .ok (.iconst (-1), 1) := by decide +kernel
theorem dX11_steady_20 : decode cX11_steady 20 = .ok (.istore_n 2, 1) := by decide +kernel
theorem dX11_steady_21 : decode cX11_steady 21 = .ok (.iconst 0, 1) := by decide +kernel
theorem dX11_steady_22 : decode cX11_steady 22 = .ok (.istore_n 3, 1) := by decide +kernel
theorem dX11_steady_23 : decode cX11_steady 23 = .ok (.iload_n 3, 1) := by decide +kernel
theorem dX11_steady_24 : decode cX11_steady 24 = .ok (.aload_n 0, 1) := by decide +kernel
theorem dX11_steady_25 : decode cX11_steady 25 = .ok (.getfield 10, 3) := by decide +kernel
theorem dX11_steady_28 : decode cX11_steady 28 = .ok (.getfield 65, 3) := by decide +kernel
theorem dX11_steady_31 : decode cX11_steady 31 = .ok (.if_icmp .ge 48, 3) := by decide +kernel
theorem dX11_steady_34 : decode cX11_steady 34 = .ok (.iload_n 1, 1) := by decide +kernel
theorem dX11_steady_35 : decode cX11_steady 35 = .ok (.iload_n 3, 1) := by decide +kernel
theorem dX11_steady_36 : decode cX11_steady 36 = .ok (.invokestatic 231, 3) := by decide +kernel
theorem dX11_steady_39 : decode cX11_steady 39 = .ok (.ifCond .eq 34, 3) := by decide +kernel
theorem dX11_steady_42 : decode cX11_steady 42 = .ok (.iload_n 2, 1) := by decide +kernel
theorem dX11_steady_43 : decode cX11_steady 43 = .ok (.ifCond .lt 28, 3) := by decide +kernel
theorem dX11_steady_46 : decode cX11_steady 46 = .ok (.aload_n 0, 1) := by decide +kernel
theorem dX11_steady_47 : decode cX11_steady 47 = .ok (.aload_n 0, 1) := by decide +kernel
theorem dX11_steady_48 : decode cX11_steady 48 = .ok (.getfield 10, 3) := by decide +kernel
theorem dX11_steady_51 : decode cX11_steady 51 = .ok (.getfield 69, 3) := by decide +kernel
theorem dX11_steady_54 : decode cX11_steady 54 = .ok (.iload_n 3, 1) := by decide +kernel
theorem dX11_steady_55 : decode cX11_steady 55 = .ok (.aaload, 1) := by decide +kernel
theorem dX11_steady_56 : decode cX11_steady 56 = .ok (.aload_n 0, 1) := by decide +kernel
theorem dX11_steady_57 : decode cX11_steady 57 = .ok (.getfield 10, 3) := by decide +kernel
theorem dX11_steady_60 : decode cX11_steady 60 = .ok (.getfield 69, 3) := by decide +kernel
theorem dX11_steady_63 : decode cX11_steady 63 = .ok (.iload_n 2, 1) := by decide +kernel
theorem dX11_steady_64 : decode cX11_steady 64 = .ok (.aaload, 1) := by decide +kernel
theorem dX11_steady_65 : decode cX11_steady 65 = .ok (.invokevirtual 272, 3) := by decide +kernel
theorem dX11_steady_68 : decode cX11_steady 68 = .ok (.ifCond .eq 5, 3) := by decide +kernel
theorem dX11_steady_71 : decode cX11_steady 71 = .ok (.iload_n 3, 1) := by decide +kernel
theorem dX11_steady_72 : decode cX11_steady 72 = .ok (.istore_n 2, 1) := by decide +kernel
theorem dX11_steady_73 : decode cX11_steady 73 = .ok (.iinc 3 1, 3) := by decide +kernel
theorem dX11_steady_76 : decode cX11_steady 76 = .ok (.goto (-53), 3) := by decide +kernel
theorem dX11_steady_79 : decode cX11_steady 79 = .ok (.iload_n 2, 1) := by decide +kernel
theorem dX11_steady_80 : decode cX11_steady 80 = .ok (.ireturn, 1) := by decide +kernel
theorem dX11_aged_0 : decode cX11_aged 0 = .ok (.iload_n 1, 1) := by decide +kernel
theorem dX11_aged_1 : decode cX11_aged 1 = .ok (.iconst 1, 1) := by decide +kernel
theorem dX11_aged_2 : decode cX11_aged 2 = .ok (.bipush 100, 2) := by decide +kernel
theorem dX11_aged_4 : decode cX11_aged 4 = .ok (.invokestatic 61, 3) := by decide +kernel
theorem dX11_aged_7 : decode cX11_aged 7 = .ok (.ifCond .ne 5, 3) := by decide +kernel
theorem dX11_aged_10 : decode cX11_aged 10 = .ok (.iconst (-1), 1) := by decide +kernel
theorem dX11_aged_11 : decode cX11_aged 11 = .ok (.ireturn, 1) := by decide +kernel
theorem dX11_aged_12 : decode cX11_aged 12 = .ok (.iconst 0, 1) := by decide +kernel
theorem dX11_aged_13 : decode cX11_aged 13 = .ok (.istore_n 2, 1) := by decide +kernel
theorem dX11_aged_14 : decode cX11_aged 14 = .ok (.iconst 0, 1) := by decide +kernel
theorem dX11_aged_15 : decode cX11_aged 15 = .ok (.istore_n 3, 1) := by decide +kernel
theorem dX11_aged_16 : decode cX11_aged 16 = .ok (.iload_n 3, 1) := by decide +kernel
theorem dX11_aged_17 : decode cX11_aged 17 = .ok (.aload_n 0, 1) := by decide +kernel
theorem dX11_aged_18 : decode cX11_aged 18 = .ok (.getfield 10, 3) := by decide +kernel
theorem dX11_aged_21 : decode cX11_aged 21 = .ok (.getfield 65, 3) := by decide +kernel
theorem dX11_aged_24 : decode cX11_aged 24 = .ok (.if_icmp .ge 38, 3) := by decide +kernel
theorem dX11_aged_27 : decode cX11_aged 27 = .ok (.aload_n 0, 1) := by decide +kernel
theorem dX11_aged_28 : decode cX11_aged 28 = .ok (.getfield 10, 3) := by decide +kernel
theorem dX11_aged_31 : decode cX11_aged 31 = .ok (.getfield 69, 3) := by decide +kernel
theorem dX11_aged_34 : decode cX11_aged 34 = .ok (.iload_n 3, 1) := by decide +kernel
theorem dX11_aged_35 : decode cX11_aged 35 = .ok (.aaload, 1) := by decide +kernel
theorem dX11_aged_36 : decode cX11_aged 36 = .ok (.iload_n 1, 1) := by decide +kernel
theorem dX11_aged_37 : decode cX11_aged 37 = .ok (.aload_n 0, 1) := by decide +kernel
theorem dX11_aged_38 : decode cX11_aged 38 = .ok (.getfield 10, 3) := by decide +kernel
theorem dX11_aged_41 : decode cX11_aged 41 = .ok (.getfield 98, 3) := by decide +kernel
theorem dX11_aged_44 : decode cX11_aged 44 = .ok (.invokevirtual 276, 3) := by decide +kernel
theorem dX11_aged_47 : decode cX11_aged 47 = .ok (.ifCond .eq 9, 3) := by decide +kernel
theorem dX11_aged_50 : decode cX11_aged 50 = .ok (.iload_n 2, 1) := by decide +kernel
theorem dX11_aged_51 : decode cX11_aged 51 = .ok (.iconst 1, 1) := by decide +kernel
theorem dX11_aged_52 : decode cX11_aged 52 = .ok (.iload_n 3, 1) := by decide +kernel
theorem dX11_aged_53 : decode cX11_aged 53 = .ok (.ishl, 1) := by decide +kernel
theorem dX11_aged_54 : decode cX11_aged 54 = .ok (.ior, 1) := by decide +kernel
theorem dX11_aged_55 : decode cX11_aged 55 = .ok (.istore_n 2, 1) := by decide +kernel
theorem dX11_aged_56 : decode cX11_aged 56 = .ok (.iinc 3 1, 3) := by decide +kernel
theorem dX11_aged_59 : decode cX11_aged 59 = .ok (.goto (-43), 3) := by decide +kernel
theorem dX11_aged_62 : decode cX11_aged 62 = .ok (.iload_n 2, 1) := by decide +kernel
theorem dX11_aged_63 : decode cX11_aged 63 = .ok (.ireturn, 1) := by decide +kernel
theorem dX11_bill_0 : decode cX11_bill 0 = .ok (.aload_n 0, 1) := by decide +kernel
theorem dX11_bill_1 : decode cX11_bill 1 = .ok (.getfield 10, 3) := by decide +kernel
theorem dX11_bill_4 : decode cX11_bill 4 = .ok (.iload_n 2, 1) := by decide +kernel
theorem dX11_bill_5 : decode cX11_bill 5 = .ok (.invokevirtual 93, 3) := by decide +kernel
theorem dX11_bill_8 : decode cX11_bill 8 = .ok (.astore 4, 2) := by decide +kernel
theorem dX11_bill_10 : decode cX11_bill 10 = .ok (.aload 4, 2) := by decide +kernel
theorem dX11_bill_12 : decode cX11_bill 12 = .ok (.ifnull 23, 3) := by decide +kernel
theorem dX11_bill_15 : decode cX11_bill 15 = .ok (.iload_n 1, 1) := by decide +kernel
theorem dX11_bill_16 : decode cX11_bill 16 = .ok (.iconst 0, 1) := by decide +kernel
theorem dX11_bill_17 : decode cX11_bill 17 = .ok (.iconst 3, 1) := by decide +kernel
theorem dX11_bill_18 : decode cX11_bill 18 = .ok (.invokestatic 61, 3) := by decide +kernel
theorem dX11_bill_21 : decode cX11_bill 21 = .ok (.ifCond .eq 14, 3) := by decide +kernel
theorem dX11_bill_24 : decode cX11_bill 24 = .ok (.iload_n 3, 1) := by decide +kernel
theorem dX11_bill_25 : decode cX11_bill 25 = .ok (.iconst 1, 1) := by decide +kernel
theorem dX11_bill_26 : decode cX11_bill 26 = .ok (.sipush 999, 3) := by decide +kernel
theorem dX11_bill_29 : decode cX11_bill 29 = .ok (.invokestatic 61, 3) := by decide +kernel
theorem dX11_bill_32 : decode cX11_bill 32 = .ok (.ifCond .ne 5, 3) := by decide +kernel
theorem dX11_bill_35 : decode cX11_bill 35 = .ok (.iconst (-1), 1) := by decide +kernel
theorem dX11_bill_36 : decode cX11_bill 36 = .ok (.ireturn, 1) := by decide +kernel
theorem dX11_bill_37 : decode cX11_bill 37 = .ok (.aload_n 0, 1) := by decide +kernel
theorem dX11_bill_38 : decode cX11_bill 38 = .ok (.getfield 10, 3) := by decide +kernel
theorem dX11_bill_41 : decode cX11_bill 41 = .ok (.getfield 279, 3) := by decide +kernel
theorem dX11_bill_44 : decode cX11_bill 44 = .ok (.bipush 20, 2) := by decide +kernel
theorem dX11_bill_46 : decode cX11_bill 46 = .ok (.if_icmp .lt 6, 3) := by decide +kernel
theorem dX11_bill_49 : decode cX11_bill 49 = .ok (.bipush (-2), 2) := by decide +kernel
theorem dX11_bill_51 : decode cX11_bill 51 = .ok (.ireturn, 1) := by decide +kernel
theorem dX11_bill_52 : decode cX11_bill 52 = .ok (.aload_n 0, 1) := by decide +kernel
theorem dX11_bill_53 : decode cX11_bill 53 = .ok (.getfield 10, 3) := by decide +kernel
theorem dX11_bill_56 : decode cX11_bill 56 = .ok (.getfield 263, 3) := by decide +kernel
theorem dX11_bill_59 : decode cX11_bill 59 = .ok (.bipush (-4), 2) := by decide +kernel
theorem dX11_bill_61 : decode cX11_bill 61 = .ok (.if_icmp .ne 6, 3) := by decide +kernel
theorem dX11_bill_64 : decode cX11_bill 64 = .ok (.bipush (-3), 2) := by decide +kernel
theorem dX11_bill_66 : decode cX11_bill 66 = .ok (.ireturn, 1) := by decide +kernel
theorem dX11_bill_67 : decode cX11_bill 67 = .ok (.aload_n 0, 1) := by decide +kernel
theorem dX11_bill_68 : decode cX11_bill 68 = .ok (.getfield 10, 3) := by decide +kernel
theorem dX11_bill_71 : decode cX11_bill 71 = .ok (.getfield 279, 3) := by decide +kernel
theorem dX11_bill_74 : decode cX11_bill 74 = .ok (.istore 5, 2) := by decide +kernel
theorem dX11_bill_76 : decode cX11_bill 76 = .ok (.aload_n 0, 1) := by decide +kernel
theorem dX11_bill_77 : decode cX11_bill 77 = .ok (.getfield 10, 3) := by decide +kernel
theorem dX11_bill_80 : decode cX11_bill 80 = .ok (.getfield 282, 3) := by decide +kernel
theorem dX11_bill_83 : decode cX11_bill 83 = .ok (.iload 5, 2) := by decide +kernel
theorem dX11_bill_85 : decode cX11_bill 85 = .ok (.aaload, 1) := by decide +kernel
theorem dX11_bill_86 : decode cX11_bill 86 = .ok (.astore 6, 2) := by decide +kernel
theorem dX11_bill_88 : decode cX11_bill 88 = .ok (.aload 6, 2) := by decide +kernel
theorem dX11_bill_90 : decode cX11_bill 90 = .ok (.iload_n 1, 1) := by decide +kernel
theorem dX11_bill_91 : decode cX11_bill 91 = .ok (.putfield 286, 3) := by decide +kernel
theorem dX11_bill_94 : decode cX11_bill 94 = .ok (.aload 6, 2) := by decide +kernel
theorem dX11_bill_96 : decode cX11_bill 96 = .ok (.iload_n 2, 1) := by decide +kernel
theorem dX11_bill_97 : decode cX11_bill 97 = .ok (.putfield 291, 3) := by decide +kernel
theorem dX11_bill_100 : decode cX11_bill 100 = .ok (.aload 6, 2) := by decide +kernel
theorem dX11_bill_102 : decode cX11_bill 102 = .ok (.iload_n 3, 1) := by decide +kernel
theorem dX11_bill_103 : decode cX11_bill 103 = .ok (.putfield 294, 3) := by decide +kernel
theorem dX11_bill_106 : decode cX11_bill 106 = .ok (.aload 6, 2) := by decide +kernel
theorem dX11_bill_108 : decode cX11_bill 108 = .ok (.iload_n 3, 1) := by decide +kernel
theorem dX11_bill_109 : decode cX11_bill 109 = .ok (.i2l, 1) := by decide +kernel
theorem dX11_bill_110 : decode cX11_bill 110 = .ok (.aload_n 0, 1) := by decide +kernel
theorem dX11_bill_111 : decode cX11_bill 111 = .ok (.aload 4, 2) := by decide +kernel
theorem dX11_bill_113 : decode cX11_bill 113 = .ok (.invokevirtual 268, 3) := by decide +kernel
theorem dX11_bill_116 : decode cX11_bill 116 = .ok (.lmul, 1) := by decide +kernel
theorem dX11_bill_117 : decode cX11_bill 117 = .ok (.ldc2_w 297, 3) := by decide +kernel
theorem dX11_bill_120 : decode cX11_bill 120 = .ok (.ldiv, 1) := by decide +kernel
theorem dX11_bill_121 : decode cX11_bill 121 = .ok (.putfield 299, 3) := by decide +kernel
theorem dX11_bill_124 : decode cX11_bill 124 = .ok (.aload_n 0, 1) := by decide +kernel
theorem dX11_bill_125 : decode cX11_bill 125 = .ok (.getfield 10, 3) := by decide +kernel
theorem dX11_bill_128 : decode cX11_bill 128 = .ok (.dup, 1) := by decide +kernel
theorem dX11_bill_129 : decode cX11_bill 129 = .ok (.getfield 279, 3) := by decide +kernel
theorem dX11_bill_132 : decode cX11_bill 132 = .ok (.iconst 1, 1) := by decide +kernel
theorem dX11_bill_133 : decode cX11_bill 133 = .ok (.iadd, 1) := by decide +kernel
theorem dX11_bill_134 : decode cX11_bill 134 = .ok (.putfield 279, 3) := by decide +kernel
theorem dX11_bill_137 : decode cX11_bill 137 = .ok (.iload 5, 2) := by decide +kernel
theorem dX11_bill_139 : decode cX11_bill 139 = .ok (.ireturn, 1) := by decide +kernel
theorem dX11_paid_0 : decode cX11_paid 0 = .ok (.iload_n 1, 1) := by decide +kernel
theorem dX11_paid_1 : decode cX11_paid 1 = .ok (.iconst 0, 1) := by decide +kernel
theorem dX11_paid_2 : decode cX11_paid 2 = .ok (.aload_n 0, 1) := by decide +kernel
theorem dX11_paid_3 : decode cX11_paid 3 = .ok (.getfield 10, 3) := by decide +kernel
theorem dX11_paid_6 : decode cX11_paid 6 = .ok (.getfield 279, 3) := by decide +kernel
theorem dX11_paid_9 : decode cX11_paid 9 = .ok (.iconst 1, 1) := by decide +kernel
theorem dX11_paid_10 : decode cX11_paid 10 = .ok (.isub, 1) := by decide +kernel
theorem dX11_paid_11 : decode cX11_paid 11 = .ok (.invokestatic 61, 3) := by decide +kernel
theorem dX11_paid_14 : decode cX11_paid 14 = .ok (.ifCond .eq 18, 3) := by decide +kernel
theorem dX11_paid_17 : decode cX11_paid 17 = .ok (.aload_n 0, 1) := by decide +kernel
theorem dX11_paid_18 : decode cX11_paid 18 = .ok (.getfield 10, 3) := by decide +kernel
theorem dX11_paid_21 : decode cX11_paid 21 = .ok (.getfield 282, 3) := by decide +kernel
theorem dX11_paid_24 : decode cX11_paid 24 = .ok (.iload_n 1, 1) := by decide +kernel
theorem dX11_paid_25 : decode cX11_paid 25 = .ok (.aaload, 1) := by decide +kernel
theorem dX11_paid_26 : decode cX11_paid 26 = .ok (.getfield 299, 3) := by decide +kernel
theorem dX11_paid_29 : decode cX11_paid 29 = .ok (.goto 6, 3) := by decide +kernel
theorem dX11_paid_32 : decode cX11_paid 32 = .ok (.ldc2_w 119, 3) := by decide +kernel
theorem dX11_paid_35 : decode cX11_paid 35 = .ok (.lreturn, 1) := by decide +kernel
theorem dX11_owed_0 : decode cX11_owed 0 = .ok (.iload_n 1, 1) := by decide +kernel
theorem dX11_owed_1 : decode cX11_owed 1 = .ok (.iconst 0, 1) := by decide +kernel
theorem dX11_owed_2 : decode cX11_owed 2 = .ok (.iconst 3, 1) := by decide +kernel
theorem dX11_owed_3 : decode cX11_owed 3 = .ok (.invokestatic 61, 3) := by decide +kernel
theorem dX11_owed_6 : decode cX11_owed 6 = .ok (.ifCond .ne 7, 3) := by decide +kernel
theorem dX11_owed_9 : decode cX11_owed 9 = .ok (.ldc2_w 119, 3) := by decide +kernel
theorem dX11_owed_12 : decode cX11_owed 12 = .ok (.lreturn, 1) := by decide +kernel
theorem dX11_owed_13 : decode cX11_owed 13 = .ok (.aload_n 0, 1) := by decide +kernel
theorem dX11_owed_14 : decode cX11_owed 14 = .ok (.getfield 10, 3) := by decide +kernel
theorem dX11_owed_17 : decode cX11_owed 17 = .ok (.getfield 263, 3) := by decide +kernel
theorem dX11_owed_20 : decode cX11_owed 20 = .ok (.bipush (-4), 2) := by decide +kernel
theorem dX11_owed_22 : decode cX11_owed 22 = .ok (.if_icmp .ne 7, 3) := by decide +kernel
theorem dX11_owed_25 : decode cX11_owed 25 = .ok (.ldc2_w 266, 3) := by decide +kernel
theorem dX11_owed_28 : decode cX11_owed 28 = .ok (.lreturn, 1) := by decide +kernel
theorem dX11_owed_29 : decode cX11_owed 29 = .ok (.lconst 0, 1) := by decide +kernel
theorem dX11_owed_30 : decode cX11_owed 30 = .ok (.lstore_n 2, 1) := by decide +kernel
theorem dX11_owed_31 : decode cX11_owed 31 = .ok (.iconst 0, 1) := by decide +kernel
theorem dX11_owed_32 : decode cX11_owed 32 = .ok (.istore 4, 2) := by decide +kernel
theorem dX11_owed_34 : decode cX11_owed 34 = .ok (.iload 4, 2) := by decide +kernel
theorem dX11_owed_36 : decode cX11_owed 36 = .ok (.aload_n 0, 1) := by decide +kernel
theorem dX11_owed_37 : decode cX11_owed 37 = .ok (.getfield 10, 3) := by decide +kernel
theorem dX11_owed_40 : decode cX11_owed 40 = .ok (.getfield 279, 3) := by decide +kernel
theorem dX11_owed_43 : decode cX11_owed 43 = .ok (.if_icmp .ge 67, 3) := by decide +kernel
theorem dX11_owed_46 : decode cX11_owed 46 = .ok (.aload_n 0, 1) := by decide +kernel
theorem dX11_owed_47 : decode cX11_owed 47 = .ok (.getfield 10, 3) := by decide +kernel
theorem dX11_owed_50 : decode cX11_owed 50 = .ok (.getfield 282, 3) := by decide +kernel
theorem dX11_owed_53 : decode cX11_owed 53 = .ok (.iload 4, 2) := by decide +kernel
theorem dX11_owed_55 : decode cX11_owed 55 = .ok (.aaload, 1) := by decide +kernel
theorem dX11_owed_56 : decode cX11_owed 56 = .ok (.astore 5, 2) := by decide +kernel
theorem dX11_owed_58 : decode cX11_owed 58 = .ok (.aload 5, 2) := by decide +kernel
theorem dX11_owed_60 : decode cX11_owed 60 = .ok (.getfield 286, 3) := by decide +kernel
theorem dX11_owed_63 : decode cX11_owed 63 = .ok (.iload_n 1, 1) := by decide +kernel
theorem dX11_owed_64 : decode cX11_owed 64 = .ok (.if_icmp .ne 40, 3) := by decide +kernel
theorem dX11_owed_67 : decode cX11_owed 67 = .ok (.lload_n 2, 1) := by decide +kernel
theorem dX11_owed_68 : decode cX11_owed 68 = .ok (.aload 5, 2) := by decide +kernel
theorem dX11_owed_70 : decode cX11_owed 70 = .ok (.getfield 294, 3) := by decide +kernel
theorem dX11_owed_73 : decode cX11_owed 73 = .ok (.i2l, 1) := by decide +kernel
theorem dX11_owed_74 : decode cX11_owed 74 = .ok (.aload_n 0, 1) := by decide +kernel
theorem dX11_owed_75 : decode cX11_owed 75 = .ok (.aload_n 0, 1) := by decide +kernel
theorem dX11_owed_76 : decode cX11_owed 76 = .ok (.getfield 10, 3) := by decide +kernel
theorem dX11_owed_79 : decode cX11_owed 79 = .ok (.getfield 69, 3) := by decide +kernel
theorem dX11_owed_82 : decode cX11_owed 82 = .ok (.aload 5, 2) := by decide +kernel
theorem dX11_owed_84 : decode cX11_owed 84 = .ok (.getfield 291, 3) := by decide +kernel
theorem dX11_owed_87 : decode cX11_owed 87 = .ok (.aaload, 1) := by decide +kernel
theorem dX11_owed_88 : decode cX11_owed 88 = .ok (.invokevirtual 268, 3) := by decide +kernel
theorem dX11_owed_91 : decode cX11_owed 91 = .ok (.lmul, 1) := by decide +kernel
theorem dX11_owed_92 : decode cX11_owed 92 = .ok (.ldc2_w 297, 3) := by decide +kernel
theorem dX11_owed_95 : decode cX11_owed 95 = .ok (.ldiv, 1) := by decide +kernel
theorem dX11_owed_96 : decode cX11_owed 96 = .ok (.aload 5, 2) := by decide +kernel
theorem dX11_owed_98 : decode cX11_owed 98 = .ok (.getfield 299, 3) := by decide +kernel
theorem dX11_owed_101 : decode cX11_owed 101 = .ok (.lsub, 1) := by decide +kernel
theorem dX11_owed_102 : decode cX11_owed 102 = .ok (.ladd, 1) := by decide +kernel
theorem dX11_owed_103 : decode cX11_owed 103 = .ok (.lstore_n 2, 1) := by decide +kernel
theorem dX11_owed_104 : decode cX11_owed 104 = .ok (.iinc 4 1, 3) := by decide +kernel
theorem dX11_owed_107 : decode cX11_owed 107 = .ok (.goto (-73), 3) := by decide +kernel
theorem dX11_owed_110 : decode cX11_owed 110 = .ok (.lload_n 2, 1) := by decide +kernel
theorem dX11_owed_111 : decode cX11_owed 111 = .ok (.lreturn, 1) := by decide +kernel
theorem dX11_worthOf_0 : decode cX11_worthOf 0 = .ok (.aload_n 0, 1) := by decide +kernel
theorem dX11_worthOf_1 : decode cX11_worthOf 1 = .ok (.getfield 10, 3) := by decide +kernel
theorem dX11_worthOf_4 : decode cX11_worthOf 4 = .ok (.aload_n 0, 1) := by decide +kernel
theorem dX11_worthOf_5 : decode cX11_worthOf 5 = .ok (.getfield 10, 3) := by decide +kernel
theorem dX11_worthOf_8 : decode cX11_worthOf 8 = .ok (.getfield 263, 3) := by decide +kernel
theorem dX11_worthOf_11 : decode cX11_worthOf 11 = .ok (.invokevirtual 93, 3) := by decide +kernel
theorem dX11_worthOf_14 : decode cX11_worthOf 14 = .ok (.astore_n 2, 1) := by decide +kernel
theorem dX11_worthOf_15 : decode cX11_worthOf 15 = .ok (.aload_n 2, 1) := by decide +kernel
theorem dX11_worthOf_16 : decode cX11_worthOf 16 = .ok (.ifnonnull 5, 3) := by decide +kernel
theorem dX11_worthOf_19 : decode cX11_worthOf 19 = .ok (.lconst 0, 1) := by decide +kernel
theorem dX11_worthOf_20 : decode cX11_worthOf 20 = .ok (.lreturn, 1) := by decide +kernel
theorem dX11_worthOf_21 : decode cX11_worthOf 21 = .ok (.aload_n 0, 1) := by decide +kernel
theorem dX11_worthOf_22 : decode cX11_worthOf 22 = .ok (.getfield 28, 3) := by decide +kernel
theorem dX11_worthOf_25 : decode cX11_worthOf 25 = .ok (.aload_n 0, 1) := by decide +kernel
theorem dX11_worthOf_26 : decode cX11_worthOf 26 = .ok (.getfield 10, 3) := by decide +kernel
theorem dX11_worthOf_29 : decode cX11_worthOf 29 = .ok (.aload_n 2, 1) := by decide +kernel
theorem dX11_worthOf_30 : decode cX11_worthOf 30 = .ok (.invokevirtual 259, 3) := by decide +kernel
theorem dX11_worthOf_33 : decode cX11_worthOf 33 = .ok (.i2l, 1) := by decide +kernel
theorem dX11_worthOf_34 : decode cX11_worthOf 34 = .ok (.lstore_n 3, 1) := by decide +kernel
theorem dX11_worthOf_35 : decode cX11_worthOf 35 = .ok (.lload_n 3, 1) := by decide +kernel
theorem dX11_worthOf_36 : decode cX11_worthOf 36 = .ok (.lconst 0, 1) := by decide +kernel
theorem dX11_worthOf_37 : decode cX11_worthOf 37 = .ok (.lcmp, 1) := by decide +kernel
theorem dX11_worthOf_38 : decode cX11_worthOf 38 = .ok (.ifCond .ne 7, 3) := by decide +kernel
theorem dX11_worthOf_41 : decode cX11_worthOf 41 = .ok (.lconst 0, 1) := by decide +kernel
theorem dX11_worthOf_42 : decode cX11_worthOf 42 = .ok (.goto 22, 3) := by decide +kernel
theorem dX11_worthOf_45 : decode cX11_worthOf 45 = .ok (.aload_n 0, 1) := by decide +kernel
theorem dX11_worthOf_46 : decode cX11_worthOf 46 = .ok (.getfield 28, 3) := by decide +kernel
theorem dX11_worthOf_49 : decode cX11_worthOf 49 = .ok (.aload_n 0, 1) := by decide +kernel
theorem dX11_worthOf_50 : decode cX11_worthOf 50 = .ok (.getfield 10, 3) := by decide +kernel
theorem dX11_worthOf_53 : decode cX11_worthOf 53 = .ok (.aload_n 1, 1) := by decide +kernel
theorem dX11_worthOf_54 : decode cX11_worthOf 54 = .ok (.invokevirtual 259, 3) := by decide +kernel
theorem dX11_worthOf_57 : decode cX11_worthOf 57 = .ok (.i2l, 1) := by decide +kernel
theorem dX11_worthOf_58 : decode cX11_worthOf 58 = .ok (.ldc2_w 297, 3) := by decide +kernel
theorem dX11_worthOf_61 : decode cX11_worthOf 61 = .ok (.lmul, 1) := by decide +kernel
theorem dX11_worthOf_62 : decode cX11_worthOf 62 = .ok (.lload_n 3, 1) := by decide +kernel
theorem dX11_worthOf_63 : decode cX11_worthOf 63 = .ok (.ldiv, 1) := by decide +kernel
theorem dX11_worthOf_64 : decode cX11_worthOf 64 = .ok (.lreturn, 1) := by decide +kernel
theorem dX11_isSteadier_0 : decode cX11_isSteadier 0 = .ok (.aload_n 1, 1) := by decide +kernel
theorem dX11_isSteadier_1 : decode cX11_isSteadier 1 = .ok (.aload_n 0, 1) := by decide +kernel
theorem dX11_isSteadier_2 : decode cX11_isSteadier 2 = .ok (.getfield 10, 3) := by decide +kernel
theorem dX11_isSteadier_5 : decode cX11_isSteadier 5 = .ok (.getfield 98, 3) := by decide +kernel
theorem dX11_isSteadier_8 : decode cX11_isSteadier 8 = .ok (.invokevirtual 105, 3) := by decide +kernel
theorem dX11_isSteadier_11 : decode cX11_isSteadier 11 = .ok (.i2l, 1) := by decide +kernel
theorem dX11_isSteadier_12 : decode cX11_isSteadier 12 = .ok (.aload_n 2, 1) := by decide +kernel
theorem dX11_isSteadier_13 : decode cX11_isSteadier 13 = .ok (.aload_n 0, 1) := by decide +kernel
theorem dX11_isSteadier_14 : decode cX11_isSteadier 14 = .ok (.getfield 10, 3) := by decide +kernel
theorem dX11_isSteadier_17 : decode cX11_isSteadier 17 = .ok (.getfield 98, 3) := by decide +kernel
theorem dX11_isSteadier_20 : decode cX11_isSteadier 20 = .ok (.invokevirtual 101, 3) := by decide +kernel
theorem dX11_isSteadier_23 : decode cX11_isSteadier 23 = .ok (.i2l, 1) := by decide +kernel
theorem dX11_isSteadier_24 : decode cX11_isSteadier 24 = .ok (.lmul, 1) := by decide +kernel
theorem dX11_isSteadier_25 : decode cX11_isSteadier 25 = .ok (.lstore_n 3, 1) := by decide +kernel
theorem dX11_isSteadier_26 : decode cX11_isSteadier 26 = .ok (.aload_n 2, 1) := by decide +kernel
theorem dX11_isSteadier_27 : decode cX11_isSteadier 27 = .ok (.aload_n 0, 1) := by decide +kernel
theorem dX11_isSteadier_28 : decode cX11_isSteadier 28 = .ok (.getfield 10, 3) := by decide +kernel
theorem dX11_isSteadier_31 : decode cX11_isSteadier 31 = .ok (.getfield 98, 3) := by decide +kernel
theorem dX11_isSteadier_34 : decode cX11_isSteadier 34 = .ok (.invokevirtual 105, 3) := by decide +kernel
theorem dX11_isSteadier_37 : decode cX11_isSteadier 37 = .ok (.i2l, 1) := by decide +kernel
theorem dX11_isSteadier_38 : decode cX11_isSteadier 38 = .ok (.aload_n 1, 1) := by decide +kernel
theorem dX11_isSteadier_39 : decode cX11_isSteadier 39 = .ok (.aload_n 0, 1) := by decide +kernel
theorem dX11_isSteadier_40 : decode cX11_isSteadier 40 = .ok (.getfield 10, 3) := by decide +kernel
theorem dX11_isSteadier_43 : decode cX11_isSteadier 43 = .ok (.getfield 98, 3) := by decide +kernel
theorem dX11_isSteadier_46 : decode cX11_isSteadier 46 = .ok (.invokevirtual 101, 3) := by decide +kernel
theorem dX11_isSteadier_49 : decode cX11_isSteadier 49 = .ok (.i2l, 1) := by decide +kernel
theorem dX11_isSteadier_50 : decode cX11_isSteadier 50 = .ok (.lmul, 1) := by decide +kernel
theorem dX11_isSteadier_51 : decode cX11_isSteadier 51 = .ok (.lstore 5, 2) := by decide +kernel
theorem dX11_isSteadier_53 : decode cX11_isSteadier 53 = .ok (.lload_n 3, 1) := by decide +kernel
theorem dX11_isSteadier_54 : decode cX11_isSteadier 54 = .ok (.lload 5, 2) := by decide +kernel
theorem dX11_isSteadier_56 : decode cX11_isSteadier 56 = .ok (.lcmp, 1) := by decide +kernel
theorem dX11_isSteadier_57 : decode cX11_isSteadier 57 = .ok (.ifCond .ge 7, 3) := by decide +kernel
theorem dX11_isSteadier_60 : decode cX11_isSteadier 60 = .ok (.iconst 1, 1) := by decide +kernel
theorem dX11_isSteadier_61 : decode cX11_isSteadier 61 = .ok (.goto 4, 3) := by decide +kernel
theorem dX11_isSteadier_64 : decode cX11_isSteadier 64 = .ok (.iconst 0, 1) := by decide +kernel
theorem dX11_isSteadier_65 : decode cX11_isSteadier 65 = .ok (.ireturn, 1) := by decide +kernel
theorem dX11_gain_0 : decode cX11_gain 0 = .ok (.iload_n 1, 1) := by decide +kernel
theorem dX11_gain_1 : decode cX11_gain 1 = .ok (.iconst 0, 1) := by decide +kernel
theorem dX11_gain_2 : decode cX11_gain 2 = .ok (.bipush 127, 2) := by decide +kernel
theorem dX11_gain_4 : decode cX11_gain 4 = .ok (.invokestatic 61, 3) := by decide +kernel
theorem dX11_gain_7 : decode cX11_gain 7 = .ok (.ifCond .eq 32, 3) := by decide +kernel
theorem dX11_gain_10 : decode cX11_gain 10 = .ok (.iload_n 2, 1) := by decide +kernel
theorem dX11_gain_11 : decode cX11_gain 11 = .ok (.iload_n 3, 1) := by decide +kernel
theorem dX11_gain_12 : decode cX11_gain 12 = .ok (.invokestatic 302, 3) := by decide +kernel
theorem dX11_gain_15 : decode cX11_gain 15 = .ok (.ifCond .eq 24, 3) := by decide +kernel
theorem dX11_gain_18 : decode cX11_gain 18 = .ok (.iload 4, 2) := by decide +kernel
theorem dX11_gain_20 : decode cX11_gain 20 = .ok (.iconst 0, 1) := by decide +kernel
theorem dX11_gain_21 : decode cX11_gain 21 = .ok (.iload 5, 2) := by decide +kernel
theorem dX11_gain_23 : decode cX11_gain 23 = .ok (.ifCond .eq 8, 3) := by decide +kernel
theorem dX11_gain_26 : decode cX11_gain 26 = .ok (.bipush 7, 2) := by decide +kernel
theorem dX11_gain_28 : decode cX11_gain 28 = .ok (.goto 5, 3) := by decide +kernel
theorem dX11_gain_31 : decode cX11_gain 31 = .ok (.bipush 127, 2) := by decide +kernel
theorem dX11_gain_33 : decode cX11_gain 33 = .ok (.invokestatic 61, 3) := by decide +kernel
theorem dX11_gain_36 : decode cX11_gain 36 = .ok (.ifCond .ne 6, 3) := by decide +kernel
theorem dX11_gain_39 : decode cX11_gain 39 = .ok (.ldc 226, 2) := by decide +kernel
theorem dX11_gain_41 : decode cX11_gain 41 = .ok (.ireturn, 1) := by decide +kernel
theorem dX11_gain_42 : decode cX11_gain 42 = .ok (.bipush 127, 2) := by decide +kernel
theorem dX11_gain_44 : decode cX11_gain 44 = .ok (.iload_n 1, 1) := by decide +kernel
theorem dX11_gain_45 : decode cX11_gain 45 = .ok (.iconst (-1), 1) := by decide +kernel
theorem dX11_gain_46 : decode cX11_gain 46 = .ok (.ixor, 1) := by decide +kernel
theorem dX11_gain_47 : decode cX11_gain 47 = .ok (.iand, 1) := by decide +kernel
theorem dX11_gain_48 : decode cX11_gain 48 = .ok (.istore 6, 2) := by decide +kernel
theorem dX11_gain_50 : decode cX11_gain 50 = .ok (.iload 5, 2) := by decide +kernel
theorem dX11_gain_52 : decode cX11_gain 52 = .ok (.ifCond .eq 20, 3) := by decide +kernel
theorem dX11_gain_55 : decode cX11_gain 55 = .ok (.iload 6, 2) := by decide +kernel
theorem dX11_gain_57 : decode cX11_gain 57 = .ok (.invokestatic 243, 3) := by decide +kernel
theorem dX11_gain_60 : decode cX11_gain 60 = .ok (.iload_n 2, 1) := by decide +kernel
theorem dX11_gain_61 : decode cX11_gain 61 = .ok (.invokestatic 305, 3) := by decide +kernel
theorem dX11_gain_64 : decode cX11_gain 64 = .ok (.iload_n 3, 1) := by decide +kernel
theorem dX11_gain_65 : decode cX11_gain 65 = .ok (.iload 4, 2) := by decide +kernel
theorem dX11_gain_67 : decode cX11_gain 67 = .ok (.invokestatic 308, 3) := by decide +kernel
theorem dX11_gain_70 : decode cX11_gain 70 = .ok (.imul, 1) := by decide +kernel
theorem dX11_gain_71 : decode cX11_gain 71 = .ok (.ireturn, 1) := by decide +kernel
theorem dX11_gain_72 : decode cX11_gain 72 = .ok (.iload 6, 2) := by decide +kernel
theorem dX11_gain_74 : decode cX11_gain 74 = .ok (.invokestatic 243, 3) := by decide +kernel
theorem dX11_gain_77 : decode cX11_gain 77 = .ok (.iload_n 2, 1) := by decide +kernel
theorem dX11_gain_78 : decode cX11_gain 78 = .ok (.invokestatic 305, 3) := by decide +kernel
theorem dX11_gain_81 : decode cX11_gain 81 = .ok (.imul, 1) := by decide +kernel
theorem dX11_gain_82 : decode cX11_gain 82 = .ok (.iload 6, 2) := by decide +kernel
theorem dX11_gain_84 : decode cX11_gain 84 = .ok (.iload 4, 2) := by decide +kernel
theorem dX11_gain_86 : decode cX11_gain 86 = .ok (.iand, 1) := by decide +kernel
theorem dX11_gain_87 : decode cX11_gain 87 = .ok (.invokestatic 243, 3) := by decide +kernel
theorem dX11_gain_90 : decode cX11_gain 90 = .ok (.iload_n 3, 1) := by decide +kernel
theorem dX11_gain_91 : decode cX11_gain 91 = .ok (.imul, 1) := by decide +kernel
theorem dX11_gain_92 : decode cX11_gain 92 = .ok (.isub, 1) := by decide +kernel
theorem dX11_gain_93 : decode cX11_gain 93 = .ok (.ireturn, 1) := by decide +kernel
theorem dX11_best_0 : decode cX11_best 0 = .ok (.iload_n 1, 1) := by decide +kernel
theorem dX11_best_1 : decode cX11_best 1 = .ok (.iload_n 2, 1) := by decide +kernel
theorem dX11_best_2 : decode cX11_best 2 = .ok (.invokestatic 302, 3) := by decide +kernel
theorem dX11_best_5 : decode cX11_best 5 = .ok (.ifCond .eq 32, 3) := by decide +kernel
theorem dX11_best_8 : decode cX11_best 8 = .ok (.iload 4, 2) := by decide +kernel
theorem dX11_best_10 : decode cX11_best 10 = .ok (.iconst 0, 1) := by decide +kernel
theorem dX11_best_11 : decode cX11_best 11 = .ok (.iconst 1, 1) := by decide +kernel
theorem dX11_best_12 : decode cX11_best 12 = .ok (.invokestatic 61, 3) := by decide +kernel
theorem dX11_best_15 : decode cX11_best 15 = .ok (.ifCond .eq 22, 3) := by decide +kernel
theorem dX11_best_18 : decode cX11_best 18 = .ok (.iload_n 3, 1) := by decide +kernel
theorem dX11_best_19 : decode cX11_best 19 = .ok (.iconst 0, 1) := by decide +kernel
theorem dX11_best_20 : decode cX11_best 20 = .ok (.iload 4, 2) := by decide +kernel
theorem dX11_best_22 : decode cX11_best 22 = .ok (.ifCond .ne 8, 3) := by decide +kernel
theorem dX11_best_25 : decode cX11_best 25 = .ok (.bipush 127, 2) := by decide +kernel
theorem dX11_best_27 : decode cX11_best 27 = .ok (.goto 4, 3) := by decide +kernel
theorem dX11_best_30 : decode cX11_best 30 = .ok (.iconst 0, 1) := by decide +kernel
theorem dX11_best_31 : decode cX11_best 31 = .ok (.invokestatic 61, 3) := by decide +kernel
theorem dX11_best_34 : decode cX11_best 34 = .ok (.ifCond .ne 5, 3) := by decide +kernel
theorem dX11_best_37 : decode cX11_best 37 = .ok (.iconst (-1), 1) := by decide +kernel
theorem dX11_best_38 : decode cX11_best 38 = .ok (.ireturn, 1) := by decide +kernel
theorem dX11_best_39 : decode cX11_best 39 = .ok (.iload_n 1, 1) := by decide +kernel
theorem dX11_best_40 : decode cX11_best 40 = .ok (.invokestatic 305, 3) := by decide +kernel
theorem dX11_best_43 : decode cX11_best 43 = .ok (.istore 5, 2) := by decide +kernel
theorem dX11_best_45 : decode cX11_best 45 = .ok (.iload 4, 2) := by decide +kernel
theorem dX11_best_47 : decode cX11_best 47 = .ok (.ifCond .ne 15, 3) := by decide +kernel
theorem dX11_best_50 : decode cX11_best 50 = .ok (.iload_n 2, 1) := by decide +kernel
theorem dX11_best_51 : decode cX11_best 51 = .ok (.iload 5, 2) := by decide +kernel
theorem dX11_best_53 : decode cX11_best 53 = .ok (.if_icmp .le 7, 3) := by decide +kernel
theorem dX11_best_56 : decode cX11_best 56 = .ok (.iload_n 3, 1) := by decide +kernel
theorem dX11_best_57 : decode cX11_best 57 = .ok (.goto 4, 3) := by decide +kernel
theorem dX11_best_60 : decode cX11_best 60 = .ok (.iconst 0, 1) := by decide +kernel
theorem dX11_best_61 : decode cX11_best 61 = .ok (.ireturn, 1) := by decide +kernel
theorem dX11_best_62 : decode cX11_best 62 = .ok (.iconst 0, 1) := by decide +kernel
theorem dX11_best_63 : decode cX11_best 63 = .ok (.istore 6, 2) := by decide +kernel
theorem dX11_best_65 : decode cX11_best 65 = .ok (.iload 6, 2) := by decide +kernel
theorem dX11_best_67 : decode cX11_best 67 = .ok (.bipush 7, 2) := by decide +kernel
theorem dX11_best_69 : decode cX11_best 69 = .ok (.if_icmp .gt 23, 3) := by decide +kernel
theorem dX11_best_72 : decode cX11_best 72 = .ok (.iload 5, 2) := by decide +kernel
theorem dX11_best_74 : decode cX11_best 74 = .ok (.iload_n 2, 1) := by decide +kernel
theorem dX11_best_75 : decode cX11_best 75 = .ok (.iload 6, 2) := by decide +kernel
theorem dX11_best_77 : decode cX11_best 77 = .ok (.invokestatic 308, 3) := by decide +kernel
theorem dX11_best_80 : decode cX11_best 80 = .ok (.ifCond .gt 6, 3) := by decide +kernel
theorem dX11_best_83 : decode cX11_best 83 = .ok (.iload 6, 2) := by decide +kernel
theorem dX11_best_85 : decode cX11_best 85 = .ok (.ireturn, 1) := by decide +kernel
theorem dX11_best_86 : decode cX11_best 86 = .ok (.iinc 6 1, 3) := by decide +kernel
theorem dX11_best_89 : decode cX11_best 89 = .ok (.goto (-24), 3) := by decide +kernel
theorem dX11_best_92 : decode cX11_best 92 = .ok (.bipush (-4), 2) := by decide +kernel
theorem dX11_best_94 : decode cX11_best 94 = .ok (.ireturn, 1) := by decide +kernel
theorem dX11_narrows_0 : decode cX11_narrows 0 = .ok (.aload_n 0, 1) := by decide +kernel
theorem dX11_narrows_1 : decode cX11_narrows 1 = .ok (.getfield 42, 3) := by decide +kernel
theorem dX11_narrows_4 : decode cX11_narrows 4 = .ok (.aload_n 0, 1) := by decide +kernel
theorem dX11_narrows_5 : decode cX11_narrows 5 = .ok (.getfield 10, 3) := by decide +kernel
theorem dX11_narrows_8 : decode cX11_narrows 8 = .ok (.invokevirtual 312, 3) := by decide +kernel
theorem dX11_narrows_11 : decode cX11_narrows 11 = .ok (.bipush (-4), 2) := by decide +kernel
theorem dX11_narrows_13 : decode cX11_narrows 13 = .ok (.istore_n 1, 1) := by decide +kernel
theorem dX11_narrows_14 : decode cX11_narrows 14 = .ok (.iconst 0, 1) := by decide +kernel
theorem dX11_narrows_15 : decode cX11_narrows 15 = .ok (.istore_n 2, 1) := by decide +kernel
theorem dX11_narrows_16 : decode cX11_narrows 16 = .ok (.iconst 0, 1) := by decide +kernel
theorem dX11_narrows_17 : decode cX11_narrows 17 = .ok (.istore_n 3, 1) := by decide +kernel
theorem dX11_narrows_18 : decode cX11_narrows 18 = .ok (.iload_n 3, 1) := by decide +kernel
theorem dX11_narrows_19 : decode cX11_narrows 19 = .ok (.aload_n 0, 1) := by decide +kernel
theorem dX11_narrows_20 : decode cX11_narrows 20 = .ok (.getfield 10, 3) := by decide +kernel
theorem dX11_narrows_23 : decode cX11_narrows 23 = .ok (.getfield 65, 3) := by decide +kernel
theorem dX11_narrows_26 : decode cX11_narrows 26 = .ok (.if_icmp .ge 86, 3) := by decide +kernel
theorem dX11_narrows_29 : decode cX11_narrows 29 = .ok (.iload_n 3, 1) := by decide +kernel
theorem dX11_narrows_30 : decode cX11_narrows 30 = .ok (.iconst 1, 1) := by decide +kernel
theorem dX11_narrows_31 : decode cX11_narrows 31 = .ok (.iadd, 1) := by decide +kernel
theorem dX11_narrows_32 : decode cX11_narrows 32 = .ok (.istore 4, 2) := by decide +kernel
theorem dX11_narrows_34 : decode cX11_narrows 34 = .ok (.iload 4, 2) := by decide +kernel
theorem dX11_narrows_36 : decode cX11_narrows 36 = .ok (.aload_n 0, 1) := by decide +kernel
theorem dX11_narrows_37 : decode cX11_narrows 37 = .ok (.getfield 10, 3) := by decide +kernel
theorem dX11_narrows_40 : decode cX11_narrows 40 = .ok (.getfield 65, 3) := by decide +kernel
theorem dX11_narrows_43 : decode cX11_narrows 43 = .ok (.if_icmp .ge 63, 3) := by decide +kernel
theorem dX11_narrows_46 : decode cX11_narrows 46 = .ok (.aload_n 0, 1) := by decide +kernel
theorem dX11_narrows_47 : decode cX11_narrows 47 = .ok (.getfield 42, 3) := by decide +kernel
theorem dX11_narrows_50 : decode cX11_narrows 50 = .ok (.iload_n 3, 1) := by decide +kernel
theorem dX11_narrows_51 : decode cX11_narrows 51 = .ok (.iload 4, 2) := by decide +kernel
theorem dX11_narrows_53 : decode cX11_narrows 53 = .ok (.invokevirtual 316, 3) := by decide +kernel
theorem dX11_narrows_56 : decode cX11_narrows 56 = .ok (.ifCond .eq 7, 3) := by decide +kernel
theorem dX11_narrows_59 : decode cX11_narrows 59 = .ok (.iconst 0, 1) := by decide +kernel
theorem dX11_narrows_60 : decode cX11_narrows 60 = .ok (.goto 21, 3) := by decide +kernel
theorem dX11_narrows_63 : decode cX11_narrows 63 = .ok (.aload_n 0, 1) := by decide +kernel
theorem dX11_narrows_64 : decode cX11_narrows 64 = .ok (.getfield 42, 3) := by decide +kernel
theorem dX11_narrows_67 : decode cX11_narrows 67 = .ok (.iload_n 3, 1) := by decide +kernel
theorem dX11_narrows_68 : decode cX11_narrows 68 = .ok (.invokevirtual 319, 3) := by decide +kernel
theorem dX11_narrows_71 : decode cX11_narrows 71 = .ok (.aload_n 0, 1) := by decide +kernel
theorem dX11_narrows_72 : decode cX11_narrows 72 = .ok (.getfield 42, 3) := by decide +kernel
theorem dX11_narrows_75 : decode cX11_narrows 75 = .ok (.iload 4, 2) := by decide +kernel
theorem dX11_narrows_77 : decode cX11_narrows 77 = .ok (.invokevirtual 319, 3) := by decide +kernel
theorem dX11_narrows_80 : decode cX11_narrows 80 = .ok (.imul, 1) := by decide +kernel
theorem dX11_narrows_81 : decode cX11_narrows 81 = .ok (.istore 5, 2) := by decide +kernel
theorem dX11_narrows_83 : decode cX11_narrows 83 = .ok (.iload 5, 2) := by decide +kernel
theorem dX11_narrows_85 : decode cX11_narrows 85 = .ok (.iload_n 2, 1) := by decide +kernel
theorem dX11_narrows_86 : decode cX11_narrows 86 = .ok (.if_icmp .le 14, 3) := by decide +kernel
theorem dX11_narrows_89 : decode cX11_narrows 89 = .ok (.iload 5, 2) := by decide +kernel
theorem dX11_narrows_91 : decode cX11_narrows 91 = .ok (.istore_n 2, 1) := by decide +kernel
theorem dX11_narrows_92 : decode cX11_narrows 92 = .ok (.bipush 100, 2) := by decide +kernel
theorem dX11_narrows_94 : decode cX11_narrows 94 = .ok (.iload_n 3, 1) := by decide +kernel
theorem dX11_narrows_95 : decode cX11_narrows 95 = .ok (.imul, 1) := by decide +kernel
theorem dX11_narrows_96 : decode cX11_narrows 96 = .ok (.iload 4, 2) := by decide +kernel
theorem dX11_narrows_98 : decode cX11_narrows 98 = .ok (.iadd, 1) := by decide +kernel
theorem dX11_narrows_99 : decode cX11_narrows 99 = .ok (.istore_n 1, 1) := by decide +kernel
theorem dX11_narrows_100 : decode cX11_narrows 100 = .ok (.iinc 4 1, 3) := by decide +kernel
theorem dX11_narrows_103 : decode cX11_narrows 103 = .ok (.goto (-69), 3) := by decide +kernel
theorem dX11_narrows_106 : decode cX11_narrows 106 = .ok (.iinc 3 1, 3) := by decide +kernel
theorem dX11_narrows_109 : decode cX11_narrows 109 = .ok (.goto (-91), 3) := by decide +kernel
theorem dX11_narrows_112 : decode cX11_narrows 112 = .ok (.iload_n 1, 1) := by decide +kernel
theorem dX11_narrows_113 : decode cX11_narrows 113 = .ok (.ireturn, 1) := by decide +kernel
theorem dX11_areTerms_0 : decode cX11_areTerms 0 = .ok (.iload_n 0, 1) := by decide +kernel
theorem dX11_areTerms_1 : decode cX11_areTerms 1 = .ok (.iconst 0, 1) := by decide +kernel
theorem dX11_areTerms_2 : decode cX11_areTerms 2 = .ok (.ldc_w 322, 3) := by decide +kernel
theorem dX11_areTerms_5 : decode cX11_areTerms 5 = .ok (.invokestatic 61, 3) := by decide +kernel
theorem dX11_areTerms_8 : decode cX11_areTerms 8 = .ok (.ifCond .eq 25, 3) := by decide +kernel
theorem dX11_areTerms_11 : decode cX11_areTerms 11 = .ok (.iload_n 0, 1) := by decide +kernel
theorem dX11_areTerms_12 : decode cX11_areTerms 12 = .ok (.invokestatic 305, 3) := by decide +kernel
theorem dX11_areTerms_15 : decode cX11_areTerms 15 = .ok (.ifCond .le 18, 3) := by decide +kernel
theorem dX11_areTerms_18 : decode cX11_areTerms 18 = .ok (.iload_n 1, 1) := by decide +kernel
theorem dX11_areTerms_19 : decode cX11_areTerms 19 = .ok (.iconst 0, 1) := by decide +kernel
theorem dX11_areTerms_20 : decode cX11_areTerms 20 = .ok (.sipush 9999, 3) := by decide +kernel
theorem dX11_areTerms_23 : decode cX11_areTerms 23 = .ok (.invokestatic 61, 3) := by decide +kernel
theorem dX11_areTerms_26 : decode cX11_areTerms 26 = .ok (.ifCond .eq 7, 3) := by decide +kernel
theorem dX11_areTerms_29 : decode cX11_areTerms 29 = .ok (.iconst 1, 1) := by decide +kernel
theorem dX11_areTerms_30 : decode cX11_areTerms 30 = .ok (.goto 4, 3) := by decide +kernel
theorem dX11_areTerms_33 : decode cX11_areTerms 33 = .ok (.iconst 0, 1) := by decide +kernel
theorem dX11_areTerms_34 : decode cX11_areTerms 34 = .ok (.ireturn, 1) := by decide +kernel
theorem dX11_savedBy_0 : decode cX11_savedBy 0 = .ok (.iload_n 0, 1) := by decide +kernel
theorem dX11_savedBy_1 : decode cX11_savedBy 1 = .ok (.sipush 1000, 3) := by decide +kernel
theorem dX11_savedBy_4 : decode cX11_savedBy 4 = .ok (.idiv, 1) := by decide +kernel
theorem dX11_savedBy_5 : decode cX11_savedBy 5 = .ok (.iload_n 0, 1) := by decide +kernel
theorem dX11_savedBy_6 : decode cX11_savedBy 6 = .ok (.sipush 1000, 3) := by decide +kernel
theorem dX11_savedBy_9 : decode cX11_savedBy 9 = .ok (.irem, 1) := by decide +kernel
theorem dX11_savedBy_10 : decode cX11_savedBy 10 = .ok (.isub, 1) := by decide +kernel
theorem dX11_savedBy_11 : decode cX11_savedBy 11 = .ok (.ireturn, 1) := by decide +kernel
theorem dX11_gainOfAnIllDay_0 : decode cX11_gainOfAnIllDay 0 = .ok (.iload_n 2, 1) := by decide +kernel
theorem dX11_gainOfAnIllDay_1 : decode cX11_gainOfAnIllDay 1 = .ok (.iconst 0, 1) := by decide +kernel
theorem dX11_gainOfAnIllDay_2 : decode cX11_gainOfAnIllDay 2 = .ok (.bipush 7, 2) := by decide +kernel
theorem dX11_gainOfAnIllDay_4 : decode cX11_gainOfAnIllDay 4 = .ok (.invokestatic 61, 3) := by decide +kernel
theorem dX11_gainOfAnIllDay_7 : decode cX11_gainOfAnIllDay 7 = .ok (.ifCond .ne 5, 3) := by decide +kernel
theorem dX11_gainOfAnIllDay_10 : decode cX11_gainOfAnIllDay 10 = .ok (.iconst 0, 1) := by decide +kernel
theorem dX11_gainOfAnIllDay_11 : decode cX11_gainOfAnIllDay 11 = .ok (.ireturn, 1) := by decide +kernel
theorem dX11_gainOfAnIllDay_12 : decode cX11_gainOfAnIllDay 12 = .ok (.getstatic 323, 3) := by decide +kernel
theorem dX11_gainOfAnIllDay_15 : decode cX11_gainOfAnIllDay 15 = .ok (.iload_n 2, 1) := by decide +kernel
theorem dX11_gainOfAnIllDay_16 : decode cX11_gainOfAnIllDay 16 = .ok (.iaload, 1) := by decide +kernel
theorem dX11_gainOfAnIllDay_17 : decode cX11_gainOfAnIllDay 17 = .ok (.iload_n 0, 1) := by decide +kernel
theorem dX11_gainOfAnIllDay_18 : decode cX11_gainOfAnIllDay 18 = .ok (.imul, 1) := by decide +kernel
theorem dX11_gainOfAnIllDay_19 : decode cX11_gainOfAnIllDay 19 = .ok (.getstatic 326, 3) := by decide +kernel
theorem dX11_gainOfAnIllDay_22 : decode cX11_gainOfAnIllDay 22 = .ok (.iload_n 2, 1) := by decide +kernel
theorem dX11_gainOfAnIllDay_23 : decode cX11_gainOfAnIllDay 23 = .ok (.iaload, 1) := by decide +kernel
theorem dX11_gainOfAnIllDay_24 : decode cX11_gainOfAnIllDay 24 = .ok (.iload_n 1, 1) := by decide +kernel
theorem dX11_gainOfAnIllDay_25 : decode cX11_gainOfAnIllDay 25 = .ok (.imul, 1) := by decide +kernel
theorem dX11_gainOfAnIllDay_26 : decode cX11_gainOfAnIllDay 26 = .ok (.isub, 1) := by decide +kernel
theorem dX11_gainOfAnIllDay_27 : decode cX11_gainOfAnIllDay 27 = .ok (.ireturn, 1) := by decide +kernel
theorem dX11_image_0 : decode cX11_image 0 = .ok (.aload_n 0, 1) := by decide +kernel
theorem dX11_image_1 : decode cX11_image 1 = .ok (.getfield 16, 3) := by decide +kernel
theorem dX11_image_4 : decode cX11_image 4 = .ok (.aload_n 0, 1) := by decide +kernel
theorem dX11_image_5 : decode cX11_image 5 = .ok (.getfield 10, 3) := by decide +kernel
theorem dX11_image_8 : decode cX11_image 8 = .ok (.invokevirtual 329, 3) := by decide +kernel
theorem dX11_image_11 : decode cX11_image 11 = .ok (.aload_n 0, 1) := by decide +kernel
theorem dX11_image_12 : decode cX11_image 12 = .ok (.iconst 1, 1) := by decide +kernel
theorem dX11_image_13 : decode cX11_image 13 = .ok (.putfield 332, 3) := by decide +kernel
theorem dX11_image_16 : decode cX11_image 16 = .ok (.aload_n 0, 1) := by decide +kernel
theorem dX11_image_17 : decode cX11_image 17 = .ok (.getfield 10, 3) := by decide +kernel
theorem dX11_image_20 : decode cX11_image 20 = .ok (.getfield 65, 3) := by decide +kernel
theorem dX11_image_23 : decode cX11_image 23 = .ok (.ireturn, 1) := by decide +kernel
theorem dX11_restore_0 : decode cX11_restore 0 = .ok (.aload_n 0, 1) := by decide +kernel
theorem dX11_restore_1 : decode cX11_restore 1 = .ok (.getfield 332, 3) := by decide +kernel
theorem dX11_restore_4 : decode cX11_restore 4 = .ok (.ifCond .ne 6, 3) := by decide +kernel
theorem dX11_restore_7 : decode cX11_restore 7 = .ok (.bipush (-3), 2) := by decide +kernel
theorem dX11_restore_9 : decode cX11_restore 9 = .ok (.ireturn, 1) := by decide +kernel
theorem dX11_restore_10 : decode cX11_restore 10 = .ok (.aload_n 0, 1) := by decide +kernel
theorem dX11_restore_11 : decode cX11_restore 11 = .ok (.getfield 10, 3) := by decide +kernel
theorem dX11_restore_14 : decode cX11_restore 14 = .ok (.aload_n 0, 1) := by decide +kernel
theorem dX11_restore_15 : decode cX11_restore 15 = .ok (.getfield 16, 3) := by decide +kernel
theorem dX11_restore_18 : decode cX11_restore 18 = .ok (.invokevirtual 329, 3) := by decide +kernel
theorem dX11_restore_21 : decode cX11_restore 21 = .ok (.aload_n 0, 1) := by decide +kernel
theorem dX11_restore_22 : decode cX11_restore 22 = .ok (.getfield 10, 3) := by decide +kernel
theorem dX11_restore_25 : decode cX11_restore 25 = .ok (.getfield 65, 3) := by decide +kernel
theorem dX11_restore_28 : decode cX11_restore 28 = .ok (.ireturn, 1) := by decide +kernel
theorem dX11_count_0 : decode cX11_count 0 = .ok (.iload_n 1, 1) := by decide +kernel
theorem dX11_count_1 : decode cX11_count 1 = .ok (.tableswitch 98 0 5 #[39, 47, 55, 63, 71, 79], 39) := by decide +kernel
theorem dX11_count_40 : decode cX11_count 40 = .ok (.aload_n 0, 1) := by decide +kernel
theorem dX11_count_41 : decode cX11_count 41 = .ok (.getfield 10, 3) := by decide +kernel
theorem dX11_count_44 : decode cX11_count 44 = .ok (.getfield 65, 3) := by decide +kernel
theorem dX11_count_47 : decode cX11_count 47 = .ok (.ireturn, 1) := by decide +kernel
theorem dX11_count_48 : decode cX11_count 48 = .ok (.aload_n 0, 1) := by decide +kernel
theorem dX11_count_49 : decode cX11_count 49 = .ok (.getfield 10, 3) := by decide +kernel
theorem dX11_count_52 : decode cX11_count 52 = .ok (.getfield 335, 3) := by decide +kernel
theorem dX11_count_55 : decode cX11_count 55 = .ok (.ireturn, 1) := by decide +kernel
theorem dX11_count_56 : decode cX11_count 56 = .ok (.aload_n 0, 1) := by decide +kernel
theorem dX11_count_57 : decode cX11_count 57 = .ok (.getfield 10, 3) := by decide +kernel
theorem dX11_count_60 : decode cX11_count 60 = .ok (.invokevirtual 338, 3) := by decide +kernel
theorem dX11_count_63 : decode cX11_count 63 = .ok (.ireturn, 1) := by decide +kernel
theorem dX11_count_64 : decode cX11_count 64 = .ok (.aload_n 0, 1) := by decide +kernel
theorem dX11_count_65 : decode cX11_count 65 = .ok (.getfield 10, 3) := by decide +kernel
theorem dX11_count_68 : decode cX11_count 68 = .ok (.getfield 279, 3) := by decide +kernel
theorem dX11_count_71 : decode cX11_count 71 = .ok (.ireturn, 1) := by decide +kernel
theorem dX11_count_72 : decode cX11_count 72 = .ok (.aload_n 0, 1) := by decide +kernel
theorem dX11_count_73 : decode cX11_count 73 = .ok (.getfield 10, 3) := by decide +kernel
theorem dX11_count_76 : decode cX11_count 76 = .ok (.invokevirtual 342, 3) := by decide +kernel
theorem dX11_count_79 : decode cX11_count 79 = .ok (.ireturn, 1) := by decide +kernel
theorem dX11_count_80 : decode cX11_count 80 = .ok (.aload_n 0, 1) := by decide +kernel
theorem dX11_count_81 : decode cX11_count 81 = .ok (.getfield 42, 3) := by decide +kernel
theorem dX11_count_84 : decode cX11_count 84 = .ok (.aload_n 0, 1) := by decide +kernel
theorem dX11_count_85 : decode cX11_count 85 = .ok (.getfield 10, 3) := by decide +kernel
theorem dX11_count_88 : decode cX11_count 88 = .ok (.invokevirtual 312, 3) := by decide +kernel
theorem dX11_count_91 : decode cX11_count 91 = .ok (.aload_n 0, 1) := by decide +kernel
theorem dX11_count_92 : decode cX11_count 92 = .ok (.getfield 42, 3) := by decide +kernel
theorem dX11_count_95 : decode cX11_count 95 = .ok (.invokevirtual 345, 3) := by decide +kernel
theorem dX11_count_98 : decode cX11_count 98 = .ok (.ireturn, 1) := by decide +kernel
theorem dX11_count_99 : decode cX11_count 99 = .ok (.iconst (-1), 1) := by decide +kernel
theorem dX11_count_100 : decode cX11_count 100 = .ok (.ireturn, 1) := by decide +kernel
theorem dX11_keep_0 : decode cX11_keep 0 = .ok (.iload_n 1, 1) := by decide +kernel
theorem dX11_keep_1 : decode cX11_keep 1 = .ok (.iconst 0, 1) := by decide +kernel
theorem dX11_keep_2 : decode cX11_keep 2 = .ok (.bipush 7, 2) := by decide +kernel
theorem dX11_keep_4 : decode cX11_keep 4 = .ok (.invokestatic 61, 3) := by decide +kernel
theorem dX11_keep_7 : decode cX11_keep 7 = .ok (.ifCond .eq 12, 3) := by decide +kernel
theorem dX11_keep_10 : decode cX11_keep 10 = .ok (.iload_n 2, 1) := by decide +kernel
theorem dX11_keep_11 : decode cX11_keep 11 = .ok (.iconst 0, 1) := by decide +kernel
theorem dX11_keep_12 : decode cX11_keep 12 = .ok (.iconst 1, 1) := by decide +kernel
theorem dX11_keep_13 : decode cX11_keep 13 = .ok (.invokestatic 61, 3) := by decide +kernel
theorem dX11_keep_16 : decode cX11_keep 16 = .ok (.ifCond .ne 5, 3) := by decide +kernel
theorem dX11_keep_19 : decode cX11_keep 19 = .ok (.iconst (-1), 1) := by decide +kernel
theorem dX11_keep_20 : decode cX11_keep 20 = .ok (.ireturn, 1) := by decide +kernel
theorem dX11_keep_21 : decode cX11_keep 21 = .ok (.iload_n 2, 1) := by decide +kernel
theorem dX11_keep_22 : decode cX11_keep 22 = .ok (.ifCond .ne 15, 3) := by decide +kernel
theorem dX11_keep_25 : decode cX11_keep 25 = .ok (.aload_n 0, 1) := by decide +kernel
theorem dX11_keep_26 : decode cX11_keep 26 = .ok (.getfield 21, 3) := by decide +kernel
theorem dX11_keep_29 : decode cX11_keep 29 = .ok (.iload_n 1, 1) := by decide +kernel
theorem dX11_keep_30 : decode cX11_keep 30 = .ok (.aaload, 1) := by decide +kernel
theorem dX11_keep_31 : decode cX11_keep 31 = .ok (.iconst 0, 1) := by decide +kernel
theorem dX11_keep_32 : decode cX11_keep 32 = .ok (.putfield 348, 3) := by decide +kernel
theorem dX11_keep_35 : decode cX11_keep 35 = .ok (.iconst 0, 1) := by decide +kernel
theorem dX11_keep_36 : decode cX11_keep 36 = .ok (.ireturn, 1) := by decide +kernel
theorem dX11_keep_37 : decode cX11_keep 37 = .ok (.aload_n 0, 1) := by decide +kernel
theorem dX11_keep_38 : decode cX11_keep 38 = .ok (.getfield 10, 3) := by decide +kernel
theorem dX11_keep_41 : decode cX11_keep 41 = .ok (.iload_n 3, 1) := by decide +kernel
theorem dX11_keep_42 : decode cX11_keep 42 = .ok (.invokevirtual 93, 3) := by decide +kernel
theorem dX11_keep_45 : decode cX11_keep 45 = .ok (.astore 4, 2) := by decide +kernel
theorem dX11_keep_47 : decode cX11_keep 47 = .ok (.aload 4, 2) := by decide +kernel
theorem dX11_keep_49 : decode cX11_keep 49 = .ok (.ifnonnull 5, 3) := by decide +kernel
theorem dX11_keep_52 : decode cX11_keep 52 = .ok (.iconst (-1), 1) := by decide +kernel
theorem dX11_keep_53 : decode cX11_keep 53 = .ok (.ireturn, 1) := by decide +kernel
theorem dX11_keep_54 : decode cX11_keep 54 = .ok (.aload_n 0, 1) := by decide +kernel
theorem dX11_keep_55 : decode cX11_keep 55 = .ok (.getfield 21, 3) := by decide +kernel
theorem dX11_keep_58 : decode cX11_keep 58 = .ok (.iload_n 1, 1) := by decide +kernel
theorem dX11_keep_59 : decode cX11_keep 59 = .ok (.aaload, 1) := by decide +kernel
theorem dX11_keep_60 : decode cX11_keep 60 = .ok (.getfield 351, 3) := by decide +kernel
theorem dX11_keep_63 : decode cX11_keep 63 = .ok (.aload 4, 2) := by decide +kernel
theorem dX11_keep_65 : decode cX11_keep 65 = .ok (.invokevirtual 354, 3) := by decide +kernel
theorem dX11_keep_68 : decode cX11_keep 68 = .ok (.aload_n 0, 1) := by decide +kernel
theorem dX11_keep_69 : decode cX11_keep 69 = .ok (.getfield 21, 3) := by decide +kernel
theorem dX11_keep_72 : decode cX11_keep 72 = .ok (.iload_n 1, 1) := by decide +kernel
theorem dX11_keep_73 : decode cX11_keep 73 = .ok (.aaload, 1) := by decide +kernel
theorem dX11_keep_74 : decode cX11_keep 74 = .ok (.iconst 1, 1) := by decide +kernel
theorem dX11_keep_75 : decode cX11_keep 75 = .ok (.putfield 348, 3) := by decide +kernel
theorem dX11_keep_78 : decode cX11_keep 78 = .ok (.iconst 0, 1) := by decide +kernel
theorem dX11_keep_79 : decode cX11_keep 79 = .ok (.ireturn, 1) := by decide +kernel
theorem dX11_row_0 : decode cX11_row 0 = .ok (.iload_n 1, 1) := by decide +kernel
theorem dX11_row_1 : decode cX11_row 1 = .ok (.iconst 0, 1) := by decide +kernel
theorem dX11_row_2 : decode cX11_row 2 = .ok (.bipush 7, 2) := by decide +kernel
theorem dX11_row_4 : decode cX11_row 4 = .ok (.invokestatic 61, 3) := by decide +kernel
theorem dX11_row_7 : decode cX11_row 7 = .ok (.ifCond .eq 18, 3) := by decide +kernel
theorem dX11_row_10 : decode cX11_row 10 = .ok (.iload_n 2, 1) := by decide +kernel
theorem dX11_row_11 : decode cX11_row 11 = .ok (.iconst 0, 1) := by decide +kernel
theorem dX11_row_12 : decode cX11_row 12 = .ok (.iconst 2, 1) := by decide +kernel
theorem dX11_row_13 : decode cX11_row 13 = .ok (.invokestatic 61, 3) := by decide +kernel
theorem dX11_row_16 : decode cX11_row 16 = .ok (.ifCond .eq 9, 3) := by decide +kernel
theorem dX11_row_19 : decode cX11_row 19 = .ok (.iload_n 3, 1) := by decide +kernel
theorem dX11_row_20 : decode cX11_row 20 = .ok (.bipush 100, 2) := by decide +kernel
theorem dX11_row_22 : decode cX11_row 22 = .ok (.if_icmp .le 5, 3) := by decide +kernel
theorem dX11_row_25 : decode cX11_row 25 = .ok (.iconst (-1), 1) := by decide +kernel
theorem dX11_row_26 : decode cX11_row 26 = .ok (.ireturn, 1) := by decide +kernel
theorem dX11_row_27 : decode cX11_row 27 = .ok (.iload_n 3, 1) := by decide +kernel
theorem dX11_row_28 : decode cX11_row 28 = .ok (.ifCond .ge 6, 3) := by decide +kernel
theorem dX11_row_31 : decode cX11_row 31 = .ok (.bipush (-14), 2) := by decide +kernel
theorem dX11_row_33 : decode cX11_row 33 = .ok (.ireturn, 1) := by decide +kernel
theorem dX11_row_34 : decode cX11_row 34 = .ok (.aload_n 0, 1) := by decide +kernel
theorem dX11_row_35 : decode cX11_row 35 = .ok (.getfield 21, 3) := by decide +kernel
theorem dX11_row_38 : decode cX11_row 38 = .ok (.iload_n 1, 1) := by decide +kernel
theorem dX11_row_39 : decode cX11_row 39 = .ok (.aaload, 1) := by decide +kernel
theorem dX11_row_40 : decode cX11_row 40 = .ok (.getfield 141, 3) := by decide +kernel
theorem dX11_row_43 : decode cX11_row 43 = .ok (.iload_n 2, 1) := by decide +kernel
theorem dX11_row_44 : decode cX11_row 44 = .ok (.iload_n 3, 1) := by decide +kernel
theorem dX11_row_45 : decode cX11_row 45 = .ok (.invokevirtual 357, 3) := by decide +kernel
theorem dX11_row_48 : decode cX11_row 48 = .ok (.aload_n 0, 1) := by decide +kernel
theorem dX11_row_49 : decode cX11_row 49 = .ok (.getfield 21, 3) := by decide +kernel
theorem dX11_row_52 : decode cX11_row 52 = .ok (.iload_n 1, 1) := by decide +kernel
theorem dX11_row_53 : decode cX11_row 53 = .ok (.aaload, 1) := by decide +kernel
theorem dX11_row_54 : decode cX11_row 54 = .ok (.iconst 2, 1) := by decide +kernel
theorem dX11_row_55 : decode cX11_row 55 = .ok (.putfield 348, 3) := by decide +kernel
theorem dX11_row_58 : decode cX11_row 58 = .ok (.iconst 0, 1) := by decide +kernel
theorem dX11_row_59 : decode cX11_row 59 = .ok (.ireturn, 1) := by decide +kernel
theorem dX11_put_0 : decode cX11_put 0 = .ok (.aload_n 0, 1) := by decide +kernel
theorem dX11_put_1 : decode cX11_put 1 = .ok (.iload_n 1, 1) := by decide +kernel
theorem dX11_put_2 : decode cX11_put 2 = .ok (.iconst 2, 1) := by decide +kernel
theorem dX11_put_3 : decode cX11_put 3 = .ok (.invokevirtual 137, 3) := by decide +kernel
theorem dX11_put_6 : decode cX11_put 6 = .ok (.istore 4, 2) := by decide +kernel
theorem dX11_put_8 : decode cX11_put 8 = .ok (.iload 4, 2) := by decide +kernel
theorem dX11_put_10 : decode cX11_put 10 = .ok (.ifCond .eq 6, 3) := by decide +kernel
theorem dX11_put_13 : decode cX11_put 13 = .ok (.iload 4, 2) := by decide +kernel
theorem dX11_put_15 : decode cX11_put 15 = .ok (.ireturn, 1) := by decide +kernel
theorem dX11_put_16 : decode cX11_put 16 = .ok (.aload_n 0, 1) := by decide +kernel
theorem dX11_put_17 : decode cX11_put 17 = .ok (.getfield 21, 3) := by decide +kernel
theorem dX11_put_20 : decode cX11_put 20 = .ok (.iload_n 1, 1) := by decide +kernel
theorem dX11_put_21 : decode cX11_put 21 = .ok (.aaload, 1) := by decide +kernel
theorem dX11_put_22 : decode cX11_put 22 = .ok (.getfield 141, 3) := by decide +kernel
theorem dX11_put_25 : decode cX11_put 25 = .ok (.astore 5, 2) := by decide +kernel
theorem dX11_put_27 : decode cX11_put 27 = .ok (.iload_n 2, 1) := by decide +kernel
theorem dX11_put_28 : decode cX11_put 28 = .ok (.iconst 0, 1) := by decide +kernel
theorem dX11_put_29 : decode cX11_put 29 = .ok (.aload 5, 2) := by decide +kernel
theorem dX11_put_31 : decode cX11_put 31 = .ok (.getfield 145, 3) := by decide +kernel
theorem dX11_put_34 : decode cX11_put 34 = .ok (.iconst 1, 1) := by decide +kernel
theorem dX11_put_35 : decode cX11_put 35 = .ok (.isub, 1) := by decide +kernel
theorem dX11_put_36 : decode cX11_put 36 = .ok (.invokestatic 61, 3) := by decide +kernel
theorem dX11_put_39 : decode cX11_put 39 = .ok (.ifCond .ne 6, 3) := by decide +kernel
theorem dX11_put_42 : decode cX11_put 42 = .ok (.bipush (-13), 2) := by decide +kernel
theorem dX11_put_44 : decode cX11_put 44 = .ok (.ireturn, 1) := by decide +kernel
theorem dX11_put_45 : decode cX11_put 45 = .ok (.aload 5, 2) := by decide +kernel
theorem dX11_put_47 : decode cX11_put 47 = .ok (.getfield 154, 3) := by decide +kernel
theorem dX11_put_50 : decode cX11_put 50 = .ok (.iload_n 2, 1) := by decide +kernel
theorem dX11_put_51 : decode cX11_put 51 = .ok (.aload 5, 2) := by decide +kernel
theorem dX11_put_53 : decode cX11_put 53 = .ok (.iload_n 3, 1) := by decide +kernel
theorem dX11_put_54 : decode cX11_put 54 = .ok (.invokevirtual 360, 3) := by decide +kernel
theorem dX11_put_57 : decode cX11_put 57 = .ok (.iastore, 1) := by decide +kernel
theorem dX11_put_58 : decode cX11_put 58 = .ok (.iconst 0, 1) := by decide +kernel
theorem dX11_put_59 : decode cX11_put 59 = .ok (.ireturn, 1) := by decide +kernel
theorem dX11_element_0 : decode cX11_element 0 = .ok (.iload_n 1, 1) := by decide +kernel
theorem dX11_element_1 : decode cX11_element 1 = .ok (.iconst 0, 1) := by decide +kernel
theorem dX11_element_2 : decode cX11_element 2 = .ok (.bipush 7, 2) := by decide +kernel
theorem dX11_element_4 : decode cX11_element 4 = .ok (.invokestatic 61, 3) := by decide +kernel
theorem dX11_element_7 : decode cX11_element 7 = .ok (.ifCond .ne 14, 3) := by decide +kernel
theorem dX11_element_10 : decode cX11_element 10 = .ok (.new 363, 3) := by decide +kernel
theorem dX11_element_13 : decode cX11_element 13 = .ok (.dup, 1) := by decide +kernel
theorem dX11_element_14 : decode cX11_element 14 = .ok (.ldc_w 365, 3) := by decide +kernel
theorem dX11_element_17 : decode cX11_element 17 = .ok (.invokespecial 367, 3) := by decide +kernel
theorem dX11_element_20 : decode cX11_element 20 = .ok (.athrow, 1) := by decide +kernel
theorem dX11_element_21 : decode cX11_element 21 = .ok (.aload_n 0, 1) := by decide +kernel
theorem dX11_element_22 : decode cX11_element 22 = .ok (.getfield 21, 3) := by decide +kernel
theorem dX11_element_25 : decode cX11_element 25 = .ok (.iload_n 1, 1) := by decide +kernel
theorem dX11_element_26 : decode cX11_element 26 = .ok (.aaload, 1) := by decide +kernel
theorem dX11_element_27 : decode cX11_element 27 = .ok (.getfield 348, 3) := by decide +kernel
theorem dX11_element_30 : decode cX11_element 30 = .ok (.iconst 2, 1) := by decide +kernel
theorem dX11_element_31 : decode cX11_element 31 = .ok (.if_icmp .eq 14, 3) := by decide +kernel
theorem dX11_element_34 : decode cX11_element 34 = .ok (.new 370, 3) := by decide +kernel
theorem dX11_element_37 : decode cX11_element 37 = .ok (.dup, 1) := by decide +kernel
theorem dX11_element_38 : decode cX11_element 38 = .ok (.ldc_w 372, 3) := by decide +kernel
theorem dX11_element_41 : decode cX11_element 41 = .ok (.invokespecial 374, 3) := by decide +kernel
theorem dX11_element_44 : decode cX11_element 44 = .ok (.athrow, 1) := by decide +kernel
theorem dX11_element_45 : decode cX11_element 45 = .ok (.aload_n 0, 1) := by decide +kernel
theorem dX11_element_46 : decode cX11_element 46 = .ok (.getfield 21, 3) := by decide +kernel
theorem dX11_element_49 : decode cX11_element 49 = .ok (.iload_n 1, 1) := by decide +kernel
theorem dX11_element_50 : decode cX11_element 50 = .ok (.aaload, 1) := by decide +kernel
theorem dX11_element_51 : decode cX11_element 51 = .ok (.getfield 141, 3) := by decide +kernel
theorem dX11_element_54 : decode cX11_element 54 = .ok (.astore_n 3, 1) := by decide +kernel
theorem dX11_element_55 : decode cX11_element 55 = .ok (.iload_n 2, 1) := by decide +kernel
theorem dX11_element_56 : decode cX11_element 56 = .ok (.iconst 0, 1) := by decide +kernel
theorem dX11_element_57 : decode cX11_element 57 = .ok (.aload_n 3, 1) := by decide +kernel
theorem dX11_element_58 : decode cX11_element 58 = .ok (.getfield 145, 3) := by decide +kernel
theorem dX11_element_61 : decode cX11_element 61 = .ok (.iconst 1, 1) := by decide +kernel
theorem dX11_element_62 : decode cX11_element 62 = .ok (.isub, 1) := by decide +kernel
theorem dX11_element_63 : decode cX11_element 63 = .ok (.invokestatic 61, 3) := by decide +kernel
theorem dX11_element_66 : decode cX11_element 66 = .ok (.ifCond .ne 14, 3) := by decide +kernel
theorem dX11_element_69 : decode cX11_element 69 = .ok (.new 370, 3) := by decide +kernel
theorem dX11_element_72 : decode cX11_element 72 = .ok (.dup, 1) := by decide +kernel
theorem dX11_element_73 : decode cX11_element 73 = .ok (.ldc_w 375, 3) := by decide +kernel
theorem dX11_element_76 : decode cX11_element 76 = .ok (.invokespecial 374, 3) := by decide +kernel
theorem dX11_element_79 : decode cX11_element 79 = .ok (.athrow, 1) := by decide +kernel
theorem dX11_element_80 : decode cX11_element 80 = .ok (.aload_n 3, 1) := by decide +kernel
theorem dX11_element_81 : decode cX11_element 81 = .ok (.getfield 154, 3) := by decide +kernel
theorem dX11_element_84 : decode cX11_element 84 = .ok (.iload_n 2, 1) := by decide +kernel
theorem dX11_element_85 : decode cX11_element 85 = .ok (.iaload, 1) := by decide +kernel
theorem dX11_element_86 : decode cX11_element 86 = .ok (.i2l, 1) := by decide +kernel
theorem dX11_element_87 : decode cX11_element 87 = .ok (.lreturn, 1) := by decide +kernel
theorem dX11_copy_0 : decode cX11_copy 0 = .ok (.iload_n 1, 1) := by decide +kernel
theorem dX11_copy_1 : decode cX11_copy 1 = .ok (.iconst 0, 1) := by decide +kernel
theorem dX11_copy_2 : decode cX11_copy 2 = .ok (.bipush 7, 2) := by decide +kernel
theorem dX11_copy_4 : decode cX11_copy 4 = .ok (.invokestatic 61, 3) := by decide +kernel
theorem dX11_copy_7 : decode cX11_copy 7 = .ok (.ifCond .eq 13, 3) := by decide +kernel
theorem dX11_copy_10 : decode cX11_copy 10 = .ok (.iload_n 3, 1) := by decide +kernel
theorem dX11_copy_11 : decode cX11_copy 11 = .ok (.iconst 0, 1) := by decide +kernel
theorem dX11_copy_12 : decode cX11_copy 12 = .ok (.bipush 7, 2) := by decide +kernel
theorem dX11_copy_14 : decode cX11_copy 14 = .ok (.invokestatic 61, 3) := by decide +kernel
theorem dX11_copy_17 : decode cX11_copy 17 = .ok (.ifCond .ne 5, 3) := by decide +kernel
theorem dX11_copy_20 : decode cX11_copy 20 = .ok (.iconst (-1), 1) := by decide +kernel
theorem dX11_copy_21 : decode cX11_copy 21 = .ok (.ireturn, 1) := by decide +kernel
theorem dX11_copy_22 : decode cX11_copy 22 = .ok (.aload_n 0, 1) := by decide +kernel
theorem dX11_copy_23 : decode cX11_copy 23 = .ok (.getfield 21, 3) := by decide +kernel
theorem dX11_copy_26 : decode cX11_copy 26 = .ok (.iload_n 1, 1) := by decide +kernel
theorem dX11_copy_27 : decode cX11_copy 27 = .ok (.aaload, 1) := by decide +kernel
theorem dX11_copy_28 : decode cX11_copy 28 = .ok (.getfield 348, 3) := by decide +kernel
theorem dX11_copy_31 : decode cX11_copy 31 = .ok (.ifCond .eq 15, 3) := by decide +kernel
theorem dX11_copy_34 : decode cX11_copy 34 = .ok (.aload_n 0, 1) := by decide +kernel
theorem dX11_copy_35 : decode cX11_copy 35 = .ok (.getfield 21, 3) := by decide +kernel
theorem dX11_copy_38 : decode cX11_copy 38 = .ok (.iload_n 3, 1) := by decide +kernel
theorem dX11_copy_39 : decode cX11_copy 39 = .ok (.aaload, 1) := by decide +kernel
theorem dX11_copy_40 : decode cX11_copy 40 = .ok (.getfield 348, 3) := by decide +kernel
theorem dX11_copy_43 : decode cX11_copy 43 = .ok (.ifCond .ne 6, 3) := by decide +kernel
theorem dX11_copy_46 : decode cX11_copy 46 = .ok (.bipush (-11), 2) := by decide +kernel
theorem dX11_copy_48 : decode cX11_copy 48 = .ok (.ireturn, 1) := by decide +kernel
theorem dX11_copy_49 : decode cX11_copy 49 = .ok (.aload_n 0, 1) := by decide +kernel
theorem dX11_copy_50 : decode cX11_copy 50 = .ok (.getfield 21, 3) := by decide +kernel
theorem dX11_copy_53 : decode cX11_copy 53 = .ok (.iload_n 1, 1) := by decide +kernel
theorem dX11_copy_54 : decode cX11_copy 54 = .ok (.aaload, 1) := by decide +kernel
theorem dX11_copy_55 : decode cX11_copy 55 = .ok (.getfield 348, 3) := by decide +kernel
theorem dX11_copy_58 : decode cX11_copy 58 = .ok (.iconst 2, 1) := by decide +kernel
theorem dX11_copy_59 : decode cX11_copy 59 = .ok (.if_icmp .ne 16, 3) := by decide +kernel
theorem dX11_copy_62 : decode cX11_copy 62 = .ok (.aload_n 0, 1) := by decide +kernel
theorem dX11_copy_63 : decode cX11_copy 63 = .ok (.getfield 21, 3) := by decide +kernel
theorem dX11_copy_66 : decode cX11_copy 66 = .ok (.iload_n 3, 1) := by decide +kernel
theorem dX11_copy_67 : decode cX11_copy 67 = .ok (.aaload, 1) := by decide +kernel
theorem dX11_copy_68 : decode cX11_copy 68 = .ok (.getfield 348, 3) := by decide +kernel
theorem dX11_copy_71 : decode cX11_copy 71 = .ok (.iconst 2, 1) := by decide +kernel
theorem dX11_copy_72 : decode cX11_copy 72 = .ok (.if_icmp .eq 6, 3) := by decide +kernel
theorem dX11_copy_75 : decode cX11_copy 75 = .ok (.bipush (-12), 2) := by decide +kernel
theorem dX11_copy_77 : decode cX11_copy 77 = .ok (.ireturn, 1) := by decide +kernel
theorem dX11_copy_78 : decode cX11_copy 78 = .ok (.aload_n 0, 1) := by decide +kernel
theorem dX11_copy_79 : decode cX11_copy 79 = .ok (.getfield 21, 3) := by decide +kernel
theorem dX11_copy_82 : decode cX11_copy 82 = .ok (.iload_n 1, 1) := by decide +kernel
theorem dX11_copy_83 : decode cX11_copy 83 = .ok (.aaload, 1) := by decide +kernel
theorem dX11_copy_84 : decode cX11_copy 84 = .ok (.getfield 141, 3) := by decide +kernel
theorem dX11_copy_87 : decode cX11_copy 87 = .ok (.astore 6, 2) := by decide +kernel
theorem dX11_copy_89 : decode cX11_copy 89 = .ok (.aload_n 0, 1) := by decide +kernel
theorem dX11_copy_90 : decode cX11_copy 90 = .ok (.getfield 21, 3) := by decide +kernel
theorem dX11_copy_93 : decode cX11_copy 93 = .ok (.iload_n 3, 1) := by decide +kernel
theorem dX11_copy_94 : decode cX11_copy 94 = .ok (.aaload, 1) := by decide +kernel
theorem dX11_copy_95 : decode cX11_copy 95 = .ok (.getfield 141, 3) := by decide +kernel
theorem dX11_copy_98 : decode cX11_copy 98 = .ok (.astore 7, 2) := by decide +kernel
theorem dX11_copy_100 : decode cX11_copy 100 = .ok (.aload 6, 2) := by decide +kernel
theorem dX11_copy_102 : decode cX11_copy 102 = .ok (.getfield 377, 3) := by decide +kernel
theorem dX11_copy_105 : decode cX11_copy 105 = .ok (.aload 7, 2) := by decide +kernel
theorem dX11_copy_107 : decode cX11_copy 107 = .ok (.getfield 377, 3) := by decide +kernel
theorem dX11_copy_110 : decode cX11_copy 110 = .ok (.if_icmp .eq 6, 3) := by decide +kernel
theorem dX11_copy_113 : decode cX11_copy 113 = .ok (.bipush (-12), 2) := by decide +kernel
theorem dX11_copy_115 : decode cX11_copy 115 = .ok (.ireturn, 1) := by decide +kernel
theorem dX11_copy_116 : decode cX11_copy 116 = .ok (.iload 5, 2) := by decide +kernel
theorem dX11_copy_118 : decode cX11_copy 118 = .ok (.ifCond .lt 36, 3) := by decide +kernel
theorem dX11_copy_121 : decode cX11_copy 121 = .ok (.iload_n 2, 1) := by decide +kernel
theorem dX11_copy_122 : decode cX11_copy 122 = .ok (.iconst 0, 1) := by decide +kernel
theorem dX11_copy_123 : decode cX11_copy 123 = .ok (.aload 6, 2) := by decide +kernel
theorem dX11_copy_125 : decode cX11_copy 125 = .ok (.getfield 145, 3) := by decide +kernel
theorem dX11_copy_128 : decode cX11_copy 128 = .ok (.iload 5, 2) := by decide +kernel
theorem dX11_copy_130 : decode cX11_copy 130 = .ok (.isub, 1) := by decide +kernel
theorem dX11_copy_131 : decode cX11_copy 131 = .ok (.invokestatic 61, 3) := by decide +kernel
theorem dX11_copy_134 : decode cX11_copy 134 = .ok (.ifCond .eq 20, 3) := by decide +kernel
theorem dX11_copy_137 : decode cX11_copy 137 = .ok (.iload 4, 2) := by decide +kernel
theorem dX11_copy_139 : decode cX11_copy 139 = .ok (.iconst 0, 1) := by decide +kernel
theorem dX11_copy_140 : decode cX11_copy 140 = .ok (.aload 7, 2) := by decide +kernel
theorem dX11_copy_142 : decode cX11_copy 142 = .ok (.getfield 145, 3) := by decide +kernel
theorem dX11_copy_145 : decode cX11_copy 145 = .ok (.iload 5, 2) := by decide +kernel
theorem dX11_copy_147 : decode cX11_copy 147 = .ok (.isub, 1) := by decide +kernel
theorem dX11_copy_148 : decode cX11_copy 148 = .ok (.invokestatic 61, 3) := by decide +kernel
theorem dX11_copy_151 : decode cX11_copy 151 = .ok (.ifCond .ne 6, 3) := by decide +kernel
theorem dX11_copy_154 : decode cX11_copy 154 = .ok (.bipush (-13), 2) := by decide +kernel
theorem dX11_copy_156 : decode cX11_copy 156 = .ok (.ireturn, 1) := by decide +kernel
theorem dX11_copy_157 : decode cX11_copy 157 = .ok (.aload 6, 2) := by decide +kernel
theorem dX11_copy_159 : decode cX11_copy 159 = .ok (.getfield 154, 3) := by decide +kernel
theorem dX11_copy_162 : decode cX11_copy 162 = .ok (.iload_n 2, 1) := by decide +kernel
theorem dX11_copy_163 : decode cX11_copy 163 = .ok (.aload 7, 2) := by decide +kernel
theorem dX11_copy_165 : decode cX11_copy 165 = .ok (.getfield 154, 3) := by decide +kernel
theorem dX11_copy_168 : decode cX11_copy 168 = .ok (.iload 4, 2) := by decide +kernel
theorem dX11_copy_170 : decode cX11_copy 170 = .ok (.iload 5, 2) := by decide +kernel
theorem dX11_copy_172 : decode cX11_copy 172 = .ok (.invokestatic 380, 3) := by decide +kernel
theorem dX11_copy_175 : decode cX11_copy 175 = .ok (.iload 5, 2) := by decide +kernel
theorem dX11_copy_177 : decode cX11_copy 177 = .ok (.ireturn, 1) := by decide +kernel
theorem dX11_gives_0 : decode cX11_gives 0 = .ok (.aload_n 0, 1) := by decide +kernel
theorem dX11_gives_1 : decode cX11_gives 1 = .ok (.iload_n 1, 1) := by decide +kernel
theorem dX11_gives_2 : decode cX11_gives 2 = .ok (.iconst 1, 1) := by decide +kernel
theorem dX11_gives_3 : decode cX11_gives 3 = .ok (.invokevirtual 137, 3) := by decide +kernel
theorem dX11_gives_6 : decode cX11_gives 6 = .ok (.istore_n 2, 1) := by decide +kernel
theorem dX11_gives_7 : decode cX11_gives 7 = .ok (.iload_n 2, 1) := by decide +kernel
theorem dX11_gives_8 : decode cX11_gives 8 = .ok (.ifCond .eq 7, 3) := by decide +kernel
theorem dX11_gives_11 : decode cX11_gives 11 = .ok (.iload_n 2, 1) := by decide +kernel
theorem dX11_gives_12 : decode cX11_gives 12 = .ok (.goto 22, 3) := by decide +kernel
theorem dX11_gives_15 : decode cX11_gives 15 = .ok (.aload_n 0, 1) := by decide +kernel
theorem dX11_gives_16 : decode cX11_gives 16 = .ok (.getfield 21, 3) := by decide +kernel
theorem dX11_gives_19 : decode cX11_gives 19 = .ok (.iload_n 1, 1) := by decide +kernel
theorem dX11_gives_20 : decode cX11_gives 20 = .ok (.aaload, 1) := by decide +kernel
theorem dX11_gives_21 : decode cX11_gives 21 = .ok (.getfield 351, 3) := by decide +kernel
theorem dX11_gives_24 : decode cX11_gives 24 = .ok (.aload_n 0, 1) := by decide +kernel
theorem dX11_gives_25 : decode cX11_gives 25 = .ok (.getfield 10, 3) := by decide +kernel
theorem dX11_gives_28 : decode cX11_gives 28 = .ok (.getfield 98, 3) := by decide +kernel
theorem dX11_gives_31 : decode cX11_gives 31 = .ok (.invokevirtual 101, 3) := by decide +kernel
theorem dX11_gives_34 : decode cX11_gives 34 = .ok (.ireturn, 1) := by decide +kernel
theorem dX11_toss_0 : decode cX11_toss 0 = .ok (.aload_n 0, 1) := by decide +kernel
theorem dX11_toss_1 : decode cX11_toss 1 = .ok (.iload_n 1, 1) := by decide +kernel
theorem dX11_toss_2 : decode cX11_toss 2 = .ok (.iconst 1, 1) := by decide +kernel
theorem dX11_toss_3 : decode cX11_toss 3 = .ok (.invokevirtual 137, 3) := by decide +kernel
theorem dX11_toss_6 : decode cX11_toss 6 = .ok (.istore_n 2, 1) := by decide +kernel
theorem dX11_toss_7 : decode cX11_toss 7 = .ok (.iload_n 2, 1) := by decide +kernel
theorem dX11_toss_8 : decode cX11_toss 8 = .ok (.ifCond .eq 5, 3) := by decide +kernel
theorem dX11_toss_11 : decode cX11_toss 11 = .ok (.iload_n 2, 1) := by decide +kernel
theorem dX11_toss_12 : decode cX11_toss 12 = .ok (.ireturn, 1) := by decide +kernel
theorem dX11_toss_13 : decode cX11_toss 13 = .ok (.aload_n 0, 1) := by decide +kernel
theorem dX11_toss_14 : decode cX11_toss 14 = .ok (.getfield 21, 3) := by decide +kernel
theorem dX11_toss_17 : decode cX11_toss 17 = .ok (.iload_n 1, 1) := by decide +kernel
theorem dX11_toss_18 : decode cX11_toss 18 = .ok (.aaload, 1) := by decide +kernel
theorem dX11_toss_19 : decode cX11_toss 19 = .ok (.getfield 351, 3) := by decide +kernel
theorem dX11_toss_22 : decode cX11_toss 22 = .ok (.astore_n 3, 1) := by decide +kernel
theorem dX11_toss_23 : decode cX11_toss 23 = .ok (.aload_n 3, 1) := by decide +kernel
theorem dX11_toss_24 : decode cX11_toss 24 = .ok (.invokevirtual 386, 3) := by decide +kernel
theorem dX11_toss_27 : decode cX11_toss 27 = .ok (.goto 31, 3) := by decide +kernel
theorem dX11_toss_30 : decode cX11_toss 30 = .ok (.astore 4, 2) := by decide +kernel
theorem dX11_toss_32 : decode cX11_toss 32 = .ok (.sipush 200, 3) := by decide +kernel
theorem dX11_toss_35 : decode cX11_toss 35 = .ok (.aload_n 3, 1) := by decide +kernel
theorem dX11_toss_36 : decode cX11_toss 36 = .ok (.getfield 87, 3) := by decide +kernel
theorem dX11_toss_39 : decode cX11_toss 39 = .ok (.iadd, 1) := by decide +kernel
theorem dX11_toss_40 : decode cX11_toss 40 = .ok (.ireturn, 1) := by decide +kernel
theorem dX11_toss_41 : decode cX11_toss 41 = .ok (.astore 4, 2) := by decide +kernel
theorem dX11_toss_43 : decode cX11_toss 43 = .ok (.bipush 100, 2) := by decide +kernel
theorem dX11_toss_45 : decode cX11_toss 45 = .ok (.aload_n 3, 1) := by decide +kernel
theorem dX11_toss_46 : decode cX11_toss 46 = .ok (.getfield 73, 3) := by decide +kernel
theorem dX11_toss_49 : decode cX11_toss 49 = .ok (.iadd, 1) := by decide +kernel
theorem dX11_toss_50 : decode cX11_toss 50 = .ok (.ireturn, 1) := by decide +kernel
theorem dX11_toss_51 : decode cX11_toss 51 = .ok (.astore 4, 2) := by decide +kernel
theorem dX11_toss_53 : decode cX11_toss 53 = .ok (.aload_n 3, 1) := by decide +kernel
theorem dX11_toss_54 : decode cX11_toss 54 = .ok (.getfield 73, 3) := by decide +kernel
theorem dX11_toss_57 : decode cX11_toss 57 = .ok (.ireturn, 1) := by decide +kernel
theorem dX11_toss_58 : decode cX11_toss 58 = .ok (.bipush (-15), 2) := by decide +kernel
theorem dX11_toss_60 : decode cX11_toss 60 = .ok (.ireturn, 1) := by decide +kernel
theorem dX11_shelfRefusal_0 : decode cX11_shelfRefusal 0 = .ok (.iload_n 1, 1) := by decide +kernel
theorem dX11_shelfRefusal_1 : decode cX11_shelfRefusal 1 = .ok (.iconst 0, 1) := by decide +kernel
theorem dX11_shelfRefusal_2 : decode cX11_shelfRefusal 2 = .ok (.bipush 7, 2) := by decide +kernel
theorem dX11_shelfRefusal_4 : decode cX11_shelfRefusal 4 = .ok (.invokestatic 61, 3) := by decide +kernel
theorem dX11_shelfRefusal_7 : decode cX11_shelfRefusal 7 = .ok (.ifCond .ne 5, 3) := by decide +kernel
theorem dX11_shelfRefusal_10 : decode cX11_shelfRefusal 10 = .ok (.iconst (-1), 1) := by decide +kernel
theorem dX11_shelfRefusal_11 : decode cX11_shelfRefusal 11 = .ok (.ireturn, 1) := by decide +kernel
theorem dX11_shelfRefusal_12 : decode cX11_shelfRefusal 12 = .ok (.aload_n 0, 1) := by decide +kernel
theorem dX11_shelfRefusal_13 : decode cX11_shelfRefusal 13 = .ok (.getfield 21, 3) := by decide +kernel
theorem dX11_shelfRefusal_16 : decode cX11_shelfRefusal 16 = .ok (.iload_n 1, 1) := by decide +kernel
theorem dX11_shelfRefusal_17 : decode cX11_shelfRefusal 17 = .ok (.aaload, 1) := by decide +kernel
theorem dX11_shelfRefusal_18 : decode cX11_shelfRefusal 18 = .ok (.getfield 348, 3) := by decide +kernel
theorem dX11_shelfRefusal_21 : decode cX11_shelfRefusal 21 = .ok (.ifCond .ne 6, 3) := by decide +kernel
theorem dX11_shelfRefusal_24 : decode cX11_shelfRefusal 24 = .ok (.bipush (-11), 2) := by decide +kernel
theorem dX11_shelfRefusal_26 : decode cX11_shelfRefusal 26 = .ok (.ireturn, 1) := by decide +kernel
theorem dX11_shelfRefusal_27 : decode cX11_shelfRefusal 27 = .ok (.aload_n 0, 1) := by decide +kernel
theorem dX11_shelfRefusal_28 : decode cX11_shelfRefusal 28 = .ok (.getfield 21, 3) := by decide +kernel
theorem dX11_shelfRefusal_31 : decode cX11_shelfRefusal 31 = .ok (.iload_n 1, 1) := by decide +kernel
theorem dX11_shelfRefusal_32 : decode cX11_shelfRefusal 32 = .ok (.aaload, 1) := by decide +kernel
theorem dX11_shelfRefusal_33 : decode cX11_shelfRefusal 33 = .ok (.getfield 348, 3) := by decide +kernel
theorem dX11_shelfRefusal_36 : decode cX11_shelfRefusal 36 = .ok (.iload_n 2, 1) := by decide +kernel
theorem dX11_shelfRefusal_37 : decode cX11_shelfRefusal 37 = .ok (.if_icmp .ne 7, 3) := by decide +kernel
theorem dX11_shelfRefusal_40 : decode cX11_shelfRefusal 40 = .ok (.iconst 0, 1) := by decide +kernel
theorem dX11_shelfRefusal_41 : decode cX11_shelfRefusal 41 = .ok (.goto 5, 3) := by decide +kernel
theorem dX11_shelfRefusal_44 : decode cX11_shelfRefusal 44 = .ok (.bipush (-12), 2) := by decide +kernel
theorem dX11_shelfRefusal_46 : decode cX11_shelfRefusal 46 = .ok (.ireturn, 1) := by decide +kernel
theorem dX11_textRefusal_0 : decode cX11_textRefusal 0 = .ok (.aload_n 0, 1) := by decide +kernel
theorem dX11_textRefusal_1 : decode cX11_textRefusal 1 = .ok (.iload_n 1, 1) := by decide +kernel
theorem dX11_textRefusal_2 : decode cX11_textRefusal 2 = .ok (.iconst 2, 1) := by decide +kernel
theorem dX11_textRefusal_3 : decode cX11_textRefusal 3 = .ok (.invokevirtual 137, 3) := by decide +kernel
theorem dX11_textRefusal_6 : decode cX11_textRefusal 6 = .ok (.istore_n 2, 1) := by decide +kernel
theorem dX11_textRefusal_7 : decode cX11_textRefusal 7 = .ok (.iload_n 2, 1) := by decide +kernel
theorem dX11_textRefusal_8 : decode cX11_textRefusal 8 = .ok (.ifCond .eq 5, 3) := by decide +kernel
theorem dX11_textRefusal_11 : decode cX11_textRefusal 11 = .ok (.iload_n 2, 1) := by decide +kernel
theorem dX11_textRefusal_12 : decode cX11_textRefusal 12 = .ok (.ireturn, 1) := by decide +kernel
theorem dX11_textRefusal_13 : decode cX11_textRefusal 13 = .ok (.aload_n 0, 1) := by decide +kernel
theorem dX11_textRefusal_14 : decode cX11_textRefusal 14 = .ok (.getfield 21, 3) := by decide +kernel
theorem dX11_textRefusal_17 : decode cX11_textRefusal 17 = .ok (.iload_n 1, 1) := by decide +kernel
theorem dX11_textRefusal_18 : decode cX11_textRefusal 18 = .ok (.aaload, 1) := by decide +kernel
theorem dX11_textRefusal_19 : decode cX11_textRefusal 19 = .ok (.getfield 141, 3) := by decide +kernel
theorem dX11_textRefusal_22 : decode cX11_textRefusal 22 = .ok (.getfield 377, 3) := by decide +kernel
theorem dX11_textRefusal_25 : decode cX11_textRefusal 25 = .ok (.ifCond .ne 7, 3) := by decide +kernel
theorem dX11_textRefusal_28 : decode cX11_textRefusal 28 = .ok (.iconst 0, 1) := by decide +kernel
theorem dX11_textRefusal_29 : decode cX11_textRefusal 29 = .ok (.goto 5, 3) := by decide +kernel
theorem dX11_textRefusal_32 : decode cX11_textRefusal 32 = .ok (.bipush (-12), 2) := by decide +kernel
theorem dX11_textRefusal_34 : decode cX11_textRefusal 34 = .ok (.ireturn, 1) := by decide +kernel
theorem dX11_within_0 : decode cX11_within 0 = .ok (.iload_n 0, 1) := by decide +kernel
theorem dX11_within_1 : decode cX11_within 1 = .ok (.iload_n 1, 1) := by decide +kernel
theorem dX11_within_2 : decode cX11_within 2 = .ok (.if_icmp .lt 12, 3) := by decide +kernel
theorem dX11_within_5 : decode cX11_within 5 = .ok (.iload_n 0, 1) := by decide +kernel
theorem dX11_within_6 : decode cX11_within 6 = .ok (.iload_n 2, 1) := by decide +kernel
theorem dX11_within_7 : decode cX11_within 7 = .ok (.if_icmp .gt 7, 3) := by decide +kernel
theorem dX11_within_10 : decode cX11_within 10 = .ok (.iconst 1, 1) := by decide +kernel
theorem dX11_within_11 : decode cX11_within 11 = .ok (.goto 4, 3) := by decide +kernel
theorem dX11_within_14 : decode cX11_within 14 = .ok (.iconst 0, 1) := by decide +kernel
theorem dX11_within_15 : decode cX11_within 15 = .ok (.ireturn, 1) := by decide +kernel
theorem dX11_isIn_0 : decode cX11_isIn 0 = .ok (.iload_n 0, 1) := by decide +kernel
theorem dX11_isIn_1 : decode cX11_isIn 1 = .ok (.iload_n 1, 1) := by decide +kernel
theorem dX11_isIn_2 : decode cX11_isIn 2 = .ok (.ishr, 1) := by decide +kernel
theorem dX11_isIn_3 : decode cX11_isIn 3 = .ok (.iconst 1, 1) := by decide +kernel
theorem dX11_isIn_4 : decode cX11_isIn 4 = .ok (.iand, 1) := by decide +kernel
theorem dX11_isIn_5 : decode cX11_isIn 5 = .ok (.ifCond .eq 7, 3) := by decide +kernel
theorem dX11_isIn_8 : decode cX11_isIn 8 = .ok (.iconst 1, 1) := by decide +kernel
theorem dX11_isIn_9 : decode cX11_isIn 9 = .ok (.goto 4, 3) := by decide +kernel
theorem dX11_isIn_12 : decode cX11_isIn 12 = .ok (.iconst 0, 1) := by decide +kernel
theorem dX11_isIn_13 : decode cX11_isIn 13 = .ok (.ireturn, 1) := by decide +kernel
end
section
theorem dX12_init_0 : decode cX12_init 0 = .ok (.aload_n 0, 1) := by decide +kernel
theorem dX12_init_1 : decode cX12_init 1 = .ok (.invokespecial 1, 3) := by decide +kernel
theorem dX12_init_4 : decode cX12_init 4 = .ok (.aload_n 0, 1) := by decide +kernel
theorem dX12_init_5 : decode cX12_init 5 = .ok (.sipush 434, 3) := by decide +kernel
theorem dX12_init_8 : decode cX12_init 8 = .ok (.newarray .int, 2) := by decide +kernel
theorem dX12_init_10 : decode cX12_init 10 = .ok (.putfield 9, 3) := by decide +kernel
theorem dX12_init_13 : decode cX12_init 13 = .ok (.aload_n 0, 1) := by decide +kernel
theorem dX12_init_14 : decode cX12_init 14 = .ok (.sipush 434, 3) := by decide +kernel
theorem dX12_init_17 : decode cX12_init 17 = .ok (.newarray .int, 2) := by decide +kernel
theorem dX12_init_19 : decode cX12_init 19 = .ok (.putfield 13, 3) := by decide +kernel
theorem dX12_init_22 : decode cX12_init 22 = .ok (.aload_n 0, 1) := by decide +kernel
theorem dX12_init_23 : decode cX12_init 23 = .ok (.bipush 20, 2) := by decide +kernel
theorem dX12_init_25 : decode cX12_init 25 = .ok (.newarray .long, 2) := by decide +kernel
theorem dX12_init_27 : decode cX12_init 27 = .ok (.putfield 16, 3) := by decide +kernel
theorem dX12_init_30 : decode cX12_init 30 = .ok (.aload_n 0, 1) := by decide +kernel
theorem dX12_init_31 : decode cX12_init 31 = .ok (.bipush 20, 2) := by decide +kernel
theorem dX12_init_33 : decode cX12_init 33 = .ok (.newarray .long, 2) := by decide +kernel
theorem dX12_init_35 : decode cX12_init 35 = .ok (.putfield 20, 3) := by decide +kernel
theorem dX12_init_38 : decode cX12_init 38 = .ok (.aload_n 0, 1) := by decide +kernel
theorem dX12_init_39 : decode cX12_init 39 = .ok (.bipush 8, 2) := by decide +kernel
theorem dX12_init_41 : decode cX12_init 41 = .ok (.newarray .int, 2) := by decide +kernel
theorem dX12_init_43 : decode cX12_init 43 = .ok (.putfield 23, 3) := by decide +kernel
theorem dX12_init_46 : decode cX12_init 46 = .ok (.aload_n 0, 1) := by decide +kernel
theorem dX12_init_47 : decode cX12_init 47 = .ok (.bipush 8, 2) := by decide +kernel
theorem dX12_init_49 : decode cX12_init 49 = .ok (.newarray .int, 2) := by decide +kernel
theorem dX12_init_51 : decode cX12_init 51 = .ok (.putfield 26, 3) := by decide +kernel
theorem dX12_init_54 : decode cX12_init 54 = .ok (.aload_n 0, 1) := by decide +kernel
theorem dX12_init_55 : decode cX12_init 55 = .ok (.bipush 8, 2) := by decide +kernel
theorem dX12_init_57 : decode cX12_init 57 = .ok (.newarray .int, 2) := by decide +kernel
theorem dX12_init_59 : decode cX12_init 59 = .ok (.putfield 29, 3) := by decide +kernel
theorem dX12_init_62 : decode cX12_init 62 = .ok (.aload_n 0, 1) := by decide +kernel
theorem dX12_init_63 : decode cX12_init 63 = .ok (.sipush 800, 3) := by decide +kernel
theorem dX12_init_66 : decode cX12_init 66 = .ok (.newarray .int, 2) := by decide +kernel
theorem dX12_init_68 : decode cX12_init 68 = .ok (.putfield 32, 3) := by decide +kernel
theorem dX12_init_71 : decode cX12_init 71 = .ok (.aload_n 0, 1) := by decide +kernel
theorem dX12_init_72 : decode cX12_init 72 = .ok (.bipush 40, 2) := by decide +kernel
theorem dX12_init_74 : decode cX12_init 74 = .ok (.newarray .int, 2) := by decide +kernel
theorem dX12_init_76 : decode cX12_init 76 = .ok (.putfield 35, 3) := by decide +kernel
theorem dX12_init_79 : decode cX12_init 79 = .ok (.aload_n 0, 1) := by decide +kernel
theorem dX12_init_80 : decode cX12_init 80 = .ok (.bipush 8, 2) := by decide +kernel
theorem dX12_init_82 : decode cX12_init 82 = .ok (.newarray .int, 2) := by decide +kernel
theorem dX12_init_84 : decode cX12_init 84 = .ok (.putfield 38, 3) := by decide +kernel
theorem dX12_init_87 : decode cX12_init 87 = .ok (.aload_n 0, 1) := by decide +kernel
theorem dX12_init_88 : decode cX12_init 88 = .ok (.iconst 4, 1) := by decide +kernel
theorem dX12_init_89 : decode cX12_init 89 = .ok (.newarray .int, 2) := by decide +kernel
theorem dX12_init_91 : decode cX12_init 91 = .ok (.putfield 41, 3) := by decide +kernel
theorem dX12_init_94 : decode cX12_init 94 = .ok (.aload_n 0, 1) := by decide +kernel
theorem dX12_init_95 : decode cX12_init 95 = .ok (.sipush 400, 3) := by decide +kernel
theorem dX12_init_98 : decode cX12_init 98 = .ok (.newarray .int, 2) := by decide +kernel
theorem dX12_init_100 : decode cX12_init 100 = .ok (.putfield 44, 3) := by decide +kernel
theorem dX12_init_103 : decode cX12_init 103 = .ok (.aload_n 0, 1) := by decide +kernel
theorem dX12_init_104 : decode cX12_init 104 = .ok (.aload_n 0, 1) := by decide +kernel
theorem dX12_init_105 : decode cX12_init 105 = .ok (.getfield 32, 3) := by decide +kernel
theorem dX12_init_108 : decode cX12_init 108 = .ok (.putfield 47, 3) := by decide +kernel
theorem dX12_init_111 : decode cX12_init 111 = .ok (.aload_n 0, 1) := by decide +kernel
theorem dX12_init_112 : decode cX12_init 112 = .ok (.bipush 12, 2) := by decide +kernel
theorem dX12_init_114 : decode cX12_init 114 = .ok (.newarray .int, 2) := by decide +kernel
theorem dX12_init_116 : decode cX12_init 116 = .ok (.putfield 50, 3) := by decide +kernel
theorem dX12_init_119 : decode cX12_init 119 = .ok (.iconst 0, 1) := by decide +kernel
theorem dX12_init_120 : decode cX12_init 120 = .ok (.istore_n 1, 1) := by decide +kernel
theorem dX12_init_121 : decode cX12_init 121 = .ok (.iload_n 1, 1) := by decide +kernel
theorem dX12_init_122 : decode cX12_init 122 = .ok (.bipush 8, 2) := by decide +kernel
theorem dX12_init_124 : decode cX12_init 124 = .ok (.if_icmp .ge 37, 3) := by decide +kernel
theorem dX12_init_127 : decode cX12_init 127 = .ok (.aload_n 0, 1) := by decide +kernel
theorem dX12_init_128 : decode cX12_init 128 = .ok (.getfield 9, 3) := by decide +kernel
theorem dX12_init_131 : decode cX12_init 131 = .ok (.bipush 70, 2) := by decide +kernel
theorem dX12_init_133 : decode cX12_init 133 = .ok (.iconst 3, 1) := by decide +kernel
theorem dX12_init_134 : decode cX12_init 134 = .ok (.iload_n 1, 1) := by decide +kernel
theorem dX12_init_135 : decode cX12_init 135 = .ok (.imul, 1) := by decide +kernel
theorem dX12_init_136 : decode cX12_init 136 = .ok (.iadd, 1) := by decide +kernel
theorem dX12_init_137 : decode cX12_init 137 = .ok (.bipush 100, 2) := by decide +kernel
theorem dX12_init_139 : decode cX12_init 139 = .ok (.iastore, 1) := by decide +kernel
theorem dX12_init_140 : decode cX12_init 140 = .ok (.aload_n 0, 1) := by decide +kernel
theorem dX12_init_141 : decode cX12_init 141 = .ok (.getfield 9, 3) := by decide +kernel
theorem dX12_init_144 : decode cX12_init 144 = .ok (.bipush 70, 2) := by decide +kernel
theorem dX12_init_146 : decode cX12_init 146 = .ok (.iconst 3, 1) := by decide +kernel
theorem dX12_init_147 : decode cX12_init 147 = .ok (.iload_n 1, 1) := by decide +kernel
theorem dX12_init_148 : decode cX12_init 148 = .ok (.imul, 1) := by decide +kernel
theorem dX12_init_149 : decode cX12_init 149 = .ok (.iadd, 1) := by decide +kernel
theorem dX12_init_150 : decode cX12_init 150 = .ok (.iconst 1, 1) := by decide +kernel
theorem dX12_init_151 : decode cX12_init 151 = .ok (.iadd, 1) := by decide +kernel
theorem dX12_init_152 : decode cX12_init 152 = .ok (.bipush 100, 2) := by decide +kernel
theorem dX12_init_154 : decode cX12_init 154 = .ok (.iastore, 1) := by decide +kernel
theorem dX12_init_155 : decode cX12_init 155 = .ok (.iinc 1 1, 3) := by decide +kernel
theorem dX12_init_158 : decode cX12_init 158 = .ok (.goto (-37), 3) := by decide +kernel
theorem dX12_init_161 : decode cX12_init 161 = .ok (.aload_n 0, 1) := by decide +kernel
theorem dX12_init_162 : decode cX12_init 162 = .ok (.getfield 9, 3) := by decide +kernel
theorem dX12_init_165 : decode cX12_init 165 = .ok (.iconst 5, 1) := by decide +kernel
theorem dX12_init_166 : decode cX12_init 166 = .ok (.iconst 1, 1) := by decide +kernel
theorem dX12_init_167 : decode cX12_init 167 = .ok (.iastore, 1) := by decide +kernel
theorem dX12_init_168 : decode cX12_init 168 = .ok (.aload_n 0, 1) := by decide +kernel
theorem dX12_init_169 : decode cX12_init 169 = .ok (.getfield 9, 3) := by decide +kernel
theorem dX12_init_172 : decode cX12_init 172 = .ok (.sipush 334, 3) := by decide +kernel
theorem dX12_init_175 : decode cX12_init 175 = .ok (.bipush 103, 2) := by decide +kernel
theorem dX12_init_177 : decode cX12_init 177 = .ok (.iastore, 1) := by decide +kernel
theorem dX12_init_178 : decode cX12_init 178 = .ok (.return_, 1) := by decide +kernel
theorem dX12_thrown_0 : decode cX12_thrown 0 = .ok (.aload_n 0, 1) := by decide +kernel
theorem dX12_thrown_1 : decode cX12_thrown 1 = .ok (.getfield 53, 3) := by decide +kernel
theorem dX12_thrown_4 : decode cX12_thrown 4 = .ok (.ireturn, 1) := by decide +kernel
theorem dX12_isIn_0 : decode cX12_isIn 0 = .ok (.lload_n 0, 1) := by decide +kernel
theorem dX12_isIn_1 : decode cX12_isIn 1 = .ok (.lload_n 2, 1) := by decide +kernel
theorem dX12_isIn_2 : decode cX12_isIn 2 = .ok (.lcmp, 1) := by decide +kernel
theorem dX12_isIn_3 : decode cX12_isIn 3 = .ok (.ifCond .lt 14, 3) := by decide +kernel
theorem dX12_isIn_6 : decode cX12_isIn 6 = .ok (.lload_n 0, 1) := by decide +kernel
theorem dX12_isIn_7 : decode cX12_isIn 7 = .ok (.lload 4, 2) := by decide +kernel
theorem dX12_isIn_9 : decode cX12_isIn 9 = .ok (.lcmp, 1) := by decide +kernel
theorem dX12_isIn_10 : decode cX12_isIn 10 = .ok (.ifCond .gt 7, 3) := by decide +kernel
theorem dX12_isIn_13 : decode cX12_isIn 13 = .ok (.iconst 1, 1) := by decide +kernel
theorem dX12_isIn_14 : decode cX12_isIn 14 = .ok (.goto 4, 3) := by decide +kernel
theorem dX12_isIn_17 : decode cX12_isIn 17 = .ok (.iconst 0, 1) := by decide +kernel
theorem dX12_isIn_18 : decode cX12_isIn 18 = .ok (.ireturn, 1) := by decide +kernel
theorem dX12_isLight_0 : decode cX12_isLight 0 = .ok (.iload_n 1, 1) := by decide +kernel
theorem dX12_isLight_1 : decode cX12_isLight 1 = .ok (.i2l, 1) := by decide +kernel
theorem dX12_isLight_2 : decode cX12_isLight 2 = .ok (.lconst 0, 1) := by decide +kernel
theorem dX12_isLight_3 : decode cX12_isLight 3 = .ok (.aload_n 0, 1) := by decide +kernel
theorem dX12_isLight_4 : decode cX12_isLight 4 = .ok (.getfield 9, 3) := by decide +kernel
theorem dX12_isLight_7 : decode cX12_isLight 7 = .ok (.iconst 1, 1) := by decide +kernel
theorem dX12_isLight_8 : decode cX12_isLight 8 = .ok (.iaload, 1) := by decide +kernel
theorem dX12_isLight_9 : decode cX12_isLight 9 = .ok (.iconst 1, 1) := by decide +kernel
theorem dX12_isLight_10 : decode cX12_isLight 10 = .ok (.isub, 1) := by decide +kernel
theorem dX12_isLight_11 : decode cX12_isLight 11 = .ok (.i2l, 1) := by decide +kernel
theorem dX12_isLight_12 : decode cX12_isLight 12 = .ok (.invokestatic 57, 3) := by decide +kernel
theorem dX12_isLight_15 : decode cX12_isLight 15 = .ok (.ireturn, 1) := by decide +kernel
theorem dX12_isPair_0 : decode cX12_isPair 0 = .ok (.aload_n 0, 1) := by decide +kernel
theorem dX12_isPair_1 : decode cX12_isPair 1 = .ok (.iload_n 1, 1) := by decide +kernel
theorem dX12_isPair_2 : decode cX12_isPair 2 = .ok (.invokevirtual 61, 3) := by decide +kernel
theorem dX12_isPair_5 : decode cX12_isPair 5 = .ok (.ifCond .eq 20, 3) := by decide +kernel
theorem dX12_isPair_8 : decode cX12_isPair 8 = .ok (.aload_n 0, 1) := by decide +kernel
theorem dX12_isPair_9 : decode cX12_isPair 9 = .ok (.iload_n 2, 1) := by decide +kernel
theorem dX12_isPair_10 : decode cX12_isPair 10 = .ok (.invokevirtual 61, 3) := by decide +kernel
theorem dX12_isPair_13 : decode cX12_isPair 13 = .ok (.ifCond .eq 12, 3) := by decide +kernel
theorem dX12_isPair_16 : decode cX12_isPair 16 = .ok (.iload_n 1, 1) := by decide +kernel
theorem dX12_isPair_17 : decode cX12_isPair 17 = .ok (.iload_n 2, 1) := by decide +kernel
theorem dX12_isPair_18 : decode cX12_isPair 18 = .ok (.if_icmp .eq 7, 3) := by decide +kernel
theorem dX12_isPair_21 : decode cX12_isPair 21 = .ok (.iconst 1, 1) := by decide +kernel
theorem dX12_isPair_22 : decode cX12_isPair 22 = .ok (.goto 4, 3) := by decide +kernel
theorem dX12_isPair_25 : decode cX12_isPair 25 = .ok (.iconst 0, 1) := by decide +kernel
theorem dX12_isPair_26 : decode cX12_isPair 26 = .ok (.ireturn, 1) := by decide +kernel
theorem dX12_isEye_0 : decode cX12_isEye 0 = .ok (.iload_n 0, 1) := by decide +kernel
theorem dX12_isEye_1 : decode cX12_isEye 1 = .ok (.i2l, 1) := by decide +kernel
theorem dX12_isEye_2 : decode cX12_isEye 2 = .ok (.lconst 0, 1) := by decide +kernel
theorem dX12_isEye_3 : decode cX12_isEye 3 = .ok (.ldc2_w 65, 3) := by decide +kernel
theorem dX12_isEye_6 : decode cX12_isEye 6 = .ok (.invokestatic 57, 3) := by decide +kernel
theorem dX12_isEye_9 : decode cX12_isEye 9 = .ok (.ireturn, 1) := by decide +kernel
theorem dX12_isDim_0 : decode cX12_isDim 0 = .ok (.iload_n 0, 1) := by decide +kernel
theorem dX12_isDim_1 : decode cX12_isDim 1 = .ok (.i2l, 1) := by decide +kernel
theorem dX12_isDim_2 : decode cX12_isDim 2 = .ok (.lconst 0, 1) := by decide +kernel
theorem dX12_isDim_3 : decode cX12_isDim 3 = .ok (.ldc2_w 67, 3) := by decide +kernel
theorem dX12_isDim_6 : decode cX12_isDim 6 = .ok (.invokestatic 57, 3) := by decide +kernel
theorem dX12_isDim_9 : decode cX12_isDim 9 = .ok (.ireturn, 1) := by decide +kernel
theorem dX12_isShelf_0 : decode cX12_isShelf 0 = .ok (.iload_n 0, 1) := by decide +kernel
theorem dX12_isShelf_1 : decode cX12_isShelf 1 = .ok (.i2l, 1) := by decide +kernel
theorem dX12_isShelf_2 : decode cX12_isShelf 2 = .ok (.lconst 0, 1) := by decide +kernel
theorem dX12_isShelf_3 : decode cX12_isShelf 3 = .ok (.ldc2_w 65, 3) := by decide +kernel
theorem dX12_isShelf_6 : decode cX12_isShelf 6 = .ok (.invokestatic 57, 3) := by decide +kernel
theorem dX12_isShelf_9 : decode cX12_isShelf 9 = .ok (.ireturn, 1) := by decide +kernel
theorem dX12_get_0 : decode cX12_get 0 = .ok (.aload_n 0, 1) := by decide +kernel
theorem dX12_get_1 : decode cX12_get 1 = .ok (.getfield 9, 3) := by decide +kernel
theorem dX12_get_4 : decode cX12_get 4 = .ok (.bipush 10, 2) := by decide +kernel
theorem dX12_get_6 : decode cX12_get 6 = .ok (.iconst 5, 1) := by decide +kernel
theorem dX12_get_7 : decode cX12_get 7 = .ok (.iload_n 1, 1) := by decide +kernel
theorem dX12_get_8 : decode cX12_get 8 = .ok (.imul, 1) := by decide +kernel
theorem dX12_get_9 : decode cX12_get 9 = .ok (.iadd, 1) := by decide +kernel
theorem dX12_get_10 : decode cX12_get 10 = .ok (.iload_n 2, 1) := by decide +kernel
theorem dX12_get_11 : decode cX12_get 11 = .ok (.iadd, 1) := by decide +kernel
theorem dX12_get_12 : decode cX12_get 12 = .ok (.iaload, 1) := by decide +kernel
theorem dX12_get_13 : decode cX12_get 13 = .ok (.ireturn, 1) := by decide +kernel
theorem dX12_becomes_0 : decode cX12_becomes 0 = .ok (.aload_n 0, 1) := by decide +kernel
theorem dX12_becomes_1 : decode cX12_becomes 1 = .ok (.getfield 9, 3) := by decide +kernel
theorem dX12_becomes_4 : decode cX12_becomes 4 = .ok (.iload_n 1, 1) := by decide +kernel
theorem dX12_becomes_5 : decode cX12_becomes 5 = .ok (.iaload, 1) := by decide +kernel
theorem dX12_becomes_6 : decode cX12_becomes 6 = .ok (.istore_n 3, 1) := by decide +kernel
theorem dX12_becomes_7 : decode cX12_becomes 7 = .ok (.aload_n 0, 1) := by decide +kernel
theorem dX12_becomes_8 : decode cX12_becomes 8 = .ok (.getfield 9, 3) := by decide +kernel
theorem dX12_becomes_11 : decode cX12_becomes 11 = .ok (.iload_n 1, 1) := by decide +kernel
theorem dX12_becomes_12 : decode cX12_becomes 12 = .ok (.iload_n 2, 1) := by decide +kernel
theorem dX12_becomes_13 : decode cX12_becomes 13 = .ok (.iastore, 1) := by decide +kernel
theorem dX12_becomes_14 : decode cX12_becomes 14 = .ok (.iload_n 3, 1) := by decide +kernel
theorem dX12_becomes_15 : decode cX12_becomes 15 = .ok (.ireturn, 1) := by decide +kernel
theorem dX12_light_0 : decode cX12_light 0 = .ok (.iload_n 1, 1) := by decide +kernel
theorem dX12_light_1 : decode cX12_light 1 = .ok (.i2l, 1) := by decide +kernel
theorem dX12_light_2 : decode cX12_light 2 = .ok (.lconst 0, 1) := by decide +kernel
theorem dX12_light_3 : decode cX12_light 3 = .ok (.ldc2_w 65, 3) := by decide +kernel
theorem dX12_light_6 : decode cX12_light 6 = .ok (.invokestatic 57, 3) := by decide +kernel
theorem dX12_light_9 : decode cX12_light 9 = .ok (.ifCond .eq 40, 3) := by decide +kernel
theorem dX12_light_12 : decode cX12_light 12 = .ok (.iload_n 2, 1) := by decide +kernel
theorem dX12_light_13 : decode cX12_light 13 = .ok (.i2l, 1) := by decide +kernel
theorem dX12_light_14 : decode cX12_light 14 = .ok (.lconst 1, 1) := by decide +kernel
theorem dX12_light_15 : decode cX12_light 15 = .ok (.ldc2_w 69, 3) := by decide +kernel
theorem dX12_light_18 : decode cX12_light 18 = .ok (.invokestatic 57, 3) := by decide +kernel
theorem dX12_light_21 : decode cX12_light 21 = .ok (.ifCond .eq 28, 3) := by decide +kernel
theorem dX12_light_24 : decode cX12_light 24 = .ok (.iload_n 3, 1) := by decide +kernel
theorem dX12_light_25 : decode cX12_light 25 = .ok (.i2l, 1) := by decide +kernel
theorem dX12_light_26 : decode cX12_light 26 = .ok (.lconst 0, 1) := by decide +kernel
theorem dX12_light_27 : decode cX12_light 27 = .ok (.ldc2_w 71, 3) := by decide +kernel
theorem dX12_light_30 : decode cX12_light 30 = .ok (.invokestatic 57, 3) := by decide +kernel
theorem dX12_light_33 : decode cX12_light 33 = .ok (.ifCond .eq 16, 3) := by decide +kernel
theorem dX12_light_36 : decode cX12_light 36 = .ok (.iload 4, 2) := by decide +kernel
theorem dX12_light_38 : decode cX12_light 38 = .ok (.i2l, 1) := by decide +kernel
theorem dX12_light_39 : decode cX12_light 39 = .ok (.lconst 0, 1) := by decide +kernel
theorem dX12_light_40 : decode cX12_light 40 = .ok (.ldc2_w 73, 3) := by decide +kernel
theorem dX12_light_43 : decode cX12_light 43 = .ok (.invokestatic 57, 3) := by decide +kernel
theorem dX12_light_46 : decode cX12_light 46 = .ok (.ifCond .ne 5, 3) := by decide +kernel
theorem dX12_light_49 : decode cX12_light 49 = .ok (.iconst (-1), 1) := by decide +kernel
theorem dX12_light_50 : decode cX12_light 50 = .ok (.ireturn, 1) := by decide +kernel
theorem dX12_light_51 : decode cX12_light 51 = .ok (.aload_n 0, 1) := by decide +kernel
theorem dX12_light_52 : decode cX12_light 52 = .ok (.getfield 9, 3) := by decide +kernel
theorem dX12_light_55 : decode cX12_light 55 = .ok (.iconst 1, 1) := by decide +kernel
theorem dX12_light_56 : decode cX12_light 56 = .ok (.iaload, 1) := by decide +kernel
theorem dX12_light_57 : decode cX12_light 57 = .ok (.bipush 12, 2) := by decide +kernel
theorem dX12_light_59 : decode cX12_light 59 = .ok (.if_icmp .ne 6, 3) := by decide +kernel
theorem dX12_light_62 : decode cX12_light 62 = .ok (.bipush (-2), 2) := by decide +kernel
theorem dX12_light_64 : decode cX12_light 64 = .ok (.ireturn, 1) := by decide +kernel
theorem dX12_light_65 : decode cX12_light 65 = .ok (.bipush 10, 2) := by decide +kernel
theorem dX12_light_67 : decode cX12_light 67 = .ok (.iconst 5, 1) := by decide +kernel
theorem dX12_light_68 : decode cX12_light 68 = .ok (.aload_n 0, 1) := by decide +kernel
theorem dX12_light_69 : decode cX12_light 69 = .ok (.getfield 9, 3) := by decide +kernel
theorem dX12_light_72 : decode cX12_light 72 = .ok (.iconst 1, 1) := by decide +kernel
theorem dX12_light_73 : decode cX12_light 73 = .ok (.iaload, 1) := by decide +kernel
theorem dX12_light_74 : decode cX12_light 74 = .ok (.imul, 1) := by decide +kernel
theorem dX12_light_75 : decode cX12_light 75 = .ok (.iadd, 1) := by decide +kernel
theorem dX12_light_76 : decode cX12_light 76 = .ok (.istore 5, 2) := by decide +kernel
theorem dX12_light_78 : decode cX12_light 78 = .ok (.aload_n 0, 1) := by decide +kernel
theorem dX12_light_79 : decode cX12_light 79 = .ok (.getfield 9, 3) := by decide +kernel
theorem dX12_light_82 : decode cX12_light 82 = .ok (.iload 5, 2) := by decide +kernel
theorem dX12_light_84 : decode cX12_light 84 = .ok (.iload_n 1, 1) := by decide +kernel
theorem dX12_light_85 : decode cX12_light 85 = .ok (.iastore, 1) := by decide +kernel
theorem dX12_light_86 : decode cX12_light 86 = .ok (.aload_n 0, 1) := by decide +kernel
theorem dX12_light_87 : decode cX12_light 87 = .ok (.getfield 9, 3) := by decide +kernel
theorem dX12_light_90 : decode cX12_light 90 = .ok (.iload 5, 2) := by decide +kernel
theorem dX12_light_92 : decode cX12_light 92 = .ok (.iconst 1, 1) := by decide +kernel
theorem dX12_light_93 : decode cX12_light 93 = .ok (.iadd, 1) := by decide +kernel
theorem dX12_light_94 : decode cX12_light 94 = .ok (.iload_n 2, 1) := by decide +kernel
theorem dX12_light_95 : decode cX12_light 95 = .ok (.iastore, 1) := by decide +kernel
theorem dX12_light_96 : decode cX12_light 96 = .ok (.aload_n 0, 1) := by decide +kernel
theorem dX12_light_97 : decode cX12_light 97 = .ok (.getfield 9, 3) := by decide +kernel
theorem dX12_light_100 : decode cX12_light 100 = .ok (.iload 5, 2) := by decide +kernel
theorem dX12_light_102 : decode cX12_light 102 = .ok (.iconst 2, 1) := by decide +kernel
theorem dX12_light_103 : decode cX12_light 103 = .ok (.iadd, 1) := by decide +kernel
theorem dX12_light_104 : decode cX12_light 104 = .ok (.iload_n 3, 1) := by decide +kernel
theorem dX12_light_105 : decode cX12_light 105 = .ok (.iastore, 1) := by decide +kernel
theorem dX12_light_106 : decode cX12_light 106 = .ok (.aload_n 0, 1) := by decide +kernel
theorem dX12_light_107 : decode cX12_light 107 = .ok (.getfield 9, 3) := by decide +kernel
theorem dX12_light_110 : decode cX12_light 110 = .ok (.iload 5, 2) := by decide +kernel
theorem dX12_light_112 : decode cX12_light 112 = .ok (.iconst 3, 1) := by decide +kernel
theorem dX12_light_113 : decode cX12_light 113 = .ok (.iadd, 1) := by decide +kernel
theorem dX12_light_114 : decode cX12_light 114 = .ok (.iload 4, 2) := by decide +kernel
theorem dX12_light_116 : decode cX12_light 116 = .ok (.iastore, 1) := by decide +kernel
theorem dX12_light_117 : decode cX12_light 117 = .ok (.aload_n 0, 1) := by decide +kernel
theorem dX12_light_118 : decode cX12_light 118 = .ok (.getfield 9, 3) := by decide +kernel
theorem dX12_light_121 : decode cX12_light 121 = .ok (.iload 5, 2) := by decide +kernel
theorem dX12_light_123 : decode cX12_light 123 = .ok (.iconst 4, 1) := by decide +kernel
theorem dX12_light_124 : decode cX12_light 124 = .ok (.iadd, 1) := by decide +kernel
theorem dX12_light_125 : decode cX12_light 125 = .ok (.iconst 0, 1) := by decide +kernel
theorem dX12_light_126 : decode cX12_light 126 = .ok (.iastore, 1) := by decide +kernel
theorem dX12_light_127 : decode cX12_light 127 = .ok (.aload_n 0, 1) := by decide +kernel
theorem dX12_light_128 : decode cX12_light 128 = .ok (.getfield 9, 3) := by decide +kernel
theorem dX12_light_131 : decode cX12_light 131 = .ok (.iconst 1, 1) := by decide +kernel
theorem dX12_light_132 : decode cX12_light 132 = .ok (.dup2, 1) := by decide +kernel
theorem dX12_light_133 : decode cX12_light 133 = .ok (.iaload, 1) := by decide +kernel
theorem dX12_light_134 : decode cX12_light 134 = .ok (.iconst 1, 1) := by decide +kernel
theorem dX12_light_135 : decode cX12_light 135 = .ok (.iadd, 1) := by decide +kernel
theorem dX12_light_136 : decode cX12_light 136 = .ok (.iastore, 1) := by decide +kernel
theorem dX12_light_137 : decode cX12_light 137 = .ok (.aload_n 0, 1) := by decide +kernel
theorem dX12_light_138 : decode cX12_light 138 = .ok (.getfield 9, 3) := by decide +kernel
theorem dX12_light_141 : decode cX12_light 141 = .ok (.iconst 1, 1) := by decide +kernel
theorem dX12_light_142 : decode cX12_light 142 = .ok (.iaload, 1) := by decide +kernel
theorem dX12_light_143 : decode cX12_light 143 = .ok (.iconst 1, 1) := by decide +kernel
theorem dX12_light_144 : decode cX12_light 144 = .ok (.isub, 1) := by decide +kernel
theorem dX12_light_145 : decode cX12_light 145 = .ok (.ireturn, 1) := by decide +kernel
theorem dX12_setting_0 : decode cX12_setting 0 = .ok (.aload_n 0, 1) := by decide +kernel
theorem dX12_setting_1 : decode cX12_setting 1 = .ok (.iload_n 1, 1) := by decide +kernel
theorem dX12_setting_2 : decode cX12_setting 2 = .ok (.invokevirtual 61, 3) := by decide +kernel
theorem dX12_setting_5 : decode cX12_setting 5 = .ok (.ifCond .eq 31, 3) := by decide +kernel
theorem dX12_setting_8 : decode cX12_setting 8 = .ok (.iload_n 2, 1) := by decide +kernel
theorem dX12_setting_9 : decode cX12_setting 9 = .ok (.i2l, 1) := by decide +kernel
theorem dX12_setting_10 : decode cX12_setting 10 = .ok (.lconst 0, 1) := by decide +kernel
theorem dX12_setting_11 : decode cX12_setting 11 = .ok (.ldc2_w 73, 3) := by decide +kernel
theorem dX12_setting_14 : decode cX12_setting 14 = .ok (.invokestatic 57, 3) := by decide +kernel
theorem dX12_setting_17 : decode cX12_setting 17 = .ok (.ifCond .eq 19, 3) := by decide +kernel
theorem dX12_setting_20 : decode cX12_setting 20 = .ok (.aload_n 0, 1) := by decide +kernel
theorem dX12_setting_21 : decode cX12_setting 21 = .ok (.bipush 10, 2) := by decide +kernel
theorem dX12_setting_23 : decode cX12_setting 23 = .ok (.iconst 5, 1) := by decide +kernel
theorem dX12_setting_24 : decode cX12_setting 24 = .ok (.iload_n 1, 1) := by decide +kernel
theorem dX12_setting_25 : decode cX12_setting 25 = .ok (.imul, 1) := by decide +kernel
theorem dX12_setting_26 : decode cX12_setting 26 = .ok (.iadd, 1) := by decide +kernel
theorem dX12_setting_27 : decode cX12_setting 27 = .ok (.iconst 3, 1) := by decide +kernel
theorem dX12_setting_28 : decode cX12_setting 28 = .ok (.iadd, 1) := by decide +kernel
theorem dX12_setting_29 : decode cX12_setting 29 = .ok (.iload_n 2, 1) := by decide +kernel
theorem dX12_setting_30 : decode cX12_setting 30 = .ok (.invokevirtual 75, 3) := by decide +kernel
theorem dX12_setting_33 : decode cX12_setting 33 = .ok (.goto 4, 3) := by decide +kernel
theorem dX12_setting_36 : decode cX12_setting 36 = .ok (.iconst (-1), 1) := by decide +kernel
theorem dX12_setting_37 : decode cX12_setting 37 = .ok (.ireturn, 1) := by decide +kernel
theorem dX12_burn_0 : decode cX12_burn 0 = .ok (.aload_n 0, 1) := by decide +kernel
theorem dX12_burn_1 : decode cX12_burn 1 = .ok (.iload_n 1, 1) := by decide +kernel
theorem dX12_burn_2 : decode cX12_burn 2 = .ok (.invokevirtual 61, 3) := by decide +kernel
theorem dX12_burn_5 : decode cX12_burn 5 = .ok (.ifCond .eq 15, 3) := by decide +kernel
theorem dX12_burn_8 : decode cX12_burn 8 = .ok (.iload_n 2, 1) := by decide +kernel
theorem dX12_burn_9 : decode cX12_burn 9 = .ok (.i2l, 1) := by decide +kernel
theorem dX12_burn_10 : decode cX12_burn 10 = .ok (.lconst 1, 1) := by decide +kernel
theorem dX12_burn_11 : decode cX12_burn 11 = .ok (.ldc2_w 79, 3) := by decide +kernel
theorem dX12_burn_14 : decode cX12_burn 14 = .ok (.invokestatic 57, 3) := by decide +kernel
theorem dX12_burn_17 : decode cX12_burn 17 = .ok (.ifCond .ne 5, 3) := by decide +kernel
theorem dX12_burn_20 : decode cX12_burn 20 = .ok (.iconst (-1), 1) := by decide +kernel
theorem dX12_burn_21 : decode cX12_burn 21 = .ok (.ireturn, 1) := by decide +kernel
theorem dX12_burn_22 : decode cX12_burn 22 = .ok (.aload_n 0, 1) := by decide +kernel
theorem dX12_burn_23 : decode cX12_burn 23 = .ok (.iload_n 1, 1) := by decide +kernel
theorem dX12_burn_24 : decode cX12_burn 24 = .ok (.iconst 4, 1) := by decide +kernel
theorem dX12_burn_25 : decode cX12_burn 25 = .ok (.invokevirtual 81, 3) := by decide +kernel
theorem dX12_burn_28 : decode cX12_burn 28 = .ok (.iload_n 2, 1) := by decide +kernel
theorem dX12_burn_29 : decode cX12_burn 29 = .ok (.iadd, 1) := by decide +kernel
theorem dX12_burn_30 : decode cX12_burn 30 = .ok (.ldc 84, 2) := by decide +kernel
theorem dX12_burn_32 : decode cX12_burn 32 = .ok (.if_icmp .le 6, 3) := by decide +kernel
theorem dX12_burn_35 : decode cX12_burn 35 = .ok (.bipush (-2), 2) := by decide +kernel
theorem dX12_burn_37 : decode cX12_burn 37 = .ok (.ireturn, 1) := by decide +kernel
theorem dX12_burn_38 : decode cX12_burn 38 = .ok (.aload_n 0, 1) := by decide +kernel
theorem dX12_burn_39 : decode cX12_burn 39 = .ok (.getfield 9, 3) := by decide +kernel
theorem dX12_burn_42 : decode cX12_burn 42 = .ok (.bipush 10, 2) := by decide +kernel
theorem dX12_burn_44 : decode cX12_burn 44 = .ok (.iconst 5, 1) := by decide +kernel
theorem dX12_burn_45 : decode cX12_burn 45 = .ok (.iload_n 1, 1) := by decide +kernel
theorem dX12_burn_46 : decode cX12_burn 46 = .ok (.imul, 1) := by decide +kernel
theorem dX12_burn_47 : decode cX12_burn 47 = .ok (.iadd, 1) := by decide +kernel
theorem dX12_burn_48 : decode cX12_burn 48 = .ok (.iconst 4, 1) := by decide +kernel
theorem dX12_burn_49 : decode cX12_burn 49 = .ok (.iadd, 1) := by decide +kernel
theorem dX12_burn_50 : decode cX12_burn 50 = .ok (.dup2, 1) := by decide +kernel
theorem dX12_burn_51 : decode cX12_burn 51 = .ok (.iaload, 1) := by decide +kernel
theorem dX12_burn_52 : decode cX12_burn 52 = .ok (.iload_n 2, 1) := by decide +kernel
theorem dX12_burn_53 : decode cX12_burn 53 = .ok (.iadd, 1) := by decide +kernel
theorem dX12_burn_54 : decode cX12_burn 54 = .ok (.iastore, 1) := by decide +kernel
theorem dX12_burn_55 : decode cX12_burn 55 = .ok (.aload_n 0, 1) := by decide +kernel
theorem dX12_burn_56 : decode cX12_burn 56 = .ok (.iload_n 1, 1) := by decide +kernel
theorem dX12_burn_57 : decode cX12_burn 57 = .ok (.iconst 4, 1) := by decide +kernel
theorem dX12_burn_58 : decode cX12_burn 58 = .ok (.invokevirtual 81, 3) := by decide +kernel
theorem dX12_burn_61 : decode cX12_burn 61 = .ok (.ireturn, 1) := by decide +kernel
theorem dX12_damp_0 : decode cX12_damp 0 = .ok (.iload_n 1, 1) := by decide +kernel
theorem dX12_damp_1 : decode cX12_damp 1 = .ok (.i2l, 1) := by decide +kernel
theorem dX12_damp_2 : decode cX12_damp 2 = .ok (.lconst 0, 1) := by decide +kernel
theorem dX12_damp_3 : decode cX12_damp 3 = .ok (.ldc2_w 85, 3) := by decide +kernel
theorem dX12_damp_6 : decode cX12_damp 6 = .ok (.invokestatic 57, 3) := by decide +kernel
theorem dX12_damp_9 : decode cX12_damp 9 = .ok (.ifCond .eq 12, 3) := by decide +kernel
theorem dX12_damp_12 : decode cX12_damp 12 = .ok (.aload_n 0, 1) := by decide +kernel
theorem dX12_damp_13 : decode cX12_damp 13 = .ok (.iconst 0, 1) := by decide +kernel
theorem dX12_damp_14 : decode cX12_damp 14 = .ok (.iload_n 1, 1) := by decide +kernel
theorem dX12_damp_15 : decode cX12_damp 15 = .ok (.invokevirtual 75, 3) := by decide +kernel
theorem dX12_damp_18 : decode cX12_damp 18 = .ok (.goto 4, 3) := by decide +kernel
theorem dX12_damp_21 : decode cX12_damp 21 = .ok (.iconst (-1), 1) := by decide +kernel
theorem dX12_damp_22 : decode cX12_damp 22 = .ok (.ireturn, 1) := by decide +kernel
theorem dX12_givesBy_0 : decode cX12_givesBy 0 = .ok (.aload_n 1, 1) := by decide +kernel
theorem dX12_givesBy_1 : decode cX12_givesBy 1 = .ok (.iload_n 2, 1) := by decide +kernel
theorem dX12_givesBy_2 : decode cX12_givesBy 2 = .ok (.iconst 1, 1) := by decide +kernel
theorem dX12_givesBy_3 : decode cX12_givesBy 3 = .ok (.iadd, 1) := by decide +kernel
theorem dX12_givesBy_4 : decode cX12_givesBy 4 = .ok (.iaload, 1) := by decide +kernel
theorem dX12_givesBy_5 : decode cX12_givesBy 5 = .ok (.istore 4, 2) := by decide +kernel
theorem dX12_givesBy_7 : decode cX12_givesBy 7 = .ok (.aload_n 1, 1) := by decide +kernel
theorem dX12_givesBy_8 : decode cX12_givesBy 8 = .ok (.iload_n 2, 1) := by decide +kernel
theorem dX12_givesBy_9 : decode cX12_givesBy 9 = .ok (.iconst 3, 1) := by decide +kernel
theorem dX12_givesBy_10 : decode cX12_givesBy 10 = .ok (.iadd, 1) := by decide +kernel
theorem dX12_givesBy_11 : decode cX12_givesBy 11 = .ok (.iaload, 1) := by decide +kernel
theorem dX12_givesBy_12 : decode cX12_givesBy 12 = .ok (.istore 5, 2) := by decide +kernel
theorem dX12_givesBy_14 : decode cX12_givesBy 14 = .ok (.aload_n 1, 1) := by decide +kernel
theorem dX12_givesBy_15 : decode cX12_givesBy 15 = .ok (.iload_n 2, 1) := by decide +kernel
theorem dX12_givesBy_16 : decode cX12_givesBy 16 = .ok (.iaload, 1) := by decide +kernel
theorem dX12_givesBy_17 : decode cX12_givesBy 17 = .ok (.tableswitch 149 1 7 #[43, 56, 71, 94, 112, 149, 126], 43) := by decide +kernel
theorem dX12_givesBy_60 : decode cX12_givesBy 60 = .ok (.iload 4, 2) := by decide +kernel
theorem dX12_givesBy_62 : decode cX12_givesBy 62 = .ok (.iload 5, 2) := by decide +kernel
theorem dX12_givesBy_64 : decode cX12_givesBy 64 = .ok (.imul, 1) := by decide +kernel
theorem dX12_givesBy_65 : decode cX12_givesBy 65 = .ok (.bipush 120, 2) := by decide +kernel
theorem dX12_givesBy_67 : decode cX12_givesBy 67 = .ok (.idiv, 1) := by decide +kernel
theorem dX12_givesBy_68 : decode cX12_givesBy 68 = .ok (.istore 4, 2) := by decide +kernel
theorem dX12_givesBy_70 : decode cX12_givesBy 70 = .ok (.goto 96, 3) := by decide +kernel
theorem dX12_givesBy_73 : decode cX12_givesBy 73 = .ok (.iload 4, 2) := by decide +kernel
theorem dX12_givesBy_75 : decode cX12_givesBy 75 = .ok (.iconst 5, 1) := by decide +kernel
theorem dX12_givesBy_76 : decode cX12_givesBy 76 = .ok (.iload 5, 2) := by decide +kernel
theorem dX12_givesBy_78 : decode cX12_givesBy 78 = .ok (.bipush 40, 2) := by decide +kernel
theorem dX12_givesBy_80 : decode cX12_givesBy 80 = .ok (.isub, 1) := by decide +kernel
theorem dX12_givesBy_81 : decode cX12_givesBy 81 = .ok (.imul, 1) := by decide +kernel
theorem dX12_givesBy_82 : decode cX12_givesBy 82 = .ok (.iadd, 1) := by decide +kernel
theorem dX12_givesBy_83 : decode cX12_givesBy 83 = .ok (.istore 4, 2) := by decide +kernel
theorem dX12_givesBy_85 : decode cX12_givesBy 85 = .ok (.goto 81, 3) := by decide +kernel
theorem dX12_givesBy_88 : decode cX12_givesBy 88 = .ok (.iload 4, 2) := by decide +kernel
theorem dX12_givesBy_90 : decode cX12_givesBy 90 = .ok (.bipush 100, 2) := by decide +kernel
theorem dX12_givesBy_92 : decode cX12_givesBy 92 = .ok (.iload 5, 2) := by decide +kernel
theorem dX12_givesBy_94 : decode cX12_givesBy 94 = .ok (.iadd, 1) := by decide +kernel
theorem dX12_givesBy_95 : decode cX12_givesBy 95 = .ok (.imul, 1) := by decide +kernel
theorem dX12_givesBy_96 : decode cX12_givesBy 96 = .ok (.bipush 100, 2) := by decide +kernel
theorem dX12_givesBy_98 : decode cX12_givesBy 98 = .ok (.idiv, 1) := by decide +kernel
theorem dX12_givesBy_99 : decode cX12_givesBy 99 = .ok (.aload_n 0, 1) := by decide +kernel
theorem dX12_givesBy_100 : decode cX12_givesBy 100 = .ok (.getfield 9, 3) := by decide +kernel
theorem dX12_givesBy_103 : decode cX12_givesBy 103 = .ok (.iconst 0, 1) := by decide +kernel
theorem dX12_givesBy_104 : decode cX12_givesBy 104 = .ok (.iaload, 1) := by decide +kernel
theorem dX12_givesBy_105 : decode cX12_givesBy 105 = .ok (.isub, 1) := by decide +kernel
theorem dX12_givesBy_106 : decode cX12_givesBy 106 = .ok (.istore 4, 2) := by decide +kernel
theorem dX12_givesBy_108 : decode cX12_givesBy 108 = .ok (.goto 58, 3) := by decide +kernel
theorem dX12_givesBy_111 : decode cX12_givesBy 111 = .ok (.iload 4, 2) := by decide +kernel
theorem dX12_givesBy_113 : decode cX12_givesBy 113 = .ok (.iload 5, 2) := by decide +kernel
theorem dX12_givesBy_115 : decode cX12_givesBy 115 = .ok (.imul, 1) := by decide +kernel
theorem dX12_givesBy_116 : decode cX12_givesBy 116 = .ok (.bipush 100, 2) := by decide +kernel
theorem dX12_givesBy_118 : decode cX12_givesBy 118 = .ok (.idiv, 1) := by decide +kernel
theorem dX12_givesBy_119 : decode cX12_givesBy 119 = .ok (.iload_n 3, 1) := by decide +kernel
theorem dX12_givesBy_120 : decode cX12_givesBy 120 = .ok (.bipush 10, 2) := by decide +kernel
theorem dX12_givesBy_122 : decode cX12_givesBy 122 = .ok (.idiv, 1) := by decide +kernel
theorem dX12_givesBy_123 : decode cX12_givesBy 123 = .ok (.isub, 1) := by decide +kernel
theorem dX12_givesBy_124 : decode cX12_givesBy 124 = .ok (.istore 4, 2) := by decide +kernel
theorem dX12_givesBy_126 : decode cX12_givesBy 126 = .ok (.goto 40, 3) := by decide +kernel
theorem dX12_givesBy_129 : decode cX12_givesBy 129 = .ok (.iload 4, 2) := by decide +kernel
theorem dX12_givesBy_131 : decode cX12_givesBy 131 = .ok (.aload_n 0, 1) := by decide +kernel
theorem dX12_givesBy_132 : decode cX12_givesBy 132 = .ok (.getfield 9, 3) := by decide +kernel
theorem dX12_givesBy_135 : decode cX12_givesBy 135 = .ok (.iconst 0, 1) := by decide +kernel
theorem dX12_givesBy_136 : decode cX12_givesBy 136 = .ok (.iaload, 1) := by decide +kernel
theorem dX12_givesBy_137 : decode cX12_givesBy 137 = .ok (.isub, 1) := by decide +kernel
theorem dX12_givesBy_138 : decode cX12_givesBy 138 = .ok (.istore 4, 2) := by decide +kernel
theorem dX12_givesBy_140 : decode cX12_givesBy 140 = .ok (.goto 26, 3) := by decide +kernel
theorem dX12_givesBy_143 : decode cX12_givesBy 143 = .ok (.iload 4, 2) := by decide +kernel
theorem dX12_givesBy_145 : decode cX12_givesBy 145 = .ok (.iload 5, 2) := by decide +kernel
theorem dX12_givesBy_147 : decode cX12_givesBy 147 = .ok (.imul, 1) := by decide +kernel
theorem dX12_givesBy_148 : decode cX12_givesBy 148 = .ok (.bipush 100, 2) := by decide +kernel
theorem dX12_givesBy_150 : decode cX12_givesBy 150 = .ok (.idiv, 1) := by decide +kernel
theorem dX12_givesBy_151 : decode cX12_givesBy 151 = .ok (.iload_n 3, 1) := by decide +kernel
theorem dX12_givesBy_152 : decode cX12_givesBy 152 = .ok (.bipush 10, 2) := by decide +kernel
theorem dX12_givesBy_154 : decode cX12_givesBy 154 = .ok (.idiv, 1) := by decide +kernel
theorem dX12_givesBy_155 : decode cX12_givesBy 155 = .ok (.isub, 1) := by decide +kernel
theorem dX12_givesBy_156 : decode cX12_givesBy 156 = .ok (.iload_n 3, 1) := by decide +kernel
theorem dX12_givesBy_157 : decode cX12_givesBy 157 = .ok (.bipush 20, 2) := by decide +kernel
theorem dX12_givesBy_159 : decode cX12_givesBy 159 = .ok (.idiv, 1) := by decide +kernel
theorem dX12_givesBy_160 : decode cX12_givesBy 160 = .ok (.isub, 1) := by decide +kernel
theorem dX12_givesBy_161 : decode cX12_givesBy 161 = .ok (.istore 4, 2) := by decide +kernel
theorem dX12_givesBy_163 : decode cX12_givesBy 163 = .ok (.goto 3, 3) := by decide +kernel
theorem dX12_givesBy_166 : decode cX12_givesBy 166 = .ok (.iload 4, 2) := by decide +kernel
theorem dX12_givesBy_168 : decode cX12_givesBy 168 = .ok (.iconst 1, 1) := by decide +kernel
theorem dX12_givesBy_169 : decode cX12_givesBy 169 = .ok (.if_icmp .ge 7, 3) := by decide +kernel
theorem dX12_givesBy_172 : decode cX12_givesBy 172 = .ok (.iconst 1, 1) := by decide +kernel
theorem dX12_givesBy_173 : decode cX12_givesBy 173 = .ok (.goto 17, 3) := by decide +kernel
theorem dX12_givesBy_176 : decode cX12_givesBy 176 = .ok (.iload 4, 2) := by decide +kernel
theorem dX12_givesBy_178 : decode cX12_givesBy 178 = .ok (.ldc 84, 2) := by decide +kernel
theorem dX12_givesBy_180 : decode cX12_givesBy 180 = .ok (.if_icmp .le 8, 3) := by decide +kernel
theorem dX12_givesBy_183 : decode cX12_givesBy 183 = .ok (.ldc 84, 2) := by decide +kernel
theorem dX12_givesBy_185 : decode cX12_givesBy 185 = .ok (.goto 5, 3) := by decide +kernel
theorem dX12_givesBy_188 : decode cX12_givesBy 188 = .ok (.iload 4, 2) := by decide +kernel
theorem dX12_givesBy_190 : decode cX12_givesBy 190 = .ok (.ireturn, 1) := by decide +kernel
theorem dX12_givesNow_0 : decode cX12_givesNow 0 = .ok (.aload_n 0, 1) := by decide +kernel
theorem dX12_givesNow_1 : decode cX12_givesNow 1 = .ok (.aload_n 0, 1) := by decide +kernel
theorem dX12_givesNow_2 : decode cX12_givesNow 2 = .ok (.getfield 9, 3) := by decide +kernel
theorem dX12_givesNow_5 : decode cX12_givesNow 5 = .ok (.bipush 10, 2) := by decide +kernel
theorem dX12_givesNow_7 : decode cX12_givesNow 7 = .ok (.iconst 5, 1) := by decide +kernel
theorem dX12_givesNow_8 : decode cX12_givesNow 8 = .ok (.iload_n 1, 1) := by decide +kernel
theorem dX12_givesNow_9 : decode cX12_givesNow 9 = .ok (.imul, 1) := by decide +kernel
theorem dX12_givesNow_10 : decode cX12_givesNow 10 = .ok (.iadd, 1) := by decide +kernel
theorem dX12_givesNow_11 : decode cX12_givesNow 11 = .ok (.aload_n 0, 1) := by decide +kernel
theorem dX12_givesNow_12 : decode cX12_givesNow 12 = .ok (.iload_n 1, 1) := by decide +kernel
theorem dX12_givesNow_13 : decode cX12_givesNow 13 = .ok (.iconst 4, 1) := by decide +kernel
theorem dX12_givesNow_14 : decode cX12_givesNow 14 = .ok (.invokevirtual 81, 3) := by decide +kernel
theorem dX12_givesNow_17 : decode cX12_givesNow 17 = .ok (.invokevirtual 87, 3) := by decide +kernel
theorem dX12_givesNow_20 : decode cX12_givesNow 20 = .ok (.ireturn, 1) := by decide +kernel
theorem dX12_wanders_0 : decode cX12_wanders 0 = .ok (.aload_n 0, 1) := by decide +kernel
theorem dX12_wanders_1 : decode cX12_wanders 1 = .ok (.iload_n 1, 1) := by decide +kernel
theorem dX12_wanders_2 : decode cX12_wanders 2 = .ok (.iconst 3, 1) := by decide +kernel
theorem dX12_wanders_3 : decode cX12_wanders 3 = .ok (.invokevirtual 81, 3) := by decide +kernel
theorem dX12_wanders_6 : decode cX12_wanders 6 = .ok (.istore_n 2, 1) := by decide +kernel
theorem dX12_wanders_7 : decode cX12_wanders 7 = .ok (.aload_n 0, 1) := by decide +kernel
theorem dX12_wanders_8 : decode cX12_wanders 8 = .ok (.iload_n 1, 1) := by decide +kernel
theorem dX12_wanders_9 : decode cX12_wanders 9 = .ok (.iconst 0, 1) := by decide +kernel
theorem dX12_wanders_10 : decode cX12_wanders 10 = .ok (.invokevirtual 81, 3) := by decide +kernel
theorem dX12_wanders_13 : decode cX12_wanders 13 = .ok (.tableswitch 94 1 7 #[43, 52, 72, 75, 77, 80, 82], 43) := by decide +kernel
theorem dX12_wanders_56 : decode cX12_wanders 56 = .ok (.iconst 3, 1) := by decide +kernel
theorem dX12_wanders_57 : decode cX12_wanders 57 = .ok (.aload_n 0, 1) := by decide +kernel
theorem dX12_wanders_58 : decode cX12_wanders 58 = .ok (.getfield 9, 3) := by decide +kernel
theorem dX12_wanders_61 : decode cX12_wanders 61 = .ok (.iconst 0, 1) := by decide +kernel
theorem dX12_wanders_62 : decode cX12_wanders 62 = .ok (.iaload, 1) := by decide +kernel
theorem dX12_wanders_63 : decode cX12_wanders 63 = .ok (.iadd, 1) := by decide +kernel
theorem dX12_wanders_64 : decode cX12_wanders 64 = .ok (.ireturn, 1) := by decide +kernel
theorem dX12_wanders_65 : decode cX12_wanders 65 = .ok (.iconst 3, 1) := by decide +kernel
theorem dX12_wanders_66 : decode cX12_wanders 66 = .ok (.iload_n 2, 1) := by decide +kernel
theorem dX12_wanders_67 : decode cX12_wanders 67 = .ok (.bipush 40, 2) := by decide +kernel
theorem dX12_wanders_69 : decode cX12_wanders 69 = .ok (.if_icmp .ge 10, 3) := by decide +kernel
theorem dX12_wanders_72 : decode cX12_wanders 72 = .ok (.bipush 40, 2) := by decide +kernel
theorem dX12_wanders_74 : decode cX12_wanders 74 = .ok (.iload_n 2, 1) := by decide +kernel
theorem dX12_wanders_75 : decode cX12_wanders 75 = .ok (.isub, 1) := by decide +kernel
theorem dX12_wanders_76 : decode cX12_wanders 76 = .ok (.goto 7, 3) := by decide +kernel
theorem dX12_wanders_79 : decode cX12_wanders 79 = .ok (.iload_n 2, 1) := by decide +kernel
theorem dX12_wanders_80 : decode cX12_wanders 80 = .ok (.bipush 40, 2) := by decide +kernel
theorem dX12_wanders_82 : decode cX12_wanders 82 = .ok (.isub, 1) := by decide +kernel
theorem dX12_wanders_83 : decode cX12_wanders 83 = .ok (.iadd, 1) := by decide +kernel
theorem dX12_wanders_84 : decode cX12_wanders 84 = .ok (.ireturn, 1) := by decide +kernel
theorem dX12_wanders_85 : decode cX12_wanders 85 = .ok (.bipush 6, 2) := by decide +kernel
theorem dX12_wanders_87 : decode cX12_wanders 87 = .ok (.ireturn, 1) := by decide +kernel
theorem dX12_wanders_88 : decode cX12_wanders 88 = .ok (.iconst 1, 1) := by decide +kernel
theorem dX12_wanders_89 : decode cX12_wanders 89 = .ok (.ireturn, 1) := by decide +kernel
theorem dX12_wanders_90 : decode cX12_wanders 90 = .ok (.bipush 7, 2) := by decide +kernel
theorem dX12_wanders_92 : decode cX12_wanders 92 = .ok (.ireturn, 1) := by decide +kernel
theorem dX12_wanders_93 : decode cX12_wanders 93 = .ok (.iconst 0, 1) := by decide +kernel
theorem dX12_wanders_94 : decode cX12_wanders 94 = .ok (.ireturn, 1) := by decide +kernel
theorem dX12_wanders_95 : decode cX12_wanders 95 = .ok (.iconst 1, 1) := by decide +kernel
theorem dX12_wanders_96 : decode cX12_wanders 96 = .ok (.aload_n 0, 1) := by decide +kernel
theorem dX12_wanders_97 : decode cX12_wanders 97 = .ok (.iload_n 1, 1) := by decide +kernel
theorem dX12_wanders_98 : decode cX12_wanders 98 = .ok (.iconst 4, 1) := by decide +kernel
theorem dX12_wanders_99 : decode cX12_wanders 99 = .ok (.invokevirtual 81, 3) := by decide +kernel
theorem dX12_wanders_102 : decode cX12_wanders 102 = .ok (.bipush 100, 2) := by decide +kernel
theorem dX12_wanders_104 : decode cX12_wanders 104 = .ok (.idiv, 1) := by decide +kernel
theorem dX12_wanders_105 : decode cX12_wanders 105 = .ok (.iadd, 1) := by decide +kernel
theorem dX12_wanders_106 : decode cX12_wanders 106 = .ok (.ireturn, 1) := by decide +kernel
theorem dX12_wanders_107 : decode cX12_wanders 107 = .ok (.iconst 3, 1) := by decide +kernel
theorem dX12_wanders_108 : decode cX12_wanders 108 = .ok (.ireturn, 1) := by decide +kernel
theorem dX12_of_0 : decode cX12_of 0 = .ok (.aload_n 0, 1) := by decide +kernel
theorem dX12_of_1 : decode cX12_of 1 = .ok (.iload_n 1, 1) := by decide +kernel
theorem dX12_of_2 : decode cX12_of 2 = .ok (.invokevirtual 61, 3) := by decide +kernel
theorem dX12_of_5 : decode cX12_of 5 = .ok (.ifCond .eq 15, 3) := by decide +kernel
theorem dX12_of_8 : decode cX12_of 8 = .ok (.iload_n 2, 1) := by decide +kernel
theorem dX12_of_9 : decode cX12_of 9 = .ok (.i2l, 1) := by decide +kernel
theorem dX12_of_10 : decode cX12_of 10 = .ok (.lconst 0, 1) := by decide +kernel
theorem dX12_of_11 : decode cX12_of 11 = .ok (.ldc2_w 91, 3) := by decide +kernel
theorem dX12_of_14 : decode cX12_of 14 = .ok (.invokestatic 57, 3) := by decide +kernel
theorem dX12_of_17 : decode cX12_of 17 = .ok (.ifCond .ne 7, 3) := by decide +kernel
theorem dX12_of_20 : decode cX12_of 20 = .ok (.iconst (-1), 1) := by decide +kernel
theorem dX12_of_21 : decode cX12_of 21 = .ok (.goto 35, 3) := by decide +kernel
theorem dX12_of_24 : decode cX12_of 24 = .ok (.iload_n 2, 1) := by decide +kernel
theorem dX12_of_25 : decode cX12_of 25 = .ok (.iconst 5, 1) := by decide +kernel
theorem dX12_of_26 : decode cX12_of 26 = .ok (.if_icmp .ge 12, 3) := by decide +kernel
theorem dX12_of_29 : decode cX12_of 29 = .ok (.aload_n 0, 1) := by decide +kernel
theorem dX12_of_30 : decode cX12_of 30 = .ok (.iload_n 1, 1) := by decide +kernel
theorem dX12_of_31 : decode cX12_of 31 = .ok (.iload_n 2, 1) := by decide +kernel
theorem dX12_of_32 : decode cX12_of 32 = .ok (.invokevirtual 81, 3) := by decide +kernel
theorem dX12_of_35 : decode cX12_of 35 = .ok (.goto 21, 3) := by decide +kernel
theorem dX12_of_38 : decode cX12_of 38 = .ok (.iload_n 2, 1) := by decide +kernel
theorem dX12_of_39 : decode cX12_of 39 = .ok (.iconst 5, 1) := by decide +kernel
theorem dX12_of_40 : decode cX12_of 40 = .ok (.if_icmp .ne 11, 3) := by decide +kernel
theorem dX12_of_43 : decode cX12_of 43 = .ok (.aload_n 0, 1) := by decide +kernel
theorem dX12_of_44 : decode cX12_of 44 = .ok (.iload_n 1, 1) := by decide +kernel
theorem dX12_of_45 : decode cX12_of 45 = .ok (.invokevirtual 93, 3) := by decide +kernel
theorem dX12_of_48 : decode cX12_of 48 = .ok (.goto 8, 3) := by decide +kernel
theorem dX12_of_51 : decode cX12_of 51 = .ok (.aload_n 0, 1) := by decide +kernel
theorem dX12_of_52 : decode cX12_of 52 = .ok (.iload_n 1, 1) := by decide +kernel
theorem dX12_of_53 : decode cX12_of 53 = .ok (.invokevirtual 97, 3) := by decide +kernel
theorem dX12_of_56 : decode cX12_of 56 = .ok (.ireturn, 1) := by decide +kernel
theorem dX12_eye_0 : decode cX12_eye 0 = .ok (.iload_n 1, 1) := by decide +kernel
theorem dX12_eye_1 : decode cX12_eye 1 = .ok (.invokestatic 100, 3) := by decide +kernel
theorem dX12_eye_4 : decode cX12_eye 4 = .ok (.ifCond .eq 47, 3) := by decide +kernel
theorem dX12_eye_7 : decode cX12_eye 7 = .ok (.iload_n 2, 1) := by decide +kernel
theorem dX12_eye_8 : decode cX12_eye 8 = .ok (.i2l, 1) := by decide +kernel
theorem dX12_eye_9 : decode cX12_eye 9 = .ok (.lconst 0, 1) := by decide +kernel
theorem dX12_eye_10 : decode cX12_eye 10 = .ok (.ldc2_w 103, 3) := by decide +kernel
theorem dX12_eye_13 : decode cX12_eye 13 = .ok (.invokestatic 57, 3) := by decide +kernel
theorem dX12_eye_16 : decode cX12_eye 16 = .ok (.ifCond .eq 35, 3) := by decide +kernel
theorem dX12_eye_19 : decode cX12_eye 19 = .ok (.iload_n 3, 1) := by decide +kernel
theorem dX12_eye_20 : decode cX12_eye 20 = .ok (.i2l, 1) := by decide +kernel
theorem dX12_eye_21 : decode cX12_eye 21 = .ok (.iload_n 2, 1) := by decide +kernel
theorem dX12_eye_22 : decode cX12_eye 22 = .ok (.iconst 2, 1) := by decide +kernel
theorem dX12_eye_23 : decode cX12_eye 23 = .ok (.if_icmp .ne 7, 3) := by decide +kernel
theorem dX12_eye_26 : decode cX12_eye 26 = .ok (.lconst 0, 1) := by decide +kernel
theorem dX12_eye_27 : decode cX12_eye 27 = .ok (.goto 4, 3) := by decide +kernel
theorem dX12_eye_30 : decode cX12_eye 30 = .ok (.lconst 1, 1) := by decide +kernel
theorem dX12_eye_31 : decode cX12_eye 31 = .ok (.iload_n 2, 1) := by decide +kernel
theorem dX12_eye_32 : decode cX12_eye 32 = .ok (.iconst 2, 1) := by decide +kernel
theorem dX12_eye_33 : decode cX12_eye 33 = .ok (.if_icmp .ne 9, 3) := by decide +kernel
theorem dX12_eye_36 : decode cX12_eye 36 = .ok (.ldc2_w 105, 3) := by decide +kernel
theorem dX12_eye_39 : decode cX12_eye 39 = .ok (.goto 6, 3) := by decide +kernel
theorem dX12_eye_42 : decode cX12_eye 42 = .ok (.ldc2_w 73, 3) := by decide +kernel
theorem dX12_eye_45 : decode cX12_eye 45 = .ok (.invokestatic 57, 3) := by decide +kernel
theorem dX12_eye_48 : decode cX12_eye 48 = .ok (.ifCond .ne 5, 3) := by decide +kernel
theorem dX12_eye_51 : decode cX12_eye 51 = .ok (.iconst (-1), 1) := by decide +kernel
theorem dX12_eye_52 : decode cX12_eye 52 = .ok (.ireturn, 1) := by decide +kernel
theorem dX12_eye_53 : decode cX12_eye 53 = .ok (.aload_n 0, 1) := by decide +kernel
theorem dX12_eye_54 : decode cX12_eye 54 = .ok (.bipush 70, 2) := by decide +kernel
theorem dX12_eye_56 : decode cX12_eye 56 = .ok (.iconst 3, 1) := by decide +kernel
theorem dX12_eye_57 : decode cX12_eye 57 = .ok (.iload_n 1, 1) := by decide +kernel
theorem dX12_eye_58 : decode cX12_eye 58 = .ok (.imul, 1) := by decide +kernel
theorem dX12_eye_59 : decode cX12_eye 59 = .ok (.iadd, 1) := by decide +kernel
theorem dX12_eye_60 : decode cX12_eye 60 = .ok (.iload_n 2, 1) := by decide +kernel
theorem dX12_eye_61 : decode cX12_eye 61 = .ok (.iadd, 1) := by decide +kernel
theorem dX12_eye_62 : decode cX12_eye 62 = .ok (.iload_n 3, 1) := by decide +kernel
theorem dX12_eye_63 : decode cX12_eye 63 = .ok (.invokevirtual 75, 3) := by decide +kernel
theorem dX12_eye_66 : decode cX12_eye 66 = .ok (.ireturn, 1) := by decide +kernel
theorem dX12_seenBy_0 : decode cX12_seenBy 0 = .ok (.aload_n 0, 1) := by decide +kernel
theorem dX12_seenBy_1 : decode cX12_seenBy 1 = .ok (.iload_n 1, 1) := by decide +kernel
theorem dX12_seenBy_2 : decode cX12_seenBy 2 = .ok (.invokevirtual 93, 3) := by decide +kernel
theorem dX12_seenBy_5 : decode cX12_seenBy 5 = .ok (.i2l, 1) := by decide +kernel
theorem dX12_seenBy_6 : decode cX12_seenBy 6 = .ok (.aload_n 0, 1) := by decide +kernel
theorem dX12_seenBy_7 : decode cX12_seenBy 7 = .ok (.iload_n 1, 1) := by decide +kernel
theorem dX12_seenBy_8 : decode cX12_seenBy 8 = .ok (.iconst 2, 1) := by decide +kernel
theorem dX12_seenBy_9 : decode cX12_seenBy 9 = .ok (.invokevirtual 81, 3) := by decide +kernel
theorem dX12_seenBy_12 : decode cX12_seenBy 12 = .ok (.iload_n 2, 1) := by decide +kernel
theorem dX12_seenBy_13 : decode cX12_seenBy 13 = .ok (.imul, 1) := by decide +kernel
theorem dX12_seenBy_14 : decode cX12_seenBy 14 = .ok (.bipush 100, 2) := by decide +kernel
theorem dX12_seenBy_16 : decode cX12_seenBy 16 = .ok (.aload_n 0, 1) := by decide +kernel
theorem dX12_seenBy_17 : decode cX12_seenBy 17 = .ok (.iload_n 1, 1) := by decide +kernel
theorem dX12_seenBy_18 : decode cX12_seenBy 18 = .ok (.iconst 2, 1) := by decide +kernel
theorem dX12_seenBy_19 : decode cX12_seenBy 19 = .ok (.invokevirtual 81, 3) := by decide +kernel
theorem dX12_seenBy_22 : decode cX12_seenBy 22 = .ok (.isub, 1) := by decide +kernel
theorem dX12_seenBy_23 : decode cX12_seenBy 23 = .ok (.iload_n 3, 1) := by decide +kernel
theorem dX12_seenBy_24 : decode cX12_seenBy 24 = .ok (.imul, 1) := by decide +kernel
theorem dX12_seenBy_25 : decode cX12_seenBy 25 = .ok (.iadd, 1) := by decide +kernel
theorem dX12_seenBy_26 : decode cX12_seenBy 26 = .ok (.i2l, 1) := by decide +kernel
theorem dX12_seenBy_27 : decode cX12_seenBy 27 = .ok (.lmul, 1) := by decide +kernel
theorem dX12_seenBy_28 : decode cX12_seenBy 28 = .ok (.lreturn, 1) := by decide +kernel
theorem dX12_yellowOf_0 : decode cX12_yellowOf 0 = .ok (.aload_n 0, 1) := by decide +kernel
theorem dX12_yellowOf_1 : decode cX12_yellowOf 1 = .ok (.getfield 9, 3) := by decide +kernel
theorem dX12_yellowOf_4 : decode cX12_yellowOf 4 = .ok (.bipush 70, 2) := by decide +kernel
theorem dX12_yellowOf_6 : decode cX12_yellowOf 6 = .ok (.iconst 3, 1) := by decide +kernel
theorem dX12_yellowOf_7 : decode cX12_yellowOf 7 = .ok (.iload_n 1, 1) := by decide +kernel
theorem dX12_yellowOf_8 : decode cX12_yellowOf 8 = .ok (.imul, 1) := by decide +kernel
theorem dX12_yellowOf_9 : decode cX12_yellowOf 9 = .ok (.iadd, 1) := by decide +kernel
theorem dX12_yellowOf_10 : decode cX12_yellowOf 10 = .ok (.iaload, 1) := by decide +kernel
theorem dX12_yellowOf_11 : decode cX12_yellowOf 11 = .ok (.iload_n 2, 1) := by decide +kernel
theorem dX12_yellowOf_12 : decode cX12_yellowOf 12 = .ok (.aload_n 0, 1) := by decide +kernel
theorem dX12_yellowOf_13 : decode cX12_yellowOf 13 = .ok (.getfield 9, 3) := by decide +kernel
theorem dX12_yellowOf_16 : decode cX12_yellowOf 16 = .ok (.bipush 70, 2) := by decide +kernel
theorem dX12_yellowOf_18 : decode cX12_yellowOf 18 = .ok (.iconst 3, 1) := by decide +kernel
theorem dX12_yellowOf_19 : decode cX12_yellowOf 19 = .ok (.iload_n 1, 1) := by decide +kernel
theorem dX12_yellowOf_20 : decode cX12_yellowOf 20 = .ok (.imul, 1) := by decide +kernel
theorem dX12_yellowOf_21 : decode cX12_yellowOf 21 = .ok (.iadd, 1) := by decide +kernel
theorem dX12_yellowOf_22 : decode cX12_yellowOf 22 = .ok (.iconst 2, 1) := by decide +kernel
theorem dX12_yellowOf_23 : decode cX12_yellowOf 23 = .ok (.iadd, 1) := by decide +kernel
theorem dX12_yellowOf_24 : decode cX12_yellowOf 24 = .ok (.iaload, 1) := by decide +kernel
theorem dX12_yellowOf_25 : decode cX12_yellowOf 25 = .ok (.imul, 1) := by decide +kernel
theorem dX12_yellowOf_26 : decode cX12_yellowOf 26 = .ok (.isub, 1) := by decide +kernel
theorem dX12_yellowOf_27 : decode cX12_yellowOf 27 = .ok (.istore_n 3, 1) := by decide +kernel
theorem dX12_yellowOf_28 : decode cX12_yellowOf 28 = .ok (.iload_n 3, 1) := by decide +kernel
theorem dX12_yellowOf_29 : decode cX12_yellowOf 29 = .ok (.iconst 1, 1) := by decide +kernel
theorem dX12_yellowOf_30 : decode cX12_yellowOf 30 = .ok (.if_icmp .ge 7, 3) := by decide +kernel
theorem dX12_yellowOf_33 : decode cX12_yellowOf 33 = .ok (.iconst 1, 1) := by decide +kernel
theorem dX12_yellowOf_34 : decode cX12_yellowOf 34 = .ok (.goto 4, 3) := by decide +kernel
theorem dX12_yellowOf_37 : decode cX12_yellowOf 37 = .ok (.iload_n 3, 1) := by decide +kernel
theorem dX12_yellowOf_38 : decode cX12_yellowOf 38 = .ok (.ireturn, 1) := by decide +kernel
theorem dX12_blueOf_0 : decode cX12_blueOf 0 = .ok (.aload_n 0, 1) := by decide +kernel
theorem dX12_blueOf_1 : decode cX12_blueOf 1 = .ok (.getfield 9, 3) := by decide +kernel
theorem dX12_blueOf_4 : decode cX12_blueOf 4 = .ok (.bipush 70, 2) := by decide +kernel
theorem dX12_blueOf_6 : decode cX12_blueOf 6 = .ok (.iconst 3, 1) := by decide +kernel
theorem dX12_blueOf_7 : decode cX12_blueOf 7 = .ok (.iload_n 1, 1) := by decide +kernel
theorem dX12_blueOf_8 : decode cX12_blueOf 8 = .ok (.imul, 1) := by decide +kernel
theorem dX12_blueOf_9 : decode cX12_blueOf 9 = .ok (.iadd, 1) := by decide +kernel
theorem dX12_blueOf_10 : decode cX12_blueOf 10 = .ok (.iconst 1, 1) := by decide +kernel
theorem dX12_blueOf_11 : decode cX12_blueOf 11 = .ok (.iadd, 1) := by decide +kernel
theorem dX12_blueOf_12 : decode cX12_blueOf 12 = .ok (.iaload, 1) := by decide +kernel
theorem dX12_blueOf_13 : decode cX12_blueOf 13 = .ok (.iload_n 2, 1) := by decide +kernel
theorem dX12_blueOf_14 : decode cX12_blueOf 14 = .ok (.aload_n 0, 1) := by decide +kernel
theorem dX12_blueOf_15 : decode cX12_blueOf 15 = .ok (.getfield 9, 3) := by decide +kernel
theorem dX12_blueOf_18 : decode cX12_blueOf 18 = .ok (.bipush 70, 2) := by decide +kernel
theorem dX12_blueOf_20 : decode cX12_blueOf 20 = .ok (.iconst 3, 1) := by decide +kernel
theorem dX12_blueOf_21 : decode cX12_blueOf 21 = .ok (.iload_n 1, 1) := by decide +kernel
theorem dX12_blueOf_22 : decode cX12_blueOf 22 = .ok (.imul, 1) := by decide +kernel
theorem dX12_blueOf_23 : decode cX12_blueOf 23 = .ok (.iadd, 1) := by decide +kernel
theorem dX12_blueOf_24 : decode cX12_blueOf 24 = .ok (.iconst 2, 1) := by decide +kernel
theorem dX12_blueOf_25 : decode cX12_blueOf 25 = .ok (.iadd, 1) := by decide +kernel
theorem dX12_blueOf_26 : decode cX12_blueOf 26 = .ok (.iaload, 1) := by decide +kernel
theorem dX12_blueOf_27 : decode cX12_blueOf 27 = .ok (.imul, 1) := by decide +kernel
theorem dX12_blueOf_28 : decode cX12_blueOf 28 = .ok (.iadd, 1) := by decide +kernel
theorem dX12_blueOf_29 : decode cX12_blueOf 29 = .ok (.ireturn, 1) := by decide +kernel
theorem dX12_seen_0 : decode cX12_seen 0 = .ok (.aload_n 0, 1) := by decide +kernel
theorem dX12_seen_1 : decode cX12_seen 1 = .ok (.iload_n 1, 1) := by decide +kernel
theorem dX12_seen_2 : decode cX12_seen 2 = .ok (.invokevirtual 61, 3) := by decide +kernel
theorem dX12_seen_5 : decode cX12_seen 5 = .ok (.ifCond .eq 37, 3) := by decide +kernel
theorem dX12_seen_8 : decode cX12_seen 8 = .ok (.iload_n 2, 1) := by decide +kernel
theorem dX12_seen_9 : decode cX12_seen 9 = .ok (.invokestatic 100, 3) := by decide +kernel
theorem dX12_seen_12 : decode cX12_seen 12 = .ok (.ifCond .eq 30, 3) := by decide +kernel
theorem dX12_seen_15 : decode cX12_seen 15 = .ok (.iload_n 3, 1) := by decide +kernel
theorem dX12_seen_16 : decode cX12_seen 16 = .ok (.invokestatic 107, 3) := by decide +kernel
theorem dX12_seen_19 : decode cX12_seen 19 = .ok (.ifCond .eq 23, 3) := by decide +kernel
theorem dX12_seen_22 : decode cX12_seen 22 = .ok (.aload_n 0, 1) := by decide +kernel
theorem dX12_seen_23 : decode cX12_seen 23 = .ok (.iload_n 1, 1) := by decide +kernel
theorem dX12_seen_24 : decode cX12_seen 24 = .ok (.aload_n 0, 1) := by decide +kernel
theorem dX12_seen_25 : decode cX12_seen 25 = .ok (.iload_n 2, 1) := by decide +kernel
theorem dX12_seen_26 : decode cX12_seen 26 = .ok (.iload_n 3, 1) := by decide +kernel
theorem dX12_seen_27 : decode cX12_seen 27 = .ok (.invokevirtual 110, 3) := by decide +kernel
theorem dX12_seen_30 : decode cX12_seen 30 = .ok (.aload_n 0, 1) := by decide +kernel
theorem dX12_seen_31 : decode cX12_seen 31 = .ok (.iload_n 2, 1) := by decide +kernel
theorem dX12_seen_32 : decode cX12_seen 32 = .ok (.iload_n 3, 1) := by decide +kernel
theorem dX12_seen_33 : decode cX12_seen 33 = .ok (.invokevirtual 113, 3) := by decide +kernel
theorem dX12_seen_36 : decode cX12_seen 36 = .ok (.invokevirtual 116, 3) := by decide +kernel
theorem dX12_seen_39 : decode cX12_seen 39 = .ok (.goto 6, 3) := by decide +kernel
theorem dX12_seen_42 : decode cX12_seen 42 = .ok (.ldc2_w 120, 3) := by decide +kernel
theorem dX12_seen_45 : decode cX12_seen 45 = .ok (.lreturn, 1) := by decide +kernel
theorem dX12_placeOf_0 : decode cX12_placeOf 0 = .ok (.iconst 0, 1) := by decide +kernel
theorem dX12_placeOf_1 : decode cX12_placeOf 1 = .ok (.istore 4, 2) := by decide +kernel
theorem dX12_placeOf_3 : decode cX12_placeOf 3 = .ok (.lconst 0, 1) := by decide +kernel
theorem dX12_placeOf_4 : decode cX12_placeOf 4 = .ok (.lstore 5, 2) := by decide +kernel
theorem dX12_placeOf_6 : decode cX12_placeOf 6 = .ok (.iconst 1, 1) := by decide +kernel
theorem dX12_placeOf_7 : decode cX12_placeOf 7 = .ok (.istore 7, 2) := by decide +kernel
theorem dX12_placeOf_9 : decode cX12_placeOf 9 = .ok (.iload 7, 2) := by decide +kernel
theorem dX12_placeOf_11 : decode cX12_placeOf 11 = .ok (.bipush 100, 2) := by decide +kernel
theorem dX12_placeOf_13 : decode cX12_placeOf 13 = .ok (.if_icmp .ge 77, 3) := by decide +kernel
theorem dX12_placeOf_16 : decode cX12_placeOf 16 = .ok (.lload_n 0, 1) := by decide +kernel
theorem dX12_placeOf_17 : decode cX12_placeOf 17 = .ok (.bipush 100, 2) := by decide +kernel
theorem dX12_placeOf_19 : decode cX12_placeOf 19 = .ok (.iload 7, 2) := by decide +kernel
theorem dX12_placeOf_21 : decode cX12_placeOf 21 = .ok (.isub, 1) := by decide +kernel
theorem dX12_placeOf_22 : decode cX12_placeOf 22 = .ok (.i2l, 1) := by decide +kernel
theorem dX12_placeOf_23 : decode cX12_placeOf 23 = .ok (.lmul, 1) := by decide +kernel
theorem dX12_placeOf_24 : decode cX12_placeOf 24 = .ok (.bipush 100, 2) := by decide +kernel
theorem dX12_placeOf_26 : decode cX12_placeOf 26 = .ok (.iload 7, 2) := by decide +kernel
theorem dX12_placeOf_28 : decode cX12_placeOf 28 = .ok (.isub, 1) := by decide +kernel
theorem dX12_placeOf_29 : decode cX12_placeOf 29 = .ok (.i2l, 1) := by decide +kernel
theorem dX12_placeOf_30 : decode cX12_placeOf 30 = .ok (.lmul, 1) := by decide +kernel
theorem dX12_placeOf_31 : decode cX12_placeOf 31 = .ok (.lload_n 2, 1) := by decide +kernel
theorem dX12_placeOf_32 : decode cX12_placeOf 32 = .ok (.iload 7, 2) := by decide +kernel
theorem dX12_placeOf_34 : decode cX12_placeOf 34 = .ok (.i2l, 1) := by decide +kernel
theorem dX12_placeOf_35 : decode cX12_placeOf 35 = .ok (.lmul, 1) := by decide +kernel
theorem dX12_placeOf_36 : decode cX12_placeOf 36 = .ok (.iload 7, 2) := by decide +kernel
theorem dX12_placeOf_38 : decode cX12_placeOf 38 = .ok (.i2l, 1) := by decide +kernel
theorem dX12_placeOf_39 : decode cX12_placeOf 39 = .ok (.lmul, 1) := by decide +kernel
theorem dX12_placeOf_40 : decode cX12_placeOf 40 = .ok (.lsub, 1) := by decide +kernel
theorem dX12_placeOf_41 : decode cX12_placeOf 41 = .ok (.lstore 8, 2) := by decide +kernel
theorem dX12_placeOf_43 : decode cX12_placeOf 43 = .ok (.lload 8, 2) := by decide +kernel
theorem dX12_placeOf_45 : decode cX12_placeOf 45 = .ok (.lconst 0, 1) := by decide +kernel
theorem dX12_placeOf_46 : decode cX12_placeOf 46 = .ok (.lcmp, 1) := by decide +kernel
theorem dX12_placeOf_47 : decode cX12_placeOf 47 = .ok (.ifCond .ge 9, 3) := by decide +kernel
theorem dX12_placeOf_50 : decode cX12_placeOf 50 = .ok (.lload 8, 2) := by decide +kernel
theorem dX12_placeOf_52 : decode cX12_placeOf 52 = .ok (.lneg, 1) := by decide +kernel
theorem dX12_placeOf_53 : decode cX12_placeOf 53 = .ok (.goto 5, 3) := by decide +kernel
theorem dX12_placeOf_56 : decode cX12_placeOf 56 = .ok (.lload 8, 2) := by decide +kernel
theorem dX12_placeOf_58 : decode cX12_placeOf 58 = .ok (.lstore 8, 2) := by decide +kernel
theorem dX12_placeOf_60 : decode cX12_placeOf 60 = .ok (.iload 4, 2) := by decide +kernel
theorem dX12_placeOf_62 : decode cX12_placeOf 62 = .ok (.ifCond .le 14, 3) := by decide +kernel
theorem dX12_placeOf_65 : decode cX12_placeOf 65 = .ok (.lload 8, 2) := by decide +kernel
theorem dX12_placeOf_67 : decode cX12_placeOf 67 = .ok (.lload 5, 2) := by decide +kernel
theorem dX12_placeOf_69 : decode cX12_placeOf 69 = .ok (.lcmp, 1) := by decide +kernel
theorem dX12_placeOf_70 : decode cX12_placeOf 70 = .ok (.ifCond .lt 6, 3) := by decide +kernel
theorem dX12_placeOf_73 : decode cX12_placeOf 73 = .ok (.goto 11, 3) := by decide +kernel
theorem dX12_placeOf_76 : decode cX12_placeOf 76 = .ok (.iload 7, 2) := by decide +kernel
theorem dX12_placeOf_78 : decode cX12_placeOf 78 = .ok (.istore 4, 2) := by decide +kernel
theorem dX12_placeOf_80 : decode cX12_placeOf 80 = .ok (.lload 8, 2) := by decide +kernel
theorem dX12_placeOf_82 : decode cX12_placeOf 82 = .ok (.lstore 5, 2) := by decide +kernel
theorem dX12_placeOf_84 : decode cX12_placeOf 84 = .ok (.iinc 7 1, 3) := by decide +kernel
theorem dX12_placeOf_87 : decode cX12_placeOf 87 = .ok (.goto (-78), 3) := by decide +kernel
theorem dX12_placeOf_90 : decode cX12_placeOf 90 = .ok (.iload 4, 2) := by decide +kernel
theorem dX12_placeOf_92 : decode cX12_placeOf 92 = .ok (.ireturn, 1) := by decide +kernel
theorem dX12_placeBy_0 : decode cX12_placeBy 0 = .ok (.aload_n 0, 1) := by decide +kernel
theorem dX12_placeBy_1 : decode cX12_placeBy 1 = .ok (.iload_n 1, 1) := by decide +kernel
theorem dX12_placeBy_2 : decode cX12_placeBy 2 = .ok (.iload_n 3, 1) := by decide +kernel
theorem dX12_placeBy_3 : decode cX12_placeBy 3 = .ok (.iload 4, 2) := by decide +kernel
theorem dX12_placeBy_5 : decode cX12_placeBy 5 = .ok (.invokevirtual 116, 3) := by decide +kernel
theorem dX12_placeBy_8 : decode cX12_placeBy 8 = .ok (.aload_n 0, 1) := by decide +kernel
theorem dX12_placeBy_9 : decode cX12_placeBy 9 = .ok (.iload_n 2, 1) := by decide +kernel
theorem dX12_placeBy_10 : decode cX12_placeBy 10 = .ok (.iload_n 3, 1) := by decide +kernel
theorem dX12_placeBy_11 : decode cX12_placeBy 11 = .ok (.iload 4, 2) := by decide +kernel
theorem dX12_placeBy_13 : decode cX12_placeBy 13 = .ok (.invokevirtual 116, 3) := by decide +kernel
theorem dX12_placeBy_16 : decode cX12_placeBy 16 = .ok (.invokestatic 122, 3) := by decide +kernel
theorem dX12_placeBy_19 : decode cX12_placeBy 19 = .ok (.ireturn, 1) := by decide +kernel
theorem dX12_alikeOf_0 : decode cX12_alikeOf 0 = .ok (.aload_n 0, 1) := by decide +kernel
theorem dX12_alikeOf_1 : decode cX12_alikeOf 1 = .ok (.iload_n 1, 1) := by decide +kernel
theorem dX12_alikeOf_2 : decode cX12_alikeOf 2 = .ok (.iload_n 2, 1) := by decide +kernel
theorem dX12_alikeOf_3 : decode cX12_alikeOf 3 = .ok (.aload_n 0, 1) := by decide +kernel
theorem dX12_alikeOf_4 : decode cX12_alikeOf 4 = .ok (.iload_n 3, 1) := by decide +kernel
theorem dX12_alikeOf_5 : decode cX12_alikeOf 5 = .ok (.iload 4, 2) := by decide +kernel
theorem dX12_alikeOf_7 : decode cX12_alikeOf 7 = .ok (.invokevirtual 110, 3) := by decide +kernel
theorem dX12_alikeOf_10 : decode cX12_alikeOf 10 = .ok (.aload_n 0, 1) := by decide +kernel
theorem dX12_alikeOf_11 : decode cX12_alikeOf 11 = .ok (.iload_n 3, 1) := by decide +kernel
theorem dX12_alikeOf_12 : decode cX12_alikeOf 12 = .ok (.iload 4, 2) := by decide +kernel
theorem dX12_alikeOf_14 : decode cX12_alikeOf 14 = .ok (.invokevirtual 113, 3) := by decide +kernel
theorem dX12_alikeOf_17 : decode cX12_alikeOf 17 = .ok (.invokevirtual 126, 3) := by decide +kernel
theorem dX12_alikeOf_20 : decode cX12_alikeOf 20 = .ok (.ireturn, 1) := by decide +kernel
theorem dX12_alike_0 : decode cX12_alike 0 = .ok (.aload_n 0, 1) := by decide +kernel
theorem dX12_alike_1 : decode cX12_alike 1 = .ok (.iload_n 1, 1) := by decide +kernel
theorem dX12_alike_2 : decode cX12_alike 2 = .ok (.iload_n 2, 1) := by decide +kernel
theorem dX12_alike_3 : decode cX12_alike 3 = .ok (.invokevirtual 130, 3) := by decide +kernel
theorem dX12_alike_6 : decode cX12_alike 6 = .ok (.ifCond .eq 30, 3) := by decide +kernel
theorem dX12_alike_9 : decode cX12_alike 9 = .ok (.iload_n 3, 1) := by decide +kernel
theorem dX12_alike_10 : decode cX12_alike 10 = .ok (.invokestatic 100, 3) := by decide +kernel
theorem dX12_alike_13 : decode cX12_alike 13 = .ok (.ifCond .eq 23, 3) := by decide +kernel
theorem dX12_alike_16 : decode cX12_alike 16 = .ok (.iload 4, 2) := by decide +kernel
theorem dX12_alike_18 : decode cX12_alike 18 = .ok (.invokestatic 107, 3) := by decide +kernel
theorem dX12_alike_21 : decode cX12_alike 21 = .ok (.ifCond .eq 15, 3) := by decide +kernel
theorem dX12_alike_24 : decode cX12_alike 24 = .ok (.aload_n 0, 1) := by decide +kernel
theorem dX12_alike_25 : decode cX12_alike 25 = .ok (.iload_n 1, 1) := by decide +kernel
theorem dX12_alike_26 : decode cX12_alike 26 = .ok (.iload_n 2, 1) := by decide +kernel
theorem dX12_alike_27 : decode cX12_alike 27 = .ok (.iload_n 3, 1) := by decide +kernel
theorem dX12_alike_28 : decode cX12_alike 28 = .ok (.iload 4, 2) := by decide +kernel
theorem dX12_alike_30 : decode cX12_alike 30 = .ok (.invokevirtual 134, 3) := by decide +kernel
theorem dX12_alike_33 : decode cX12_alike 33 = .ok (.goto 4, 3) := by decide +kernel
theorem dX12_alike_36 : decode cX12_alike 36 = .ok (.iconst (-1), 1) := by decide +kernel
theorem dX12_alike_37 : decode cX12_alike 37 = .ok (.ireturn, 1) := by decide +kernel
theorem dX12_tells_0 : decode cX12_tells 0 = .ok (.bipush 94, 2) := by decide +kernel
theorem dX12_tells_2 : decode cX12_tells 2 = .ok (.bipush 6, 2) := by decide +kernel
theorem dX12_tells_4 : decode cX12_tells 4 = .ok (.aload_n 0, 1) := by decide +kernel
theorem dX12_tells_5 : decode cX12_tells 5 = .ok (.getfield 9, 3) := by decide +kernel
theorem dX12_tells_8 : decode cX12_tells 8 = .ok (.iconst 2, 1) := by decide +kernel
theorem dX12_tells_9 : decode cX12_tells 9 = .ok (.iaload, 1) := by decide +kernel
theorem dX12_tells_10 : decode cX12_tells 10 = .ok (.imul, 1) := by decide +kernel
theorem dX12_tells_11 : decode cX12_tells 11 = .ok (.iadd, 1) := by decide +kernel
theorem dX12_tells_12 : decode cX12_tells 12 = .ok (.istore 6, 2) := by decide +kernel
theorem dX12_tells_14 : decode cX12_tells 14 = .ok (.aload_n 0, 1) := by decide +kernel
theorem dX12_tells_15 : decode cX12_tells 15 = .ok (.getfield 9, 3) := by decide +kernel
theorem dX12_tells_18 : decode cX12_tells 18 = .ok (.iload 6, 2) := by decide +kernel
theorem dX12_tells_20 : decode cX12_tells 20 = .ok (.iload_n 1, 1) := by decide +kernel
theorem dX12_tells_21 : decode cX12_tells 21 = .ok (.iastore, 1) := by decide +kernel
theorem dX12_tells_22 : decode cX12_tells 22 = .ok (.aload_n 0, 1) := by decide +kernel
theorem dX12_tells_23 : decode cX12_tells 23 = .ok (.getfield 9, 3) := by decide +kernel
theorem dX12_tells_26 : decode cX12_tells 26 = .ok (.iload 6, 2) := by decide +kernel
theorem dX12_tells_28 : decode cX12_tells 28 = .ok (.iconst 1, 1) := by decide +kernel
theorem dX12_tells_29 : decode cX12_tells 29 = .ok (.iadd, 1) := by decide +kernel
theorem dX12_tells_30 : decode cX12_tells 30 = .ok (.iload_n 2, 1) := by decide +kernel
theorem dX12_tells_31 : decode cX12_tells 31 = .ok (.iastore, 1) := by decide +kernel
theorem dX12_tells_32 : decode cX12_tells 32 = .ok (.aload_n 0, 1) := by decide +kernel
theorem dX12_tells_33 : decode cX12_tells 33 = .ok (.getfield 9, 3) := by decide +kernel
theorem dX12_tells_36 : decode cX12_tells 36 = .ok (.iload 6, 2) := by decide +kernel
theorem dX12_tells_38 : decode cX12_tells 38 = .ok (.iconst 2, 1) := by decide +kernel
theorem dX12_tells_39 : decode cX12_tells 39 = .ok (.iadd, 1) := by decide +kernel
theorem dX12_tells_40 : decode cX12_tells 40 = .ok (.iload_n 3, 1) := by decide +kernel
theorem dX12_tells_41 : decode cX12_tells 41 = .ok (.iastore, 1) := by decide +kernel
theorem dX12_tells_42 : decode cX12_tells 42 = .ok (.aload_n 0, 1) := by decide +kernel
theorem dX12_tells_43 : decode cX12_tells 43 = .ok (.getfield 9, 3) := by decide +kernel
theorem dX12_tells_46 : decode cX12_tells 46 = .ok (.iload 6, 2) := by decide +kernel
theorem dX12_tells_48 : decode cX12_tells 48 = .ok (.iconst 3, 1) := by decide +kernel
theorem dX12_tells_49 : decode cX12_tells 49 = .ok (.iadd, 1) := by decide +kernel
theorem dX12_tells_50 : decode cX12_tells 50 = .ok (.iload 4, 2) := by decide +kernel
theorem dX12_tells_52 : decode cX12_tells 52 = .ok (.iastore, 1) := by decide +kernel
theorem dX12_tells_53 : decode cX12_tells 53 = .ok (.aload_n 0, 1) := by decide +kernel
theorem dX12_tells_54 : decode cX12_tells 54 = .ok (.getfield 9, 3) := by decide +kernel
theorem dX12_tells_57 : decode cX12_tells 57 = .ok (.iload 6, 2) := by decide +kernel
theorem dX12_tells_59 : decode cX12_tells 59 = .ok (.iconst 4, 1) := by decide +kernel
theorem dX12_tells_60 : decode cX12_tells 60 = .ok (.iadd, 1) := by decide +kernel
theorem dX12_tells_61 : decode cX12_tells 61 = .ok (.iload 5, 2) := by decide +kernel
theorem dX12_tells_63 : decode cX12_tells 63 = .ok (.iastore, 1) := by decide +kernel
theorem dX12_tells_64 : decode cX12_tells 64 = .ok (.aload_n 0, 1) := by decide +kernel
theorem dX12_tells_65 : decode cX12_tells 65 = .ok (.getfield 9, 3) := by decide +kernel
theorem dX12_tells_68 : decode cX12_tells 68 = .ok (.iload 6, 2) := by decide +kernel
theorem dX12_tells_70 : decode cX12_tells 70 = .ok (.iconst 5, 1) := by decide +kernel
theorem dX12_tells_71 : decode cX12_tells 71 = .ok (.iadd, 1) := by decide +kernel
theorem dX12_tells_72 : decode cX12_tells 72 = .ok (.iconst 0, 1) := by decide +kernel
theorem dX12_tells_73 : decode cX12_tells 73 = .ok (.iastore, 1) := by decide +kernel
theorem dX12_tells_74 : decode cX12_tells 74 = .ok (.aload_n 0, 1) := by decide +kernel
theorem dX12_tells_75 : decode cX12_tells 75 = .ok (.getfield 9, 3) := by decide +kernel
theorem dX12_tells_78 : decode cX12_tells 78 = .ok (.iconst 2, 1) := by decide +kernel
theorem dX12_tells_79 : decode cX12_tells 79 = .ok (.dup2, 1) := by decide +kernel
theorem dX12_tells_80 : decode cX12_tells 80 = .ok (.iaload, 1) := by decide +kernel
theorem dX12_tells_81 : decode cX12_tells 81 = .ok (.iconst 1, 1) := by decide +kernel
theorem dX12_tells_82 : decode cX12_tells 82 = .ok (.iadd, 1) := by decide +kernel
theorem dX12_tells_83 : decode cX12_tells 83 = .ok (.iastore, 1) := by decide +kernel
theorem dX12_tells_84 : decode cX12_tells 84 = .ok (.return_, 1) := by decide +kernel
theorem dX12_match_0 : decode cX12_match 0 = .ok (.aload_n 0, 1) := by decide +kernel
theorem dX12_match_1 : decode cX12_match 1 = .ok (.iload_n 1, 1) := by decide +kernel
theorem dX12_match_2 : decode cX12_match 2 = .ok (.iload_n 2, 1) := by decide +kernel
theorem dX12_match_3 : decode cX12_match 3 = .ok (.invokevirtual 130, 3) := by decide +kernel
theorem dX12_match_6 : decode cX12_match 6 = .ok (.ifCond .eq 23, 3) := by decide +kernel
theorem dX12_match_9 : decode cX12_match 9 = .ok (.iload_n 3, 1) := by decide +kernel
theorem dX12_match_10 : decode cX12_match 10 = .ok (.invokestatic 100, 3) := by decide +kernel
theorem dX12_match_13 : decode cX12_match 13 = .ok (.ifCond .eq 16, 3) := by decide +kernel
theorem dX12_match_16 : decode cX12_match 16 = .ok (.iload 4, 2) := by decide +kernel
theorem dX12_match_18 : decode cX12_match 18 = .ok (.i2l, 1) := by decide +kernel
theorem dX12_match_19 : decode cX12_match 19 = .ok (.lconst 0, 1) := by decide +kernel
theorem dX12_match_20 : decode cX12_match 20 = .ok (.ldc2_w 79, 3) := by decide +kernel
theorem dX12_match_23 : decode cX12_match 23 = .ok (.invokestatic 57, 3) := by decide +kernel
theorem dX12_match_26 : decode cX12_match 26 = .ok (.ifCond .ne 5, 3) := by decide +kernel
theorem dX12_match_29 : decode cX12_match 29 = .ok (.iconst (-1), 1) := by decide +kernel
theorem dX12_match_30 : decode cX12_match 30 = .ok (.ireturn, 1) := by decide +kernel
theorem dX12_match_31 : decode cX12_match 31 = .ok (.aload_n 0, 1) := by decide +kernel
theorem dX12_match_32 : decode cX12_match 32 = .ok (.getfield 9, 3) := by decide +kernel
theorem dX12_match_35 : decode cX12_match 35 = .ok (.iconst 2, 1) := by decide +kernel
theorem dX12_match_36 : decode cX12_match 36 = .ok (.iaload, 1) := by decide +kernel
theorem dX12_match_37 : decode cX12_match 37 = .ok (.bipush 30, 2) := by decide +kernel
theorem dX12_match_39 : decode cX12_match 39 = .ok (.if_icmp .ne 6, 3) := by decide +kernel
theorem dX12_match_42 : decode cX12_match 42 = .ok (.bipush (-2), 2) := by decide +kernel
theorem dX12_match_44 : decode cX12_match 44 = .ok (.ireturn, 1) := by decide +kernel
theorem dX12_match_45 : decode cX12_match 45 = .ok (.aload_n 0, 1) := by decide +kernel
theorem dX12_match_46 : decode cX12_match 46 = .ok (.iload_n 1, 1) := by decide +kernel
theorem dX12_match_47 : decode cX12_match 47 = .ok (.iload_n 2, 1) := by decide +kernel
theorem dX12_match_48 : decode cX12_match 48 = .ok (.iload_n 3, 1) := by decide +kernel
theorem dX12_match_49 : decode cX12_match 49 = .ok (.aload_n 0, 1) := by decide +kernel
theorem dX12_match_50 : decode cX12_match 50 = .ok (.iload_n 1, 1) := by decide +kernel
theorem dX12_match_51 : decode cX12_match 51 = .ok (.iload_n 2, 1) := by decide +kernel
theorem dX12_match_52 : decode cX12_match 52 = .ok (.iload_n 3, 1) := by decide +kernel
theorem dX12_match_53 : decode cX12_match 53 = .ok (.iconst 0, 1) := by decide +kernel
theorem dX12_match_54 : decode cX12_match 54 = .ok (.invokevirtual 134, 3) := by decide +kernel
theorem dX12_match_57 : decode cX12_match 57 = .ok (.iload 4, 2) := by decide +kernel
theorem dX12_match_59 : decode cX12_match 59 = .ok (.invokevirtual 137, 3) := by decide +kernel
theorem dX12_match_62 : decode cX12_match 62 = .ok (.aload_n 0, 1) := by decide +kernel
theorem dX12_match_63 : decode cX12_match 63 = .ok (.getfield 9, 3) := by decide +kernel
theorem dX12_match_66 : decode cX12_match 66 = .ok (.iconst 2, 1) := by decide +kernel
theorem dX12_match_67 : decode cX12_match 67 = .ok (.iaload, 1) := by decide +kernel
theorem dX12_match_68 : decode cX12_match 68 = .ok (.iconst 1, 1) := by decide +kernel
theorem dX12_match_69 : decode cX12_match 69 = .ok (.isub, 1) := by decide +kernel
theorem dX12_match_70 : decode cX12_match 70 = .ok (.ireturn, 1) := by decide +kernel
theorem dX12_wrongRow_0 : decode cX12_wrongRow 0 = .ok (.iload_n 1, 1) := by decide +kernel
theorem dX12_wrongRow_1 : decode cX12_wrongRow 1 = .ok (.invokestatic 141, 3) := by decide +kernel
theorem dX12_wrongRow_4 : decode cX12_wrongRow 4 = .ok (.ifCond .ne 7, 3) := by decide +kernel
theorem dX12_wrongRow_7 : decode cX12_wrongRow 7 = .ok (.iconst (-1), 1) := by decide +kernel
theorem dX12_wrongRow_8 : decode cX12_wrongRow 8 = .ok (.goto 47, 3) := by decide +kernel
theorem dX12_wrongRow_11 : decode cX12_wrongRow 11 = .ok (.aload_n 0, 1) := by decide +kernel
theorem dX12_wrongRow_12 : decode cX12_wrongRow 12 = .ok (.getfield 23, 3) := by decide +kernel
theorem dX12_wrongRow_15 : decode cX12_wrongRow 15 = .ok (.iload_n 1, 1) := by decide +kernel
theorem dX12_wrongRow_16 : decode cX12_wrongRow 16 = .ok (.iaload, 1) := by decide +kernel
theorem dX12_wrongRow_17 : decode cX12_wrongRow 17 = .ok (.ifCond .ne 8, 3) := by decide +kernel
theorem dX12_wrongRow_20 : decode cX12_wrongRow 20 = .ok (.bipush (-11), 2) := by decide +kernel
theorem dX12_wrongRow_22 : decode cX12_wrongRow 22 = .ok (.goto 33, 3) := by decide +kernel
theorem dX12_wrongRow_25 : decode cX12_wrongRow 25 = .ok (.aload_n 0, 1) := by decide +kernel
theorem dX12_wrongRow_26 : decode cX12_wrongRow 26 = .ok (.getfield 23, 3) := by decide +kernel
theorem dX12_wrongRow_29 : decode cX12_wrongRow 29 = .ok (.iload_n 1, 1) := by decide +kernel
theorem dX12_wrongRow_30 : decode cX12_wrongRow 30 = .ok (.iaload, 1) := by decide +kernel
theorem dX12_wrongRow_31 : decode cX12_wrongRow 31 = .ok (.iconst 2, 1) := by decide +kernel
theorem dX12_wrongRow_32 : decode cX12_wrongRow 32 = .ok (.if_icmp .ne 17, 3) := by decide +kernel
theorem dX12_wrongRow_35 : decode cX12_wrongRow 35 = .ok (.iload_n 2, 1) := by decide +kernel
theorem dX12_wrongRow_36 : decode cX12_wrongRow 36 = .ok (.ifCond .lt 18, 3) := by decide +kernel
theorem dX12_wrongRow_39 : decode cX12_wrongRow 39 = .ok (.aload_n 0, 1) := by decide +kernel
theorem dX12_wrongRow_40 : decode cX12_wrongRow 40 = .ok (.getfield 26, 3) := by decide +kernel
theorem dX12_wrongRow_43 : decode cX12_wrongRow 43 = .ok (.iload_n 1, 1) := by decide +kernel
theorem dX12_wrongRow_44 : decode cX12_wrongRow 44 = .ok (.iaload, 1) := by decide +kernel
theorem dX12_wrongRow_45 : decode cX12_wrongRow 45 = .ok (.iload_n 2, 1) := by decide +kernel
theorem dX12_wrongRow_46 : decode cX12_wrongRow 46 = .ok (.if_icmp .eq 8, 3) := by decide +kernel
theorem dX12_wrongRow_49 : decode cX12_wrongRow 49 = .ok (.bipush (-12), 2) := by decide +kernel
theorem dX12_wrongRow_51 : decode cX12_wrongRow 51 = .ok (.goto 4, 3) := by decide +kernel
theorem dX12_wrongRow_54 : decode cX12_wrongRow 54 = .ok (.iconst 0, 1) := by decide +kernel
theorem dX12_wrongRow_55 : decode cX12_wrongRow 55 = .ok (.ireturn, 1) := by decide +kernel
theorem dX12_isTired_0 : decode cX12_isTired 0 = .ok (.aload_n 0, 1) := by decide +kernel
theorem dX12_isTired_1 : decode cX12_isTired 1 = .ok (.getfield 26, 3) := by decide +kernel
theorem dX12_isTired_4 : decode cX12_isTired 4 = .ok (.iload_n 1, 1) := by decide +kernel
theorem dX12_isTired_5 : decode cX12_isTired 5 = .ok (.iaload, 1) := by decide +kernel
theorem dX12_isTired_6 : decode cX12_isTired 6 = .ok (.ifCond .ne 8, 3) := by decide +kernel
theorem dX12_isTired_9 : decode cX12_isTired 9 = .ok (.bipush (-128), 2) := by decide +kernel
theorem dX12_isTired_11 : decode cX12_isTired 11 = .ok (.goto 21, 3) := by decide +kernel
theorem dX12_isTired_14 : decode cX12_isTired 14 = .ok (.aload_n 0, 1) := by decide +kernel
theorem dX12_isTired_15 : decode cX12_isTired 15 = .ok (.getfield 26, 3) := by decide +kernel
theorem dX12_isTired_18 : decode cX12_isTired 18 = .ok (.iload_n 1, 1) := by decide +kernel
theorem dX12_isTired_19 : decode cX12_isTired 19 = .ok (.iaload, 1) := by decide +kernel
theorem dX12_isTired_20 : decode cX12_isTired 20 = .ok (.iconst 1, 1) := by decide +kernel
theorem dX12_isTired_21 : decode cX12_isTired 21 = .ok (.if_icmp .ne 9, 3) := by decide +kernel
theorem dX12_isTired_24 : decode cX12_isTired 24 = .ok (.sipush (-32768), 3) := by decide +kernel
theorem dX12_isTired_27 : decode cX12_isTired 27 = .ok (.goto 5, 3) := by decide +kernel
theorem dX12_isTired_30 : decode cX12_isTired 30 = .ok (.ldc 144, 2) := by decide +kernel
theorem dX12_isTired_32 : decode cX12_isTired 32 = .ok (.istore_n 3, 1) := by decide +kernel
theorem dX12_isTired_33 : decode cX12_isTired 33 = .ok (.iconst 0, 1) := by decide +kernel
theorem dX12_isTired_34 : decode cX12_isTired 34 = .ok (.istore 4, 2) := by decide +kernel
theorem dX12_isTired_36 : decode cX12_isTired 36 = .ok (.iload 4, 2) := by decide +kernel
theorem dX12_isTired_38 : decode cX12_isTired 38 = .ok (.iconst 5, 1) := by decide +kernel
theorem dX12_isTired_39 : decode cX12_isTired 39 = .ok (.if_icmp .ge 24, 3) := by decide +kernel
theorem dX12_isTired_42 : decode cX12_isTired 42 = .ok (.aload_n 0, 1) := by decide +kernel
theorem dX12_isTired_43 : decode cX12_isTired 43 = .ok (.getfield 32, 3) := by decide +kernel
theorem dX12_isTired_46 : decode cX12_isTired 46 = .ok (.iload_n 2, 1) := by decide +kernel
theorem dX12_isTired_47 : decode cX12_isTired 47 = .ok (.iload 4, 2) := by decide +kernel
theorem dX12_isTired_49 : decode cX12_isTired 49 = .ok (.iadd, 1) := by decide +kernel
theorem dX12_isTired_50 : decode cX12_isTired 50 = .ok (.iaload, 1) := by decide +kernel
theorem dX12_isTired_51 : decode cX12_isTired 51 = .ok (.iload_n 3, 1) := by decide +kernel
theorem dX12_isTired_52 : decode cX12_isTired 52 = .ok (.if_icmp .ne 5, 3) := by decide +kernel
theorem dX12_isTired_55 : decode cX12_isTired 55 = .ok (.iconst 1, 1) := by decide +kernel
theorem dX12_isTired_56 : decode cX12_isTired 56 = .ok (.ireturn, 1) := by decide +kernel
theorem dX12_isTired_57 : decode cX12_isTired 57 = .ok (.iinc 4 1, 3) := by decide +kernel
theorem dX12_isTired_60 : decode cX12_isTired 60 = .ok (.goto (-24), 3) := by decide +kernel
theorem dX12_isTired_63 : decode cX12_isTired 63 = .ok (.iconst 0, 1) := by decide +kernel
theorem dX12_isTired_64 : decode cX12_isTired 64 = .ok (.ireturn, 1) := by decide +kernel
theorem dX12_hear_0 : decode cX12_hear 0 = .ok (.aload_n 0, 1) := by decide +kernel
theorem dX12_hear_1 : decode cX12_hear 1 = .ok (.iload_n 1, 1) := by decide +kernel
theorem dX12_hear_2 : decode cX12_hear 2 = .ok (.iconst (-1), 1) := by decide +kernel
theorem dX12_hear_3 : decode cX12_hear 3 = .ok (.invokevirtual 145, 3) := by decide +kernel
theorem dX12_hear_6 : decode cX12_hear 6 = .ok (.istore_n 2, 1) := by decide +kernel
theorem dX12_hear_7 : decode cX12_hear 7 = .ok (.iload_n 2, 1) := by decide +kernel
theorem dX12_hear_8 : decode cX12_hear 8 = .ok (.ifCond .eq 5, 3) := by decide +kernel
theorem dX12_hear_11 : decode cX12_hear 11 = .ok (.iload_n 2, 1) := by decide +kernel
theorem dX12_hear_12 : decode cX12_hear 12 = .ok (.ireturn, 1) := by decide +kernel
theorem dX12_hear_13 : decode cX12_hear 13 = .ok (.iconst 0, 1) := by decide +kernel
theorem dX12_hear_14 : decode cX12_hear 14 = .ok (.istore_n 3, 1) := by decide +kernel
theorem dX12_hear_15 : decode cX12_hear 15 = .ok (.iconst 0, 1) := by decide +kernel
theorem dX12_hear_16 : decode cX12_hear 16 = .ok (.istore 4, 2) := by decide +kernel
theorem dX12_hear_18 : decode cX12_hear 18 = .ok (.iload 4, 2) := by decide +kernel
theorem dX12_hear_20 : decode cX12_hear 20 = .ok (.iconst 5, 1) := by decide +kernel
theorem dX12_hear_21 : decode cX12_hear 21 = .ok (.iadd, 1) := by decide +kernel
theorem dX12_hear_22 : decode cX12_hear 22 = .ok (.aload_n 0, 1) := by decide +kernel
theorem dX12_hear_23 : decode cX12_hear 23 = .ok (.getfield 29, 3) := by decide +kernel
theorem dX12_hear_26 : decode cX12_hear 26 = .ok (.iload_n 1, 1) := by decide +kernel
theorem dX12_hear_27 : decode cX12_hear 27 = .ok (.iaload, 1) := by decide +kernel
theorem dX12_hear_28 : decode cX12_hear 28 = .ok (.if_icmp .gt 172, 3) := by decide +kernel
theorem dX12_hear_31 : decode cX12_hear 31 = .ok (.bipush 100, 2) := by decide +kernel
theorem dX12_hear_33 : decode cX12_hear 33 = .ok (.iload_n 1, 1) := by decide +kernel
theorem dX12_hear_34 : decode cX12_hear 34 = .ok (.imul, 1) := by decide +kernel
theorem dX12_hear_35 : decode cX12_hear 35 = .ok (.iload 4, 2) := by decide +kernel
theorem dX12_hear_37 : decode cX12_hear 37 = .ok (.iadd, 1) := by decide +kernel
theorem dX12_hear_38 : decode cX12_hear 38 = .ok (.istore 5, 2) := by decide +kernel
theorem dX12_hear_40 : decode cX12_hear 40 = .ok (.aload_n 0, 1) := by decide +kernel
theorem dX12_hear_41 : decode cX12_hear 41 = .ok (.iload_n 1, 1) := by decide +kernel
theorem dX12_hear_42 : decode cX12_hear 42 = .ok (.iload 5, 2) := by decide +kernel
theorem dX12_hear_44 : decode cX12_hear 44 = .ok (.invokevirtual 148, 3) := by decide +kernel
theorem dX12_hear_47 : decode cX12_hear 47 = .ok (.ifCond .eq 6, 3) := by decide +kernel
theorem dX12_hear_50 : decode cX12_hear 50 = .ok (.goto 144, 3) := by decide +kernel
theorem dX12_hear_53 : decode cX12_hear 53 = .ok (.aload_n 0, 1) := by decide +kernel
theorem dX12_hear_54 : decode cX12_hear 54 = .ok (.aload_n 0, 1) := by decide +kernel
theorem dX12_hear_55 : decode cX12_hear 55 = .ok (.getfield 32, 3) := by decide +kernel
theorem dX12_hear_58 : decode cX12_hear 58 = .ok (.iload 5, 2) := by decide +kernel
theorem dX12_hear_60 : decode cX12_hear 60 = .ok (.iaload, 1) := by decide +kernel
theorem dX12_hear_61 : decode cX12_hear 61 = .ok (.aload_n 0, 1) := by decide +kernel
theorem dX12_hear_62 : decode cX12_hear 62 = .ok (.getfield 32, 3) := by decide +kernel
theorem dX12_hear_65 : decode cX12_hear 65 = .ok (.iload 5, 2) := by decide +kernel
theorem dX12_hear_67 : decode cX12_hear 67 = .ok (.iconst 1, 1) := by decide +kernel
theorem dX12_hear_68 : decode cX12_hear 68 = .ok (.iadd, 1) := by decide +kernel
theorem dX12_hear_69 : decode cX12_hear 69 = .ok (.iaload, 1) := by decide +kernel
theorem dX12_hear_70 : decode cX12_hear 70 = .ok (.invokevirtual 130, 3) := by decide +kernel
theorem dX12_hear_73 : decode cX12_hear 73 = .ok (.ifCond .eq 69, 3) := by decide +kernel
theorem dX12_hear_76 : decode cX12_hear 76 = .ok (.aload_n 0, 1) := by decide +kernel
theorem dX12_hear_77 : decode cX12_hear 77 = .ok (.getfield 32, 3) := by decide +kernel
theorem dX12_hear_80 : decode cX12_hear 80 = .ok (.iload 5, 2) := by decide +kernel
theorem dX12_hear_82 : decode cX12_hear 82 = .ok (.iconst 2, 1) := by decide +kernel
theorem dX12_hear_83 : decode cX12_hear 83 = .ok (.iadd, 1) := by decide +kernel
theorem dX12_hear_84 : decode cX12_hear 84 = .ok (.iaload, 1) := by decide +kernel
theorem dX12_hear_85 : decode cX12_hear 85 = .ok (.invokestatic 100, 3) := by decide +kernel
theorem dX12_hear_88 : decode cX12_hear 88 = .ok (.ifCond .eq 54, 3) := by decide +kernel
theorem dX12_hear_91 : decode cX12_hear 91 = .ok (.aload_n 0, 1) := by decide +kernel
theorem dX12_hear_92 : decode cX12_hear 92 = .ok (.getfield 32, 3) := by decide +kernel
theorem dX12_hear_95 : decode cX12_hear 95 = .ok (.iload 5, 2) := by decide +kernel
theorem dX12_hear_97 : decode cX12_hear 97 = .ok (.iconst 3, 1) := by decide +kernel
theorem dX12_hear_98 : decode cX12_hear 98 = .ok (.iadd, 1) := by decide +kernel
theorem dX12_hear_99 : decode cX12_hear 99 = .ok (.iaload, 1) := by decide +kernel
theorem dX12_hear_100 : decode cX12_hear 100 = .ok (.i2l, 1) := by decide +kernel
theorem dX12_hear_101 : decode cX12_hear 101 = .ok (.lconst 1, 1) := by decide +kernel
theorem dX12_hear_102 : decode cX12_hear 102 = .ok (.ldc2_w 151, 3) := by decide +kernel
theorem dX12_hear_105 : decode cX12_hear 105 = .ok (.invokestatic 57, 3) := by decide +kernel
theorem dX12_hear_108 : decode cX12_hear 108 = .ok (.ifCond .eq 34, 3) := by decide +kernel
theorem dX12_hear_111 : decode cX12_hear 111 = .ok (.aload_n 0, 1) := by decide +kernel
theorem dX12_hear_112 : decode cX12_hear 112 = .ok (.getfield 32, 3) := by decide +kernel
theorem dX12_hear_115 : decode cX12_hear 115 = .ok (.iload 5, 2) := by decide +kernel
theorem dX12_hear_117 : decode cX12_hear 117 = .ok (.iconst 4, 1) := by decide +kernel
theorem dX12_hear_118 : decode cX12_hear 118 = .ok (.iadd, 1) := by decide +kernel
theorem dX12_hear_119 : decode cX12_hear 119 = .ok (.iaload, 1) := by decide +kernel
theorem dX12_hear_120 : decode cX12_hear 120 = .ok (.i2l, 1) := by decide +kernel
theorem dX12_hear_121 : decode cX12_hear 121 = .ok (.lconst 0, 1) := by decide +kernel
theorem dX12_hear_122 : decode cX12_hear 122 = .ok (.ldc2_w 79, 3) := by decide +kernel
theorem dX12_hear_125 : decode cX12_hear 125 = .ok (.invokestatic 57, 3) := by decide +kernel
theorem dX12_hear_128 : decode cX12_hear 128 = .ok (.ifCond .eq 14, 3) := by decide +kernel
theorem dX12_hear_131 : decode cX12_hear 131 = .ok (.aload_n 0, 1) := by decide +kernel
theorem dX12_hear_132 : decode cX12_hear 132 = .ok (.getfield 9, 3) := by decide +kernel
theorem dX12_hear_135 : decode cX12_hear 135 = .ok (.iconst 2, 1) := by decide +kernel
theorem dX12_hear_136 : decode cX12_hear 136 = .ok (.iaload, 1) := by decide +kernel
theorem dX12_hear_137 : decode cX12_hear 137 = .ok (.bipush 30, 2) := by decide +kernel
theorem dX12_hear_139 : decode cX12_hear 139 = .ok (.if_icmp .ne 5, 3) := by decide +kernel
theorem dX12_hear_142 : decode cX12_hear 142 = .ok (.iload_n 3, 1) := by decide +kernel
theorem dX12_hear_143 : decode cX12_hear 143 = .ok (.ireturn, 1) := by decide +kernel
theorem dX12_hear_144 : decode cX12_hear 144 = .ok (.aload_n 0, 1) := by decide +kernel
theorem dX12_hear_145 : decode cX12_hear 145 = .ok (.aload_n 0, 1) := by decide +kernel
theorem dX12_hear_146 : decode cX12_hear 146 = .ok (.getfield 32, 3) := by decide +kernel
theorem dX12_hear_149 : decode cX12_hear 149 = .ok (.iload 5, 2) := by decide +kernel
theorem dX12_hear_151 : decode cX12_hear 151 = .ok (.iaload, 1) := by decide +kernel
theorem dX12_hear_152 : decode cX12_hear 152 = .ok (.aload_n 0, 1) := by decide +kernel
theorem dX12_hear_153 : decode cX12_hear 153 = .ok (.getfield 32, 3) := by decide +kernel
theorem dX12_hear_156 : decode cX12_hear 156 = .ok (.iload 5, 2) := by decide +kernel
theorem dX12_hear_158 : decode cX12_hear 158 = .ok (.iconst 1, 1) := by decide +kernel
theorem dX12_hear_159 : decode cX12_hear 159 = .ok (.iadd, 1) := by decide +kernel
theorem dX12_hear_160 : decode cX12_hear 160 = .ok (.iaload, 1) := by decide +kernel
theorem dX12_hear_161 : decode cX12_hear 161 = .ok (.aload_n 0, 1) := by decide +kernel
theorem dX12_hear_162 : decode cX12_hear 162 = .ok (.getfield 32, 3) := by decide +kernel
theorem dX12_hear_165 : decode cX12_hear 165 = .ok (.iload 5, 2) := by decide +kernel
theorem dX12_hear_167 : decode cX12_hear 167 = .ok (.iconst 2, 1) := by decide +kernel
theorem dX12_hear_168 : decode cX12_hear 168 = .ok (.iadd, 1) := by decide +kernel
theorem dX12_hear_169 : decode cX12_hear 169 = .ok (.iaload, 1) := by decide +kernel
theorem dX12_hear_170 : decode cX12_hear 170 = .ok (.aload_n 0, 1) := by decide +kernel
theorem dX12_hear_171 : decode cX12_hear 171 = .ok (.getfield 32, 3) := by decide +kernel
theorem dX12_hear_174 : decode cX12_hear 174 = .ok (.iload 5, 2) := by decide +kernel
theorem dX12_hear_176 : decode cX12_hear 176 = .ok (.iconst 3, 1) := by decide +kernel
theorem dX12_hear_177 : decode cX12_hear 177 = .ok (.iadd, 1) := by decide +kernel
theorem dX12_hear_178 : decode cX12_hear 178 = .ok (.iaload, 1) := by decide +kernel
theorem dX12_hear_179 : decode cX12_hear 179 = .ok (.aload_n 0, 1) := by decide +kernel
theorem dX12_hear_180 : decode cX12_hear 180 = .ok (.getfield 32, 3) := by decide +kernel
theorem dX12_hear_183 : decode cX12_hear 183 = .ok (.iload 5, 2) := by decide +kernel
theorem dX12_hear_185 : decode cX12_hear 185 = .ok (.iconst 4, 1) := by decide +kernel
theorem dX12_hear_186 : decode cX12_hear 186 = .ok (.iadd, 1) := by decide +kernel
theorem dX12_hear_187 : decode cX12_hear 187 = .ok (.iaload, 1) := by decide +kernel
theorem dX12_hear_188 : decode cX12_hear 188 = .ok (.invokevirtual 137, 3) := by decide +kernel
theorem dX12_hear_191 : decode cX12_hear 191 = .ok (.iinc 3 1, 3) := by decide +kernel
theorem dX12_hear_194 : decode cX12_hear 194 = .ok (.iinc 4 5, 3) := by decide +kernel
theorem dX12_hear_197 : decode cX12_hear 197 = .ok (.goto (-179), 3) := by decide +kernel
theorem dX12_hear_200 : decode cX12_hear 200 = .ok (.iload_n 3, 1) := by decide +kernel
theorem dX12_hear_201 : decode cX12_hear 201 = .ok (.ireturn, 1) := by decide +kernel
theorem dX12_isMatch_0 : decode cX12_isMatch 0 = .ok (.iload_n 1, 1) := by decide +kernel
theorem dX12_isMatch_1 : decode cX12_isMatch 1 = .ok (.i2l, 1) := by decide +kernel
theorem dX12_isMatch_2 : decode cX12_isMatch 2 = .ok (.lconst 0, 1) := by decide +kernel
theorem dX12_isMatch_3 : decode cX12_isMatch 3 = .ok (.aload_n 0, 1) := by decide +kernel
theorem dX12_isMatch_4 : decode cX12_isMatch 4 = .ok (.getfield 9, 3) := by decide +kernel
theorem dX12_isMatch_7 : decode cX12_isMatch 7 = .ok (.iconst 2, 1) := by decide +kernel
theorem dX12_isMatch_8 : decode cX12_isMatch 8 = .ok (.iaload, 1) := by decide +kernel
theorem dX12_isMatch_9 : decode cX12_isMatch 9 = .ok (.iconst 1, 1) := by decide +kernel
theorem dX12_isMatch_10 : decode cX12_isMatch 10 = .ok (.isub, 1) := by decide +kernel
theorem dX12_isMatch_11 : decode cX12_isMatch 11 = .ok (.i2l, 1) := by decide +kernel
theorem dX12_isMatch_12 : decode cX12_isMatch 12 = .ok (.invokestatic 57, 3) := by decide +kernel
theorem dX12_isMatch_15 : decode cX12_isMatch 15 = .ok (.ireturn, 1) := by decide +kernel
theorem dX12_say_0 : decode cX12_say 0 = .ok (.aload_n 0, 1) := by decide +kernel
theorem dX12_say_1 : decode cX12_say 1 = .ok (.getfield 9, 3) := by decide +kernel
theorem dX12_say_4 : decode cX12_say 4 = .ok (.bipush 94, 2) := by decide +kernel
theorem dX12_say_6 : decode cX12_say 6 = .ok (.bipush 6, 2) := by decide +kernel
theorem dX12_say_8 : decode cX12_say 8 = .ok (.iload_n 1, 1) := by decide +kernel
theorem dX12_say_9 : decode cX12_say 9 = .ok (.imul, 1) := by decide +kernel
theorem dX12_say_10 : decode cX12_say 10 = .ok (.iadd, 1) := by decide +kernel
theorem dX12_say_11 : decode cX12_say 11 = .ok (.iload_n 2, 1) := by decide +kernel
theorem dX12_say_12 : decode cX12_say 12 = .ok (.iadd, 1) := by decide +kernel
theorem dX12_say_13 : decode cX12_say 13 = .ok (.iaload, 1) := by decide +kernel
theorem dX12_say_14 : decode cX12_say 14 = .ok (.ireturn, 1) := by decide +kernel
theorem dX12_told_0 : decode cX12_told 0 = .ok (.aload_n 0, 1) := by decide +kernel
theorem dX12_told_1 : decode cX12_told 1 = .ok (.iload_n 1, 1) := by decide +kernel
theorem dX12_told_2 : decode cX12_told 2 = .ok (.invokevirtual 153, 3) := by decide +kernel
theorem dX12_told_5 : decode cX12_told 5 = .ok (.ifCond .eq 24, 3) := by decide +kernel
theorem dX12_told_8 : decode cX12_told 8 = .ok (.iload_n 2, 1) := by decide +kernel
theorem dX12_told_9 : decode cX12_told 9 = .ok (.i2l, 1) := by decide +kernel
theorem dX12_told_10 : decode cX12_told 10 = .ok (.lconst 0, 1) := by decide +kernel
theorem dX12_told_11 : decode cX12_told 11 = .ok (.ldc2_w 156, 3) := by decide +kernel
theorem dX12_told_14 : decode cX12_told 14 = .ok (.invokestatic 57, 3) := by decide +kernel
theorem dX12_told_17 : decode cX12_told 17 = .ok (.ifCond .eq 12, 3) := by decide +kernel
theorem dX12_told_20 : decode cX12_told 20 = .ok (.aload_n 0, 1) := by decide +kernel
theorem dX12_told_21 : decode cX12_told 21 = .ok (.iload_n 1, 1) := by decide +kernel
theorem dX12_told_22 : decode cX12_told 22 = .ok (.iload_n 2, 1) := by decide +kernel
theorem dX12_told_23 : decode cX12_told 23 = .ok (.invokevirtual 158, 3) := by decide +kernel
theorem dX12_told_26 : decode cX12_told 26 = .ok (.goto 4, 3) := by decide +kernel
theorem dX12_told_29 : decode cX12_told 29 = .ok (.iconst (-1), 1) := by decide +kernel
theorem dX12_told_30 : decode cX12_told 30 = .ok (.ireturn, 1) := by decide +kernel
theorem dX12_out_0 : decode cX12_out 0 = .ok (.aload_n 0, 1) := by decide +kernel
theorem dX12_out_1 : decode cX12_out 1 = .ok (.iload_n 1, 1) := by decide +kernel
theorem dX12_out_2 : decode cX12_out 2 = .ok (.invokevirtual 153, 3) := by decide +kernel
theorem dX12_out_5 : decode cX12_out 5 = .ok (.ifCond .ne 5, 3) := by decide +kernel
theorem dX12_out_8 : decode cX12_out 8 = .ok (.iconst (-1), 1) := by decide +kernel
theorem dX12_out_9 : decode cX12_out 9 = .ok (.ireturn, 1) := by decide +kernel
theorem dX12_out_10 : decode cX12_out 10 = .ok (.aload_n 0, 1) := by decide +kernel
theorem dX12_out_11 : decode cX12_out 11 = .ok (.bipush 94, 2) := by decide +kernel
theorem dX12_out_13 : decode cX12_out 13 = .ok (.bipush 6, 2) := by decide +kernel
theorem dX12_out_15 : decode cX12_out 15 = .ok (.iload_n 1, 1) := by decide +kernel
theorem dX12_out_16 : decode cX12_out 16 = .ok (.imul, 1) := by decide +kernel
theorem dX12_out_17 : decode cX12_out 17 = .ok (.iadd, 1) := by decide +kernel
theorem dX12_out_18 : decode cX12_out 18 = .ok (.iconst 5, 1) := by decide +kernel
theorem dX12_out_19 : decode cX12_out 19 = .ok (.iadd, 1) := by decide +kernel
theorem dX12_out_20 : decode cX12_out 20 = .ok (.iload_n 2, 1) := by decide +kernel
theorem dX12_out_21 : decode cX12_out 21 = .ok (.ifCond .eq 7, 3) := by decide +kernel
theorem dX12_out_24 : decode cX12_out 24 = .ok (.iconst 1, 1) := by decide +kernel
theorem dX12_out_25 : decode cX12_out 25 = .ok (.goto 4, 3) := by decide +kernel
theorem dX12_out_28 : decode cX12_out 28 = .ok (.iconst 0, 1) := by decide +kernel
theorem dX12_out_29 : decode cX12_out 29 = .ok (.invokevirtual 75, 3) := by decide +kernel
theorem dX12_out_32 : decode cX12_out 32 = .ok (.iload_n 2, 1) := by decide +kernel
theorem dX12_out_33 : decode cX12_out 33 = .ok (.ifCond .eq 7, 3) := by decide +kernel
theorem dX12_out_36 : decode cX12_out 36 = .ok (.iconst 1, 1) := by decide +kernel
theorem dX12_out_37 : decode cX12_out 37 = .ok (.goto 4, 3) := by decide +kernel
theorem dX12_out_40 : decode cX12_out 40 = .ok (.iconst 0, 1) := by decide +kernel
theorem dX12_out_41 : decode cX12_out 41 = .ok (.if_icmp .ne 7, 3) := by decide +kernel
theorem dX12_out_44 : decode cX12_out 44 = .ok (.iconst 0, 1) := by decide +kernel
theorem dX12_out_45 : decode cX12_out 45 = .ok (.goto 4, 3) := by decide +kernel
theorem dX12_out_48 : decode cX12_out 48 = .ok (.iconst 1, 1) := by decide +kernel
theorem dX12_out_49 : decode cX12_out 49 = .ok (.ireturn, 1) := by decide +kernel
theorem dX12_goesOn_0 : decode cX12_goesOn 0 = .ok (.iload_n 3, 1) := by decide +kernel
theorem dX12_goesOn_1 : decode cX12_goesOn 1 = .ok (.aload_n 0, 1) := by decide +kernel
theorem dX12_goesOn_2 : decode cX12_goesOn 2 = .ok (.getfield 161, 3) := by decide +kernel
theorem dX12_goesOn_5 : decode cX12_goesOn 5 = .ok (.if_icmp .ne 14, 3) := by decide +kernel
theorem dX12_goesOn_8 : decode cX12_goesOn 8 = .ok (.iload_n 1, 1) := by decide +kernel
theorem dX12_goesOn_9 : decode cX12_goesOn 9 = .ok (.iload_n 2, 1) := by decide +kernel
theorem dX12_goesOn_10 : decode cX12_goesOn 10 = .ok (.if_icmp .ne 7, 3) := by decide +kernel
theorem dX12_goesOn_13 : decode cX12_goesOn 13 = .ok (.iconst 1, 1) := by decide +kernel
theorem dX12_goesOn_14 : decode cX12_goesOn 14 = .ok (.goto 4, 3) := by decide +kernel
theorem dX12_goesOn_17 : decode cX12_goesOn 17 = .ok (.iconst 0, 1) := by decide +kernel
theorem dX12_goesOn_18 : decode cX12_goesOn 18 = .ok (.ireturn, 1) := by decide +kernel
theorem dX12_goesOn_19 : decode cX12_goesOn 19 = .ok (.iconst 0, 1) := by decide +kernel
theorem dX12_goesOn_20 : decode cX12_goesOn 20 = .ok (.istore 4, 2) := by decide +kernel
theorem dX12_goesOn_22 : decode cX12_goesOn 22 = .ok (.iload 4, 2) := by decide +kernel
theorem dX12_goesOn_24 : decode cX12_goesOn 24 = .ok (.aload_n 0, 1) := by decide +kernel
theorem dX12_goesOn_25 : decode cX12_goesOn 25 = .ok (.getfield 9, 3) := by decide +kernel
theorem dX12_goesOn_28 : decode cX12_goesOn 28 = .ok (.iconst 2, 1) := by decide +kernel
theorem dX12_goesOn_29 : decode cX12_goesOn 29 = .ok (.iaload, 1) := by decide +kernel
theorem dX12_goesOn_30 : decode cX12_goesOn 30 = .ok (.if_icmp .ge 94, 3) := by decide +kernel
theorem dX12_goesOn_33 : decode cX12_goesOn 33 = .ok (.aload_n 0, 1) := by decide +kernel
theorem dX12_goesOn_34 : decode cX12_goesOn 34 = .ok (.iload 4, 2) := by decide +kernel
theorem dX12_goesOn_36 : decode cX12_goesOn 36 = .ok (.iconst 5, 1) := by decide +kernel
theorem dX12_goesOn_37 : decode cX12_goesOn 37 = .ok (.invokevirtual 158, 3) := by decide +kernel
theorem dX12_goesOn_40 : decode cX12_goesOn 40 = .ok (.iconst 1, 1) := by decide +kernel
theorem dX12_goesOn_41 : decode cX12_goesOn 41 = .ok (.if_icmp .eq 77, 3) := by decide +kernel
theorem dX12_goesOn_44 : decode cX12_goesOn 44 = .ok (.aload_n 0, 1) := by decide +kernel
theorem dX12_goesOn_45 : decode cX12_goesOn 45 = .ok (.iload 4, 2) := by decide +kernel
theorem dX12_goesOn_47 : decode cX12_goesOn 47 = .ok (.iconst 0, 1) := by decide +kernel
theorem dX12_goesOn_48 : decode cX12_goesOn 48 = .ok (.invokevirtual 158, 3) := by decide +kernel
theorem dX12_goesOn_51 : decode cX12_goesOn 51 = .ok (.iload_n 1, 1) := by decide +kernel
theorem dX12_goesOn_52 : decode cX12_goesOn 52 = .ok (.if_icmp .eq 17, 3) := by decide +kernel
theorem dX12_goesOn_55 : decode cX12_goesOn 55 = .ok (.aload_n 0, 1) := by decide +kernel
theorem dX12_goesOn_56 : decode cX12_goesOn 56 = .ok (.iload 4, 2) := by decide +kernel
theorem dX12_goesOn_58 : decode cX12_goesOn 58 = .ok (.iconst 1, 1) := by decide +kernel
theorem dX12_goesOn_59 : decode cX12_goesOn 59 = .ok (.invokevirtual 158, 3) := by decide +kernel
theorem dX12_goesOn_62 : decode cX12_goesOn 62 = .ok (.iload_n 1, 1) := by decide +kernel
theorem dX12_goesOn_63 : decode cX12_goesOn 63 = .ok (.if_icmp .eq 6, 3) := by decide +kernel
theorem dX12_goesOn_66 : decode cX12_goesOn 66 = .ok (.goto 52, 3) := by decide +kernel
theorem dX12_goesOn_69 : decode cX12_goesOn 69 = .ok (.aload_n 0, 1) := by decide +kernel
theorem dX12_goesOn_70 : decode cX12_goesOn 70 = .ok (.getfield 41, 3) := by decide +kernel
theorem dX12_goesOn_73 : decode cX12_goesOn 73 = .ok (.iload_n 3, 1) := by decide +kernel
theorem dX12_goesOn_74 : decode cX12_goesOn 74 = .ok (.iload 4, 2) := by decide +kernel
theorem dX12_goesOn_76 : decode cX12_goesOn 76 = .ok (.iastore, 1) := by decide +kernel
theorem dX12_goesOn_77 : decode cX12_goesOn 77 = .ok (.aload_n 0, 1) := by decide +kernel
theorem dX12_goesOn_78 : decode cX12_goesOn 78 = .ok (.aload_n 0, 1) := by decide +kernel
theorem dX12_goesOn_79 : decode cX12_goesOn 79 = .ok (.iload 4, 2) := by decide +kernel
theorem dX12_goesOn_81 : decode cX12_goesOn 81 = .ok (.iconst 0, 1) := by decide +kernel
theorem dX12_goesOn_82 : decode cX12_goesOn 82 = .ok (.invokevirtual 158, 3) := by decide +kernel
theorem dX12_goesOn_85 : decode cX12_goesOn 85 = .ok (.iload_n 1, 1) := by decide +kernel
theorem dX12_goesOn_86 : decode cX12_goesOn 86 = .ok (.if_icmp .ne 13, 3) := by decide +kernel
theorem dX12_goesOn_89 : decode cX12_goesOn 89 = .ok (.aload_n 0, 1) := by decide +kernel
theorem dX12_goesOn_90 : decode cX12_goesOn 90 = .ok (.iload 4, 2) := by decide +kernel
theorem dX12_goesOn_92 : decode cX12_goesOn 92 = .ok (.iconst 1, 1) := by decide +kernel
theorem dX12_goesOn_93 : decode cX12_goesOn 93 = .ok (.invokevirtual 158, 3) := by decide +kernel
theorem dX12_goesOn_96 : decode cX12_goesOn 96 = .ok (.goto 10, 3) := by decide +kernel
theorem dX12_goesOn_99 : decode cX12_goesOn 99 = .ok (.aload_n 0, 1) := by decide +kernel
theorem dX12_goesOn_100 : decode cX12_goesOn 100 = .ok (.iload 4, 2) := by decide +kernel
theorem dX12_goesOn_102 : decode cX12_goesOn 102 = .ok (.iconst 0, 1) := by decide +kernel
theorem dX12_goesOn_103 : decode cX12_goesOn 103 = .ok (.invokevirtual 158, 3) := by decide +kernel
theorem dX12_goesOn_106 : decode cX12_goesOn 106 = .ok (.iload_n 2, 1) := by decide +kernel
theorem dX12_goesOn_107 : decode cX12_goesOn 107 = .ok (.iload_n 3, 1) := by decide +kernel
theorem dX12_goesOn_108 : decode cX12_goesOn 108 = .ok (.iconst 1, 1) := by decide +kernel
theorem dX12_goesOn_109 : decode cX12_goesOn 109 = .ok (.iadd, 1) := by decide +kernel
theorem dX12_goesOn_110 : decode cX12_goesOn 110 = .ok (.invokevirtual 164, 3) := by decide +kernel
theorem dX12_goesOn_113 : decode cX12_goesOn 113 = .ok (.ifCond .eq 5, 3) := by decide +kernel
theorem dX12_goesOn_116 : decode cX12_goesOn 116 = .ok (.iconst 1, 1) := by decide +kernel
theorem dX12_goesOn_117 : decode cX12_goesOn 117 = .ok (.ireturn, 1) := by decide +kernel
theorem dX12_goesOn_118 : decode cX12_goesOn 118 = .ok (.iinc 4 1, 3) := by decide +kernel
theorem dX12_goesOn_121 : decode cX12_goesOn 121 = .ok (.goto (-99), 3) := by decide +kernel
theorem dX12_goesOn_124 : decode cX12_goesOn 124 = .ok (.iconst 0, 1) := by decide +kernel
theorem dX12_goesOn_125 : decode cX12_goesOn 125 = .ok (.ireturn, 1) := by decide +kernel
theorem dX12_findChain_0 : decode cX12_findChain 0 = .ok (.aload_n 0, 1) := by decide +kernel
theorem dX12_findChain_1 : decode cX12_findChain 1 = .ok (.iconst 0, 1) := by decide +kernel
theorem dX12_findChain_2 : decode cX12_findChain 2 = .ok (.putfield 161, 3) := by decide +kernel
theorem dX12_findChain_5 : decode cX12_findChain 5 = .ok (.aload_n 0, 1) := by decide +kernel
theorem dX12_findChain_6 : decode cX12_findChain 6 = .ok (.getfield 161, 3) := by decide +kernel
theorem dX12_findChain_9 : decode cX12_findChain 9 = .ok (.iconst 5, 1) := by decide +kernel
theorem dX12_findChain_10 : decode cX12_findChain 10 = .ok (.if_icmp .ge 28, 3) := by decide +kernel
theorem dX12_findChain_13 : decode cX12_findChain 13 = .ok (.aload_n 0, 1) := by decide +kernel
theorem dX12_findChain_14 : decode cX12_findChain 14 = .ok (.iload_n 1, 1) := by decide +kernel
theorem dX12_findChain_15 : decode cX12_findChain 15 = .ok (.iload_n 2, 1) := by decide +kernel
theorem dX12_findChain_16 : decode cX12_findChain 16 = .ok (.iconst 0, 1) := by decide +kernel
theorem dX12_findChain_17 : decode cX12_findChain 17 = .ok (.invokevirtual 164, 3) := by decide +kernel
theorem dX12_findChain_20 : decode cX12_findChain 20 = .ok (.ifCond .eq 5, 3) := by decide +kernel
theorem dX12_findChain_23 : decode cX12_findChain 23 = .ok (.iconst 1, 1) := by decide +kernel
theorem dX12_findChain_24 : decode cX12_findChain 24 = .ok (.ireturn, 1) := by decide +kernel
theorem dX12_findChain_25 : decode cX12_findChain 25 = .ok (.aload_n 0, 1) := by decide +kernel
theorem dX12_findChain_26 : decode cX12_findChain 26 = .ok (.dup, 1) := by decide +kernel
theorem dX12_findChain_27 : decode cX12_findChain 27 = .ok (.getfield 161, 3) := by decide +kernel
theorem dX12_findChain_30 : decode cX12_findChain 30 = .ok (.iconst 1, 1) := by decide +kernel
theorem dX12_findChain_31 : decode cX12_findChain 31 = .ok (.iadd, 1) := by decide +kernel
theorem dX12_findChain_32 : decode cX12_findChain 32 = .ok (.putfield 161, 3) := by decide +kernel
theorem dX12_findChain_35 : decode cX12_findChain 35 = .ok (.goto (-30), 3) := by decide +kernel
theorem dX12_findChain_38 : decode cX12_findChain 38 = .ok (.iconst 0, 1) := by decide +kernel
theorem dX12_findChain_39 : decode cX12_findChain 39 = .ok (.ireturn, 1) := by decide +kernel
theorem dX12_chain_0 : decode cX12_chain 0 = .ok (.aload_n 0, 1) := by decide +kernel
theorem dX12_chain_1 : decode cX12_chain 1 = .ok (.iload_n 1, 1) := by decide +kernel
theorem dX12_chain_2 : decode cX12_chain 2 = .ok (.invokevirtual 61, 3) := by decide +kernel
theorem dX12_chain_5 : decode cX12_chain 5 = .ok (.ifCond .eq 16, 3) := by decide +kernel
theorem dX12_chain_8 : decode cX12_chain 8 = .ok (.aload_n 0, 1) := by decide +kernel
theorem dX12_chain_9 : decode cX12_chain 9 = .ok (.iload_n 2, 1) := by decide +kernel
theorem dX12_chain_10 : decode cX12_chain 10 = .ok (.invokevirtual 61, 3) := by decide +kernel
theorem dX12_chain_13 : decode cX12_chain 13 = .ok (.ifCond .eq 8, 3) := by decide +kernel
theorem dX12_chain_16 : decode cX12_chain 16 = .ok (.iload_n 3, 1) := by decide +kernel
theorem dX12_chain_17 : decode cX12_chain 17 = .ok (.iconst (-1), 1) := by decide +kernel
theorem dX12_chain_18 : decode cX12_chain 18 = .ok (.if_icmp .ge 5, 3) := by decide +kernel
theorem dX12_chain_21 : decode cX12_chain 21 = .ok (.iconst (-1), 1) := by decide +kernel
theorem dX12_chain_22 : decode cX12_chain 22 = .ok (.ireturn, 1) := by decide +kernel
theorem dX12_chain_23 : decode cX12_chain 23 = .ok (.aload_n 0, 1) := by decide +kernel
theorem dX12_chain_24 : decode cX12_chain 24 = .ok (.iload_n 1, 1) := by decide +kernel
theorem dX12_chain_25 : decode cX12_chain 25 = .ok (.iload_n 2, 1) := by decide +kernel
theorem dX12_chain_26 : decode cX12_chain 26 = .ok (.invokevirtual 168, 3) := by decide +kernel
theorem dX12_chain_29 : decode cX12_chain 29 = .ok (.ifCond .ne 6, 3) := by decide +kernel
theorem dX12_chain_32 : decode cX12_chain 32 = .ok (.bipush (-4), 2) := by decide +kernel
theorem dX12_chain_34 : decode cX12_chain 34 = .ok (.ireturn, 1) := by decide +kernel
theorem dX12_chain_35 : decode cX12_chain 35 = .ok (.iload_n 3, 1) := by decide +kernel
theorem dX12_chain_36 : decode cX12_chain 36 = .ok (.ifCond .ge 10, 3) := by decide +kernel
theorem dX12_chain_39 : decode cX12_chain 39 = .ok (.aload_n 0, 1) := by decide +kernel
theorem dX12_chain_40 : decode cX12_chain 40 = .ok (.getfield 161, 3) := by decide +kernel
theorem dX12_chain_43 : decode cX12_chain 43 = .ok (.goto 22, 3) := by decide +kernel
theorem dX12_chain_46 : decode cX12_chain 46 = .ok (.iload_n 3, 1) := by decide +kernel
theorem dX12_chain_47 : decode cX12_chain 47 = .ok (.aload_n 0, 1) := by decide +kernel
theorem dX12_chain_48 : decode cX12_chain 48 = .ok (.getfield 161, 3) := by decide +kernel
theorem dX12_chain_51 : decode cX12_chain 51 = .ok (.if_icmp .ge 12, 3) := by decide +kernel
theorem dX12_chain_54 : decode cX12_chain 54 = .ok (.aload_n 0, 1) := by decide +kernel
theorem dX12_chain_55 : decode cX12_chain 55 = .ok (.getfield 41, 3) := by decide +kernel
theorem dX12_chain_58 : decode cX12_chain 58 = .ok (.iload_n 3, 1) := by decide +kernel
theorem dX12_chain_59 : decode cX12_chain 59 = .ok (.iaload, 1) := by decide +kernel
theorem dX12_chain_60 : decode cX12_chain 60 = .ok (.goto 5, 3) := by decide +kernel
theorem dX12_chain_63 : decode cX12_chain 63 = .ok (.bipush (-4), 2) := by decide +kernel
theorem dX12_chain_65 : decode cX12_chain 65 = .ok (.ireturn, 1) := by decide +kernel
theorem dX12_common_0 : decode cX12_common 0 = .ok (.lload_n 0, 1) := by decide +kernel
theorem dX12_common_1 : decode cX12_common 1 = .ok (.lstore 4, 2) := by decide +kernel
theorem dX12_common_3 : decode cX12_common 3 = .ok (.lload_n 2, 1) := by decide +kernel
theorem dX12_common_4 : decode cX12_common 4 = .ok (.lstore 6, 2) := by decide +kernel
theorem dX12_common_6 : decode cX12_common 6 = .ok (.lload 6, 2) := by decide +kernel
theorem dX12_common_8 : decode cX12_common 8 = .ok (.lconst 0, 1) := by decide +kernel
theorem dX12_common_9 : decode cX12_common 9 = .ok (.lcmp, 1) := by decide +kernel
theorem dX12_common_10 : decode cX12_common 10 = .ok (.ifCond .eq 21, 3) := by decide +kernel
theorem dX12_common_13 : decode cX12_common 13 = .ok (.lload 4, 2) := by decide +kernel
theorem dX12_common_15 : decode cX12_common 15 = .ok (.lload 6, 2) := by decide +kernel
theorem dX12_common_17 : decode cX12_common 17 = .ok (.lrem, 1) := by decide +kernel
theorem dX12_common_18 : decode cX12_common 18 = .ok (.lstore 8, 2) := by decide +kernel
theorem dX12_common_20 : decode cX12_common 20 = .ok (.lload 6, 2) := by decide +kernel
theorem dX12_common_22 : decode cX12_common 22 = .ok (.lstore 4, 2) := by decide +kernel
theorem dX12_common_24 : decode cX12_common 24 = .ok (.lload 8, 2) := by decide +kernel
theorem dX12_common_26 : decode cX12_common 26 = .ok (.lstore 6, 2) := by decide +kernel
theorem dX12_common_28 : decode cX12_common 28 = .ok (.goto (-22), 3) := by decide +kernel
theorem dX12_common_31 : decode cX12_common 31 = .ok (.lload 4, 2) := by decide +kernel
theorem dX12_common_33 : decode cX12_common 33 = .ok (.lreturn, 1) := by decide +kernel
theorem dX12_span_0 : decode cX12_span 0 = .ok (.aload_n 0, 1) := by decide +kernel
theorem dX12_span_1 : decode cX12_span 1 = .ok (.iload_n 1, 1) := by decide +kernel
theorem dX12_span_2 : decode cX12_span 2 = .ok (.invokevirtual 61, 3) := by decide +kernel
theorem dX12_span_5 : decode cX12_span 5 = .ok (.ifCond .eq 34, 3) := by decide +kernel
theorem dX12_span_8 : decode cX12_span 8 = .ok (.aload_n 0, 1) := by decide +kernel
theorem dX12_span_9 : decode cX12_span 9 = .ok (.iload_n 2, 1) := by decide +kernel
theorem dX12_span_10 : decode cX12_span 10 = .ok (.invokevirtual 61, 3) := by decide +kernel
theorem dX12_span_13 : decode cX12_span 13 = .ok (.ifCond .eq 26, 3) := by decide +kernel
theorem dX12_span_16 : decode cX12_span 16 = .ok (.iload_n 3, 1) := by decide +kernel
theorem dX12_span_17 : decode cX12_span 17 = .ok (.i2l, 1) := by decide +kernel
theorem dX12_span_18 : decode cX12_span 18 = .ok (.lconst 0, 1) := by decide +kernel
theorem dX12_span_19 : decode cX12_span 19 = .ok (.ldc2_w 103, 3) := by decide +kernel
theorem dX12_span_22 : decode cX12_span 22 = .ok (.invokestatic 57, 3) := by decide +kernel
theorem dX12_span_25 : decode cX12_span 25 = .ok (.ifCond .eq 14, 3) := by decide +kernel
theorem dX12_span_28 : decode cX12_span 28 = .ok (.iload 4, 2) := by decide +kernel
theorem dX12_span_30 : decode cX12_span 30 = .ok (.i2l, 1) := by decide +kernel
theorem dX12_span_31 : decode cX12_span 31 = .ok (.lconst 0, 1) := by decide +kernel
theorem dX12_span_32 : decode cX12_span 32 = .ok (.lconst 1, 1) := by decide +kernel
theorem dX12_span_33 : decode cX12_span 33 = .ok (.invokestatic 57, 3) := by decide +kernel
theorem dX12_span_36 : decode cX12_span 36 = .ok (.ifCond .ne 7, 3) := by decide +kernel
theorem dX12_span_39 : decode cX12_span 39 = .ok (.ldc2_w 120, 3) := by decide +kernel
theorem dX12_span_42 : decode cX12_span 42 = .ok (.lreturn, 1) := by decide +kernel
theorem dX12_span_43 : decode cX12_span 43 = .ok (.aload_n 0, 1) := by decide +kernel
theorem dX12_span_44 : decode cX12_span 44 = .ok (.iload_n 1, 1) := by decide +kernel
theorem dX12_span_45 : decode cX12_span 45 = .ok (.iload_n 2, 1) := by decide +kernel
theorem dX12_span_46 : decode cX12_span 46 = .ok (.invokevirtual 168, 3) := by decide +kernel
theorem dX12_span_49 : decode cX12_span 49 = .ok (.ifCond .ne 7, 3) := by decide +kernel
theorem dX12_span_52 : decode cX12_span 52 = .ok (.ldc2_w 171, 3) := by decide +kernel
theorem dX12_span_55 : decode cX12_span 55 = .ok (.lreturn, 1) := by decide +kernel
theorem dX12_span_56 : decode cX12_span 56 = .ok (.lconst 1, 1) := by decide +kernel
theorem dX12_span_57 : decode cX12_span 57 = .ok (.lstore 5, 2) := by decide +kernel
theorem dX12_span_59 : decode cX12_span 59 = .ok (.lconst 1, 1) := by decide +kernel
theorem dX12_span_60 : decode cX12_span 60 = .ok (.lstore 7, 2) := by decide +kernel
theorem dX12_span_62 : decode cX12_span 62 = .ok (.iload_n 1, 1) := by decide +kernel
theorem dX12_span_63 : decode cX12_span 63 = .ok (.istore 9, 2) := by decide +kernel
theorem dX12_span_65 : decode cX12_span 65 = .ok (.iconst 0, 1) := by decide +kernel
theorem dX12_span_66 : decode cX12_span 66 = .ok (.istore 10, 2) := by decide +kernel
theorem dX12_span_68 : decode cX12_span 68 = .ok (.iload 10, 2) := by decide +kernel
theorem dX12_span_70 : decode cX12_span 70 = .ok (.aload_n 0, 1) := by decide +kernel
theorem dX12_span_71 : decode cX12_span 71 = .ok (.getfield 161, 3) := by decide +kernel
theorem dX12_span_74 : decode cX12_span 74 = .ok (.if_icmp .ge 165, 3) := by decide +kernel
theorem dX12_span_77 : decode cX12_span 77 = .ok (.aload_n 0, 1) := by decide +kernel
theorem dX12_span_78 : decode cX12_span 78 = .ok (.aload_n 0, 1) := by decide +kernel
theorem dX12_span_79 : decode cX12_span 79 = .ok (.getfield 41, 3) := by decide +kernel
theorem dX12_span_82 : decode cX12_span 82 = .ok (.iload 10, 2) := by decide +kernel
theorem dX12_span_84 : decode cX12_span 84 = .ok (.iaload, 1) := by decide +kernel
theorem dX12_span_85 : decode cX12_span 85 = .ok (.iconst 0, 1) := by decide +kernel
theorem dX12_span_86 : decode cX12_span 86 = .ok (.invokevirtual 158, 3) := by decide +kernel
theorem dX12_span_89 : decode cX12_span 89 = .ok (.iload 9, 2) := by decide +kernel
theorem dX12_span_91 : decode cX12_span 91 = .ok (.if_icmp .ne 7, 3) := by decide +kernel
theorem dX12_span_94 : decode cX12_span 94 = .ok (.iconst 1, 1) := by decide +kernel
theorem dX12_span_95 : decode cX12_span 95 = .ok (.goto 4, 3) := by decide +kernel
theorem dX12_span_98 : decode cX12_span 98 = .ok (.iconst 0, 1) := by decide +kernel
theorem dX12_span_99 : decode cX12_span 99 = .ok (.istore 11, 2) := by decide +kernel
theorem dX12_span_101 : decode cX12_span 101 = .ok (.iload_n 3, 1) := by decide +kernel
theorem dX12_span_102 : decode cX12_span 102 = .ok (.ifCond .ne 7, 3) := by decide +kernel
theorem dX12_span_105 : decode cX12_span 105 = .ok (.iconst 0, 1) := by decide +kernel
theorem dX12_span_106 : decode cX12_span 106 = .ok (.goto 23, 3) := by decide +kernel
theorem dX12_span_109 : decode cX12_span 109 = .ok (.iload_n 3, 1) := by decide +kernel
theorem dX12_span_110 : decode cX12_span 110 = .ok (.iconst 1, 1) := by decide +kernel
theorem dX12_span_111 : decode cX12_span 111 = .ok (.if_icmp .ne 7, 3) := by decide +kernel
theorem dX12_span_114 : decode cX12_span 114 = .ok (.iconst 1, 1) := by decide +kernel
theorem dX12_span_115 : decode cX12_span 115 = .ok (.goto 4, 3) := by decide +kernel
theorem dX12_span_118 : decode cX12_span 118 = .ok (.iconst 0, 1) := by decide +kernel
theorem dX12_span_119 : decode cX12_span 119 = .ok (.iload 11, 2) := by decide +kernel
theorem dX12_span_121 : decode cX12_span 121 = .ok (.if_icmp .ne 7, 3) := by decide +kernel
theorem dX12_span_124 : decode cX12_span 124 = .ok (.iconst (-1), 1) := by decide +kernel
theorem dX12_span_125 : decode cX12_span 125 = .ok (.goto 4, 3) := by decide +kernel
theorem dX12_span_128 : decode cX12_span 128 = .ok (.iconst 1, 1) := by decide +kernel
theorem dX12_span_129 : decode cX12_span 129 = .ok (.istore 12, 2) := by decide +kernel
theorem dX12_span_131 : decode cX12_span 131 = .ok (.aload_n 0, 1) := by decide +kernel
theorem dX12_span_132 : decode cX12_span 132 = .ok (.aload_n 0, 1) := by decide +kernel
theorem dX12_span_133 : decode cX12_span 133 = .ok (.getfield 41, 3) := by decide +kernel
theorem dX12_span_136 : decode cX12_span 136 = .ok (.iload 10, 2) := by decide +kernel
theorem dX12_span_138 : decode cX12_span 138 = .ok (.iaload, 1) := by decide +kernel
theorem dX12_span_139 : decode cX12_span 139 = .ok (.iconst 3, 1) := by decide +kernel
theorem dX12_span_140 : decode cX12_span 140 = .ok (.invokevirtual 158, 3) := by decide +kernel
theorem dX12_span_143 : decode cX12_span 143 = .ok (.iload 12, 2) := by decide +kernel
theorem dX12_span_145 : decode cX12_span 145 = .ok (.iadd, 1) := by decide +kernel
theorem dX12_span_146 : decode cX12_span 146 = .ok (.istore 13, 2) := by decide +kernel
theorem dX12_span_148 : decode cX12_span 148 = .ok (.lload 5, 2) := by decide +kernel
theorem dX12_span_150 : decode cX12_span 150 = .ok (.iload 11, 2) := by decide +kernel
theorem dX12_span_152 : decode cX12_span 152 = .ok (.ifCond .eq 12, 3) := by decide +kernel
theorem dX12_span_155 : decode cX12_span 155 = .ok (.iload 13, 2) := by decide +kernel
theorem dX12_span_157 : decode cX12_span 157 = .ok (.iload 13, 2) := by decide +kernel
theorem dX12_span_159 : decode cX12_span 159 = .ok (.imul, 1) := by decide +kernel
theorem dX12_span_160 : decode cX12_span 160 = .ok (.i2l, 1) := by decide +kernel
theorem dX12_span_161 : decode cX12_span 161 = .ok (.goto 15, 3) := by decide +kernel
theorem dX12_span_164 : decode cX12_span 164 = .ok (.bipush 100, 2) := by decide +kernel
theorem dX12_span_166 : decode cX12_span 166 = .ok (.iload 13, 2) := by decide +kernel
theorem dX12_span_168 : decode cX12_span 168 = .ok (.isub, 1) := by decide +kernel
theorem dX12_span_169 : decode cX12_span 169 = .ok (.bipush 100, 2) := by decide +kernel
theorem dX12_span_171 : decode cX12_span 171 = .ok (.iload 13, 2) := by decide +kernel
theorem dX12_span_173 : decode cX12_span 173 = .ok (.isub, 1) := by decide +kernel
theorem dX12_span_174 : decode cX12_span 174 = .ok (.imul, 1) := by decide +kernel
theorem dX12_span_175 : decode cX12_span 175 = .ok (.i2l, 1) := by decide +kernel
theorem dX12_span_176 : decode cX12_span 176 = .ok (.lmul, 1) := by decide +kernel
theorem dX12_span_177 : decode cX12_span 177 = .ok (.lstore 5, 2) := by decide +kernel
theorem dX12_span_179 : decode cX12_span 179 = .ok (.lload 7, 2) := by decide +kernel
theorem dX12_span_181 : decode cX12_span 181 = .ok (.iload 11, 2) := by decide +kernel
theorem dX12_span_183 : decode cX12_span 183 = .ok (.ifCond .eq 18, 3) := by decide +kernel
theorem dX12_span_186 : decode cX12_span 186 = .ok (.bipush 100, 2) := by decide +kernel
theorem dX12_span_188 : decode cX12_span 188 = .ok (.iload 13, 2) := by decide +kernel
theorem dX12_span_190 : decode cX12_span 190 = .ok (.isub, 1) := by decide +kernel
theorem dX12_span_191 : decode cX12_span 191 = .ok (.bipush 100, 2) := by decide +kernel
theorem dX12_span_193 : decode cX12_span 193 = .ok (.iload 13, 2) := by decide +kernel
theorem dX12_span_195 : decode cX12_span 195 = .ok (.isub, 1) := by decide +kernel
theorem dX12_span_196 : decode cX12_span 196 = .ok (.imul, 1) := by decide +kernel
theorem dX12_span_197 : decode cX12_span 197 = .ok (.i2l, 1) := by decide +kernel
theorem dX12_span_198 : decode cX12_span 198 = .ok (.goto 9, 3) := by decide +kernel
theorem dX12_span_201 : decode cX12_span 201 = .ok (.iload 13, 2) := by decide +kernel
theorem dX12_span_203 : decode cX12_span 203 = .ok (.iload 13, 2) := by decide +kernel
theorem dX12_span_205 : decode cX12_span 205 = .ok (.imul, 1) := by decide +kernel
theorem dX12_span_206 : decode cX12_span 206 = .ok (.i2l, 1) := by decide +kernel
theorem dX12_span_207 : decode cX12_span 207 = .ok (.lmul, 1) := by decide +kernel
theorem dX12_span_208 : decode cX12_span 208 = .ok (.lstore 7, 2) := by decide +kernel
theorem dX12_span_210 : decode cX12_span 210 = .ok (.aload_n 0, 1) := by decide +kernel
theorem dX12_span_211 : decode cX12_span 211 = .ok (.aload_n 0, 1) := by decide +kernel
theorem dX12_span_212 : decode cX12_span 212 = .ok (.getfield 41, 3) := by decide +kernel
theorem dX12_span_215 : decode cX12_span 215 = .ok (.iload 10, 2) := by decide +kernel
theorem dX12_span_217 : decode cX12_span 217 = .ok (.iaload, 1) := by decide +kernel
theorem dX12_span_218 : decode cX12_span 218 = .ok (.iload 11, 2) := by decide +kernel
theorem dX12_span_220 : decode cX12_span 220 = .ok (.ifCond .eq 7, 3) := by decide +kernel
theorem dX12_span_223 : decode cX12_span 223 = .ok (.iconst 1, 1) := by decide +kernel
theorem dX12_span_224 : decode cX12_span 224 = .ok (.goto 4, 3) := by decide +kernel
theorem dX12_span_227 : decode cX12_span 227 = .ok (.iconst 0, 1) := by decide +kernel
theorem dX12_span_228 : decode cX12_span 228 = .ok (.invokevirtual 158, 3) := by decide +kernel
theorem dX12_span_231 : decode cX12_span 231 = .ok (.istore 9, 2) := by decide +kernel
theorem dX12_span_233 : decode cX12_span 233 = .ok (.iinc 10 1, 3) := by decide +kernel
theorem dX12_span_236 : decode cX12_span 236 = .ok (.goto (-168), 3) := by decide +kernel
theorem dX12_span_239 : decode cX12_span 239 = .ok (.lload 5, 2) := by decide +kernel
theorem dX12_span_241 : decode cX12_span 241 = .ok (.lload 7, 2) := by decide +kernel
theorem dX12_span_243 : decode cX12_span 243 = .ok (.invokestatic 173, 3) := by decide +kernel
theorem dX12_span_246 : decode cX12_span 246 = .ok (.lstore 10, 2) := by decide +kernel
theorem dX12_span_248 : decode cX12_span 248 = .ok (.iload 4, 2) := by decide +kernel
theorem dX12_span_250 : decode cX12_span 250 = .ok (.ifCond .ne 11, 3) := by decide +kernel
theorem dX12_span_253 : decode cX12_span 253 = .ok (.lload 5, 2) := by decide +kernel
theorem dX12_span_255 : decode cX12_span 255 = .ok (.lload 10, 2) := by decide +kernel
theorem dX12_span_257 : decode cX12_span 257 = .ok (.ldiv, 1) := by decide +kernel
theorem dX12_span_258 : decode cX12_span 258 = .ok (.goto 8, 3) := by decide +kernel
theorem dX12_span_261 : decode cX12_span 261 = .ok (.lload 7, 2) := by decide +kernel
theorem dX12_span_263 : decode cX12_span 263 = .ok (.lload 10, 2) := by decide +kernel
theorem dX12_span_265 : decode cX12_span 265 = .ok (.ldiv, 1) := by decide +kernel
theorem dX12_span_266 : decode cX12_span 266 = .ok (.lreturn, 1) := by decide +kernel
theorem dX12_isLet_0 : decode cX12_isLet 0 = .ok (.iconst 0, 1) := by decide +kernel
theorem dX12_isLet_1 : decode cX12_isLet 1 = .ok (.istore 5, 2) := by decide +kernel
theorem dX12_isLet_3 : decode cX12_isLet 3 = .ok (.iload 5, 2) := by decide +kernel
theorem dX12_isLet_5 : decode cX12_isLet 5 = .ok (.aload_n 0, 1) := by decide +kernel
theorem dX12_isLet_6 : decode cX12_isLet 6 = .ok (.getfield 9, 3) := by decide +kernel
theorem dX12_isLet_9 : decode cX12_isLet 9 = .ok (.iconst 2, 1) := by decide +kernel
theorem dX12_isLet_10 : decode cX12_isLet 10 = .ok (.iaload, 1) := by decide +kernel
theorem dX12_isLet_11 : decode cX12_isLet 11 = .ok (.if_icmp .ge 80, 3) := by decide +kernel
theorem dX12_isLet_14 : decode cX12_isLet 14 = .ok (.aload_n 0, 1) := by decide +kernel
theorem dX12_isLet_15 : decode cX12_isLet 15 = .ok (.iload 5, 2) := by decide +kernel
theorem dX12_isLet_17 : decode cX12_isLet 17 = .ok (.iconst 5, 1) := by decide +kernel
theorem dX12_isLet_18 : decode cX12_isLet 18 = .ok (.invokevirtual 158, 3) := by decide +kernel
theorem dX12_isLet_21 : decode cX12_isLet 21 = .ok (.iconst 1, 1) := by decide +kernel
theorem dX12_isLet_22 : decode cX12_isLet 22 = .ok (.if_icmp .eq 63, 3) := by decide +kernel
theorem dX12_isLet_25 : decode cX12_isLet 25 = .ok (.aload_n 0, 1) := by decide +kernel
theorem dX12_isLet_26 : decode cX12_isLet 26 = .ok (.iload 5, 2) := by decide +kernel
theorem dX12_isLet_28 : decode cX12_isLet 28 = .ok (.iconst 2, 1) := by decide +kernel
theorem dX12_isLet_29 : decode cX12_isLet 29 = .ok (.invokevirtual 158, 3) := by decide +kernel
theorem dX12_isLet_32 : decode cX12_isLet 32 = .ok (.iload_n 1, 1) := by decide +kernel
theorem dX12_isLet_33 : decode cX12_isLet 33 = .ok (.if_icmp .eq 6, 3) := by decide +kernel
theorem dX12_isLet_36 : decode cX12_isLet 36 = .ok (.goto 49, 3) := by decide +kernel
theorem dX12_isLet_39 : decode cX12_isLet 39 = .ok (.aload_n 0, 1) := by decide +kernel
theorem dX12_isLet_40 : decode cX12_isLet 40 = .ok (.aload_n 0, 1) := by decide +kernel
theorem dX12_isLet_41 : decode cX12_isLet 41 = .ok (.iload 5, 2) := by decide +kernel
theorem dX12_isLet_43 : decode cX12_isLet 43 = .ok (.iconst 0, 1) := by decide +kernel
theorem dX12_isLet_44 : decode cX12_isLet 44 = .ok (.invokevirtual 158, 3) := by decide +kernel
theorem dX12_isLet_47 : decode cX12_isLet 47 = .ok (.aload_n 0, 1) := by decide +kernel
theorem dX12_isLet_48 : decode cX12_isLet 48 = .ok (.iload 5, 2) := by decide +kernel
theorem dX12_isLet_50 : decode cX12_isLet 50 = .ok (.iconst 1, 1) := by decide +kernel
theorem dX12_isLet_51 : decode cX12_isLet 51 = .ok (.invokevirtual 158, 3) := by decide +kernel
theorem dX12_isLet_54 : decode cX12_isLet 54 = .ok (.iload_n 3, 1) := by decide +kernel
theorem dX12_isLet_55 : decode cX12_isLet 55 = .ok (.iload 4, 2) := by decide +kernel
theorem dX12_isLet_57 : decode cX12_isLet 57 = .ok (.invokevirtual 126, 3) := by decide +kernel
theorem dX12_isLet_60 : decode cX12_isLet 60 = .ok (.aload_n 0, 1) := by decide +kernel
theorem dX12_isLet_61 : decode cX12_isLet 61 = .ok (.iload 5, 2) := by decide +kernel
theorem dX12_isLet_63 : decode cX12_isLet 63 = .ok (.iconst 3, 1) := by decide +kernel
theorem dX12_isLet_64 : decode cX12_isLet 64 = .ok (.invokevirtual 158, 3) := by decide +kernel
theorem dX12_isLet_67 : decode cX12_isLet 67 = .ok (.isub, 1) := by decide +kernel
theorem dX12_isLet_68 : decode cX12_isLet 68 = .ok (.istore 6, 2) := by decide +kernel
theorem dX12_isLet_70 : decode cX12_isLet 70 = .ok (.iload 6, 2) := by decide +kernel
theorem dX12_isLet_72 : decode cX12_isLet 72 = .ok (.iload_n 2, 1) := by decide +kernel
theorem dX12_isLet_73 : decode cX12_isLet 73 = .ok (.if_icmp .gt 10, 3) := by decide +kernel
theorem dX12_isLet_76 : decode cX12_isLet 76 = .ok (.iload 6, 2) := by decide +kernel
theorem dX12_isLet_78 : decode cX12_isLet 78 = .ok (.iload_n 2, 1) := by decide +kernel
theorem dX12_isLet_79 : decode cX12_isLet 79 = .ok (.ineg, 1) := by decide +kernel
theorem dX12_isLet_80 : decode cX12_isLet 80 = .ok (.if_icmp .ge 5, 3) := by decide +kernel
theorem dX12_isLet_83 : decode cX12_isLet 83 = .ok (.iconst 0, 1) := by decide +kernel
theorem dX12_isLet_84 : decode cX12_isLet 84 = .ok (.ireturn, 1) := by decide +kernel
theorem dX12_isLet_85 : decode cX12_isLet 85 = .ok (.iinc 5 1, 3) := by decide +kernel
theorem dX12_isLet_88 : decode cX12_isLet 88 = .ok (.goto (-85), 3) := by decide +kernel
theorem dX12_isLet_91 : decode cX12_isLet 91 = .ok (.iconst 1, 1) := by decide +kernel
theorem dX12_isLet_92 : decode cX12_isLet 92 = .ok (.ireturn, 1) := by decide +kernel
theorem dX12_findLaws_0 : decode cX12_findLaws 0 = .ok (.iconst 0, 1) := by decide +kernel
theorem dX12_findLaws_1 : decode cX12_findLaws 1 = .ok (.istore_n 3, 1) := by decide +kernel
theorem dX12_findLaws_2 : decode cX12_findLaws 2 = .ok (.bipush 10, 2) := by decide +kernel
theorem dX12_findLaws_4 : decode cX12_findLaws 4 = .ok (.istore 4, 2) := by decide +kernel
theorem dX12_findLaws_6 : decode cX12_findLaws 6 = .ok (.iload 4, 2) := by decide +kernel
theorem dX12_findLaws_8 : decode cX12_findLaws 8 = .ok (.sipush 200, 3) := by decide +kernel
theorem dX12_findLaws_11 : decode cX12_findLaws 11 = .ok (.if_icmp .gt 61, 3) := by decide +kernel
theorem dX12_findLaws_14 : decode cX12_findLaws 14 = .ok (.bipush 10, 2) := by decide +kernel
theorem dX12_findLaws_16 : decode cX12_findLaws 16 = .ok (.istore 5, 2) := by decide +kernel
theorem dX12_findLaws_18 : decode cX12_findLaws 18 = .ok (.iload 5, 2) := by decide +kernel
theorem dX12_findLaws_20 : decode cX12_findLaws 20 = .ok (.sipush 200, 3) := by decide +kernel
theorem dX12_findLaws_23 : decode cX12_findLaws 23 = .ok (.if_icmp .gt 43, 3) := by decide +kernel
theorem dX12_findLaws_26 : decode cX12_findLaws 26 = .ok (.aload_n 0, 1) := by decide +kernel
theorem dX12_findLaws_27 : decode cX12_findLaws 27 = .ok (.iload_n 1, 1) := by decide +kernel
theorem dX12_findLaws_28 : decode cX12_findLaws 28 = .ok (.iload_n 2, 1) := by decide +kernel
theorem dX12_findLaws_29 : decode cX12_findLaws 29 = .ok (.iload 4, 2) := by decide +kernel
theorem dX12_findLaws_31 : decode cX12_findLaws 31 = .ok (.iload 5, 2) := by decide +kernel
theorem dX12_findLaws_33 : decode cX12_findLaws 33 = .ok (.invokevirtual 177, 3) := by decide +kernel
theorem dX12_findLaws_36 : decode cX12_findLaws 36 = .ok (.ifCond .ne 6, 3) := by decide +kernel
theorem dX12_findLaws_39 : decode cX12_findLaws 39 = .ok (.goto 21, 3) := by decide +kernel
theorem dX12_findLaws_42 : decode cX12_findLaws 42 = .ok (.aload_n 0, 1) := by decide +kernel
theorem dX12_findLaws_43 : decode cX12_findLaws 43 = .ok (.getfield 44, 3) := by decide +kernel
theorem dX12_findLaws_46 : decode cX12_findLaws 46 = .ok (.iload_n 3, 1) := by decide +kernel
theorem dX12_findLaws_47 : decode cX12_findLaws 47 = .ok (.sipush 1000, 3) := by decide +kernel
theorem dX12_findLaws_50 : decode cX12_findLaws 50 = .ok (.iload 4, 2) := by decide +kernel
theorem dX12_findLaws_52 : decode cX12_findLaws 52 = .ok (.imul, 1) := by decide +kernel
theorem dX12_findLaws_53 : decode cX12_findLaws 53 = .ok (.iload 5, 2) := by decide +kernel
theorem dX12_findLaws_55 : decode cX12_findLaws 55 = .ok (.iadd, 1) := by decide +kernel
theorem dX12_findLaws_56 : decode cX12_findLaws 56 = .ok (.iastore, 1) := by decide +kernel
theorem dX12_findLaws_57 : decode cX12_findLaws 57 = .ok (.iinc 3 1, 3) := by decide +kernel
theorem dX12_findLaws_60 : decode cX12_findLaws 60 = .ok (.iinc 5 10, 3) := by decide +kernel
theorem dX12_findLaws_63 : decode cX12_findLaws 63 = .ok (.goto (-45), 3) := by decide +kernel
theorem dX12_findLaws_66 : decode cX12_findLaws 66 = .ok (.iinc 4 10, 3) := by decide +kernel
theorem dX12_findLaws_69 : decode cX12_findLaws 69 = .ok (.goto (-63), 3) := by decide +kernel
theorem dX12_findLaws_72 : decode cX12_findLaws 72 = .ok (.iload_n 3, 1) := by decide +kernel
theorem dX12_findLaws_73 : decode cX12_findLaws 73 = .ok (.ireturn, 1) := by decide +kernel
theorem dX12_laws_0 : decode cX12_laws 0 = .ok (.iload_n 1, 1) := by decide +kernel
theorem dX12_laws_1 : decode cX12_laws 1 = .ok (.invokestatic 100, 3) := by decide +kernel
theorem dX12_laws_4 : decode cX12_laws 4 = .ok (.ifCond .eq 20, 3) := by decide +kernel
theorem dX12_laws_7 : decode cX12_laws 7 = .ok (.iload_n 2, 1) := by decide +kernel
theorem dX12_laws_8 : decode cX12_laws 8 = .ok (.i2l, 1) := by decide +kernel
theorem dX12_laws_9 : decode cX12_laws 9 = .ok (.lconst 0, 1) := by decide +kernel
theorem dX12_laws_10 : decode cX12_laws 10 = .ok (.ldc2_w 85, 3) := by decide +kernel
theorem dX12_laws_13 : decode cX12_laws 13 = .ok (.invokestatic 57, 3) := by decide +kernel
theorem dX12_laws_16 : decode cX12_laws 16 = .ok (.ifCond .eq 8, 3) := by decide +kernel
theorem dX12_laws_19 : decode cX12_laws 19 = .ok (.iload_n 3, 1) := by decide +kernel
theorem dX12_laws_20 : decode cX12_laws 20 = .ok (.iconst (-1), 1) := by decide +kernel
theorem dX12_laws_21 : decode cX12_laws 21 = .ok (.if_icmp .ge 5, 3) := by decide +kernel
theorem dX12_laws_24 : decode cX12_laws 24 = .ok (.iconst (-1), 1) := by decide +kernel
theorem dX12_laws_25 : decode cX12_laws 25 = .ok (.ireturn, 1) := by decide +kernel
theorem dX12_laws_26 : decode cX12_laws 26 = .ok (.aload_n 0, 1) := by decide +kernel
theorem dX12_laws_27 : decode cX12_laws 27 = .ok (.iload_n 1, 1) := by decide +kernel
theorem dX12_laws_28 : decode cX12_laws 28 = .ok (.iload_n 2, 1) := by decide +kernel
theorem dX12_laws_29 : decode cX12_laws 29 = .ok (.invokevirtual 181, 3) := by decide +kernel
theorem dX12_laws_32 : decode cX12_laws 32 = .ok (.istore 4, 2) := by decide +kernel
theorem dX12_laws_34 : decode cX12_laws 34 = .ok (.iload_n 3, 1) := by decide +kernel
theorem dX12_laws_35 : decode cX12_laws 35 = .ok (.ifCond .ge 8, 3) := by decide +kernel
theorem dX12_laws_38 : decode cX12_laws 38 = .ok (.iload 4, 2) := by decide +kernel
theorem dX12_laws_40 : decode cX12_laws 40 = .ok (.goto 20, 3) := by decide +kernel
theorem dX12_laws_43 : decode cX12_laws 43 = .ok (.iload_n 3, 1) := by decide +kernel
theorem dX12_laws_44 : decode cX12_laws 44 = .ok (.iload 4, 2) := by decide +kernel
theorem dX12_laws_46 : decode cX12_laws 46 = .ok (.if_icmp .ge 12, 3) := by decide +kernel
theorem dX12_laws_49 : decode cX12_laws 49 = .ok (.aload_n 0, 1) := by decide +kernel
theorem dX12_laws_50 : decode cX12_laws 50 = .ok (.getfield 44, 3) := by decide +kernel
theorem dX12_laws_53 : decode cX12_laws 53 = .ok (.iload_n 3, 1) := by decide +kernel
theorem dX12_laws_54 : decode cX12_laws 54 = .ok (.iaload, 1) := by decide +kernel
theorem dX12_laws_55 : decode cX12_laws 55 = .ok (.goto 5, 3) := by decide +kernel
theorem dX12_laws_58 : decode cX12_laws 58 = .ok (.bipush (-4), 2) := by decide +kernel
theorem dX12_laws_60 : decode cX12_laws 60 = .ok (.ireturn, 1) := by decide +kernel
theorem dX12_partOf_0 : decode cX12_partOf 0 = .ok (.bipush 100, 2) := by decide +kernel
theorem dX12_partOf_2 : decode cX12_partOf 2 = .ok (.istore 4, 2) := by decide +kernel
theorem dX12_partOf_4 : decode cX12_partOf 4 = .ok (.iconst 0, 1) := by decide +kernel
theorem dX12_partOf_5 : decode cX12_partOf 5 = .ok (.istore 5, 2) := by decide +kernel
theorem dX12_partOf_7 : decode cX12_partOf 7 = .ok (.iconst 0, 1) := by decide +kernel
theorem dX12_partOf_8 : decode cX12_partOf 8 = .ok (.istore 6, 2) := by decide +kernel
theorem dX12_partOf_10 : decode cX12_partOf 10 = .ok (.iload 6, 2) := by decide +kernel
theorem dX12_partOf_12 : decode cX12_partOf 12 = .ok (.iload_n 3, 1) := by decide +kernel
theorem dX12_partOf_13 : decode cX12_partOf 13 = .ok (.if_icmp .ge 71, 3) := by decide +kernel
theorem dX12_partOf_16 : decode cX12_partOf 16 = .ok (.aload_n 0, 1) := by decide +kernel
theorem dX12_partOf_17 : decode cX12_partOf 17 = .ok (.iload_n 1, 1) := by decide +kernel
theorem dX12_partOf_18 : decode cX12_partOf 18 = .ok (.iload_n 2, 1) := by decide +kernel
theorem dX12_partOf_19 : decode cX12_partOf 19 = .ok (.aload_n 0, 1) := by decide +kernel
theorem dX12_partOf_20 : decode cX12_partOf 20 = .ok (.getfield 44, 3) := by decide +kernel
theorem dX12_partOf_23 : decode cX12_partOf 23 = .ok (.iload 6, 2) := by decide +kernel
theorem dX12_partOf_25 : decode cX12_partOf 25 = .ok (.iaload, 1) := by decide +kernel
theorem dX12_partOf_26 : decode cX12_partOf 26 = .ok (.sipush 1000, 3) := by decide +kernel
theorem dX12_partOf_29 : decode cX12_partOf 29 = .ok (.idiv, 1) := by decide +kernel
theorem dX12_partOf_30 : decode cX12_partOf 30 = .ok (.aload_n 0, 1) := by decide +kernel
theorem dX12_partOf_31 : decode cX12_partOf 31 = .ok (.getfield 44, 3) := by decide +kernel
theorem dX12_partOf_34 : decode cX12_partOf 34 = .ok (.iload 6, 2) := by decide +kernel
theorem dX12_partOf_36 : decode cX12_partOf 36 = .ok (.iaload, 1) := by decide +kernel
theorem dX12_partOf_37 : decode cX12_partOf 37 = .ok (.sipush 1000, 3) := by decide +kernel
theorem dX12_partOf_40 : decode cX12_partOf 40 = .ok (.irem, 1) := by decide +kernel
theorem dX12_partOf_41 : decode cX12_partOf 41 = .ok (.invokevirtual 126, 3) := by decide +kernel
theorem dX12_partOf_44 : decode cX12_partOf 44 = .ok (.istore 7, 2) := by decide +kernel
theorem dX12_partOf_46 : decode cX12_partOf 46 = .ok (.iload 7, 2) := by decide +kernel
theorem dX12_partOf_48 : decode cX12_partOf 48 = .ok (.iload 4, 2) := by decide +kernel
theorem dX12_partOf_50 : decode cX12_partOf 50 = .ok (.if_icmp .ge 8, 3) := by decide +kernel
theorem dX12_partOf_53 : decode cX12_partOf 53 = .ok (.iload 7, 2) := by decide +kernel
theorem dX12_partOf_55 : decode cX12_partOf 55 = .ok (.goto 5, 3) := by decide +kernel
theorem dX12_partOf_58 : decode cX12_partOf 58 = .ok (.iload 4, 2) := by decide +kernel
theorem dX12_partOf_60 : decode cX12_partOf 60 = .ok (.istore 4, 2) := by decide +kernel
theorem dX12_partOf_62 : decode cX12_partOf 62 = .ok (.iload 7, 2) := by decide +kernel
theorem dX12_partOf_64 : decode cX12_partOf 64 = .ok (.iload 5, 2) := by decide +kernel
theorem dX12_partOf_66 : decode cX12_partOf 66 = .ok (.if_icmp .le 8, 3) := by decide +kernel
theorem dX12_partOf_69 : decode cX12_partOf 69 = .ok (.iload 7, 2) := by decide +kernel
theorem dX12_partOf_71 : decode cX12_partOf 71 = .ok (.goto 5, 3) := by decide +kernel
theorem dX12_partOf_74 : decode cX12_partOf 74 = .ok (.iload 5, 2) := by decide +kernel
theorem dX12_partOf_76 : decode cX12_partOf 76 = .ok (.istore 5, 2) := by decide +kernel
theorem dX12_partOf_78 : decode cX12_partOf 78 = .ok (.iinc 6 1, 3) := by decide +kernel
theorem dX12_partOf_81 : decode cX12_partOf 81 = .ok (.goto (-71), 3) := by decide +kernel
theorem dX12_partOf_84 : decode cX12_partOf 84 = .ok (.iload 5, 2) := by decide +kernel
theorem dX12_partOf_86 : decode cX12_partOf 86 = .ok (.iload 4, 2) := by decide +kernel
theorem dX12_partOf_88 : decode cX12_partOf 88 = .ok (.isub, 1) := by decide +kernel
theorem dX12_partOf_89 : decode cX12_partOf 89 = .ok (.ireturn, 1) := by decide +kernel
theorem dX12_parts_0 : decode cX12_parts 0 = .ok (.iload_n 1, 1) := by decide +kernel
theorem dX12_parts_1 : decode cX12_parts 1 = .ok (.invokestatic 100, 3) := by decide +kernel
theorem dX12_parts_4 : decode cX12_parts 4 = .ok (.ifCond .eq 25, 3) := by decide +kernel
theorem dX12_parts_7 : decode cX12_parts 7 = .ok (.iload_n 2, 1) := by decide +kernel
theorem dX12_parts_8 : decode cX12_parts 8 = .ok (.i2l, 1) := by decide +kernel
theorem dX12_parts_9 : decode cX12_parts 9 = .ok (.lconst 0, 1) := by decide +kernel
theorem dX12_parts_10 : decode cX12_parts 10 = .ok (.ldc2_w 85, 3) := by decide +kernel
theorem dX12_parts_13 : decode cX12_parts 13 = .ok (.invokestatic 57, 3) := by decide +kernel
theorem dX12_parts_16 : decode cX12_parts 16 = .ok (.ifCond .eq 13, 3) := by decide +kernel
theorem dX12_parts_19 : decode cX12_parts 19 = .ok (.aload_n 0, 1) := by decide +kernel
theorem dX12_parts_20 : decode cX12_parts 20 = .ok (.iload_n 3, 1) := by decide +kernel
theorem dX12_parts_21 : decode cX12_parts 21 = .ok (.iload 4, 2) := by decide +kernel
theorem dX12_parts_23 : decode cX12_parts 23 = .ok (.invokevirtual 130, 3) := by decide +kernel
theorem dX12_parts_26 : decode cX12_parts 26 = .ok (.ifCond .ne 5, 3) := by decide +kernel
theorem dX12_parts_29 : decode cX12_parts 29 = .ok (.iconst (-1), 1) := by decide +kernel
theorem dX12_parts_30 : decode cX12_parts 30 = .ok (.ireturn, 1) := by decide +kernel
theorem dX12_parts_31 : decode cX12_parts 31 = .ok (.aload_n 0, 1) := by decide +kernel
theorem dX12_parts_32 : decode cX12_parts 32 = .ok (.iload_n 1, 1) := by decide +kernel
theorem dX12_parts_33 : decode cX12_parts 33 = .ok (.iload_n 2, 1) := by decide +kernel
theorem dX12_parts_34 : decode cX12_parts 34 = .ok (.invokevirtual 181, 3) := by decide +kernel
theorem dX12_parts_37 : decode cX12_parts 37 = .ok (.istore 5, 2) := by decide +kernel
theorem dX12_parts_39 : decode cX12_parts 39 = .ok (.iload 5, 2) := by decide +kernel
theorem dX12_parts_41 : decode cX12_parts 41 = .ok (.ifCond .ne 8, 3) := by decide +kernel
theorem dX12_parts_44 : decode cX12_parts 44 = .ok (.bipush (-4), 2) := by decide +kernel
theorem dX12_parts_46 : decode cX12_parts 46 = .ok (.goto 12, 3) := by decide +kernel
theorem dX12_parts_49 : decode cX12_parts 49 = .ok (.aload_n 0, 1) := by decide +kernel
theorem dX12_parts_50 : decode cX12_parts 50 = .ok (.iload_n 3, 1) := by decide +kernel
theorem dX12_parts_51 : decode cX12_parts 51 = .ok (.iload 4, 2) := by decide +kernel
theorem dX12_parts_53 : decode cX12_parts 53 = .ok (.iload 5, 2) := by decide +kernel
theorem dX12_parts_55 : decode cX12_parts 55 = .ok (.invokevirtual 184, 3) := by decide +kernel
theorem dX12_parts_58 : decode cX12_parts 58 = .ok (.ireturn, 1) := by decide +kernel
theorem dX12_show_0 : decode cX12_show 0 = .ok (.iload_n 1, 1) := by decide +kernel
theorem dX12_show_1 : decode cX12_show 1 = .ok (.invokestatic 100, 3) := by decide +kernel
theorem dX12_show_4 : decode cX12_show 4 = .ok (.ifCond .eq 15, 3) := by decide +kernel
theorem dX12_show_7 : decode cX12_show 7 = .ok (.iload_n 2, 1) := by decide +kernel
theorem dX12_show_8 : decode cX12_show 8 = .ok (.i2l, 1) := by decide +kernel
theorem dX12_show_9 : decode cX12_show 9 = .ok (.lconst 0, 1) := by decide +kernel
theorem dX12_show_10 : decode cX12_show 10 = .ok (.ldc2_w 85, 3) := by decide +kernel
theorem dX12_show_13 : decode cX12_show 13 = .ok (.invokestatic 57, 3) := by decide +kernel
theorem dX12_show_16 : decode cX12_show 16 = .ok (.ifCond .ne 5, 3) := by decide +kernel
theorem dX12_show_19 : decode cX12_show 19 = .ok (.iconst (-1), 1) := by decide +kernel
theorem dX12_show_20 : decode cX12_show 20 = .ok (.ireturn, 1) := by decide +kernel
theorem dX12_show_21 : decode cX12_show 21 = .ok (.aload_n 0, 1) := by decide +kernel
theorem dX12_show_22 : decode cX12_show 22 = .ok (.iload_n 1, 1) := by decide +kernel
theorem dX12_show_23 : decode cX12_show 23 = .ok (.iload_n 2, 1) := by decide +kernel
theorem dX12_show_24 : decode cX12_show 24 = .ok (.invokevirtual 181, 3) := by decide +kernel
theorem dX12_show_27 : decode cX12_show 27 = .ok (.istore_n 3, 1) := by decide +kernel
theorem dX12_show_28 : decode cX12_show 28 = .ok (.iload_n 3, 1) := by decide +kernel
theorem dX12_show_29 : decode cX12_show 29 = .ok (.ifCond .ne 6, 3) := by decide +kernel
theorem dX12_show_32 : decode cX12_show 32 = .ok (.bipush (-4), 2) := by decide +kernel
theorem dX12_show_34 : decode cX12_show 34 = .ok (.ireturn, 1) := by decide +kernel
theorem dX12_show_35 : decode cX12_show 35 = .ok (.bipush (-4), 2) := by decide +kernel
theorem dX12_show_37 : decode cX12_show 37 = .ok (.istore 4, 2) := by decide +kernel
theorem dX12_show_39 : decode cX12_show 39 = .ok (.iconst 0, 1) := by decide +kernel
theorem dX12_show_40 : decode cX12_show 40 = .ok (.istore 5, 2) := by decide +kernel
theorem dX12_show_42 : decode cX12_show 42 = .ok (.iconst 0, 1) := by decide +kernel
theorem dX12_show_43 : decode cX12_show 43 = .ok (.istore 6, 2) := by decide +kernel
theorem dX12_show_45 : decode cX12_show 45 = .ok (.iload 6, 2) := by decide +kernel
theorem dX12_show_47 : decode cX12_show 47 = .ok (.aload_n 0, 1) := by decide +kernel
theorem dX12_show_48 : decode cX12_show 48 = .ok (.getfield 9, 3) := by decide +kernel
theorem dX12_show_51 : decode cX12_show 51 = .ok (.iconst 1, 1) := by decide +kernel
theorem dX12_show_52 : decode cX12_show 52 = .ok (.iaload, 1) := by decide +kernel
theorem dX12_show_53 : decode cX12_show 53 = .ok (.if_icmp .ge 72, 3) := by decide +kernel
theorem dX12_show_56 : decode cX12_show 56 = .ok (.iload 6, 2) := by decide +kernel
theorem dX12_show_58 : decode cX12_show 58 = .ok (.iconst 1, 1) := by decide +kernel
theorem dX12_show_59 : decode cX12_show 59 = .ok (.iadd, 1) := by decide +kernel
theorem dX12_show_60 : decode cX12_show 60 = .ok (.istore 7, 2) := by decide +kernel
theorem dX12_show_62 : decode cX12_show 62 = .ok (.iload 7, 2) := by decide +kernel
theorem dX12_show_64 : decode cX12_show 64 = .ok (.aload_n 0, 1) := by decide +kernel
theorem dX12_show_65 : decode cX12_show 65 = .ok (.getfield 9, 3) := by decide +kernel
theorem dX12_show_68 : decode cX12_show 68 = .ok (.iconst 1, 1) := by decide +kernel
theorem dX12_show_69 : decode cX12_show 69 = .ok (.iaload, 1) := by decide +kernel
theorem dX12_show_70 : decode cX12_show 70 = .ok (.if_icmp .ge 49, 3) := by decide +kernel
theorem dX12_show_73 : decode cX12_show 73 = .ok (.aload_n 0, 1) := by decide +kernel
theorem dX12_show_74 : decode cX12_show 74 = .ok (.iload 6, 2) := by decide +kernel
theorem dX12_show_76 : decode cX12_show 76 = .ok (.iload 7, 2) := by decide +kernel
theorem dX12_show_78 : decode cX12_show 78 = .ok (.iload_n 3, 1) := by decide +kernel
theorem dX12_show_79 : decode cX12_show 79 = .ok (.invokevirtual 184, 3) := by decide +kernel
theorem dX12_show_82 : decode cX12_show 82 = .ok (.istore 8, 2) := by decide +kernel
theorem dX12_show_84 : decode cX12_show 84 = .ok (.iload 4, 2) := by decide +kernel
theorem dX12_show_86 : decode cX12_show 86 = .ok (.ifCond .lt 13, 3) := by decide +kernel
theorem dX12_show_89 : decode cX12_show 89 = .ok (.iload 8, 2) := by decide +kernel
theorem dX12_show_91 : decode cX12_show 91 = .ok (.iload 5, 2) := by decide +kernel
theorem dX12_show_93 : decode cX12_show 93 = .ok (.if_icmp .gt 6, 3) := by decide +kernel
theorem dX12_show_96 : decode cX12_show 96 = .ok (.goto 17, 3) := by decide +kernel
theorem dX12_show_99 : decode cX12_show 99 = .ok (.bipush 100, 2) := by decide +kernel
theorem dX12_show_101 : decode cX12_show 101 = .ok (.iload 6, 2) := by decide +kernel
theorem dX12_show_103 : decode cX12_show 103 = .ok (.imul, 1) := by decide +kernel
theorem dX12_show_104 : decode cX12_show 104 = .ok (.iload 7, 2) := by decide +kernel
theorem dX12_show_106 : decode cX12_show 106 = .ok (.iadd, 1) := by decide +kernel
theorem dX12_show_107 : decode cX12_show 107 = .ok (.istore 4, 2) := by decide +kernel
theorem dX12_show_109 : decode cX12_show 109 = .ok (.iload 8, 2) := by decide +kernel
theorem dX12_show_111 : decode cX12_show 111 = .ok (.istore 5, 2) := by decide +kernel
theorem dX12_show_113 : decode cX12_show 113 = .ok (.iinc 7 1, 3) := by decide +kernel
theorem dX12_show_116 : decode cX12_show 116 = .ok (.goto (-54), 3) := by decide +kernel
theorem dX12_show_119 : decode cX12_show 119 = .ok (.iinc 6 1, 3) := by decide +kernel
theorem dX12_show_122 : decode cX12_show 122 = .ok (.goto (-77), 3) := by decide +kernel
theorem dX12_show_125 : decode cX12_show 125 = .ok (.iload 4, 2) := by decide +kernel
theorem dX12_show_127 : decode cX12_show 127 = .ok (.ireturn, 1) := by decide +kernel
theorem dX12_disagree_0 : decode cX12_disagree 0 = .ok (.iload_n 1, 1) := by decide +kernel
theorem dX12_disagree_1 : decode cX12_disagree 1 = .ok (.invokestatic 100, 3) := by decide +kernel
theorem dX12_disagree_4 : decode cX12_disagree 4 = .ok (.ifCond .eq 28, 3) := by decide +kernel
theorem dX12_disagree_7 : decode cX12_disagree 7 = .ok (.iload_n 2, 1) := by decide +kernel
theorem dX12_disagree_8 : decode cX12_disagree 8 = .ok (.invokestatic 100, 3) := by decide +kernel
theorem dX12_disagree_11 : decode cX12_disagree 11 = .ok (.ifCond .eq 21, 3) := by decide +kernel
theorem dX12_disagree_14 : decode cX12_disagree 14 = .ok (.aload_n 0, 1) := by decide +kernel
theorem dX12_disagree_15 : decode cX12_disagree 15 = .ok (.iload_n 3, 1) := by decide +kernel
theorem dX12_disagree_16 : decode cX12_disagree 16 = .ok (.iload 4, 2) := by decide +kernel
theorem dX12_disagree_18 : decode cX12_disagree 18 = .ok (.invokevirtual 130, 3) := by decide +kernel
theorem dX12_disagree_21 : decode cX12_disagree 21 = .ok (.ifCond .eq 11, 3) := by decide +kernel
theorem dX12_disagree_24 : decode cX12_disagree 24 = .ok (.iload 5, 2) := by decide +kernel
theorem dX12_disagree_26 : decode cX12_disagree 26 = .ok (.invokestatic 107, 3) := by decide +kernel
theorem dX12_disagree_29 : decode cX12_disagree 29 = .ok (.ifCond .ne 6, 3) := by decide +kernel
theorem dX12_disagree_32 : decode cX12_disagree 32 = .ok (.ldc 188, 2) := by decide +kernel
theorem dX12_disagree_34 : decode cX12_disagree 34 = .ok (.ireturn, 1) := by decide +kernel
theorem dX12_disagree_35 : decode cX12_disagree 35 = .ok (.aload_n 0, 1) := by decide +kernel
theorem dX12_disagree_36 : decode cX12_disagree 36 = .ok (.iload_n 3, 1) := by decide +kernel
theorem dX12_disagree_37 : decode cX12_disagree 37 = .ok (.iload 4, 2) := by decide +kernel
theorem dX12_disagree_39 : decode cX12_disagree 39 = .ok (.iload_n 1, 1) := by decide +kernel
theorem dX12_disagree_40 : decode cX12_disagree 40 = .ok (.iload 5, 2) := by decide +kernel
theorem dX12_disagree_42 : decode cX12_disagree 42 = .ok (.invokevirtual 134, 3) := by decide +kernel
theorem dX12_disagree_45 : decode cX12_disagree 45 = .ok (.aload_n 0, 1) := by decide +kernel
theorem dX12_disagree_46 : decode cX12_disagree 46 = .ok (.iload_n 3, 1) := by decide +kernel
theorem dX12_disagree_47 : decode cX12_disagree 47 = .ok (.iload 4, 2) := by decide +kernel
theorem dX12_disagree_49 : decode cX12_disagree 49 = .ok (.iload_n 2, 1) := by decide +kernel
theorem dX12_disagree_50 : decode cX12_disagree 50 = .ok (.iload 5, 2) := by decide +kernel
theorem dX12_disagree_52 : decode cX12_disagree 52 = .ok (.invokevirtual 134, 3) := by decide +kernel
theorem dX12_disagree_55 : decode cX12_disagree 55 = .ok (.isub, 1) := by decide +kernel
theorem dX12_disagree_56 : decode cX12_disagree 56 = .ok (.ireturn, 1) := by decide +kernel
theorem dX12_meanOf_0 : decode cX12_meanOf 0 = .ok (.iconst 0, 1) := by decide +kernel
theorem dX12_meanOf_1 : decode cX12_meanOf 1 = .ok (.istore_n 3, 1) := by decide +kernel
theorem dX12_meanOf_2 : decode cX12_meanOf 2 = .ok (.iconst 0, 1) := by decide +kernel
theorem dX12_meanOf_3 : decode cX12_meanOf 3 = .ok (.istore 4, 2) := by decide +kernel
theorem dX12_meanOf_5 : decode cX12_meanOf 5 = .ok (.iconst 0, 1) := by decide +kernel
theorem dX12_meanOf_6 : decode cX12_meanOf 6 = .ok (.istore 5, 2) := by decide +kernel
theorem dX12_meanOf_8 : decode cX12_meanOf 8 = .ok (.iload 5, 2) := by decide +kernel
theorem dX12_meanOf_10 : decode cX12_meanOf 10 = .ok (.bipush 8, 2) := by decide +kernel
theorem dX12_meanOf_12 : decode cX12_meanOf 12 = .ok (.if_icmp .ge 41, 3) := by decide +kernel
theorem dX12_meanOf_15 : decode cX12_meanOf 15 = .ok (.iload_n 1, 1) := by decide +kernel
theorem dX12_meanOf_16 : decode cX12_meanOf 16 = .ok (.iload 5, 2) := by decide +kernel
theorem dX12_meanOf_18 : decode cX12_meanOf 18 = .ok (.ishr, 1) := by decide +kernel
theorem dX12_meanOf_19 : decode cX12_meanOf 19 = .ok (.iconst 1, 1) := by decide +kernel
theorem dX12_meanOf_20 : decode cX12_meanOf 20 = .ok (.iand, 1) := by decide +kernel
theorem dX12_meanOf_21 : decode cX12_meanOf 21 = .ok (.ifCond .ne 6, 3) := by decide +kernel
theorem dX12_meanOf_24 : decode cX12_meanOf 24 = .ok (.goto 23, 3) := by decide +kernel
theorem dX12_meanOf_27 : decode cX12_meanOf 27 = .ok (.iload_n 3, 1) := by decide +kernel
theorem dX12_meanOf_28 : decode cX12_meanOf 28 = .ok (.aload_n 0, 1) := by decide +kernel
theorem dX12_meanOf_29 : decode cX12_meanOf 29 = .ok (.getfield 9, 3) := by decide +kernel
theorem dX12_meanOf_32 : decode cX12_meanOf 32 = .ok (.bipush 70, 2) := by decide +kernel
theorem dX12_meanOf_34 : decode cX12_meanOf 34 = .ok (.iconst 3, 1) := by decide +kernel
theorem dX12_meanOf_35 : decode cX12_meanOf 35 = .ok (.iload 5, 2) := by decide +kernel
theorem dX12_meanOf_37 : decode cX12_meanOf 37 = .ok (.imul, 1) := by decide +kernel
theorem dX12_meanOf_38 : decode cX12_meanOf 38 = .ok (.iadd, 1) := by decide +kernel
theorem dX12_meanOf_39 : decode cX12_meanOf 39 = .ok (.iload_n 2, 1) := by decide +kernel
theorem dX12_meanOf_40 : decode cX12_meanOf 40 = .ok (.iadd, 1) := by decide +kernel
theorem dX12_meanOf_41 : decode cX12_meanOf 41 = .ok (.iaload, 1) := by decide +kernel
theorem dX12_meanOf_42 : decode cX12_meanOf 42 = .ok (.iadd, 1) := by decide +kernel
theorem dX12_meanOf_43 : decode cX12_meanOf 43 = .ok (.istore_n 3, 1) := by decide +kernel
theorem dX12_meanOf_44 : decode cX12_meanOf 44 = .ok (.iinc 4 1, 3) := by decide +kernel
theorem dX12_meanOf_47 : decode cX12_meanOf 47 = .ok (.iinc 5 1, 3) := by decide +kernel
theorem dX12_meanOf_50 : decode cX12_meanOf 50 = .ok (.goto (-42), 3) := by decide +kernel
theorem dX12_meanOf_53 : decode cX12_meanOf 53 = .ok (.iload_n 3, 1) := by decide +kernel
theorem dX12_meanOf_54 : decode cX12_meanOf 54 = .ok (.iload 4, 2) := by decide +kernel
theorem dX12_meanOf_56 : decode cX12_meanOf 56 = .ok (.idiv, 1) := by decide +kernel
theorem dX12_meanOf_57 : decode cX12_meanOf 57 = .ok (.ireturn, 1) := by decide +kernel
theorem dX12_mean_0 : decode cX12_mean 0 = .ok (.iload_n 1, 1) := by decide +kernel
theorem dX12_mean_1 : decode cX12_mean 1 = .ok (.i2l, 1) := by decide +kernel
theorem dX12_mean_2 : decode cX12_mean 2 = .ok (.lconst 1, 1) := by decide +kernel
theorem dX12_mean_3 : decode cX12_mean 3 = .ok (.ldc2_w 189, 3) := by decide +kernel
theorem dX12_mean_6 : decode cX12_mean 6 = .ok (.invokestatic 57, 3) := by decide +kernel
theorem dX12_mean_9 : decode cX12_mean 9 = .ok (.ifCond .eq 24, 3) := by decide +kernel
theorem dX12_mean_12 : decode cX12_mean 12 = .ok (.iload_n 2, 1) := by decide +kernel
theorem dX12_mean_13 : decode cX12_mean 13 = .ok (.i2l, 1) := by decide +kernel
theorem dX12_mean_14 : decode cX12_mean 14 = .ok (.lconst 0, 1) := by decide +kernel
theorem dX12_mean_15 : decode cX12_mean 15 = .ok (.ldc2_w 103, 3) := by decide +kernel
theorem dX12_mean_18 : decode cX12_mean 18 = .ok (.invokestatic 57, 3) := by decide +kernel
theorem dX12_mean_21 : decode cX12_mean 21 = .ok (.ifCond .eq 12, 3) := by decide +kernel
theorem dX12_mean_24 : decode cX12_mean 24 = .ok (.aload_n 0, 1) := by decide +kernel
theorem dX12_mean_25 : decode cX12_mean 25 = .ok (.iload_n 1, 1) := by decide +kernel
theorem dX12_mean_26 : decode cX12_mean 26 = .ok (.iload_n 2, 1) := by decide +kernel
theorem dX12_mean_27 : decode cX12_mean 27 = .ok (.invokevirtual 191, 3) := by decide +kernel
theorem dX12_mean_30 : decode cX12_mean 30 = .ok (.goto 4, 3) := by decide +kernel
theorem dX12_mean_33 : decode cX12_mean 33 = .ok (.iconst (-1), 1) := by decide +kernel
theorem dX12_mean_34 : decode cX12_mean 34 = .ok (.ireturn, 1) := by decide +kernel
theorem dX12_stands_0 : decode cX12_stands 0 = .ok (.iload_n 1, 1) := by decide +kernel
theorem dX12_stands_1 : decode cX12_stands 1 = .ok (.i2l, 1) := by decide +kernel
theorem dX12_stands_2 : decode cX12_stands 2 = .ok (.lconst 1, 1) := by decide +kernel
theorem dX12_stands_3 : decode cX12_stands 3 = .ok (.ldc2_w 189, 3) := by decide +kernel
theorem dX12_stands_6 : decode cX12_stands 6 = .ok (.invokestatic 57, 3) := by decide +kernel
theorem dX12_stands_9 : decode cX12_stands 9 = .ok (.ifCond .eq 12, 3) := by decide +kernel
theorem dX12_stands_12 : decode cX12_stands 12 = .ok (.aload_n 0, 1) := by decide +kernel
theorem dX12_stands_13 : decode cX12_stands 13 = .ok (.iload_n 2, 1) := by decide +kernel
theorem dX12_stands_14 : decode cX12_stands 14 = .ok (.iload_n 3, 1) := by decide +kernel
theorem dX12_stands_15 : decode cX12_stands 15 = .ok (.invokevirtual 130, 3) := by decide +kernel
theorem dX12_stands_18 : decode cX12_stands 18 = .ok (.ifCond .ne 5, 3) := by decide +kernel
theorem dX12_stands_21 : decode cX12_stands 21 = .ok (.iconst (-1), 1) := by decide +kernel
theorem dX12_stands_22 : decode cX12_stands 22 = .ok (.ireturn, 1) := by decide +kernel
theorem dX12_stands_23 : decode cX12_stands 23 = .ok (.aload_n 0, 1) := by decide +kernel
theorem dX12_stands_24 : decode cX12_stands 24 = .ok (.iload_n 2, 1) := by decide +kernel
theorem dX12_stands_25 : decode cX12_stands 25 = .ok (.iload_n 3, 1) := by decide +kernel
theorem dX12_stands_26 : decode cX12_stands 26 = .ok (.aload_n 0, 1) := by decide +kernel
theorem dX12_stands_27 : decode cX12_stands 27 = .ok (.iload_n 1, 1) := by decide +kernel
theorem dX12_stands_28 : decode cX12_stands 28 = .ok (.iconst 0, 1) := by decide +kernel
theorem dX12_stands_29 : decode cX12_stands 29 = .ok (.invokevirtual 191, 3) := by decide +kernel
theorem dX12_stands_32 : decode cX12_stands 32 = .ok (.aload_n 0, 1) := by decide +kernel
theorem dX12_stands_33 : decode cX12_stands 33 = .ok (.iload_n 1, 1) := by decide +kernel
theorem dX12_stands_34 : decode cX12_stands 34 = .ok (.iconst 1, 1) := by decide +kernel
theorem dX12_stands_35 : decode cX12_stands 35 = .ok (.invokevirtual 191, 3) := by decide +kernel
theorem dX12_stands_38 : decode cX12_stands 38 = .ok (.invokevirtual 126, 3) := by decide +kernel
theorem dX12_stands_41 : decode cX12_stands 41 = .ok (.istore 4, 2) := by decide +kernel
theorem dX12_stands_43 : decode cX12_stands 43 = .ok (.iconst 0, 1) := by decide +kernel
theorem dX12_stands_44 : decode cX12_stands 44 = .ok (.istore 5, 2) := by decide +kernel
theorem dX12_stands_46 : decode cX12_stands 46 = .ok (.iconst 0, 1) := by decide +kernel
theorem dX12_stands_47 : decode cX12_stands 47 = .ok (.istore 6, 2) := by decide +kernel
theorem dX12_stands_49 : decode cX12_stands 49 = .ok (.iload 6, 2) := by decide +kernel
theorem dX12_stands_51 : decode cX12_stands 51 = .ok (.bipush 8, 2) := by decide +kernel
theorem dX12_stands_53 : decode cX12_stands 53 = .ok (.if_icmp .ge 59, 3) := by decide +kernel
theorem dX12_stands_56 : decode cX12_stands 56 = .ok (.aload_n 0, 1) := by decide +kernel
theorem dX12_stands_57 : decode cX12_stands 57 = .ok (.iload_n 2, 1) := by decide +kernel
theorem dX12_stands_58 : decode cX12_stands 58 = .ok (.iload_n 3, 1) := by decide +kernel
theorem dX12_stands_59 : decode cX12_stands 59 = .ok (.iload 6, 2) := by decide +kernel
theorem dX12_stands_61 : decode cX12_stands 61 = .ok (.iconst 0, 1) := by decide +kernel
theorem dX12_stands_62 : decode cX12_stands 62 = .ok (.invokevirtual 134, 3) := by decide +kernel
theorem dX12_stands_65 : decode cX12_stands 65 = .ok (.iload 4, 2) := by decide +kernel
theorem dX12_stands_67 : decode cX12_stands 67 = .ok (.isub, 1) := by decide +kernel
theorem dX12_stands_68 : decode cX12_stands 68 = .ok (.istore 7, 2) := by decide +kernel
theorem dX12_stands_70 : decode cX12_stands 70 = .ok (.iload 5, 2) := by decide +kernel
theorem dX12_stands_72 : decode cX12_stands 72 = .ok (.iload_n 1, 1) := by decide +kernel
theorem dX12_stands_73 : decode cX12_stands 73 = .ok (.iload 6, 2) := by decide +kernel
theorem dX12_stands_75 : decode cX12_stands 75 = .ok (.ishr, 1) := by decide +kernel
theorem dX12_stands_76 : decode cX12_stands 76 = .ok (.iconst 1, 1) := by decide +kernel
theorem dX12_stands_77 : decode cX12_stands 77 = .ok (.iand, 1) := by decide +kernel
theorem dX12_stands_78 : decode cX12_stands 78 = .ok (.iconst 1, 1) := by decide +kernel
theorem dX12_stands_79 : decode cX12_stands 79 = .ok (.if_icmp .ne 23, 3) := by decide +kernel
theorem dX12_stands_82 : decode cX12_stands 82 = .ok (.iload 7, 2) := by decide +kernel
theorem dX12_stands_84 : decode cX12_stands 84 = .ok (.i2l, 1) := by decide +kernel
theorem dX12_stands_85 : decode cX12_stands 85 = .ok (.ldc2_w 194, 3) := by decide +kernel
theorem dX12_stands_88 : decode cX12_stands 88 = .ok (.lconst 1, 1) := by decide +kernel
theorem dX12_stands_89 : decode cX12_stands 89 = .ok (.invokestatic 57, 3) := by decide +kernel
theorem dX12_stands_92 : decode cX12_stands 92 = .ok (.ifCond .eq 10, 3) := by decide +kernel
theorem dX12_stands_95 : decode cX12_stands 95 = .ok (.iconst 1, 1) := by decide +kernel
theorem dX12_stands_96 : decode cX12_stands 96 = .ok (.iload 6, 2) := by decide +kernel
theorem dX12_stands_98 : decode cX12_stands 98 = .ok (.ishl, 1) := by decide +kernel
theorem dX12_stands_99 : decode cX12_stands 99 = .ok (.goto 4, 3) := by decide +kernel
theorem dX12_stands_102 : decode cX12_stands 102 = .ok (.iconst 0, 1) := by decide +kernel
theorem dX12_stands_103 : decode cX12_stands 103 = .ok (.ior, 1) := by decide +kernel
theorem dX12_stands_104 : decode cX12_stands 104 = .ok (.istore 5, 2) := by decide +kernel
theorem dX12_stands_106 : decode cX12_stands 106 = .ok (.iinc 6 1, 3) := by decide +kernel
theorem dX12_stands_109 : decode cX12_stands 109 = .ok (.goto (-60), 3) := by decide +kernel
theorem dX12_stands_112 : decode cX12_stands 112 = .ok (.iload 5, 2) := by decide +kernel
theorem dX12_stands_114 : decode cX12_stands 114 = .ok (.ireturn, 1) := by decide +kernel
theorem dX12_sign_0 : decode cX12_sign 0 = .ok (.aload_n 0, 1) := by decide +kernel
theorem dX12_sign_1 : decode cX12_sign 1 = .ok (.getfield 196, 3) := by decide +kernel
theorem dX12_sign_4 : decode cX12_sign 4 = .ok (.aload_n 0, 1) := by decide +kernel
theorem dX12_sign_5 : decode cX12_sign 5 = .ok (.getfield 199, 3) := by decide +kernel
theorem dX12_sign_8 : decode cX12_sign 8 = .ok (.if_icmp .ge 20, 3) := by decide +kernel
theorem dX12_sign_11 : decode cX12_sign 11 = .ok (.aload_n 0, 1) := by decide +kernel
theorem dX12_sign_12 : decode cX12_sign 12 = .ok (.getfield 47, 3) := by decide +kernel
theorem dX12_sign_15 : decode cX12_sign 15 = .ok (.aload_n 0, 1) := by decide +kernel
theorem dX12_sign_16 : decode cX12_sign 16 = .ok (.getfield 202, 3) := by decide +kernel
theorem dX12_sign_19 : decode cX12_sign 19 = .ok (.aload_n 0, 1) := by decide +kernel
theorem dX12_sign_20 : decode cX12_sign 20 = .ok (.getfield 196, 3) := by decide +kernel
theorem dX12_sign_23 : decode cX12_sign 23 = .ok (.iadd, 1) := by decide +kernel
theorem dX12_sign_24 : decode cX12_sign 24 = .ok (.iaload, 1) := by decide +kernel
theorem dX12_sign_25 : decode cX12_sign 25 = .ok (.goto 6, 3) := by decide +kernel
theorem dX12_sign_28 : decode cX12_sign 28 = .ok (.sipush (-1000), 3) := by decide +kernel
theorem dX12_sign_31 : decode cX12_sign 31 = .ok (.ireturn, 1) := by decide +kernel
theorem dX12_takes_0 : decode cX12_takes 0 = .ok (.aload_n 0, 1) := by decide +kernel
theorem dX12_takes_1 : decode cX12_takes 1 = .ok (.invokevirtual 205, 3) := by decide +kernel
theorem dX12_takes_4 : decode cX12_takes 4 = .ok (.iload_n 1, 1) := by decide +kernel
theorem dX12_takes_5 : decode cX12_takes 5 = .ok (.if_icmp .eq 5, 3) := by decide +kernel
theorem dX12_takes_8 : decode cX12_takes 8 = .ok (.iconst 0, 1) := by decide +kernel
theorem dX12_takes_9 : decode cX12_takes 9 = .ok (.ireturn, 1) := by decide +kernel
theorem dX12_takes_10 : decode cX12_takes 10 = .ok (.aload_n 0, 1) := by decide +kernel
theorem dX12_takes_11 : decode cX12_takes 11 = .ok (.dup, 1) := by decide +kernel
theorem dX12_takes_12 : decode cX12_takes 12 = .ok (.getfield 196, 3) := by decide +kernel
theorem dX12_takes_15 : decode cX12_takes 15 = .ok (.iconst 1, 1) := by decide +kernel
theorem dX12_takes_16 : decode cX12_takes 16 = .ok (.iadd, 1) := by decide +kernel
theorem dX12_takes_17 : decode cX12_takes 17 = .ok (.putfield 196, 3) := by decide +kernel
theorem dX12_takes_20 : decode cX12_takes 20 = .ok (.iconst 1, 1) := by decide +kernel
theorem dX12_takes_21 : decode cX12_takes 21 = .ok (.ireturn, 1) := by decide +kernel
theorem dX12_readsNumber_0 : decode cX12_readsNumber 0 = .ok (.aload_n 0, 1) := by decide +kernel
theorem dX12_readsNumber_1 : decode cX12_readsNumber 1 = .ok (.invokevirtual 205, 3) := by decide +kernel
theorem dX12_readsNumber_4 : decode cX12_readsNumber 4 = .ok (.i2l, 1) := by decide +kernel
theorem dX12_readsNumber_5 : decode cX12_readsNumber 5 = .ok (.ldc2_w 209, 3) := by decide +kernel
theorem dX12_readsNumber_8 : decode cX12_readsNumber 8 = .ok (.ldc2_w 211, 3) := by decide +kernel
theorem dX12_readsNumber_11 : decode cX12_readsNumber 11 = .ok (.invokestatic 57, 3) := by decide +kernel
theorem dX12_readsNumber_14 : decode cX12_readsNumber 14 = .ok (.ifCond .ne 5, 3) := by decide +kernel
theorem dX12_readsNumber_17 : decode cX12_readsNumber 17 = .ok (.iconst 0, 1) := by decide +kernel
theorem dX12_readsNumber_18 : decode cX12_readsNumber 18 = .ok (.ireturn, 1) := by decide +kernel
theorem dX12_readsNumber_19 : decode cX12_readsNumber 19 = .ok (.aload_n 0, 1) := by decide +kernel
theorem dX12_readsNumber_20 : decode cX12_readsNumber 20 = .ok (.aload_n 0, 1) := by decide +kernel
theorem dX12_readsNumber_21 : decode cX12_readsNumber 21 = .ok (.invokevirtual 205, 3) := by decide +kernel
theorem dX12_readsNumber_24 : decode cX12_readsNumber 24 = .ok (.bipush 48, 2) := by decide +kernel
theorem dX12_readsNumber_26 : decode cX12_readsNumber 26 = .ok (.isub, 1) := by decide +kernel
theorem dX12_readsNumber_27 : decode cX12_readsNumber 27 = .ok (.putfield 213, 3) := by decide +kernel
theorem dX12_readsNumber_30 : decode cX12_readsNumber 30 = .ok (.aload_n 0, 1) := by decide +kernel
theorem dX12_readsNumber_31 : decode cX12_readsNumber 31 = .ok (.dup, 1) := by decide +kernel
theorem dX12_readsNumber_32 : decode cX12_readsNumber 32 = .ok (.getfield 196, 3) := by decide +kernel
theorem dX12_readsNumber_35 : decode cX12_readsNumber 35 = .ok (.iconst 1, 1) := by decide +kernel
theorem dX12_readsNumber_36 : decode cX12_readsNumber 36 = .ok (.iadd, 1) := by decide +kernel
theorem dX12_readsNumber_37 : decode cX12_readsNumber 37 = .ok (.putfield 196, 3) := by decide +kernel
theorem dX12_readsNumber_40 : decode cX12_readsNumber 40 = .ok (.iconst 1, 1) := by decide +kernel
theorem dX12_readsNumber_41 : decode cX12_readsNumber 41 = .ok (.istore_n 1, 1) := by decide +kernel
theorem dX12_readsNumber_42 : decode cX12_readsNumber 42 = .ok (.iload_n 1, 1) := by decide +kernel
theorem dX12_readsNumber_43 : decode cX12_readsNumber 43 = .ok (.iconst 4, 1) := by decide +kernel
theorem dX12_readsNumber_44 : decode cX12_readsNumber 44 = .ok (.if_icmp .ge 62, 3) := by decide +kernel
theorem dX12_readsNumber_47 : decode cX12_readsNumber 47 = .ok (.aload_n 0, 1) := by decide +kernel
theorem dX12_readsNumber_48 : decode cX12_readsNumber 48 = .ok (.getfield 213, 3) := by decide +kernel
theorem dX12_readsNumber_51 : decode cX12_readsNumber 51 = .ok (.ifCond .le 55, 3) := by decide +kernel
theorem dX12_readsNumber_54 : decode cX12_readsNumber 54 = .ok (.aload_n 0, 1) := by decide +kernel
theorem dX12_readsNumber_55 : decode cX12_readsNumber 55 = .ok (.invokevirtual 205, 3) := by decide +kernel
theorem dX12_readsNumber_58 : decode cX12_readsNumber 58 = .ok (.i2l, 1) := by decide +kernel
theorem dX12_readsNumber_59 : decode cX12_readsNumber 59 = .ok (.ldc2_w 209, 3) := by decide +kernel
theorem dX12_readsNumber_62 : decode cX12_readsNumber 62 = .ok (.ldc2_w 211, 3) := by decide +kernel
theorem dX12_readsNumber_65 : decode cX12_readsNumber 65 = .ok (.invokestatic 57, 3) := by decide +kernel
theorem dX12_readsNumber_68 : decode cX12_readsNumber 68 = .ok (.ifCond .eq 38, 3) := by decide +kernel
theorem dX12_readsNumber_71 : decode cX12_readsNumber 71 = .ok (.aload_n 0, 1) := by decide +kernel
theorem dX12_readsNumber_72 : decode cX12_readsNumber 72 = .ok (.bipush 10, 2) := by decide +kernel
theorem dX12_readsNumber_74 : decode cX12_readsNumber 74 = .ok (.aload_n 0, 1) := by decide +kernel
theorem dX12_readsNumber_75 : decode cX12_readsNumber 75 = .ok (.getfield 213, 3) := by decide +kernel
theorem dX12_readsNumber_78 : decode cX12_readsNumber 78 = .ok (.imul, 1) := by decide +kernel
theorem dX12_readsNumber_79 : decode cX12_readsNumber 79 = .ok (.aload_n 0, 1) := by decide +kernel
theorem dX12_readsNumber_80 : decode cX12_readsNumber 80 = .ok (.invokevirtual 205, 3) := by decide +kernel
theorem dX12_readsNumber_83 : decode cX12_readsNumber 83 = .ok (.iadd, 1) := by decide +kernel
theorem dX12_readsNumber_84 : decode cX12_readsNumber 84 = .ok (.bipush 48, 2) := by decide +kernel
theorem dX12_readsNumber_86 : decode cX12_readsNumber 86 = .ok (.isub, 1) := by decide +kernel
theorem dX12_readsNumber_87 : decode cX12_readsNumber 87 = .ok (.putfield 213, 3) := by decide +kernel
theorem dX12_readsNumber_90 : decode cX12_readsNumber 90 = .ok (.aload_n 0, 1) := by decide +kernel
theorem dX12_readsNumber_91 : decode cX12_readsNumber 91 = .ok (.dup, 1) := by decide +kernel
theorem dX12_readsNumber_92 : decode cX12_readsNumber 92 = .ok (.getfield 196, 3) := by decide +kernel
theorem dX12_readsNumber_95 : decode cX12_readsNumber 95 = .ok (.iconst 1, 1) := by decide +kernel
theorem dX12_readsNumber_96 : decode cX12_readsNumber 96 = .ok (.iadd, 1) := by decide +kernel
theorem dX12_readsNumber_97 : decode cX12_readsNumber 97 = .ok (.putfield 196, 3) := by decide +kernel
theorem dX12_readsNumber_100 : decode cX12_readsNumber 100 = .ok (.iinc 1 1, 3) := by decide +kernel
theorem dX12_readsNumber_103 : decode cX12_readsNumber 103 = .ok (.goto (-61), 3) := by decide +kernel
theorem dX12_readsNumber_106 : decode cX12_readsNumber 106 = .ok (.iconst 1, 1) := by decide +kernel
theorem dX12_readsNumber_107 : decode cX12_readsNumber 107 = .ok (.ireturn, 1) := by decide +kernel
theorem dX12_readsSum_0 : decode cX12_readsSum 0 = .ok (.aload_n 0, 1) := by decide +kernel
theorem dX12_readsSum_1 : decode cX12_readsSum 1 = .ok (.invokevirtual 216, 3) := by decide +kernel
theorem dX12_readsSum_4 : decode cX12_readsSum 4 = .ok (.ifCond .ne 5, 3) := by decide +kernel
theorem dX12_readsSum_7 : decode cX12_readsSum 7 = .ok (.iconst 0, 1) := by decide +kernel
theorem dX12_readsSum_8 : decode cX12_readsSum 8 = .ok (.ireturn, 1) := by decide +kernel
theorem dX12_readsSum_9 : decode cX12_readsSum 9 = .ok (.aload_n 0, 1) := by decide +kernel
theorem dX12_readsSum_10 : decode cX12_readsSum 10 = .ok (.bipush 43, 2) := by decide +kernel
theorem dX12_readsSum_12 : decode cX12_readsSum 12 = .ok (.invokevirtual 220, 3) := by decide +kernel
theorem dX12_readsSum_15 : decode cX12_readsSum 15 = .ok (.ifCond .ne (-15), 3) := by decide +kernel
theorem dX12_readsSum_18 : decode cX12_readsSum 18 = .ok (.aload_n 0, 1) := by decide +kernel
theorem dX12_readsSum_19 : decode cX12_readsSum 19 = .ok (.bipush 45, 2) := by decide +kernel
theorem dX12_readsSum_21 : decode cX12_readsSum 21 = .ok (.invokevirtual 220, 3) := by decide +kernel
theorem dX12_readsSum_24 : decode cX12_readsSum 24 = .ok (.ifCond .ne (-24), 3) := by decide +kernel
theorem dX12_readsSum_27 : decode cX12_readsSum 27 = .ok (.iconst 1, 1) := by decide +kernel
theorem dX12_readsSum_28 : decode cX12_readsSum 28 = .ok (.ireturn, 1) := by decide +kernel
theorem dX12_readsProduct_0 : decode cX12_readsProduct 0 = .ok (.aload_n 0, 1) := by decide +kernel
theorem dX12_readsProduct_1 : decode cX12_readsProduct 1 = .ok (.invokevirtual 223, 3) := by decide +kernel
theorem dX12_readsProduct_4 : decode cX12_readsProduct 4 = .ok (.ifCond .ne 5, 3) := by decide +kernel
theorem dX12_readsProduct_7 : decode cX12_readsProduct 7 = .ok (.iconst 0, 1) := by decide +kernel
theorem dX12_readsProduct_8 : decode cX12_readsProduct 8 = .ok (.ireturn, 1) := by decide +kernel
theorem dX12_readsProduct_9 : decode cX12_readsProduct 9 = .ok (.aload_n 0, 1) := by decide +kernel
theorem dX12_readsProduct_10 : decode cX12_readsProduct 10 = .ok (.bipush 42, 2) := by decide +kernel
theorem dX12_readsProduct_12 : decode cX12_readsProduct 12 = .ok (.invokevirtual 220, 3) := by decide +kernel
theorem dX12_readsProduct_15 : decode cX12_readsProduct 15 = .ok (.ifCond .ne (-15), 3) := by decide +kernel
theorem dX12_readsProduct_18 : decode cX12_readsProduct 18 = .ok (.aload_n 0, 1) := by decide +kernel
theorem dX12_readsProduct_19 : decode cX12_readsProduct 19 = .ok (.bipush 47, 2) := by decide +kernel
theorem dX12_readsProduct_21 : decode cX12_readsProduct 21 = .ok (.invokevirtual 220, 3) := by decide +kernel
theorem dX12_readsProduct_24 : decode cX12_readsProduct 24 = .ok (.ifCond .ne (-24), 3) := by decide +kernel
theorem dX12_readsProduct_27 : decode cX12_readsProduct 27 = .ok (.iconst 1, 1) := by decide +kernel
theorem dX12_readsProduct_28 : decode cX12_readsProduct 28 = .ok (.ireturn, 1) := by decide +kernel
theorem dX12_isField_0 : decode cX12_isField 0 = .ok (.iload_n 0, 1) := by decide +kernel
theorem dX12_isField_1 : decode cX12_isField 1 = .ok (.bipush 103, 2) := by decide +kernel
theorem dX12_isField_3 : decode cX12_isField 3 = .ok (.if_icmp .eq 39, 3) := by decide +kernel
theorem dX12_isField_6 : decode cX12_isField 6 = .ok (.iload_n 0, 1) := by decide +kernel
theorem dX12_isField_7 : decode cX12_isField 7 = .ok (.bipush 115, 2) := by decide +kernel
theorem dX12_isField_9 : decode cX12_isField 9 = .ok (.if_icmp .eq 33, 3) := by decide +kernel
theorem dX12_isField_12 : decode cX12_isField 12 = .ok (.iload_n 0, 1) := by decide +kernel
theorem dX12_isField_13 : decode cX12_isField 13 = .ok (.bipush 116, 2) := by decide +kernel
theorem dX12_isField_15 : decode cX12_isField 15 = .ok (.if_icmp .eq 27, 3) := by decide +kernel
theorem dX12_isField_18 : decode cX12_isField 18 = .ok (.iload_n 0, 1) := by decide +kernel
theorem dX12_isField_19 : decode cX12_isField 19 = .ok (.bipush 104, 2) := by decide +kernel
theorem dX12_isField_21 : decode cX12_isField 21 = .ok (.if_icmp .eq 21, 3) := by decide +kernel
theorem dX12_isField_24 : decode cX12_isField 24 = .ok (.iload_n 0, 1) := by decide +kernel
theorem dX12_isField_25 : decode cX12_isField 25 = .ok (.bipush 119, 2) := by decide +kernel
theorem dX12_isField_27 : decode cX12_isField 27 = .ok (.if_icmp .eq 15, 3) := by decide +kernel
theorem dX12_isField_30 : decode cX12_isField 30 = .ok (.iload_n 0, 1) := by decide +kernel
theorem dX12_isField_31 : decode cX12_isField 31 = .ok (.bipush 100, 2) := by decide +kernel
theorem dX12_isField_33 : decode cX12_isField 33 = .ok (.if_icmp .eq 9, 3) := by decide +kernel
theorem dX12_isField_36 : decode cX12_isField 36 = .ok (.iload_n 0, 1) := by decide +kernel
theorem dX12_isField_37 : decode cX12_isField 37 = .ok (.bipush 121, 2) := by decide +kernel
theorem dX12_isField_39 : decode cX12_isField 39 = .ok (.if_icmp .ne 7, 3) := by decide +kernel
theorem dX12_isField_42 : decode cX12_isField 42 = .ok (.iconst 1, 1) := by decide +kernel
theorem dX12_isField_43 : decode cX12_isField 43 = .ok (.goto 4, 3) := by decide +kernel
theorem dX12_isField_46 : decode cX12_isField 46 = .ok (.iconst 0, 1) := by decide +kernel
theorem dX12_isField_47 : decode cX12_isField 47 = .ok (.ireturn, 1) := by decide +kernel
theorem dX12_readsAtom_0 : decode cX12_readsAtom 0 = .ok (.aload_n 0, 1) := by decide +kernel
theorem dX12_readsAtom_1 : decode cX12_readsAtom 1 = .ok (.invokevirtual 205, 3) := by decide +kernel
theorem dX12_readsAtom_4 : decode cX12_readsAtom 4 = .ok (.istore_n 1, 1) := by decide +kernel
theorem dX12_readsAtom_5 : decode cX12_readsAtom 5 = .ok (.iload_n 1, 1) := by decide +kernel
theorem dX12_readsAtom_6 : decode cX12_readsAtom 6 = .ok (.bipush 40, 2) := by decide +kernel
theorem dX12_readsAtom_8 : decode cX12_readsAtom 8 = .ok (.if_icmp .eq 9, 3) := by decide +kernel
theorem dX12_readsAtom_11 : decode cX12_readsAtom 11 = .ok (.iload_n 1, 1) := by decide +kernel
theorem dX12_readsAtom_12 : decode cX12_readsAtom 12 = .ok (.bipush 91, 2) := by decide +kernel
theorem dX12_readsAtom_14 : decode cX12_readsAtom 14 = .ok (.if_icmp .ne 97, 3) := by decide +kernel
theorem dX12_readsAtom_17 : decode cX12_readsAtom 17 = .ok (.aload_n 0, 1) := by decide +kernel
theorem dX12_readsAtom_18 : decode cX12_readsAtom 18 = .ok (.getfield 226, 3) := by decide +kernel
theorem dX12_readsAtom_21 : decode cX12_readsAtom 21 = .ok (.bipush 6, 2) := by decide +kernel
theorem dX12_readsAtom_23 : decode cX12_readsAtom 23 = .ok (.if_icmp .ne 5, 3) := by decide +kernel
theorem dX12_readsAtom_26 : decode cX12_readsAtom 26 = .ok (.iconst 0, 1) := by decide +kernel
theorem dX12_readsAtom_27 : decode cX12_readsAtom 27 = .ok (.ireturn, 1) := by decide +kernel
theorem dX12_readsAtom_28 : decode cX12_readsAtom 28 = .ok (.aload_n 0, 1) := by decide +kernel
theorem dX12_readsAtom_29 : decode cX12_readsAtom 29 = .ok (.dup, 1) := by decide +kernel
theorem dX12_readsAtom_30 : decode cX12_readsAtom 30 = .ok (.getfield 196, 3) := by decide +kernel
theorem dX12_readsAtom_33 : decode cX12_readsAtom 33 = .ok (.iconst 1, 1) := by decide +kernel
theorem dX12_readsAtom_34 : decode cX12_readsAtom 34 = .ok (.iadd, 1) := by decide +kernel
theorem dX12_readsAtom_35 : decode cX12_readsAtom 35 = .ok (.putfield 196, 3) := by decide +kernel
theorem dX12_readsAtom_38 : decode cX12_readsAtom 38 = .ok (.aload_n 0, 1) := by decide +kernel
theorem dX12_readsAtom_39 : decode cX12_readsAtom 39 = .ok (.dup, 1) := by decide +kernel
theorem dX12_readsAtom_40 : decode cX12_readsAtom 40 = .ok (.getfield 226, 3) := by decide +kernel
theorem dX12_readsAtom_43 : decode cX12_readsAtom 43 = .ok (.iconst 1, 1) := by decide +kernel
theorem dX12_readsAtom_44 : decode cX12_readsAtom 44 = .ok (.iadd, 1) := by decide +kernel
theorem dX12_readsAtom_45 : decode cX12_readsAtom 45 = .ok (.putfield 226, 3) := by decide +kernel
theorem dX12_readsAtom_48 : decode cX12_readsAtom 48 = .ok (.aload_n 0, 1) := by decide +kernel
theorem dX12_readsAtom_49 : decode cX12_readsAtom 49 = .ok (.invokevirtual 229, 3) := by decide +kernel
theorem dX12_readsAtom_52 : decode cX12_readsAtom 52 = .ok (.ifCond .eq 45, 3) := by decide +kernel
theorem dX12_readsAtom_55 : decode cX12_readsAtom 55 = .ok (.iload_n 1, 1) := by decide +kernel
theorem dX12_readsAtom_56 : decode cX12_readsAtom 56 = .ok (.bipush 91, 2) := by decide +kernel
theorem dX12_readsAtom_58 : decode cX12_readsAtom 58 = .ok (.if_icmp .ne 19, 3) := by decide +kernel
theorem dX12_readsAtom_61 : decode cX12_readsAtom 61 = .ok (.aload_n 0, 1) := by decide +kernel
theorem dX12_readsAtom_62 : decode cX12_readsAtom 62 = .ok (.bipush 44, 2) := by decide +kernel
theorem dX12_readsAtom_64 : decode cX12_readsAtom 64 = .ok (.invokevirtual 220, 3) := by decide +kernel
theorem dX12_readsAtom_67 : decode cX12_readsAtom 67 = .ok (.ifCond .eq 30, 3) := by decide +kernel
theorem dX12_readsAtom_70 : decode cX12_readsAtom 70 = .ok (.aload_n 0, 1) := by decide +kernel
theorem dX12_readsAtom_71 : decode cX12_readsAtom 71 = .ok (.invokevirtual 229, 3) := by decide +kernel
theorem dX12_readsAtom_74 : decode cX12_readsAtom 74 = .ok (.ifCond .eq 23, 3) := by decide +kernel
theorem dX12_readsAtom_77 : decode cX12_readsAtom 77 = .ok (.aload_n 0, 1) := by decide +kernel
theorem dX12_readsAtom_78 : decode cX12_readsAtom 78 = .ok (.iload_n 1, 1) := by decide +kernel
theorem dX12_readsAtom_79 : decode cX12_readsAtom 79 = .ok (.bipush 91, 2) := by decide +kernel
theorem dX12_readsAtom_81 : decode cX12_readsAtom 81 = .ok (.if_icmp .ne 8, 3) := by decide +kernel
theorem dX12_readsAtom_84 : decode cX12_readsAtom 84 = .ok (.bipush 93, 2) := by decide +kernel
theorem dX12_readsAtom_86 : decode cX12_readsAtom 86 = .ok (.goto 5, 3) := by decide +kernel
theorem dX12_readsAtom_89 : decode cX12_readsAtom 89 = .ok (.bipush 41, 2) := by decide +kernel
theorem dX12_readsAtom_91 : decode cX12_readsAtom 91 = .ok (.invokevirtual 220, 3) := by decide +kernel
theorem dX12_readsAtom_94 : decode cX12_readsAtom 94 = .ok (.ifCond .ne 5, 3) := by decide +kernel
theorem dX12_readsAtom_97 : decode cX12_readsAtom 97 = .ok (.iconst 0, 1) := by decide +kernel
theorem dX12_readsAtom_98 : decode cX12_readsAtom 98 = .ok (.ireturn, 1) := by decide +kernel
theorem dX12_readsAtom_99 : decode cX12_readsAtom 99 = .ok (.aload_n 0, 1) := by decide +kernel
theorem dX12_readsAtom_100 : decode cX12_readsAtom 100 = .ok (.dup, 1) := by decide +kernel
theorem dX12_readsAtom_101 : decode cX12_readsAtom 101 = .ok (.getfield 226, 3) := by decide +kernel
theorem dX12_readsAtom_104 : decode cX12_readsAtom 104 = .ok (.iconst 1, 1) := by decide +kernel
theorem dX12_readsAtom_105 : decode cX12_readsAtom 105 = .ok (.isub, 1) := by decide +kernel
theorem dX12_readsAtom_106 : decode cX12_readsAtom 106 = .ok (.putfield 226, 3) := by decide +kernel
theorem dX12_readsAtom_109 : decode cX12_readsAtom 109 = .ok (.iconst 1, 1) := by decide +kernel
theorem dX12_readsAtom_110 : decode cX12_readsAtom 110 = .ok (.ireturn, 1) := by decide +kernel
theorem dX12_readsAtom_111 : decode cX12_readsAtom 111 = .ok (.iload_n 1, 1) := by decide +kernel
theorem dX12_readsAtom_112 : decode cX12_readsAtom 112 = .ok (.invokestatic 232, 3) := by decide +kernel
theorem dX12_readsAtom_115 : decode cX12_readsAtom 115 = .ok (.ifCond .eq 15, 3) := by decide +kernel
theorem dX12_readsAtom_118 : decode cX12_readsAtom 118 = .ok (.aload_n 0, 1) := by decide +kernel
theorem dX12_readsAtom_119 : decode cX12_readsAtom 119 = .ok (.dup, 1) := by decide +kernel
theorem dX12_readsAtom_120 : decode cX12_readsAtom 120 = .ok (.getfield 196, 3) := by decide +kernel
theorem dX12_readsAtom_123 : decode cX12_readsAtom 123 = .ok (.iconst 1, 1) := by decide +kernel
theorem dX12_readsAtom_124 : decode cX12_readsAtom 124 = .ok (.iadd, 1) := by decide +kernel
theorem dX12_readsAtom_125 : decode cX12_readsAtom 125 = .ok (.putfield 196, 3) := by decide +kernel
theorem dX12_readsAtom_128 : decode cX12_readsAtom 128 = .ok (.iconst 1, 1) := by decide +kernel
theorem dX12_readsAtom_129 : decode cX12_readsAtom 129 = .ok (.ireturn, 1) := by decide +kernel
theorem dX12_readsAtom_130 : decode cX12_readsAtom 130 = .ok (.aload_n 0, 1) := by decide +kernel
theorem dX12_readsAtom_131 : decode cX12_readsAtom 131 = .ok (.invokevirtual 235, 3) := by decide +kernel
theorem dX12_readsAtom_134 : decode cX12_readsAtom 134 = .ok (.ireturn, 1) := by decide +kernel
theorem dX12_faultIn_0 : decode cX12_faultIn 0 = .ok (.aload_n 0, 1) := by decide +kernel
theorem dX12_faultIn_1 : decode cX12_faultIn 1 = .ok (.aload_n 0, 1) := by decide +kernel
theorem dX12_faultIn_2 : decode cX12_faultIn 2 = .ok (.getfield 32, 3) := by decide +kernel
theorem dX12_faultIn_5 : decode cX12_faultIn 5 = .ok (.putfield 47, 3) := by decide +kernel
theorem dX12_faultIn_8 : decode cX12_faultIn 8 = .ok (.aload_n 0, 1) := by decide +kernel
theorem dX12_faultIn_9 : decode cX12_faultIn 9 = .ok (.bipush 100, 2) := by decide +kernel
theorem dX12_faultIn_11 : decode cX12_faultIn 11 = .ok (.iload_n 1, 1) := by decide +kernel
theorem dX12_faultIn_12 : decode cX12_faultIn 12 = .ok (.imul, 1) := by decide +kernel
theorem dX12_faultIn_13 : decode cX12_faultIn 13 = .ok (.putfield 202, 3) := by decide +kernel
theorem dX12_faultIn_16 : decode cX12_faultIn 16 = .ok (.aload_n 0, 1) := by decide +kernel
theorem dX12_faultIn_17 : decode cX12_faultIn 17 = .ok (.aload_n 0, 1) := by decide +kernel
theorem dX12_faultIn_18 : decode cX12_faultIn 18 = .ok (.getfield 29, 3) := by decide +kernel
theorem dX12_faultIn_21 : decode cX12_faultIn 21 = .ok (.iload_n 1, 1) := by decide +kernel
theorem dX12_faultIn_22 : decode cX12_faultIn 22 = .ok (.iaload, 1) := by decide +kernel
theorem dX12_faultIn_23 : decode cX12_faultIn 23 = .ok (.putfield 199, 3) := by decide +kernel
theorem dX12_faultIn_26 : decode cX12_faultIn 26 = .ok (.aload_n 0, 1) := by decide +kernel
theorem dX12_faultIn_27 : decode cX12_faultIn 27 = .ok (.iconst 0, 1) := by decide +kernel
theorem dX12_faultIn_28 : decode cX12_faultIn 28 = .ok (.putfield 196, 3) := by decide +kernel
theorem dX12_faultIn_31 : decode cX12_faultIn 31 = .ok (.aload_n 0, 1) := by decide +kernel
theorem dX12_faultIn_32 : decode cX12_faultIn 32 = .ok (.iconst 0, 1) := by decide +kernel
theorem dX12_faultIn_33 : decode cX12_faultIn 33 = .ok (.putfield 226, 3) := by decide +kernel
theorem dX12_faultIn_36 : decode cX12_faultIn 36 = .ok (.aload_n 0, 1) := by decide +kernel
theorem dX12_faultIn_37 : decode cX12_faultIn 37 = .ok (.invokevirtual 229, 3) := by decide +kernel
theorem dX12_faultIn_40 : decode cX12_faultIn 40 = .ok (.ifCond .eq 19, 3) := by decide +kernel
theorem dX12_faultIn_43 : decode cX12_faultIn 43 = .ok (.aload_n 0, 1) := by decide +kernel
theorem dX12_faultIn_44 : decode cX12_faultIn 44 = .ok (.getfield 196, 3) := by decide +kernel
theorem dX12_faultIn_47 : decode cX12_faultIn 47 = .ok (.aload_n 0, 1) := by decide +kernel
theorem dX12_faultIn_48 : decode cX12_faultIn 48 = .ok (.getfield 199, 3) := by decide +kernel
theorem dX12_faultIn_51 : decode cX12_faultIn 51 = .ok (.if_icmp .ne 8, 3) := by decide +kernel
theorem dX12_faultIn_54 : decode cX12_faultIn 54 = .ok (.bipush (-4), 2) := by decide +kernel
theorem dX12_faultIn_56 : decode cX12_faultIn 56 = .ok (.goto 7, 3) := by decide +kernel
theorem dX12_faultIn_59 : decode cX12_faultIn 59 = .ok (.aload_n 0, 1) := by decide +kernel
theorem dX12_faultIn_60 : decode cX12_faultIn 60 = .ok (.getfield 196, 3) := by decide +kernel
theorem dX12_faultIn_63 : decode cX12_faultIn 63 = .ok (.ireturn, 1) := by decide +kernel
theorem dX12_fault_0 : decode cX12_fault 0 = .ok (.aload_n 0, 1) := by decide +kernel
theorem dX12_fault_1 : decode cX12_fault 1 = .ok (.iload_n 1, 1) := by decide +kernel
theorem dX12_fault_2 : decode cX12_fault 2 = .ok (.iconst 0, 1) := by decide +kernel
theorem dX12_fault_3 : decode cX12_fault 3 = .ok (.invokevirtual 145, 3) := by decide +kernel
theorem dX12_fault_6 : decode cX12_fault 6 = .ok (.istore_n 2, 1) := by decide +kernel
theorem dX12_fault_7 : decode cX12_fault 7 = .ok (.iload_n 2, 1) := by decide +kernel
theorem dX12_fault_8 : decode cX12_fault 8 = .ok (.ifCond .eq 7, 3) := by decide +kernel
theorem dX12_fault_11 : decode cX12_fault 11 = .ok (.iload_n 2, 1) := by decide +kernel
theorem dX12_fault_12 : decode cX12_fault 12 = .ok (.goto 8, 3) := by decide +kernel
theorem dX12_fault_15 : decode cX12_fault 15 = .ok (.aload_n 0, 1) := by decide +kernel
theorem dX12_fault_16 : decode cX12_fault 16 = .ok (.iload_n 1, 1) := by decide +kernel
theorem dX12_fault_17 : decode cX12_fault 17 = .ok (.invokevirtual 238, 3) := by decide +kernel
theorem dX12_fault_20 : decode cX12_fault 20 = .ok (.ireturn, 1) := by decide +kernel
theorem dX12_rule_0 : decode cX12_rule 0 = .ok (.aload_n 0, 1) := by decide +kernel
theorem dX12_rule_1 : decode cX12_rule 1 = .ok (.iload_n 1, 1) := by decide +kernel
theorem dX12_rule_2 : decode cX12_rule 2 = .ok (.iconst 0, 1) := by decide +kernel
theorem dX12_rule_3 : decode cX12_rule 3 = .ok (.invokevirtual 145, 3) := by decide +kernel
theorem dX12_rule_6 : decode cX12_rule 6 = .ok (.istore_n 2, 1) := by decide +kernel
theorem dX12_rule_7 : decode cX12_rule 7 = .ok (.iload_n 2, 1) := by decide +kernel
theorem dX12_rule_8 : decode cX12_rule 8 = .ok (.ifCond .eq 5, 3) := by decide +kernel
theorem dX12_rule_11 : decode cX12_rule 11 = .ok (.iload_n 2, 1) := by decide +kernel
theorem dX12_rule_12 : decode cX12_rule 12 = .ok (.ireturn, 1) := by decide +kernel
theorem dX12_rule_13 : decode cX12_rule 13 = .ok (.aload_n 0, 1) := by decide +kernel
theorem dX12_rule_14 : decode cX12_rule 14 = .ok (.iload_n 1, 1) := by decide +kernel
theorem dX12_rule_15 : decode cX12_rule 15 = .ok (.invokevirtual 238, 3) := by decide +kernel
theorem dX12_rule_18 : decode cX12_rule 18 = .ok (.istore_n 3, 1) := by decide +kernel
theorem dX12_rule_19 : decode cX12_rule 19 = .ok (.iload_n 3, 1) := by decide +kernel
theorem dX12_rule_20 : decode cX12_rule 20 = .ok (.bipush (-4), 2) := by decide +kernel
theorem dX12_rule_22 : decode cX12_rule 22 = .ok (.if_icmp .eq 8, 3) := by decide +kernel
theorem dX12_rule_25 : decode cX12_rule 25 = .ok (.bipush (-100), 2) := by decide +kernel
theorem dX12_rule_27 : decode cX12_rule 27 = .ok (.iload_n 3, 1) := by decide +kernel
theorem dX12_rule_28 : decode cX12_rule 28 = .ok (.isub, 1) := by decide +kernel
theorem dX12_rule_29 : decode cX12_rule 29 = .ok (.ireturn, 1) := by decide +kernel
theorem dX12_rule_30 : decode cX12_rule 30 = .ok (.aload_n 0, 1) := by decide +kernel
theorem dX12_rule_31 : decode cX12_rule 31 = .ok (.getfield 9, 3) := by decide +kernel
theorem dX12_rule_34 : decode cX12_rule 34 = .ok (.iconst 5, 1) := by decide +kernel
theorem dX12_rule_35 : decode cX12_rule 35 = .ok (.aload_n 0, 1) := by decide +kernel
theorem dX12_rule_36 : decode cX12_rule 36 = .ok (.getfield 29, 3) := by decide +kernel
theorem dX12_rule_39 : decode cX12_rule 39 = .ok (.iload_n 1, 1) := by decide +kernel
theorem dX12_rule_40 : decode cX12_rule 40 = .ok (.iaload, 1) := by decide +kernel
theorem dX12_rule_41 : decode cX12_rule 41 = .ok (.iastore, 1) := by decide +kernel
theorem dX12_rule_42 : decode cX12_rule 42 = .ok (.iconst 0, 1) := by decide +kernel
theorem dX12_rule_43 : decode cX12_rule 43 = .ok (.istore 4, 2) := by decide +kernel
theorem dX12_rule_45 : decode cX12_rule 45 = .ok (.iload 4, 2) := by decide +kernel
theorem dX12_rule_47 : decode cX12_rule 47 = .ok (.aload_n 0, 1) := by decide +kernel
theorem dX12_rule_48 : decode cX12_rule 48 = .ok (.getfield 29, 3) := by decide +kernel
theorem dX12_rule_51 : decode cX12_rule 51 = .ok (.iload_n 1, 1) := by decide +kernel
theorem dX12_rule_52 : decode cX12_rule 52 = .ok (.iaload, 1) := by decide +kernel
theorem dX12_rule_53 : decode cX12_rule 53 = .ok (.if_icmp .ge 32, 3) := by decide +kernel
theorem dX12_rule_56 : decode cX12_rule 56 = .ok (.aload_n 0, 1) := by decide +kernel
theorem dX12_rule_57 : decode cX12_rule 57 = .ok (.getfield 9, 3) := by decide +kernel
theorem dX12_rule_60 : decode cX12_rule 60 = .ok (.sipush 334, 3) := by decide +kernel
theorem dX12_rule_63 : decode cX12_rule 63 = .ok (.iload 4, 2) := by decide +kernel
theorem dX12_rule_65 : decode cX12_rule 65 = .ok (.iadd, 1) := by decide +kernel
theorem dX12_rule_66 : decode cX12_rule 66 = .ok (.aload_n 0, 1) := by decide +kernel
theorem dX12_rule_67 : decode cX12_rule 67 = .ok (.getfield 32, 3) := by decide +kernel
theorem dX12_rule_70 : decode cX12_rule 70 = .ok (.bipush 100, 2) := by decide +kernel
theorem dX12_rule_72 : decode cX12_rule 72 = .ok (.iload_n 1, 1) := by decide +kernel
theorem dX12_rule_73 : decode cX12_rule 73 = .ok (.imul, 1) := by decide +kernel
theorem dX12_rule_74 : decode cX12_rule 74 = .ok (.iload 4, 2) := by decide +kernel
theorem dX12_rule_76 : decode cX12_rule 76 = .ok (.iadd, 1) := by decide +kernel
theorem dX12_rule_77 : decode cX12_rule 77 = .ok (.iaload, 1) := by decide +kernel
theorem dX12_rule_78 : decode cX12_rule 78 = .ok (.iastore, 1) := by decide +kernel
theorem dX12_rule_79 : decode cX12_rule 79 = .ok (.iinc 4 1, 3) := by decide +kernel
theorem dX12_rule_82 : decode cX12_rule 82 = .ok (.goto (-37), 3) := by decide +kernel
theorem dX12_rule_85 : decode cX12_rule 85 = .ok (.iconst 1, 1) := by decide +kernel
theorem dX12_rule_86 : decode cX12_rule 86 = .ok (.ireturn, 1) := by decide +kernel
theorem dX12_sum_0 : decode cX12_sum 0 = .ok (.aload_n 0, 1) := by decide +kernel
theorem dX12_sum_1 : decode cX12_sum 1 = .ok (.invokevirtual 241, 3) := by decide +kernel
theorem dX12_sum_4 : decode cX12_sum 4 = .ok (.istore_n 1, 1) := by decide +kernel
theorem dX12_sum_5 : decode cX12_sum 5 = .ok (.aload_n 0, 1) := by decide +kernel
theorem dX12_sum_6 : decode cX12_sum 6 = .ok (.invokevirtual 205, 3) := by decide +kernel
theorem dX12_sum_9 : decode cX12_sum 9 = .ok (.bipush 43, 2) := by decide +kernel
theorem dX12_sum_11 : decode cX12_sum 11 = .ok (.if_icmp .eq 12, 3) := by decide +kernel
theorem dX12_sum_14 : decode cX12_sum 14 = .ok (.aload_n 0, 1) := by decide +kernel
theorem dX12_sum_15 : decode cX12_sum 15 = .ok (.invokevirtual 205, 3) := by decide +kernel
theorem dX12_sum_18 : decode cX12_sum 18 = .ok (.bipush 45, 2) := by decide +kernel
theorem dX12_sum_20 : decode cX12_sum 20 = .ok (.if_icmp .ne 42, 3) := by decide +kernel
theorem dX12_sum_23 : decode cX12_sum 23 = .ok (.aload_n 0, 1) := by decide +kernel
theorem dX12_sum_24 : decode cX12_sum 24 = .ok (.invokevirtual 205, 3) := by decide +kernel
theorem dX12_sum_27 : decode cX12_sum 27 = .ok (.istore_n 2, 1) := by decide +kernel
theorem dX12_sum_28 : decode cX12_sum 28 = .ok (.aload_n 0, 1) := by decide +kernel
theorem dX12_sum_29 : decode cX12_sum 29 = .ok (.dup, 1) := by decide +kernel
theorem dX12_sum_30 : decode cX12_sum 30 = .ok (.getfield 196, 3) := by decide +kernel
theorem dX12_sum_33 : decode cX12_sum 33 = .ok (.iconst 1, 1) := by decide +kernel
theorem dX12_sum_34 : decode cX12_sum 34 = .ok (.iadd, 1) := by decide +kernel
theorem dX12_sum_35 : decode cX12_sum 35 = .ok (.putfield 196, 3) := by decide +kernel
theorem dX12_sum_38 : decode cX12_sum 38 = .ok (.aload_n 0, 1) := by decide +kernel
theorem dX12_sum_39 : decode cX12_sum 39 = .ok (.invokevirtual 241, 3) := by decide +kernel
theorem dX12_sum_42 : decode cX12_sum 42 = .ok (.istore_n 3, 1) := by decide +kernel
theorem dX12_sum_43 : decode cX12_sum 43 = .ok (.iload_n 2, 1) := by decide +kernel
theorem dX12_sum_44 : decode cX12_sum 44 = .ok (.bipush 43, 2) := by decide +kernel
theorem dX12_sum_46 : decode cX12_sum 46 = .ok (.if_icmp .ne 9, 3) := by decide +kernel
theorem dX12_sum_49 : decode cX12_sum 49 = .ok (.iload_n 1, 1) := by decide +kernel
theorem dX12_sum_50 : decode cX12_sum 50 = .ok (.iload_n 3, 1) := by decide +kernel
theorem dX12_sum_51 : decode cX12_sum 51 = .ok (.iadd, 1) := by decide +kernel
theorem dX12_sum_52 : decode cX12_sum 52 = .ok (.goto 6, 3) := by decide +kernel
theorem dX12_sum_55 : decode cX12_sum 55 = .ok (.iload_n 1, 1) := by decide +kernel
theorem dX12_sum_56 : decode cX12_sum 56 = .ok (.iload_n 3, 1) := by decide +kernel
theorem dX12_sum_57 : decode cX12_sum 57 = .ok (.isub, 1) := by decide +kernel
theorem dX12_sum_58 : decode cX12_sum 58 = .ok (.istore_n 1, 1) := by decide +kernel
theorem dX12_sum_59 : decode cX12_sum 59 = .ok (.goto (-54), 3) := by decide +kernel
theorem dX12_sum_62 : decode cX12_sum 62 = .ok (.iload_n 1, 1) := by decide +kernel
theorem dX12_sum_63 : decode cX12_sum 63 = .ok (.ireturn, 1) := by decide +kernel
theorem dX12_product_0 : decode cX12_product 0 = .ok (.aload_n 0, 1) := by decide +kernel
theorem dX12_product_1 : decode cX12_product 1 = .ok (.invokevirtual 244, 3) := by decide +kernel
theorem dX12_product_4 : decode cX12_product 4 = .ok (.istore_n 1, 1) := by decide +kernel
theorem dX12_product_5 : decode cX12_product 5 = .ok (.aload_n 0, 1) := by decide +kernel
theorem dX12_product_6 : decode cX12_product 6 = .ok (.invokevirtual 205, 3) := by decide +kernel
theorem dX12_product_9 : decode cX12_product 9 = .ok (.bipush 42, 2) := by decide +kernel
theorem dX12_product_11 : decode cX12_product 11 = .ok (.if_icmp .eq 12, 3) := by decide +kernel
theorem dX12_product_14 : decode cX12_product 14 = .ok (.aload_n 0, 1) := by decide +kernel
theorem dX12_product_15 : decode cX12_product 15 = .ok (.invokevirtual 205, 3) := by decide +kernel
theorem dX12_product_18 : decode cX12_product 18 = .ok (.bipush 47, 2) := by decide +kernel
theorem dX12_product_20 : decode cX12_product 20 = .ok (.if_icmp .ne 50, 3) := by decide +kernel
theorem dX12_product_23 : decode cX12_product 23 = .ok (.aload_n 0, 1) := by decide +kernel
theorem dX12_product_24 : decode cX12_product 24 = .ok (.invokevirtual 205, 3) := by decide +kernel
theorem dX12_product_27 : decode cX12_product 27 = .ok (.istore_n 2, 1) := by decide +kernel
theorem dX12_product_28 : decode cX12_product 28 = .ok (.aload_n 0, 1) := by decide +kernel
theorem dX12_product_29 : decode cX12_product 29 = .ok (.dup, 1) := by decide +kernel
theorem dX12_product_30 : decode cX12_product 30 = .ok (.getfield 196, 3) := by decide +kernel
theorem dX12_product_33 : decode cX12_product 33 = .ok (.iconst 1, 1) := by decide +kernel
theorem dX12_product_34 : decode cX12_product 34 = .ok (.iadd, 1) := by decide +kernel
theorem dX12_product_35 : decode cX12_product 35 = .ok (.putfield 196, 3) := by decide +kernel
theorem dX12_product_38 : decode cX12_product 38 = .ok (.aload_n 0, 1) := by decide +kernel
theorem dX12_product_39 : decode cX12_product 39 = .ok (.invokevirtual 244, 3) := by decide +kernel
theorem dX12_product_42 : decode cX12_product 42 = .ok (.istore_n 3, 1) := by decide +kernel
theorem dX12_product_43 : decode cX12_product 43 = .ok (.iload_n 2, 1) := by decide +kernel
theorem dX12_product_44 : decode cX12_product 44 = .ok (.bipush 42, 2) := by decide +kernel
theorem dX12_product_46 : decode cX12_product 46 = .ok (.if_icmp .ne 9, 3) := by decide +kernel
theorem dX12_product_49 : decode cX12_product 49 = .ok (.iload_n 1, 1) := by decide +kernel
theorem dX12_product_50 : decode cX12_product 50 = .ok (.iload_n 3, 1) := by decide +kernel
theorem dX12_product_51 : decode cX12_product 51 = .ok (.imul, 1) := by decide +kernel
theorem dX12_product_52 : decode cX12_product 52 = .ok (.goto 14, 3) := by decide +kernel
theorem dX12_product_55 : decode cX12_product 55 = .ok (.iload_n 3, 1) := by decide +kernel
theorem dX12_product_56 : decode cX12_product 56 = .ok (.ifCond .ne 7, 3) := by decide +kernel
theorem dX12_product_59 : decode cX12_product 59 = .ok (.iconst 0, 1) := by decide +kernel
theorem dX12_product_60 : decode cX12_product 60 = .ok (.goto 6, 3) := by decide +kernel
theorem dX12_product_63 : decode cX12_product 63 = .ok (.iload_n 1, 1) := by decide +kernel
theorem dX12_product_64 : decode cX12_product 64 = .ok (.iload_n 3, 1) := by decide +kernel
theorem dX12_product_65 : decode cX12_product 65 = .ok (.idiv, 1) := by decide +kernel
theorem dX12_product_66 : decode cX12_product 66 = .ok (.istore_n 1, 1) := by decide +kernel
theorem dX12_product_67 : decode cX12_product 67 = .ok (.goto (-62), 3) := by decide +kernel
theorem dX12_product_70 : decode cX12_product 70 = .ok (.iload_n 1, 1) := by decide +kernel
theorem dX12_product_71 : decode cX12_product 71 = .ok (.ireturn, 1) := by decide +kernel
theorem dX12_atom_0 : decode cX12_atom 0 = .ok (.aload_n 0, 1) := by decide +kernel
theorem dX12_atom_1 : decode cX12_atom 1 = .ok (.invokevirtual 205, 3) := by decide +kernel
theorem dX12_atom_4 : decode cX12_atom 4 = .ok (.istore_n 1, 1) := by decide +kernel
theorem dX12_atom_5 : decode cX12_atom 5 = .ok (.iload_n 1, 1) := by decide +kernel
theorem dX12_atom_6 : decode cX12_atom 6 = .ok (.i2l, 1) := by decide +kernel
theorem dX12_atom_7 : decode cX12_atom 7 = .ok (.ldc2_w 209, 3) := by decide +kernel
theorem dX12_atom_10 : decode cX12_atom 10 = .ok (.ldc2_w 211, 3) := by decide +kernel
theorem dX12_atom_13 : decode cX12_atom 13 = .ok (.invokestatic 57, 3) := by decide +kernel
theorem dX12_atom_16 : decode cX12_atom 16 = .ok (.ifCond .eq 13, 3) := by decide +kernel
theorem dX12_atom_19 : decode cX12_atom 19 = .ok (.aload_n 0, 1) := by decide +kernel
theorem dX12_atom_20 : decode cX12_atom 20 = .ok (.invokevirtual 235, 3) := by decide +kernel
theorem dX12_atom_23 : decode cX12_atom 23 = .ok (.istore_n 2, 1) := by decide +kernel
theorem dX12_atom_24 : decode cX12_atom 24 = .ok (.aload_n 0, 1) := by decide +kernel
theorem dX12_atom_25 : decode cX12_atom 25 = .ok (.getfield 213, 3) := by decide +kernel
theorem dX12_atom_28 : decode cX12_atom 28 = .ok (.ireturn, 1) := by decide +kernel
theorem dX12_atom_29 : decode cX12_atom 29 = .ok (.aload_n 0, 1) := by decide +kernel
theorem dX12_atom_30 : decode cX12_atom 30 = .ok (.dup, 1) := by decide +kernel
theorem dX12_atom_31 : decode cX12_atom 31 = .ok (.getfield 196, 3) := by decide +kernel
theorem dX12_atom_34 : decode cX12_atom 34 = .ok (.iconst 1, 1) := by decide +kernel
theorem dX12_atom_35 : decode cX12_atom 35 = .ok (.iadd, 1) := by decide +kernel
theorem dX12_atom_36 : decode cX12_atom 36 = .ok (.putfield 196, 3) := by decide +kernel
theorem dX12_atom_39 : decode cX12_atom 39 = .ok (.iload_n 1, 1) := by decide +kernel
theorem dX12_atom_40 : decode cX12_atom 40 = .ok (.bipush 40, 2) := by decide +kernel
theorem dX12_atom_42 : decode cX12_atom 42 = .ok (.if_icmp .eq 9, 3) := by decide +kernel
theorem dX12_atom_45 : decode cX12_atom 45 = .ok (.iload_n 1, 1) := by decide +kernel
theorem dX12_atom_46 : decode cX12_atom 46 = .ok (.bipush 91, 2) := by decide +kernel
theorem dX12_atom_48 : decode cX12_atom 48 = .ok (.if_icmp .ne 52, 3) := by decide +kernel
theorem dX12_atom_51 : decode cX12_atom 51 = .ok (.aload_n 0, 1) := by decide +kernel
theorem dX12_atom_52 : decode cX12_atom 52 = .ok (.invokevirtual 247, 3) := by decide +kernel
theorem dX12_atom_55 : decode cX12_atom 55 = .ok (.istore_n 2, 1) := by decide +kernel
theorem dX12_atom_56 : decode cX12_atom 56 = .ok (.aload_n 0, 1) := by decide +kernel
theorem dX12_atom_57 : decode cX12_atom 57 = .ok (.dup, 1) := by decide +kernel
theorem dX12_atom_58 : decode cX12_atom 58 = .ok (.getfield 196, 3) := by decide +kernel
theorem dX12_atom_61 : decode cX12_atom 61 = .ok (.iconst 1, 1) := by decide +kernel
theorem dX12_atom_62 : decode cX12_atom 62 = .ok (.iadd, 1) := by decide +kernel
theorem dX12_atom_63 : decode cX12_atom 63 = .ok (.putfield 196, 3) := by decide +kernel
theorem dX12_atom_66 : decode cX12_atom 66 = .ok (.iload_n 1, 1) := by decide +kernel
theorem dX12_atom_67 : decode cX12_atom 67 = .ok (.bipush 40, 2) := by decide +kernel
theorem dX12_atom_69 : decode cX12_atom 69 = .ok (.if_icmp .ne 5, 3) := by decide +kernel
theorem dX12_atom_72 : decode cX12_atom 72 = .ok (.iload_n 2, 1) := by decide +kernel
theorem dX12_atom_73 : decode cX12_atom 73 = .ok (.ireturn, 1) := by decide +kernel
theorem dX12_atom_74 : decode cX12_atom 74 = .ok (.aload_n 0, 1) := by decide +kernel
theorem dX12_atom_75 : decode cX12_atom 75 = .ok (.invokevirtual 247, 3) := by decide +kernel
theorem dX12_atom_78 : decode cX12_atom 78 = .ok (.istore_n 3, 1) := by decide +kernel
theorem dX12_atom_79 : decode cX12_atom 79 = .ok (.aload_n 0, 1) := by decide +kernel
theorem dX12_atom_80 : decode cX12_atom 80 = .ok (.dup, 1) := by decide +kernel
theorem dX12_atom_81 : decode cX12_atom 81 = .ok (.getfield 196, 3) := by decide +kernel
theorem dX12_atom_84 : decode cX12_atom 84 = .ok (.iconst 1, 1) := by decide +kernel
theorem dX12_atom_85 : decode cX12_atom 85 = .ok (.iadd, 1) := by decide +kernel
theorem dX12_atom_86 : decode cX12_atom 86 = .ok (.putfield 196, 3) := by decide +kernel
theorem dX12_atom_89 : decode cX12_atom 89 = .ok (.iload_n 2, 1) := by decide +kernel
theorem dX12_atom_90 : decode cX12_atom 90 = .ok (.iload_n 3, 1) := by decide +kernel
theorem dX12_atom_91 : decode cX12_atom 91 = .ok (.if_icmp .ge 7, 3) := by decide +kernel
theorem dX12_atom_94 : decode cX12_atom 94 = .ok (.iload_n 2, 1) := by decide +kernel
theorem dX12_atom_95 : decode cX12_atom 95 = .ok (.goto 4, 3) := by decide +kernel
theorem dX12_atom_98 : decode cX12_atom 98 = .ok (.iload_n 3, 1) := by decide +kernel
theorem dX12_atom_99 : decode cX12_atom 99 = .ok (.ireturn, 1) := by decide +kernel
theorem dX12_atom_100 : decode cX12_atom 100 = .ok (.iload_n 1, 1) := by decide +kernel
theorem dX12_atom_101 : decode cX12_atom 101 = .ok (.tableswitch 150 100 119 #[143, 150, 150, 95, 124, 150, 150, 150, 150, 150, 150, 150, 150, 150, 150, 104, 114, 150, 150, 134], 95) := by decide +kernel
theorem dX12_atom_196 : decode cX12_atom 196 = .ok (.aload_n 0, 1) := by decide +kernel
theorem dX12_atom_197 : decode cX12_atom 197 = .ok (.aload_n 0, 1) := by decide +kernel
theorem dX12_atom_198 : decode cX12_atom 198 = .ok (.getfield 250, 3) := by decide +kernel
theorem dX12_atom_201 : decode cX12_atom 201 = .ok (.invokevirtual 93, 3) := by decide +kernel
theorem dX12_atom_204 : decode cX12_atom 204 = .ok (.ireturn, 1) := by decide +kernel
theorem dX12_atom_205 : decode cX12_atom 205 = .ok (.aload_n 0, 1) := by decide +kernel
theorem dX12_atom_206 : decode cX12_atom 206 = .ok (.aload_n 0, 1) := by decide +kernel
theorem dX12_atom_207 : decode cX12_atom 207 = .ok (.getfield 250, 3) := by decide +kernel
theorem dX12_atom_210 : decode cX12_atom 210 = .ok (.iconst 1, 1) := by decide +kernel
theorem dX12_atom_211 : decode cX12_atom 211 = .ok (.invokevirtual 81, 3) := by decide +kernel
theorem dX12_atom_214 : decode cX12_atom 214 = .ok (.ireturn, 1) := by decide +kernel
theorem dX12_atom_215 : decode cX12_atom 215 = .ok (.aload_n 0, 1) := by decide +kernel
theorem dX12_atom_216 : decode cX12_atom 216 = .ok (.aload_n 0, 1) := by decide +kernel
theorem dX12_atom_217 : decode cX12_atom 217 = .ok (.getfield 250, 3) := by decide +kernel
theorem dX12_atom_220 : decode cX12_atom 220 = .ok (.iconst 3, 1) := by decide +kernel
theorem dX12_atom_221 : decode cX12_atom 221 = .ok (.invokevirtual 81, 3) := by decide +kernel
theorem dX12_atom_224 : decode cX12_atom 224 = .ok (.ireturn, 1) := by decide +kernel
theorem dX12_atom_225 : decode cX12_atom 225 = .ok (.aload_n 0, 1) := by decide +kernel
theorem dX12_atom_226 : decode cX12_atom 226 = .ok (.aload_n 0, 1) := by decide +kernel
theorem dX12_atom_227 : decode cX12_atom 227 = .ok (.getfield 250, 3) := by decide +kernel
theorem dX12_atom_230 : decode cX12_atom 230 = .ok (.iconst 4, 1) := by decide +kernel
theorem dX12_atom_231 : decode cX12_atom 231 = .ok (.invokevirtual 81, 3) := by decide +kernel
theorem dX12_atom_234 : decode cX12_atom 234 = .ok (.ireturn, 1) := by decide +kernel
theorem dX12_atom_235 : decode cX12_atom 235 = .ok (.aload_n 0, 1) := by decide +kernel
theorem dX12_atom_236 : decode cX12_atom 236 = .ok (.aload_n 0, 1) := by decide +kernel
theorem dX12_atom_237 : decode cX12_atom 237 = .ok (.getfield 250, 3) := by decide +kernel
theorem dX12_atom_240 : decode cX12_atom 240 = .ok (.invokevirtual 97, 3) := by decide +kernel
theorem dX12_atom_243 : decode cX12_atom 243 = .ok (.ireturn, 1) := by decide +kernel
theorem dX12_atom_244 : decode cX12_atom 244 = .ok (.aload_n 0, 1) := by decide +kernel
theorem dX12_atom_245 : decode cX12_atom 245 = .ok (.getfield 9, 3) := by decide +kernel
theorem dX12_atom_248 : decode cX12_atom 248 = .ok (.iconst 0, 1) := by decide +kernel
theorem dX12_atom_249 : decode cX12_atom 249 = .ok (.iaload, 1) := by decide +kernel
theorem dX12_atom_250 : decode cX12_atom 250 = .ok (.ireturn, 1) := by decide +kernel
theorem dX12_atom_251 : decode cX12_atom 251 = .ok (.aload_n 0, 1) := by decide +kernel
theorem dX12_atom_252 : decode cX12_atom 252 = .ok (.aload_n 0, 1) := by decide +kernel
theorem dX12_atom_253 : decode cX12_atom 253 = .ok (.getfield 250, 3) := by decide +kernel
theorem dX12_atom_256 : decode cX12_atom 256 = .ok (.iconst 2, 1) := by decide +kernel
theorem dX12_atom_257 : decode cX12_atom 257 = .ok (.invokevirtual 81, 3) := by decide +kernel
theorem dX12_atom_260 : decode cX12_atom 260 = .ok (.ireturn, 1) := by decide +kernel
theorem dX12_rightOf_0 : decode cX12_rightOf 0 = .ok (.aload_n 0, 1) := by decide +kernel
theorem dX12_rightOf_1 : decode cX12_rightOf 1 = .ok (.iload_n 1, 1) := by decide +kernel
theorem dX12_rightOf_2 : decode cX12_rightOf 2 = .ok (.putfield 250, 3) := by decide +kernel
theorem dX12_rightOf_5 : decode cX12_rightOf 5 = .ok (.aload_n 0, 1) := by decide +kernel
theorem dX12_rightOf_6 : decode cX12_rightOf 6 = .ok (.aload_n 0, 1) := by decide +kernel
theorem dX12_rightOf_7 : decode cX12_rightOf 7 = .ok (.getfield 9, 3) := by decide +kernel
theorem dX12_rightOf_10 : decode cX12_rightOf 10 = .ok (.putfield 47, 3) := by decide +kernel
theorem dX12_rightOf_13 : decode cX12_rightOf 13 = .ok (.aload_n 0, 1) := by decide +kernel
theorem dX12_rightOf_14 : decode cX12_rightOf 14 = .ok (.sipush 334, 3) := by decide +kernel
theorem dX12_rightOf_17 : decode cX12_rightOf 17 = .ok (.putfield 202, 3) := by decide +kernel
theorem dX12_rightOf_20 : decode cX12_rightOf 20 = .ok (.aload_n 0, 1) := by decide +kernel
theorem dX12_rightOf_21 : decode cX12_rightOf 21 = .ok (.aload_n 0, 1) := by decide +kernel
theorem dX12_rightOf_22 : decode cX12_rightOf 22 = .ok (.getfield 9, 3) := by decide +kernel
theorem dX12_rightOf_25 : decode cX12_rightOf 25 = .ok (.iconst 5, 1) := by decide +kernel
theorem dX12_rightOf_26 : decode cX12_rightOf 26 = .ok (.iaload, 1) := by decide +kernel
theorem dX12_rightOf_27 : decode cX12_rightOf 27 = .ok (.putfield 199, 3) := by decide +kernel
theorem dX12_rightOf_30 : decode cX12_rightOf 30 = .ok (.aload_n 0, 1) := by decide +kernel
theorem dX12_rightOf_31 : decode cX12_rightOf 31 = .ok (.iconst 0, 1) := by decide +kernel
theorem dX12_rightOf_32 : decode cX12_rightOf 32 = .ok (.putfield 196, 3) := by decide +kernel
theorem dX12_rightOf_35 : decode cX12_rightOf 35 = .ok (.aload_n 0, 1) := by decide +kernel
theorem dX12_rightOf_36 : decode cX12_rightOf 36 = .ok (.invokevirtual 247, 3) := by decide +kernel
theorem dX12_rightOf_39 : decode cX12_rightOf 39 = .ok (.ireturn, 1) := by decide +kernel
theorem dX12_right_0 : decode cX12_right 0 = .ok (.aload_n 0, 1) := by decide +kernel
theorem dX12_right_1 : decode cX12_right 1 = .ok (.iload_n 1, 1) := by decide +kernel
theorem dX12_right_2 : decode cX12_right 2 = .ok (.invokevirtual 61, 3) := by decide +kernel
theorem dX12_right_5 : decode cX12_right 5 = .ok (.ifCond .eq 11, 3) := by decide +kernel
theorem dX12_right_8 : decode cX12_right 8 = .ok (.aload_n 0, 1) := by decide +kernel
theorem dX12_right_9 : decode cX12_right 9 = .ok (.iload_n 1, 1) := by decide +kernel
theorem dX12_right_10 : decode cX12_right 10 = .ok (.invokevirtual 253, 3) := by decide +kernel
theorem dX12_right_13 : decode cX12_right 13 = .ok (.goto 5, 3) := by decide +kernel
theorem dX12_right_16 : decode cX12_right 16 = .ok (.ldc 188, 2) := by decide +kernel
theorem dX12_right_18 : decode cX12_right 18 = .ok (.ireturn, 1) := by decide +kernel
theorem dX12_standard_0 : decode cX12_standard 0 = .ok (.aload_n 0, 1) := by decide +kernel
theorem dX12_standard_1 : decode cX12_standard 1 = .ok (.iload_n 1, 1) := by decide +kernel
theorem dX12_standard_2 : decode cX12_standard 2 = .ok (.invokevirtual 61, 3) := by decide +kernel
theorem dX12_standard_5 : decode cX12_standard 5 = .ok (.ifCond .ne 5, 3) := by decide +kernel
theorem dX12_standard_8 : decode cX12_standard 8 = .ok (.iconst (-1), 1) := by decide +kernel
theorem dX12_standard_9 : decode cX12_standard 9 = .ok (.ireturn, 1) := by decide +kernel
theorem dX12_standard_10 : decode cX12_standard 10 = .ok (.aload_n 0, 1) := by decide +kernel
theorem dX12_standard_11 : decode cX12_standard 11 = .ok (.iconst 3, 1) := by decide +kernel
theorem dX12_standard_12 : decode cX12_standard 12 = .ok (.iload_n 1, 1) := by decide +kernel
theorem dX12_standard_13 : decode cX12_standard 13 = .ok (.iconst 1, 1) := by decide +kernel
theorem dX12_standard_14 : decode cX12_standard 14 = .ok (.iadd, 1) := by decide +kernel
theorem dX12_standard_15 : decode cX12_standard 15 = .ok (.invokevirtual 75, 3) := by decide +kernel
theorem dX12_standard_18 : decode cX12_standard 18 = .ok (.istore_n 2, 1) := by decide +kernel
theorem dX12_standard_19 : decode cX12_standard 19 = .ok (.iload_n 2, 1) := by decide +kernel
theorem dX12_standard_20 : decode cX12_standard 20 = .ok (.ifCond .ne 8, 3) := by decide +kernel
theorem dX12_standard_23 : decode cX12_standard 23 = .ok (.bipush (-4), 2) := by decide +kernel
theorem dX12_standard_25 : decode cX12_standard 25 = .ok (.goto 6, 3) := by decide +kernel
theorem dX12_standard_28 : decode cX12_standard 28 = .ok (.iload_n 2, 1) := by decide +kernel
theorem dX12_standard_29 : decode cX12_standard 29 = .ok (.iconst 1, 1) := by decide +kernel
theorem dX12_standard_30 : decode cX12_standard 30 = .ok (.isub, 1) := by decide +kernel
theorem dX12_standard_31 : decode cX12_standard 31 = .ok (.ireturn, 1) := by decide +kernel
theorem dX12_worthOf_0 : decode cX12_worthOf 0 = .ok (.aload_n 0, 1) := by decide +kernel
theorem dX12_worthOf_1 : decode cX12_worthOf 1 = .ok (.aload_n 0, 1) := by decide +kernel
theorem dX12_worthOf_2 : decode cX12_worthOf 2 = .ok (.getfield 9, 3) := by decide +kernel
theorem dX12_worthOf_5 : decode cX12_worthOf 5 = .ok (.iconst 3, 1) := by decide +kernel
theorem dX12_worthOf_6 : decode cX12_worthOf 6 = .ok (.iaload, 1) := by decide +kernel
theorem dX12_worthOf_7 : decode cX12_worthOf 7 = .ok (.iconst 1, 1) := by decide +kernel
theorem dX12_worthOf_8 : decode cX12_worthOf 8 = .ok (.isub, 1) := by decide +kernel
theorem dX12_worthOf_9 : decode cX12_worthOf 9 = .ok (.invokevirtual 253, 3) := by decide +kernel
theorem dX12_worthOf_12 : decode cX12_worthOf 12 = .ok (.i2l, 1) := by decide +kernel
theorem dX12_worthOf_13 : decode cX12_worthOf 13 = .ok (.lstore_n 2, 1) := by decide +kernel
theorem dX12_worthOf_14 : decode cX12_worthOf 14 = .ok (.lload_n 2, 1) := by decide +kernel
theorem dX12_worthOf_15 : decode cX12_worthOf 15 = .ok (.lconst 0, 1) := by decide +kernel
theorem dX12_worthOf_16 : decode cX12_worthOf 16 = .ok (.lcmp, 1) := by decide +kernel
theorem dX12_worthOf_17 : decode cX12_worthOf 17 = .ok (.ifCond .ne 7, 3) := by decide +kernel
theorem dX12_worthOf_20 : decode cX12_worthOf 20 = .ok (.lconst 0, 1) := by decide +kernel
theorem dX12_worthOf_21 : decode cX12_worthOf 21 = .ok (.goto 15, 3) := by decide +kernel
theorem dX12_worthOf_24 : decode cX12_worthOf 24 = .ok (.ldc2_w 71, 3) := by decide +kernel
theorem dX12_worthOf_27 : decode cX12_worthOf 27 = .ok (.aload_n 0, 1) := by decide +kernel
theorem dX12_worthOf_28 : decode cX12_worthOf 28 = .ok (.iload_n 1, 1) := by decide +kernel
theorem dX12_worthOf_29 : decode cX12_worthOf 29 = .ok (.invokevirtual 253, 3) := by decide +kernel
theorem dX12_worthOf_32 : decode cX12_worthOf 32 = .ok (.i2l, 1) := by decide +kernel
theorem dX12_worthOf_33 : decode cX12_worthOf 33 = .ok (.lmul, 1) := by decide +kernel
theorem dX12_worthOf_34 : decode cX12_worthOf 34 = .ok (.lload_n 2, 1) := by decide +kernel
theorem dX12_worthOf_35 : decode cX12_worthOf 35 = .ok (.ldiv, 1) := by decide +kernel
theorem dX12_worthOf_36 : decode cX12_worthOf 36 = .ok (.lreturn, 1) := by decide +kernel
theorem dX12_worth_0 : decode cX12_worth 0 = .ok (.aload_n 0, 1) := by decide +kernel
theorem dX12_worth_1 : decode cX12_worth 1 = .ok (.iload_n 1, 1) := by decide +kernel
theorem dX12_worth_2 : decode cX12_worth 2 = .ok (.invokevirtual 61, 3) := by decide +kernel
theorem dX12_worth_5 : decode cX12_worth 5 = .ok (.ifCond .ne 9, 3) := by decide +kernel
theorem dX12_worth_8 : decode cX12_worth 8 = .ok (.ldc2_w 120, 3) := by decide +kernel
theorem dX12_worth_11 : decode cX12_worth 11 = .ok (.goto 23, 3) := by decide +kernel
theorem dX12_worth_14 : decode cX12_worth 14 = .ok (.aload_n 0, 1) := by decide +kernel
theorem dX12_worth_15 : decode cX12_worth 15 = .ok (.getfield 9, 3) := by decide +kernel
theorem dX12_worth_18 : decode cX12_worth 18 = .ok (.iconst 3, 1) := by decide +kernel
theorem dX12_worth_19 : decode cX12_worth 19 = .ok (.iaload, 1) := by decide +kernel
theorem dX12_worth_20 : decode cX12_worth 20 = .ok (.ifCond .ne 9, 3) := by decide +kernel
theorem dX12_worth_23 : decode cX12_worth 23 = .ok (.ldc2_w 256, 3) := by decide +kernel
theorem dX12_worth_26 : decode cX12_worth 26 = .ok (.goto 8, 3) := by decide +kernel
theorem dX12_worth_29 : decode cX12_worth 29 = .ok (.aload_n 0, 1) := by decide +kernel
theorem dX12_worth_30 : decode cX12_worth 30 = .ok (.iload_n 1, 1) := by decide +kernel
theorem dX12_worth_31 : decode cX12_worth 31 = .ok (.invokevirtual 258, 3) := by decide +kernel
theorem dX12_worth_34 : decode cX12_worth 34 = .ok (.lreturn, 1) := by decide +kernel
theorem dX12_steady_0 : decode cX12_steady 0 = .ok (.iload_n 1, 1) := by decide +kernel
theorem dX12_steady_1 : decode cX12_steady 1 = .ok (.i2l, 1) := by decide +kernel
theorem dX12_steady_2 : decode cX12_steady 2 = .ok (.lconst 1, 1) := by decide +kernel
theorem dX12_steady_3 : decode cX12_steady 3 = .ok (.iconst 1, 1) := by decide +kernel
theorem dX12_steady_4 : decode cX12_steady 4 = .ok (.aload_n 0, 1) := by decide +kernel
theorem dX12_steady_5 : decode cX12_steady 5 = .ok (.getfield 9, 3) := by decide +kernel
theorem dX12_steady_8 : decode cX12_steady 8 = .ok (.iconst 1, 1) := by decide +kernel
theorem dX12_steady_9 : decode cX12_steady 9 = .ok (.iaload, 1) := by decide +kernel
theorem dX12_steady_10 : decode cX12_steady 10 = .ok (.ishl, 1) := by decide +kernel
theorem dX12_steady_11 : decode cX12_steady 11 = .ok (.iconst 1, 1) := by decide +kernel
theorem dX12_steady_12 : decode cX12_steady 12 = .ok (.isub, 1) := by decide +kernel
theorem dX12_steady_13 : decode cX12_steady 13 = .ok (.i2l, 1) := by decide +kernel
theorem dX12_steady_14 : decode cX12_steady 14 = .ok (.invokestatic 57, 3) := by decide +kernel
theorem dX12_steady_17 : decode cX12_steady 17 = .ok (.ifCond .ne 5, 3) := by decide +kernel
theorem dX12_steady_20 : decode cX12_steady 20 = .ok (.iconst (-1), 1) := by decide +kernel
theorem dX12_steady_21 : decode cX12_steady 21 = .ok (.ireturn, 1) := by decide +kernel
theorem dX12_steady_22 : decode cX12_steady 22 = .ok (.bipush (-4), 2) := by decide +kernel
theorem dX12_steady_24 : decode cX12_steady 24 = .ok (.istore_n 2, 1) := by decide +kernel
theorem dX12_steady_25 : decode cX12_steady 25 = .ok (.iconst 0, 1) := by decide +kernel
theorem dX12_steady_26 : decode cX12_steady 26 = .ok (.istore_n 3, 1) := by decide +kernel
theorem dX12_steady_27 : decode cX12_steady 27 = .ok (.iload_n 3, 1) := by decide +kernel
theorem dX12_steady_28 : decode cX12_steady 28 = .ok (.aload_n 0, 1) := by decide +kernel
theorem dX12_steady_29 : decode cX12_steady 29 = .ok (.getfield 9, 3) := by decide +kernel
theorem dX12_steady_32 : decode cX12_steady 32 = .ok (.iconst 1, 1) := by decide +kernel
theorem dX12_steady_33 : decode cX12_steady 33 = .ok (.iaload, 1) := by decide +kernel
theorem dX12_steady_34 : decode cX12_steady 34 = .ok (.if_icmp .ge 56, 3) := by decide +kernel
theorem dX12_steady_37 : decode cX12_steady 37 = .ok (.iload_n 1, 1) := by decide +kernel
theorem dX12_steady_38 : decode cX12_steady 38 = .ok (.iload_n 3, 1) := by decide +kernel
theorem dX12_steady_39 : decode cX12_steady 39 = .ok (.ishr, 1) := by decide +kernel
theorem dX12_steady_40 : decode cX12_steady 40 = .ok (.iconst 1, 1) := by decide +kernel
theorem dX12_steady_41 : decode cX12_steady 41 = .ok (.iand, 1) := by decide +kernel
theorem dX12_steady_42 : decode cX12_steady 42 = .ok (.ifCond .ne 6, 3) := by decide +kernel
theorem dX12_steady_45 : decode cX12_steady 45 = .ok (.goto 39, 3) := by decide +kernel
theorem dX12_steady_48 : decode cX12_steady 48 = .ok (.iload_n 2, 1) := by decide +kernel
theorem dX12_steady_49 : decode cX12_steady 49 = .ok (.ifCond .lt 33, 3) := by decide +kernel
theorem dX12_steady_52 : decode cX12_steady 52 = .ok (.aload_n 0, 1) := by decide +kernel
theorem dX12_steady_53 : decode cX12_steady 53 = .ok (.iload_n 3, 1) := by decide +kernel
theorem dX12_steady_54 : decode cX12_steady 54 = .ok (.invokevirtual 97, 3) := by decide +kernel
theorem dX12_steady_57 : decode cX12_steady 57 = .ok (.i2l, 1) := by decide +kernel
theorem dX12_steady_58 : decode cX12_steady 58 = .ok (.aload_n 0, 1) := by decide +kernel
theorem dX12_steady_59 : decode cX12_steady 59 = .ok (.iload_n 2, 1) := by decide +kernel
theorem dX12_steady_60 : decode cX12_steady 60 = .ok (.invokevirtual 93, 3) := by decide +kernel
theorem dX12_steady_63 : decode cX12_steady 63 = .ok (.i2l, 1) := by decide +kernel
theorem dX12_steady_64 : decode cX12_steady 64 = .ok (.lmul, 1) := by decide +kernel
theorem dX12_steady_65 : decode cX12_steady 65 = .ok (.aload_n 0, 1) := by decide +kernel
theorem dX12_steady_66 : decode cX12_steady 66 = .ok (.iload_n 2, 1) := by decide +kernel
theorem dX12_steady_67 : decode cX12_steady 67 = .ok (.invokevirtual 97, 3) := by decide +kernel
theorem dX12_steady_70 : decode cX12_steady 70 = .ok (.i2l, 1) := by decide +kernel
theorem dX12_steady_71 : decode cX12_steady 71 = .ok (.aload_n 0, 1) := by decide +kernel
theorem dX12_steady_72 : decode cX12_steady 72 = .ok (.iload_n 3, 1) := by decide +kernel
theorem dX12_steady_73 : decode cX12_steady 73 = .ok (.invokevirtual 93, 3) := by decide +kernel
theorem dX12_steady_76 : decode cX12_steady 76 = .ok (.i2l, 1) := by decide +kernel
theorem dX12_steady_77 : decode cX12_steady 77 = .ok (.lmul, 1) := by decide +kernel
theorem dX12_steady_78 : decode cX12_steady 78 = .ok (.lcmp, 1) := by decide +kernel
theorem dX12_steady_79 : decode cX12_steady 79 = .ok (.ifCond .ge 5, 3) := by decide +kernel
theorem dX12_steady_82 : decode cX12_steady 82 = .ok (.iload_n 3, 1) := by decide +kernel
theorem dX12_steady_83 : decode cX12_steady 83 = .ok (.istore_n 2, 1) := by decide +kernel
theorem dX12_steady_84 : decode cX12_steady 84 = .ok (.iinc 3 1, 3) := by decide +kernel
theorem dX12_steady_87 : decode cX12_steady 87 = .ok (.goto (-60), 3) := by decide +kernel
theorem dX12_steady_90 : decode cX12_steady 90 = .ok (.iload_n 2, 1) := by decide +kernel
theorem dX12_steady_91 : decode cX12_steady 91 = .ok (.ireturn, 1) := by decide +kernel
theorem dX12_aged_0 : decode cX12_aged 0 = .ok (.iload_n 1, 1) := by decide +kernel
theorem dX12_aged_1 : decode cX12_aged 1 = .ok (.i2l, 1) := by decide +kernel
theorem dX12_aged_2 : decode cX12_aged 2 = .ok (.lconst 1, 1) := by decide +kernel
theorem dX12_aged_3 : decode cX12_aged 3 = .ok (.ldc2_w 71, 3) := by decide +kernel
theorem dX12_aged_6 : decode cX12_aged 6 = .ok (.invokestatic 57, 3) := by decide +kernel
theorem dX12_aged_9 : decode cX12_aged 9 = .ok (.ifCond .ne 5, 3) := by decide +kernel
theorem dX12_aged_12 : decode cX12_aged 12 = .ok (.iconst (-1), 1) := by decide +kernel
theorem dX12_aged_13 : decode cX12_aged 13 = .ok (.ireturn, 1) := by decide +kernel
theorem dX12_aged_14 : decode cX12_aged 14 = .ok (.iconst 0, 1) := by decide +kernel
theorem dX12_aged_15 : decode cX12_aged 15 = .ok (.istore_n 2, 1) := by decide +kernel
theorem dX12_aged_16 : decode cX12_aged 16 = .ok (.iconst 0, 1) := by decide +kernel
theorem dX12_aged_17 : decode cX12_aged 17 = .ok (.istore_n 3, 1) := by decide +kernel
theorem dX12_aged_18 : decode cX12_aged 18 = .ok (.iload_n 3, 1) := by decide +kernel
theorem dX12_aged_19 : decode cX12_aged 19 = .ok (.aload_n 0, 1) := by decide +kernel
theorem dX12_aged_20 : decode cX12_aged 20 = .ok (.getfield 9, 3) := by decide +kernel
theorem dX12_aged_23 : decode cX12_aged 23 = .ok (.iconst 1, 1) := by decide +kernel
theorem dX12_aged_24 : decode cX12_aged 24 = .ok (.iaload, 1) := by decide +kernel
theorem dX12_aged_25 : decode cX12_aged 25 = .ok (.if_icmp .ge 80, 3) := by decide +kernel
theorem dX12_aged_28 : decode cX12_aged 28 = .ok (.aload_n 0, 1) := by decide +kernel
theorem dX12_aged_29 : decode cX12_aged 29 = .ok (.aload_n 0, 1) := by decide +kernel
theorem dX12_aged_30 : decode cX12_aged 30 = .ok (.getfield 9, 3) := by decide +kernel
theorem dX12_aged_33 : decode cX12_aged 33 = .ok (.bipush 10, 2) := by decide +kernel
theorem dX12_aged_35 : decode cX12_aged 35 = .ok (.iconst 5, 1) := by decide +kernel
theorem dX12_aged_36 : decode cX12_aged 36 = .ok (.iload_n 3, 1) := by decide +kernel
theorem dX12_aged_37 : decode cX12_aged 37 = .ok (.imul, 1) := by decide +kernel
theorem dX12_aged_38 : decode cX12_aged 38 = .ok (.iadd, 1) := by decide +kernel
theorem dX12_aged_39 : decode cX12_aged 39 = .ok (.iconst 0, 1) := by decide +kernel
theorem dX12_aged_40 : decode cX12_aged 40 = .ok (.invokevirtual 87, 3) := by decide +kernel
theorem dX12_aged_43 : decode cX12_aged 43 = .ok (.istore 4, 2) := by decide +kernel
theorem dX12_aged_45 : decode cX12_aged 45 = .ok (.iload_n 2, 1) := by decide +kernel
theorem dX12_aged_46 : decode cX12_aged 46 = .ok (.aload_n 0, 1) := by decide +kernel
theorem dX12_aged_47 : decode cX12_aged 47 = .ok (.iload_n 3, 1) := by decide +kernel
theorem dX12_aged_48 : decode cX12_aged 48 = .ok (.iconst 0, 1) := by decide +kernel
theorem dX12_aged_49 : decode cX12_aged 49 = .ok (.invokevirtual 81, 3) := by decide +kernel
theorem dX12_aged_52 : decode cX12_aged 52 = .ok (.iconst 4, 1) := by decide +kernel
theorem dX12_aged_53 : decode cX12_aged 53 = .ok (.if_icmp .eq 14, 3) := by decide +kernel
theorem dX12_aged_56 : decode cX12_aged 56 = .ok (.aload_n 0, 1) := by decide +kernel
theorem dX12_aged_57 : decode cX12_aged 57 = .ok (.iload_n 3, 1) := by decide +kernel
theorem dX12_aged_58 : decode cX12_aged 58 = .ok (.iconst 0, 1) := by decide +kernel
theorem dX12_aged_59 : decode cX12_aged 59 = .ok (.invokevirtual 81, 3) := by decide +kernel
theorem dX12_aged_62 : decode cX12_aged 62 = .ok (.bipush 7, 2) := by decide +kernel
theorem dX12_aged_64 : decode cX12_aged 64 = .ok (.if_icmp .ne 32, 3) := by decide +kernel
theorem dX12_aged_67 : decode cX12_aged 67 = .ok (.ldc2_w 71, 3) := by decide +kernel
theorem dX12_aged_70 : decode cX12_aged 70 = .ok (.iload 4, 2) := by decide +kernel
theorem dX12_aged_72 : decode cX12_aged 72 = .ok (.aload_n 0, 1) := by decide +kernel
theorem dX12_aged_73 : decode cX12_aged 73 = .ok (.iload_n 3, 1) := by decide +kernel
theorem dX12_aged_74 : decode cX12_aged 74 = .ok (.invokevirtual 93, 3) := by decide +kernel
theorem dX12_aged_77 : decode cX12_aged 77 = .ok (.isub, 1) := by decide +kernel
theorem dX12_aged_78 : decode cX12_aged 78 = .ok (.i2l, 1) := by decide +kernel
theorem dX12_aged_79 : decode cX12_aged 79 = .ok (.lmul, 1) := by decide +kernel
theorem dX12_aged_80 : decode cX12_aged 80 = .ok (.iload_n 1, 1) := by decide +kernel
theorem dX12_aged_81 : decode cX12_aged 81 = .ok (.i2l, 1) := by decide +kernel
theorem dX12_aged_82 : decode cX12_aged 82 = .ok (.iload 4, 2) := by decide +kernel
theorem dX12_aged_84 : decode cX12_aged 84 = .ok (.i2l, 1) := by decide +kernel
theorem dX12_aged_85 : decode cX12_aged 85 = .ok (.lmul, 1) := by decide +kernel
theorem dX12_aged_86 : decode cX12_aged 86 = .ok (.lcmp, 1) := by decide +kernel
theorem dX12_aged_87 : decode cX12_aged 87 = .ok (.ifCond .lt 9, 3) := by decide +kernel
theorem dX12_aged_90 : decode cX12_aged 90 = .ok (.iconst 1, 1) := by decide +kernel
theorem dX12_aged_91 : decode cX12_aged 91 = .ok (.iload_n 3, 1) := by decide +kernel
theorem dX12_aged_92 : decode cX12_aged 92 = .ok (.ishl, 1) := by decide +kernel
theorem dX12_aged_93 : decode cX12_aged 93 = .ok (.goto 4, 3) := by decide +kernel
theorem dX12_aged_96 : decode cX12_aged 96 = .ok (.iconst 0, 1) := by decide +kernel
theorem dX12_aged_97 : decode cX12_aged 97 = .ok (.ior, 1) := by decide +kernel
theorem dX12_aged_98 : decode cX12_aged 98 = .ok (.istore_n 2, 1) := by decide +kernel
theorem dX12_aged_99 : decode cX12_aged 99 = .ok (.iinc 3 1, 3) := by decide +kernel
theorem dX12_aged_102 : decode cX12_aged 102 = .ok (.goto (-84), 3) := by decide +kernel
theorem dX12_aged_105 : decode cX12_aged 105 = .ok (.iload_n 2, 1) := by decide +kernel
theorem dX12_aged_106 : decode cX12_aged 106 = .ok (.ireturn, 1) := by decide +kernel
theorem dX12_bill_0 : decode cX12_bill 0 = .ok (.iload_n 1, 1) := by decide +kernel
theorem dX12_bill_1 : decode cX12_bill 1 = .ok (.i2l, 1) := by decide +kernel
theorem dX12_bill_2 : decode cX12_bill 2 = .ok (.lconst 0, 1) := by decide +kernel
theorem dX12_bill_3 : decode cX12_bill 3 = .ok (.ldc2_w 262, 3) := by decide +kernel
theorem dX12_bill_6 : decode cX12_bill 6 = .ok (.invokestatic 57, 3) := by decide +kernel
theorem dX12_bill_9 : decode cX12_bill 9 = .ok (.ifCond .eq 23, 3) := by decide +kernel
theorem dX12_bill_12 : decode cX12_bill 12 = .ok (.aload_n 0, 1) := by decide +kernel
theorem dX12_bill_13 : decode cX12_bill 13 = .ok (.iload_n 2, 1) := by decide +kernel
theorem dX12_bill_14 : decode cX12_bill 14 = .ok (.invokevirtual 61, 3) := by decide +kernel
theorem dX12_bill_17 : decode cX12_bill 17 = .ok (.ifCond .eq 15, 3) := by decide +kernel
theorem dX12_bill_20 : decode cX12_bill 20 = .ok (.iload_n 3, 1) := by decide +kernel
theorem dX12_bill_21 : decode cX12_bill 21 = .ok (.i2l, 1) := by decide +kernel
theorem dX12_bill_22 : decode cX12_bill 22 = .ok (.lconst 1, 1) := by decide +kernel
theorem dX12_bill_23 : decode cX12_bill 23 = .ok (.ldc2_w 79, 3) := by decide +kernel
theorem dX12_bill_26 : decode cX12_bill 26 = .ok (.invokestatic 57, 3) := by decide +kernel
theorem dX12_bill_29 : decode cX12_bill 29 = .ok (.ifCond .ne 5, 3) := by decide +kernel
theorem dX12_bill_32 : decode cX12_bill 32 = .ok (.iconst (-1), 1) := by decide +kernel
theorem dX12_bill_33 : decode cX12_bill 33 = .ok (.ireturn, 1) := by decide +kernel
theorem dX12_bill_34 : decode cX12_bill 34 = .ok (.aload_n 0, 1) := by decide +kernel
theorem dX12_bill_35 : decode cX12_bill 35 = .ok (.getfield 9, 3) := by decide +kernel
theorem dX12_bill_38 : decode cX12_bill 38 = .ok (.iconst 4, 1) := by decide +kernel
theorem dX12_bill_39 : decode cX12_bill 39 = .ok (.iaload, 1) := by decide +kernel
theorem dX12_bill_40 : decode cX12_bill 40 = .ok (.bipush 20, 2) := by decide +kernel
theorem dX12_bill_42 : decode cX12_bill 42 = .ok (.if_icmp .ne 6, 3) := by decide +kernel
theorem dX12_bill_45 : decode cX12_bill 45 = .ok (.bipush (-2), 2) := by decide +kernel
theorem dX12_bill_47 : decode cX12_bill 47 = .ok (.ireturn, 1) := by decide +kernel
theorem dX12_bill_48 : decode cX12_bill 48 = .ok (.aload_n 0, 1) := by decide +kernel
theorem dX12_bill_49 : decode cX12_bill 49 = .ok (.getfield 9, 3) := by decide +kernel
theorem dX12_bill_52 : decode cX12_bill 52 = .ok (.iconst 3, 1) := by decide +kernel
theorem dX12_bill_53 : decode cX12_bill 53 = .ok (.iaload, 1) := by decide +kernel
theorem dX12_bill_54 : decode cX12_bill 54 = .ok (.ifCond .ne 6, 3) := by decide +kernel
theorem dX12_bill_57 : decode cX12_bill 57 = .ok (.bipush (-3), 2) := by decide +kernel
theorem dX12_bill_59 : decode cX12_bill 59 = .ok (.ireturn, 1) := by decide +kernel
theorem dX12_bill_60 : decode cX12_bill 60 = .ok (.sipush 274, 3) := by decide +kernel
theorem dX12_bill_63 : decode cX12_bill 63 = .ok (.iconst 3, 1) := by decide +kernel
theorem dX12_bill_64 : decode cX12_bill 64 = .ok (.aload_n 0, 1) := by decide +kernel
theorem dX12_bill_65 : decode cX12_bill 65 = .ok (.getfield 9, 3) := by decide +kernel
theorem dX12_bill_68 : decode cX12_bill 68 = .ok (.iconst 4, 1) := by decide +kernel
theorem dX12_bill_69 : decode cX12_bill 69 = .ok (.iaload, 1) := by decide +kernel
theorem dX12_bill_70 : decode cX12_bill 70 = .ok (.imul, 1) := by decide +kernel
theorem dX12_bill_71 : decode cX12_bill 71 = .ok (.iadd, 1) := by decide +kernel
theorem dX12_bill_72 : decode cX12_bill 72 = .ok (.istore 4, 2) := by decide +kernel
theorem dX12_bill_74 : decode cX12_bill 74 = .ok (.aload_n 0, 1) := by decide +kernel
theorem dX12_bill_75 : decode cX12_bill 75 = .ok (.getfield 9, 3) := by decide +kernel
theorem dX12_bill_78 : decode cX12_bill 78 = .ok (.iload 4, 2) := by decide +kernel
theorem dX12_bill_80 : decode cX12_bill 80 = .ok (.iload_n 1, 1) := by decide +kernel
theorem dX12_bill_81 : decode cX12_bill 81 = .ok (.iastore, 1) := by decide +kernel
theorem dX12_bill_82 : decode cX12_bill 82 = .ok (.aload_n 0, 1) := by decide +kernel
theorem dX12_bill_83 : decode cX12_bill 83 = .ok (.getfield 9, 3) := by decide +kernel
theorem dX12_bill_86 : decode cX12_bill 86 = .ok (.iload 4, 2) := by decide +kernel
theorem dX12_bill_88 : decode cX12_bill 88 = .ok (.iconst 1, 1) := by decide +kernel
theorem dX12_bill_89 : decode cX12_bill 89 = .ok (.iadd, 1) := by decide +kernel
theorem dX12_bill_90 : decode cX12_bill 90 = .ok (.iload_n 2, 1) := by decide +kernel
theorem dX12_bill_91 : decode cX12_bill 91 = .ok (.iastore, 1) := by decide +kernel
theorem dX12_bill_92 : decode cX12_bill 92 = .ok (.aload_n 0, 1) := by decide +kernel
theorem dX12_bill_93 : decode cX12_bill 93 = .ok (.getfield 9, 3) := by decide +kernel
theorem dX12_bill_96 : decode cX12_bill 96 = .ok (.iload 4, 2) := by decide +kernel
theorem dX12_bill_98 : decode cX12_bill 98 = .ok (.iconst 2, 1) := by decide +kernel
theorem dX12_bill_99 : decode cX12_bill 99 = .ok (.iadd, 1) := by decide +kernel
theorem dX12_bill_100 : decode cX12_bill 100 = .ok (.iload_n 3, 1) := by decide +kernel
theorem dX12_bill_101 : decode cX12_bill 101 = .ok (.iastore, 1) := by decide +kernel
theorem dX12_bill_102 : decode cX12_bill 102 = .ok (.aload_n 0, 1) := by decide +kernel
theorem dX12_bill_103 : decode cX12_bill 103 = .ok (.getfield 16, 3) := by decide +kernel
theorem dX12_bill_106 : decode cX12_bill 106 = .ok (.aload_n 0, 1) := by decide +kernel
theorem dX12_bill_107 : decode cX12_bill 107 = .ok (.getfield 9, 3) := by decide +kernel
theorem dX12_bill_110 : decode cX12_bill 110 = .ok (.iconst 4, 1) := by decide +kernel
theorem dX12_bill_111 : decode cX12_bill 111 = .ok (.iaload, 1) := by decide +kernel
theorem dX12_bill_112 : decode cX12_bill 112 = .ok (.iload_n 3, 1) := by decide +kernel
theorem dX12_bill_113 : decode cX12_bill 113 = .ok (.i2l, 1) := by decide +kernel
theorem dX12_bill_114 : decode cX12_bill 114 = .ok (.aload_n 0, 1) := by decide +kernel
theorem dX12_bill_115 : decode cX12_bill 115 = .ok (.iload_n 2, 1) := by decide +kernel
theorem dX12_bill_116 : decode cX12_bill 116 = .ok (.invokevirtual 258, 3) := by decide +kernel
theorem dX12_bill_119 : decode cX12_bill 119 = .ok (.lmul, 1) := by decide +kernel
theorem dX12_bill_120 : decode cX12_bill 120 = .ok (.ldc2_w 71, 3) := by decide +kernel
theorem dX12_bill_123 : decode cX12_bill 123 = .ok (.ldiv, 1) := by decide +kernel
theorem dX12_bill_124 : decode cX12_bill 124 = .ok (.lastore, 1) := by decide +kernel
theorem dX12_bill_125 : decode cX12_bill 125 = .ok (.aload_n 0, 1) := by decide +kernel
theorem dX12_bill_126 : decode cX12_bill 126 = .ok (.getfield 9, 3) := by decide +kernel
theorem dX12_bill_129 : decode cX12_bill 129 = .ok (.iconst 4, 1) := by decide +kernel
theorem dX12_bill_130 : decode cX12_bill 130 = .ok (.dup2, 1) := by decide +kernel
theorem dX12_bill_131 : decode cX12_bill 131 = .ok (.iaload, 1) := by decide +kernel
theorem dX12_bill_132 : decode cX12_bill 132 = .ok (.iconst 1, 1) := by decide +kernel
theorem dX12_bill_133 : decode cX12_bill 133 = .ok (.iadd, 1) := by decide +kernel
theorem dX12_bill_134 : decode cX12_bill 134 = .ok (.iastore, 1) := by decide +kernel
theorem dX12_bill_135 : decode cX12_bill 135 = .ok (.aload_n 0, 1) := by decide +kernel
theorem dX12_bill_136 : decode cX12_bill 136 = .ok (.getfield 9, 3) := by decide +kernel
theorem dX12_bill_139 : decode cX12_bill 139 = .ok (.iconst 4, 1) := by decide +kernel
theorem dX12_bill_140 : decode cX12_bill 140 = .ok (.iaload, 1) := by decide +kernel
theorem dX12_bill_141 : decode cX12_bill 141 = .ok (.iconst 1, 1) := by decide +kernel
theorem dX12_bill_142 : decode cX12_bill 142 = .ok (.isub, 1) := by decide +kernel
theorem dX12_bill_143 : decode cX12_bill 143 = .ok (.ireturn, 1) := by decide +kernel
theorem dX12_paid_0 : decode cX12_paid 0 = .ok (.iload_n 1, 1) := by decide +kernel
theorem dX12_paid_1 : decode cX12_paid 1 = .ok (.i2l, 1) := by decide +kernel
theorem dX12_paid_2 : decode cX12_paid 2 = .ok (.lconst 0, 1) := by decide +kernel
theorem dX12_paid_3 : decode cX12_paid 3 = .ok (.aload_n 0, 1) := by decide +kernel
theorem dX12_paid_4 : decode cX12_paid 4 = .ok (.getfield 9, 3) := by decide +kernel
theorem dX12_paid_7 : decode cX12_paid 7 = .ok (.iconst 4, 1) := by decide +kernel
theorem dX12_paid_8 : decode cX12_paid 8 = .ok (.iaload, 1) := by decide +kernel
theorem dX12_paid_9 : decode cX12_paid 9 = .ok (.iconst 1, 1) := by decide +kernel
theorem dX12_paid_10 : decode cX12_paid 10 = .ok (.isub, 1) := by decide +kernel
theorem dX12_paid_11 : decode cX12_paid 11 = .ok (.i2l, 1) := by decide +kernel
theorem dX12_paid_12 : decode cX12_paid 12 = .ok (.invokestatic 57, 3) := by decide +kernel
theorem dX12_paid_15 : decode cX12_paid 15 = .ok (.ifCond .eq 12, 3) := by decide +kernel
theorem dX12_paid_18 : decode cX12_paid 18 = .ok (.aload_n 0, 1) := by decide +kernel
theorem dX12_paid_19 : decode cX12_paid 19 = .ok (.getfield 16, 3) := by decide +kernel
theorem dX12_paid_22 : decode cX12_paid 22 = .ok (.iload_n 1, 1) := by decide +kernel
theorem dX12_paid_23 : decode cX12_paid 23 = .ok (.laload, 1) := by decide +kernel
theorem dX12_paid_24 : decode cX12_paid 24 = .ok (.goto 6, 3) := by decide +kernel
theorem dX12_paid_27 : decode cX12_paid 27 = .ok (.ldc2_w 120, 3) := by decide +kernel
theorem dX12_paid_30 : decode cX12_paid 30 = .ok (.lreturn, 1) := by decide +kernel
theorem dX12_owed_0 : decode cX12_owed 0 = .ok (.iload_n 1, 1) := by decide +kernel
theorem dX12_owed_1 : decode cX12_owed 1 = .ok (.i2l, 1) := by decide +kernel
theorem dX12_owed_2 : decode cX12_owed 2 = .ok (.lconst 0, 1) := by decide +kernel
theorem dX12_owed_3 : decode cX12_owed 3 = .ok (.ldc2_w 262, 3) := by decide +kernel
theorem dX12_owed_6 : decode cX12_owed 6 = .ok (.invokestatic 57, 3) := by decide +kernel
theorem dX12_owed_9 : decode cX12_owed 9 = .ok (.ifCond .ne 7, 3) := by decide +kernel
theorem dX12_owed_12 : decode cX12_owed 12 = .ok (.ldc2_w 120, 3) := by decide +kernel
theorem dX12_owed_15 : decode cX12_owed 15 = .ok (.lreturn, 1) := by decide +kernel
theorem dX12_owed_16 : decode cX12_owed 16 = .ok (.aload_n 0, 1) := by decide +kernel
theorem dX12_owed_17 : decode cX12_owed 17 = .ok (.getfield 9, 3) := by decide +kernel
theorem dX12_owed_20 : decode cX12_owed 20 = .ok (.iconst 3, 1) := by decide +kernel
theorem dX12_owed_21 : decode cX12_owed 21 = .ok (.iaload, 1) := by decide +kernel
theorem dX12_owed_22 : decode cX12_owed 22 = .ok (.ifCond .ne 7, 3) := by decide +kernel
theorem dX12_owed_25 : decode cX12_owed 25 = .ok (.ldc2_w 256, 3) := by decide +kernel
theorem dX12_owed_28 : decode cX12_owed 28 = .ok (.lreturn, 1) := by decide +kernel
theorem dX12_owed_29 : decode cX12_owed 29 = .ok (.lconst 0, 1) := by decide +kernel
theorem dX12_owed_30 : decode cX12_owed 30 = .ok (.lstore_n 2, 1) := by decide +kernel
theorem dX12_owed_31 : decode cX12_owed 31 = .ok (.iconst 0, 1) := by decide +kernel
theorem dX12_owed_32 : decode cX12_owed 32 = .ok (.istore 4, 2) := by decide +kernel
theorem dX12_owed_34 : decode cX12_owed 34 = .ok (.iload 4, 2) := by decide +kernel
theorem dX12_owed_36 : decode cX12_owed 36 = .ok (.aload_n 0, 1) := by decide +kernel
theorem dX12_owed_37 : decode cX12_owed 37 = .ok (.getfield 9, 3) := by decide +kernel
theorem dX12_owed_40 : decode cX12_owed 40 = .ok (.iconst 4, 1) := by decide +kernel
theorem dX12_owed_41 : decode cX12_owed 41 = .ok (.iaload, 1) := by decide +kernel
theorem dX12_owed_42 : decode cX12_owed 42 = .ok (.if_icmp .ge 77, 3) := by decide +kernel
theorem dX12_owed_45 : decode cX12_owed 45 = .ok (.aload_n 0, 1) := by decide +kernel
theorem dX12_owed_46 : decode cX12_owed 46 = .ok (.getfield 9, 3) := by decide +kernel
theorem dX12_owed_49 : decode cX12_owed 49 = .ok (.sipush 274, 3) := by decide +kernel
theorem dX12_owed_52 : decode cX12_owed 52 = .ok (.iconst 3, 1) := by decide +kernel
theorem dX12_owed_53 : decode cX12_owed 53 = .ok (.iload 4, 2) := by decide +kernel
theorem dX12_owed_55 : decode cX12_owed 55 = .ok (.imul, 1) := by decide +kernel
theorem dX12_owed_56 : decode cX12_owed 56 = .ok (.iadd, 1) := by decide +kernel
theorem dX12_owed_57 : decode cX12_owed 57 = .ok (.iaload, 1) := by decide +kernel
theorem dX12_owed_58 : decode cX12_owed 58 = .ok (.iload_n 1, 1) := by decide +kernel
theorem dX12_owed_59 : decode cX12_owed 59 = .ok (.if_icmp .ne 54, 3) := by decide +kernel
theorem dX12_owed_62 : decode cX12_owed 62 = .ok (.lload_n 2, 1) := by decide +kernel
theorem dX12_owed_63 : decode cX12_owed 63 = .ok (.aload_n 0, 1) := by decide +kernel
theorem dX12_owed_64 : decode cX12_owed 64 = .ok (.getfield 9, 3) := by decide +kernel
theorem dX12_owed_67 : decode cX12_owed 67 = .ok (.sipush 274, 3) := by decide +kernel
theorem dX12_owed_70 : decode cX12_owed 70 = .ok (.iconst 3, 1) := by decide +kernel
theorem dX12_owed_71 : decode cX12_owed 71 = .ok (.iload 4, 2) := by decide +kernel
theorem dX12_owed_73 : decode cX12_owed 73 = .ok (.imul, 1) := by decide +kernel
theorem dX12_owed_74 : decode cX12_owed 74 = .ok (.iadd, 1) := by decide +kernel
theorem dX12_owed_75 : decode cX12_owed 75 = .ok (.iconst 2, 1) := by decide +kernel
theorem dX12_owed_76 : decode cX12_owed 76 = .ok (.iadd, 1) := by decide +kernel
theorem dX12_owed_77 : decode cX12_owed 77 = .ok (.iaload, 1) := by decide +kernel
theorem dX12_owed_78 : decode cX12_owed 78 = .ok (.i2l, 1) := by decide +kernel
theorem dX12_owed_79 : decode cX12_owed 79 = .ok (.aload_n 0, 1) := by decide +kernel
theorem dX12_owed_80 : decode cX12_owed 80 = .ok (.aload_n 0, 1) := by decide +kernel
theorem dX12_owed_81 : decode cX12_owed 81 = .ok (.getfield 9, 3) := by decide +kernel
theorem dX12_owed_84 : decode cX12_owed 84 = .ok (.sipush 274, 3) := by decide +kernel
theorem dX12_owed_87 : decode cX12_owed 87 = .ok (.iconst 3, 1) := by decide +kernel
theorem dX12_owed_88 : decode cX12_owed 88 = .ok (.iload 4, 2) := by decide +kernel
theorem dX12_owed_90 : decode cX12_owed 90 = .ok (.imul, 1) := by decide +kernel
theorem dX12_owed_91 : decode cX12_owed 91 = .ok (.iadd, 1) := by decide +kernel
theorem dX12_owed_92 : decode cX12_owed 92 = .ok (.iconst 1, 1) := by decide +kernel
theorem dX12_owed_93 : decode cX12_owed 93 = .ok (.iadd, 1) := by decide +kernel
theorem dX12_owed_94 : decode cX12_owed 94 = .ok (.iaload, 1) := by decide +kernel
theorem dX12_owed_95 : decode cX12_owed 95 = .ok (.invokevirtual 258, 3) := by decide +kernel
theorem dX12_owed_98 : decode cX12_owed 98 = .ok (.lmul, 1) := by decide +kernel
theorem dX12_owed_99 : decode cX12_owed 99 = .ok (.ldc2_w 71, 3) := by decide +kernel
theorem dX12_owed_102 : decode cX12_owed 102 = .ok (.ldiv, 1) := by decide +kernel
theorem dX12_owed_103 : decode cX12_owed 103 = .ok (.aload_n 0, 1) := by decide +kernel
theorem dX12_owed_104 : decode cX12_owed 104 = .ok (.getfield 16, 3) := by decide +kernel
theorem dX12_owed_107 : decode cX12_owed 107 = .ok (.iload 4, 2) := by decide +kernel
theorem dX12_owed_109 : decode cX12_owed 109 = .ok (.laload, 1) := by decide +kernel
theorem dX12_owed_110 : decode cX12_owed 110 = .ok (.lsub, 1) := by decide +kernel
theorem dX12_owed_111 : decode cX12_owed 111 = .ok (.ladd, 1) := by decide +kernel
theorem dX12_owed_112 : decode cX12_owed 112 = .ok (.lstore_n 2, 1) := by decide +kernel
theorem dX12_owed_113 : decode cX12_owed 113 = .ok (.iinc 4 1, 3) := by decide +kernel
theorem dX12_owed_116 : decode cX12_owed 116 = .ok (.goto (-82), 3) := by decide +kernel
theorem dX12_owed_119 : decode cX12_owed 119 = .ok (.lload_n 2, 1) := by decide +kernel
theorem dX12_owed_120 : decode cX12_owed 120 = .ok (.lreturn, 1) := by decide +kernel
theorem dX12_bits_0 : decode cX12_bits 0 = .ok (.iconst 0, 1) := by decide +kernel
theorem dX12_bits_1 : decode cX12_bits 1 = .ok (.istore_n 1, 1) := by decide +kernel
theorem dX12_bits_2 : decode cX12_bits 2 = .ok (.iload_n 0, 1) := by decide +kernel
theorem dX12_bits_3 : decode cX12_bits 3 = .ok (.istore_n 2, 1) := by decide +kernel
theorem dX12_bits_4 : decode cX12_bits 4 = .ok (.iload_n 2, 1) := by decide +kernel
theorem dX12_bits_5 : decode cX12_bits 5 = .ok (.ifCond .le 16, 3) := by decide +kernel
theorem dX12_bits_8 : decode cX12_bits 8 = .ok (.iload_n 1, 1) := by decide +kernel
theorem dX12_bits_9 : decode cX12_bits 9 = .ok (.iload_n 2, 1) := by decide +kernel
theorem dX12_bits_10 : decode cX12_bits 10 = .ok (.iconst 1, 1) := by decide +kernel
theorem dX12_bits_11 : decode cX12_bits 11 = .ok (.iand, 1) := by decide +kernel
theorem dX12_bits_12 : decode cX12_bits 12 = .ok (.iadd, 1) := by decide +kernel
theorem dX12_bits_13 : decode cX12_bits 13 = .ok (.istore_n 1, 1) := by decide +kernel
theorem dX12_bits_14 : decode cX12_bits 14 = .ok (.iload_n 2, 1) := by decide +kernel
theorem dX12_bits_15 : decode cX12_bits 15 = .ok (.iconst 1, 1) := by decide +kernel
theorem dX12_bits_16 : decode cX12_bits 16 = .ok (.ishr, 1) := by decide +kernel
theorem dX12_bits_17 : decode cX12_bits 17 = .ok (.istore_n 2, 1) := by decide +kernel
theorem dX12_bits_18 : decode cX12_bits 18 = .ok (.goto (-14), 3) := by decide +kernel
theorem dX12_bits_21 : decode cX12_bits 21 = .ok (.iload_n 1, 1) := by decide +kernel
theorem dX12_bits_22 : decode cX12_bits 22 = .ok (.ireturn, 1) := by decide +kernel
theorem dX12_isCosts_0 : decode cX12_isCosts 0 = .ok (.iload_n 0, 1) := by decide +kernel
theorem dX12_isCosts_1 : decode cX12_isCosts 1 = .ok (.i2l, 1) := by decide +kernel
theorem dX12_isCosts_2 : decode cX12_isCosts 2 = .ok (.lconst 0, 1) := by decide +kernel
theorem dX12_isCosts_3 : decode cX12_isCosts 3 = .ok (.ldc2_w 264, 3) := by decide +kernel
theorem dX12_isCosts_6 : decode cX12_isCosts 6 = .ok (.invokestatic 57, 3) := by decide +kernel
theorem dX12_isCosts_9 : decode cX12_isCosts 9 = .ok (.ifCond .eq 32, 3) := by decide +kernel
theorem dX12_isCosts_12 : decode cX12_isCosts 12 = .ok (.iload_n 0, 1) := by decide +kernel
theorem dX12_isCosts_13 : decode cX12_isCosts 13 = .ok (.sipush 1000, 3) := by decide +kernel
theorem dX12_isCosts_16 : decode cX12_isCosts 16 = .ok (.irem, 1) := by decide +kernel
theorem dX12_isCosts_17 : decode cX12_isCosts 17 = .ok (.iload_n 0, 1) := by decide +kernel
theorem dX12_isCosts_18 : decode cX12_isCosts 18 = .ok (.sipush 1000, 3) := by decide +kernel
theorem dX12_isCosts_21 : decode cX12_isCosts 21 = .ok (.idiv, 1) := by decide +kernel
theorem dX12_isCosts_22 : decode cX12_isCosts 22 = .ok (.if_icmp .ge 19, 3) := by decide +kernel
theorem dX12_isCosts_25 : decode cX12_isCosts 25 = .ok (.iload_n 1, 1) := by decide +kernel
theorem dX12_isCosts_26 : decode cX12_isCosts 26 = .ok (.i2l, 1) := by decide +kernel
theorem dX12_isCosts_27 : decode cX12_isCosts 27 = .ok (.lconst 0, 1) := by decide +kernel
theorem dX12_isCosts_28 : decode cX12_isCosts 28 = .ok (.ldc2_w 69, 3) := by decide +kernel
theorem dX12_isCosts_31 : decode cX12_isCosts 31 = .ok (.invokestatic 57, 3) := by decide +kernel
theorem dX12_isCosts_34 : decode cX12_isCosts 34 = .ok (.ifCond .eq 7, 3) := by decide +kernel
theorem dX12_isCosts_37 : decode cX12_isCosts 37 = .ok (.iconst 1, 1) := by decide +kernel
theorem dX12_isCosts_38 : decode cX12_isCosts 38 = .ok (.goto 4, 3) := by decide +kernel
theorem dX12_isCosts_41 : decode cX12_isCosts 41 = .ok (.iconst 0, 1) := by decide +kernel
theorem dX12_isCosts_42 : decode cX12_isCosts 42 = .ok (.ireturn, 1) := by decide +kernel
theorem dX12_gainBy_0 : decode cX12_gainBy 0 = .ok (.iload_n 0, 1) := by decide +kernel
theorem dX12_gainBy_1 : decode cX12_gainBy 1 = .ok (.iconst (-1), 1) := by decide +kernel
theorem dX12_gainBy_2 : decode cX12_gainBy 2 = .ok (.ixor, 1) := by decide +kernel
theorem dX12_gainBy_3 : decode cX12_gainBy 3 = .ok (.bipush 127, 2) := by decide +kernel
theorem dX12_gainBy_5 : decode cX12_gainBy 5 = .ok (.iand, 1) := by decide +kernel
theorem dX12_gainBy_6 : decode cX12_gainBy 6 = .ok (.istore 4, 2) := by decide +kernel
theorem dX12_gainBy_8 : decode cX12_gainBy 8 = .ok (.iload 4, 2) := by decide +kernel
theorem dX12_gainBy_10 : decode cX12_gainBy 10 = .ok (.invokestatic 266, 3) := by decide +kernel
theorem dX12_gainBy_13 : decode cX12_gainBy 13 = .ok (.iload_n 1, 1) := by decide +kernel
theorem dX12_gainBy_14 : decode cX12_gainBy 14 = .ok (.sipush 1000, 3) := by decide +kernel
theorem dX12_gainBy_17 : decode cX12_gainBy 17 = .ok (.idiv, 1) := by decide +kernel
theorem dX12_gainBy_18 : decode cX12_gainBy 18 = .ok (.iload_n 1, 1) := by decide +kernel
theorem dX12_gainBy_19 : decode cX12_gainBy 19 = .ok (.sipush 1000, 3) := by decide +kernel
theorem dX12_gainBy_22 : decode cX12_gainBy 22 = .ok (.irem, 1) := by decide +kernel
theorem dX12_gainBy_23 : decode cX12_gainBy 23 = .ok (.isub, 1) := by decide +kernel
theorem dX12_gainBy_24 : decode cX12_gainBy 24 = .ok (.imul, 1) := by decide +kernel
theorem dX12_gainBy_25 : decode cX12_gainBy 25 = .ok (.iload_n 2, 1) := by decide +kernel
theorem dX12_gainBy_26 : decode cX12_gainBy 26 = .ok (.iload 4, 2) := by decide +kernel
theorem dX12_gainBy_28 : decode cX12_gainBy 28 = .ok (.iload_n 3, 1) := by decide +kernel
theorem dX12_gainBy_29 : decode cX12_gainBy 29 = .ok (.iand, 1) := by decide +kernel
theorem dX12_gainBy_30 : decode cX12_gainBy 30 = .ok (.invokestatic 266, 3) := by decide +kernel
theorem dX12_gainBy_33 : decode cX12_gainBy 33 = .ok (.imul, 1) := by decide +kernel
theorem dX12_gainBy_34 : decode cX12_gainBy 34 = .ok (.isub, 1) := by decide +kernel
theorem dX12_gainBy_35 : decode cX12_gainBy 35 = .ok (.ireturn, 1) := by decide +kernel
theorem dX12_byLot_0 : decode cX12_byLot 0 = .ok (.iconst 0, 1) := by decide +kernel
theorem dX12_byLot_1 : decode cX12_byLot 1 = .ok (.istore 4, 2) := by decide +kernel
theorem dX12_byLot_3 : decode cX12_byLot 3 = .ok (.iconst 0, 1) := by decide +kernel
theorem dX12_byLot_4 : decode cX12_byLot 4 = .ok (.istore 5, 2) := by decide +kernel
theorem dX12_byLot_6 : decode cX12_byLot 6 = .ok (.iload 5, 2) := by decide +kernel
theorem dX12_byLot_8 : decode cX12_byLot 8 = .ok (.sipush 128, 3) := by decide +kernel
theorem dX12_byLot_11 : decode cX12_byLot 11 = .ok (.if_icmp .ge 35, 3) := by decide +kernel
theorem dX12_byLot_14 : decode cX12_byLot 14 = .ok (.iload 4, 2) := by decide +kernel
theorem dX12_byLot_16 : decode cX12_byLot 16 = .ok (.iload 5, 2) := by decide +kernel
theorem dX12_byLot_18 : decode cX12_byLot 18 = .ok (.invokestatic 266, 3) := by decide +kernel
theorem dX12_byLot_21 : decode cX12_byLot 21 = .ok (.iload_n 3, 1) := by decide +kernel
theorem dX12_byLot_22 : decode cX12_byLot 22 = .ok (.if_icmp .ne 14, 3) := by decide +kernel
theorem dX12_byLot_25 : decode cX12_byLot 25 = .ok (.iload_n 0, 1) := by decide +kernel
theorem dX12_byLot_26 : decode cX12_byLot 26 = .ok (.iload_n 1, 1) := by decide +kernel
theorem dX12_byLot_27 : decode cX12_byLot 27 = .ok (.iload_n 2, 1) := by decide +kernel
theorem dX12_byLot_28 : decode cX12_byLot 28 = .ok (.iload 5, 2) := by decide +kernel
theorem dX12_byLot_30 : decode cX12_byLot 30 = .ok (.invokestatic 269, 3) := by decide +kernel
theorem dX12_byLot_33 : decode cX12_byLot 33 = .ok (.goto 4, 3) := by decide +kernel
theorem dX12_byLot_36 : decode cX12_byLot 36 = .ok (.iconst 0, 1) := by decide +kernel
theorem dX12_byLot_37 : decode cX12_byLot 37 = .ok (.iadd, 1) := by decide +kernel
theorem dX12_byLot_38 : decode cX12_byLot 38 = .ok (.istore 4, 2) := by decide +kernel
theorem dX12_byLot_40 : decode cX12_byLot 40 = .ok (.iinc 5 1, 3) := by decide +kernel
theorem dX12_byLot_43 : decode cX12_byLot 43 = .ok (.goto (-37), 3) := by decide +kernel
theorem dX12_byLot_46 : decode cX12_byLot 46 = .ok (.iload 4, 2) := by decide +kernel
theorem dX12_byLot_48 : decode cX12_byLot 48 = .ok (.ireturn, 1) := by decide +kernel
theorem dX12_gain_0 : decode cX12_gain 0 = .ok (.iload_n 1, 1) := by decide +kernel
theorem dX12_gain_1 : decode cX12_gain 1 = .ok (.i2l, 1) := by decide +kernel
theorem dX12_gain_2 : decode cX12_gain 2 = .ok (.lconst 0, 1) := by decide +kernel
theorem dX12_gain_3 : decode cX12_gain 3 = .ok (.ldc2_w 272, 3) := by decide +kernel
theorem dX12_gain_6 : decode cX12_gain 6 = .ok (.invokestatic 57, 3) := by decide +kernel
theorem dX12_gain_9 : decode cX12_gain 9 = .ok (.ifCond .eq 35, 3) := by decide +kernel
theorem dX12_gain_12 : decode cX12_gain 12 = .ok (.iload_n 2, 1) := by decide +kernel
theorem dX12_gain_13 : decode cX12_gain 13 = .ok (.iload_n 3, 1) := by decide +kernel
theorem dX12_gain_14 : decode cX12_gain 14 = .ok (.invokestatic 274, 3) := by decide +kernel
theorem dX12_gain_17 : decode cX12_gain 17 = .ok (.ifCond .eq 27, 3) := by decide +kernel
theorem dX12_gain_20 : decode cX12_gain 20 = .ok (.iload 4, 2) := by decide +kernel
theorem dX12_gain_22 : decode cX12_gain 22 = .ok (.i2l, 1) := by decide +kernel
theorem dX12_gain_23 : decode cX12_gain 23 = .ok (.lconst 0, 1) := by decide +kernel
theorem dX12_gain_24 : decode cX12_gain 24 = .ok (.iload 5, 2) := by decide +kernel
theorem dX12_gain_26 : decode cX12_gain 26 = .ok (.ifCond .eq 9, 3) := by decide +kernel
theorem dX12_gain_29 : decode cX12_gain 29 = .ok (.ldc2_w 65, 3) := by decide +kernel
theorem dX12_gain_32 : decode cX12_gain 32 = .ok (.goto 6, 3) := by decide +kernel
theorem dX12_gain_35 : decode cX12_gain 35 = .ok (.ldc2_w 272, 3) := by decide +kernel
theorem dX12_gain_38 : decode cX12_gain 38 = .ok (.invokestatic 57, 3) := by decide +kernel
theorem dX12_gain_41 : decode cX12_gain 41 = .ok (.ifCond .ne 6, 3) := by decide +kernel
theorem dX12_gain_44 : decode cX12_gain 44 = .ok (.ldc 188, 2) := by decide +kernel
theorem dX12_gain_46 : decode cX12_gain 46 = .ok (.ireturn, 1) := by decide +kernel
theorem dX12_gain_47 : decode cX12_gain 47 = .ok (.iload 5, 2) := by decide +kernel
theorem dX12_gain_49 : decode cX12_gain 49 = .ok (.ifCond .eq 14, 3) := by decide +kernel
theorem dX12_gain_52 : decode cX12_gain 52 = .ok (.iload_n 1, 1) := by decide +kernel
theorem dX12_gain_53 : decode cX12_gain 53 = .ok (.iload_n 2, 1) := by decide +kernel
theorem dX12_gain_54 : decode cX12_gain 54 = .ok (.iload_n 3, 1) := by decide +kernel
theorem dX12_gain_55 : decode cX12_gain 55 = .ok (.iload 4, 2) := by decide +kernel
theorem dX12_gain_57 : decode cX12_gain 57 = .ok (.invokestatic 277, 3) := by decide +kernel
theorem dX12_gain_60 : decode cX12_gain 60 = .ok (.goto 11, 3) := by decide +kernel
theorem dX12_gain_63 : decode cX12_gain 63 = .ok (.iload_n 1, 1) := by decide +kernel
theorem dX12_gain_64 : decode cX12_gain 64 = .ok (.iload_n 2, 1) := by decide +kernel
theorem dX12_gain_65 : decode cX12_gain 65 = .ok (.iload_n 3, 1) := by decide +kernel
theorem dX12_gain_66 : decode cX12_gain 66 = .ok (.iload 4, 2) := by decide +kernel
theorem dX12_gain_68 : decode cX12_gain 68 = .ok (.invokestatic 269, 3) := by decide +kernel
theorem dX12_gain_71 : decode cX12_gain 71 = .ok (.ireturn, 1) := by decide +kernel
theorem dX12_isEnough_0 : decode cX12_isEnough 0 = .ok (.iconst 0, 1) := by decide +kernel
theorem dX12_isEnough_1 : decode cX12_isEnough 1 = .ok (.istore_n 3, 1) := by decide +kernel
theorem dX12_isEnough_2 : decode cX12_isEnough 2 = .ok (.iload_n 3, 1) := by decide +kernel
theorem dX12_isEnough_3 : decode cX12_isEnough 3 = .ok (.bipush 127, 2) := by decide +kernel
theorem dX12_isEnough_5 : decode cX12_isEnough 5 = .ok (.if_icmp .ge 21, 3) := by decide +kernel
theorem dX12_isEnough_8 : decode cX12_isEnough 8 = .ok (.iload_n 3, 1) := by decide +kernel
theorem dX12_isEnough_9 : decode cX12_isEnough 9 = .ok (.iload_n 0, 1) := by decide +kernel
theorem dX12_isEnough_10 : decode cX12_isEnough 10 = .ok (.iload_n 1, 1) := by decide +kernel
theorem dX12_isEnough_11 : decode cX12_isEnough 11 = .ok (.iload_n 2, 1) := by decide +kernel
theorem dX12_isEnough_12 : decode cX12_isEnough 12 = .ok (.invokestatic 277, 3) := by decide +kernel
theorem dX12_isEnough_15 : decode cX12_isEnough 15 = .ok (.ifCond .le 5, 3) := by decide +kernel
theorem dX12_isEnough_18 : decode cX12_isEnough 18 = .ok (.iconst 0, 1) := by decide +kernel
theorem dX12_isEnough_19 : decode cX12_isEnough 19 = .ok (.ireturn, 1) := by decide +kernel
theorem dX12_isEnough_20 : decode cX12_isEnough 20 = .ok (.iinc 3 1, 3) := by decide +kernel
theorem dX12_isEnough_23 : decode cX12_isEnough 23 = .ok (.goto (-21), 3) := by decide +kernel
theorem dX12_isEnough_26 : decode cX12_isEnough 26 = .ok (.iconst 1, 1) := by decide +kernel
theorem dX12_isEnough_27 : decode cX12_isEnough 27 = .ok (.ireturn, 1) := by decide +kernel
theorem dX12_best_0 : decode cX12_best 0 = .ok (.iload_n 1, 1) := by decide +kernel
theorem dX12_best_1 : decode cX12_best 1 = .ok (.iload_n 2, 1) := by decide +kernel
theorem dX12_best_2 : decode cX12_best 2 = .ok (.invokestatic 274, 3) := by decide +kernel
theorem dX12_best_5 : decode cX12_best 5 = .ok (.ifCond .eq 36, 3) := by decide +kernel
theorem dX12_best_8 : decode cX12_best 8 = .ok (.iload 4, 2) := by decide +kernel
theorem dX12_best_10 : decode cX12_best 10 = .ok (.i2l, 1) := by decide +kernel
theorem dX12_best_11 : decode cX12_best 11 = .ok (.lconst 0, 1) := by decide +kernel
theorem dX12_best_12 : decode cX12_best 12 = .ok (.lconst 1, 1) := by decide +kernel
theorem dX12_best_13 : decode cX12_best 13 = .ok (.invokestatic 57, 3) := by decide +kernel
theorem dX12_best_16 : decode cX12_best 16 = .ok (.ifCond .eq 25, 3) := by decide +kernel
theorem dX12_best_19 : decode cX12_best 19 = .ok (.iload_n 3, 1) := by decide +kernel
theorem dX12_best_20 : decode cX12_best 20 = .ok (.i2l, 1) := by decide +kernel
theorem dX12_best_21 : decode cX12_best 21 = .ok (.lconst 0, 1) := by decide +kernel
theorem dX12_best_22 : decode cX12_best 22 = .ok (.iload 4, 2) := by decide +kernel
theorem dX12_best_24 : decode cX12_best 24 = .ok (.iconst 1, 1) := by decide +kernel
theorem dX12_best_25 : decode cX12_best 25 = .ok (.if_icmp .ne 7, 3) := by decide +kernel
theorem dX12_best_28 : decode cX12_best 28 = .ok (.lconst 0, 1) := by decide +kernel
theorem dX12_best_29 : decode cX12_best 29 = .ok (.goto 6, 3) := by decide +kernel
theorem dX12_best_32 : decode cX12_best 32 = .ok (.ldc2_w 272, 3) := by decide +kernel
theorem dX12_best_35 : decode cX12_best 35 = .ok (.invokestatic 57, 3) := by decide +kernel
theorem dX12_best_38 : decode cX12_best 38 = .ok (.ifCond .ne 5, 3) := by decide +kernel
theorem dX12_best_41 : decode cX12_best 41 = .ok (.iconst (-1), 1) := by decide +kernel
theorem dX12_best_42 : decode cX12_best 42 = .ok (.ireturn, 1) := by decide +kernel
theorem dX12_best_43 : decode cX12_best 43 = .ok (.iload 4, 2) := by decide +kernel
theorem dX12_best_45 : decode cX12_best 45 = .ok (.iconst 1, 1) := by decide +kernel
theorem dX12_best_46 : decode cX12_best 46 = .ok (.if_icmp .ne 35, 3) := by decide +kernel
theorem dX12_best_49 : decode cX12_best 49 = .ok (.iconst 0, 1) := by decide +kernel
theorem dX12_best_50 : decode cX12_best 50 = .ok (.istore 5, 2) := by decide +kernel
theorem dX12_best_52 : decode cX12_best 52 = .ok (.iload 5, 2) := by decide +kernel
theorem dX12_best_54 : decode cX12_best 54 = .ok (.bipush 8, 2) := by decide +kernel
theorem dX12_best_56 : decode cX12_best 56 = .ok (.if_icmp .ge 22, 3) := by decide +kernel
theorem dX12_best_59 : decode cX12_best 59 = .ok (.iload_n 1, 1) := by decide +kernel
theorem dX12_best_60 : decode cX12_best 60 = .ok (.iload_n 2, 1) := by decide +kernel
theorem dX12_best_61 : decode cX12_best 61 = .ok (.iload 5, 2) := by decide +kernel
theorem dX12_best_63 : decode cX12_best 63 = .ok (.invokestatic 280, 3) := by decide +kernel
theorem dX12_best_66 : decode cX12_best 66 = .ok (.ifCond .eq 6, 3) := by decide +kernel
theorem dX12_best_69 : decode cX12_best 69 = .ok (.iload 5, 2) := by decide +kernel
theorem dX12_best_71 : decode cX12_best 71 = .ok (.ireturn, 1) := by decide +kernel
theorem dX12_best_72 : decode cX12_best 72 = .ok (.iinc 5 1, 3) := by decide +kernel
theorem dX12_best_75 : decode cX12_best 75 = .ok (.goto (-23), 3) := by decide +kernel
theorem dX12_best_78 : decode cX12_best 78 = .ok (.bipush (-4), 2) := by decide +kernel
theorem dX12_best_80 : decode cX12_best 80 = .ok (.ireturn, 1) := by decide +kernel
theorem dX12_best_81 : decode cX12_best 81 = .ok (.iconst 0, 1) := by decide +kernel
theorem dX12_best_82 : decode cX12_best 82 = .ok (.istore 5, 2) := by decide +kernel
theorem dX12_best_84 : decode cX12_best 84 = .ok (.iconst 1, 1) := by decide +kernel
theorem dX12_best_85 : decode cX12_best 85 = .ok (.istore 6, 2) := by decide +kernel
theorem dX12_best_87 : decode cX12_best 87 = .ok (.iload 6, 2) := by decide +kernel
theorem dX12_best_89 : decode cX12_best 89 = .ok (.sipush 128, 3) := by decide +kernel
theorem dX12_best_92 : decode cX12_best 92 = .ok (.if_icmp .ge 37, 3) := by decide +kernel
theorem dX12_best_95 : decode cX12_best 95 = .ok (.iload 6, 2) := by decide +kernel
theorem dX12_best_97 : decode cX12_best 97 = .ok (.iload_n 1, 1) := by decide +kernel
theorem dX12_best_98 : decode cX12_best 98 = .ok (.iload_n 2, 1) := by decide +kernel
theorem dX12_best_99 : decode cX12_best 99 = .ok (.iload_n 3, 1) := by decide +kernel
theorem dX12_best_100 : decode cX12_best 100 = .ok (.invokestatic 269, 3) := by decide +kernel
theorem dX12_best_103 : decode cX12_best 103 = .ok (.iload 5, 2) := by decide +kernel
theorem dX12_best_105 : decode cX12_best 105 = .ok (.iload_n 1, 1) := by decide +kernel
theorem dX12_best_106 : decode cX12_best 106 = .ok (.iload_n 2, 1) := by decide +kernel
theorem dX12_best_107 : decode cX12_best 107 = .ok (.iload_n 3, 1) := by decide +kernel
theorem dX12_best_108 : decode cX12_best 108 = .ok (.invokestatic 269, 3) := by decide +kernel
theorem dX12_best_111 : decode cX12_best 111 = .ok (.if_icmp .le 8, 3) := by decide +kernel
theorem dX12_best_114 : decode cX12_best 114 = .ok (.iload 6, 2) := by decide +kernel
theorem dX12_best_116 : decode cX12_best 116 = .ok (.goto 5, 3) := by decide +kernel
theorem dX12_best_119 : decode cX12_best 119 = .ok (.iload 5, 2) := by decide +kernel
theorem dX12_best_121 : decode cX12_best 121 = .ok (.istore 5, 2) := by decide +kernel
theorem dX12_best_123 : decode cX12_best 123 = .ok (.iinc 6 1, 3) := by decide +kernel
theorem dX12_best_126 : decode cX12_best 126 = .ok (.goto (-39), 3) := by decide +kernel
theorem dX12_best_129 : decode cX12_best 129 = .ok (.iload 5, 2) := by decide +kernel
theorem dX12_best_131 : decode cX12_best 131 = .ok (.ireturn, 1) := by decide +kernel
theorem dX12_findGroups_0 : decode cX12_findGroups 0 = .ok (.iconst 0, 1) := by decide +kernel
theorem dX12_findGroups_1 : decode cX12_findGroups 1 = .ok (.istore_n 1, 1) := by decide +kernel
theorem dX12_findGroups_2 : decode cX12_findGroups 2 = .ok (.iload_n 1, 1) := by decide +kernel
theorem dX12_findGroups_3 : decode cX12_findGroups 3 = .ok (.aload_n 0, 1) := by decide +kernel
theorem dX12_findGroups_4 : decode cX12_findGroups 4 = .ok (.getfield 9, 3) := by decide +kernel
theorem dX12_findGroups_7 : decode cX12_findGroups 7 = .ok (.iconst 1, 1) := by decide +kernel
theorem dX12_findGroups_8 : decode cX12_findGroups 8 = .ok (.iaload, 1) := by decide +kernel
theorem dX12_findGroups_9 : decode cX12_findGroups 9 = .ok (.if_icmp .ge 16, 3) := by decide +kernel
theorem dX12_findGroups_12 : decode cX12_findGroups 12 = .ok (.aload_n 0, 1) := by decide +kernel
theorem dX12_findGroups_13 : decode cX12_findGroups 13 = .ok (.getfield 50, 3) := by decide +kernel
theorem dX12_findGroups_16 : decode cX12_findGroups 16 = .ok (.iload_n 1, 1) := by decide +kernel
theorem dX12_findGroups_17 : decode cX12_findGroups 17 = .ok (.iload_n 1, 1) := by decide +kernel
theorem dX12_findGroups_18 : decode cX12_findGroups 18 = .ok (.iastore, 1) := by decide +kernel
theorem dX12_findGroups_19 : decode cX12_findGroups 19 = .ok (.iinc 1 1, 3) := by decide +kernel
theorem dX12_findGroups_22 : decode cX12_findGroups 22 = .ok (.goto (-20), 3) := by decide +kernel
theorem dX12_findGroups_25 : decode cX12_findGroups 25 = .ok (.iconst 0, 1) := by decide +kernel
theorem dX12_findGroups_26 : decode cX12_findGroups 26 = .ok (.istore_n 1, 1) := by decide +kernel
theorem dX12_findGroups_27 : decode cX12_findGroups 27 = .ok (.iload_n 1, 1) := by decide +kernel
theorem dX12_findGroups_28 : decode cX12_findGroups 28 = .ok (.bipush 12, 2) := by decide +kernel
theorem dX12_findGroups_30 : decode cX12_findGroups 30 = .ok (.if_icmp .ge 115, 3) := by decide +kernel
theorem dX12_findGroups_33 : decode cX12_findGroups 33 = .ok (.iconst 0, 1) := by decide +kernel
theorem dX12_findGroups_34 : decode cX12_findGroups 34 = .ok (.istore_n 2, 1) := by decide +kernel
theorem dX12_findGroups_35 : decode cX12_findGroups 35 = .ok (.iload_n 2, 1) := by decide +kernel
theorem dX12_findGroups_36 : decode cX12_findGroups 36 = .ok (.aload_n 0, 1) := by decide +kernel
theorem dX12_findGroups_37 : decode cX12_findGroups 37 = .ok (.getfield 9, 3) := by decide +kernel
theorem dX12_findGroups_40 : decode cX12_findGroups 40 = .ok (.iconst 2, 1) := by decide +kernel
theorem dX12_findGroups_41 : decode cX12_findGroups 41 = .ok (.iaload, 1) := by decide +kernel
theorem dX12_findGroups_42 : decode cX12_findGroups 42 = .ok (.if_icmp .ge 97, 3) := by decide +kernel
theorem dX12_findGroups_45 : decode cX12_findGroups 45 = .ok (.aload_n 0, 1) := by decide +kernel
theorem dX12_findGroups_46 : decode cX12_findGroups 46 = .ok (.iload_n 2, 1) := by decide +kernel
theorem dX12_findGroups_47 : decode cX12_findGroups 47 = .ok (.iconst 5, 1) := by decide +kernel
theorem dX12_findGroups_48 : decode cX12_findGroups 48 = .ok (.invokevirtual 158, 3) := by decide +kernel
theorem dX12_findGroups_51 : decode cX12_findGroups 51 = .ok (.iconst 1, 1) := by decide +kernel
theorem dX12_findGroups_52 : decode cX12_findGroups 52 = .ok (.if_icmp .ne 6, 3) := by decide +kernel
theorem dX12_findGroups_55 : decode cX12_findGroups 55 = .ok (.goto 78, 3) := by decide +kernel
theorem dX12_findGroups_58 : decode cX12_findGroups 58 = .ok (.aload_n 0, 1) := by decide +kernel
theorem dX12_findGroups_59 : decode cX12_findGroups 59 = .ok (.getfield 50, 3) := by decide +kernel
theorem dX12_findGroups_62 : decode cX12_findGroups 62 = .ok (.aload_n 0, 1) := by decide +kernel
theorem dX12_findGroups_63 : decode cX12_findGroups 63 = .ok (.iload_n 2, 1) := by decide +kernel
theorem dX12_findGroups_64 : decode cX12_findGroups 64 = .ok (.iconst 0, 1) := by decide +kernel
theorem dX12_findGroups_65 : decode cX12_findGroups 65 = .ok (.invokevirtual 158, 3) := by decide +kernel
theorem dX12_findGroups_68 : decode cX12_findGroups 68 = .ok (.iaload, 1) := by decide +kernel
theorem dX12_findGroups_69 : decode cX12_findGroups 69 = .ok (.aload_n 0, 1) := by decide +kernel
theorem dX12_findGroups_70 : decode cX12_findGroups 70 = .ok (.getfield 50, 3) := by decide +kernel
theorem dX12_findGroups_73 : decode cX12_findGroups 73 = .ok (.aload_n 0, 1) := by decide +kernel
theorem dX12_findGroups_74 : decode cX12_findGroups 74 = .ok (.iload_n 2, 1) := by decide +kernel
theorem dX12_findGroups_75 : decode cX12_findGroups 75 = .ok (.iconst 1, 1) := by decide +kernel
theorem dX12_findGroups_76 : decode cX12_findGroups 76 = .ok (.invokevirtual 158, 3) := by decide +kernel
theorem dX12_findGroups_79 : decode cX12_findGroups 79 = .ok (.iaload, 1) := by decide +kernel
theorem dX12_findGroups_80 : decode cX12_findGroups 80 = .ok (.if_icmp .ge 17, 3) := by decide +kernel
theorem dX12_findGroups_83 : decode cX12_findGroups 83 = .ok (.aload_n 0, 1) := by decide +kernel
theorem dX12_findGroups_84 : decode cX12_findGroups 84 = .ok (.getfield 50, 3) := by decide +kernel
theorem dX12_findGroups_87 : decode cX12_findGroups 87 = .ok (.aload_n 0, 1) := by decide +kernel
theorem dX12_findGroups_88 : decode cX12_findGroups 88 = .ok (.iload_n 2, 1) := by decide +kernel
theorem dX12_findGroups_89 : decode cX12_findGroups 89 = .ok (.iconst 0, 1) := by decide +kernel
theorem dX12_findGroups_90 : decode cX12_findGroups 90 = .ok (.invokevirtual 158, 3) := by decide +kernel
theorem dX12_findGroups_93 : decode cX12_findGroups 93 = .ok (.iaload, 1) := by decide +kernel
theorem dX12_findGroups_94 : decode cX12_findGroups 94 = .ok (.goto 14, 3) := by decide +kernel
theorem dX12_findGroups_97 : decode cX12_findGroups 97 = .ok (.aload_n 0, 1) := by decide +kernel
theorem dX12_findGroups_98 : decode cX12_findGroups 98 = .ok (.getfield 50, 3) := by decide +kernel
theorem dX12_findGroups_101 : decode cX12_findGroups 101 = .ok (.aload_n 0, 1) := by decide +kernel
theorem dX12_findGroups_102 : decode cX12_findGroups 102 = .ok (.iload_n 2, 1) := by decide +kernel
theorem dX12_findGroups_103 : decode cX12_findGroups 103 = .ok (.iconst 1, 1) := by decide +kernel
theorem dX12_findGroups_104 : decode cX12_findGroups 104 = .ok (.invokevirtual 158, 3) := by decide +kernel
theorem dX12_findGroups_107 : decode cX12_findGroups 107 = .ok (.iaload, 1) := by decide +kernel
theorem dX12_findGroups_108 : decode cX12_findGroups 108 = .ok (.istore_n 3, 1) := by decide +kernel
theorem dX12_findGroups_109 : decode cX12_findGroups 109 = .ok (.aload_n 0, 1) := by decide +kernel
theorem dX12_findGroups_110 : decode cX12_findGroups 110 = .ok (.getfield 50, 3) := by decide +kernel
theorem dX12_findGroups_113 : decode cX12_findGroups 113 = .ok (.aload_n 0, 1) := by decide +kernel
theorem dX12_findGroups_114 : decode cX12_findGroups 114 = .ok (.iload_n 2, 1) := by decide +kernel
theorem dX12_findGroups_115 : decode cX12_findGroups 115 = .ok (.iconst 0, 1) := by decide +kernel
theorem dX12_findGroups_116 : decode cX12_findGroups 116 = .ok (.invokevirtual 158, 3) := by decide +kernel
theorem dX12_findGroups_119 : decode cX12_findGroups 119 = .ok (.iload_n 3, 1) := by decide +kernel
theorem dX12_findGroups_120 : decode cX12_findGroups 120 = .ok (.iastore, 1) := by decide +kernel
theorem dX12_findGroups_121 : decode cX12_findGroups 121 = .ok (.aload_n 0, 1) := by decide +kernel
theorem dX12_findGroups_122 : decode cX12_findGroups 122 = .ok (.getfield 50, 3) := by decide +kernel
theorem dX12_findGroups_125 : decode cX12_findGroups 125 = .ok (.aload_n 0, 1) := by decide +kernel
theorem dX12_findGroups_126 : decode cX12_findGroups 126 = .ok (.iload_n 2, 1) := by decide +kernel
theorem dX12_findGroups_127 : decode cX12_findGroups 127 = .ok (.iconst 1, 1) := by decide +kernel
theorem dX12_findGroups_128 : decode cX12_findGroups 128 = .ok (.invokevirtual 158, 3) := by decide +kernel
theorem dX12_findGroups_131 : decode cX12_findGroups 131 = .ok (.iload_n 3, 1) := by decide +kernel
theorem dX12_findGroups_132 : decode cX12_findGroups 132 = .ok (.iastore, 1) := by decide +kernel
theorem dX12_findGroups_133 : decode cX12_findGroups 133 = .ok (.iinc 2 1, 3) := by decide +kernel
theorem dX12_findGroups_136 : decode cX12_findGroups 136 = .ok (.goto (-101), 3) := by decide +kernel
theorem dX12_findGroups_139 : decode cX12_findGroups 139 = .ok (.iinc 1 1, 3) := by decide +kernel
theorem dX12_findGroups_142 : decode cX12_findGroups 142 = .ok (.goto (-115), 3) := by decide +kernel
theorem dX12_findGroups_145 : decode cX12_findGroups 145 = .ok (.return_, 1) := by decide +kernel
theorem dX12_sizeOf_0 : decode cX12_sizeOf 0 = .ok (.iconst 0, 1) := by decide +kernel
theorem dX12_sizeOf_1 : decode cX12_sizeOf 1 = .ok (.istore_n 2, 1) := by decide +kernel
theorem dX12_sizeOf_2 : decode cX12_sizeOf 2 = .ok (.iconst 0, 1) := by decide +kernel
theorem dX12_sizeOf_3 : decode cX12_sizeOf 3 = .ok (.istore_n 3, 1) := by decide +kernel
theorem dX12_sizeOf_4 : decode cX12_sizeOf 4 = .ok (.iload_n 3, 1) := by decide +kernel
theorem dX12_sizeOf_5 : decode cX12_sizeOf 5 = .ok (.aload_n 0, 1) := by decide +kernel
theorem dX12_sizeOf_6 : decode cX12_sizeOf 6 = .ok (.getfield 9, 3) := by decide +kernel
theorem dX12_sizeOf_9 : decode cX12_sizeOf 9 = .ok (.iconst 1, 1) := by decide +kernel
theorem dX12_sizeOf_10 : decode cX12_sizeOf 10 = .ok (.iaload, 1) := by decide +kernel
theorem dX12_sizeOf_11 : decode cX12_sizeOf 11 = .ok (.if_icmp .ge 27, 3) := by decide +kernel
theorem dX12_sizeOf_14 : decode cX12_sizeOf 14 = .ok (.iload_n 2, 1) := by decide +kernel
theorem dX12_sizeOf_15 : decode cX12_sizeOf 15 = .ok (.aload_n 0, 1) := by decide +kernel
theorem dX12_sizeOf_16 : decode cX12_sizeOf 16 = .ok (.getfield 50, 3) := by decide +kernel
theorem dX12_sizeOf_19 : decode cX12_sizeOf 19 = .ok (.iload_n 3, 1) := by decide +kernel
theorem dX12_sizeOf_20 : decode cX12_sizeOf 20 = .ok (.iaload, 1) := by decide +kernel
theorem dX12_sizeOf_21 : decode cX12_sizeOf 21 = .ok (.iload_n 1, 1) := by decide +kernel
theorem dX12_sizeOf_22 : decode cX12_sizeOf 22 = .ok (.if_icmp .ne 7, 3) := by decide +kernel
theorem dX12_sizeOf_25 : decode cX12_sizeOf 25 = .ok (.iconst 1, 1) := by decide +kernel
theorem dX12_sizeOf_26 : decode cX12_sizeOf 26 = .ok (.goto 4, 3) := by decide +kernel
theorem dX12_sizeOf_29 : decode cX12_sizeOf 29 = .ok (.iconst 0, 1) := by decide +kernel
theorem dX12_sizeOf_30 : decode cX12_sizeOf 30 = .ok (.iadd, 1) := by decide +kernel
theorem dX12_sizeOf_31 : decode cX12_sizeOf 31 = .ok (.istore_n 2, 1) := by decide +kernel
theorem dX12_sizeOf_32 : decode cX12_sizeOf 32 = .ok (.iinc 3 1, 3) := by decide +kernel
theorem dX12_sizeOf_35 : decode cX12_sizeOf 35 = .ok (.goto (-31), 3) := by decide +kernel
theorem dX12_sizeOf_38 : decode cX12_sizeOf 38 = .ok (.iload_n 2, 1) := by decide +kernel
theorem dX12_sizeOf_39 : decode cX12_sizeOf 39 = .ok (.ireturn, 1) := by decide +kernel
theorem dX12_narrows_0 : decode cX12_narrows 0 = .ok (.aload_n 0, 1) := by decide +kernel
theorem dX12_narrows_1 : decode cX12_narrows 1 = .ok (.invokevirtual 283, 3) := by decide +kernel
theorem dX12_narrows_4 : decode cX12_narrows 4 = .ok (.bipush (-4), 2) := by decide +kernel
theorem dX12_narrows_6 : decode cX12_narrows 6 = .ok (.istore_n 1, 1) := by decide +kernel
theorem dX12_narrows_7 : decode cX12_narrows 7 = .ok (.iconst 0, 1) := by decide +kernel
theorem dX12_narrows_8 : decode cX12_narrows 8 = .ok (.istore_n 2, 1) := by decide +kernel
theorem dX12_narrows_9 : decode cX12_narrows 9 = .ok (.iconst 0, 1) := by decide +kernel
theorem dX12_narrows_10 : decode cX12_narrows 10 = .ok (.istore_n 3, 1) := by decide +kernel
theorem dX12_narrows_11 : decode cX12_narrows 11 = .ok (.iload_n 3, 1) := by decide +kernel
theorem dX12_narrows_12 : decode cX12_narrows 12 = .ok (.aload_n 0, 1) := by decide +kernel
theorem dX12_narrows_13 : decode cX12_narrows 13 = .ok (.getfield 9, 3) := by decide +kernel
theorem dX12_narrows_16 : decode cX12_narrows 16 = .ok (.iconst 1, 1) := by decide +kernel
theorem dX12_narrows_17 : decode cX12_narrows 17 = .ok (.iaload, 1) := by decide +kernel
theorem dX12_narrows_18 : decode cX12_narrows 18 = .ok (.if_icmp .ge 95, 3) := by decide +kernel
theorem dX12_narrows_21 : decode cX12_narrows 21 = .ok (.iload_n 3, 1) := by decide +kernel
theorem dX12_narrows_22 : decode cX12_narrows 22 = .ok (.iconst 1, 1) := by decide +kernel
theorem dX12_narrows_23 : decode cX12_narrows 23 = .ok (.iadd, 1) := by decide +kernel
theorem dX12_narrows_24 : decode cX12_narrows 24 = .ok (.istore 4, 2) := by decide +kernel
theorem dX12_narrows_26 : decode cX12_narrows 26 = .ok (.iload 4, 2) := by decide +kernel
theorem dX12_narrows_28 : decode cX12_narrows 28 = .ok (.aload_n 0, 1) := by decide +kernel
theorem dX12_narrows_29 : decode cX12_narrows 29 = .ok (.getfield 9, 3) := by decide +kernel
theorem dX12_narrows_32 : decode cX12_narrows 32 = .ok (.iconst 1, 1) := by decide +kernel
theorem dX12_narrows_33 : decode cX12_narrows 33 = .ok (.iaload, 1) := by decide +kernel
theorem dX12_narrows_34 : decode cX12_narrows 34 = .ok (.if_icmp .ge 73, 3) := by decide +kernel
theorem dX12_narrows_37 : decode cX12_narrows 37 = .ok (.aload_n 0, 1) := by decide +kernel
theorem dX12_narrows_38 : decode cX12_narrows 38 = .ok (.getfield 50, 3) := by decide +kernel
theorem dX12_narrows_41 : decode cX12_narrows 41 = .ok (.iload_n 3, 1) := by decide +kernel
theorem dX12_narrows_42 : decode cX12_narrows 42 = .ok (.iaload, 1) := by decide +kernel
theorem dX12_narrows_43 : decode cX12_narrows 43 = .ok (.aload_n 0, 1) := by decide +kernel
theorem dX12_narrows_44 : decode cX12_narrows 44 = .ok (.getfield 50, 3) := by decide +kernel
theorem dX12_narrows_47 : decode cX12_narrows 47 = .ok (.iload 4, 2) := by decide +kernel
theorem dX12_narrows_49 : decode cX12_narrows 49 = .ok (.iaload, 1) := by decide +kernel
theorem dX12_narrows_50 : decode cX12_narrows 50 = .ok (.if_icmp .ne 7, 3) := by decide +kernel
theorem dX12_narrows_53 : decode cX12_narrows 53 = .ok (.iconst 0, 1) := by decide +kernel
theorem dX12_narrows_54 : decode cX12_narrows 54 = .ok (.goto 25, 3) := by decide +kernel
theorem dX12_narrows_57 : decode cX12_narrows 57 = .ok (.aload_n 0, 1) := by decide +kernel
theorem dX12_narrows_58 : decode cX12_narrows 58 = .ok (.aload_n 0, 1) := by decide +kernel
theorem dX12_narrows_59 : decode cX12_narrows 59 = .ok (.getfield 50, 3) := by decide +kernel
theorem dX12_narrows_62 : decode cX12_narrows 62 = .ok (.iload_n 3, 1) := by decide +kernel
theorem dX12_narrows_63 : decode cX12_narrows 63 = .ok (.iaload, 1) := by decide +kernel
theorem dX12_narrows_64 : decode cX12_narrows 64 = .ok (.invokevirtual 286, 3) := by decide +kernel
theorem dX12_narrows_67 : decode cX12_narrows 67 = .ok (.aload_n 0, 1) := by decide +kernel
theorem dX12_narrows_68 : decode cX12_narrows 68 = .ok (.aload_n 0, 1) := by decide +kernel
theorem dX12_narrows_69 : decode cX12_narrows 69 = .ok (.getfield 50, 3) := by decide +kernel
theorem dX12_narrows_72 : decode cX12_narrows 72 = .ok (.iload 4, 2) := by decide +kernel
theorem dX12_narrows_74 : decode cX12_narrows 74 = .ok (.iaload, 1) := by decide +kernel
theorem dX12_narrows_75 : decode cX12_narrows 75 = .ok (.invokevirtual 286, 3) := by decide +kernel
theorem dX12_narrows_78 : decode cX12_narrows 78 = .ok (.imul, 1) := by decide +kernel
theorem dX12_narrows_79 : decode cX12_narrows 79 = .ok (.istore 5, 2) := by decide +kernel
theorem dX12_narrows_81 : decode cX12_narrows 81 = .ok (.iload 5, 2) := by decide +kernel
theorem dX12_narrows_83 : decode cX12_narrows 83 = .ok (.iload_n 2, 1) := by decide +kernel
theorem dX12_narrows_84 : decode cX12_narrows 84 = .ok (.if_icmp .gt 6, 3) := by decide +kernel
theorem dX12_narrows_87 : decode cX12_narrows 87 = .ok (.goto 14, 3) := by decide +kernel
theorem dX12_narrows_90 : decode cX12_narrows 90 = .ok (.bipush 100, 2) := by decide +kernel
theorem dX12_narrows_92 : decode cX12_narrows 92 = .ok (.iload_n 3, 1) := by decide +kernel
theorem dX12_narrows_93 : decode cX12_narrows 93 = .ok (.imul, 1) := by decide +kernel
theorem dX12_narrows_94 : decode cX12_narrows 94 = .ok (.iload 4, 2) := by decide +kernel
theorem dX12_narrows_96 : decode cX12_narrows 96 = .ok (.iadd, 1) := by decide +kernel
theorem dX12_narrows_97 : decode cX12_narrows 97 = .ok (.istore_n 1, 1) := by decide +kernel
theorem dX12_narrows_98 : decode cX12_narrows 98 = .ok (.iload 5, 2) := by decide +kernel
theorem dX12_narrows_100 : decode cX12_narrows 100 = .ok (.istore_n 2, 1) := by decide +kernel
theorem dX12_narrows_101 : decode cX12_narrows 101 = .ok (.iinc 4 1, 3) := by decide +kernel
theorem dX12_narrows_104 : decode cX12_narrows 104 = .ok (.goto (-78), 3) := by decide +kernel
theorem dX12_narrows_107 : decode cX12_narrows 107 = .ok (.iinc 3 1, 3) := by decide +kernel
theorem dX12_narrows_110 : decode cX12_narrows 110 = .ok (.goto (-99), 3) := by decide +kernel
theorem dX12_narrows_113 : decode cX12_narrows 113 = .ok (.iload_n 1, 1) := by decide +kernel
theorem dX12_narrows_114 : decode cX12_narrows 114 = .ok (.ireturn, 1) := by decide +kernel
theorem dX12_image_0 : decode cX12_image 0 = .ok (.iconst 0, 1) := by decide +kernel
theorem dX12_image_1 : decode cX12_image 1 = .ok (.istore_n 1, 1) := by decide +kernel
theorem dX12_image_2 : decode cX12_image 2 = .ok (.iload_n 1, 1) := by decide +kernel
theorem dX12_image_3 : decode cX12_image 3 = .ok (.sipush 434, 3) := by decide +kernel
theorem dX12_image_6 : decode cX12_image 6 = .ok (.if_icmp .ge 21, 3) := by decide +kernel
theorem dX12_image_9 : decode cX12_image 9 = .ok (.aload_n 0, 1) := by decide +kernel
theorem dX12_image_10 : decode cX12_image 10 = .ok (.getfield 13, 3) := by decide +kernel
theorem dX12_image_13 : decode cX12_image 13 = .ok (.iload_n 1, 1) := by decide +kernel
theorem dX12_image_14 : decode cX12_image 14 = .ok (.aload_n 0, 1) := by decide +kernel
theorem dX12_image_15 : decode cX12_image 15 = .ok (.getfield 9, 3) := by decide +kernel
theorem dX12_image_18 : decode cX12_image 18 = .ok (.iload_n 1, 1) := by decide +kernel
theorem dX12_image_19 : decode cX12_image 19 = .ok (.iaload, 1) := by decide +kernel
theorem dX12_image_20 : decode cX12_image 20 = .ok (.iastore, 1) := by decide +kernel
theorem dX12_image_21 : decode cX12_image 21 = .ok (.iinc 1 1, 3) := by decide +kernel
theorem dX12_image_24 : decode cX12_image 24 = .ok (.goto (-22), 3) := by decide +kernel
theorem dX12_image_27 : decode cX12_image 27 = .ok (.iconst 0, 1) := by decide +kernel
theorem dX12_image_28 : decode cX12_image 28 = .ok (.istore_n 1, 1) := by decide +kernel
theorem dX12_image_29 : decode cX12_image 29 = .ok (.iload_n 1, 1) := by decide +kernel
theorem dX12_image_30 : decode cX12_image 30 = .ok (.bipush 20, 2) := by decide +kernel
theorem dX12_image_32 : decode cX12_image 32 = .ok (.if_icmp .ge 21, 3) := by decide +kernel
theorem dX12_image_35 : decode cX12_image 35 = .ok (.aload_n 0, 1) := by decide +kernel
theorem dX12_image_36 : decode cX12_image 36 = .ok (.getfield 20, 3) := by decide +kernel
theorem dX12_image_39 : decode cX12_image 39 = .ok (.iload_n 1, 1) := by decide +kernel
theorem dX12_image_40 : decode cX12_image 40 = .ok (.aload_n 0, 1) := by decide +kernel
theorem dX12_image_41 : decode cX12_image 41 = .ok (.getfield 16, 3) := by decide +kernel
theorem dX12_image_44 : decode cX12_image 44 = .ok (.iload_n 1, 1) := by decide +kernel
theorem dX12_image_45 : decode cX12_image 45 = .ok (.laload, 1) := by decide +kernel
theorem dX12_image_46 : decode cX12_image 46 = .ok (.lastore, 1) := by decide +kernel
theorem dX12_image_47 : decode cX12_image 47 = .ok (.iinc 1 1, 3) := by decide +kernel
theorem dX12_image_50 : decode cX12_image 50 = .ok (.goto (-21), 3) := by decide +kernel
theorem dX12_image_53 : decode cX12_image 53 = .ok (.aload_n 0, 1) := by decide +kernel
theorem dX12_image_54 : decode cX12_image 54 = .ok (.iconst 1, 1) := by decide +kernel
theorem dX12_image_55 : decode cX12_image 55 = .ok (.putfield 289, 3) := by decide +kernel
theorem dX12_image_58 : decode cX12_image 58 = .ok (.aload_n 0, 1) := by decide +kernel
theorem dX12_image_59 : decode cX12_image 59 = .ok (.getfield 9, 3) := by decide +kernel
theorem dX12_image_62 : decode cX12_image 62 = .ok (.iconst 1, 1) := by decide +kernel
theorem dX12_image_63 : decode cX12_image 63 = .ok (.iaload, 1) := by decide +kernel
theorem dX12_image_64 : decode cX12_image 64 = .ok (.ireturn, 1) := by decide +kernel
theorem dX12_restore_0 : decode cX12_restore 0 = .ok (.aload_n 0, 1) := by decide +kernel
theorem dX12_restore_1 : decode cX12_restore 1 = .ok (.getfield 289, 3) := by decide +kernel
theorem dX12_restore_4 : decode cX12_restore 4 = .ok (.ifCond .ne 6, 3) := by decide +kernel
theorem dX12_restore_7 : decode cX12_restore 7 = .ok (.bipush (-3), 2) := by decide +kernel
theorem dX12_restore_9 : decode cX12_restore 9 = .ok (.ireturn, 1) := by decide +kernel
theorem dX12_restore_10 : decode cX12_restore 10 = .ok (.iconst 0, 1) := by decide +kernel
theorem dX12_restore_11 : decode cX12_restore 11 = .ok (.istore_n 1, 1) := by decide +kernel
theorem dX12_restore_12 : decode cX12_restore 12 = .ok (.iload_n 1, 1) := by decide +kernel
theorem dX12_restore_13 : decode cX12_restore 13 = .ok (.sipush 434, 3) := by decide +kernel
theorem dX12_restore_16 : decode cX12_restore 16 = .ok (.if_icmp .ge 21, 3) := by decide +kernel
theorem dX12_restore_19 : decode cX12_restore 19 = .ok (.aload_n 0, 1) := by decide +kernel
theorem dX12_restore_20 : decode cX12_restore 20 = .ok (.getfield 9, 3) := by decide +kernel
theorem dX12_restore_23 : decode cX12_restore 23 = .ok (.iload_n 1, 1) := by decide +kernel
theorem dX12_restore_24 : decode cX12_restore 24 = .ok (.aload_n 0, 1) := by decide +kernel
theorem dX12_restore_25 : decode cX12_restore 25 = .ok (.getfield 13, 3) := by decide +kernel
theorem dX12_restore_28 : decode cX12_restore 28 = .ok (.iload_n 1, 1) := by decide +kernel
theorem dX12_restore_29 : decode cX12_restore 29 = .ok (.iaload, 1) := by decide +kernel
theorem dX12_restore_30 : decode cX12_restore 30 = .ok (.iastore, 1) := by decide +kernel
theorem dX12_restore_31 : decode cX12_restore 31 = .ok (.iinc 1 1, 3) := by decide +kernel
theorem dX12_restore_34 : decode cX12_restore 34 = .ok (.goto (-22), 3) := by decide +kernel
theorem dX12_restore_37 : decode cX12_restore 37 = .ok (.iconst 0, 1) := by decide +kernel
theorem dX12_restore_38 : decode cX12_restore 38 = .ok (.istore_n 1, 1) := by decide +kernel
theorem dX12_restore_39 : decode cX12_restore 39 = .ok (.iload_n 1, 1) := by decide +kernel
theorem dX12_restore_40 : decode cX12_restore 40 = .ok (.bipush 20, 2) := by decide +kernel
theorem dX12_restore_42 : decode cX12_restore 42 = .ok (.if_icmp .ge 21, 3) := by decide +kernel
theorem dX12_restore_45 : decode cX12_restore 45 = .ok (.aload_n 0, 1) := by decide +kernel
theorem dX12_restore_46 : decode cX12_restore 46 = .ok (.getfield 16, 3) := by decide +kernel
theorem dX12_restore_49 : decode cX12_restore 49 = .ok (.iload_n 1, 1) := by decide +kernel
theorem dX12_restore_50 : decode cX12_restore 50 = .ok (.aload_n 0, 1) := by decide +kernel
theorem dX12_restore_51 : decode cX12_restore 51 = .ok (.getfield 20, 3) := by decide +kernel
theorem dX12_restore_54 : decode cX12_restore 54 = .ok (.iload_n 1, 1) := by decide +kernel
theorem dX12_restore_55 : decode cX12_restore 55 = .ok (.laload, 1) := by decide +kernel
theorem dX12_restore_56 : decode cX12_restore 56 = .ok (.lastore, 1) := by decide +kernel
theorem dX12_restore_57 : decode cX12_restore 57 = .ok (.iinc 1 1, 3) := by decide +kernel
theorem dX12_restore_60 : decode cX12_restore 60 = .ok (.goto (-21), 3) := by decide +kernel
theorem dX12_restore_63 : decode cX12_restore 63 = .ok (.aload_n 0, 1) := by decide +kernel
theorem dX12_restore_64 : decode cX12_restore 64 = .ok (.getfield 9, 3) := by decide +kernel
theorem dX12_restore_67 : decode cX12_restore 67 = .ok (.iconst 1, 1) := by decide +kernel
theorem dX12_restore_68 : decode cX12_restore 68 = .ok (.iaload, 1) := by decide +kernel
theorem dX12_restore_69 : decode cX12_restore 69 = .ok (.ireturn, 1) := by decide +kernel
theorem dX12_count_0 : decode cX12_count 0 = .ok (.iconst 0, 1) := by decide +kernel
theorem dX12_count_1 : decode cX12_count 1 = .ok (.istore_n 2, 1) := by decide +kernel
theorem dX12_count_2 : decode cX12_count 2 = .ok (.iload_n 1, 1) := by decide +kernel
theorem dX12_count_3 : decode cX12_count 3 = .ok (.tableswitch 179 0 5 #[37, 44, 51, 80, 87, 116], 37) := by decide +kernel
theorem dX12_count_40 : decode cX12_count 40 = .ok (.aload_n 0, 1) := by decide +kernel
theorem dX12_count_41 : decode cX12_count 41 = .ok (.getfield 9, 3) := by decide +kernel
theorem dX12_count_44 : decode cX12_count 44 = .ok (.iconst 1, 1) := by decide +kernel
theorem dX12_count_45 : decode cX12_count 45 = .ok (.iaload, 1) := by decide +kernel
theorem dX12_count_46 : decode cX12_count 46 = .ok (.ireturn, 1) := by decide +kernel
theorem dX12_count_47 : decode cX12_count 47 = .ok (.aload_n 0, 1) := by decide +kernel
theorem dX12_count_48 : decode cX12_count 48 = .ok (.getfield 9, 3) := by decide +kernel
theorem dX12_count_51 : decode cX12_count 51 = .ok (.iconst 2, 1) := by decide +kernel
theorem dX12_count_52 : decode cX12_count 52 = .ok (.iaload, 1) := by decide +kernel
theorem dX12_count_53 : decode cX12_count 53 = .ok (.ireturn, 1) := by decide +kernel
theorem dX12_count_54 : decode cX12_count 54 = .ok (.iconst 0, 1) := by decide +kernel
theorem dX12_count_55 : decode cX12_count 55 = .ok (.istore_n 3, 1) := by decide +kernel
theorem dX12_count_56 : decode cX12_count 56 = .ok (.iload_n 3, 1) := by decide +kernel
theorem dX12_count_57 : decode cX12_count 57 = .ok (.aload_n 0, 1) := by decide +kernel
theorem dX12_count_58 : decode cX12_count 58 = .ok (.getfield 9, 3) := by decide +kernel
theorem dX12_count_61 : decode cX12_count 61 = .ok (.iconst 2, 1) := by decide +kernel
theorem dX12_count_62 : decode cX12_count 62 = .ok (.iaload, 1) := by decide +kernel
theorem dX12_count_63 : decode cX12_count 63 = .ok (.if_icmp .ge 18, 3) := by decide +kernel
theorem dX12_count_66 : decode cX12_count 66 = .ok (.iload_n 2, 1) := by decide +kernel
theorem dX12_count_67 : decode cX12_count 67 = .ok (.aload_n 0, 1) := by decide +kernel
theorem dX12_count_68 : decode cX12_count 68 = .ok (.iload_n 3, 1) := by decide +kernel
theorem dX12_count_69 : decode cX12_count 69 = .ok (.iconst 5, 1) := by decide +kernel
theorem dX12_count_70 : decode cX12_count 70 = .ok (.invokevirtual 158, 3) := by decide +kernel
theorem dX12_count_73 : decode cX12_count 73 = .ok (.iadd, 1) := by decide +kernel
theorem dX12_count_74 : decode cX12_count 74 = .ok (.istore_n 2, 1) := by decide +kernel
theorem dX12_count_75 : decode cX12_count 75 = .ok (.iinc 3 1, 3) := by decide +kernel
theorem dX12_count_78 : decode cX12_count 78 = .ok (.goto (-22), 3) := by decide +kernel
theorem dX12_count_81 : decode cX12_count 81 = .ok (.iload_n 2, 1) := by decide +kernel
theorem dX12_count_82 : decode cX12_count 82 = .ok (.ireturn, 1) := by decide +kernel
theorem dX12_count_83 : decode cX12_count 83 = .ok (.aload_n 0, 1) := by decide +kernel
theorem dX12_count_84 : decode cX12_count 84 = .ok (.getfield 9, 3) := by decide +kernel
theorem dX12_count_87 : decode cX12_count 87 = .ok (.iconst 4, 1) := by decide +kernel
theorem dX12_count_88 : decode cX12_count 88 = .ok (.iaload, 1) := by decide +kernel
theorem dX12_count_89 : decode cX12_count 89 = .ok (.ireturn, 1) := by decide +kernel
theorem dX12_count_90 : decode cX12_count 90 = .ok (.iconst 0, 1) := by decide +kernel
theorem dX12_count_91 : decode cX12_count 91 = .ok (.istore_n 3, 1) := by decide +kernel
theorem dX12_count_92 : decode cX12_count 92 = .ok (.iload_n 3, 1) := by decide +kernel
theorem dX12_count_93 : decode cX12_count 93 = .ok (.aload_n 0, 1) := by decide +kernel
theorem dX12_count_94 : decode cX12_count 94 = .ok (.getfield 9, 3) := by decide +kernel
theorem dX12_count_97 : decode cX12_count 97 = .ok (.iconst 1, 1) := by decide +kernel
theorem dX12_count_98 : decode cX12_count 98 = .ok (.iaload, 1) := by decide +kernel
theorem dX12_count_99 : decode cX12_count 99 = .ok (.if_icmp .ge 18, 3) := by decide +kernel
theorem dX12_count_102 : decode cX12_count 102 = .ok (.iload_n 2, 1) := by decide +kernel
theorem dX12_count_103 : decode cX12_count 103 = .ok (.aload_n 0, 1) := by decide +kernel
theorem dX12_count_104 : decode cX12_count 104 = .ok (.iload_n 3, 1) := by decide +kernel
theorem dX12_count_105 : decode cX12_count 105 = .ok (.iconst 4, 1) := by decide +kernel
theorem dX12_count_106 : decode cX12_count 106 = .ok (.invokevirtual 81, 3) := by decide +kernel
theorem dX12_count_109 : decode cX12_count 109 = .ok (.iadd, 1) := by decide +kernel
theorem dX12_count_110 : decode cX12_count 110 = .ok (.istore_n 2, 1) := by decide +kernel
theorem dX12_count_111 : decode cX12_count 111 = .ok (.iinc 3 1, 3) := by decide +kernel
theorem dX12_count_114 : decode cX12_count 114 = .ok (.goto (-22), 3) := by decide +kernel
theorem dX12_count_117 : decode cX12_count 117 = .ok (.iload_n 2, 1) := by decide +kernel
theorem dX12_count_118 : decode cX12_count 118 = .ok (.ireturn, 1) := by decide +kernel
theorem dX12_count_119 : decode cX12_count 119 = .ok (.aload_n 0, 1) := by decide +kernel
theorem dX12_count_120 : decode cX12_count 120 = .ok (.invokevirtual 283, 3) := by decide +kernel
theorem dX12_count_123 : decode cX12_count 123 = .ok (.iconst 0, 1) := by decide +kernel
theorem dX12_count_124 : decode cX12_count 124 = .ok (.istore_n 3, 1) := by decide +kernel
theorem dX12_count_125 : decode cX12_count 125 = .ok (.iload_n 3, 1) := by decide +kernel
theorem dX12_count_126 : decode cX12_count 126 = .ok (.aload_n 0, 1) := by decide +kernel
theorem dX12_count_127 : decode cX12_count 127 = .ok (.getfield 9, 3) := by decide +kernel
theorem dX12_count_130 : decode cX12_count 130 = .ok (.iconst 1, 1) := by decide +kernel
theorem dX12_count_131 : decode cX12_count 131 = .ok (.iaload, 1) := by decide +kernel
theorem dX12_count_132 : decode cX12_count 132 = .ok (.if_icmp .ge 48, 3) := by decide +kernel
theorem dX12_count_135 : decode cX12_count 135 = .ok (.iconst 0, 1) := by decide +kernel
theorem dX12_count_136 : decode cX12_count 136 = .ok (.istore 4, 2) := by decide +kernel
theorem dX12_count_138 : decode cX12_count 138 = .ok (.iload 4, 2) := by decide +kernel
theorem dX12_count_140 : decode cX12_count 140 = .ok (.iload_n 3, 1) := by decide +kernel
theorem dX12_count_141 : decode cX12_count 141 = .ok (.if_icmp .ge 33, 3) := by decide +kernel
theorem dX12_count_144 : decode cX12_count 144 = .ok (.iload_n 2, 1) := by decide +kernel
theorem dX12_count_145 : decode cX12_count 145 = .ok (.aload_n 0, 1) := by decide +kernel
theorem dX12_count_146 : decode cX12_count 146 = .ok (.getfield 50, 3) := by decide +kernel
theorem dX12_count_149 : decode cX12_count 149 = .ok (.iload_n 3, 1) := by decide +kernel
theorem dX12_count_150 : decode cX12_count 150 = .ok (.iaload, 1) := by decide +kernel
theorem dX12_count_151 : decode cX12_count 151 = .ok (.aload_n 0, 1) := by decide +kernel
theorem dX12_count_152 : decode cX12_count 152 = .ok (.getfield 50, 3) := by decide +kernel
theorem dX12_count_155 : decode cX12_count 155 = .ok (.iload 4, 2) := by decide +kernel
theorem dX12_count_157 : decode cX12_count 157 = .ok (.iaload, 1) := by decide +kernel
theorem dX12_count_158 : decode cX12_count 158 = .ok (.if_icmp .ne 7, 3) := by decide +kernel
theorem dX12_count_161 : decode cX12_count 161 = .ok (.iconst 1, 1) := by decide +kernel
theorem dX12_count_162 : decode cX12_count 162 = .ok (.goto 4, 3) := by decide +kernel
theorem dX12_count_165 : decode cX12_count 165 = .ok (.iconst 0, 1) := by decide +kernel
theorem dX12_count_166 : decode cX12_count 166 = .ok (.iadd, 1) := by decide +kernel
theorem dX12_count_167 : decode cX12_count 167 = .ok (.istore_n 2, 1) := by decide +kernel
theorem dX12_count_168 : decode cX12_count 168 = .ok (.iinc 4 1, 3) := by decide +kernel
theorem dX12_count_171 : decode cX12_count 171 = .ok (.goto (-33), 3) := by decide +kernel
theorem dX12_count_174 : decode cX12_count 174 = .ok (.iinc 3 1, 3) := by decide +kernel
theorem dX12_count_177 : decode cX12_count 177 = .ok (.goto (-52), 3) := by decide +kernel
theorem dX12_count_180 : decode cX12_count 180 = .ok (.iload_n 2, 1) := by decide +kernel
theorem dX12_count_181 : decode cX12_count 181 = .ok (.ireturn, 1) := by decide +kernel
theorem dX12_count_182 : decode cX12_count 182 = .ok (.iconst (-1), 1) := by decide +kernel
theorem dX12_count_183 : decode cX12_count 183 = .ok (.ireturn, 1) := by decide +kernel
theorem dX12_keep_0 : decode cX12_keep 0 = .ok (.iload_n 1, 1) := by decide +kernel
theorem dX12_keep_1 : decode cX12_keep 1 = .ok (.invokestatic 141, 3) := by decide +kernel
theorem dX12_keep_4 : decode cX12_keep 4 = .ok (.ifCond .eq 26, 3) := by decide +kernel
theorem dX12_keep_7 : decode cX12_keep 7 = .ok (.iload_n 2, 1) := by decide +kernel
theorem dX12_keep_8 : decode cX12_keep 8 = .ok (.i2l, 1) := by decide +kernel
theorem dX12_keep_9 : decode cX12_keep 9 = .ok (.lconst 0, 1) := by decide +kernel
theorem dX12_keep_10 : decode cX12_keep 10 = .ok (.lconst 1, 1) := by decide +kernel
theorem dX12_keep_11 : decode cX12_keep 11 = .ok (.invokestatic 57, 3) := by decide +kernel
theorem dX12_keep_14 : decode cX12_keep 14 = .ok (.ifCond .eq 16, 3) := by decide +kernel
theorem dX12_keep_17 : decode cX12_keep 17 = .ok (.iload_n 2, 1) := by decide +kernel
theorem dX12_keep_18 : decode cX12_keep 18 = .ok (.iconst 1, 1) := by decide +kernel
theorem dX12_keep_19 : decode cX12_keep 19 = .ok (.if_icmp .ne 13, 3) := by decide +kernel
theorem dX12_keep_22 : decode cX12_keep 22 = .ok (.aload_n 0, 1) := by decide +kernel
theorem dX12_keep_23 : decode cX12_keep 23 = .ok (.iload_n 3, 1) := by decide +kernel
theorem dX12_keep_24 : decode cX12_keep 24 = .ok (.invokevirtual 61, 3) := by decide +kernel
theorem dX12_keep_27 : decode cX12_keep 27 = .ok (.ifCond .ne 5, 3) := by decide +kernel
theorem dX12_keep_30 : decode cX12_keep 30 = .ok (.iconst (-1), 1) := by decide +kernel
theorem dX12_keep_31 : decode cX12_keep 31 = .ok (.ireturn, 1) := by decide +kernel
theorem dX12_keep_32 : decode cX12_keep 32 = .ok (.aload_n 0, 1) := by decide +kernel
theorem dX12_keep_33 : decode cX12_keep 33 = .ok (.getfield 23, 3) := by decide +kernel
theorem dX12_keep_36 : decode cX12_keep 36 = .ok (.iload_n 1, 1) := by decide +kernel
theorem dX12_keep_37 : decode cX12_keep 37 = .ok (.iload_n 2, 1) := by decide +kernel
theorem dX12_keep_38 : decode cX12_keep 38 = .ok (.iastore, 1) := by decide +kernel
theorem dX12_keep_39 : decode cX12_keep 39 = .ok (.iload_n 2, 1) := by decide +kernel
theorem dX12_keep_40 : decode cX12_keep 40 = .ok (.ifCond .ne 5, 3) := by decide +kernel
theorem dX12_keep_43 : decode cX12_keep 43 = .ok (.iconst 0, 1) := by decide +kernel
theorem dX12_keep_44 : decode cX12_keep 44 = .ok (.ireturn, 1) := by decide +kernel
theorem dX12_keep_45 : decode cX12_keep 45 = .ok (.iconst 0, 1) := by decide +kernel
theorem dX12_keep_46 : decode cX12_keep 46 = .ok (.istore 4, 2) := by decide +kernel
theorem dX12_keep_48 : decode cX12_keep 48 = .ok (.iload 4, 2) := by decide +kernel
theorem dX12_keep_50 : decode cX12_keep 50 = .ok (.iconst 5, 1) := by decide +kernel
theorem dX12_keep_51 : decode cX12_keep 51 = .ok (.if_icmp .ge 27, 3) := by decide +kernel
theorem dX12_keep_54 : decode cX12_keep 54 = .ok (.aload_n 0, 1) := by decide +kernel
theorem dX12_keep_55 : decode cX12_keep 55 = .ok (.getfield 35, 3) := by decide +kernel
theorem dX12_keep_58 : decode cX12_keep 58 = .ok (.iconst 5, 1) := by decide +kernel
theorem dX12_keep_59 : decode cX12_keep 59 = .ok (.iload_n 1, 1) := by decide +kernel
theorem dX12_keep_60 : decode cX12_keep 60 = .ok (.imul, 1) := by decide +kernel
theorem dX12_keep_61 : decode cX12_keep 61 = .ok (.iload 4, 2) := by decide +kernel
theorem dX12_keep_63 : decode cX12_keep 63 = .ok (.iadd, 1) := by decide +kernel
theorem dX12_keep_64 : decode cX12_keep 64 = .ok (.aload_n 0, 1) := by decide +kernel
theorem dX12_keep_65 : decode cX12_keep 65 = .ok (.iload_n 3, 1) := by decide +kernel
theorem dX12_keep_66 : decode cX12_keep 66 = .ok (.iload 4, 2) := by decide +kernel
theorem dX12_keep_68 : decode cX12_keep 68 = .ok (.invokevirtual 81, 3) := by decide +kernel
theorem dX12_keep_71 : decode cX12_keep 71 = .ok (.iastore, 1) := by decide +kernel
theorem dX12_keep_72 : decode cX12_keep 72 = .ok (.iinc 4 1, 3) := by decide +kernel
theorem dX12_keep_75 : decode cX12_keep 75 = .ok (.goto (-27), 3) := by decide +kernel
theorem dX12_keep_78 : decode cX12_keep 78 = .ok (.aload_n 0, 1) := by decide +kernel
theorem dX12_keep_79 : decode cX12_keep 79 = .ok (.iload_n 3, 1) := by decide +kernel
theorem dX12_keep_80 : decode cX12_keep 80 = .ok (.iconst 0, 1) := by decide +kernel
theorem dX12_keep_81 : decode cX12_keep 81 = .ok (.invokevirtual 81, 3) := by decide +kernel
theorem dX12_keep_84 : decode cX12_keep 84 = .ok (.istore 4, 2) := by decide +kernel
theorem dX12_keep_86 : decode cX12_keep 86 = .ok (.aload_n 0, 1) := by decide +kernel
theorem dX12_keep_87 : decode cX12_keep 87 = .ok (.getfield 38, 3) := by decide +kernel
theorem dX12_keep_90 : decode cX12_keep 90 = .ok (.iload_n 1, 1) := by decide +kernel
theorem dX12_keep_91 : decode cX12_keep 91 = .ok (.iload 4, 2) := by decide +kernel
theorem dX12_keep_93 : decode cX12_keep 93 = .ok (.bipush 6, 2) := by decide +kernel
theorem dX12_keep_95 : decode cX12_keep 95 = .ok (.if_icmp .eq 12, 3) := by decide +kernel
theorem dX12_keep_98 : decode cX12_keep 98 = .ok (.aload_n 0, 1) := by decide +kernel
theorem dX12_keep_99 : decode cX12_keep 99 = .ok (.iload_n 3, 1) := by decide +kernel
theorem dX12_keep_100 : decode cX12_keep 100 = .ok (.iconst 3, 1) := by decide +kernel
theorem dX12_keep_101 : decode cX12_keep 101 = .ok (.invokevirtual 81, 3) := by decide +kernel
theorem dX12_keep_104 : decode cX12_keep 104 = .ok (.ifCond .ne 8, 3) := by decide +kernel
theorem dX12_keep_107 : decode cX12_keep 107 = .ok (.bipush (-15), 2) := by decide +kernel
theorem dX12_keep_109 : decode cX12_keep 109 = .ok (.goto 37, 3) := by decide +kernel
theorem dX12_keep_112 : decode cX12_keep 112 = .ok (.iload 4, 2) := by decide +kernel
theorem dX12_keep_114 : decode cX12_keep 114 = .ok (.bipush 7, 2) := by decide +kernel
theorem dX12_keep_116 : decode cX12_keep 116 = .ok (.if_icmp .ne 10, 3) := by decide +kernel
theorem dX12_keep_119 : decode cX12_keep 119 = .ok (.bipush 100, 2) := by decide +kernel
theorem dX12_keep_121 : decode cX12_keep 121 = .ok (.iload_n 3, 1) := by decide +kernel
theorem dX12_keep_122 : decode cX12_keep 122 = .ok (.iadd, 1) := by decide +kernel
theorem dX12_keep_123 : decode cX12_keep 123 = .ok (.goto 23, 3) := by decide +kernel
theorem dX12_keep_126 : decode cX12_keep 126 = .ok (.iload 4, 2) := by decide +kernel
theorem dX12_keep_128 : decode cX12_keep 128 = .ok (.iconst 3, 1) := by decide +kernel
theorem dX12_keep_129 : decode cX12_keep 129 = .ok (.if_icmp .ne 16, 3) := by decide +kernel
theorem dX12_keep_132 : decode cX12_keep 132 = .ok (.sipush 200, 3) := by decide +kernel
theorem dX12_keep_135 : decode cX12_keep 135 = .ok (.aload_n 0, 1) := by decide +kernel
theorem dX12_keep_136 : decode cX12_keep 136 = .ok (.iload_n 3, 1) := by decide +kernel
theorem dX12_keep_137 : decode cX12_keep 137 = .ok (.iconst 3, 1) := by decide +kernel
theorem dX12_keep_138 : decode cX12_keep 138 = .ok (.invokevirtual 81, 3) := by decide +kernel
theorem dX12_keep_141 : decode cX12_keep 141 = .ok (.iadd, 1) := by decide +kernel
theorem dX12_keep_142 : decode cX12_keep 142 = .ok (.goto 4, 3) := by decide +kernel
theorem dX12_keep_145 : decode cX12_keep 145 = .ok (.iload_n 3, 1) := by decide +kernel
theorem dX12_keep_146 : decode cX12_keep 146 = .ok (.iastore, 1) := by decide +kernel
theorem dX12_keep_147 : decode cX12_keep 147 = .ok (.iconst 0, 1) := by decide +kernel
theorem dX12_keep_148 : decode cX12_keep 148 = .ok (.ireturn, 1) := by decide +kernel
theorem dX12_row_0 : decode cX12_row 0 = .ok (.iload_n 1, 1) := by decide +kernel
theorem dX12_row_1 : decode cX12_row 1 = .ok (.invokestatic 141, 3) := by decide +kernel
theorem dX12_row_4 : decode cX12_row 4 = .ok (.ifCond .eq 21, 3) := by decide +kernel
theorem dX12_row_7 : decode cX12_row 7 = .ok (.iload_n 2, 1) := by decide +kernel
theorem dX12_row_8 : decode cX12_row 8 = .ok (.i2l, 1) := by decide +kernel
theorem dX12_row_9 : decode cX12_row 9 = .ok (.lconst 0, 1) := by decide +kernel
theorem dX12_row_10 : decode cX12_row 10 = .ok (.ldc2_w 103, 3) := by decide +kernel
theorem dX12_row_13 : decode cX12_row 13 = .ok (.invokestatic 57, 3) := by decide +kernel
theorem dX12_row_16 : decode cX12_row 16 = .ok (.ifCond .eq 9, 3) := by decide +kernel
theorem dX12_row_19 : decode cX12_row 19 = .ok (.iload_n 3, 1) := by decide +kernel
theorem dX12_row_20 : decode cX12_row 20 = .ok (.bipush 100, 2) := by decide +kernel
theorem dX12_row_22 : decode cX12_row 22 = .ok (.if_icmp .le 5, 3) := by decide +kernel
theorem dX12_row_25 : decode cX12_row 25 = .ok (.iconst (-1), 1) := by decide +kernel
theorem dX12_row_26 : decode cX12_row 26 = .ok (.ireturn, 1) := by decide +kernel
theorem dX12_row_27 : decode cX12_row 27 = .ok (.iload_n 3, 1) := by decide +kernel
theorem dX12_row_28 : decode cX12_row 28 = .ok (.ifCond .ge 6, 3) := by decide +kernel
theorem dX12_row_31 : decode cX12_row 31 = .ok (.bipush (-14), 2) := by decide +kernel
theorem dX12_row_33 : decode cX12_row 33 = .ok (.ireturn, 1) := by decide +kernel
theorem dX12_row_34 : decode cX12_row 34 = .ok (.aload_n 0, 1) := by decide +kernel
theorem dX12_row_35 : decode cX12_row 35 = .ok (.getfield 23, 3) := by decide +kernel
theorem dX12_row_38 : decode cX12_row 38 = .ok (.iload_n 1, 1) := by decide +kernel
theorem dX12_row_39 : decode cX12_row 39 = .ok (.iconst 2, 1) := by decide +kernel
theorem dX12_row_40 : decode cX12_row 40 = .ok (.iastore, 1) := by decide +kernel
theorem dX12_row_41 : decode cX12_row 41 = .ok (.aload_n 0, 1) := by decide +kernel
theorem dX12_row_42 : decode cX12_row 42 = .ok (.getfield 26, 3) := by decide +kernel
theorem dX12_row_45 : decode cX12_row 45 = .ok (.iload_n 1, 1) := by decide +kernel
theorem dX12_row_46 : decode cX12_row 46 = .ok (.iload_n 2, 1) := by decide +kernel
theorem dX12_row_47 : decode cX12_row 47 = .ok (.iastore, 1) := by decide +kernel
theorem dX12_row_48 : decode cX12_row 48 = .ok (.aload_n 0, 1) := by decide +kernel
theorem dX12_row_49 : decode cX12_row 49 = .ok (.getfield 29, 3) := by decide +kernel
theorem dX12_row_52 : decode cX12_row 52 = .ok (.iload_n 1, 1) := by decide +kernel
theorem dX12_row_53 : decode cX12_row 53 = .ok (.iload_n 3, 1) := by decide +kernel
theorem dX12_row_54 : decode cX12_row 54 = .ok (.iastore, 1) := by decide +kernel
theorem dX12_row_55 : decode cX12_row 55 = .ok (.iconst 0, 1) := by decide +kernel
theorem dX12_row_56 : decode cX12_row 56 = .ok (.istore 4, 2) := by decide +kernel
theorem dX12_row_58 : decode cX12_row 58 = .ok (.iload 4, 2) := by decide +kernel
theorem dX12_row_60 : decode cX12_row 60 = .ok (.bipush 100, 2) := by decide +kernel
theorem dX12_row_62 : decode cX12_row 62 = .ok (.if_icmp .ge 22, 3) := by decide +kernel
theorem dX12_row_65 : decode cX12_row 65 = .ok (.aload_n 0, 1) := by decide +kernel
theorem dX12_row_66 : decode cX12_row 66 = .ok (.getfield 32, 3) := by decide +kernel
theorem dX12_row_69 : decode cX12_row 69 = .ok (.bipush 100, 2) := by decide +kernel
theorem dX12_row_71 : decode cX12_row 71 = .ok (.iload_n 1, 1) := by decide +kernel
theorem dX12_row_72 : decode cX12_row 72 = .ok (.imul, 1) := by decide +kernel
theorem dX12_row_73 : decode cX12_row 73 = .ok (.iload 4, 2) := by decide +kernel
theorem dX12_row_75 : decode cX12_row 75 = .ok (.iadd, 1) := by decide +kernel
theorem dX12_row_76 : decode cX12_row 76 = .ok (.iconst 0, 1) := by decide +kernel
theorem dX12_row_77 : decode cX12_row 77 = .ok (.iastore, 1) := by decide +kernel
theorem dX12_row_78 : decode cX12_row 78 = .ok (.iinc 4 1, 3) := by decide +kernel
theorem dX12_row_81 : decode cX12_row 81 = .ok (.goto (-23), 3) := by decide +kernel
theorem dX12_row_84 : decode cX12_row 84 = .ok (.iconst 0, 1) := by decide +kernel
theorem dX12_row_85 : decode cX12_row 85 = .ok (.ireturn, 1) := by decide +kernel
theorem dX12_put_0 : decode cX12_put 0 = .ok (.aload_n 0, 1) := by decide +kernel
theorem dX12_put_1 : decode cX12_put 1 = .ok (.iload_n 1, 1) := by decide +kernel
theorem dX12_put_2 : decode cX12_put 2 = .ok (.iconst (-1), 1) := by decide +kernel
theorem dX12_put_3 : decode cX12_put 3 = .ok (.invokevirtual 145, 3) := by decide +kernel
theorem dX12_put_6 : decode cX12_put 6 = .ok (.istore 4, 2) := by decide +kernel
theorem dX12_put_8 : decode cX12_put 8 = .ok (.iload 4, 2) := by decide +kernel
theorem dX12_put_10 : decode cX12_put 10 = .ok (.ifCond .eq 6, 3) := by decide +kernel
theorem dX12_put_13 : decode cX12_put 13 = .ok (.iload 4, 2) := by decide +kernel
theorem dX12_put_15 : decode cX12_put 15 = .ok (.ireturn, 1) := by decide +kernel
theorem dX12_put_16 : decode cX12_put 16 = .ok (.iload_n 2, 1) := by decide +kernel
theorem dX12_put_17 : decode cX12_put 17 = .ok (.i2l, 1) := by decide +kernel
theorem dX12_put_18 : decode cX12_put 18 = .ok (.lconst 0, 1) := by decide +kernel
theorem dX12_put_19 : decode cX12_put 19 = .ok (.aload_n 0, 1) := by decide +kernel
theorem dX12_put_20 : decode cX12_put 20 = .ok (.getfield 29, 3) := by decide +kernel
theorem dX12_put_23 : decode cX12_put 23 = .ok (.iload_n 1, 1) := by decide +kernel
theorem dX12_put_24 : decode cX12_put 24 = .ok (.iaload, 1) := by decide +kernel
theorem dX12_put_25 : decode cX12_put 25 = .ok (.iconst 1, 1) := by decide +kernel
theorem dX12_put_26 : decode cX12_put 26 = .ok (.isub, 1) := by decide +kernel
theorem dX12_put_27 : decode cX12_put 27 = .ok (.i2l, 1) := by decide +kernel
theorem dX12_put_28 : decode cX12_put 28 = .ok (.invokestatic 57, 3) := by decide +kernel
theorem dX12_put_31 : decode cX12_put 31 = .ok (.ifCond .ne 6, 3) := by decide +kernel
theorem dX12_put_34 : decode cX12_put 34 = .ok (.bipush (-13), 2) := by decide +kernel
theorem dX12_put_36 : decode cX12_put 36 = .ok (.ireturn, 1) := by decide +kernel
theorem dX12_put_37 : decode cX12_put 37 = .ok (.aload_n 0, 1) := by decide +kernel
theorem dX12_put_38 : decode cX12_put 38 = .ok (.getfield 32, 3) := by decide +kernel
theorem dX12_put_41 : decode cX12_put 41 = .ok (.bipush 100, 2) := by decide +kernel
theorem dX12_put_43 : decode cX12_put 43 = .ok (.iload_n 1, 1) := by decide +kernel
theorem dX12_put_44 : decode cX12_put 44 = .ok (.imul, 1) := by decide +kernel
theorem dX12_put_45 : decode cX12_put 45 = .ok (.iload_n 2, 1) := by decide +kernel
theorem dX12_put_46 : decode cX12_put 46 = .ok (.iadd, 1) := by decide +kernel
theorem dX12_put_47 : decode cX12_put 47 = .ok (.aload_n 0, 1) := by decide +kernel
theorem dX12_put_48 : decode cX12_put 48 = .ok (.getfield 26, 3) := by decide +kernel
theorem dX12_put_51 : decode cX12_put 51 = .ok (.iload_n 1, 1) := by decide +kernel
theorem dX12_put_52 : decode cX12_put 52 = .ok (.iaload, 1) := by decide +kernel
theorem dX12_put_53 : decode cX12_put 53 = .ok (.ifCond .ne 8, 3) := by decide +kernel
theorem dX12_put_56 : decode cX12_put 56 = .ok (.iload_n 3, 1) := by decide +kernel
theorem dX12_put_57 : decode cX12_put 57 = .ok (.i2b, 1) := by decide +kernel
theorem dX12_put_58 : decode cX12_put 58 = .ok (.goto 19, 3) := by decide +kernel
theorem dX12_put_61 : decode cX12_put 61 = .ok (.aload_n 0, 1) := by decide +kernel
theorem dX12_put_62 : decode cX12_put 62 = .ok (.getfield 26, 3) := by decide +kernel
theorem dX12_put_65 : decode cX12_put 65 = .ok (.iload_n 1, 1) := by decide +kernel
theorem dX12_put_66 : decode cX12_put 66 = .ok (.iaload, 1) := by decide +kernel
theorem dX12_put_67 : decode cX12_put 67 = .ok (.iconst 1, 1) := by decide +kernel
theorem dX12_put_68 : decode cX12_put 68 = .ok (.if_icmp .ne 8, 3) := by decide +kernel
theorem dX12_put_71 : decode cX12_put 71 = .ok (.iload_n 3, 1) := by decide +kernel
theorem dX12_put_72 : decode cX12_put 72 = .ok (.i2s, 1) := by decide +kernel
theorem dX12_put_73 : decode cX12_put 73 = .ok (.goto 4, 3) := by decide +kernel
theorem dX12_put_76 : decode cX12_put 76 = .ok (.iload_n 3, 1) := by decide +kernel
theorem dX12_put_77 : decode cX12_put 77 = .ok (.iastore, 1) := by decide +kernel
theorem dX12_put_78 : decode cX12_put 78 = .ok (.iconst 0, 1) := by decide +kernel
theorem dX12_put_79 : decode cX12_put 79 = .ok (.ireturn, 1) := by decide +kernel
theorem dX12_element_0 : decode cX12_element 0 = .ok (.aload_n 0, 1) := by decide +kernel
theorem dX12_element_1 : decode cX12_element 1 = .ok (.iload_n 1, 1) := by decide +kernel
theorem dX12_element_2 : decode cX12_element 2 = .ok (.invokestatic 141, 3) := by decide +kernel
theorem dX12_element_5 : decode cX12_element 5 = .ok (.ifCond .ne 7, 3) := by decide +kernel
theorem dX12_element_8 : decode cX12_element 8 = .ok (.iconst 1, 1) := by decide +kernel
theorem dX12_element_9 : decode cX12_element 9 = .ok (.goto 36, 3) := by decide +kernel
theorem dX12_element_12 : decode cX12_element 12 = .ok (.aload_n 0, 1) := by decide +kernel
theorem dX12_element_13 : decode cX12_element 13 = .ok (.getfield 23, 3) := by decide +kernel
theorem dX12_element_16 : decode cX12_element 16 = .ok (.iload_n 1, 1) := by decide +kernel
theorem dX12_element_17 : decode cX12_element 17 = .ok (.iaload, 1) := by decide +kernel
theorem dX12_element_18 : decode cX12_element 18 = .ok (.iconst 2, 1) := by decide +kernel
theorem dX12_element_19 : decode cX12_element 19 = .ok (.if_icmp .ne 21, 3) := by decide +kernel
theorem dX12_element_22 : decode cX12_element 22 = .ok (.iload_n 2, 1) := by decide +kernel
theorem dX12_element_23 : decode cX12_element 23 = .ok (.i2l, 1) := by decide +kernel
theorem dX12_element_24 : decode cX12_element 24 = .ok (.lconst 0, 1) := by decide +kernel
theorem dX12_element_25 : decode cX12_element 25 = .ok (.aload_n 0, 1) := by decide +kernel
theorem dX12_element_26 : decode cX12_element 26 = .ok (.getfield 29, 3) := by decide +kernel
theorem dX12_element_29 : decode cX12_element 29 = .ok (.iload_n 1, 1) := by decide +kernel
theorem dX12_element_30 : decode cX12_element 30 = .ok (.iaload, 1) := by decide +kernel
theorem dX12_element_31 : decode cX12_element 31 = .ok (.iconst 1, 1) := by decide +kernel
theorem dX12_element_32 : decode cX12_element 32 = .ok (.isub, 1) := by decide +kernel
theorem dX12_element_33 : decode cX12_element 33 = .ok (.i2l, 1) := by decide +kernel
theorem dX12_element_34 : decode cX12_element 34 = .ok (.invokestatic 57, 3) := by decide +kernel
theorem dX12_element_37 : decode cX12_element 37 = .ok (.ifCond .ne 7, 3) := by decide +kernel
theorem dX12_element_40 : decode cX12_element 40 = .ok (.iconst 2, 1) := by decide +kernel
theorem dX12_element_41 : decode cX12_element 41 = .ok (.goto 4, 3) := by decide +kernel
theorem dX12_element_44 : decode cX12_element 44 = .ok (.iconst 0, 1) := by decide +kernel
theorem dX12_element_45 : decode cX12_element 45 = .ok (.putfield 53, 3) := by decide +kernel
theorem dX12_element_48 : decode cX12_element 48 = .ok (.aload_n 0, 1) := by decide +kernel
theorem dX12_element_49 : decode cX12_element 49 = .ok (.getfield 53, 3) := by decide +kernel
theorem dX12_element_52 : decode cX12_element 52 = .ok (.ifCond .ne 18, 3) := by decide +kernel
theorem dX12_element_55 : decode cX12_element 55 = .ok (.aload_n 0, 1) := by decide +kernel
theorem dX12_element_56 : decode cX12_element 56 = .ok (.getfield 32, 3) := by decide +kernel
theorem dX12_element_59 : decode cX12_element 59 = .ok (.bipush 100, 2) := by decide +kernel
theorem dX12_element_61 : decode cX12_element 61 = .ok (.iload_n 1, 1) := by decide +kernel
theorem dX12_element_62 : decode cX12_element 62 = .ok (.imul, 1) := by decide +kernel
theorem dX12_element_63 : decode cX12_element 63 = .ok (.iload_n 2, 1) := by decide +kernel
theorem dX12_element_64 : decode cX12_element 64 = .ok (.iadd, 1) := by decide +kernel
theorem dX12_element_65 : decode cX12_element 65 = .ok (.iaload, 1) := by decide +kernel
theorem dX12_element_66 : decode cX12_element 66 = .ok (.i2l, 1) := by decide +kernel
theorem dX12_element_67 : decode cX12_element 67 = .ok (.goto 4, 3) := by decide +kernel
theorem dX12_element_70 : decode cX12_element 70 = .ok (.lconst 0, 1) := by decide +kernel
theorem dX12_element_71 : decode cX12_element 71 = .ok (.lreturn, 1) := by decide +kernel
theorem dX12_copy_0 : decode cX12_copy 0 = .ok (.iload_n 1, 1) := by decide +kernel
theorem dX12_copy_1 : decode cX12_copy 1 = .ok (.invokestatic 141, 3) := by decide +kernel
theorem dX12_copy_4 : decode cX12_copy 4 = .ok (.ifCond .eq 10, 3) := by decide +kernel
theorem dX12_copy_7 : decode cX12_copy 7 = .ok (.iload_n 3, 1) := by decide +kernel
theorem dX12_copy_8 : decode cX12_copy 8 = .ok (.invokestatic 141, 3) := by decide +kernel
theorem dX12_copy_11 : decode cX12_copy 11 = .ok (.ifCond .ne 5, 3) := by decide +kernel
theorem dX12_copy_14 : decode cX12_copy 14 = .ok (.iconst (-1), 1) := by decide +kernel
theorem dX12_copy_15 : decode cX12_copy 15 = .ok (.ireturn, 1) := by decide +kernel
theorem dX12_copy_16 : decode cX12_copy 16 = .ok (.aload_n 0, 1) := by decide +kernel
theorem dX12_copy_17 : decode cX12_copy 17 = .ok (.getfield 23, 3) := by decide +kernel
theorem dX12_copy_20 : decode cX12_copy 20 = .ok (.iload_n 1, 1) := by decide +kernel
theorem dX12_copy_21 : decode cX12_copy 21 = .ok (.iaload, 1) := by decide +kernel
theorem dX12_copy_22 : decode cX12_copy 22 = .ok (.ifCond .eq 12, 3) := by decide +kernel
theorem dX12_copy_25 : decode cX12_copy 25 = .ok (.aload_n 0, 1) := by decide +kernel
theorem dX12_copy_26 : decode cX12_copy 26 = .ok (.getfield 23, 3) := by decide +kernel
theorem dX12_copy_29 : decode cX12_copy 29 = .ok (.iload_n 3, 1) := by decide +kernel
theorem dX12_copy_30 : decode cX12_copy 30 = .ok (.iaload, 1) := by decide +kernel
theorem dX12_copy_31 : decode cX12_copy 31 = .ok (.ifCond .ne 6, 3) := by decide +kernel
theorem dX12_copy_34 : decode cX12_copy 34 = .ok (.bipush (-11), 2) := by decide +kernel
theorem dX12_copy_36 : decode cX12_copy 36 = .ok (.ireturn, 1) := by decide +kernel
theorem dX12_copy_37 : decode cX12_copy 37 = .ok (.aload_n 0, 1) := by decide +kernel
theorem dX12_copy_38 : decode cX12_copy 38 = .ok (.getfield 23, 3) := by decide +kernel
theorem dX12_copy_41 : decode cX12_copy 41 = .ok (.iload_n 1, 1) := by decide +kernel
theorem dX12_copy_42 : decode cX12_copy 42 = .ok (.iaload, 1) := by decide +kernel
theorem dX12_copy_43 : decode cX12_copy 43 = .ok (.iconst 2, 1) := by decide +kernel
theorem dX12_copy_44 : decode cX12_copy 44 = .ok (.if_icmp .ne 28, 3) := by decide +kernel
theorem dX12_copy_47 : decode cX12_copy 47 = .ok (.aload_n 0, 1) := by decide +kernel
theorem dX12_copy_48 : decode cX12_copy 48 = .ok (.getfield 23, 3) := by decide +kernel
theorem dX12_copy_51 : decode cX12_copy 51 = .ok (.iload_n 3, 1) := by decide +kernel
theorem dX12_copy_52 : decode cX12_copy 52 = .ok (.iaload, 1) := by decide +kernel
theorem dX12_copy_53 : decode cX12_copy 53 = .ok (.iconst 2, 1) := by decide +kernel
theorem dX12_copy_54 : decode cX12_copy 54 = .ok (.if_icmp .ne 18, 3) := by decide +kernel
theorem dX12_copy_57 : decode cX12_copy 57 = .ok (.aload_n 0, 1) := by decide +kernel
theorem dX12_copy_58 : decode cX12_copy 58 = .ok (.getfield 26, 3) := by decide +kernel
theorem dX12_copy_61 : decode cX12_copy 61 = .ok (.iload_n 1, 1) := by decide +kernel
theorem dX12_copy_62 : decode cX12_copy 62 = .ok (.iaload, 1) := by decide +kernel
theorem dX12_copy_63 : decode cX12_copy 63 = .ok (.aload_n 0, 1) := by decide +kernel
theorem dX12_copy_64 : decode cX12_copy 64 = .ok (.getfield 26, 3) := by decide +kernel
theorem dX12_copy_67 : decode cX12_copy 67 = .ok (.iload_n 3, 1) := by decide +kernel
theorem dX12_copy_68 : decode cX12_copy 68 = .ok (.iaload, 1) := by decide +kernel
theorem dX12_copy_69 : decode cX12_copy 69 = .ok (.if_icmp .eq 6, 3) := by decide +kernel
theorem dX12_copy_72 : decode cX12_copy 72 = .ok (.bipush (-12), 2) := by decide +kernel
theorem dX12_copy_74 : decode cX12_copy 74 = .ok (.ireturn, 1) := by decide +kernel
theorem dX12_copy_75 : decode cX12_copy 75 = .ok (.iload 5, 2) := by decide +kernel
theorem dX12_copy_77 : decode cX12_copy 77 = .ok (.ifCond .lt 39, 3) := by decide +kernel
theorem dX12_copy_80 : decode cX12_copy 80 = .ok (.iload_n 2, 1) := by decide +kernel
theorem dX12_copy_81 : decode cX12_copy 81 = .ok (.ifCond .lt 35, 3) := by decide +kernel
theorem dX12_copy_84 : decode cX12_copy 84 = .ok (.iload 4, 2) := by decide +kernel
theorem dX12_copy_86 : decode cX12_copy 86 = .ok (.ifCond .lt 30, 3) := by decide +kernel
theorem dX12_copy_89 : decode cX12_copy 89 = .ok (.iload 5, 2) := by decide +kernel
theorem dX12_copy_91 : decode cX12_copy 91 = .ok (.aload_n 0, 1) := by decide +kernel
theorem dX12_copy_92 : decode cX12_copy 92 = .ok (.getfield 29, 3) := by decide +kernel
theorem dX12_copy_95 : decode cX12_copy 95 = .ok (.iload_n 1, 1) := by decide +kernel
theorem dX12_copy_96 : decode cX12_copy 96 = .ok (.iaload, 1) := by decide +kernel
theorem dX12_copy_97 : decode cX12_copy 97 = .ok (.iload_n 2, 1) := by decide +kernel
theorem dX12_copy_98 : decode cX12_copy 98 = .ok (.isub, 1) := by decide +kernel
theorem dX12_copy_99 : decode cX12_copy 99 = .ok (.if_icmp .gt 17, 3) := by decide +kernel
theorem dX12_copy_102 : decode cX12_copy 102 = .ok (.iload 5, 2) := by decide +kernel
theorem dX12_copy_104 : decode cX12_copy 104 = .ok (.aload_n 0, 1) := by decide +kernel
theorem dX12_copy_105 : decode cX12_copy 105 = .ok (.getfield 29, 3) := by decide +kernel
theorem dX12_copy_108 : decode cX12_copy 108 = .ok (.iload_n 3, 1) := by decide +kernel
theorem dX12_copy_109 : decode cX12_copy 109 = .ok (.iaload, 1) := by decide +kernel
theorem dX12_copy_110 : decode cX12_copy 110 = .ok (.iload 4, 2) := by decide +kernel
theorem dX12_copy_112 : decode cX12_copy 112 = .ok (.isub, 1) := by decide +kernel
theorem dX12_copy_113 : decode cX12_copy 113 = .ok (.if_icmp .le 6, 3) := by decide +kernel
theorem dX12_copy_116 : decode cX12_copy 116 = .ok (.bipush (-13), 2) := by decide +kernel
theorem dX12_copy_118 : decode cX12_copy 118 = .ok (.ireturn, 1) := by decide +kernel
theorem dX12_copy_119 : decode cX12_copy 119 = .ok (.iconst 0, 1) := by decide +kernel
theorem dX12_copy_120 : decode cX12_copy 120 = .ok (.istore 6, 2) := by decide +kernel
theorem dX12_copy_122 : decode cX12_copy 122 = .ok (.iload 6, 2) := by decide +kernel
theorem dX12_copy_124 : decode cX12_copy 124 = .ok (.iload 5, 2) := by decide +kernel
theorem dX12_copy_126 : decode cX12_copy 126 = .ok (.if_icmp .ge 58, 3) := by decide +kernel
theorem dX12_copy_129 : decode cX12_copy 129 = .ok (.iload_n 2, 1) := by decide +kernel
theorem dX12_copy_130 : decode cX12_copy 130 = .ok (.iload 4, 2) := by decide +kernel
theorem dX12_copy_132 : decode cX12_copy 132 = .ok (.if_icmp .le 8, 3) := by decide +kernel
theorem dX12_copy_135 : decode cX12_copy 135 = .ok (.iload 6, 2) := by decide +kernel
theorem dX12_copy_137 : decode cX12_copy 137 = .ok (.goto 10, 3) := by decide +kernel
theorem dX12_copy_140 : decode cX12_copy 140 = .ok (.iload 5, 2) := by decide +kernel
theorem dX12_copy_142 : decode cX12_copy 142 = .ok (.iconst 1, 1) := by decide +kernel
theorem dX12_copy_143 : decode cX12_copy 143 = .ok (.isub, 1) := by decide +kernel
theorem dX12_copy_144 : decode cX12_copy 144 = .ok (.iload 6, 2) := by decide +kernel
theorem dX12_copy_146 : decode cX12_copy 146 = .ok (.isub, 1) := by decide +kernel
theorem dX12_copy_147 : decode cX12_copy 147 = .ok (.istore 7, 2) := by decide +kernel
theorem dX12_copy_149 : decode cX12_copy 149 = .ok (.aload_n 0, 1) := by decide +kernel
theorem dX12_copy_150 : decode cX12_copy 150 = .ok (.getfield 32, 3) := by decide +kernel
theorem dX12_copy_153 : decode cX12_copy 153 = .ok (.bipush 100, 2) := by decide +kernel
theorem dX12_copy_155 : decode cX12_copy 155 = .ok (.iload_n 3, 1) := by decide +kernel
theorem dX12_copy_156 : decode cX12_copy 156 = .ok (.imul, 1) := by decide +kernel
theorem dX12_copy_157 : decode cX12_copy 157 = .ok (.iload 4, 2) := by decide +kernel
theorem dX12_copy_159 : decode cX12_copy 159 = .ok (.iadd, 1) := by decide +kernel
theorem dX12_copy_160 : decode cX12_copy 160 = .ok (.iload 7, 2) := by decide +kernel
theorem dX12_copy_162 : decode cX12_copy 162 = .ok (.iadd, 1) := by decide +kernel
theorem dX12_copy_163 : decode cX12_copy 163 = .ok (.aload_n 0, 1) := by decide +kernel
theorem dX12_copy_164 : decode cX12_copy 164 = .ok (.getfield 32, 3) := by decide +kernel
theorem dX12_copy_167 : decode cX12_copy 167 = .ok (.bipush 100, 2) := by decide +kernel
theorem dX12_copy_169 : decode cX12_copy 169 = .ok (.iload_n 1, 1) := by decide +kernel
theorem dX12_copy_170 : decode cX12_copy 170 = .ok (.imul, 1) := by decide +kernel
theorem dX12_copy_171 : decode cX12_copy 171 = .ok (.iload_n 2, 1) := by decide +kernel
theorem dX12_copy_172 : decode cX12_copy 172 = .ok (.iadd, 1) := by decide +kernel
theorem dX12_copy_173 : decode cX12_copy 173 = .ok (.iload 7, 2) := by decide +kernel
theorem dX12_copy_175 : decode cX12_copy 175 = .ok (.iadd, 1) := by decide +kernel
theorem dX12_copy_176 : decode cX12_copy 176 = .ok (.iaload, 1) := by decide +kernel
theorem dX12_copy_177 : decode cX12_copy 177 = .ok (.iastore, 1) := by decide +kernel
theorem dX12_copy_178 : decode cX12_copy 178 = .ok (.iinc 6 1, 3) := by decide +kernel
theorem dX12_copy_181 : decode cX12_copy 181 = .ok (.goto (-59), 3) := by decide +kernel
theorem dX12_copy_184 : decode cX12_copy 184 = .ok (.iload 5, 2) := by decide +kernel
theorem dX12_copy_186 : decode cX12_copy 186 = .ok (.ireturn, 1) := by decide +kernel
theorem dX12_wrongKept_0 : decode cX12_wrongKept 0 = .ok (.iload_n 1, 1) := by decide +kernel
theorem dX12_wrongKept_1 : decode cX12_wrongKept 1 = .ok (.invokestatic 141, 3) := by decide +kernel
theorem dX12_wrongKept_4 : decode cX12_wrongKept 4 = .ok (.ifCond .ne 7, 3) := by decide +kernel
theorem dX12_wrongKept_7 : decode cX12_wrongKept 7 = .ok (.iconst (-1), 1) := by decide +kernel
theorem dX12_wrongKept_8 : decode cX12_wrongKept 8 = .ok (.goto 33, 3) := by decide +kernel
theorem dX12_wrongKept_11 : decode cX12_wrongKept 11 = .ok (.aload_n 0, 1) := by decide +kernel
theorem dX12_wrongKept_12 : decode cX12_wrongKept 12 = .ok (.getfield 23, 3) := by decide +kernel
theorem dX12_wrongKept_15 : decode cX12_wrongKept 15 = .ok (.iload_n 1, 1) := by decide +kernel
theorem dX12_wrongKept_16 : decode cX12_wrongKept 16 = .ok (.iaload, 1) := by decide +kernel
theorem dX12_wrongKept_17 : decode cX12_wrongKept 17 = .ok (.ifCond .ne 8, 3) := by decide +kernel
theorem dX12_wrongKept_20 : decode cX12_wrongKept 20 = .ok (.bipush (-11), 2) := by decide +kernel
theorem dX12_wrongKept_22 : decode cX12_wrongKept 22 = .ok (.goto 19, 3) := by decide +kernel
theorem dX12_wrongKept_25 : decode cX12_wrongKept 25 = .ok (.aload_n 0, 1) := by decide +kernel
theorem dX12_wrongKept_26 : decode cX12_wrongKept 26 = .ok (.getfield 23, 3) := by decide +kernel
theorem dX12_wrongKept_29 : decode cX12_wrongKept 29 = .ok (.iload_n 1, 1) := by decide +kernel
theorem dX12_wrongKept_30 : decode cX12_wrongKept 30 = .ok (.iaload, 1) := by decide +kernel
theorem dX12_wrongKept_31 : decode cX12_wrongKept 31 = .ok (.iconst 1, 1) := by decide +kernel
theorem dX12_wrongKept_32 : decode cX12_wrongKept 32 = .ok (.if_icmp .ne 7, 3) := by decide +kernel
theorem dX12_wrongKept_35 : decode cX12_wrongKept 35 = .ok (.iconst 0, 1) := by decide +kernel
theorem dX12_wrongKept_36 : decode cX12_wrongKept 36 = .ok (.goto 5, 3) := by decide +kernel
theorem dX12_wrongKept_39 : decode cX12_wrongKept 39 = .ok (.bipush (-12), 2) := by decide +kernel
theorem dX12_wrongKept_41 : decode cX12_wrongKept 41 = .ok (.ireturn, 1) := by decide +kernel
theorem dX12_gives_0 : decode cX12_gives 0 = .ok (.aload_n 0, 1) := by decide +kernel
theorem dX12_gives_1 : decode cX12_gives 1 = .ok (.iload_n 1, 1) := by decide +kernel
theorem dX12_gives_2 : decode cX12_gives 2 = .ok (.invokevirtual 293, 3) := by decide +kernel
theorem dX12_gives_5 : decode cX12_gives 5 = .ok (.istore_n 2, 1) := by decide +kernel
theorem dX12_gives_6 : decode cX12_gives 6 = .ok (.iload_n 2, 1) := by decide +kernel
theorem dX12_gives_7 : decode cX12_gives 7 = .ok (.ifCond .eq 7, 3) := by decide +kernel
theorem dX12_gives_10 : decode cX12_gives 10 = .ok (.iload_n 2, 1) := by decide +kernel
theorem dX12_gives_11 : decode cX12_gives 11 = .ok (.goto 24, 3) := by decide +kernel
theorem dX12_gives_14 : decode cX12_gives 14 = .ok (.aload_n 0, 1) := by decide +kernel
theorem dX12_gives_15 : decode cX12_gives 15 = .ok (.aload_n 0, 1) := by decide +kernel
theorem dX12_gives_16 : decode cX12_gives 16 = .ok (.getfield 35, 3) := by decide +kernel
theorem dX12_gives_19 : decode cX12_gives 19 = .ok (.iconst 5, 1) := by decide +kernel
theorem dX12_gives_20 : decode cX12_gives 20 = .ok (.iload_n 1, 1) := by decide +kernel
theorem dX12_gives_21 : decode cX12_gives 21 = .ok (.imul, 1) := by decide +kernel
theorem dX12_gives_22 : decode cX12_gives 22 = .ok (.aload_n 0, 1) := by decide +kernel
theorem dX12_gives_23 : decode cX12_gives 23 = .ok (.getfield 35, 3) := by decide +kernel
theorem dX12_gives_26 : decode cX12_gives 26 = .ok (.iconst 5, 1) := by decide +kernel
theorem dX12_gives_27 : decode cX12_gives 27 = .ok (.iload_n 1, 1) := by decide +kernel
theorem dX12_gives_28 : decode cX12_gives 28 = .ok (.imul, 1) := by decide +kernel
theorem dX12_gives_29 : decode cX12_gives 29 = .ok (.iconst 4, 1) := by decide +kernel
theorem dX12_gives_30 : decode cX12_gives 30 = .ok (.iadd, 1) := by decide +kernel
theorem dX12_gives_31 : decode cX12_gives 31 = .ok (.iaload, 1) := by decide +kernel
theorem dX12_gives_32 : decode cX12_gives 32 = .ok (.invokevirtual 87, 3) := by decide +kernel
theorem dX12_gives_35 : decode cX12_gives 35 = .ok (.ireturn, 1) := by decide +kernel
theorem dX12_toss_0 : decode cX12_toss 0 = .ok (.aload_n 0, 1) := by decide +kernel
theorem dX12_toss_1 : decode cX12_toss 1 = .ok (.iload_n 1, 1) := by decide +kernel
theorem dX12_toss_2 : decode cX12_toss 2 = .ok (.invokevirtual 293, 3) := by decide +kernel
theorem dX12_toss_5 : decode cX12_toss 5 = .ok (.istore_n 2, 1) := by decide +kernel
theorem dX12_toss_6 : decode cX12_toss 6 = .ok (.iload_n 2, 1) := by decide +kernel
theorem dX12_toss_7 : decode cX12_toss 7 = .ok (.ifCond .eq 7, 3) := by decide +kernel
theorem dX12_toss_10 : decode cX12_toss 10 = .ok (.iload_n 2, 1) := by decide +kernel
theorem dX12_toss_11 : decode cX12_toss 11 = .ok (.goto 9, 3) := by decide +kernel
theorem dX12_toss_14 : decode cX12_toss 14 = .ok (.aload_n 0, 1) := by decide +kernel
theorem dX12_toss_15 : decode cX12_toss 15 = .ok (.getfield 38, 3) := by decide +kernel
theorem dX12_toss_18 : decode cX12_toss 18 = .ok (.iload_n 1, 1) := by decide +kernel
theorem dX12_toss_19 : decode cX12_toss 19 = .ok (.iaload, 1) := by decide +kernel
theorem dX12_toss_20 : decode cX12_toss 20 = .ok (.ireturn, 1) := by decide +kernel
end
section
theorem dL_element_0 : decode cL_element 0 = .ok (.aload_n 3, 1) := by decide +kernel
theorem dL_element_1 : decode cL_element 1 = .ok (.iconst 0, 1) := by decide +kernel
theorem dL_element_2 : decode cL_element 2 = .ok (.aload_n 0, 1) := by decide +kernel
theorem dL_element_3 : decode cL_element 3 = .ok (.iload_n 1, 1) := by decide +kernel
theorem dL_element_4 : decode cL_element 4 = .ok (.iload_n 2, 1) := by decide +kernel
theorem dL_element_5 : decode cL_element 5 = .ok (.invokevirtual 7, 3) := by decide +kernel
theorem dL_element_8 : decode cL_element 8 = .ok (.lastore, 1) := by decide +kernel
theorem dL_element_9 : decode cL_element 9 = .ok (.goto 11, 3) := by decide +kernel
theorem dL_element_12 : decode cL_element 12 = .ok (.astore 4, 2) := by decide +kernel
theorem dL_element_14 : decode cL_element 14 = .ok (.iconst 1, 1) := by decide +kernel
theorem dL_element_15 : decode cL_element 15 = .ok (.ireturn, 1) := by decide +kernel
theorem dL_element_16 : decode cL_element 16 = .ok (.astore 4, 2) := by decide +kernel
theorem dL_element_18 : decode cL_element 18 = .ok (.iconst 2, 1) := by decide +kernel
theorem dL_element_19 : decode cL_element 19 = .ok (.ireturn, 1) := by decide +kernel
theorem dL_element_20 : decode cL_element 20 = .ok (.iconst 0, 1) := by decide +kernel
theorem dL_element_21 : decode cL_element 21 = .ok (.ireturn, 1) := by decide +kernel
theorem dL_law_0 : decode cL_law 0 = .ok (.new 8, 3) := by decide +kernel
theorem dL_law_3 : decode cL_law 3 = .ok (.dup, 1) := by decide +kernel
theorem dL_law_4 : decode cL_law 4 = .ok (.invokespecial 17, 3) := by decide +kernel
theorem dL_law_7 : decode cL_law 7 = .ok (.astore_n 1, 1) := by decide +kernel
theorem dL_law_8 : decode cL_law 8 = .ok (.new 18, 3) := by decide +kernel
theorem dL_law_11 : decode cL_law 11 = .ok (.dup, 1) := by decide +kernel
theorem dL_law_12 : decode cL_law 12 = .ok (.invokespecial 20, 3) := by decide +kernel
theorem dL_law_15 : decode cL_law 15 = .ok (.astore_n 2, 1) := by decide +kernel
theorem dL_law_16 : decode cL_law 16 = .ok (.iconst 1, 1) := by decide +kernel
theorem dL_law_17 : decode cL_law 17 = .ok (.newarray .long, 2) := by decide +kernel
theorem dL_law_19 : decode cL_law 19 = .ok (.astore_n 3, 1) := by decide +kernel
theorem dL_law_20 : decode cL_law 20 = .ok (.iconst 0, 1) := by decide +kernel
theorem dL_law_21 : decode cL_law 21 = .ok (.istore 4, 2) := by decide +kernel
theorem dL_law_23 : decode cL_law 23 = .ok (.iload 4, 2) := by decide +kernel
theorem dL_law_25 : decode cL_law 25 = .ok (.aload_n 0, 1) := by decide +kernel
theorem dL_law_26 : decode cL_law 26 = .ok (.arraylength, 1) := by decide +kernel
theorem dL_law_27 : decode cL_law 27 = .ok (.bipush 6, 2) := by decide +kernel
theorem dL_law_29 : decode cL_law 29 = .ok (.isub, 1) := by decide +kernel
theorem dL_law_30 : decode cL_law 30 = .ok (.if_icmp .gt 1982, 3) := by decide +kernel
theorem dL_law_33 : decode cL_law 33 = .ok (.aload_n 0, 1) := by decide +kernel
theorem dL_law_34 : decode cL_law 34 = .ok (.iload 4, 2) := by decide +kernel
theorem dL_law_36 : decode cL_law 36 = .ok (.iaload, 1) := by decide +kernel
theorem dL_law_37 : decode cL_law 37 = .ok (.bipush 63, 2) := by decide +kernel
theorem dL_law_39 : decode cL_law 39 = .ok (.iand, 1) := by decide +kernel
theorem dL_law_40 : decode cL_law 40 = .ok (.tableswitch 1966 0 42 #[188, 249, 286, 323, 348, 385, 434, 484, 545, 606, 631, 668, 721, 770, 832, 881, 942, 979, 1052, 1089, 1138, 1163, 1188, 1213, 1238, 1264, 1289, 1314, 1363, 1389, 1415, 1504, 1565, 1578, 1591, 1604, 1629, 1678, 1727, 1776, 1843, 1916, 1941], 188) := by decide +kernel
theorem dL_law_228 : decode cL_law 228 = .ok (.aload_n 1, 1) := by decide +kernel
theorem dL_law_229 : decode cL_law 229 = .ok (.aload_n 0, 1) := by decide +kernel
theorem dL_law_230 : decode cL_law 230 = .ok (.iload 4, 2) := by decide +kernel
theorem dL_law_232 : decode cL_law 232 = .ok (.iconst 1, 1) := by decide +kernel
theorem dL_law_233 : decode cL_law 233 = .ok (.iadd, 1) := by decide +kernel
theorem dL_law_234 : decode cL_law 234 = .ok (.iaload, 1) := by decide +kernel
theorem dL_law_235 : decode cL_law 235 = .ok (.aload_n 0, 1) := by decide +kernel
theorem dL_law_236 : decode cL_law 236 = .ok (.iload 4, 2) := by decide +kernel
theorem dL_law_238 : decode cL_law 238 = .ok (.iconst 2, 1) := by decide +kernel
theorem dL_law_239 : decode cL_law 239 = .ok (.iadd, 1) := by decide +kernel
theorem dL_law_240 : decode cL_law 240 = .ok (.iaload, 1) := by decide +kernel
theorem dL_law_241 : decode cL_law 241 = .ok (.aload_n 0, 1) := by decide +kernel
theorem dL_law_242 : decode cL_law 242 = .ok (.iload 4, 2) := by decide +kernel
theorem dL_law_244 : decode cL_law 244 = .ok (.iconst 3, 1) := by decide +kernel
theorem dL_law_245 : decode cL_law 245 = .ok (.iadd, 1) := by decide +kernel
theorem dL_law_246 : decode cL_law 246 = .ok (.iaload, 1) := by decide +kernel
theorem dL_law_247 : decode cL_law 247 = .ok (.aload_n 0, 1) := by decide +kernel
theorem dL_law_248 : decode cL_law 248 = .ok (.iload 4, 2) := by decide +kernel
theorem dL_law_250 : decode cL_law 250 = .ok (.iconst 4, 1) := by decide +kernel
theorem dL_law_251 : decode cL_law 251 = .ok (.iadd, 1) := by decide +kernel
theorem dL_law_252 : decode cL_law 252 = .ok (.iaload, 1) := by decide +kernel
theorem dL_law_253 : decode cL_law 253 = .ok (.invokevirtual 21, 3) := by decide +kernel
theorem dL_law_256 : decode cL_law 256 = .ok (.aload_n 2, 1) := by decide +kernel
theorem dL_law_257 : decode cL_law 257 = .ok (.aload_n 0, 1) := by decide +kernel
theorem dL_law_258 : decode cL_law 258 = .ok (.iload 4, 2) := by decide +kernel
theorem dL_law_260 : decode cL_law 260 = .ok (.iconst 1, 1) := by decide +kernel
theorem dL_law_261 : decode cL_law 261 = .ok (.iadd, 1) := by decide +kernel
theorem dL_law_262 : decode cL_law 262 = .ok (.iaload, 1) := by decide +kernel
theorem dL_law_263 : decode cL_law 263 = .ok (.aload_n 0, 1) := by decide +kernel
theorem dL_law_264 : decode cL_law 264 = .ok (.iload 4, 2) := by decide +kernel
theorem dL_law_266 : decode cL_law 266 = .ok (.iconst 2, 1) := by decide +kernel
theorem dL_law_267 : decode cL_law 267 = .ok (.iadd, 1) := by decide +kernel
theorem dL_law_268 : decode cL_law 268 = .ok (.iaload, 1) := by decide +kernel
theorem dL_law_269 : decode cL_law 269 = .ok (.aload_n 0, 1) := by decide +kernel
theorem dL_law_270 : decode cL_law 270 = .ok (.iload 4, 2) := by decide +kernel
theorem dL_law_272 : decode cL_law 272 = .ok (.iconst 3, 1) := by decide +kernel
theorem dL_law_273 : decode cL_law 273 = .ok (.iadd, 1) := by decide +kernel
theorem dL_law_274 : decode cL_law 274 = .ok (.iaload, 1) := by decide +kernel
theorem dL_law_275 : decode cL_law 275 = .ok (.aload_n 0, 1) := by decide +kernel
theorem dL_law_276 : decode cL_law 276 = .ok (.iload 4, 2) := by decide +kernel
theorem dL_law_278 : decode cL_law 278 = .ok (.iconst 4, 1) := by decide +kernel
theorem dL_law_279 : decode cL_law 279 = .ok (.iadd, 1) := by decide +kernel
theorem dL_law_280 : decode cL_law 280 = .ok (.iaload, 1) := by decide +kernel
theorem dL_law_281 : decode cL_law 281 = .ok (.invokevirtual 25, 3) := by decide +kernel
theorem dL_law_284 : decode cL_law 284 = .ok (.if_icmp .eq 1722, 3) := by decide +kernel
theorem dL_law_287 : decode cL_law 287 = .ok (.iconst 0, 1) := by decide +kernel
theorem dL_law_288 : decode cL_law 288 = .ok (.ireturn, 1) := by decide +kernel
theorem dL_law_289 : decode cL_law 289 = .ok (.aload_n 1, 1) := by decide +kernel
theorem dL_law_290 : decode cL_law 290 = .ok (.aload_n 0, 1) := by decide +kernel
theorem dL_law_291 : decode cL_law 291 = .ok (.iload 4, 2) := by decide +kernel
theorem dL_law_293 : decode cL_law 293 = .ok (.iconst 1, 1) := by decide +kernel
theorem dL_law_294 : decode cL_law 294 = .ok (.iadd, 1) := by decide +kernel
theorem dL_law_295 : decode cL_law 295 = .ok (.iaload, 1) := by decide +kernel
theorem dL_law_296 : decode cL_law 296 = .ok (.aload_n 0, 1) := by decide +kernel
theorem dL_law_297 : decode cL_law 297 = .ok (.iload 4, 2) := by decide +kernel
theorem dL_law_299 : decode cL_law 299 = .ok (.iconst 2, 1) := by decide +kernel
theorem dL_law_300 : decode cL_law 300 = .ok (.iadd, 1) := by decide +kernel
theorem dL_law_301 : decode cL_law 301 = .ok (.iaload, 1) := by decide +kernel
theorem dL_law_302 : decode cL_law 302 = .ok (.invokevirtual 26, 3) := by decide +kernel
theorem dL_law_305 : decode cL_law 305 = .ok (.aload_n 2, 1) := by decide +kernel
theorem dL_law_306 : decode cL_law 306 = .ok (.aload_n 0, 1) := by decide +kernel
theorem dL_law_307 : decode cL_law 307 = .ok (.iload 4, 2) := by decide +kernel
theorem dL_law_309 : decode cL_law 309 = .ok (.iconst 1, 1) := by decide +kernel
theorem dL_law_310 : decode cL_law 310 = .ok (.iadd, 1) := by decide +kernel
theorem dL_law_311 : decode cL_law 311 = .ok (.iaload, 1) := by decide +kernel
theorem dL_law_312 : decode cL_law 312 = .ok (.aload_n 0, 1) := by decide +kernel
theorem dL_law_313 : decode cL_law 313 = .ok (.iload 4, 2) := by decide +kernel
theorem dL_law_315 : decode cL_law 315 = .ok (.iconst 2, 1) := by decide +kernel
theorem dL_law_316 : decode cL_law 316 = .ok (.iadd, 1) := by decide +kernel
theorem dL_law_317 : decode cL_law 317 = .ok (.iaload, 1) := by decide +kernel
theorem dL_law_318 : decode cL_law 318 = .ok (.invokevirtual 30, 3) := by decide +kernel
theorem dL_law_321 : decode cL_law 321 = .ok (.if_icmp .eq 1685, 3) := by decide +kernel
theorem dL_law_324 : decode cL_law 324 = .ok (.iconst 0, 1) := by decide +kernel
theorem dL_law_325 : decode cL_law 325 = .ok (.ireturn, 1) := by decide +kernel
theorem dL_law_326 : decode cL_law 326 = .ok (.aload_n 1, 1) := by decide +kernel
theorem dL_law_327 : decode cL_law 327 = .ok (.aload_n 0, 1) := by decide +kernel
theorem dL_law_328 : decode cL_law 328 = .ok (.iload 4, 2) := by decide +kernel
theorem dL_law_330 : decode cL_law 330 = .ok (.iconst 1, 1) := by decide +kernel
theorem dL_law_331 : decode cL_law 331 = .ok (.iadd, 1) := by decide +kernel
theorem dL_law_332 : decode cL_law 332 = .ok (.iaload, 1) := by decide +kernel
theorem dL_law_333 : decode cL_law 333 = .ok (.aload_n 0, 1) := by decide +kernel
theorem dL_law_334 : decode cL_law 334 = .ok (.iload 4, 2) := by decide +kernel
theorem dL_law_336 : decode cL_law 336 = .ok (.iconst 2, 1) := by decide +kernel
theorem dL_law_337 : decode cL_law 337 = .ok (.iadd, 1) := by decide +kernel
theorem dL_law_338 : decode cL_law 338 = .ok (.iaload, 1) := by decide +kernel
theorem dL_law_339 : decode cL_law 339 = .ok (.invokevirtual 31, 3) := by decide +kernel
theorem dL_law_342 : decode cL_law 342 = .ok (.aload_n 2, 1) := by decide +kernel
theorem dL_law_343 : decode cL_law 343 = .ok (.aload_n 0, 1) := by decide +kernel
theorem dL_law_344 : decode cL_law 344 = .ok (.iload 4, 2) := by decide +kernel
theorem dL_law_346 : decode cL_law 346 = .ok (.iconst 1, 1) := by decide +kernel
theorem dL_law_347 : decode cL_law 347 = .ok (.iadd, 1) := by decide +kernel
theorem dL_law_348 : decode cL_law 348 = .ok (.iaload, 1) := by decide +kernel
theorem dL_law_349 : decode cL_law 349 = .ok (.aload_n 0, 1) := by decide +kernel
theorem dL_law_350 : decode cL_law 350 = .ok (.iload 4, 2) := by decide +kernel
theorem dL_law_352 : decode cL_law 352 = .ok (.iconst 2, 1) := by decide +kernel
theorem dL_law_353 : decode cL_law 353 = .ok (.iadd, 1) := by decide +kernel
theorem dL_law_354 : decode cL_law 354 = .ok (.iaload, 1) := by decide +kernel
theorem dL_law_355 : decode cL_law 355 = .ok (.invokevirtual 34, 3) := by decide +kernel
theorem dL_law_358 : decode cL_law 358 = .ok (.if_icmp .eq 1648, 3) := by decide +kernel
theorem dL_law_361 : decode cL_law 361 = .ok (.iconst 0, 1) := by decide +kernel
theorem dL_law_362 : decode cL_law 362 = .ok (.ireturn, 1) := by decide +kernel
theorem dL_law_363 : decode cL_law 363 = .ok (.aload_n 1, 1) := by decide +kernel
theorem dL_law_364 : decode cL_law 364 = .ok (.aload_n 0, 1) := by decide +kernel
theorem dL_law_365 : decode cL_law 365 = .ok (.iload 4, 2) := by decide +kernel
theorem dL_law_367 : decode cL_law 367 = .ok (.iconst 1, 1) := by decide +kernel
theorem dL_law_368 : decode cL_law 368 = .ok (.iadd, 1) := by decide +kernel
theorem dL_law_369 : decode cL_law 369 = .ok (.iaload, 1) := by decide +kernel
theorem dL_law_370 : decode cL_law 370 = .ok (.invokevirtual 35, 3) := by decide +kernel
theorem dL_law_373 : decode cL_law 373 = .ok (.aload_n 2, 1) := by decide +kernel
theorem dL_law_374 : decode cL_law 374 = .ok (.aload_n 0, 1) := by decide +kernel
theorem dL_law_375 : decode cL_law 375 = .ok (.iload 4, 2) := by decide +kernel
theorem dL_law_377 : decode cL_law 377 = .ok (.iconst 1, 1) := by decide +kernel
theorem dL_law_378 : decode cL_law 378 = .ok (.iadd, 1) := by decide +kernel
theorem dL_law_379 : decode cL_law 379 = .ok (.iaload, 1) := by decide +kernel
theorem dL_law_380 : decode cL_law 380 = .ok (.invokevirtual 39, 3) := by decide +kernel
theorem dL_law_383 : decode cL_law 383 = .ok (.if_icmp .eq 1623, 3) := by decide +kernel
theorem dL_law_386 : decode cL_law 386 = .ok (.iconst 0, 1) := by decide +kernel
theorem dL_law_387 : decode cL_law 387 = .ok (.ireturn, 1) := by decide +kernel
theorem dL_law_388 : decode cL_law 388 = .ok (.aload_n 1, 1) := by decide +kernel
theorem dL_law_389 : decode cL_law 389 = .ok (.aload_n 0, 1) := by decide +kernel
theorem dL_law_390 : decode cL_law 390 = .ok (.iload 4, 2) := by decide +kernel
theorem dL_law_392 : decode cL_law 392 = .ok (.iconst 1, 1) := by decide +kernel
theorem dL_law_393 : decode cL_law 393 = .ok (.iadd, 1) := by decide +kernel
theorem dL_law_394 : decode cL_law 394 = .ok (.iaload, 1) := by decide +kernel
theorem dL_law_395 : decode cL_law 395 = .ok (.aload_n 0, 1) := by decide +kernel
theorem dL_law_396 : decode cL_law 396 = .ok (.iload 4, 2) := by decide +kernel
theorem dL_law_398 : decode cL_law 398 = .ok (.iconst 2, 1) := by decide +kernel
theorem dL_law_399 : decode cL_law 399 = .ok (.iadd, 1) := by decide +kernel
theorem dL_law_400 : decode cL_law 400 = .ok (.iaload, 1) := by decide +kernel
theorem dL_law_401 : decode cL_law 401 = .ok (.invokevirtual 40, 3) := by decide +kernel
theorem dL_law_404 : decode cL_law 404 = .ok (.aload_n 2, 1) := by decide +kernel
theorem dL_law_405 : decode cL_law 405 = .ok (.aload_n 0, 1) := by decide +kernel
theorem dL_law_406 : decode cL_law 406 = .ok (.iload 4, 2) := by decide +kernel
theorem dL_law_408 : decode cL_law 408 = .ok (.iconst 1, 1) := by decide +kernel
theorem dL_law_409 : decode cL_law 409 = .ok (.iadd, 1) := by decide +kernel
theorem dL_law_410 : decode cL_law 410 = .ok (.iaload, 1) := by decide +kernel
theorem dL_law_411 : decode cL_law 411 = .ok (.aload_n 0, 1) := by decide +kernel
theorem dL_law_412 : decode cL_law 412 = .ok (.iload 4, 2) := by decide +kernel
theorem dL_law_414 : decode cL_law 414 = .ok (.iconst 2, 1) := by decide +kernel
theorem dL_law_415 : decode cL_law 415 = .ok (.iadd, 1) := by decide +kernel
theorem dL_law_416 : decode cL_law 416 = .ok (.iaload, 1) := by decide +kernel
theorem dL_law_417 : decode cL_law 417 = .ok (.invokevirtual 43, 3) := by decide +kernel
theorem dL_law_420 : decode cL_law 420 = .ok (.if_icmp .eq 1586, 3) := by decide +kernel
theorem dL_law_423 : decode cL_law 423 = .ok (.iconst 0, 1) := by decide +kernel
theorem dL_law_424 : decode cL_law 424 = .ok (.ireturn, 1) := by decide +kernel
theorem dL_law_425 : decode cL_law 425 = .ok (.aload_n 1, 1) := by decide +kernel
theorem dL_law_426 : decode cL_law 426 = .ok (.aload_n 0, 1) := by decide +kernel
theorem dL_law_427 : decode cL_law 427 = .ok (.iload 4, 2) := by decide +kernel
theorem dL_law_429 : decode cL_law 429 = .ok (.iconst 1, 1) := by decide +kernel
theorem dL_law_430 : decode cL_law 430 = .ok (.iadd, 1) := by decide +kernel
theorem dL_law_431 : decode cL_law 431 = .ok (.iaload, 1) := by decide +kernel
theorem dL_law_432 : decode cL_law 432 = .ok (.aload_n 0, 1) := by decide +kernel
theorem dL_law_433 : decode cL_law 433 = .ok (.iload 4, 2) := by decide +kernel
theorem dL_law_435 : decode cL_law 435 = .ok (.iconst 2, 1) := by decide +kernel
theorem dL_law_436 : decode cL_law 436 = .ok (.iadd, 1) := by decide +kernel
theorem dL_law_437 : decode cL_law 437 = .ok (.iaload, 1) := by decide +kernel
theorem dL_law_438 : decode cL_law 438 = .ok (.aload_n 0, 1) := by decide +kernel
theorem dL_law_439 : decode cL_law 439 = .ok (.iload 4, 2) := by decide +kernel
theorem dL_law_441 : decode cL_law 441 = .ok (.iconst 3, 1) := by decide +kernel
theorem dL_law_442 : decode cL_law 442 = .ok (.iadd, 1) := by decide +kernel
theorem dL_law_443 : decode cL_law 443 = .ok (.iaload, 1) := by decide +kernel
theorem dL_law_444 : decode cL_law 444 = .ok (.invokevirtual 44, 3) := by decide +kernel
theorem dL_law_447 : decode cL_law 447 = .ok (.aload_n 2, 1) := by decide +kernel
theorem dL_law_448 : decode cL_law 448 = .ok (.aload_n 0, 1) := by decide +kernel
theorem dL_law_449 : decode cL_law 449 = .ok (.iload 4, 2) := by decide +kernel
theorem dL_law_451 : decode cL_law 451 = .ok (.iconst 1, 1) := by decide +kernel
theorem dL_law_452 : decode cL_law 452 = .ok (.iadd, 1) := by decide +kernel
theorem dL_law_453 : decode cL_law 453 = .ok (.iaload, 1) := by decide +kernel
theorem dL_law_454 : decode cL_law 454 = .ok (.aload_n 0, 1) := by decide +kernel
theorem dL_law_455 : decode cL_law 455 = .ok (.iload 4, 2) := by decide +kernel
theorem dL_law_457 : decode cL_law 457 = .ok (.iconst 2, 1) := by decide +kernel
theorem dL_law_458 : decode cL_law 458 = .ok (.iadd, 1) := by decide +kernel
theorem dL_law_459 : decode cL_law 459 = .ok (.iaload, 1) := by decide +kernel
theorem dL_law_460 : decode cL_law 460 = .ok (.aload_n 0, 1) := by decide +kernel
theorem dL_law_461 : decode cL_law 461 = .ok (.iload 4, 2) := by decide +kernel
theorem dL_law_463 : decode cL_law 463 = .ok (.iconst 3, 1) := by decide +kernel
theorem dL_law_464 : decode cL_law 464 = .ok (.iadd, 1) := by decide +kernel
theorem dL_law_465 : decode cL_law 465 = .ok (.iaload, 1) := by decide +kernel
theorem dL_law_466 : decode cL_law 466 = .ok (.invokevirtual 48, 3) := by decide +kernel
theorem dL_law_469 : decode cL_law 469 = .ok (.if_icmp .eq 1537, 3) := by decide +kernel
theorem dL_law_472 : decode cL_law 472 = .ok (.iconst 0, 1) := by decide +kernel
theorem dL_law_473 : decode cL_law 473 = .ok (.ireturn, 1) := by decide +kernel
theorem dL_law_474 : decode cL_law 474 = .ok (.aload_n 1, 1) := by decide +kernel
theorem dL_law_475 : decode cL_law 475 = .ok (.aload_n 0, 1) := by decide +kernel
theorem dL_law_476 : decode cL_law 476 = .ok (.iload 4, 2) := by decide +kernel
theorem dL_law_478 : decode cL_law 478 = .ok (.iconst 1, 1) := by decide +kernel
theorem dL_law_479 : decode cL_law 479 = .ok (.iadd, 1) := by decide +kernel
theorem dL_law_480 : decode cL_law 480 = .ok (.iaload, 1) := by decide +kernel
theorem dL_law_481 : decode cL_law 481 = .ok (.aload_n 0, 1) := by decide +kernel
theorem dL_law_482 : decode cL_law 482 = .ok (.iload 4, 2) := by decide +kernel
theorem dL_law_484 : decode cL_law 484 = .ok (.iconst 2, 1) := by decide +kernel
theorem dL_law_485 : decode cL_law 485 = .ok (.iadd, 1) := by decide +kernel
theorem dL_law_486 : decode cL_law 486 = .ok (.iaload, 1) := by decide +kernel
theorem dL_law_487 : decode cL_law 487 = .ok (.aload_n 0, 1) := by decide +kernel
theorem dL_law_488 : decode cL_law 488 = .ok (.iload 4, 2) := by decide +kernel
theorem dL_law_490 : decode cL_law 490 = .ok (.iconst 3, 1) := by decide +kernel
theorem dL_law_491 : decode cL_law 491 = .ok (.iadd, 1) := by decide +kernel
theorem dL_law_492 : decode cL_law 492 = .ok (.iaload, 1) := by decide +kernel
theorem dL_law_493 : decode cL_law 493 = .ok (.invokevirtual 49, 3) := by decide +kernel
theorem dL_law_496 : decode cL_law 496 = .ok (.aload_n 2, 1) := by decide +kernel
theorem dL_law_497 : decode cL_law 497 = .ok (.aload_n 0, 1) := by decide +kernel
theorem dL_law_498 : decode cL_law 498 = .ok (.iload 4, 2) := by decide +kernel
theorem dL_law_500 : decode cL_law 500 = .ok (.iconst 1, 1) := by decide +kernel
theorem dL_law_501 : decode cL_law 501 = .ok (.iadd, 1) := by decide +kernel
theorem dL_law_502 : decode cL_law 502 = .ok (.iaload, 1) := by decide +kernel
theorem dL_law_503 : decode cL_law 503 = .ok (.aload_n 0, 1) := by decide +kernel
theorem dL_law_504 : decode cL_law 504 = .ok (.iload 4, 2) := by decide +kernel
theorem dL_law_506 : decode cL_law 506 = .ok (.iconst 2, 1) := by decide +kernel
theorem dL_law_507 : decode cL_law 507 = .ok (.iadd, 1) := by decide +kernel
theorem dL_law_508 : decode cL_law 508 = .ok (.iaload, 1) := by decide +kernel
theorem dL_law_509 : decode cL_law 509 = .ok (.aload_n 0, 1) := by decide +kernel
theorem dL_law_510 : decode cL_law 510 = .ok (.iload 4, 2) := by decide +kernel
theorem dL_law_512 : decode cL_law 512 = .ok (.iconst 3, 1) := by decide +kernel
theorem dL_law_513 : decode cL_law 513 = .ok (.iadd, 1) := by decide +kernel
theorem dL_law_514 : decode cL_law 514 = .ok (.iaload, 1) := by decide +kernel
theorem dL_law_515 : decode cL_law 515 = .ok (.invokevirtual 53, 3) := by decide +kernel
theorem dL_law_518 : decode cL_law 518 = .ok (.lcmp, 1) := by decide +kernel
theorem dL_law_519 : decode cL_law 519 = .ok (.ifCond .eq 1487, 3) := by decide +kernel
theorem dL_law_522 : decode cL_law 522 = .ok (.iconst 0, 1) := by decide +kernel
theorem dL_law_523 : decode cL_law 523 = .ok (.ireturn, 1) := by decide +kernel
theorem dL_law_524 : decode cL_law 524 = .ok (.aload_n 1, 1) := by decide +kernel
theorem dL_law_525 : decode cL_law 525 = .ok (.aload_n 0, 1) := by decide +kernel
theorem dL_law_526 : decode cL_law 526 = .ok (.iload 4, 2) := by decide +kernel
theorem dL_law_528 : decode cL_law 528 = .ok (.iconst 1, 1) := by decide +kernel
theorem dL_law_529 : decode cL_law 529 = .ok (.iadd, 1) := by decide +kernel
theorem dL_law_530 : decode cL_law 530 = .ok (.iaload, 1) := by decide +kernel
theorem dL_law_531 : decode cL_law 531 = .ok (.aload_n 0, 1) := by decide +kernel
theorem dL_law_532 : decode cL_law 532 = .ok (.iload 4, 2) := by decide +kernel
theorem dL_law_534 : decode cL_law 534 = .ok (.iconst 2, 1) := by decide +kernel
theorem dL_law_535 : decode cL_law 535 = .ok (.iadd, 1) := by decide +kernel
theorem dL_law_536 : decode cL_law 536 = .ok (.iaload, 1) := by decide +kernel
theorem dL_law_537 : decode cL_law 537 = .ok (.aload_n 0, 1) := by decide +kernel
theorem dL_law_538 : decode cL_law 538 = .ok (.iload 4, 2) := by decide +kernel
theorem dL_law_540 : decode cL_law 540 = .ok (.iconst 3, 1) := by decide +kernel
theorem dL_law_541 : decode cL_law 541 = .ok (.iadd, 1) := by decide +kernel
theorem dL_law_542 : decode cL_law 542 = .ok (.iaload, 1) := by decide +kernel
theorem dL_law_543 : decode cL_law 543 = .ok (.aload_n 0, 1) := by decide +kernel
theorem dL_law_544 : decode cL_law 544 = .ok (.iload 4, 2) := by decide +kernel
theorem dL_law_546 : decode cL_law 546 = .ok (.iconst 4, 1) := by decide +kernel
theorem dL_law_547 : decode cL_law 547 = .ok (.iadd, 1) := by decide +kernel
theorem dL_law_548 : decode cL_law 548 = .ok (.iaload, 1) := by decide +kernel
theorem dL_law_549 : decode cL_law 549 = .ok (.invokevirtual 54, 3) := by decide +kernel
theorem dL_law_552 : decode cL_law 552 = .ok (.aload_n 2, 1) := by decide +kernel
theorem dL_law_553 : decode cL_law 553 = .ok (.aload_n 0, 1) := by decide +kernel
theorem dL_law_554 : decode cL_law 554 = .ok (.iload 4, 2) := by decide +kernel
theorem dL_law_556 : decode cL_law 556 = .ok (.iconst 1, 1) := by decide +kernel
theorem dL_law_557 : decode cL_law 557 = .ok (.iadd, 1) := by decide +kernel
theorem dL_law_558 : decode cL_law 558 = .ok (.iaload, 1) := by decide +kernel
theorem dL_law_559 : decode cL_law 559 = .ok (.aload_n 0, 1) := by decide +kernel
theorem dL_law_560 : decode cL_law 560 = .ok (.iload 4, 2) := by decide +kernel
theorem dL_law_562 : decode cL_law 562 = .ok (.iconst 2, 1) := by decide +kernel
theorem dL_law_563 : decode cL_law 563 = .ok (.iadd, 1) := by decide +kernel
theorem dL_law_564 : decode cL_law 564 = .ok (.iaload, 1) := by decide +kernel
theorem dL_law_565 : decode cL_law 565 = .ok (.aload_n 0, 1) := by decide +kernel
theorem dL_law_566 : decode cL_law 566 = .ok (.iload 4, 2) := by decide +kernel
theorem dL_law_568 : decode cL_law 568 = .ok (.iconst 3, 1) := by decide +kernel
theorem dL_law_569 : decode cL_law 569 = .ok (.iadd, 1) := by decide +kernel
theorem dL_law_570 : decode cL_law 570 = .ok (.iaload, 1) := by decide +kernel
theorem dL_law_571 : decode cL_law 571 = .ok (.aload_n 0, 1) := by decide +kernel
theorem dL_law_572 : decode cL_law 572 = .ok (.iload 4, 2) := by decide +kernel
theorem dL_law_574 : decode cL_law 574 = .ok (.iconst 4, 1) := by decide +kernel
theorem dL_law_575 : decode cL_law 575 = .ok (.iadd, 1) := by decide +kernel
theorem dL_law_576 : decode cL_law 576 = .ok (.iaload, 1) := by decide +kernel
theorem dL_law_577 : decode cL_law 577 = .ok (.invokevirtual 57, 3) := by decide +kernel
theorem dL_law_580 : decode cL_law 580 = .ok (.if_icmp .eq 1426, 3) := by decide +kernel
theorem dL_law_583 : decode cL_law 583 = .ok (.iconst 0, 1) := by decide +kernel
theorem dL_law_584 : decode cL_law 584 = .ok (.ireturn, 1) := by decide +kernel
theorem dL_law_585 : decode cL_law 585 = .ok (.aload_n 1, 1) := by decide +kernel
theorem dL_law_586 : decode cL_law 586 = .ok (.aload_n 0, 1) := by decide +kernel
theorem dL_law_587 : decode cL_law 587 = .ok (.iload 4, 2) := by decide +kernel
theorem dL_law_589 : decode cL_law 589 = .ok (.iconst 1, 1) := by decide +kernel
theorem dL_law_590 : decode cL_law 590 = .ok (.iadd, 1) := by decide +kernel
theorem dL_law_591 : decode cL_law 591 = .ok (.iaload, 1) := by decide +kernel
theorem dL_law_592 : decode cL_law 592 = .ok (.aload_n 0, 1) := by decide +kernel
theorem dL_law_593 : decode cL_law 593 = .ok (.iload 4, 2) := by decide +kernel
theorem dL_law_595 : decode cL_law 595 = .ok (.iconst 2, 1) := by decide +kernel
theorem dL_law_596 : decode cL_law 596 = .ok (.iadd, 1) := by decide +kernel
theorem dL_law_597 : decode cL_law 597 = .ok (.iaload, 1) := by decide +kernel
theorem dL_law_598 : decode cL_law 598 = .ok (.aload_n 0, 1) := by decide +kernel
theorem dL_law_599 : decode cL_law 599 = .ok (.iload 4, 2) := by decide +kernel
theorem dL_law_601 : decode cL_law 601 = .ok (.iconst 3, 1) := by decide +kernel
theorem dL_law_602 : decode cL_law 602 = .ok (.iadd, 1) := by decide +kernel
theorem dL_law_603 : decode cL_law 603 = .ok (.iaload, 1) := by decide +kernel
theorem dL_law_604 : decode cL_law 604 = .ok (.aload_n 0, 1) := by decide +kernel
theorem dL_law_605 : decode cL_law 605 = .ok (.iload 4, 2) := by decide +kernel
theorem dL_law_607 : decode cL_law 607 = .ok (.iconst 4, 1) := by decide +kernel
theorem dL_law_608 : decode cL_law 608 = .ok (.iadd, 1) := by decide +kernel
theorem dL_law_609 : decode cL_law 609 = .ok (.iaload, 1) := by decide +kernel
theorem dL_law_610 : decode cL_law 610 = .ok (.invokevirtual 58, 3) := by decide +kernel
theorem dL_law_613 : decode cL_law 613 = .ok (.aload_n 2, 1) := by decide +kernel
theorem dL_law_614 : decode cL_law 614 = .ok (.aload_n 0, 1) := by decide +kernel
theorem dL_law_615 : decode cL_law 615 = .ok (.iload 4, 2) := by decide +kernel
theorem dL_law_617 : decode cL_law 617 = .ok (.iconst 1, 1) := by decide +kernel
theorem dL_law_618 : decode cL_law 618 = .ok (.iadd, 1) := by decide +kernel
theorem dL_law_619 : decode cL_law 619 = .ok (.iaload, 1) := by decide +kernel
theorem dL_law_620 : decode cL_law 620 = .ok (.aload_n 0, 1) := by decide +kernel
theorem dL_law_621 : decode cL_law 621 = .ok (.iload 4, 2) := by decide +kernel
theorem dL_law_623 : decode cL_law 623 = .ok (.iconst 2, 1) := by decide +kernel
theorem dL_law_624 : decode cL_law 624 = .ok (.iadd, 1) := by decide +kernel
theorem dL_law_625 : decode cL_law 625 = .ok (.iaload, 1) := by decide +kernel
theorem dL_law_626 : decode cL_law 626 = .ok (.aload_n 0, 1) := by decide +kernel
theorem dL_law_627 : decode cL_law 627 = .ok (.iload 4, 2) := by decide +kernel
theorem dL_law_629 : decode cL_law 629 = .ok (.iconst 3, 1) := by decide +kernel
theorem dL_law_630 : decode cL_law 630 = .ok (.iadd, 1) := by decide +kernel
theorem dL_law_631 : decode cL_law 631 = .ok (.iaload, 1) := by decide +kernel
theorem dL_law_632 : decode cL_law 632 = .ok (.aload_n 0, 1) := by decide +kernel
theorem dL_law_633 : decode cL_law 633 = .ok (.iload 4, 2) := by decide +kernel
theorem dL_law_635 : decode cL_law 635 = .ok (.iconst 4, 1) := by decide +kernel
theorem dL_law_636 : decode cL_law 636 = .ok (.iadd, 1) := by decide +kernel
theorem dL_law_637 : decode cL_law 637 = .ok (.iaload, 1) := by decide +kernel
theorem dL_law_638 : decode cL_law 638 = .ok (.invokevirtual 61, 3) := by decide +kernel
theorem dL_law_641 : decode cL_law 641 = .ok (.if_icmp .eq 1365, 3) := by decide +kernel
theorem dL_law_644 : decode cL_law 644 = .ok (.iconst 0, 1) := by decide +kernel
theorem dL_law_645 : decode cL_law 645 = .ok (.ireturn, 1) := by decide +kernel
theorem dL_law_646 : decode cL_law 646 = .ok (.aload_n 1, 1) := by decide +kernel
theorem dL_law_647 : decode cL_law 647 = .ok (.aload_n 0, 1) := by decide +kernel
theorem dL_law_648 : decode cL_law 648 = .ok (.iload 4, 2) := by decide +kernel
theorem dL_law_650 : decode cL_law 650 = .ok (.iconst 1, 1) := by decide +kernel
theorem dL_law_651 : decode cL_law 651 = .ok (.iadd, 1) := by decide +kernel
theorem dL_law_652 : decode cL_law 652 = .ok (.iaload, 1) := by decide +kernel
theorem dL_law_653 : decode cL_law 653 = .ok (.invokevirtual 62, 3) := by decide +kernel
theorem dL_law_656 : decode cL_law 656 = .ok (.aload_n 2, 1) := by decide +kernel
theorem dL_law_657 : decode cL_law 657 = .ok (.aload_n 0, 1) := by decide +kernel
theorem dL_law_658 : decode cL_law 658 = .ok (.iload 4, 2) := by decide +kernel
theorem dL_law_660 : decode cL_law 660 = .ok (.iconst 1, 1) := by decide +kernel
theorem dL_law_661 : decode cL_law 661 = .ok (.iadd, 1) := by decide +kernel
theorem dL_law_662 : decode cL_law 662 = .ok (.iaload, 1) := by decide +kernel
theorem dL_law_663 : decode cL_law 663 = .ok (.invokevirtual 65, 3) := by decide +kernel
theorem dL_law_666 : decode cL_law 666 = .ok (.if_icmp .eq 1340, 3) := by decide +kernel
theorem dL_law_669 : decode cL_law 669 = .ok (.iconst 0, 1) := by decide +kernel
theorem dL_law_670 : decode cL_law 670 = .ok (.ireturn, 1) := by decide +kernel
theorem dL_law_671 : decode cL_law 671 = .ok (.aload_n 1, 1) := by decide +kernel
theorem dL_law_672 : decode cL_law 672 = .ok (.aload_n 0, 1) := by decide +kernel
theorem dL_law_673 : decode cL_law 673 = .ok (.iload 4, 2) := by decide +kernel
theorem dL_law_675 : decode cL_law 675 = .ok (.iconst 1, 1) := by decide +kernel
theorem dL_law_676 : decode cL_law 676 = .ok (.iadd, 1) := by decide +kernel
theorem dL_law_677 : decode cL_law 677 = .ok (.iaload, 1) := by decide +kernel
theorem dL_law_678 : decode cL_law 678 = .ok (.aload_n 0, 1) := by decide +kernel
theorem dL_law_679 : decode cL_law 679 = .ok (.iload 4, 2) := by decide +kernel
theorem dL_law_681 : decode cL_law 681 = .ok (.iconst 2, 1) := by decide +kernel
theorem dL_law_682 : decode cL_law 682 = .ok (.iadd, 1) := by decide +kernel
theorem dL_law_683 : decode cL_law 683 = .ok (.iaload, 1) := by decide +kernel
theorem dL_law_684 : decode cL_law 684 = .ok (.invokevirtual 66, 3) := by decide +kernel
theorem dL_law_687 : decode cL_law 687 = .ok (.aload_n 2, 1) := by decide +kernel
theorem dL_law_688 : decode cL_law 688 = .ok (.aload_n 0, 1) := by decide +kernel
theorem dL_law_689 : decode cL_law 689 = .ok (.iload 4, 2) := by decide +kernel
theorem dL_law_691 : decode cL_law 691 = .ok (.iconst 1, 1) := by decide +kernel
theorem dL_law_692 : decode cL_law 692 = .ok (.iadd, 1) := by decide +kernel
theorem dL_law_693 : decode cL_law 693 = .ok (.iaload, 1) := by decide +kernel
theorem dL_law_694 : decode cL_law 694 = .ok (.aload_n 0, 1) := by decide +kernel
theorem dL_law_695 : decode cL_law 695 = .ok (.iload 4, 2) := by decide +kernel
theorem dL_law_697 : decode cL_law 697 = .ok (.iconst 2, 1) := by decide +kernel
theorem dL_law_698 : decode cL_law 698 = .ok (.iadd, 1) := by decide +kernel
theorem dL_law_699 : decode cL_law 699 = .ok (.iaload, 1) := by decide +kernel
theorem dL_law_700 : decode cL_law 700 = .ok (.invokevirtual 69, 3) := by decide +kernel
theorem dL_law_703 : decode cL_law 703 = .ok (.if_icmp .eq 1303, 3) := by decide +kernel
theorem dL_law_706 : decode cL_law 706 = .ok (.iconst 0, 1) := by decide +kernel
theorem dL_law_707 : decode cL_law 707 = .ok (.ireturn, 1) := by decide +kernel
theorem dL_law_708 : decode cL_law 708 = .ok (.aload_n 1, 1) := by decide +kernel
theorem dL_law_709 : decode cL_law 709 = .ok (.aload_n 0, 1) := by decide +kernel
theorem dL_law_710 : decode cL_law 710 = .ok (.iload 4, 2) := by decide +kernel
theorem dL_law_712 : decode cL_law 712 = .ok (.iconst 1, 1) := by decide +kernel
theorem dL_law_713 : decode cL_law 713 = .ok (.iadd, 1) := by decide +kernel
theorem dL_law_714 : decode cL_law 714 = .ok (.iaload, 1) := by decide +kernel
theorem dL_law_715 : decode cL_law 715 = .ok (.aload_n 0, 1) := by decide +kernel
theorem dL_law_716 : decode cL_law 716 = .ok (.iload 4, 2) := by decide +kernel
theorem dL_law_718 : decode cL_law 718 = .ok (.iconst 2, 1) := by decide +kernel
theorem dL_law_719 : decode cL_law 719 = .ok (.iadd, 1) := by decide +kernel
theorem dL_law_720 : decode cL_law 720 = .ok (.iaload, 1) := by decide +kernel
theorem dL_law_721 : decode cL_law 721 = .ok (.ifCond .eq 7, 3) := by decide +kernel
theorem dL_law_724 : decode cL_law 724 = .ok (.iconst 1, 1) := by decide +kernel
theorem dL_law_725 : decode cL_law 725 = .ok (.goto 4, 3) := by decide +kernel
theorem dL_law_728 : decode cL_law 728 = .ok (.iconst 0, 1) := by decide +kernel
theorem dL_law_729 : decode cL_law 729 = .ok (.invokevirtual 70, 3) := by decide +kernel
theorem dL_law_732 : decode cL_law 732 = .ok (.aload_n 2, 1) := by decide +kernel
theorem dL_law_733 : decode cL_law 733 = .ok (.aload_n 0, 1) := by decide +kernel
theorem dL_law_734 : decode cL_law 734 = .ok (.iload 4, 2) := by decide +kernel
theorem dL_law_736 : decode cL_law 736 = .ok (.iconst 1, 1) := by decide +kernel
theorem dL_law_737 : decode cL_law 737 = .ok (.iadd, 1) := by decide +kernel
theorem dL_law_738 : decode cL_law 738 = .ok (.iaload, 1) := by decide +kernel
theorem dL_law_739 : decode cL_law 739 = .ok (.aload_n 0, 1) := by decide +kernel
theorem dL_law_740 : decode cL_law 740 = .ok (.iload 4, 2) := by decide +kernel
theorem dL_law_742 : decode cL_law 742 = .ok (.iconst 2, 1) := by decide +kernel
theorem dL_law_743 : decode cL_law 743 = .ok (.iadd, 1) := by decide +kernel
theorem dL_law_744 : decode cL_law 744 = .ok (.iaload, 1) := by decide +kernel
theorem dL_law_745 : decode cL_law 745 = .ok (.ifCond .eq 7, 3) := by decide +kernel
theorem dL_law_748 : decode cL_law 748 = .ok (.iconst 1, 1) := by decide +kernel
theorem dL_law_749 : decode cL_law 749 = .ok (.goto 4, 3) := by decide +kernel
theorem dL_law_752 : decode cL_law 752 = .ok (.iconst 0, 1) := by decide +kernel
theorem dL_law_753 : decode cL_law 753 = .ok (.invokevirtual 74, 3) := by decide +kernel
theorem dL_law_756 : decode cL_law 756 = .ok (.if_icmp .eq 1250, 3) := by decide +kernel
theorem dL_law_759 : decode cL_law 759 = .ok (.iconst 0, 1) := by decide +kernel
theorem dL_law_760 : decode cL_law 760 = .ok (.ireturn, 1) := by decide +kernel
theorem dL_law_761 : decode cL_law 761 = .ok (.aload_n 1, 1) := by decide +kernel
theorem dL_law_762 : decode cL_law 762 = .ok (.aload_n 0, 1) := by decide +kernel
theorem dL_law_763 : decode cL_law 763 = .ok (.iload 4, 2) := by decide +kernel
theorem dL_law_765 : decode cL_law 765 = .ok (.iconst 1, 1) := by decide +kernel
theorem dL_law_766 : decode cL_law 766 = .ok (.iadd, 1) := by decide +kernel
theorem dL_law_767 : decode cL_law 767 = .ok (.iaload, 1) := by decide +kernel
theorem dL_law_768 : decode cL_law 768 = .ok (.aload_n 0, 1) := by decide +kernel
theorem dL_law_769 : decode cL_law 769 = .ok (.iload 4, 2) := by decide +kernel
theorem dL_law_771 : decode cL_law 771 = .ok (.iconst 2, 1) := by decide +kernel
theorem dL_law_772 : decode cL_law 772 = .ok (.iadd, 1) := by decide +kernel
theorem dL_law_773 : decode cL_law 773 = .ok (.iaload, 1) := by decide +kernel
theorem dL_law_774 : decode cL_law 774 = .ok (.aload_n 0, 1) := by decide +kernel
theorem dL_law_775 : decode cL_law 775 = .ok (.iload 4, 2) := by decide +kernel
theorem dL_law_777 : decode cL_law 777 = .ok (.iconst 3, 1) := by decide +kernel
theorem dL_law_778 : decode cL_law 778 = .ok (.iadd, 1) := by decide +kernel
theorem dL_law_779 : decode cL_law 779 = .ok (.iaload, 1) := by decide +kernel
theorem dL_law_780 : decode cL_law 780 = .ok (.invokevirtual 75, 3) := by decide +kernel
theorem dL_law_783 : decode cL_law 783 = .ok (.aload_n 2, 1) := by decide +kernel
theorem dL_law_784 : decode cL_law 784 = .ok (.aload_n 0, 1) := by decide +kernel
theorem dL_law_785 : decode cL_law 785 = .ok (.iload 4, 2) := by decide +kernel
theorem dL_law_787 : decode cL_law 787 = .ok (.iconst 1, 1) := by decide +kernel
theorem dL_law_788 : decode cL_law 788 = .ok (.iadd, 1) := by decide +kernel
theorem dL_law_789 : decode cL_law 789 = .ok (.iaload, 1) := by decide +kernel
theorem dL_law_790 : decode cL_law 790 = .ok (.aload_n 0, 1) := by decide +kernel
theorem dL_law_791 : decode cL_law 791 = .ok (.iload 4, 2) := by decide +kernel
theorem dL_law_793 : decode cL_law 793 = .ok (.iconst 2, 1) := by decide +kernel
theorem dL_law_794 : decode cL_law 794 = .ok (.iadd, 1) := by decide +kernel
theorem dL_law_795 : decode cL_law 795 = .ok (.iaload, 1) := by decide +kernel
theorem dL_law_796 : decode cL_law 796 = .ok (.aload_n 0, 1) := by decide +kernel
theorem dL_law_797 : decode cL_law 797 = .ok (.iload 4, 2) := by decide +kernel
theorem dL_law_799 : decode cL_law 799 = .ok (.iconst 3, 1) := by decide +kernel
theorem dL_law_800 : decode cL_law 800 = .ok (.iadd, 1) := by decide +kernel
theorem dL_law_801 : decode cL_law 801 = .ok (.iaload, 1) := by decide +kernel
theorem dL_law_802 : decode cL_law 802 = .ok (.invokevirtual 78, 3) := by decide +kernel
theorem dL_law_805 : decode cL_law 805 = .ok (.if_icmp .eq 1201, 3) := by decide +kernel
theorem dL_law_808 : decode cL_law 808 = .ok (.iconst 0, 1) := by decide +kernel
theorem dL_law_809 : decode cL_law 809 = .ok (.ireturn, 1) := by decide +kernel
theorem dL_law_810 : decode cL_law 810 = .ok (.aload_n 1, 1) := by decide +kernel
theorem dL_law_811 : decode cL_law 811 = .ok (.aload_n 0, 1) := by decide +kernel
theorem dL_law_812 : decode cL_law 812 = .ok (.iload 4, 2) := by decide +kernel
theorem dL_law_814 : decode cL_law 814 = .ok (.iconst 1, 1) := by decide +kernel
theorem dL_law_815 : decode cL_law 815 = .ok (.iadd, 1) := by decide +kernel
theorem dL_law_816 : decode cL_law 816 = .ok (.iaload, 1) := by decide +kernel
theorem dL_law_817 : decode cL_law 817 = .ok (.aload_n 0, 1) := by decide +kernel
theorem dL_law_818 : decode cL_law 818 = .ok (.iload 4, 2) := by decide +kernel
theorem dL_law_820 : decode cL_law 820 = .ok (.iconst 2, 1) := by decide +kernel
theorem dL_law_821 : decode cL_law 821 = .ok (.iadd, 1) := by decide +kernel
theorem dL_law_822 : decode cL_law 822 = .ok (.iaload, 1) := by decide +kernel
theorem dL_law_823 : decode cL_law 823 = .ok (.aload_n 0, 1) := by decide +kernel
theorem dL_law_824 : decode cL_law 824 = .ok (.iload 4, 2) := by decide +kernel
theorem dL_law_826 : decode cL_law 826 = .ok (.iconst 3, 1) := by decide +kernel
theorem dL_law_827 : decode cL_law 827 = .ok (.iadd, 1) := by decide +kernel
theorem dL_law_828 : decode cL_law 828 = .ok (.iaload, 1) := by decide +kernel
theorem dL_law_829 : decode cL_law 829 = .ok (.aload_n 0, 1) := by decide +kernel
theorem dL_law_830 : decode cL_law 830 = .ok (.iload 4, 2) := by decide +kernel
theorem dL_law_832 : decode cL_law 832 = .ok (.iconst 4, 1) := by decide +kernel
theorem dL_law_833 : decode cL_law 833 = .ok (.iadd, 1) := by decide +kernel
theorem dL_law_834 : decode cL_law 834 = .ok (.iaload, 1) := by decide +kernel
theorem dL_law_835 : decode cL_law 835 = .ok (.invokevirtual 79, 3) := by decide +kernel
theorem dL_law_838 : decode cL_law 838 = .ok (.aload_n 2, 1) := by decide +kernel
theorem dL_law_839 : decode cL_law 839 = .ok (.aload_n 0, 1) := by decide +kernel
theorem dL_law_840 : decode cL_law 840 = .ok (.iload 4, 2) := by decide +kernel
theorem dL_law_842 : decode cL_law 842 = .ok (.iconst 1, 1) := by decide +kernel
theorem dL_law_843 : decode cL_law 843 = .ok (.iadd, 1) := by decide +kernel
theorem dL_law_844 : decode cL_law 844 = .ok (.iaload, 1) := by decide +kernel
theorem dL_law_845 : decode cL_law 845 = .ok (.aload_n 0, 1) := by decide +kernel
theorem dL_law_846 : decode cL_law 846 = .ok (.iload 4, 2) := by decide +kernel
theorem dL_law_848 : decode cL_law 848 = .ok (.iconst 2, 1) := by decide +kernel
theorem dL_law_849 : decode cL_law 849 = .ok (.iadd, 1) := by decide +kernel
theorem dL_law_850 : decode cL_law 850 = .ok (.iaload, 1) := by decide +kernel
theorem dL_law_851 : decode cL_law 851 = .ok (.aload_n 0, 1) := by decide +kernel
theorem dL_law_852 : decode cL_law 852 = .ok (.iload 4, 2) := by decide +kernel
theorem dL_law_854 : decode cL_law 854 = .ok (.iconst 3, 1) := by decide +kernel
theorem dL_law_855 : decode cL_law 855 = .ok (.iadd, 1) := by decide +kernel
theorem dL_law_856 : decode cL_law 856 = .ok (.iaload, 1) := by decide +kernel
theorem dL_law_857 : decode cL_law 857 = .ok (.aload_n 0, 1) := by decide +kernel
theorem dL_law_858 : decode cL_law 858 = .ok (.iload 4, 2) := by decide +kernel
theorem dL_law_860 : decode cL_law 860 = .ok (.iconst 4, 1) := by decide +kernel
theorem dL_law_861 : decode cL_law 861 = .ok (.iadd, 1) := by decide +kernel
theorem dL_law_862 : decode cL_law 862 = .ok (.iaload, 1) := by decide +kernel
theorem dL_law_863 : decode cL_law 863 = .ok (.invokevirtual 83, 3) := by decide +kernel
theorem dL_law_866 : decode cL_law 866 = .ok (.lcmp, 1) := by decide +kernel
theorem dL_law_867 : decode cL_law 867 = .ok (.ifCond .eq 1139, 3) := by decide +kernel
theorem dL_law_870 : decode cL_law 870 = .ok (.iconst 0, 1) := by decide +kernel
theorem dL_law_871 : decode cL_law 871 = .ok (.ireturn, 1) := by decide +kernel
theorem dL_law_872 : decode cL_law 872 = .ok (.aload_n 1, 1) := by decide +kernel
theorem dL_law_873 : decode cL_law 873 = .ok (.aload_n 0, 1) := by decide +kernel
theorem dL_law_874 : decode cL_law 874 = .ok (.iload 4, 2) := by decide +kernel
theorem dL_law_876 : decode cL_law 876 = .ok (.iconst 1, 1) := by decide +kernel
theorem dL_law_877 : decode cL_law 877 = .ok (.iadd, 1) := by decide +kernel
theorem dL_law_878 : decode cL_law 878 = .ok (.iaload, 1) := by decide +kernel
theorem dL_law_879 : decode cL_law 879 = .ok (.aload_n 0, 1) := by decide +kernel
theorem dL_law_880 : decode cL_law 880 = .ok (.iload 4, 2) := by decide +kernel
theorem dL_law_882 : decode cL_law 882 = .ok (.iconst 2, 1) := by decide +kernel
theorem dL_law_883 : decode cL_law 883 = .ok (.iadd, 1) := by decide +kernel
theorem dL_law_884 : decode cL_law 884 = .ok (.iaload, 1) := by decide +kernel
theorem dL_law_885 : decode cL_law 885 = .ok (.aload_n 0, 1) := by decide +kernel
theorem dL_law_886 : decode cL_law 886 = .ok (.iload 4, 2) := by decide +kernel
theorem dL_law_888 : decode cL_law 888 = .ok (.iconst 3, 1) := by decide +kernel
theorem dL_law_889 : decode cL_law 889 = .ok (.iadd, 1) := by decide +kernel
theorem dL_law_890 : decode cL_law 890 = .ok (.iaload, 1) := by decide +kernel
theorem dL_law_891 : decode cL_law 891 = .ok (.invokevirtual 84, 3) := by decide +kernel
theorem dL_law_894 : decode cL_law 894 = .ok (.aload_n 2, 1) := by decide +kernel
theorem dL_law_895 : decode cL_law 895 = .ok (.aload_n 0, 1) := by decide +kernel
theorem dL_law_896 : decode cL_law 896 = .ok (.iload 4, 2) := by decide +kernel
theorem dL_law_898 : decode cL_law 898 = .ok (.iconst 1, 1) := by decide +kernel
theorem dL_law_899 : decode cL_law 899 = .ok (.iadd, 1) := by decide +kernel
theorem dL_law_900 : decode cL_law 900 = .ok (.iaload, 1) := by decide +kernel
theorem dL_law_901 : decode cL_law 901 = .ok (.aload_n 0, 1) := by decide +kernel
theorem dL_law_902 : decode cL_law 902 = .ok (.iload 4, 2) := by decide +kernel
theorem dL_law_904 : decode cL_law 904 = .ok (.iconst 2, 1) := by decide +kernel
theorem dL_law_905 : decode cL_law 905 = .ok (.iadd, 1) := by decide +kernel
theorem dL_law_906 : decode cL_law 906 = .ok (.iaload, 1) := by decide +kernel
theorem dL_law_907 : decode cL_law 907 = .ok (.aload_n 0, 1) := by decide +kernel
theorem dL_law_908 : decode cL_law 908 = .ok (.iload 4, 2) := by decide +kernel
theorem dL_law_910 : decode cL_law 910 = .ok (.iconst 3, 1) := by decide +kernel
theorem dL_law_911 : decode cL_law 911 = .ok (.iadd, 1) := by decide +kernel
theorem dL_law_912 : decode cL_law 912 = .ok (.iaload, 1) := by decide +kernel
theorem dL_law_913 : decode cL_law 913 = .ok (.invokevirtual 87, 3) := by decide +kernel
theorem dL_law_916 : decode cL_law 916 = .ok (.if_icmp .eq 1090, 3) := by decide +kernel
theorem dL_law_919 : decode cL_law 919 = .ok (.iconst 0, 1) := by decide +kernel
theorem dL_law_920 : decode cL_law 920 = .ok (.ireturn, 1) := by decide +kernel
theorem dL_law_921 : decode cL_law 921 = .ok (.aload_n 1, 1) := by decide +kernel
theorem dL_law_922 : decode cL_law 922 = .ok (.aload_n 0, 1) := by decide +kernel
theorem dL_law_923 : decode cL_law 923 = .ok (.iload 4, 2) := by decide +kernel
theorem dL_law_925 : decode cL_law 925 = .ok (.iconst 1, 1) := by decide +kernel
theorem dL_law_926 : decode cL_law 926 = .ok (.iadd, 1) := by decide +kernel
theorem dL_law_927 : decode cL_law 927 = .ok (.iaload, 1) := by decide +kernel
theorem dL_law_928 : decode cL_law 928 = .ok (.aload_n 0, 1) := by decide +kernel
theorem dL_law_929 : decode cL_law 929 = .ok (.iload 4, 2) := by decide +kernel
theorem dL_law_931 : decode cL_law 931 = .ok (.iconst 2, 1) := by decide +kernel
theorem dL_law_932 : decode cL_law 932 = .ok (.iadd, 1) := by decide +kernel
theorem dL_law_933 : decode cL_law 933 = .ok (.iaload, 1) := by decide +kernel
theorem dL_law_934 : decode cL_law 934 = .ok (.aload_n 0, 1) := by decide +kernel
theorem dL_law_935 : decode cL_law 935 = .ok (.iload 4, 2) := by decide +kernel
theorem dL_law_937 : decode cL_law 937 = .ok (.iconst 3, 1) := by decide +kernel
theorem dL_law_938 : decode cL_law 938 = .ok (.iadd, 1) := by decide +kernel
theorem dL_law_939 : decode cL_law 939 = .ok (.iaload, 1) := by decide +kernel
theorem dL_law_940 : decode cL_law 940 = .ok (.aload_n 0, 1) := by decide +kernel
theorem dL_law_941 : decode cL_law 941 = .ok (.iload 4, 2) := by decide +kernel
theorem dL_law_943 : decode cL_law 943 = .ok (.iconst 4, 1) := by decide +kernel
theorem dL_law_944 : decode cL_law 944 = .ok (.iadd, 1) := by decide +kernel
theorem dL_law_945 : decode cL_law 945 = .ok (.iaload, 1) := by decide +kernel
theorem dL_law_946 : decode cL_law 946 = .ok (.invokevirtual 88, 3) := by decide +kernel
theorem dL_law_949 : decode cL_law 949 = .ok (.aload_n 2, 1) := by decide +kernel
theorem dL_law_950 : decode cL_law 950 = .ok (.aload_n 0, 1) := by decide +kernel
theorem dL_law_951 : decode cL_law 951 = .ok (.iload 4, 2) := by decide +kernel
theorem dL_law_953 : decode cL_law 953 = .ok (.iconst 1, 1) := by decide +kernel
theorem dL_law_954 : decode cL_law 954 = .ok (.iadd, 1) := by decide +kernel
theorem dL_law_955 : decode cL_law 955 = .ok (.iaload, 1) := by decide +kernel
theorem dL_law_956 : decode cL_law 956 = .ok (.aload_n 0, 1) := by decide +kernel
theorem dL_law_957 : decode cL_law 957 = .ok (.iload 4, 2) := by decide +kernel
theorem dL_law_959 : decode cL_law 959 = .ok (.iconst 2, 1) := by decide +kernel
theorem dL_law_960 : decode cL_law 960 = .ok (.iadd, 1) := by decide +kernel
theorem dL_law_961 : decode cL_law 961 = .ok (.iaload, 1) := by decide +kernel
theorem dL_law_962 : decode cL_law 962 = .ok (.aload_n 0, 1) := by decide +kernel
theorem dL_law_963 : decode cL_law 963 = .ok (.iload 4, 2) := by decide +kernel
theorem dL_law_965 : decode cL_law 965 = .ok (.iconst 3, 1) := by decide +kernel
theorem dL_law_966 : decode cL_law 966 = .ok (.iadd, 1) := by decide +kernel
theorem dL_law_967 : decode cL_law 967 = .ok (.iaload, 1) := by decide +kernel
theorem dL_law_968 : decode cL_law 968 = .ok (.aload_n 0, 1) := by decide +kernel
theorem dL_law_969 : decode cL_law 969 = .ok (.iload 4, 2) := by decide +kernel
theorem dL_law_971 : decode cL_law 971 = .ok (.iconst 4, 1) := by decide +kernel
theorem dL_law_972 : decode cL_law 972 = .ok (.iadd, 1) := by decide +kernel
theorem dL_law_973 : decode cL_law 973 = .ok (.iaload, 1) := by decide +kernel
theorem dL_law_974 : decode cL_law 974 = .ok (.invokevirtual 91, 3) := by decide +kernel
theorem dL_law_977 : decode cL_law 977 = .ok (.if_icmp .eq 1029, 3) := by decide +kernel
theorem dL_law_980 : decode cL_law 980 = .ok (.iconst 0, 1) := by decide +kernel
theorem dL_law_981 : decode cL_law 981 = .ok (.ireturn, 1) := by decide +kernel
theorem dL_law_982 : decode cL_law 982 = .ok (.aload_n 1, 1) := by decide +kernel
theorem dL_law_983 : decode cL_law 983 = .ok (.aload_n 0, 1) := by decide +kernel
theorem dL_law_984 : decode cL_law 984 = .ok (.iload 4, 2) := by decide +kernel
theorem dL_law_986 : decode cL_law 986 = .ok (.iconst 1, 1) := by decide +kernel
theorem dL_law_987 : decode cL_law 987 = .ok (.iadd, 1) := by decide +kernel
theorem dL_law_988 : decode cL_law 988 = .ok (.iaload, 1) := by decide +kernel
theorem dL_law_989 : decode cL_law 989 = .ok (.aload_n 0, 1) := by decide +kernel
theorem dL_law_990 : decode cL_law 990 = .ok (.iload 4, 2) := by decide +kernel
theorem dL_law_992 : decode cL_law 992 = .ok (.iconst 2, 1) := by decide +kernel
theorem dL_law_993 : decode cL_law 993 = .ok (.iadd, 1) := by decide +kernel
theorem dL_law_994 : decode cL_law 994 = .ok (.iaload, 1) := by decide +kernel
theorem dL_law_995 : decode cL_law 995 = .ok (.invokevirtual 92, 3) := by decide +kernel
theorem dL_law_998 : decode cL_law 998 = .ok (.aload_n 2, 1) := by decide +kernel
theorem dL_law_999 : decode cL_law 999 = .ok (.aload_n 0, 1) := by decide +kernel
theorem dL_law_1000 : decode cL_law 1000 = .ok (.iload 4, 2) := by decide +kernel
theorem dL_law_1002 : decode cL_law 1002 = .ok (.iconst 1, 1) := by decide +kernel
theorem dL_law_1003 : decode cL_law 1003 = .ok (.iadd, 1) := by decide +kernel
theorem dL_law_1004 : decode cL_law 1004 = .ok (.iaload, 1) := by decide +kernel
theorem dL_law_1005 : decode cL_law 1005 = .ok (.aload_n 0, 1) := by decide +kernel
theorem dL_law_1006 : decode cL_law 1006 = .ok (.iload 4, 2) := by decide +kernel
theorem dL_law_1008 : decode cL_law 1008 = .ok (.iconst 2, 1) := by decide +kernel
theorem dL_law_1009 : decode cL_law 1009 = .ok (.iadd, 1) := by decide +kernel
theorem dL_law_1010 : decode cL_law 1010 = .ok (.iaload, 1) := by decide +kernel
theorem dL_law_1011 : decode cL_law 1011 = .ok (.invokevirtual 95, 3) := by decide +kernel
theorem dL_law_1014 : decode cL_law 1014 = .ok (.if_icmp .eq 992, 3) := by decide +kernel
theorem dL_law_1017 : decode cL_law 1017 = .ok (.iconst 0, 1) := by decide +kernel
theorem dL_law_1018 : decode cL_law 1018 = .ok (.ireturn, 1) := by decide +kernel
theorem dL_law_1019 : decode cL_law 1019 = .ok (.aload_n 1, 1) := by decide +kernel
theorem dL_law_1020 : decode cL_law 1020 = .ok (.aload_n 0, 1) := by decide +kernel
theorem dL_law_1021 : decode cL_law 1021 = .ok (.iload 4, 2) := by decide +kernel
theorem dL_law_1023 : decode cL_law 1023 = .ok (.iconst 1, 1) := by decide +kernel
theorem dL_law_1024 : decode cL_law 1024 = .ok (.iadd, 1) := by decide +kernel
theorem dL_law_1025 : decode cL_law 1025 = .ok (.iaload, 1) := by decide +kernel
theorem dL_law_1026 : decode cL_law 1026 = .ok (.aload_n 0, 1) := by decide +kernel
theorem dL_law_1027 : decode cL_law 1027 = .ok (.iload 4, 2) := by decide +kernel
theorem dL_law_1029 : decode cL_law 1029 = .ok (.iconst 2, 1) := by decide +kernel
theorem dL_law_1030 : decode cL_law 1030 = .ok (.iadd, 1) := by decide +kernel
theorem dL_law_1031 : decode cL_law 1031 = .ok (.iaload, 1) := by decide +kernel
theorem dL_law_1032 : decode cL_law 1032 = .ok (.aload_n 0, 1) := by decide +kernel
theorem dL_law_1033 : decode cL_law 1033 = .ok (.iload 4, 2) := by decide +kernel
theorem dL_law_1035 : decode cL_law 1035 = .ok (.iconst 3, 1) := by decide +kernel
theorem dL_law_1036 : decode cL_law 1036 = .ok (.iadd, 1) := by decide +kernel
theorem dL_law_1037 : decode cL_law 1037 = .ok (.iaload, 1) := by decide +kernel
theorem dL_law_1038 : decode cL_law 1038 = .ok (.aload_n 0, 1) := by decide +kernel
theorem dL_law_1039 : decode cL_law 1039 = .ok (.iload 4, 2) := by decide +kernel
theorem dL_law_1041 : decode cL_law 1041 = .ok (.iconst 4, 1) := by decide +kernel
theorem dL_law_1042 : decode cL_law 1042 = .ok (.iadd, 1) := by decide +kernel
theorem dL_law_1043 : decode cL_law 1043 = .ok (.iaload, 1) := by decide +kernel
theorem dL_law_1044 : decode cL_law 1044 = .ok (.aload_n 0, 1) := by decide +kernel
theorem dL_law_1045 : decode cL_law 1045 = .ok (.iload 4, 2) := by decide +kernel
theorem dL_law_1047 : decode cL_law 1047 = .ok (.iconst 5, 1) := by decide +kernel
theorem dL_law_1048 : decode cL_law 1048 = .ok (.iadd, 1) := by decide +kernel
theorem dL_law_1049 : decode cL_law 1049 = .ok (.iaload, 1) := by decide +kernel
theorem dL_law_1050 : decode cL_law 1050 = .ok (.invokevirtual 96, 3) := by decide +kernel
theorem dL_law_1053 : decode cL_law 1053 = .ok (.aload_n 2, 1) := by decide +kernel
theorem dL_law_1054 : decode cL_law 1054 = .ok (.aload_n 0, 1) := by decide +kernel
theorem dL_law_1055 : decode cL_law 1055 = .ok (.iload 4, 2) := by decide +kernel
theorem dL_law_1057 : decode cL_law 1057 = .ok (.iconst 1, 1) := by decide +kernel
theorem dL_law_1058 : decode cL_law 1058 = .ok (.iadd, 1) := by decide +kernel
theorem dL_law_1059 : decode cL_law 1059 = .ok (.iaload, 1) := by decide +kernel
theorem dL_law_1060 : decode cL_law 1060 = .ok (.aload_n 0, 1) := by decide +kernel
theorem dL_law_1061 : decode cL_law 1061 = .ok (.iload 4, 2) := by decide +kernel
theorem dL_law_1063 : decode cL_law 1063 = .ok (.iconst 2, 1) := by decide +kernel
theorem dL_law_1064 : decode cL_law 1064 = .ok (.iadd, 1) := by decide +kernel
theorem dL_law_1065 : decode cL_law 1065 = .ok (.iaload, 1) := by decide +kernel
theorem dL_law_1066 : decode cL_law 1066 = .ok (.aload_n 0, 1) := by decide +kernel
theorem dL_law_1067 : decode cL_law 1067 = .ok (.iload 4, 2) := by decide +kernel
theorem dL_law_1069 : decode cL_law 1069 = .ok (.iconst 3, 1) := by decide +kernel
theorem dL_law_1070 : decode cL_law 1070 = .ok (.iadd, 1) := by decide +kernel
theorem dL_law_1071 : decode cL_law 1071 = .ok (.iaload, 1) := by decide +kernel
theorem dL_law_1072 : decode cL_law 1072 = .ok (.aload_n 0, 1) := by decide +kernel
theorem dL_law_1073 : decode cL_law 1073 = .ok (.iload 4, 2) := by decide +kernel
theorem dL_law_1075 : decode cL_law 1075 = .ok (.iconst 4, 1) := by decide +kernel
theorem dL_law_1076 : decode cL_law 1076 = .ok (.iadd, 1) := by decide +kernel
theorem dL_law_1077 : decode cL_law 1077 = .ok (.iaload, 1) := by decide +kernel
theorem dL_law_1078 : decode cL_law 1078 = .ok (.aload_n 0, 1) := by decide +kernel
theorem dL_law_1079 : decode cL_law 1079 = .ok (.iload 4, 2) := by decide +kernel
theorem dL_law_1081 : decode cL_law 1081 = .ok (.iconst 5, 1) := by decide +kernel
theorem dL_law_1082 : decode cL_law 1082 = .ok (.iadd, 1) := by decide +kernel
theorem dL_law_1083 : decode cL_law 1083 = .ok (.iaload, 1) := by decide +kernel
theorem dL_law_1084 : decode cL_law 1084 = .ok (.invokevirtual 100, 3) := by decide +kernel
theorem dL_law_1087 : decode cL_law 1087 = .ok (.if_icmp .eq 919, 3) := by decide +kernel
theorem dL_law_1090 : decode cL_law 1090 = .ok (.iconst 0, 1) := by decide +kernel
theorem dL_law_1091 : decode cL_law 1091 = .ok (.ireturn, 1) := by decide +kernel
theorem dL_law_1092 : decode cL_law 1092 = .ok (.aload_n 1, 1) := by decide +kernel
theorem dL_law_1093 : decode cL_law 1093 = .ok (.aload_n 0, 1) := by decide +kernel
theorem dL_law_1094 : decode cL_law 1094 = .ok (.iload 4, 2) := by decide +kernel
theorem dL_law_1096 : decode cL_law 1096 = .ok (.iconst 1, 1) := by decide +kernel
theorem dL_law_1097 : decode cL_law 1097 = .ok (.iadd, 1) := by decide +kernel
theorem dL_law_1098 : decode cL_law 1098 = .ok (.iaload, 1) := by decide +kernel
theorem dL_law_1099 : decode cL_law 1099 = .ok (.aload_n 0, 1) := by decide +kernel
theorem dL_law_1100 : decode cL_law 1100 = .ok (.iload 4, 2) := by decide +kernel
theorem dL_law_1102 : decode cL_law 1102 = .ok (.iconst 2, 1) := by decide +kernel
theorem dL_law_1103 : decode cL_law 1103 = .ok (.iadd, 1) := by decide +kernel
theorem dL_law_1104 : decode cL_law 1104 = .ok (.iaload, 1) := by decide +kernel
theorem dL_law_1105 : decode cL_law 1105 = .ok (.invokevirtual 101, 3) := by decide +kernel
theorem dL_law_1108 : decode cL_law 1108 = .ok (.aload_n 2, 1) := by decide +kernel
theorem dL_law_1109 : decode cL_law 1109 = .ok (.aload_n 0, 1) := by decide +kernel
theorem dL_law_1110 : decode cL_law 1110 = .ok (.iload 4, 2) := by decide +kernel
theorem dL_law_1112 : decode cL_law 1112 = .ok (.iconst 1, 1) := by decide +kernel
theorem dL_law_1113 : decode cL_law 1113 = .ok (.iadd, 1) := by decide +kernel
theorem dL_law_1114 : decode cL_law 1114 = .ok (.iaload, 1) := by decide +kernel
theorem dL_law_1115 : decode cL_law 1115 = .ok (.aload_n 0, 1) := by decide +kernel
theorem dL_law_1116 : decode cL_law 1116 = .ok (.iload 4, 2) := by decide +kernel
theorem dL_law_1118 : decode cL_law 1118 = .ok (.iconst 2, 1) := by decide +kernel
theorem dL_law_1119 : decode cL_law 1119 = .ok (.iadd, 1) := by decide +kernel
theorem dL_law_1120 : decode cL_law 1120 = .ok (.iaload, 1) := by decide +kernel
theorem dL_law_1121 : decode cL_law 1121 = .ok (.invokevirtual 104, 3) := by decide +kernel
theorem dL_law_1124 : decode cL_law 1124 = .ok (.if_icmp .eq 882, 3) := by decide +kernel
theorem dL_law_1127 : decode cL_law 1127 = .ok (.iconst 0, 1) := by decide +kernel
theorem dL_law_1128 : decode cL_law 1128 = .ok (.ireturn, 1) := by decide +kernel
theorem dL_law_1129 : decode cL_law 1129 = .ok (.aload_n 1, 1) := by decide +kernel
theorem dL_law_1130 : decode cL_law 1130 = .ok (.aload_n 0, 1) := by decide +kernel
theorem dL_law_1131 : decode cL_law 1131 = .ok (.iload 4, 2) := by decide +kernel
theorem dL_law_1133 : decode cL_law 1133 = .ok (.iconst 1, 1) := by decide +kernel
theorem dL_law_1134 : decode cL_law 1134 = .ok (.iadd, 1) := by decide +kernel
theorem dL_law_1135 : decode cL_law 1135 = .ok (.iaload, 1) := by decide +kernel
theorem dL_law_1136 : decode cL_law 1136 = .ok (.aload_n 0, 1) := by decide +kernel
theorem dL_law_1137 : decode cL_law 1137 = .ok (.iload 4, 2) := by decide +kernel
theorem dL_law_1139 : decode cL_law 1139 = .ok (.iconst 2, 1) := by decide +kernel
theorem dL_law_1140 : decode cL_law 1140 = .ok (.iadd, 1) := by decide +kernel
theorem dL_law_1141 : decode cL_law 1141 = .ok (.iaload, 1) := by decide +kernel
theorem dL_law_1142 : decode cL_law 1142 = .ok (.aload_n 0, 1) := by decide +kernel
theorem dL_law_1143 : decode cL_law 1143 = .ok (.iload 4, 2) := by decide +kernel
theorem dL_law_1145 : decode cL_law 1145 = .ok (.iconst 3, 1) := by decide +kernel
theorem dL_law_1146 : decode cL_law 1146 = .ok (.iadd, 1) := by decide +kernel
theorem dL_law_1147 : decode cL_law 1147 = .ok (.iaload, 1) := by decide +kernel
theorem dL_law_1148 : decode cL_law 1148 = .ok (.invokevirtual 105, 3) := by decide +kernel
theorem dL_law_1151 : decode cL_law 1151 = .ok (.aload_n 2, 1) := by decide +kernel
theorem dL_law_1152 : decode cL_law 1152 = .ok (.aload_n 0, 1) := by decide +kernel
theorem dL_law_1153 : decode cL_law 1153 = .ok (.iload 4, 2) := by decide +kernel
theorem dL_law_1155 : decode cL_law 1155 = .ok (.iconst 1, 1) := by decide +kernel
theorem dL_law_1156 : decode cL_law 1156 = .ok (.iadd, 1) := by decide +kernel
theorem dL_law_1157 : decode cL_law 1157 = .ok (.iaload, 1) := by decide +kernel
theorem dL_law_1158 : decode cL_law 1158 = .ok (.aload_n 0, 1) := by decide +kernel
theorem dL_law_1159 : decode cL_law 1159 = .ok (.iload 4, 2) := by decide +kernel
theorem dL_law_1161 : decode cL_law 1161 = .ok (.iconst 2, 1) := by decide +kernel
theorem dL_law_1162 : decode cL_law 1162 = .ok (.iadd, 1) := by decide +kernel
theorem dL_law_1163 : decode cL_law 1163 = .ok (.iaload, 1) := by decide +kernel
theorem dL_law_1164 : decode cL_law 1164 = .ok (.aload_n 0, 1) := by decide +kernel
theorem dL_law_1165 : decode cL_law 1165 = .ok (.iload 4, 2) := by decide +kernel
theorem dL_law_1167 : decode cL_law 1167 = .ok (.iconst 3, 1) := by decide +kernel
theorem dL_law_1168 : decode cL_law 1168 = .ok (.iadd, 1) := by decide +kernel
theorem dL_law_1169 : decode cL_law 1169 = .ok (.iaload, 1) := by decide +kernel
theorem dL_law_1170 : decode cL_law 1170 = .ok (.invokevirtual 108, 3) := by decide +kernel
theorem dL_law_1173 : decode cL_law 1173 = .ok (.if_icmp .eq 833, 3) := by decide +kernel
theorem dL_law_1176 : decode cL_law 1176 = .ok (.iconst 0, 1) := by decide +kernel
theorem dL_law_1177 : decode cL_law 1177 = .ok (.ireturn, 1) := by decide +kernel
theorem dL_law_1178 : decode cL_law 1178 = .ok (.aload_n 1, 1) := by decide +kernel
theorem dL_law_1179 : decode cL_law 1179 = .ok (.aload_n 0, 1) := by decide +kernel
theorem dL_law_1180 : decode cL_law 1180 = .ok (.iload 4, 2) := by decide +kernel
theorem dL_law_1182 : decode cL_law 1182 = .ok (.iconst 1, 1) := by decide +kernel
theorem dL_law_1183 : decode cL_law 1183 = .ok (.iadd, 1) := by decide +kernel
theorem dL_law_1184 : decode cL_law 1184 = .ok (.iaload, 1) := by decide +kernel
theorem dL_law_1185 : decode cL_law 1185 = .ok (.invokevirtual 109, 3) := by decide +kernel
theorem dL_law_1188 : decode cL_law 1188 = .ok (.aload_n 2, 1) := by decide +kernel
theorem dL_law_1189 : decode cL_law 1189 = .ok (.aload_n 0, 1) := by decide +kernel
theorem dL_law_1190 : decode cL_law 1190 = .ok (.iload 4, 2) := by decide +kernel
theorem dL_law_1192 : decode cL_law 1192 = .ok (.iconst 1, 1) := by decide +kernel
theorem dL_law_1193 : decode cL_law 1193 = .ok (.iadd, 1) := by decide +kernel
theorem dL_law_1194 : decode cL_law 1194 = .ok (.iaload, 1) := by decide +kernel
theorem dL_law_1195 : decode cL_law 1195 = .ok (.invokevirtual 112, 3) := by decide +kernel
theorem dL_law_1198 : decode cL_law 1198 = .ok (.if_icmp .eq 808, 3) := by decide +kernel
theorem dL_law_1201 : decode cL_law 1201 = .ok (.iconst 0, 1) := by decide +kernel
theorem dL_law_1202 : decode cL_law 1202 = .ok (.ireturn, 1) := by decide +kernel
theorem dL_law_1203 : decode cL_law 1203 = .ok (.aload_n 1, 1) := by decide +kernel
theorem dL_law_1204 : decode cL_law 1204 = .ok (.aload_n 0, 1) := by decide +kernel
theorem dL_law_1205 : decode cL_law 1205 = .ok (.iload 4, 2) := by decide +kernel
theorem dL_law_1207 : decode cL_law 1207 = .ok (.iconst 1, 1) := by decide +kernel
theorem dL_law_1208 : decode cL_law 1208 = .ok (.iadd, 1) := by decide +kernel
theorem dL_law_1209 : decode cL_law 1209 = .ok (.iaload, 1) := by decide +kernel
theorem dL_law_1210 : decode cL_law 1210 = .ok (.invokevirtual 113, 3) := by decide +kernel
theorem dL_law_1213 : decode cL_law 1213 = .ok (.aload_n 2, 1) := by decide +kernel
theorem dL_law_1214 : decode cL_law 1214 = .ok (.aload_n 0, 1) := by decide +kernel
theorem dL_law_1215 : decode cL_law 1215 = .ok (.iload 4, 2) := by decide +kernel
theorem dL_law_1217 : decode cL_law 1217 = .ok (.iconst 1, 1) := by decide +kernel
theorem dL_law_1218 : decode cL_law 1218 = .ok (.iadd, 1) := by decide +kernel
theorem dL_law_1219 : decode cL_law 1219 = .ok (.iaload, 1) := by decide +kernel
theorem dL_law_1220 : decode cL_law 1220 = .ok (.invokevirtual 116, 3) := by decide +kernel
theorem dL_law_1223 : decode cL_law 1223 = .ok (.if_icmp .eq 783, 3) := by decide +kernel
theorem dL_law_1226 : decode cL_law 1226 = .ok (.iconst 0, 1) := by decide +kernel
theorem dL_law_1227 : decode cL_law 1227 = .ok (.ireturn, 1) := by decide +kernel
theorem dL_law_1228 : decode cL_law 1228 = .ok (.aload_n 1, 1) := by decide +kernel
theorem dL_law_1229 : decode cL_law 1229 = .ok (.aload_n 0, 1) := by decide +kernel
theorem dL_law_1230 : decode cL_law 1230 = .ok (.iload 4, 2) := by decide +kernel
theorem dL_law_1232 : decode cL_law 1232 = .ok (.iconst 1, 1) := by decide +kernel
theorem dL_law_1233 : decode cL_law 1233 = .ok (.iadd, 1) := by decide +kernel
theorem dL_law_1234 : decode cL_law 1234 = .ok (.iaload, 1) := by decide +kernel
theorem dL_law_1235 : decode cL_law 1235 = .ok (.invokevirtual 117, 3) := by decide +kernel
theorem dL_law_1238 : decode cL_law 1238 = .ok (.aload_n 2, 1) := by decide +kernel
theorem dL_law_1239 : decode cL_law 1239 = .ok (.aload_n 0, 1) := by decide +kernel
theorem dL_law_1240 : decode cL_law 1240 = .ok (.iload 4, 2) := by decide +kernel
theorem dL_law_1242 : decode cL_law 1242 = .ok (.iconst 1, 1) := by decide +kernel
theorem dL_law_1243 : decode cL_law 1243 = .ok (.iadd, 1) := by decide +kernel
theorem dL_law_1244 : decode cL_law 1244 = .ok (.iaload, 1) := by decide +kernel
theorem dL_law_1245 : decode cL_law 1245 = .ok (.invokevirtual 120, 3) := by decide +kernel
theorem dL_law_1248 : decode cL_law 1248 = .ok (.if_icmp .eq 758, 3) := by decide +kernel
theorem dL_law_1251 : decode cL_law 1251 = .ok (.iconst 0, 1) := by decide +kernel
theorem dL_law_1252 : decode cL_law 1252 = .ok (.ireturn, 1) := by decide +kernel
theorem dL_law_1253 : decode cL_law 1253 = .ok (.aload_n 1, 1) := by decide +kernel
theorem dL_law_1254 : decode cL_law 1254 = .ok (.aload_n 0, 1) := by decide +kernel
theorem dL_law_1255 : decode cL_law 1255 = .ok (.iload 4, 2) := by decide +kernel
theorem dL_law_1257 : decode cL_law 1257 = .ok (.iconst 1, 1) := by decide +kernel
theorem dL_law_1258 : decode cL_law 1258 = .ok (.iadd, 1) := by decide +kernel
theorem dL_law_1259 : decode cL_law 1259 = .ok (.iaload, 1) := by decide +kernel
theorem dL_law_1260 : decode cL_law 1260 = .ok (.invokevirtual 121, 3) := by decide +kernel
theorem dL_law_1263 : decode cL_law 1263 = .ok (.aload_n 2, 1) := by decide +kernel
theorem dL_law_1264 : decode cL_law 1264 = .ok (.aload_n 0, 1) := by decide +kernel
theorem dL_law_1265 : decode cL_law 1265 = .ok (.iload 4, 2) := by decide +kernel
theorem dL_law_1267 : decode cL_law 1267 = .ok (.iconst 1, 1) := by decide +kernel
theorem dL_law_1268 : decode cL_law 1268 = .ok (.iadd, 1) := by decide +kernel
theorem dL_law_1269 : decode cL_law 1269 = .ok (.iaload, 1) := by decide +kernel
theorem dL_law_1270 : decode cL_law 1270 = .ok (.invokevirtual 124, 3) := by decide +kernel
theorem dL_law_1273 : decode cL_law 1273 = .ok (.if_icmp .eq 733, 3) := by decide +kernel
theorem dL_law_1276 : decode cL_law 1276 = .ok (.iconst 0, 1) := by decide +kernel
theorem dL_law_1277 : decode cL_law 1277 = .ok (.ireturn, 1) := by decide +kernel
theorem dL_law_1278 : decode cL_law 1278 = .ok (.aload_n 1, 1) := by decide +kernel
theorem dL_law_1279 : decode cL_law 1279 = .ok (.aload_n 0, 1) := by decide +kernel
theorem dL_law_1280 : decode cL_law 1280 = .ok (.iload 4, 2) := by decide +kernel
theorem dL_law_1282 : decode cL_law 1282 = .ok (.iconst 1, 1) := by decide +kernel
theorem dL_law_1283 : decode cL_law 1283 = .ok (.iadd, 1) := by decide +kernel
theorem dL_law_1284 : decode cL_law 1284 = .ok (.iaload, 1) := by decide +kernel
theorem dL_law_1285 : decode cL_law 1285 = .ok (.invokevirtual 125, 3) := by decide +kernel
theorem dL_law_1288 : decode cL_law 1288 = .ok (.aload_n 2, 1) := by decide +kernel
theorem dL_law_1289 : decode cL_law 1289 = .ok (.aload_n 0, 1) := by decide +kernel
theorem dL_law_1290 : decode cL_law 1290 = .ok (.iload 4, 2) := by decide +kernel
theorem dL_law_1292 : decode cL_law 1292 = .ok (.iconst 1, 1) := by decide +kernel
theorem dL_law_1293 : decode cL_law 1293 = .ok (.iadd, 1) := by decide +kernel
theorem dL_law_1294 : decode cL_law 1294 = .ok (.iaload, 1) := by decide +kernel
theorem dL_law_1295 : decode cL_law 1295 = .ok (.invokevirtual 129, 3) := by decide +kernel
theorem dL_law_1298 : decode cL_law 1298 = .ok (.lcmp, 1) := by decide +kernel
theorem dL_law_1299 : decode cL_law 1299 = .ok (.ifCond .eq 707, 3) := by decide +kernel
theorem dL_law_1302 : decode cL_law 1302 = .ok (.iconst 0, 1) := by decide +kernel
theorem dL_law_1303 : decode cL_law 1303 = .ok (.ireturn, 1) := by decide +kernel
theorem dL_law_1304 : decode cL_law 1304 = .ok (.aload_n 1, 1) := by decide +kernel
theorem dL_law_1305 : decode cL_law 1305 = .ok (.aload_n 0, 1) := by decide +kernel
theorem dL_law_1306 : decode cL_law 1306 = .ok (.iload 4, 2) := by decide +kernel
theorem dL_law_1308 : decode cL_law 1308 = .ok (.iconst 1, 1) := by decide +kernel
theorem dL_law_1309 : decode cL_law 1309 = .ok (.iadd, 1) := by decide +kernel
theorem dL_law_1310 : decode cL_law 1310 = .ok (.iaload, 1) := by decide +kernel
theorem dL_law_1311 : decode cL_law 1311 = .ok (.invokevirtual 130, 3) := by decide +kernel
theorem dL_law_1314 : decode cL_law 1314 = .ok (.aload_n 2, 1) := by decide +kernel
theorem dL_law_1315 : decode cL_law 1315 = .ok (.aload_n 0, 1) := by decide +kernel
theorem dL_law_1316 : decode cL_law 1316 = .ok (.iload 4, 2) := by decide +kernel
theorem dL_law_1318 : decode cL_law 1318 = .ok (.iconst 1, 1) := by decide +kernel
theorem dL_law_1319 : decode cL_law 1319 = .ok (.iadd, 1) := by decide +kernel
theorem dL_law_1320 : decode cL_law 1320 = .ok (.iaload, 1) := by decide +kernel
theorem dL_law_1321 : decode cL_law 1321 = .ok (.invokevirtual 133, 3) := by decide +kernel
theorem dL_law_1324 : decode cL_law 1324 = .ok (.if_icmp .eq 682, 3) := by decide +kernel
theorem dL_law_1327 : decode cL_law 1327 = .ok (.iconst 0, 1) := by decide +kernel
theorem dL_law_1328 : decode cL_law 1328 = .ok (.ireturn, 1) := by decide +kernel
theorem dL_law_1329 : decode cL_law 1329 = .ok (.aload_n 1, 1) := by decide +kernel
theorem dL_law_1330 : decode cL_law 1330 = .ok (.aload_n 0, 1) := by decide +kernel
theorem dL_law_1331 : decode cL_law 1331 = .ok (.iload 4, 2) := by decide +kernel
theorem dL_law_1333 : decode cL_law 1333 = .ok (.iconst 1, 1) := by decide +kernel
theorem dL_law_1334 : decode cL_law 1334 = .ok (.iadd, 1) := by decide +kernel
theorem dL_law_1335 : decode cL_law 1335 = .ok (.iaload, 1) := by decide +kernel
theorem dL_law_1336 : decode cL_law 1336 = .ok (.invokevirtual 134, 3) := by decide +kernel
theorem dL_law_1339 : decode cL_law 1339 = .ok (.aload_n 2, 1) := by decide +kernel
theorem dL_law_1340 : decode cL_law 1340 = .ok (.aload_n 0, 1) := by decide +kernel
theorem dL_law_1341 : decode cL_law 1341 = .ok (.iload 4, 2) := by decide +kernel
theorem dL_law_1343 : decode cL_law 1343 = .ok (.iconst 1, 1) := by decide +kernel
theorem dL_law_1344 : decode cL_law 1344 = .ok (.iadd, 1) := by decide +kernel
theorem dL_law_1345 : decode cL_law 1345 = .ok (.iaload, 1) := by decide +kernel
theorem dL_law_1346 : decode cL_law 1346 = .ok (.invokevirtual 137, 3) := by decide +kernel
theorem dL_law_1349 : decode cL_law 1349 = .ok (.if_icmp .eq 657, 3) := by decide +kernel
theorem dL_law_1352 : decode cL_law 1352 = .ok (.iconst 0, 1) := by decide +kernel
theorem dL_law_1353 : decode cL_law 1353 = .ok (.ireturn, 1) := by decide +kernel
theorem dL_law_1354 : decode cL_law 1354 = .ok (.aload_n 1, 1) := by decide +kernel
theorem dL_law_1355 : decode cL_law 1355 = .ok (.aload_n 0, 1) := by decide +kernel
theorem dL_law_1356 : decode cL_law 1356 = .ok (.iload 4, 2) := by decide +kernel
theorem dL_law_1358 : decode cL_law 1358 = .ok (.iconst 1, 1) := by decide +kernel
theorem dL_law_1359 : decode cL_law 1359 = .ok (.iadd, 1) := by decide +kernel
theorem dL_law_1360 : decode cL_law 1360 = .ok (.iaload, 1) := by decide +kernel
theorem dL_law_1361 : decode cL_law 1361 = .ok (.aload_n 0, 1) := by decide +kernel
theorem dL_law_1362 : decode cL_law 1362 = .ok (.iload 4, 2) := by decide +kernel
theorem dL_law_1364 : decode cL_law 1364 = .ok (.iconst 2, 1) := by decide +kernel
theorem dL_law_1365 : decode cL_law 1365 = .ok (.iadd, 1) := by decide +kernel
theorem dL_law_1366 : decode cL_law 1366 = .ok (.iaload, 1) := by decide +kernel
theorem dL_law_1367 : decode cL_law 1367 = .ok (.aload_n 0, 1) := by decide +kernel
theorem dL_law_1368 : decode cL_law 1368 = .ok (.iload 4, 2) := by decide +kernel
theorem dL_law_1370 : decode cL_law 1370 = .ok (.iconst 3, 1) := by decide +kernel
theorem dL_law_1371 : decode cL_law 1371 = .ok (.iadd, 1) := by decide +kernel
theorem dL_law_1372 : decode cL_law 1372 = .ok (.iaload, 1) := by decide +kernel
theorem dL_law_1373 : decode cL_law 1373 = .ok (.invokevirtual 138, 3) := by decide +kernel
theorem dL_law_1376 : decode cL_law 1376 = .ok (.aload_n 2, 1) := by decide +kernel
theorem dL_law_1377 : decode cL_law 1377 = .ok (.aload_n 0, 1) := by decide +kernel
theorem dL_law_1378 : decode cL_law 1378 = .ok (.iload 4, 2) := by decide +kernel
theorem dL_law_1380 : decode cL_law 1380 = .ok (.iconst 1, 1) := by decide +kernel
theorem dL_law_1381 : decode cL_law 1381 = .ok (.iadd, 1) := by decide +kernel
theorem dL_law_1382 : decode cL_law 1382 = .ok (.iaload, 1) := by decide +kernel
theorem dL_law_1383 : decode cL_law 1383 = .ok (.aload_n 0, 1) := by decide +kernel
theorem dL_law_1384 : decode cL_law 1384 = .ok (.iload 4, 2) := by decide +kernel
theorem dL_law_1386 : decode cL_law 1386 = .ok (.iconst 2, 1) := by decide +kernel
theorem dL_law_1387 : decode cL_law 1387 = .ok (.iadd, 1) := by decide +kernel
theorem dL_law_1388 : decode cL_law 1388 = .ok (.iaload, 1) := by decide +kernel
theorem dL_law_1389 : decode cL_law 1389 = .ok (.aload_n 0, 1) := by decide +kernel
theorem dL_law_1390 : decode cL_law 1390 = .ok (.iload 4, 2) := by decide +kernel
theorem dL_law_1392 : decode cL_law 1392 = .ok (.iconst 3, 1) := by decide +kernel
theorem dL_law_1393 : decode cL_law 1393 = .ok (.iadd, 1) := by decide +kernel
theorem dL_law_1394 : decode cL_law 1394 = .ok (.iaload, 1) := by decide +kernel
theorem dL_law_1395 : decode cL_law 1395 = .ok (.invokevirtual 141, 3) := by decide +kernel
theorem dL_law_1398 : decode cL_law 1398 = .ok (.if_icmp .eq 608, 3) := by decide +kernel
theorem dL_law_1401 : decode cL_law 1401 = .ok (.iconst 0, 1) := by decide +kernel
theorem dL_law_1402 : decode cL_law 1402 = .ok (.ireturn, 1) := by decide +kernel
theorem dL_law_1403 : decode cL_law 1403 = .ok (.aload_n 1, 1) := by decide +kernel
theorem dL_law_1404 : decode cL_law 1404 = .ok (.aload_n 0, 1) := by decide +kernel
theorem dL_law_1405 : decode cL_law 1405 = .ok (.iload 4, 2) := by decide +kernel
theorem dL_law_1407 : decode cL_law 1407 = .ok (.iconst 1, 1) := by decide +kernel
theorem dL_law_1408 : decode cL_law 1408 = .ok (.iadd, 1) := by decide +kernel
theorem dL_law_1409 : decode cL_law 1409 = .ok (.iaload, 1) := by decide +kernel
theorem dL_law_1410 : decode cL_law 1410 = .ok (.invokevirtual 142, 3) := by decide +kernel
theorem dL_law_1413 : decode cL_law 1413 = .ok (.aload_n 2, 1) := by decide +kernel
theorem dL_law_1414 : decode cL_law 1414 = .ok (.aload_n 0, 1) := by decide +kernel
theorem dL_law_1415 : decode cL_law 1415 = .ok (.iload 4, 2) := by decide +kernel
theorem dL_law_1417 : decode cL_law 1417 = .ok (.iconst 1, 1) := by decide +kernel
theorem dL_law_1418 : decode cL_law 1418 = .ok (.iadd, 1) := by decide +kernel
theorem dL_law_1419 : decode cL_law 1419 = .ok (.iaload, 1) := by decide +kernel
theorem dL_law_1420 : decode cL_law 1420 = .ok (.invokevirtual 145, 3) := by decide +kernel
theorem dL_law_1423 : decode cL_law 1423 = .ok (.lcmp, 1) := by decide +kernel
theorem dL_law_1424 : decode cL_law 1424 = .ok (.ifCond .eq 582, 3) := by decide +kernel
theorem dL_law_1427 : decode cL_law 1427 = .ok (.iconst 0, 1) := by decide +kernel
theorem dL_law_1428 : decode cL_law 1428 = .ok (.ireturn, 1) := by decide +kernel
theorem dL_law_1429 : decode cL_law 1429 = .ok (.aload_n 1, 1) := by decide +kernel
theorem dL_law_1430 : decode cL_law 1430 = .ok (.aload_n 0, 1) := by decide +kernel
theorem dL_law_1431 : decode cL_law 1431 = .ok (.iload 4, 2) := by decide +kernel
theorem dL_law_1433 : decode cL_law 1433 = .ok (.iconst 1, 1) := by decide +kernel
theorem dL_law_1434 : decode cL_law 1434 = .ok (.iadd, 1) := by decide +kernel
theorem dL_law_1435 : decode cL_law 1435 = .ok (.iaload, 1) := by decide +kernel
theorem dL_law_1436 : decode cL_law 1436 = .ok (.invokevirtual 146, 3) := by decide +kernel
theorem dL_law_1439 : decode cL_law 1439 = .ok (.aload_n 2, 1) := by decide +kernel
theorem dL_law_1440 : decode cL_law 1440 = .ok (.aload_n 0, 1) := by decide +kernel
theorem dL_law_1441 : decode cL_law 1441 = .ok (.iload 4, 2) := by decide +kernel
theorem dL_law_1443 : decode cL_law 1443 = .ok (.iconst 1, 1) := by decide +kernel
theorem dL_law_1444 : decode cL_law 1444 = .ok (.iadd, 1) := by decide +kernel
theorem dL_law_1445 : decode cL_law 1445 = .ok (.iaload, 1) := by decide +kernel
theorem dL_law_1446 : decode cL_law 1446 = .ok (.invokevirtual 149, 3) := by decide +kernel
theorem dL_law_1449 : decode cL_law 1449 = .ok (.lcmp, 1) := by decide +kernel
theorem dL_law_1450 : decode cL_law 1450 = .ok (.ifCond .eq 556, 3) := by decide +kernel
theorem dL_law_1453 : decode cL_law 1453 = .ok (.iconst 0, 1) := by decide +kernel
theorem dL_law_1454 : decode cL_law 1454 = .ok (.ireturn, 1) := by decide +kernel
theorem dL_law_1455 : decode cL_law 1455 = .ok (.aload_n 1, 1) := by decide +kernel
theorem dL_law_1456 : decode cL_law 1456 = .ok (.aload_n 0, 1) := by decide +kernel
theorem dL_law_1457 : decode cL_law 1457 = .ok (.iload 4, 2) := by decide +kernel
theorem dL_law_1459 : decode cL_law 1459 = .ok (.iconst 1, 1) := by decide +kernel
theorem dL_law_1460 : decode cL_law 1460 = .ok (.iadd, 1) := by decide +kernel
theorem dL_law_1461 : decode cL_law 1461 = .ok (.iaload, 1) := by decide +kernel
theorem dL_law_1462 : decode cL_law 1462 = .ok (.aload_n 0, 1) := by decide +kernel
theorem dL_law_1463 : decode cL_law 1463 = .ok (.iload 4, 2) := by decide +kernel
theorem dL_law_1465 : decode cL_law 1465 = .ok (.iconst 2, 1) := by decide +kernel
theorem dL_law_1466 : decode cL_law 1466 = .ok (.iadd, 1) := by decide +kernel
theorem dL_law_1467 : decode cL_law 1467 = .ok (.iaload, 1) := by decide +kernel
theorem dL_law_1468 : decode cL_law 1468 = .ok (.aload_n 0, 1) := by decide +kernel
theorem dL_law_1469 : decode cL_law 1469 = .ok (.iload 4, 2) := by decide +kernel
theorem dL_law_1471 : decode cL_law 1471 = .ok (.iconst 3, 1) := by decide +kernel
theorem dL_law_1472 : decode cL_law 1472 = .ok (.iadd, 1) := by decide +kernel
theorem dL_law_1473 : decode cL_law 1473 = .ok (.iaload, 1) := by decide +kernel
theorem dL_law_1474 : decode cL_law 1474 = .ok (.aload_n 0, 1) := by decide +kernel
theorem dL_law_1475 : decode cL_law 1475 = .ok (.iload 4, 2) := by decide +kernel
theorem dL_law_1477 : decode cL_law 1477 = .ok (.iconst 4, 1) := by decide +kernel
theorem dL_law_1478 : decode cL_law 1478 = .ok (.iadd, 1) := by decide +kernel
theorem dL_law_1479 : decode cL_law 1479 = .ok (.iaload, 1) := by decide +kernel
theorem dL_law_1480 : decode cL_law 1480 = .ok (.aload_n 0, 1) := by decide +kernel
theorem dL_law_1481 : decode cL_law 1481 = .ok (.iload 4, 2) := by decide +kernel
theorem dL_law_1483 : decode cL_law 1483 = .ok (.iconst 5, 1) := by decide +kernel
theorem dL_law_1484 : decode cL_law 1484 = .ok (.iadd, 1) := by decide +kernel
theorem dL_law_1485 : decode cL_law 1485 = .ok (.iaload, 1) := by decide +kernel
theorem dL_law_1486 : decode cL_law 1486 = .ok (.ifCond .eq 7, 3) := by decide +kernel
theorem dL_law_1489 : decode cL_law 1489 = .ok (.iconst 1, 1) := by decide +kernel
theorem dL_law_1490 : decode cL_law 1490 = .ok (.goto 4, 3) := by decide +kernel
theorem dL_law_1493 : decode cL_law 1493 = .ok (.iconst 0, 1) := by decide +kernel
theorem dL_law_1494 : decode cL_law 1494 = .ok (.invokevirtual 150, 3) := by decide +kernel
theorem dL_law_1497 : decode cL_law 1497 = .ok (.aload_n 2, 1) := by decide +kernel
theorem dL_law_1498 : decode cL_law 1498 = .ok (.aload_n 0, 1) := by decide +kernel
theorem dL_law_1499 : decode cL_law 1499 = .ok (.iload 4, 2) := by decide +kernel
theorem dL_law_1501 : decode cL_law 1501 = .ok (.iconst 1, 1) := by decide +kernel
theorem dL_law_1502 : decode cL_law 1502 = .ok (.iadd, 1) := by decide +kernel
theorem dL_law_1503 : decode cL_law 1503 = .ok (.iaload, 1) := by decide +kernel
theorem dL_law_1504 : decode cL_law 1504 = .ok (.aload_n 0, 1) := by decide +kernel
theorem dL_law_1505 : decode cL_law 1505 = .ok (.iload 4, 2) := by decide +kernel
theorem dL_law_1507 : decode cL_law 1507 = .ok (.iconst 2, 1) := by decide +kernel
theorem dL_law_1508 : decode cL_law 1508 = .ok (.iadd, 1) := by decide +kernel
theorem dL_law_1509 : decode cL_law 1509 = .ok (.iaload, 1) := by decide +kernel
theorem dL_law_1510 : decode cL_law 1510 = .ok (.aload_n 0, 1) := by decide +kernel
theorem dL_law_1511 : decode cL_law 1511 = .ok (.iload 4, 2) := by decide +kernel
theorem dL_law_1513 : decode cL_law 1513 = .ok (.iconst 3, 1) := by decide +kernel
theorem dL_law_1514 : decode cL_law 1514 = .ok (.iadd, 1) := by decide +kernel
theorem dL_law_1515 : decode cL_law 1515 = .ok (.iaload, 1) := by decide +kernel
theorem dL_law_1516 : decode cL_law 1516 = .ok (.aload_n 0, 1) := by decide +kernel
theorem dL_law_1517 : decode cL_law 1517 = .ok (.iload 4, 2) := by decide +kernel
theorem dL_law_1519 : decode cL_law 1519 = .ok (.iconst 4, 1) := by decide +kernel
theorem dL_law_1520 : decode cL_law 1520 = .ok (.iadd, 1) := by decide +kernel
theorem dL_law_1521 : decode cL_law 1521 = .ok (.iaload, 1) := by decide +kernel
theorem dL_law_1522 : decode cL_law 1522 = .ok (.aload_n 0, 1) := by decide +kernel
theorem dL_law_1523 : decode cL_law 1523 = .ok (.iload 4, 2) := by decide +kernel
theorem dL_law_1525 : decode cL_law 1525 = .ok (.iconst 5, 1) := by decide +kernel
theorem dL_law_1526 : decode cL_law 1526 = .ok (.iadd, 1) := by decide +kernel
theorem dL_law_1527 : decode cL_law 1527 = .ok (.iaload, 1) := by decide +kernel
theorem dL_law_1528 : decode cL_law 1528 = .ok (.ifCond .eq 7, 3) := by decide +kernel
theorem dL_law_1531 : decode cL_law 1531 = .ok (.iconst 1, 1) := by decide +kernel
theorem dL_law_1532 : decode cL_law 1532 = .ok (.goto 4, 3) := by decide +kernel
theorem dL_law_1535 : decode cL_law 1535 = .ok (.iconst 0, 1) := by decide +kernel
theorem dL_law_1536 : decode cL_law 1536 = .ok (.invokevirtual 154, 3) := by decide +kernel
theorem dL_law_1539 : decode cL_law 1539 = .ok (.if_icmp .eq 467, 3) := by decide +kernel
theorem dL_law_1542 : decode cL_law 1542 = .ok (.iconst 0, 1) := by decide +kernel
theorem dL_law_1543 : decode cL_law 1543 = .ok (.ireturn, 1) := by decide +kernel
theorem dL_law_1544 : decode cL_law 1544 = .ok (.aload_n 1, 1) := by decide +kernel
theorem dL_law_1545 : decode cL_law 1545 = .ok (.aload_n 0, 1) := by decide +kernel
theorem dL_law_1546 : decode cL_law 1546 = .ok (.iload 4, 2) := by decide +kernel
theorem dL_law_1548 : decode cL_law 1548 = .ok (.iconst 1, 1) := by decide +kernel
theorem dL_law_1549 : decode cL_law 1549 = .ok (.iadd, 1) := by decide +kernel
theorem dL_law_1550 : decode cL_law 1550 = .ok (.iaload, 1) := by decide +kernel
theorem dL_law_1551 : decode cL_law 1551 = .ok (.aload_n 0, 1) := by decide +kernel
theorem dL_law_1552 : decode cL_law 1552 = .ok (.iload 4, 2) := by decide +kernel
theorem dL_law_1554 : decode cL_law 1554 = .ok (.iconst 2, 1) := by decide +kernel
theorem dL_law_1555 : decode cL_law 1555 = .ok (.iadd, 1) := by decide +kernel
theorem dL_law_1556 : decode cL_law 1556 = .ok (.iaload, 1) := by decide +kernel
theorem dL_law_1557 : decode cL_law 1557 = .ok (.aload_n 0, 1) := by decide +kernel
theorem dL_law_1558 : decode cL_law 1558 = .ok (.iload 4, 2) := by decide +kernel
theorem dL_law_1560 : decode cL_law 1560 = .ok (.iconst 3, 1) := by decide +kernel
theorem dL_law_1561 : decode cL_law 1561 = .ok (.iadd, 1) := by decide +kernel
theorem dL_law_1562 : decode cL_law 1562 = .ok (.iaload, 1) := by decide +kernel
theorem dL_law_1563 : decode cL_law 1563 = .ok (.aload_n 0, 1) := by decide +kernel
theorem dL_law_1564 : decode cL_law 1564 = .ok (.iload 4, 2) := by decide +kernel
theorem dL_law_1566 : decode cL_law 1566 = .ok (.iconst 4, 1) := by decide +kernel
theorem dL_law_1567 : decode cL_law 1567 = .ok (.iadd, 1) := by decide +kernel
theorem dL_law_1568 : decode cL_law 1568 = .ok (.iaload, 1) := by decide +kernel
theorem dL_law_1569 : decode cL_law 1569 = .ok (.invokevirtual 155, 3) := by decide +kernel
theorem dL_law_1572 : decode cL_law 1572 = .ok (.aload_n 2, 1) := by decide +kernel
theorem dL_law_1573 : decode cL_law 1573 = .ok (.aload_n 0, 1) := by decide +kernel
theorem dL_law_1574 : decode cL_law 1574 = .ok (.iload 4, 2) := by decide +kernel
theorem dL_law_1576 : decode cL_law 1576 = .ok (.iconst 1, 1) := by decide +kernel
theorem dL_law_1577 : decode cL_law 1577 = .ok (.iadd, 1) := by decide +kernel
theorem dL_law_1578 : decode cL_law 1578 = .ok (.iaload, 1) := by decide +kernel
theorem dL_law_1579 : decode cL_law 1579 = .ok (.aload_n 0, 1) := by decide +kernel
theorem dL_law_1580 : decode cL_law 1580 = .ok (.iload 4, 2) := by decide +kernel
theorem dL_law_1582 : decode cL_law 1582 = .ok (.iconst 2, 1) := by decide +kernel
theorem dL_law_1583 : decode cL_law 1583 = .ok (.iadd, 1) := by decide +kernel
theorem dL_law_1584 : decode cL_law 1584 = .ok (.iaload, 1) := by decide +kernel
theorem dL_law_1585 : decode cL_law 1585 = .ok (.aload_n 0, 1) := by decide +kernel
theorem dL_law_1586 : decode cL_law 1586 = .ok (.iload 4, 2) := by decide +kernel
theorem dL_law_1588 : decode cL_law 1588 = .ok (.iconst 3, 1) := by decide +kernel
theorem dL_law_1589 : decode cL_law 1589 = .ok (.iadd, 1) := by decide +kernel
theorem dL_law_1590 : decode cL_law 1590 = .ok (.iaload, 1) := by decide +kernel
theorem dL_law_1591 : decode cL_law 1591 = .ok (.aload_n 0, 1) := by decide +kernel
theorem dL_law_1592 : decode cL_law 1592 = .ok (.iload 4, 2) := by decide +kernel
theorem dL_law_1594 : decode cL_law 1594 = .ok (.iconst 4, 1) := by decide +kernel
theorem dL_law_1595 : decode cL_law 1595 = .ok (.iadd, 1) := by decide +kernel
theorem dL_law_1596 : decode cL_law 1596 = .ok (.iaload, 1) := by decide +kernel
theorem dL_law_1597 : decode cL_law 1597 = .ok (.invokevirtual 158, 3) := by decide +kernel
theorem dL_law_1600 : decode cL_law 1600 = .ok (.if_icmp .eq 406, 3) := by decide +kernel
theorem dL_law_1603 : decode cL_law 1603 = .ok (.iconst 0, 1) := by decide +kernel
theorem dL_law_1604 : decode cL_law 1604 = .ok (.ireturn, 1) := by decide +kernel
theorem dL_law_1605 : decode cL_law 1605 = .ok (.aload_n 1, 1) := by decide +kernel
theorem dL_law_1606 : decode cL_law 1606 = .ok (.invokevirtual 159, 3) := by decide +kernel
theorem dL_law_1609 : decode cL_law 1609 = .ok (.aload_n 2, 1) := by decide +kernel
theorem dL_law_1610 : decode cL_law 1610 = .ok (.invokevirtual 163, 3) := by decide +kernel
theorem dL_law_1613 : decode cL_law 1613 = .ok (.if_icmp .eq 393, 3) := by decide +kernel
theorem dL_law_1616 : decode cL_law 1616 = .ok (.iconst 0, 1) := by decide +kernel
theorem dL_law_1617 : decode cL_law 1617 = .ok (.ireturn, 1) := by decide +kernel
theorem dL_law_1618 : decode cL_law 1618 = .ok (.aload_n 1, 1) := by decide +kernel
theorem dL_law_1619 : decode cL_law 1619 = .ok (.invokevirtual 164, 3) := by decide +kernel
theorem dL_law_1622 : decode cL_law 1622 = .ok (.aload_n 2, 1) := by decide +kernel
theorem dL_law_1623 : decode cL_law 1623 = .ok (.invokevirtual 167, 3) := by decide +kernel
theorem dL_law_1626 : decode cL_law 1626 = .ok (.if_icmp .eq 380, 3) := by decide +kernel
theorem dL_law_1629 : decode cL_law 1629 = .ok (.iconst 0, 1) := by decide +kernel
theorem dL_law_1630 : decode cL_law 1630 = .ok (.ireturn, 1) := by decide +kernel
theorem dL_law_1631 : decode cL_law 1631 = .ok (.aload_n 1, 1) := by decide +kernel
theorem dL_law_1632 : decode cL_law 1632 = .ok (.invokevirtual 168, 3) := by decide +kernel
theorem dL_law_1635 : decode cL_law 1635 = .ok (.aload_n 2, 1) := by decide +kernel
theorem dL_law_1636 : decode cL_law 1636 = .ok (.invokevirtual 171, 3) := by decide +kernel
theorem dL_law_1639 : decode cL_law 1639 = .ok (.if_icmp .eq 367, 3) := by decide +kernel
theorem dL_law_1642 : decode cL_law 1642 = .ok (.iconst 0, 1) := by decide +kernel
theorem dL_law_1643 : decode cL_law 1643 = .ok (.ireturn, 1) := by decide +kernel
theorem dL_law_1644 : decode cL_law 1644 = .ok (.aload_n 1, 1) := by decide +kernel
theorem dL_law_1645 : decode cL_law 1645 = .ok (.aload_n 0, 1) := by decide +kernel
theorem dL_law_1646 : decode cL_law 1646 = .ok (.iload 4, 2) := by decide +kernel
theorem dL_law_1648 : decode cL_law 1648 = .ok (.iconst 1, 1) := by decide +kernel
theorem dL_law_1649 : decode cL_law 1649 = .ok (.iadd, 1) := by decide +kernel
theorem dL_law_1650 : decode cL_law 1650 = .ok (.iaload, 1) := by decide +kernel
theorem dL_law_1651 : decode cL_law 1651 = .ok (.invokevirtual 172, 3) := by decide +kernel
theorem dL_law_1654 : decode cL_law 1654 = .ok (.aload_n 2, 1) := by decide +kernel
theorem dL_law_1655 : decode cL_law 1655 = .ok (.aload_n 0, 1) := by decide +kernel
theorem dL_law_1656 : decode cL_law 1656 = .ok (.iload 4, 2) := by decide +kernel
theorem dL_law_1658 : decode cL_law 1658 = .ok (.iconst 1, 1) := by decide +kernel
theorem dL_law_1659 : decode cL_law 1659 = .ok (.iadd, 1) := by decide +kernel
theorem dL_law_1660 : decode cL_law 1660 = .ok (.iaload, 1) := by decide +kernel
theorem dL_law_1661 : decode cL_law 1661 = .ok (.invokevirtual 175, 3) := by decide +kernel
theorem dL_law_1664 : decode cL_law 1664 = .ok (.if_icmp .eq 342, 3) := by decide +kernel
theorem dL_law_1667 : decode cL_law 1667 = .ok (.iconst 0, 1) := by decide +kernel
theorem dL_law_1668 : decode cL_law 1668 = .ok (.ireturn, 1) := by decide +kernel
theorem dL_law_1669 : decode cL_law 1669 = .ok (.aload_n 1, 1) := by decide +kernel
theorem dL_law_1670 : decode cL_law 1670 = .ok (.aload_n 0, 1) := by decide +kernel
theorem dL_law_1671 : decode cL_law 1671 = .ok (.iload 4, 2) := by decide +kernel
theorem dL_law_1673 : decode cL_law 1673 = .ok (.iconst 1, 1) := by decide +kernel
theorem dL_law_1674 : decode cL_law 1674 = .ok (.iadd, 1) := by decide +kernel
theorem dL_law_1675 : decode cL_law 1675 = .ok (.iaload, 1) := by decide +kernel
theorem dL_law_1676 : decode cL_law 1676 = .ok (.aload_n 0, 1) := by decide +kernel
theorem dL_law_1677 : decode cL_law 1677 = .ok (.iload 4, 2) := by decide +kernel
theorem dL_law_1679 : decode cL_law 1679 = .ok (.iconst 2, 1) := by decide +kernel
theorem dL_law_1680 : decode cL_law 1680 = .ok (.iadd, 1) := by decide +kernel
theorem dL_law_1681 : decode cL_law 1681 = .ok (.iaload, 1) := by decide +kernel
theorem dL_law_1682 : decode cL_law 1682 = .ok (.aload_n 0, 1) := by decide +kernel
theorem dL_law_1683 : decode cL_law 1683 = .ok (.iload 4, 2) := by decide +kernel
theorem dL_law_1685 : decode cL_law 1685 = .ok (.iconst 3, 1) := by decide +kernel
theorem dL_law_1686 : decode cL_law 1686 = .ok (.iadd, 1) := by decide +kernel
theorem dL_law_1687 : decode cL_law 1687 = .ok (.iaload, 1) := by decide +kernel
theorem dL_law_1688 : decode cL_law 1688 = .ok (.invokevirtual 176, 3) := by decide +kernel
theorem dL_law_1691 : decode cL_law 1691 = .ok (.aload_n 2, 1) := by decide +kernel
theorem dL_law_1692 : decode cL_law 1692 = .ok (.aload_n 0, 1) := by decide +kernel
theorem dL_law_1693 : decode cL_law 1693 = .ok (.iload 4, 2) := by decide +kernel
theorem dL_law_1695 : decode cL_law 1695 = .ok (.iconst 1, 1) := by decide +kernel
theorem dL_law_1696 : decode cL_law 1696 = .ok (.iadd, 1) := by decide +kernel
theorem dL_law_1697 : decode cL_law 1697 = .ok (.iaload, 1) := by decide +kernel
theorem dL_law_1698 : decode cL_law 1698 = .ok (.aload_n 0, 1) := by decide +kernel
theorem dL_law_1699 : decode cL_law 1699 = .ok (.iload 4, 2) := by decide +kernel
theorem dL_law_1701 : decode cL_law 1701 = .ok (.iconst 2, 1) := by decide +kernel
theorem dL_law_1702 : decode cL_law 1702 = .ok (.iadd, 1) := by decide +kernel
theorem dL_law_1703 : decode cL_law 1703 = .ok (.iaload, 1) := by decide +kernel
theorem dL_law_1704 : decode cL_law 1704 = .ok (.aload_n 0, 1) := by decide +kernel
theorem dL_law_1705 : decode cL_law 1705 = .ok (.iload 4, 2) := by decide +kernel
theorem dL_law_1707 : decode cL_law 1707 = .ok (.iconst 3, 1) := by decide +kernel
theorem dL_law_1708 : decode cL_law 1708 = .ok (.iadd, 1) := by decide +kernel
theorem dL_law_1709 : decode cL_law 1709 = .ok (.iaload, 1) := by decide +kernel
theorem dL_law_1710 : decode cL_law 1710 = .ok (.invokevirtual 179, 3) := by decide +kernel
theorem dL_law_1713 : decode cL_law 1713 = .ok (.if_icmp .eq 293, 3) := by decide +kernel
theorem dL_law_1716 : decode cL_law 1716 = .ok (.iconst 0, 1) := by decide +kernel
theorem dL_law_1717 : decode cL_law 1717 = .ok (.ireturn, 1) := by decide +kernel
theorem dL_law_1718 : decode cL_law 1718 = .ok (.aload_n 1, 1) := by decide +kernel
theorem dL_law_1719 : decode cL_law 1719 = .ok (.aload_n 0, 1) := by decide +kernel
theorem dL_law_1720 : decode cL_law 1720 = .ok (.iload 4, 2) := by decide +kernel
theorem dL_law_1722 : decode cL_law 1722 = .ok (.iconst 1, 1) := by decide +kernel
theorem dL_law_1723 : decode cL_law 1723 = .ok (.iadd, 1) := by decide +kernel
theorem dL_law_1724 : decode cL_law 1724 = .ok (.iaload, 1) := by decide +kernel
theorem dL_law_1725 : decode cL_law 1725 = .ok (.aload_n 0, 1) := by decide +kernel
theorem dL_law_1726 : decode cL_law 1726 = .ok (.iload 4, 2) := by decide +kernel
theorem dL_law_1728 : decode cL_law 1728 = .ok (.iconst 2, 1) := by decide +kernel
theorem dL_law_1729 : decode cL_law 1729 = .ok (.iadd, 1) := by decide +kernel
theorem dL_law_1730 : decode cL_law 1730 = .ok (.iaload, 1) := by decide +kernel
theorem dL_law_1731 : decode cL_law 1731 = .ok (.aload_n 0, 1) := by decide +kernel
theorem dL_law_1732 : decode cL_law 1732 = .ok (.iload 4, 2) := by decide +kernel
theorem dL_law_1734 : decode cL_law 1734 = .ok (.iconst 3, 1) := by decide +kernel
theorem dL_law_1735 : decode cL_law 1735 = .ok (.iadd, 1) := by decide +kernel
theorem dL_law_1736 : decode cL_law 1736 = .ok (.iaload, 1) := by decide +kernel
theorem dL_law_1737 : decode cL_law 1737 = .ok (.invokevirtual 180, 3) := by decide +kernel
theorem dL_law_1740 : decode cL_law 1740 = .ok (.aload_n 2, 1) := by decide +kernel
theorem dL_law_1741 : decode cL_law 1741 = .ok (.aload_n 0, 1) := by decide +kernel
theorem dL_law_1742 : decode cL_law 1742 = .ok (.iload 4, 2) := by decide +kernel
theorem dL_law_1744 : decode cL_law 1744 = .ok (.iconst 1, 1) := by decide +kernel
theorem dL_law_1745 : decode cL_law 1745 = .ok (.iadd, 1) := by decide +kernel
theorem dL_law_1746 : decode cL_law 1746 = .ok (.iaload, 1) := by decide +kernel
theorem dL_law_1747 : decode cL_law 1747 = .ok (.aload_n 0, 1) := by decide +kernel
theorem dL_law_1748 : decode cL_law 1748 = .ok (.iload 4, 2) := by decide +kernel
theorem dL_law_1750 : decode cL_law 1750 = .ok (.iconst 2, 1) := by decide +kernel
theorem dL_law_1751 : decode cL_law 1751 = .ok (.iadd, 1) := by decide +kernel
theorem dL_law_1752 : decode cL_law 1752 = .ok (.iaload, 1) := by decide +kernel
theorem dL_law_1753 : decode cL_law 1753 = .ok (.aload_n 0, 1) := by decide +kernel
theorem dL_law_1754 : decode cL_law 1754 = .ok (.iload 4, 2) := by decide +kernel
theorem dL_law_1756 : decode cL_law 1756 = .ok (.iconst 3, 1) := by decide +kernel
theorem dL_law_1757 : decode cL_law 1757 = .ok (.iadd, 1) := by decide +kernel
theorem dL_law_1758 : decode cL_law 1758 = .ok (.iaload, 1) := by decide +kernel
theorem dL_law_1759 : decode cL_law 1759 = .ok (.invokevirtual 183, 3) := by decide +kernel
theorem dL_law_1762 : decode cL_law 1762 = .ok (.if_icmp .eq 244, 3) := by decide +kernel
theorem dL_law_1765 : decode cL_law 1765 = .ok (.iconst 0, 1) := by decide +kernel
theorem dL_law_1766 : decode cL_law 1766 = .ok (.ireturn, 1) := by decide +kernel
theorem dL_law_1767 : decode cL_law 1767 = .ok (.aload_n 1, 1) := by decide +kernel
theorem dL_law_1768 : decode cL_law 1768 = .ok (.aload_n 0, 1) := by decide +kernel
theorem dL_law_1769 : decode cL_law 1769 = .ok (.iload 4, 2) := by decide +kernel
theorem dL_law_1771 : decode cL_law 1771 = .ok (.iconst 1, 1) := by decide +kernel
theorem dL_law_1772 : decode cL_law 1772 = .ok (.iadd, 1) := by decide +kernel
theorem dL_law_1773 : decode cL_law 1773 = .ok (.iaload, 1) := by decide +kernel
theorem dL_law_1774 : decode cL_law 1774 = .ok (.aload_n 0, 1) := by decide +kernel
theorem dL_law_1775 : decode cL_law 1775 = .ok (.iload 4, 2) := by decide +kernel
theorem dL_law_1777 : decode cL_law 1777 = .ok (.iconst 2, 1) := by decide +kernel
theorem dL_law_1778 : decode cL_law 1778 = .ok (.iadd, 1) := by decide +kernel
theorem dL_law_1779 : decode cL_law 1779 = .ok (.iaload, 1) := by decide +kernel
theorem dL_law_1780 : decode cL_law 1780 = .ok (.aload_n 0, 1) := by decide +kernel
theorem dL_law_1781 : decode cL_law 1781 = .ok (.iload 4, 2) := by decide +kernel
theorem dL_law_1783 : decode cL_law 1783 = .ok (.iconst 3, 1) := by decide +kernel
theorem dL_law_1784 : decode cL_law 1784 = .ok (.iadd, 1) := by decide +kernel
theorem dL_law_1785 : decode cL_law 1785 = .ok (.iaload, 1) := by decide +kernel
theorem dL_law_1786 : decode cL_law 1786 = .ok (.invokevirtual 184, 3) := by decide +kernel
theorem dL_law_1789 : decode cL_law 1789 = .ok (.aload_n 2, 1) := by decide +kernel
theorem dL_law_1790 : decode cL_law 1790 = .ok (.aload_n 0, 1) := by decide +kernel
theorem dL_law_1791 : decode cL_law 1791 = .ok (.iload 4, 2) := by decide +kernel
theorem dL_law_1793 : decode cL_law 1793 = .ok (.iconst 1, 1) := by decide +kernel
theorem dL_law_1794 : decode cL_law 1794 = .ok (.iadd, 1) := by decide +kernel
theorem dL_law_1795 : decode cL_law 1795 = .ok (.iaload, 1) := by decide +kernel
theorem dL_law_1796 : decode cL_law 1796 = .ok (.aload_n 0, 1) := by decide +kernel
theorem dL_law_1797 : decode cL_law 1797 = .ok (.iload 4, 2) := by decide +kernel
theorem dL_law_1799 : decode cL_law 1799 = .ok (.iconst 2, 1) := by decide +kernel
theorem dL_law_1800 : decode cL_law 1800 = .ok (.iadd, 1) := by decide +kernel
theorem dL_law_1801 : decode cL_law 1801 = .ok (.iaload, 1) := by decide +kernel
theorem dL_law_1802 : decode cL_law 1802 = .ok (.aload_n 0, 1) := by decide +kernel
theorem dL_law_1803 : decode cL_law 1803 = .ok (.iload 4, 2) := by decide +kernel
theorem dL_law_1805 : decode cL_law 1805 = .ok (.iconst 3, 1) := by decide +kernel
theorem dL_law_1806 : decode cL_law 1806 = .ok (.iadd, 1) := by decide +kernel
theorem dL_law_1807 : decode cL_law 1807 = .ok (.iaload, 1) := by decide +kernel
theorem dL_law_1808 : decode cL_law 1808 = .ok (.invokevirtual 187, 3) := by decide +kernel
theorem dL_law_1811 : decode cL_law 1811 = .ok (.if_icmp .eq 195, 3) := by decide +kernel
theorem dL_law_1814 : decode cL_law 1814 = .ok (.iconst 0, 1) := by decide +kernel
theorem dL_law_1815 : decode cL_law 1815 = .ok (.ireturn, 1) := by decide +kernel
theorem dL_law_1816 : decode cL_law 1816 = .ok (.aload_n 1, 1) := by decide +kernel
theorem dL_law_1817 : decode cL_law 1817 = .ok (.aload_n 0, 1) := by decide +kernel
theorem dL_law_1818 : decode cL_law 1818 = .ok (.iload 4, 2) := by decide +kernel
theorem dL_law_1820 : decode cL_law 1820 = .ok (.iconst 1, 1) := by decide +kernel
theorem dL_law_1821 : decode cL_law 1821 = .ok (.iadd, 1) := by decide +kernel
theorem dL_law_1822 : decode cL_law 1822 = .ok (.iaload, 1) := by decide +kernel
theorem dL_law_1823 : decode cL_law 1823 = .ok (.aload_n 0, 1) := by decide +kernel
theorem dL_law_1824 : decode cL_law 1824 = .ok (.iload 4, 2) := by decide +kernel
theorem dL_law_1826 : decode cL_law 1826 = .ok (.iconst 2, 1) := by decide +kernel
theorem dL_law_1827 : decode cL_law 1827 = .ok (.iadd, 1) := by decide +kernel
theorem dL_law_1828 : decode cL_law 1828 = .ok (.iaload, 1) := by decide +kernel
theorem dL_law_1829 : decode cL_law 1829 = .ok (.aload_n 3, 1) := by decide +kernel
theorem dL_law_1830 : decode cL_law 1830 = .ok (.invokestatic 188, 3) := by decide +kernel
theorem dL_law_1833 : decode cL_law 1833 = .ok (.istore 5, 2) := by decide +kernel
theorem dL_law_1835 : decode cL_law 1835 = .ok (.aload_n 2, 1) := by decide +kernel
theorem dL_law_1836 : decode cL_law 1836 = .ok (.aload_n 0, 1) := by decide +kernel
theorem dL_law_1837 : decode cL_law 1837 = .ok (.iload 4, 2) := by decide +kernel
theorem dL_law_1839 : decode cL_law 1839 = .ok (.iconst 1, 1) := by decide +kernel
theorem dL_law_1840 : decode cL_law 1840 = .ok (.iadd, 1) := by decide +kernel
theorem dL_law_1841 : decode cL_law 1841 = .ok (.iaload, 1) := by decide +kernel
theorem dL_law_1842 : decode cL_law 1842 = .ok (.aload_n 0, 1) := by decide +kernel
theorem dL_law_1843 : decode cL_law 1843 = .ok (.iload 4, 2) := by decide +kernel
theorem dL_law_1845 : decode cL_law 1845 = .ok (.iconst 2, 1) := by decide +kernel
theorem dL_law_1846 : decode cL_law 1846 = .ok (.iadd, 1) := by decide +kernel
theorem dL_law_1847 : decode cL_law 1847 = .ok (.iaload, 1) := by decide +kernel
theorem dL_law_1848 : decode cL_law 1848 = .ok (.invokevirtual 193, 3) := by decide +kernel
theorem dL_law_1851 : decode cL_law 1851 = .ok (.lstore 6, 2) := by decide +kernel
theorem dL_law_1853 : decode cL_law 1853 = .ok (.aload_n 2, 1) := by decide +kernel
theorem dL_law_1854 : decode cL_law 1854 = .ok (.invokevirtual 194, 3) := by decide +kernel
theorem dL_law_1857 : decode cL_law 1857 = .ok (.iload 5, 2) := by decide +kernel
theorem dL_law_1859 : decode cL_law 1859 = .ok (.if_icmp .eq 5, 3) := by decide +kernel
theorem dL_law_1862 : decode cL_law 1862 = .ok (.iconst 0, 1) := by decide +kernel
theorem dL_law_1863 : decode cL_law 1863 = .ok (.ireturn, 1) := by decide +kernel
theorem dL_law_1864 : decode cL_law 1864 = .ok (.iload 5, 2) := by decide +kernel
theorem dL_law_1866 : decode cL_law 1866 = .ok (.ifCond .ne 14, 3) := by decide +kernel
theorem dL_law_1869 : decode cL_law 1869 = .ok (.aload_n 3, 1) := by decide +kernel
theorem dL_law_1870 : decode cL_law 1870 = .ok (.iconst 0, 1) := by decide +kernel
theorem dL_law_1871 : decode cL_law 1871 = .ok (.laload, 1) := by decide +kernel
theorem dL_law_1872 : decode cL_law 1872 = .ok (.lload 6, 2) := by decide +kernel
theorem dL_law_1874 : decode cL_law 1874 = .ok (.lcmp, 1) := by decide +kernel
theorem dL_law_1875 : decode cL_law 1875 = .ok (.ifCond .eq 5, 3) := by decide +kernel
theorem dL_law_1878 : decode cL_law 1878 = .ok (.iconst 0, 1) := by decide +kernel
theorem dL_law_1879 : decode cL_law 1879 = .ok (.ireturn, 1) := by decide +kernel
theorem dL_law_1880 : decode cL_law 1880 = .ok (.goto 126, 3) := by decide +kernel
theorem dL_law_1883 : decode cL_law 1883 = .ok (.aload_n 1, 1) := by decide +kernel
theorem dL_law_1884 : decode cL_law 1884 = .ok (.aload_n 0, 1) := by decide +kernel
theorem dL_law_1885 : decode cL_law 1885 = .ok (.iload 4, 2) := by decide +kernel
theorem dL_law_1887 : decode cL_law 1887 = .ok (.iconst 1, 1) := by decide +kernel
theorem dL_law_1888 : decode cL_law 1888 = .ok (.iadd, 1) := by decide +kernel
theorem dL_law_1889 : decode cL_law 1889 = .ok (.iaload, 1) := by decide +kernel
theorem dL_law_1890 : decode cL_law 1890 = .ok (.aload_n 0, 1) := by decide +kernel
theorem dL_law_1891 : decode cL_law 1891 = .ok (.iload 4, 2) := by decide +kernel
theorem dL_law_1893 : decode cL_law 1893 = .ok (.iconst 2, 1) := by decide +kernel
theorem dL_law_1894 : decode cL_law 1894 = .ok (.iadd, 1) := by decide +kernel
theorem dL_law_1895 : decode cL_law 1895 = .ok (.iaload, 1) := by decide +kernel
theorem dL_law_1896 : decode cL_law 1896 = .ok (.aload_n 0, 1) := by decide +kernel
theorem dL_law_1897 : decode cL_law 1897 = .ok (.iload 4, 2) := by decide +kernel
theorem dL_law_1899 : decode cL_law 1899 = .ok (.iconst 3, 1) := by decide +kernel
theorem dL_law_1900 : decode cL_law 1900 = .ok (.iadd, 1) := by decide +kernel
theorem dL_law_1901 : decode cL_law 1901 = .ok (.iaload, 1) := by decide +kernel
theorem dL_law_1902 : decode cL_law 1902 = .ok (.aload_n 0, 1) := by decide +kernel
theorem dL_law_1903 : decode cL_law 1903 = .ok (.iload 4, 2) := by decide +kernel
theorem dL_law_1905 : decode cL_law 1905 = .ok (.iconst 4, 1) := by decide +kernel
theorem dL_law_1906 : decode cL_law 1906 = .ok (.iadd, 1) := by decide +kernel
theorem dL_law_1907 : decode cL_law 1907 = .ok (.iaload, 1) := by decide +kernel
theorem dL_law_1908 : decode cL_law 1908 = .ok (.aload_n 0, 1) := by decide +kernel
theorem dL_law_1909 : decode cL_law 1909 = .ok (.iload 4, 2) := by decide +kernel
theorem dL_law_1911 : decode cL_law 1911 = .ok (.iconst 5, 1) := by decide +kernel
theorem dL_law_1912 : decode cL_law 1912 = .ok (.iadd, 1) := by decide +kernel
theorem dL_law_1913 : decode cL_law 1913 = .ok (.iaload, 1) := by decide +kernel
theorem dL_law_1914 : decode cL_law 1914 = .ok (.invokevirtual 197, 3) := by decide +kernel
theorem dL_law_1917 : decode cL_law 1917 = .ok (.aload_n 2, 1) := by decide +kernel
theorem dL_law_1918 : decode cL_law 1918 = .ok (.aload_n 0, 1) := by decide +kernel
theorem dL_law_1919 : decode cL_law 1919 = .ok (.iload 4, 2) := by decide +kernel
theorem dL_law_1921 : decode cL_law 1921 = .ok (.iconst 1, 1) := by decide +kernel
theorem dL_law_1922 : decode cL_law 1922 = .ok (.iadd, 1) := by decide +kernel
theorem dL_law_1923 : decode cL_law 1923 = .ok (.iaload, 1) := by decide +kernel
theorem dL_law_1924 : decode cL_law 1924 = .ok (.aload_n 0, 1) := by decide +kernel
theorem dL_law_1925 : decode cL_law 1925 = .ok (.iload 4, 2) := by decide +kernel
theorem dL_law_1927 : decode cL_law 1927 = .ok (.iconst 2, 1) := by decide +kernel
theorem dL_law_1928 : decode cL_law 1928 = .ok (.iadd, 1) := by decide +kernel
theorem dL_law_1929 : decode cL_law 1929 = .ok (.iaload, 1) := by decide +kernel
theorem dL_law_1930 : decode cL_law 1930 = .ok (.aload_n 0, 1) := by decide +kernel
theorem dL_law_1931 : decode cL_law 1931 = .ok (.iload 4, 2) := by decide +kernel
theorem dL_law_1933 : decode cL_law 1933 = .ok (.iconst 3, 1) := by decide +kernel
theorem dL_law_1934 : decode cL_law 1934 = .ok (.iadd, 1) := by decide +kernel
theorem dL_law_1935 : decode cL_law 1935 = .ok (.iaload, 1) := by decide +kernel
theorem dL_law_1936 : decode cL_law 1936 = .ok (.aload_n 0, 1) := by decide +kernel
theorem dL_law_1937 : decode cL_law 1937 = .ok (.iload 4, 2) := by decide +kernel
theorem dL_law_1939 : decode cL_law 1939 = .ok (.iconst 4, 1) := by decide +kernel
theorem dL_law_1940 : decode cL_law 1940 = .ok (.iadd, 1) := by decide +kernel
theorem dL_law_1941 : decode cL_law 1941 = .ok (.iaload, 1) := by decide +kernel
theorem dL_law_1942 : decode cL_law 1942 = .ok (.aload_n 0, 1) := by decide +kernel
theorem dL_law_1943 : decode cL_law 1943 = .ok (.iload 4, 2) := by decide +kernel
theorem dL_law_1945 : decode cL_law 1945 = .ok (.iconst 5, 1) := by decide +kernel
theorem dL_law_1946 : decode cL_law 1946 = .ok (.iadd, 1) := by decide +kernel
theorem dL_law_1947 : decode cL_law 1947 = .ok (.iaload, 1) := by decide +kernel
theorem dL_law_1948 : decode cL_law 1948 = .ok (.invokevirtual 200, 3) := by decide +kernel
theorem dL_law_1951 : decode cL_law 1951 = .ok (.if_icmp .eq 55, 3) := by decide +kernel
theorem dL_law_1954 : decode cL_law 1954 = .ok (.iconst 0, 1) := by decide +kernel
theorem dL_law_1955 : decode cL_law 1955 = .ok (.ireturn, 1) := by decide +kernel
theorem dL_law_1956 : decode cL_law 1956 = .ok (.aload_n 1, 1) := by decide +kernel
theorem dL_law_1957 : decode cL_law 1957 = .ok (.aload_n 0, 1) := by decide +kernel
theorem dL_law_1958 : decode cL_law 1958 = .ok (.iload 4, 2) := by decide +kernel
theorem dL_law_1960 : decode cL_law 1960 = .ok (.iconst 1, 1) := by decide +kernel
theorem dL_law_1961 : decode cL_law 1961 = .ok (.iadd, 1) := by decide +kernel
theorem dL_law_1962 : decode cL_law 1962 = .ok (.iaload, 1) := by decide +kernel
theorem dL_law_1963 : decode cL_law 1963 = .ok (.invokevirtual 201, 3) := by decide +kernel
theorem dL_law_1966 : decode cL_law 1966 = .ok (.aload_n 2, 1) := by decide +kernel
theorem dL_law_1967 : decode cL_law 1967 = .ok (.aload_n 0, 1) := by decide +kernel
theorem dL_law_1968 : decode cL_law 1968 = .ok (.iload 4, 2) := by decide +kernel
theorem dL_law_1970 : decode cL_law 1970 = .ok (.iconst 1, 1) := by decide +kernel
theorem dL_law_1971 : decode cL_law 1971 = .ok (.iadd, 1) := by decide +kernel
theorem dL_law_1972 : decode cL_law 1972 = .ok (.iaload, 1) := by decide +kernel
theorem dL_law_1973 : decode cL_law 1973 = .ok (.invokevirtual 204, 3) := by decide +kernel
theorem dL_law_1976 : decode cL_law 1976 = .ok (.if_icmp .eq 30, 3) := by decide +kernel
theorem dL_law_1979 : decode cL_law 1979 = .ok (.iconst 0, 1) := by decide +kernel
theorem dL_law_1980 : decode cL_law 1980 = .ok (.ireturn, 1) := by decide +kernel
theorem dL_law_1981 : decode cL_law 1981 = .ok (.aload_n 1, 1) := by decide +kernel
theorem dL_law_1982 : decode cL_law 1982 = .ok (.aload_n 0, 1) := by decide +kernel
theorem dL_law_1983 : decode cL_law 1983 = .ok (.iload 4, 2) := by decide +kernel
theorem dL_law_1985 : decode cL_law 1985 = .ok (.iconst 1, 1) := by decide +kernel
theorem dL_law_1986 : decode cL_law 1986 = .ok (.iadd, 1) := by decide +kernel
theorem dL_law_1987 : decode cL_law 1987 = .ok (.iaload, 1) := by decide +kernel
theorem dL_law_1988 : decode cL_law 1988 = .ok (.invokevirtual 205, 3) := by decide +kernel
theorem dL_law_1991 : decode cL_law 1991 = .ok (.aload_n 2, 1) := by decide +kernel
theorem dL_law_1992 : decode cL_law 1992 = .ok (.aload_n 0, 1) := by decide +kernel
theorem dL_law_1993 : decode cL_law 1993 = .ok (.iload 4, 2) := by decide +kernel
theorem dL_law_1995 : decode cL_law 1995 = .ok (.iconst 1, 1) := by decide +kernel
theorem dL_law_1996 : decode cL_law 1996 = .ok (.iadd, 1) := by decide +kernel
theorem dL_law_1997 : decode cL_law 1997 = .ok (.iaload, 1) := by decide +kernel
theorem dL_law_1998 : decode cL_law 1998 = .ok (.invokevirtual 208, 3) := by decide +kernel
theorem dL_law_2001 : decode cL_law 2001 = .ok (.if_icmp .eq 5, 3) := by decide +kernel
theorem dL_law_2004 : decode cL_law 2004 = .ok (.iconst 0, 1) := by decide +kernel
theorem dL_law_2005 : decode cL_law 2005 = .ok (.ireturn, 1) := by decide +kernel
theorem dL_law_2006 : decode cL_law 2006 = .ok (.iinc 4 6, 3) := by decide +kernel
theorem dL_law_2009 : decode cL_law 2009 = .ok (.goto (-1986), 3) := by decide +kernel
theorem dL_law_2012 : decode cL_law 2012 = .ok (.iconst 1, 1) := by decide +kernel
theorem dL_law_2013 : decode cL_law 2013 = .ok (.ireturn, 1) := by decide +kernel
end
section
theorem zz_end : 1 = 1 := rfl
end
