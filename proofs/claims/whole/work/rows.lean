section
-- ===== PART A: goes FIRST, ahead of the names: the tables' words, and 'selects' of the private methods out of them =====
/-- a private method of a class that the tables say can be made, by its rows of tables_1 -/
def lw_okq (q : MethodName × Nat) : Prop := (q.1.cls ≠ "java/lang/invoke/MethodHandle" ∧ q.1.cls ≠ "java/lang/invoke/VarHandle") ∧ Cond.instantiable q.1.cls q.2 ∈ tables_1 ∧ Cond.privateMethod q.1 ∈ tables_1 ∧ Cond.instanceMethod q.1 ∈ tables_1
theorem lw_p0 : lw_okq (⟨"PutOut$Reader", "advance", "()V"⟩, 10) := ⟨⟨by decide +kernel, by decide +kernel⟩, List.mem_of_getElem? (i := 137) (by decide +kernel), List.mem_of_getElem? (i := 298) (by decide +kernel), List.mem_of_getElem? (i := 299) (by decide +kernel)⟩
theorem lw_p1 : lw_okq (⟨"PutOut$Reader", "word", "()I"⟩, 10) := ⟨⟨by decide +kernel, by decide +kernel⟩, List.mem_of_getElem? (i := 137) (by decide +kernel), List.mem_of_getElem? (i := 305) (by decide +kernel), List.mem_of_getElem? (i := 306) (by decide +kernel)⟩
theorem lw_p2 : lw_okq (⟨"PutOut$Reader", "key", "()I"⟩, 10) := ⟨⟨by decide +kernel, by decide +kernel⟩, List.mem_of_getElem? (i := 137) (by decide +kernel), List.mem_of_getElem? (i := 309) (by decide +kernel), List.mem_of_getElem? (i := 310) (by decide +kernel)⟩
theorem lw_p3 : lw_okq (⟨"PutOut$Reader", "spells", "(Ljava/lang/String;)Z"⟩, 10) := ⟨⟨by decide +kernel, by decide +kernel⟩, List.mem_of_getElem? (i := 137) (by decide +kernel), List.mem_of_getElem? (i := 314) (by decide +kernel), List.mem_of_getElem? (i := 315) (by decide +kernel)⟩
theorem lw_p4 : lw_okq (⟨"PutOut$Reader", "name", "()I"⟩, 10) := ⟨⟨by decide +kernel, by decide +kernel⟩, List.mem_of_getElem? (i := 137) (by decide +kernel), List.mem_of_getElem? (i := 325) (by decide +kernel), List.mem_of_getElem? (i := 326) (by decide +kernel)⟩
theorem lw_p5 : lw_okq (⟨"PutOut$Reader", "digits", "()I"⟩, 10) := ⟨⟨by decide +kernel, by decide +kernel⟩, List.mem_of_getElem? (i := 137) (by decide +kernel), List.mem_of_getElem? (i := 338) (by decide +kernel), List.mem_of_getElem? (i := 339) (by decide +kernel)⟩
theorem lw_p6 : lw_okq (⟨"PutOut$Reader", "expect", "(I)V"⟩, 10) := ⟨⟨by decide +kernel, by decide +kernel⟩, List.mem_of_getElem? (i := 137) (by decide +kernel), List.mem_of_getElem? (i := 345) (by decide +kernel), List.mem_of_getElem? (i := 346) (by decide +kernel)⟩
theorem lw_p7 : lw_okq (⟨"PutOut$Reader", "fail", "()V"⟩, 10) := ⟨⟨by decide +kernel, by decide +kernel⟩, List.mem_of_getElem? (i := 137) (by decide +kernel), List.mem_of_getElem? (i := 349) (by decide +kernel), List.mem_of_getElem? (i := 350) (by decide +kernel)⟩
theorem lw_p8 : lw_okq (⟨"PutOut$Reader", "either", "(I)V"⟩, 10) := ⟨⟨by decide +kernel, by decide +kernel⟩, List.mem_of_getElem? (i := 137) (by decide +kernel), List.mem_of_getElem? (i := 353) (by decide +kernel), List.mem_of_getElem? (i := 354) (by decide +kernel)⟩
theorem lw_p9 : lw_okq (⟨"PutOut$Reader", "both", "(I)V"⟩, 10) := ⟨⟨by decide +kernel, by decide +kernel⟩, List.mem_of_getElem? (i := 137) (by decide +kernel), List.mem_of_getElem? (i := 357) (by decide +kernel), List.mem_of_getElem? (i := 358) (by decide +kernel)⟩
theorem lw_p10 : lw_okq (⟨"PutOut$Reader", "negation", "(I)V"⟩, 10) := ⟨⟨by decide +kernel, by decide +kernel⟩, List.mem_of_getElem? (i := 137) (by decide +kernel), List.mem_of_getElem? (i := 361) (by decide +kernel), List.mem_of_getElem? (i := 362) (by decide +kernel)⟩
theorem lw_p11 : lw_okq (⟨"PutOut$Reader", "comparison", "(I)V"⟩, 10) := ⟨⟨by decide +kernel, by decide +kernel⟩, List.mem_of_getElem? (i := 137) (by decide +kernel), List.mem_of_getElem? (i := 365) (by decide +kernel), List.mem_of_getElem? (i := 366) (by decide +kernel)⟩
theorem lw_p12 : lw_okq (⟨"PutOut$Reader", "sum", "(I)V"⟩, 10) := ⟨⟨by decide +kernel, by decide +kernel⟩, List.mem_of_getElem? (i := 137) (by decide +kernel), List.mem_of_getElem? (i := 369) (by decide +kernel), List.mem_of_getElem? (i := 370) (by decide +kernel)⟩
theorem lw_p13 : lw_okq (⟨"PutOut$Reader", "term", "(I)V"⟩, 10) := ⟨⟨by decide +kernel, by decide +kernel⟩, List.mem_of_getElem? (i := 137) (by decide +kernel), List.mem_of_getElem? (i := 373) (by decide +kernel), List.mem_of_getElem? (i := 374) (by decide +kernel)⟩
theorem lw_p14 : lw_okq (⟨"PutOut$Reader", "one", "(I)V"⟩, 10) := ⟨⟨by decide +kernel, by decide +kernel⟩, List.mem_of_getElem? (i := 137) (by decide +kernel), List.mem_of_getElem? (i := 377) (by decide +kernel), List.mem_of_getElem? (i := 378) (by decide +kernel)⟩
theorem lw_p15 : lw_okq (⟨"PutOut$Reader", "emit", "(I)V"⟩, 10) := ⟨⟨by decide +kernel, by decide +kernel⟩, List.mem_of_getElem? (i := 137) (by decide +kernel), List.mem_of_getElem? (i := 381) (by decide +kernel), List.mem_of_getElem? (i := 382) (by decide +kernel)⟩
def lw_privs_1 : List (MethodName × Nat) := [(⟨"PutOut$Reader", "advance", "()V"⟩, 10), (⟨"PutOut$Reader", "word", "()I"⟩, 10), (⟨"PutOut$Reader", "key", "()I"⟩, 10), (⟨"PutOut$Reader", "spells", "(Ljava/lang/String;)Z"⟩, 10), (⟨"PutOut$Reader", "name", "()I"⟩, 10), (⟨"PutOut$Reader", "digits", "()I"⟩, 10), (⟨"PutOut$Reader", "expect", "(I)V"⟩, 10), (⟨"PutOut$Reader", "fail", "()V"⟩, 10), (⟨"PutOut$Reader", "either", "(I)V"⟩, 10), (⟨"PutOut$Reader", "both", "(I)V"⟩, 10), (⟨"PutOut$Reader", "negation", "(I)V"⟩, 10), (⟨"PutOut$Reader", "comparison", "(I)V"⟩, 10), (⟨"PutOut$Reader", "sum", "(I)V"⟩, 10), (⟨"PutOut$Reader", "term", "(I)V"⟩, 10), (⟨"PutOut$Reader", "one", "(I)V"⟩, 10), (⟨"PutOut$Reader", "emit", "(I)V"⟩, 10)]
theorem lw_r1 : ∀ q ∈ lw_privs_1, lw_okq q := List.forall_mem_cons.mpr ⟨lw_p0, List.forall_mem_cons.mpr ⟨lw_p1, List.forall_mem_cons.mpr ⟨lw_p2, List.forall_mem_cons.mpr ⟨lw_p3, List.forall_mem_cons.mpr ⟨lw_p4, List.forall_mem_cons.mpr ⟨lw_p5, List.forall_mem_cons.mpr ⟨lw_p6, List.forall_mem_cons.mpr ⟨lw_p7, List.forall_mem_cons.mpr ⟨lw_p8, List.forall_mem_cons.mpr ⟨lw_p9, List.forall_mem_cons.mpr ⟨lw_p10, List.forall_mem_cons.mpr ⟨lw_p11, List.forall_mem_cons.mpr ⟨lw_p12, List.forall_mem_cons.mpr ⟨lw_p13, List.forall_mem_cons.mpr ⟨lw_p14, List.forall_mem_cons.mpr ⟨lw_p15, fun _ h => absurd h List.not_mem_nil⟩⟩⟩⟩⟩⟩⟩⟩⟩⟩⟩⟩⟩⟩⟩⟩
theorem lw_p16 : lw_okq (⟨"PutOut", "rule", "()LPutOut$Text;"⟩, 9) := ⟨⟨by decide +kernel, by decide +kernel⟩, List.mem_of_getElem? (i := 23) (by decide +kernel), List.mem_of_getElem? (i := 613) (by decide +kernel), List.mem_of_getElem? (i := 614) (by decide +kernel)⟩
theorem lw_p17 : lw_okq (⟨"PutOut$Text", "push", "(I)V"⟩, 4) := ⟨⟨by decide +kernel, by decide +kernel⟩, List.mem_of_getElem? (i := 389) (by decide +kernel), List.mem_of_getElem? (i := 631) (by decide +kernel), List.mem_of_getElem? (i := 632) (by decide +kernel)⟩
theorem lw_p18 : lw_okq (⟨"PutOut$Text", "pop", "()I"⟩, 4) := ⟨⟨by decide +kernel, by decide +kernel⟩, List.mem_of_getElem? (i := 389) (by decide +kernel), List.mem_of_getElem? (i := 638) (by decide +kernel), List.mem_of_getElem? (i := 639) (by decide +kernel)⟩
theorem lw_p19 : lw_okq (⟨"PutOut$Planner", "lookAround", "()V"⟩, 12) := ⟨⟨by decide +kernel, by decide +kernel⟩, List.mem_of_getElem? (i := 178) (by decide +kernel), List.mem_of_getElem? (i := 680) (by decide +kernel), List.mem_of_getElem? (i := 681) (by decide +kernel)⟩
theorem lw_p20 : lw_okq (⟨"PutOut$Thing", "offenceTo", "(I)I"⟩, 13) := ⟨⟨by decide +kernel, by decide +kernel⟩, List.mem_of_getElem? (i := 41) (by decide +kernel), List.mem_of_getElem? (i := 698) (by decide +kernel), List.mem_of_getElem? (i := 699) (by decide +kernel)⟩
theorem lw_p21 : lw_okq (⟨"PutOut$Planner", "enterNow", "()V"⟩, 12) := ⟨⟨by decide +kernel, by decide +kernel⟩, List.mem_of_getElem? (i := 178) (by decide +kernel), List.mem_of_getElem? (i := 749) (by decide +kernel), List.mem_of_getElem? (i := 750) (by decide +kernel)⟩
theorem lw_p22 : lw_okq (⟨"PutOut$Planner", "priceNothing", "()V"⟩, 12) := ⟨⟨by decide +kernel, by decide +kernel⟩, List.mem_of_getElem? (i := 178) (by decide +kernel), List.mem_of_getElem? (i := 817) (by decide +kernel), List.mem_of_getElem? (i := 818) (by decide +kernel)⟩
theorem lw_p23 : lw_okq (⟨"PutOut$Planner", "priceMoves", "()V"⟩, 12) := ⟨⟨by decide +kernel, by decide +kernel⟩, List.mem_of_getElem? (i := 178) (by decide +kernel), List.mem_of_getElem? (i := 831) (by decide +kernel), List.mem_of_getElem? (i := 832) (by decide +kernel)⟩
theorem lw_p24 : lw_okq (⟨"PutOut$Planner", "priceDay", "(I)V"⟩, 12) := ⟨⟨by decide +kernel, by decide +kernel⟩, List.mem_of_getElem? (i := 178) (by decide +kernel), List.mem_of_getElem? (i := 845) (by decide +kernel), List.mem_of_getElem? (i := 846) (by decide +kernel)⟩
theorem lw_p25 : lw_okq (⟨"PutOut$Planner", "search", "(I)I"⟩, 12) := ⟨⟨by decide +kernel, by decide +kernel⟩, List.mem_of_getElem? (i := 178) (by decide +kernel), List.mem_of_getElem? (i := 859) (by decide +kernel), List.mem_of_getElem? (i := 860) (by decide +kernel)⟩
theorem lw_p26 : lw_okq (⟨"PutOut$Planner", "fillLeast", "(IIZ)V"⟩, 12) := ⟨⟨by decide +kernel, by decide +kernel⟩, List.mem_of_getElem? (i := 178) (by decide +kernel), List.mem_of_getElem? (i := 864) (by decide +kernel), List.mem_of_getElem? (i := 865) (by decide +kernel)⟩
theorem lw_p27 : lw_okq (⟨"PutOut$Planner", "costFrom", "(IIIIZ)I"⟩, 12) := ⟨⟨by decide +kernel, by decide +kernel⟩, List.mem_of_getElem? (i := 178) (by decide +kernel), List.mem_of_getElem? (i := 870) (by decide +kernel), List.mem_of_getElem? (i := 871) (by decide +kernel)⟩
theorem lw_p28 : lw_okq (⟨"PutOut$Planner", "follow", "(IZ)V"⟩, 12) := ⟨⟨by decide +kernel, by decide +kernel⟩, List.mem_of_getElem? (i := 178) (by decide +kernel), List.mem_of_getElem? (i := 878) (by decide +kernel), List.mem_of_getElem? (i := 879) (by decide +kernel)⟩
theorem lw_p29 : lw_okq (⟨"PutOut$Planner", "enterFound", "()I"⟩, 12) := ⟨⟨by decide +kernel, by decide +kernel⟩, List.mem_of_getElem? (i := 178) (by decide +kernel), List.mem_of_getElem? (i := 903) (by decide +kernel), List.mem_of_getElem? (i := 904) (by decide +kernel)⟩
theorem lw_p30 : lw_okq (⟨"PutOutModel", "spell", "(IIIIIIIII)V"⟩, 56) := ⟨⟨by decide +kernel, by decide +kernel⟩, List.mem_of_getElem? (i := 1069) (by decide +kernel), List.mem_of_getElem? (i := 1075) (by decide +kernel), List.mem_of_getElem? (i := 1076) (by decide +kernel)⟩
theorem lw_p31 : lw_okq (⟨"PutOutModel", "isThing", "(I)Z"⟩, 56) := ⟨⟨by decide +kernel, by decide +kernel⟩, List.mem_of_getElem? (i := 1069) (by decide +kernel), List.mem_of_getElem? (i := 1268) (by decide +kernel), List.mem_of_getElem? (i := 1269) (by decide +kernel)⟩
def lw_privs_2 : List (MethodName × Nat) := [(⟨"PutOut", "rule", "()LPutOut$Text;"⟩, 9), (⟨"PutOut$Text", "push", "(I)V"⟩, 4), (⟨"PutOut$Text", "pop", "()I"⟩, 4), (⟨"PutOut$Planner", "lookAround", "()V"⟩, 12), (⟨"PutOut$Thing", "offenceTo", "(I)I"⟩, 13), (⟨"PutOut$Planner", "enterNow", "()V"⟩, 12), (⟨"PutOut$Planner", "priceNothing", "()V"⟩, 12), (⟨"PutOut$Planner", "priceMoves", "()V"⟩, 12), (⟨"PutOut$Planner", "priceDay", "(I)V"⟩, 12), (⟨"PutOut$Planner", "search", "(I)I"⟩, 12), (⟨"PutOut$Planner", "fillLeast", "(IIZ)V"⟩, 12), (⟨"PutOut$Planner", "costFrom", "(IIIIZ)I"⟩, 12), (⟨"PutOut$Planner", "follow", "(IZ)V"⟩, 12), (⟨"PutOut$Planner", "enterFound", "()I"⟩, 12), (⟨"PutOutModel", "spell", "(IIIIIIIII)V"⟩, 56), (⟨"PutOutModel", "isThing", "(I)Z"⟩, 56)]
theorem lw_r2 : ∀ q ∈ lw_privs_2, lw_okq q := List.forall_mem_cons.mpr ⟨lw_p16, List.forall_mem_cons.mpr ⟨lw_p17, List.forall_mem_cons.mpr ⟨lw_p18, List.forall_mem_cons.mpr ⟨lw_p19, List.forall_mem_cons.mpr ⟨lw_p20, List.forall_mem_cons.mpr ⟨lw_p21, List.forall_mem_cons.mpr ⟨lw_p22, List.forall_mem_cons.mpr ⟨lw_p23, List.forall_mem_cons.mpr ⟨lw_p24, List.forall_mem_cons.mpr ⟨lw_p25, List.forall_mem_cons.mpr ⟨lw_p26, List.forall_mem_cons.mpr ⟨lw_p27, List.forall_mem_cons.mpr ⟨lw_p28, List.forall_mem_cons.mpr ⟨lw_p29, List.forall_mem_cons.mpr ⟨lw_p30, List.forall_mem_cons.mpr ⟨lw_p31, fun _ h => absurd h List.not_mem_nil⟩⟩⟩⟩⟩⟩⟩⟩⟩⟩⟩⟩⟩⟩⟩⟩
theorem lw_p32 : lw_okq (⟨"PutOutModel", "stands", "(II)Z"⟩, 56) := ⟨⟨by decide +kernel, by decide +kernel⟩, List.mem_of_getElem? (i := 1069) (by decide +kernel), List.mem_of_getElem? (i := 1275) (by decide +kernel), List.mem_of_getElem? (i := 1276) (by decide +kernel)⟩
theorem lw_p33 : lw_okq (⟨"PutOutModel", "says", "(IIII)I"⟩, 56) := ⟨⟨by decide +kernel, by decide +kernel⟩, List.mem_of_getElem? (i := 1069) (by decide +kernel), List.mem_of_getElem? (i := 1279) (by decide +kernel), List.mem_of_getElem? (i := 1280) (by decide +kernel)⟩
theorem lw_p34 : lw_okq (⟨"PutOutModel", "read", "(II)I"⟩, 56) := ⟨⟨by decide +kernel, by decide +kernel⟩, List.mem_of_getElem? (i := 1069) (by decide +kernel), List.mem_of_getElem? (i := 1283) (by decide +kernel), List.mem_of_getElem? (i := 1284) (by decide +kernel)⟩
theorem lw_p35 : lw_okq (⟨"PutOutModel", "next", "()V"⟩, 56) := ⟨⟨by decide +kernel, by decide +kernel⟩, List.mem_of_getElem? (i := 1069) (by decide +kernel), List.mem_of_getElem? (i := 1287) (by decide +kernel), List.mem_of_getElem? (i := 1288) (by decide +kernel)⟩
theorem lw_p36 : lw_okq (⟨"PutOutModel", "byteAt", "(I)I"⟩, 56) := ⟨⟨by decide +kernel, by decide +kernel⟩, List.mem_of_getElem? (i := 1069) (by decide +kernel), List.mem_of_getElem? (i := 1291) (by decide +kernel), List.mem_of_getElem? (i := 1292) (by decide +kernel)⟩
theorem lw_p37 : lw_okq (⟨"PutOutModel", "isWord", "(IIIIIIII)Z"⟩, 56) := ⟨⟨by decide +kernel, by decide +kernel⟩, List.mem_of_getElem? (i := 1069) (by decide +kernel), List.mem_of_getElem? (i := 1300) (by decide +kernel), List.mem_of_getElem? (i := 1301) (by decide +kernel)⟩
theorem lw_p38 : lw_okq (⟨"PutOutModel", "isLetter", "(II)Z"⟩, 56) := ⟨⟨by decide +kernel, by decide +kernel⟩, List.mem_of_getElem? (i := 1069) (by decide +kernel), List.mem_of_getElem? (i := 1304) (by decide +kernel), List.mem_of_getElem? (i := 1305) (by decide +kernel)⟩
theorem lw_p39 : lw_okq (⟨"PutOutModel", "part", "(Z)I"⟩, 56) := ⟨⟨by decide +kernel, by decide +kernel⟩, List.mem_of_getElem? (i := 1069) (by decide +kernel), List.mem_of_getElem? (i := 1308) (by decide +kernel), List.mem_of_getElem? (i := 1309) (by decide +kernel)⟩
theorem lw_p40 : lw_okq (⟨"PutOutModel", "fail", "()V"⟩, 56) := ⟨⟨by decide +kernel, by decide +kernel⟩, List.mem_of_getElem? (i := 1069) (by decide +kernel), List.mem_of_getElem? (i := 1312) (by decide +kernel), List.mem_of_getElem? (i := 1313) (by decide +kernel)⟩
theorem lw_p41 : lw_okq (⟨"PutOutModel", "either", "()I"⟩, 56) := ⟨⟨by decide +kernel, by decide +kernel⟩, List.mem_of_getElem? (i := 1069) (by decide +kernel), List.mem_of_getElem? (i := 1316) (by decide +kernel), List.mem_of_getElem? (i := 1317) (by decide +kernel)⟩
theorem lw_p42 : lw_okq (⟨"PutOutModel", "both", "()I"⟩, 56) := ⟨⟨by decide +kernel, by decide +kernel⟩, List.mem_of_getElem? (i := 1069) (by decide +kernel), List.mem_of_getElem? (i := 1320) (by decide +kernel), List.mem_of_getElem? (i := 1321) (by decide +kernel)⟩
theorem lw_p43 : lw_okq (⟨"PutOutModel", "not", "()I"⟩, 56) := ⟨⟨by decide +kernel, by decide +kernel⟩, List.mem_of_getElem? (i := 1069) (by decide +kernel), List.mem_of_getElem? (i := 1324) (by decide +kernel), List.mem_of_getElem? (i := 1325) (by decide +kernel)⟩
theorem lw_p44 : lw_okq (⟨"PutOutModel", "opens", "()Z"⟩, 56) := ⟨⟨by decide +kernel, by decide +kernel⟩, List.mem_of_getElem? (i := 1069) (by decide +kernel), List.mem_of_getElem? (i := 1328) (by decide +kernel), List.mem_of_getElem? (i := 1329) (by decide +kernel)⟩
theorem lw_p45 : lw_okq (⟨"PutOutModel", "added", "()I"⟩, 56) := ⟨⟨by decide +kernel, by decide +kernel⟩, List.mem_of_getElem? (i := 1069) (by decide +kernel), List.mem_of_getElem? (i := 1332) (by decide +kernel), List.mem_of_getElem? (i := 1333) (by decide +kernel)⟩
theorem lw_p46 : lw_okq (⟨"PutOutModel", "term", "()I"⟩, 56) := ⟨⟨by decide +kernel, by decide +kernel⟩, List.mem_of_getElem? (i := 1069) (by decide +kernel), List.mem_of_getElem? (i := 1336) (by decide +kernel), List.mem_of_getElem? (i := 1337) (by decide +kernel)⟩
theorem lw_p47 : lw_okq (⟨"PutOutModel", "atom", "()I"⟩, 56) := ⟨⟨by decide +kernel, by decide +kernel⟩, List.mem_of_getElem? (i := 1069) (by decide +kernel), List.mem_of_getElem? (i := 1340) (by decide +kernel), List.mem_of_getElem? (i := 1341) (by decide +kernel)⟩
def lw_privs_3 : List (MethodName × Nat) := [(⟨"PutOutModel", "stands", "(II)Z"⟩, 56), (⟨"PutOutModel", "says", "(IIII)I"⟩, 56), (⟨"PutOutModel", "read", "(II)I"⟩, 56), (⟨"PutOutModel", "next", "()V"⟩, 56), (⟨"PutOutModel", "byteAt", "(I)I"⟩, 56), (⟨"PutOutModel", "isWord", "(IIIIIIII)Z"⟩, 56), (⟨"PutOutModel", "isLetter", "(II)Z"⟩, 56), (⟨"PutOutModel", "part", "(Z)I"⟩, 56), (⟨"PutOutModel", "fail", "()V"⟩, 56), (⟨"PutOutModel", "either", "()I"⟩, 56), (⟨"PutOutModel", "both", "()I"⟩, 56), (⟨"PutOutModel", "not", "()I"⟩, 56), (⟨"PutOutModel", "opens", "()Z"⟩, 56), (⟨"PutOutModel", "added", "()I"⟩, 56), (⟨"PutOutModel", "term", "()I"⟩, 56), (⟨"PutOutModel", "atom", "()I"⟩, 56)]
theorem lw_r3 : ∀ q ∈ lw_privs_3, lw_okq q := List.forall_mem_cons.mpr ⟨lw_p32, List.forall_mem_cons.mpr ⟨lw_p33, List.forall_mem_cons.mpr ⟨lw_p34, List.forall_mem_cons.mpr ⟨lw_p35, List.forall_mem_cons.mpr ⟨lw_p36, List.forall_mem_cons.mpr ⟨lw_p37, List.forall_mem_cons.mpr ⟨lw_p38, List.forall_mem_cons.mpr ⟨lw_p39, List.forall_mem_cons.mpr ⟨lw_p40, List.forall_mem_cons.mpr ⟨lw_p41, List.forall_mem_cons.mpr ⟨lw_p42, List.forall_mem_cons.mpr ⟨lw_p43, List.forall_mem_cons.mpr ⟨lw_p44, List.forall_mem_cons.mpr ⟨lw_p45, List.forall_mem_cons.mpr ⟨lw_p46, List.forall_mem_cons.mpr ⟨lw_p47, fun _ h => absurd h List.not_mem_nil⟩⟩⟩⟩⟩⟩⟩⟩⟩⟩⟩⟩⟩⟩⟩⟩
theorem lw_p48 : lw_okq (⟨"PutOutModel", "isSign", "(I)Z"⟩, 56) := ⟨⟨by decide +kernel, by decide +kernel⟩, List.mem_of_getElem? (i := 1069) (by decide +kernel), List.mem_of_getElem? (i := 1344) (by decide +kernel), List.mem_of_getElem? (i := 1345) (by decide +kernel)⟩
theorem lw_p49 : lw_okq (⟨"PutOutModel", "name", "()I"⟩, 56) := ⟨⟨by decide +kernel, by decide +kernel⟩, List.mem_of_getElem? (i := 1069) (by decide +kernel), List.mem_of_getElem? (i := 1348) (by decide +kernel), List.mem_of_getElem? (i := 1349) (by decide +kernel)⟩
theorem lw_p50 : lw_okq (⟨"PutOutModel", "doesSee", "(II)Z"⟩, 56) := ⟨⟨by decide +kernel, by decide +kernel⟩, List.mem_of_getElem? (i := 1069) (by decide +kernel), List.mem_of_getElem? (i := 1362) (by decide +kernel), List.mem_of_getElem? (i := 1363) (by decide +kernel)⟩
theorem lw_p51 : lw_okq (⟨"PutOutModel", "gathers", "()V"⟩, 56) := ⟨⟨by decide +kernel, by decide +kernel⟩, List.mem_of_getElem? (i := 1069) (by decide +kernel), List.mem_of_getElem? (i := 1386) (by decide +kernel), List.mem_of_getElem? (i := 1387) (by decide +kernel)⟩
theorem lw_p52 : lw_okq (⟨"PutOutModel", "badNow", "(I)I"⟩, 56) := ⟨⟨by decide +kernel, by decide +kernel⟩, List.mem_of_getElem? (i := 1069) (by decide +kernel), List.mem_of_getElem? (i := 1390) (by decide +kernel), List.mem_of_getElem? (i := 1391) (by decide +kernel)⟩
theorem lw_p53 : lw_okq (⟨"PutOutModel", "badOf", "(III)I"⟩, 56) := ⟨⟨by decide +kernel, by decide +kernel⟩, List.mem_of_getElem? (i := 1069) (by decide +kernel), List.mem_of_getElem? (i := 1394) (by decide +kernel), List.mem_of_getElem? (i := 1395) (by decide +kernel)⟩
theorem lw_p54 : lw_okq (⟨"PutOutModel", "timesBad", "(III)I"⟩, 56) := ⟨⟨by decide +kernel, by decide +kernel⟩, List.mem_of_getElem? (i := 1069) (by decide +kernel), List.mem_of_getElem? (i := 1401) (by decide +kernel), List.mem_of_getElem? (i := 1402) (by decide +kernel)⟩
theorem lw_p55 : lw_okq (⟨"PutOutModel", "missedOf", "(I)I"⟩, 56) := ⟨⟨by decide +kernel, by decide +kernel⟩, List.mem_of_getElem? (i := 1069) (by decide +kernel), List.mem_of_getElem? (i := 1405) (by decide +kernel), List.mem_of_getElem? (i := 1406) (by decide +kernel)⟩
theorem lw_p56 : lw_okq (⟨"PutOutModel", "offendsOf", "(II)I"⟩, 56) := ⟨⟨by decide +kernel, by decide +kernel⟩, List.mem_of_getElem? (i := 1069) (by decide +kernel), List.mem_of_getElem? (i := 1409) (by decide +kernel), List.mem_of_getElem? (i := 1410) (by decide +kernel)⟩
theorem lw_p57 : lw_okq (⟨"PutOutModel", "fromNow", "()V"⟩, 56) := ⟨⟨by decide +kernel, by decide +kernel⟩, List.mem_of_getElem? (i := 1069) (by decide +kernel), List.mem_of_getElem? (i := 1417) (by decide +kernel), List.mem_of_getElem? (i := 1418) (by decide +kernel)⟩
theorem lw_p58 : lw_okq (⟨"PutOutModel", "seeksFor", "(II)V"⟩, 56) := ⟨⟨by decide +kernel, by decide +kernel⟩, List.mem_of_getElem? (i := 1069) (by decide +kernel), List.mem_of_getElem? (i := 1421) (by decide +kernel), List.mem_of_getElem? (i := 1422) (by decide +kernel)⟩
theorem lw_p59 : lw_okq (⟨"PutOutModel", "begins", "()V"⟩, 56) := ⟨⟨by decide +kernel, by decide +kernel⟩, List.mem_of_getElem? (i := 1069) (by decide +kernel), List.mem_of_getElem? (i := 1425) (by decide +kernel), List.mem_of_getElem? (i := 1426) (by decide +kernel)⟩
theorem lw_p60 : lw_okq (⟨"PutOutModel", "addsDay", "(I)V"⟩, 56) := ⟨⟨by decide +kernel, by decide +kernel⟩, List.mem_of_getElem? (i := 1069) (by decide +kernel), List.mem_of_getElem? (i := 1429) (by decide +kernel), List.mem_of_getElem? (i := 1430) (by decide +kernel)⟩
theorem lw_p61 : lw_okq (⟨"PutOutModel", "goesThrough", "(IIII)V"⟩, 56) := ⟨⟨by decide +kernel, by decide +kernel⟩, List.mem_of_getElem? (i := 1069) (by decide +kernel), List.mem_of_getElem? (i := 1433) (by decide +kernel), List.mem_of_getElem? (i := 1434) (by decide +kernel)⟩
theorem lw_p62 : lw_okq (⟨"PutOutModel", "seeksOnce", "()V"⟩, 56) := ⟨⟨by decide +kernel, by decide +kernel⟩, List.mem_of_getElem? (i := 1069) (by decide +kernel), List.mem_of_getElem? (i := 1446) (by decide +kernel), List.mem_of_getElem? (i := 1447) (by decide +kernel)⟩
theorem lw_p63 : lw_okq (⟨"PutOutModel", "weeks", "()V"⟩, 56) := ⟨⟨by decide +kernel, by decide +kernel⟩, List.mem_of_getElem? (i := 1069) (by decide +kernel), List.mem_of_getElem? (i := 1455) (by decide +kernel), List.mem_of_getElem? (i := 1456) (by decide +kernel)⟩
def lw_privs_4 : List (MethodName × Nat) := [(⟨"PutOutModel", "isSign", "(I)Z"⟩, 56), (⟨"PutOutModel", "name", "()I"⟩, 56), (⟨"PutOutModel", "doesSee", "(II)Z"⟩, 56), (⟨"PutOutModel", "gathers", "()V"⟩, 56), (⟨"PutOutModel", "badNow", "(I)I"⟩, 56), (⟨"PutOutModel", "badOf", "(III)I"⟩, 56), (⟨"PutOutModel", "timesBad", "(III)I"⟩, 56), (⟨"PutOutModel", "missedOf", "(I)I"⟩, 56), (⟨"PutOutModel", "offendsOf", "(II)I"⟩, 56), (⟨"PutOutModel", "fromNow", "()V"⟩, 56), (⟨"PutOutModel", "seeksFor", "(II)V"⟩, 56), (⟨"PutOutModel", "begins", "()V"⟩, 56), (⟨"PutOutModel", "addsDay", "(I)V"⟩, 56), (⟨"PutOutModel", "goesThrough", "(IIII)V"⟩, 56), (⟨"PutOutModel", "seeksOnce", "()V"⟩, 56), (⟨"PutOutModel", "weeks", "()V"⟩, 56)]
theorem lw_r4 : ∀ q ∈ lw_privs_4, lw_okq q := List.forall_mem_cons.mpr ⟨lw_p48, List.forall_mem_cons.mpr ⟨lw_p49, List.forall_mem_cons.mpr ⟨lw_p50, List.forall_mem_cons.mpr ⟨lw_p51, List.forall_mem_cons.mpr ⟨lw_p52, List.forall_mem_cons.mpr ⟨lw_p53, List.forall_mem_cons.mpr ⟨lw_p54, List.forall_mem_cons.mpr ⟨lw_p55, List.forall_mem_cons.mpr ⟨lw_p56, List.forall_mem_cons.mpr ⟨lw_p57, List.forall_mem_cons.mpr ⟨lw_p58, List.forall_mem_cons.mpr ⟨lw_p59, List.forall_mem_cons.mpr ⟨lw_p60, List.forall_mem_cons.mpr ⟨lw_p61, List.forall_mem_cons.mpr ⟨lw_p62, List.forall_mem_cons.mpr ⟨lw_p63, fun _ h => absurd h List.not_mem_nil⟩⟩⟩⟩⟩⟩⟩⟩⟩⟩⟩⟩⟩⟩⟩⟩
theorem lw_p64 : lw_okq (⟨"PutOutModel", "keepsDays", "()V"⟩, 56) := ⟨⟨by decide +kernel, by decide +kernel⟩, List.mem_of_getElem? (i := 1069) (by decide +kernel), List.mem_of_getElem? (i := 1463) (by decide +kernel), List.mem_of_getElem? (i := 1464) (by decide +kernel)⟩
theorem lw_p65 : lw_okq (⟨"PutOutModel", "daysBack", "()V"⟩, 56) := ⟨⟨by decide +kernel, by decide +kernel⟩, List.mem_of_getElem? (i := 1069) (by decide +kernel), List.mem_of_getElem? (i := 1467) (by decide +kernel), List.mem_of_getElem? (i := 1468) (by decide +kernel)⟩
theorem lw_p66 : lw_okq (⟨"PutOutModel", "isRoom", "(I)Z"⟩, 56) := ⟨⟨by decide +kernel, by decide +kernel⟩, List.mem_of_getElem? (i := 1069) (by decide +kernel), List.mem_of_getElem? (i := 1487) (by decide +kernel), List.mem_of_getElem? (i := 1488) (by decide +kernel)⟩
theorem lw_p67 : lw_okq (⟨"PutOutModel", "leastBad", "(I)I"⟩, 56) := ⟨⟨by decide +kernel, by decide +kernel⟩, List.mem_of_getElem? (i := 1069) (by decide +kernel), List.mem_of_getElem? (i := 1491) (by decide +kernel), List.mem_of_getElem? (i := 1492) (by decide +kernel)⟩
theorem lw_p68 : lw_okq (⟨"PutOutModel", "draws", "(I)V"⟩, 56) := ⟨⟨by decide +kernel, by decide +kernel⟩, List.mem_of_getElem? (i := 1069) (by decide +kernel), List.mem_of_getElem? (i := 1508) (by decide +kernel), List.mem_of_getElem? (i := 1509) (by decide +kernel)⟩
def lw_privs_5 : List (MethodName × Nat) := [(⟨"PutOutModel", "keepsDays", "()V"⟩, 56), (⟨"PutOutModel", "daysBack", "()V"⟩, 56), (⟨"PutOutModel", "isRoom", "(I)Z"⟩, 56), (⟨"PutOutModel", "leastBad", "(I)I"⟩, 56), (⟨"PutOutModel", "draws", "(I)V"⟩, 56)]
theorem lw_r5 : ∀ q ∈ lw_privs_5, lw_okq q := List.forall_mem_cons.mpr ⟨lw_p64, List.forall_mem_cons.mpr ⟨lw_p65, List.forall_mem_cons.mpr ⟨lw_p66, List.forall_mem_cons.mpr ⟨lw_p67, List.forall_mem_cons.mpr ⟨lw_p68, fun _ h => absurd h List.not_mem_nil⟩⟩⟩⟩⟩
def lw_privs : List (MethodName × Nat) := lw_privs_1 ++ (lw_privs_2 ++ (lw_privs_3 ++ (lw_privs_4 ++ (lw_privs_5))))
def lw_tbl : List Cond := k2_sels lw_privs ++ tables_1
theorem lw_privs_ok : ∀ q ∈ lw_privs, lw_okq q := by
  show ∀ q ∈ lw_privs_1 ++ (lw_privs_2 ++ (lw_privs_3 ++ (lw_privs_4 ++ (lw_privs_5)))), lw_okq q
  exact List.forall_mem_append.mpr ⟨lw_r1, List.forall_mem_append.mpr ⟨lw_r2, List.forall_mem_append.mpr ⟨lw_r3, List.forall_mem_append.mpr ⟨lw_r4, lw_r5⟩⟩⟩⟩
end
section
theorem goodIn_r {big : List Cond} (ws : List Cond) (ps : List Nat) (hp : ws = ps.filterMap (fun i => big[i]?)) (h : ws.all goodWord = true) : GoodIn big ws := by
  intro w hw
  have h1 := List.all_eq_true.mp h w hw
  rw [hp] at hw
  obtain ⟨i, -, hi⟩ := List.mem_filterMap.mp hw
  have hm : w ∈ big := by first | exact List.mem_of_getElem? hi | exact List.getElem?_mem hi
  exact ⟨hm, good_of_word h1⟩
theorem goodIn_app {big a b : List Cond} (ha : GoodIn big a) (hb : GoodIn big b) : GoodIn big (a ++ b) := fun w h => (List.mem_append.mp h).elim (ha w) (hb w)
theorem goodIn_ca {big a b : List Cond} {c : Cond} (ha : GoodIn big (c :: a)) (hb : GoodIn big b) : GoodIn big (c :: (a ++ b)) := fun w h => (List.mem_cons.mp h).elim (fun e => ha w (List.mem_cons.mpr (Or.inl e))) (fun h => (List.mem_append.mp h).elim (fun h => ha w (List.mem_cons.mpr (Or.inr h))) (hb w))
theorem goodIn_sub {big ws : List Cond} (hm : ∀ w ∈ ws, w ∈ big) (h : ws.all goodWord = true) : GoodIn big ws := fun w hw => ⟨hm w hw, good_of_word (List.all_eq_true.mp h w hw)⟩
def RX0 : String := "PutOut$Broken"
def TX0 : u_T := fun k => match k with
  | 0 => ("PutOut$Thing", "kind", "I", true)
  | 1 => ("PutOut$Thing", "index", "I", true)
  | 2 => ("PutOut$Thing", "number", "I", false)
  | 3 => ("PutOut$Thing", "giver", "I", false)
  | 4 => ("PutOut$Thing", "look", "I", false)
  | 5 => ("PutOut$Thing", "place", "I", false)
  | 6 => ("PutOut$Thing", "moves", "[I", true)
  | 7 => ("PutOut$Thing", "ugly", "[I", true)
  | 8 => ("PutOut$Thing", "minds", "[I", true)
  | 9 => ("PutOut$Thing", "offences", "[I", true)
  | 10 => ("PutOut$Thing", "lack", "I", false)
  | 11 => ("PutOut$Thing", "barred", "[I", true)
  | _ => ("PutOut$Thing", "price", "[I", true)
def tyX0 : Nat → FieldType := fun k => match k with
  | 0 => .int
  | 1 => .int
  | 2 => .int
  | 3 => .int
  | 4 => .int
  | 5 => .int
  | 6 => .array .int
  | 7 => .array .int
  | 8 => .array .int
  | 9 => .array .int
  | 10 => .int
  | 11 => .array .int
  | _ => .array .int
abbrev wsX00 : List Cond := u_ws RX0 TX0 13
theorem nmX0 : ∀ a, a < 13 → ∀ b, b < 13 → a ≠ b → (TX0 a).2.1 ≠ (TX0 b).2.1 := by decide +kernel
theorem tyX0_ok : ∀ k, k < 13 → parseFieldDescriptor (TX0 k).2.2.1 = some (tyX0 k) := by decide +kernel
abbrev cX0_init : ByteArray := prog_2_method_1_code
def yX0_init : MethodName := ⟨RX0, "<init>", "(IIII)V"⟩
abbrev cX0_missed : ByteArray := prog_2_method_2_code
def yX0_missed : MethodName := ⟨RX0, "missed", "()I"⟩
abbrev cX0_offends : ByteArray := prog_2_method_3_code
def yX0_offends : MethodName := ⟨RX0, "offends", "(I)I"⟩
def RX1 : String := "PutOut$Clock"
def TX1 : u_T := fun k => match k with
  | 0 => ("PutOut$Thing", "kind", "I", true)
  | 1 => ("PutOut$Thing", "index", "I", true)
  | 2 => ("PutOut$Thing", "number", "I", false)
  | 3 => ("PutOut$Thing", "giver", "I", false)
  | 4 => ("PutOut$Thing", "look", "I", false)
  | 5 => ("PutOut$Thing", "place", "I", false)
  | 6 => ("PutOut$Thing", "moves", "[I", true)
  | 7 => ("PutOut$Thing", "ugly", "[I", true)
  | 8 => ("PutOut$Thing", "minds", "[I", true)
  | 9 => ("PutOut$Thing", "offences", "[I", true)
  | 10 => ("PutOut$Thing", "lack", "I", false)
  | 11 => ("PutOut$Thing", "barred", "[I", true)
  | _ => ("PutOut$Thing", "price", "[I", true)
def tyX1 : Nat → FieldType := fun k => match k with
  | 0 => .int
  | 1 => .int
  | 2 => .int
  | 3 => .int
  | 4 => .int
  | 5 => .int
  | 6 => .array .int
  | 7 => .array .int
  | 8 => .array .int
  | 9 => .array .int
  | 10 => .int
  | 11 => .array .int
  | _ => .array .int
abbrev wsX10 : List Cond := u_ws RX1 TX1 13
theorem nmX1 : ∀ a, a < 13 → ∀ b, b < 13 → a ≠ b → (TX1 a).2.1 ≠ (TX1 b).2.1 := by decide +kernel
theorem tyX1_ok : ∀ k, k < 13 → parseFieldDescriptor (TX1 k).2.2.1 = some (tyX1 k) := by decide +kernel
abbrev cX1_init : ByteArray := prog_3_method_1_code
def yX1_init : MethodName := ⟨RX1, "<init>", "(IIII)V"⟩
abbrev cX1_stands : ByteArray := prog_3_method_2_code
def yX1_stands : MethodName := ⟨RX1, "stands", "(I)Z"⟩
abbrev cX1_missed : ByteArray := prog_3_method_3_code
def yX1_missed : MethodName := ⟨RX1, "missed", "()I"⟩
abbrev cX1_offends : ByteArray := prog_3_method_4_code
def yX1_offends : MethodName := ⟨RX1, "offends", "(I)I"⟩
def RX2 : String := "PutOut$House"
def TX2 : u_T := fun k => match k with
  | 0 => ("PutOut$House", "sight", "[I", true)
  | 1 => ("PutOut$House", "seats", "[I", true)
  | 2 => ("PutOut$House", "days", "[I", true)
  | 3 => ("PutOut$House", "things", "[LPutOut$Thing;", true)
  | 4 => ("PutOut$House", "count", "I", false)
  | _ => ("PutOut$House", "rule", "I", false)
def tyX2 : Nat → FieldType := fun k => match k with
  | 0 => .array .int
  | 1 => .array .int
  | 2 => .array .int
  | 3 => .array (.object "PutOut$Thing")
  | 4 => .int
  | _ => .int
abbrev wsX20 : List Cond := u_ws RX2 TX2 6
theorem nmX2 : ∀ a, a < 6 → ∀ b, b < 6 → a ≠ b → (TX2 a).2.1 ≠ (TX2 b).2.1 := by decide +kernel
theorem tyX2_ok : ∀ k, k < 6 → parseFieldDescriptor (TX2 k).2.2.1 = some (tyX2 k) := by decide +kernel
abbrev cX2_init : ByteArray := prog_4_method_1_code
def yX2_init : MethodName := ⟨RX2, "<init>", "()V"⟩
abbrev cX2_has : ByteArray := prog_4_method_2_code
def yX2_has : MethodName := ⟨RX2, "has", "(I)Z"⟩
abbrev cX2_isTaken : ByteArray := prog_4_method_3_code
def yX2_isTaken : MethodName := ⟨RX2, "isTaken", "(I)Z"⟩
abbrev cX2_howManyArePut : ByteArray := prog_4_method_4_code
def yX2_howManyArePut : MethodName := ⟨RX2, "howManyArePut", "()I"⟩
abbrev cX2_take : ByteArray := prog_4_method_5_code
def yX2_take : MethodName := ⟨RX2, "take", "(LPutOut$House;)V"⟩
def RX3 : String := "PutOut$Picture"
def TX3 : u_T := fun k => match k with
  | 0 => ("PutOut$Thing", "kind", "I", true)
  | 1 => ("PutOut$Thing", "index", "I", true)
  | 2 => ("PutOut$Thing", "number", "I", false)
  | 3 => ("PutOut$Thing", "giver", "I", false)
  | 4 => ("PutOut$Thing", "look", "I", false)
  | 5 => ("PutOut$Thing", "place", "I", false)
  | 6 => ("PutOut$Thing", "moves", "[I", true)
  | 7 => ("PutOut$Thing", "ugly", "[I", true)
  | 8 => ("PutOut$Thing", "minds", "[I", true)
  | 9 => ("PutOut$Thing", "offences", "[I", true)
  | 10 => ("PutOut$Thing", "lack", "I", false)
  | 11 => ("PutOut$Thing", "barred", "[I", true)
  | _ => ("PutOut$Thing", "price", "[I", true)
def tyX3 : Nat → FieldType := fun k => match k with
  | 0 => .int
  | 1 => .int
  | 2 => .int
  | 3 => .int
  | 4 => .int
  | 5 => .int
  | 6 => .array .int
  | 7 => .array .int
  | 8 => .array .int
  | 9 => .array .int
  | 10 => .int
  | 11 => .array .int
  | _ => .array .int
abbrev wsX30 : List Cond := u_ws RX3 TX3 13
theorem nmX3 : ∀ a, a < 13 → ∀ b, b < 13 → a ≠ b → (TX3 a).2.1 ≠ (TX3 b).2.1 := by decide +kernel
theorem tyX3_ok : ∀ k, k < 13 → parseFieldDescriptor (TX3 k).2.2.1 = some (tyX3 k) := by decide +kernel
abbrev cX3_init : ByteArray := prog_5_method_1_code
def yX3_init : MethodName := ⟨RX3, "<init>", "(IIII)V"⟩
abbrev cX3_stands : ByteArray := prog_5_method_2_code
def yX3_stands : MethodName := ⟨RX3, "stands", "(I)Z"⟩
def RX4 : String := "PutOut$Planner"
def TX4 : u_T := fun k => match k with
  | 0 => ("PutOut$Planner", "things", "[LPutOut$Thing;", false)
  | 1 => ("PutOut$Planner", "count", "I", false)
  | 2 => ("PutOut$Planner", "absent", "I", false)
  | 3 => ("PutOut$Planner", "sight", "[I", true)
  | 4 => ("PutOut$Planner", "seats", "[I", true)
  | 5 => ("PutOut$Planner", "days", "[I", true)
  | 6 => ("PutOut$Planner", "viewers", "[I", true)
  | 7 => ("PutOut$Planner", "room", "[I", true)
  | 8 => ("PutOut$Planner", "found", "[I", true)
  | 9 => ("PutOut$Planner", "movedThings", "I", false)
  | 10 => ("PutOut$Planner", "movedDays", "I", false)
  | _ => ("PutOut$Planner", "least", "[[I", true)
def tyX4 : Nat → FieldType := fun k => match k with
  | 0 => .array (.object "PutOut$Thing")
  | 1 => .int
  | 2 => .int
  | 3 => .array .int
  | 4 => .array .int
  | 5 => .array .int
  | 6 => .array .int
  | 7 => .array .int
  | 8 => .array .int
  | 9 => .int
  | 10 => .int
  | _ => .array (.array .int)
abbrev wsX40 : List Cond := u_ws RX4 TX4 12
theorem nmX4 : ∀ a, a < 12 → ∀ b, b < 12 → a ≠ b → (TX4 a).2.1 ≠ (TX4 b).2.1 := by decide +kernel
theorem tyX4_ok : ∀ k, k < 12 → parseFieldDescriptor (TX4 k).2.2.1 = some (tyX4 k) := by decide +kernel
abbrev cX4_init : ByteArray := prog_6_method_1_code
def yX4_init : MethodName := ⟨RX4, "<init>", "()V"⟩
abbrev cX4_start : ByteArray := prog_6_method_2_code
def yX4_start : MethodName := ⟨RX4, "start", "(LPutOut$House;LPutOut$Text;)V"⟩
abbrev cX4_sits : ByteArray := prog_6_method_3_code
def yX4_sits : MethodName := ⟨RX4, "sits", "(II)V"⟩
abbrev cX4_lookAround : ByteArray := prog_6_method_4_code
def yX4_lookAround : MethodName := ⟨RX4, "lookAround", "()V"⟩
abbrev cX4_enterNow : ByteArray := prog_6_method_5_code
def yX4_enterNow : MethodName := ⟨RX4, "enterNow", "()V"⟩
abbrev cX4_enters : ByteArray := prog_6_method_6_code
def yX4_enters : MethodName := ⟨RX4, "enters", "([I)Z"⟩
abbrev cX4_badDay : ByteArray := prog_6_method_7_code
def yX4_badDay : MethodName := ⟨RX4, "badDay", "(I)I"⟩
abbrev cX4_thingsThat : ByteArray := prog_6_method_8_code
def yX4_thingsThat : MethodName := ⟨RX4, "thingsThat", "(II)I"⟩
abbrev cX4_surprised : ByteArray := prog_6_method_9_code
def yX4_surprised : MethodName := ⟨RX4, "surprised", "()I"⟩
abbrev cX4_expected : ByteArray := prog_6_method_10_code
def yX4_expected : MethodName := ⟨RX4, "expected", "()I"⟩
abbrev cX4_bestFor : ByteArray := prog_6_method_11_code
def yX4_bestFor : MethodName := ⟨RX4, "bestFor", "(II)I"⟩
abbrev cX4_onceCost : ByteArray := prog_6_method_12_code
def yX4_onceCost : MethodName := ⟨RX4, "onceCost", "()I"⟩
abbrev cX4_weekCost : ByteArray := prog_6_method_13_code
def yX4_weekCost : MethodName := ⟨RX4, "weekCost", "()I"⟩
abbrev cX4_leaveOut : ByteArray := prog_6_method_14_code
def yX4_leaveOut : MethodName := ⟨RX4, "leaveOut", "([II)V"⟩
abbrev cX4_giveAway : ByteArray := prog_6_method_15_code
def yX4_giveAway : MethodName := ⟨RX4, "giveAway", "(I)V"⟩
abbrev cX4_lackOf : ByteArray := prog_6_method_16_code
def yX4_lackOf : MethodName := ⟨RX4, "lackOf", "(I)I"⟩
abbrev cX4_draw : ByteArray := prog_6_method_17_code
def yX4_draw : MethodName := ⟨RX4, "draw", "(I)V"⟩
abbrev cX4_enterFound : ByteArray := prog_6_method_18_code
def yX4_enterFound : MethodName := ⟨RX4, "enterFound", "()I"⟩
abbrev cX4_priceNothing : ByteArray := prog_6_method_19_code
def yX4_priceNothing : MethodName := ⟨RX4, "priceNothing", "()V"⟩
abbrev cX4_priceMoves : ByteArray := prog_6_method_20_code
def yX4_priceMoves : MethodName := ⟨RX4, "priceMoves", "()V"⟩
abbrev cX4_priceDay : ByteArray := prog_6_method_21_code
def yX4_priceDay : MethodName := ⟨RX4, "priceDay", "(I)V"⟩
abbrev cX4_search : ByteArray := prog_6_method_22_code
def yX4_search : MethodName := ⟨RX4, "search", "(I)I"⟩
abbrev cX4_fillLeast : ByteArray := prog_6_method_23_code
def yX4_fillLeast : MethodName := ⟨RX4, "fillLeast", "(IIZ)V"⟩
abbrev cX4_follow : ByteArray := prog_6_method_24_code
def yX4_follow : MethodName := ⟨RX4, "follow", "(IZ)V"⟩
abbrev cX4_costFrom : ByteArray := prog_6_method_25_code
def yX4_costFrom : MethodName := ⟨RX4, "costFrom", "(IIIIZ)I"⟩
abbrev cX4_bitOf : ByteArray := prog_6_method_26_code
def yX4_bitOf : MethodName := ⟨RX4, "bitOf", "(I)I"⟩
def RX5 : String := "PutOut$Portrait"
def TX5 : u_T := fun k => match k with
  | 0 => ("PutOut$Thing", "kind", "I", true)
  | 1 => ("PutOut$Thing", "index", "I", true)
  | 2 => ("PutOut$Thing", "number", "I", false)
  | 3 => ("PutOut$Thing", "giver", "I", false)
  | 4 => ("PutOut$Thing", "look", "I", false)
  | 5 => ("PutOut$Thing", "place", "I", false)
  | 6 => ("PutOut$Thing", "moves", "[I", true)
  | 7 => ("PutOut$Thing", "ugly", "[I", true)
  | 8 => ("PutOut$Thing", "minds", "[I", true)
  | 9 => ("PutOut$Thing", "offences", "[I", true)
  | 10 => ("PutOut$Thing", "lack", "I", false)
  | 11 => ("PutOut$Thing", "barred", "[I", true)
  | _ => ("PutOut$Thing", "price", "[I", true)
def tyX5 : Nat → FieldType := fun k => match k with
  | 0 => .int
  | 1 => .int
  | 2 => .int
  | 3 => .int
  | 4 => .int
  | 5 => .int
  | 6 => .array .int
  | 7 => .array .int
  | 8 => .array .int
  | 9 => .array .int
  | 10 => .int
  | 11 => .array .int
  | _ => .array .int
abbrev wsX50 : List Cond := u_ws RX5 TX5 13
theorem nmX5 : ∀ a, a < 13 → ∀ b, b < 13 → a ≠ b → (TX5 a).2.1 ≠ (TX5 b).2.1 := by decide +kernel
theorem tyX5_ok : ∀ k, k < 13 → parseFieldDescriptor (TX5 k).2.2.1 = some (tyX5 k) := by decide +kernel
abbrev cX5_init : ByteArray := prog_7_method_1_code
def yX5_init : MethodName := ⟨RX5, "<init>", "(IIII)V"⟩
abbrev cX5_stands : ByteArray := prog_7_method_2_code
def yX5_stands : MethodName := ⟨RX5, "stands", "(I)Z"⟩
abbrev cX5_missed : ByteArray := prog_7_method_3_code
def yX5_missed : MethodName := ⟨RX5, "missed", "()I"⟩
abbrev cX5_offends : ByteArray := prog_7_method_4_code
def yX5_offends : MethodName := ⟨RX5, "offends", "(I)I"⟩
def RX6 : String := "PutOut$Reader"
def TX6 : u_T := fun k => match k with
  | 0 => ("PutOut$Reader", "bytes", "[I", false)
  | 1 => ("PutOut$Reader", "size", "I", false)
  | 2 => ("PutOut$Reader", "at", "I", false)
  | 3 => ("PutOut$Reader", "start", "I", false)
  | 4 => ("PutOut$Reader", "token", "I", false)
  | 5 => ("PutOut$Reader", "value", "I", false)
  | 6 => ("PutOut$Reader", "fault", "I", false)
  | 7 => ("PutOut$Reader", "code", "[I", true)
  | 8 => ("PutOut$Reader", "length", "I", false)
  | _ => ("PutOut$Reader", "starts", "[I", true)
def tyX6 : Nat → FieldType := fun k => match k with
  | 0 => .array .int
  | 1 => .int
  | 2 => .int
  | 3 => .int
  | 4 => .int
  | 5 => .int
  | 6 => .int
  | 7 => .array .int
  | 8 => .int
  | _ => .array .int
abbrev wsX60 : List Cond := u_ws RX6 TX6 10
theorem nmX6 : ∀ a, a < 10 → ∀ b, b < 10 → a ≠ b → (TX6 a).2.1 ≠ (TX6 b).2.1 := by decide +kernel
theorem tyX6_ok : ∀ k, k < 10 → parseFieldDescriptor (TX6 k).2.2.1 = some (tyX6 k) := by decide +kernel
abbrev cX6_init : ByteArray := prog_8_method_1_code
def yX6_init : MethodName := ⟨RX6, "<init>", "()V"⟩
abbrev cX6_read : ByteArray := prog_8_method_2_code
def yX6_read : MethodName := ⟨RX6, "read", "([II)I"⟩
abbrev cX6_made : ByteArray := prog_8_method_3_code
def yX6_made : MethodName := ⟨RX6, "made", "()LPutOut$Text;"⟩
abbrev cX6_either : ByteArray := prog_8_method_4_code
def yX6_either : MethodName := ⟨RX6, "either", "(I)V"⟩
abbrev cX6_both : ByteArray := prog_8_method_5_code
def yX6_both : MethodName := ⟨RX6, "both", "(I)V"⟩
abbrev cX6_negation : ByteArray := prog_8_method_6_code
def yX6_negation : MethodName := ⟨RX6, "negation", "(I)V"⟩
abbrev cX6_comparison : ByteArray := prog_8_method_7_code
def yX6_comparison : MethodName := ⟨RX6, "comparison", "(I)V"⟩
abbrev cX6_sum : ByteArray := prog_8_method_8_code
def yX6_sum : MethodName := ⟨RX6, "sum", "(I)V"⟩
abbrev cX6_term : ByteArray := prog_8_method_9_code
def yX6_term : MethodName := ⟨RX6, "term", "(I)V"⟩
abbrev cX6_one : ByteArray := prog_8_method_10_code
def yX6_one : MethodName := ⟨RX6, "one", "(I)V"⟩
abbrev cX6_emit : ByteArray := prog_8_method_11_code
def yX6_emit : MethodName := ⟨RX6, "emit", "(I)V"⟩
abbrev cX6_expect : ByteArray := prog_8_method_12_code
def yX6_expect : MethodName := ⟨RX6, "expect", "(I)V"⟩
abbrev cX6_fail : ByteArray := prog_8_method_13_code
def yX6_fail : MethodName := ⟨RX6, "fail", "()V"⟩
abbrev cX6_advance : ByteArray := prog_8_method_14_code
def yX6_advance : MethodName := ⟨RX6, "advance", "()V"⟩
abbrev cX6_word : ByteArray := prog_8_method_15_code
def yX6_word : MethodName := ⟨RX6, "word", "()I"⟩
abbrev cX6_key : ByteArray := prog_8_method_16_code
def yX6_key : MethodName := ⟨RX6, "key", "()I"⟩
abbrev cX6_name : ByteArray := prog_8_method_17_code
def yX6_name : MethodName := ⟨RX6, "name", "()I"⟩
abbrev cX6_spells : ByteArray := prog_8_method_18_code
def yX6_spells : MethodName := ⟨RX6, "spells", "(Ljava/lang/String;)Z"⟩
abbrev cX6_digits : ByteArray := prog_8_method_19_code
def yX6_digits : MethodName := ⟨RX6, "digits", "()I"⟩
abbrev cX6_sign : ByteArray := prog_8_method_20_code
def yX6_sign : MethodName := ⟨RX6, "sign", "(I)I"⟩
abbrev cX6_isLetter : ByteArray := prog_8_method_21_code
def yX6_isLetter : MethodName := ⟨RX6, "isLetter", "(I)Z"⟩
abbrev cX6_isDigit : ByteArray := prog_8_method_22_code
def yX6_isDigit : MethodName := ⟨RX6, "isDigit", "(I)Z"⟩
def RX7 : String := "PutOut$Sheet"
def TX7 : u_T := fun k => match k with
  | 0 => ("PutOut$Sheet", "sort", "I", false)
  | 1 => ("PutOut$Sheet", "size", "I", false)
  | _ => ("PutOut$Sheet", "cells", "[I", true)
def tyX7 : Nat → FieldType := fun k => match k with
  | 0 => .int
  | 1 => .int
  | _ => .array .int
abbrev wsX70 : List Cond := u_ws RX7 TX7 3
theorem nmX7 : ∀ a, a < 3 → ∀ b, b < 3 → a ≠ b → (TX7 a).2.1 ≠ (TX7 b).2.1 := by decide +kernel
theorem tyX7_ok : ∀ k, k < 3 → parseFieldDescriptor (TX7 k).2.2.1 = some (tyX7 k) := by decide +kernel
abbrev cX7_init : ByteArray := prog_9_method_1_code
def yX7_init : MethodName := ⟨RX7, "<init>", "()V"⟩
abbrev cX7_become : ByteArray := prog_9_method_2_code
def yX7_become : MethodName := ⟨RX7, "become", "(II)V"⟩
abbrev cX7_narrowed : ByteArray := prog_9_method_3_code
def yX7_narrowed : MethodName := ⟨RX7, "narrowed", "(I)I"⟩
abbrev cX7_holds : ByteArray := prog_9_method_4_code
def yX7_holds : MethodName := ⟨RX7, "holds", "(II)Z"⟩
def RX8 : String := "PutOut$Text"
def TX8 : u_T := fun k => match k with
  | 0 => ("PutOut$Text", "code", "[I", true)
  | 1 => ("PutOut$Text", "starts", "[I", true)
  | 2 => ("PutOut$Text", "stack", "[I", true)
  | _ => ("PutOut$Text", "top", "I", false)
def tyX8 : Nat → FieldType := fun k => match k with
  | 0 => .array .int
  | 1 => .array .int
  | 2 => .array .int
  | _ => .int
abbrev wsX80 : List Cond := u_ws RX8 TX8 4
theorem nmX8 : ∀ a, a < 4 → ∀ b, b < 4 → a ≠ b → (TX8 a).2.1 ≠ (TX8 b).2.1 := by decide +kernel
theorem tyX8_ok : ∀ k, k < 4 → parseFieldDescriptor (TX8 k).2.2.1 = some (tyX8 k) := by decide +kernel
abbrev cX8_init : ByteArray := prog_10_method_1_code
def yX8_init : MethodName := ⟨RX8, "<init>", "([II[I)V"⟩
abbrev cX8_tells : ByteArray := prog_10_method_2_code
def yX8_tells : MethodName := ⟨RX8, "tells", "(ILPutOut$Thing;II)I"⟩
abbrev cX8_push : ByteArray := prog_10_method_3_code
def yX8_push : MethodName := ⟨RX8, "push", "(I)V"⟩
abbrev cX8_pop : ByteArray := prog_10_method_4_code
def yX8_pop : MethodName := ⟨RX8, "pop", "()I"⟩
abbrev cX8_named : ByteArray := prog_10_method_5_code
def yX8_named : MethodName := ⟨RX8, "named", "(ILPutOut$Thing;II)I"⟩
abbrev cX8_joined : ByteArray := prog_10_method_6_code
def yX8_joined : MethodName := ⟨RX8, "joined", "(III)I"⟩
def RX9 : String := "PutOut$Thing"
def TX9 : u_T := fun k => match k with
  | 0 => ("PutOut$Thing", "kind", "I", true)
  | 1 => ("PutOut$Thing", "index", "I", true)
  | 2 => ("PutOut$Thing", "number", "I", false)
  | 3 => ("PutOut$Thing", "giver", "I", false)
  | 4 => ("PutOut$Thing", "look", "I", false)
  | 5 => ("PutOut$Thing", "place", "I", false)
  | 6 => ("PutOut$Thing", "moves", "[I", true)
  | 7 => ("PutOut$Thing", "ugly", "[I", true)
  | 8 => ("PutOut$Thing", "minds", "[I", true)
  | 9 => ("PutOut$Thing", "offences", "[I", true)
  | 10 => ("PutOut$Thing", "lack", "I", false)
  | 11 => ("PutOut$Thing", "barred", "[I", true)
  | _ => ("PutOut$Thing", "price", "[I", true)
def tyX9 : Nat → FieldType := fun k => match k with
  | 0 => .int
  | 1 => .int
  | 2 => .int
  | 3 => .int
  | 4 => .int
  | 5 => .int
  | 6 => .array .int
  | 7 => .array .int
  | 8 => .array .int
  | 9 => .array .int
  | 10 => .int
  | 11 => .array .int
  | _ => .array .int
abbrev wsX90 : List Cond := u_ws RX9 TX9 13
theorem nmX9 : ∀ a, a < 13 → ∀ b, b < 13 → a ≠ b → (TX9 a).2.1 ≠ (TX9 b).2.1 := by decide +kernel
theorem tyX9_ok : ∀ k, k < 13 → parseFieldDescriptor (TX9 k).2.2.1 = some (tyX9 k) := by decide +kernel
abbrev cX9_init : ByteArray := prog_11_method_1_code
def yX9_init : MethodName := ⟨RX9, "<init>", "(IIII)V"⟩
abbrev cX9_stands : ByteArray := prog_11_method_2_code
def yX9_stands : MethodName := ⟨RX9, "stands", "(I)Z"⟩
abbrev cX9_missed : ByteArray := prog_11_method_3_code
def yX9_missed : MethodName := ⟨RX9, "missed", "()I"⟩
abbrev cX9_offends : ByteArray := prog_11_method_4_code
def yX9_offends : MethodName := ⟨RX9, "offends", "(I)I"⟩
abbrev cX9_change : ByteArray := prog_11_method_5_code
def yX9_change : MethodName := ⟨RX9, "change", "(II)I"⟩
abbrev cX9_take : ByteArray := prog_11_method_6_code
def yX9_take : MethodName := ⟨RX9, "take", "(LPutOut$Thing;)V"⟩
abbrev cX9_movesTo : ByteArray := prog_11_method_7_code
def yX9_movesTo : MethodName := ⟨RX9, "movesTo", "(LPutOut$Text;I)I"⟩
abbrev cX9_learn : ByteArray := prog_11_method_8_code
def yX9_learn : MethodName := ⟨RX9, "learn", "(LPutOut$Text;)V"⟩
abbrev cX9_isBarred : ByteArray := prog_11_method_9_code
def yX9_isBarred : MethodName := ⟨RX9, "isBarred", "(I)Z"⟩
abbrev cX9_offenceTo : ByteArray := prog_11_method_10_code
def yX9_offenceTo : MethodName := ⟨RX9, "offenceTo", "(I)I"⟩
abbrev cX9_isMissed : ByteArray := prog_11_method_11_code
def yX9_isMissed : MethodName := ⟨RX9, "isMissed", "(II)Z"⟩
abbrev cX9_isOffending : ByteArray := prog_11_method_12_code
def yX9_isOffending : MethodName := ⟨RX9, "isOffending", "(II)Z"⟩
abbrev cX9_harm : ByteArray := prog_11_method_13_code
def yX9_harm : MethodName := ⟨RX9, "harm", "(II)I"⟩
abbrev cX9_bad : ByteArray := prog_11_method_14_code
def yX9_bad : MethodName := ⟨RX9, "bad", "(III)I"⟩
abbrev cX9_lackFor : ByteArray := prog_11_method_15_code
def yX9_lackFor : MethodName := ⟨RX9, "lackFor", "(I)I"⟩
abbrev cX9_priceNothing : ByteArray := prog_11_method_16_code
def yX9_priceNothing : MethodName := ⟨RX9, "priceNothing", "(Z)V"⟩
abbrev cX9_priceMoves : ByteArray := prog_11_method_17_code
def yX9_priceMoves : MethodName := ⟨RX9, "priceMoves", "(I)V"⟩
abbrev cX9_priceDay : ByteArray := prog_11_method_18_code
def yX9_priceDay : MethodName := ⟨RX9, "priceDay", "(I[I)V"⟩
def RX10 : String := "PutOut$Vase"
def TX10 : u_T := fun k => match k with
  | 0 => ("PutOut$Thing", "kind", "I", true)
  | 1 => ("PutOut$Thing", "index", "I", true)
  | 2 => ("PutOut$Thing", "number", "I", false)
  | 3 => ("PutOut$Thing", "giver", "I", false)
  | 4 => ("PutOut$Thing", "look", "I", false)
  | 5 => ("PutOut$Thing", "place", "I", false)
  | 6 => ("PutOut$Thing", "moves", "[I", true)
  | 7 => ("PutOut$Thing", "ugly", "[I", true)
  | 8 => ("PutOut$Thing", "minds", "[I", true)
  | 9 => ("PutOut$Thing", "offences", "[I", true)
  | 10 => ("PutOut$Thing", "lack", "I", false)
  | 11 => ("PutOut$Thing", "barred", "[I", true)
  | _ => ("PutOut$Thing", "price", "[I", true)
def tyX10 : Nat → FieldType := fun k => match k with
  | 0 => .int
  | 1 => .int
  | 2 => .int
  | 3 => .int
  | 4 => .int
  | 5 => .int
  | 6 => .array .int
  | 7 => .array .int
  | 8 => .array .int
  | 9 => .array .int
  | 10 => .int
  | 11 => .array .int
  | _ => .array .int
abbrev wsX100 : List Cond := u_ws RX10 TX10 13
theorem nmX10 : ∀ a, a < 13 → ∀ b, b < 13 → a ≠ b → (TX10 a).2.1 ≠ (TX10 b).2.1 := by decide +kernel
theorem tyX10_ok : ∀ k, k < 13 → parseFieldDescriptor (TX10 k).2.2.1 = some (tyX10 k) := by decide +kernel
abbrev cX10_init : ByteArray := prog_12_method_1_code
def yX10_init : MethodName := ⟨RX10, "<init>", "(IIII)V"⟩
abbrev cX10_missed : ByteArray := prog_12_method_2_code
def yX10_missed : MethodName := ⟨RX10, "missed", "()I"⟩
abbrev cX10_offends : ByteArray := prog_12_method_3_code
def yX10_offends : MethodName := ⟨RX10, "offends", "(I)I"⟩
def RX11 : String := "PutOut"
def TX11 : u_T := fun k => match k with
  | 0 => ("PutOut", "house", "LPutOut$House;", true)
  | 1 => ("PutOut", "kept", "LPutOut$House;", false)
  | 2 => ("PutOut", "tape", "[I", true)
  | 3 => ("PutOut", "fed", "I", false)
  | 4 => ("PutOut", "reader", "LPutOut$Reader;", true)
  | 5 => ("PutOut", "texts", "[LPutOut$Text;", true)
  | 6 => ("PutOut", "textCount", "I", false)
  | 7 => ("PutOut", "sheets", "[LPutOut$Sheet;", true)
  | _ => ("PutOut", "planner", "LPutOut$Planner;", true)
def tyX11 : Nat → FieldType := fun k => match k with
  | 0 => .object "PutOut$House"
  | 1 => .object "PutOut$House"
  | 2 => .array .int
  | 3 => .int
  | 4 => .object "PutOut$Reader"
  | 5 => .array (.object "PutOut$Text")
  | 6 => .int
  | 7 => .array (.object "PutOut$Sheet")
  | _ => .object "PutOut$Planner"
abbrev wsX110 : List Cond := u_ws RX11 TX11 9
theorem nmX11 : ∀ a, a < 9 → ∀ b, b < 9 → a ≠ b → (TX11 a).2.1 ≠ (TX11 b).2.1 := by decide +kernel
theorem tyX11_ok : ∀ k, k < 9 → parseFieldDescriptor (TX11 k).2.2.1 = some (tyX11 k) := by decide +kernel
abbrev cX11_init : ByteArray := prog_1_method_1_code
def yX11_init : MethodName := ⟨RX11, "<init>", "()V"⟩
abbrev cX11_set : ByteArray := prog_1_method_2_code
def yX11_set : MethodName := ⟨RX11, "set", "(III)I"⟩
abbrev cX11_thing : ByteArray := prog_1_method_3_code
def yX11_thing : MethodName := ⟨RX11, "thing", "(III)I"⟩
abbrev cX11_put : ByteArray := prog_1_method_4_code
def yX11_put : MethodName := ⟨RX11, "put", "(II)I"⟩
abbrev cX11_told : ByteArray := prog_1_method_5_code
def yX11_told : MethodName := ⟨RX11, "told", "(II)I"⟩
abbrev cX11_feed : ByteArray := prog_1_method_6_code
def yX11_feed : MethodName := ⟨RX11, "feed", "(I)I"⟩
abbrev cX11_text : ByteArray := prog_1_method_7_code
def yX11_text : MethodName := ⟨RX11, "text", "()I"⟩
abbrev cX11_force : ByteArray := prog_1_method_8_code
def yX11_force : MethodName := ⟨RX11, "force", "(I)I"⟩
abbrev cX11_day : ByteArray := prog_1_method_9_code
def yX11_day : MethodName := ⟨RX11, "day", "(II)I"⟩
abbrev cX11_best : ByteArray := prog_1_method_10_code
def yX11_best : MethodName := ⟨RX11, "best", "(III)I"⟩
abbrev cX11_tidy : ByteArray := prog_1_method_11_code
def yX11_tidy : MethodName := ⟨RX11, "tidy", "(I)I"⟩
abbrev cX11_once : ByteArray := prog_1_method_12_code
def yX11_once : MethodName := ⟨RX11, "once", "(I)I"⟩
abbrev cX11_week : ByteArray := prog_1_method_13_code
def yX11_week : MethodName := ⟨RX11, "week", "(I)I"⟩
abbrev cX11_dearest : ByteArray := prog_1_method_14_code
def yX11_dearest : MethodName := ⟨RX11, "dearest", "(I)I"⟩
abbrev cX11_give : ByteArray := prog_1_method_15_code
def yX11_give : MethodName := ⟨RX11, "give", "()I"⟩
abbrev cX11_seat : ByteArray := prog_1_method_16_code
def yX11_seat : MethodName := ⟨RX11, "seat", "(II)I"⟩
abbrev cX11_seen : ByteArray := prog_1_method_17_code
def yX11_seen : MethodName := ⟨RX11, "seen", "(II)I"⟩
abbrev cX11_film : ByteArray := prog_1_method_18_code
def yX11_film : MethodName := ⟨RX11, "film", "(II)I"⟩
abbrev cX11_drawn : ByteArray := prog_1_method_19_code
def yX11_drawn : MethodName := ⟨RX11, "drawn", "(I)I"⟩
abbrev cX11_chance : ByteArray := prog_1_method_20_code
def yX11_chance : MethodName := ⟨RX11, "chance", "(III)J"⟩
abbrev cX11_image : ByteArray := prog_1_method_21_code
def yX11_image : MethodName := ⟨RX11, "image", "()I"⟩
abbrev cX11_back : ByteArray := prog_1_method_22_code
def yX11_back : MethodName := ⟨RX11, "back", "()I"⟩
abbrev cX11_count : ByteArray := prog_1_method_23_code
def yX11_count : MethodName := ⟨RX11, "count", "(I)I"⟩
abbrev cX11_sheet : ByteArray := prog_1_method_24_code
def yX11_sheet : MethodName := ⟨RX11, "sheet", "(III)I"⟩
abbrev cX11_cell : ByteArray := prog_1_method_25_code
def yX11_cell : MethodName := ⟨RX11, "cell", "(III)I"⟩
abbrev cX11_copy : ByteArray := prog_1_method_26_code
def yX11_copy : MethodName := ⟨RX11, "copy", "(IIIII)I"⟩
abbrev cX11_things : ByteArray := prog_1_method_27_code
def yX11_things : MethodName := ⟨RX11, "things", "(IIII)I"⟩
abbrev cX11_taken : ByteArray := prog_1_method_28_code
def yX11_taken : MethodName := ⟨RX11, "taken", "(II)I"⟩
abbrev cX11_rule : ByteArray := prog_1_method_29_code
def yX11_rule : MethodName := ⟨RX11, "rule", "()LPutOut$Text;"⟩
abbrev cX11_isBelow : ByteArray := prog_1_method_30_code
def yX11_isBelow : MethodName := ⟨RX11, "isBelow", "(II)Z"⟩
abbrev cX11_exchange : ByteArray := prog_1_method_31_code
def yX11_exchange : MethodName := ⟨RX11, "exchange", "([IIII)I"⟩
abbrev cX11_made : ByteArray := prog_1_method_32_code
def yX11_made : MethodName := ⟨RX11, "made", "(IIII)LPutOut$Thing;"⟩
abbrev cX11_isOf : ByteArray := prog_1_method_33_code
def yX11_isOf : MethodName := ⟨RX11, "isOf", "(LPutOut$Thing;I)Z"⟩
abbrev cX11_viewersOf : ByteArray := prog_1_method_34_code
def yX11_viewersOf : MethodName := ⟨RX11, "viewersOf", "(I[I)I"⟩
abbrev cX11_hasBit : ByteArray := prog_1_method_35_code
def yX11_hasBit : MethodName := ⟨RX11, "hasBit", "(II)Z"⟩
abbrev cX11_lowestBit : ByteArray := prog_1_method_36_code
def yX11_lowestBit : MethodName := ⟨RX11, "lowestBit", "(I)I"⟩
abbrev cX11_commonDivisor : ByteArray := prog_1_method_37_code
def yX11_commonDivisor : MethodName := ⟨RX11, "commonDivisor", "(II)I"⟩
def RX12 : String := "PutOutModel"
def TX12 : u_T := fun k => match k with
  | 0 => ("PutOutModel", "thrown", "I", false)
  | 1 => ("PutOutModel", "texts", "[I", true)
  | 2 => ("PutOutModel", "textSize", "[I", true)
  | 3 => ("PutOutModel", "textCount", "I", false)
  | 4 => ("PutOutModel", "rule", "I", false)
  | 5 => ("PutOutModel", "tape", "[I", true)
  | 6 => ("PutOutModel", "taped", "I", false)
  | 7 => ("PutOutModel", "sights", "[I", true)
  | 8 => ("PutOutModel", "seats", "[I", true)
  | 9 => ("PutOutModel", "days", "[I", true)
  | 10 => ("PutOutModel", "kinds", "[I", true)
  | 11 => ("PutOutModel", "numbers", "[I", true)
  | 12 => ("PutOutModel", "givers", "[I", true)
  | 13 => ("PutOutModel", "looks", "[I", true)
  | 14 => ("PutOutModel", "puts", "[I", true)
  | 15 => ("PutOutModel", "thingCount", "I", false)
  | 16 => ("PutOutModel", "ofThing", "I", false)
  | 17 => ("PutOutModel", "ofPlace", "I", false)
  | 18 => ("PutOutModel", "ofGiver", "I", false)
  | 19 => ("PutOutModel", "ofGuests", "I", false)
  | 20 => ("PutOutModel", "ofLook", "I", false)
  | 21 => ("PutOutModel", "ofNumber", "I", false)
  | 22 => ("PutOutModel", "from", "I", false)
  | 23 => ("PutOutModel", "size", "I", false)
  | 24 => ("PutOutModel", "here", "I", false)
  | 25 => ("PutOutModel", "token", "I", false)
  | 26 => ("PutOutModel", "tokenAt", "I", false)
  | 27 => ("PutOutModel", "tokenWorth", "J", false)
  | 28 => ("PutOutModel", "open", "I", false)
  | 29 => ("PutOutModel", "bad", "Z", false)
  | 30 => ("PutOutModel", "fault", "I", false)
  | 31 => ("PutOutModel", "ugly", "[I", true)
  | 32 => ("PutOutModel", "moving", "[I", true)
  | 33 => ("PutOutModel", "minding", "[I", true)
  | 34 => ("PutOutModel", "table", "[I", true)
  | 35 => ("PutOutModel", "away", "I", false)
  | 36 => ("PutOutModel", "room", "[I", true)
  | 37 => ("PutOutModel", "bestRoom", "[I", true)
  | 38 => ("PutOutModel", "bestCost", "I", false)
  | 39 => ("PutOutModel", "isFound", "Z", false)
  | 40 => ("PutOutModel", "most", "I", false)
  | 41 => ("PutOutModel", "wasPut", "[I", true)
  | 42 => ("PutOutModel", "isCounted", "Z", false)
  | 43 => ("PutOutModel", "weekCost", "I", false)
  | 44 => ("PutOutModel", "weekMoves", "I", false)
  | 45 => ("PutOutModel", "weekDays", "I", false)
  | 46 => ("PutOutModel", "daysWas", "[I", true)
  | 47 => ("PutOutModel", "told", "[I", true)
  | 48 => ("PutOutModel", "roomKept", "[I", true)
  | 49 => ("PutOutModel", "thingsKept", "[I", true)
  | 50 => ("PutOutModel", "manyKept", "I", false)
  | 51 => ("PutOutModel", "ruleKept", "I", false)
  | 52 => ("PutOutModel", "isThere", "[Z", true)
  | 53 => ("PutOutModel", "sorts", "[I", true)
  | 54 => ("PutOutModel", "sheetSize", "[I", true)
  | _ => ("PutOutModel", "items", "[I", true)
def tyX12 : Nat → FieldType := fun k => match k with
  | 0 => .int
  | 1 => .array .int
  | 2 => .array .int
  | 3 => .int
  | 4 => .int
  | 5 => .array .int
  | 6 => .int
  | 7 => .array .int
  | 8 => .array .int
  | 9 => .array .int
  | 10 => .array .int
  | 11 => .array .int
  | 12 => .array .int
  | 13 => .array .int
  | 14 => .array .int
  | 15 => .int
  | 16 => .int
  | 17 => .int
  | 18 => .int
  | 19 => .int
  | 20 => .int
  | 21 => .int
  | 22 => .int
  | 23 => .int
  | 24 => .int
  | 25 => .int
  | 26 => .int
  | 27 => .long
  | 28 => .int
  | 29 => .boolean
  | 30 => .int
  | 31 => .array .int
  | 32 => .array .int
  | 33 => .array .int
  | 34 => .array .int
  | 35 => .int
  | 36 => .array .int
  | 37 => .array .int
  | 38 => .int
  | 39 => .boolean
  | 40 => .int
  | 41 => .array .int
  | 42 => .boolean
  | 43 => .int
  | 44 => .int
  | 45 => .int
  | 46 => .array .int
  | 47 => .array .int
  | 48 => .array .int
  | 49 => .array .int
  | 50 => .int
  | 51 => .int
  | 52 => .array .boolean
  | 53 => .array .int
  | 54 => .array .int
  | _ => .array .int
abbrev wsX120 : List Cond := u_ws RX12 TX12 56
theorem nmX12 : ∀ a, a < 56 → ∀ b, b < 56 → a ≠ b → (TX12 a).2.1 ≠ (TX12 b).2.1 := by decide +kernel
theorem tyX12_ok : ∀ k, k < 56 → parseFieldDescriptor (TX12 k).2.2.1 = some (tyX12 k) := by decide +kernel
abbrev cX12_in : ByteArray := prog_14_method_2_code
def yX12_in : MethodName := ⟨RX12, "in", "(JJJ)Z"⟩
abbrev cX12_within : ByteArray := prog_14_method_3_code
def yX12_within : MethodName := ⟨RX12, "within", "(III)I"⟩
abbrev cX12_bitsOf : ByteArray := prog_14_method_4_code
def yX12_bitsOf : MethodName := ⟨RX12, "bitsOf", "(I)I"⟩
abbrev cX12_init : ByteArray := prog_14_method_5_code
def yX12_init : MethodName := ⟨RX12, "<init>", "()V"⟩
abbrev cX12_spell : ByteArray := prog_14_method_6_code
def yX12_spell : MethodName := ⟨RX12, "spell", "(IIIIIIIII)V"⟩
abbrev cX12_isThing : ByteArray := prog_14_method_7_code
def yX12_isThing : MethodName := ⟨RX12, "isThing", "(I)Z"⟩
abbrev cX12_isPlace : ByteArray := prog_14_method_8_code
def yX12_isPlace : MethodName := ⟨RX12, "isPlace", "(I)Z"⟩
abbrev cX12_areGuests : ByteArray := prog_14_method_9_code
def yX12_areGuests : MethodName := ⟨RX12, "areGuests", "(I)Z"⟩
abbrev cX12_set : ByteArray := prog_14_method_10_code
def yX12_set : MethodName := ⟨RX12, "set", "(III)I"⟩
abbrev cX12_thing : ByteArray := prog_14_method_11_code
def yX12_thing : MethodName := ⟨RX12, "thing", "(III)I"⟩
abbrev cX12_stands : ByteArray := prog_14_method_12_code
def yX12_stands : MethodName := ⟨RX12, "stands", "(II)Z"⟩
abbrev cX12_missedOf : ByteArray := prog_14_method_13_code
def yX12_missedOf : MethodName := ⟨RX12, "missedOf", "(I)I"⟩
abbrev cX12_offendsOf : ByteArray := prog_14_method_14_code
def yX12_offendsOf : MethodName := ⟨RX12, "offendsOf", "(II)I"⟩
abbrev cX12_doesSee : ByteArray := prog_14_method_15_code
def yX12_doesSee : MethodName := ⟨RX12, "doesSee", "(II)Z"⟩
abbrev cX12_put : ByteArray := prog_14_method_16_code
def yX12_put : MethodName := ⟨RX12, "put", "(II)I"⟩
abbrev cX12_told : ByteArray := prog_14_method_17_code
def yX12_told : MethodName := ⟨RX12, "told", "(II)I"⟩
abbrev cX12_feed : ByteArray := prog_14_method_18_code
def yX12_feed : MethodName := ⟨RX12, "feed", "(I)I"⟩
abbrev cX12_byteAt : ByteArray := prog_14_method_19_code
def yX12_byteAt : MethodName := ⟨RX12, "byteAt", "(I)I"⟩
abbrev cX12_next : ByteArray := prog_14_method_20_code
def yX12_next : MethodName := ⟨RX12, "next", "()V"⟩
abbrev cX12_fail : ByteArray := prog_14_method_21_code
def yX12_fail : MethodName := ⟨RX12, "fail", "()V"⟩
abbrev cX12_isLetter : ByteArray := prog_14_method_22_code
def yX12_isLetter : MethodName := ⟨RX12, "isLetter", "(II)Z"⟩
abbrev cX12_isWord : ByteArray := prog_14_method_23_code
def yX12_isWord : MethodName := ⟨RX12, "isWord", "(IIIIIIII)Z"⟩
abbrev cX12_isSign : ByteArray := prog_14_method_24_code
def yX12_isSign : MethodName := ⟨RX12, "isSign", "(I)Z"⟩
abbrev cX12_opens : ByteArray := prog_14_method_25_code
def yX12_opens : MethodName := ⟨RX12, "opens", "()Z"⟩
abbrev cX12_name : ByteArray := prog_14_method_26_code
def yX12_name : MethodName := ⟨RX12, "name", "()I"⟩
abbrev cX12_atom : ByteArray := prog_14_method_27_code
def yX12_atom : MethodName := ⟨RX12, "atom", "()I"⟩
abbrev cX12_term : ByteArray := prog_14_method_28_code
def yX12_term : MethodName := ⟨RX12, "term", "()I"⟩
abbrev cX12_added : ByteArray := prog_14_method_29_code
def yX12_added : MethodName := ⟨RX12, "added", "()I"⟩
abbrev cX12_not : ByteArray := prog_14_method_30_code
def yX12_not : MethodName := ⟨RX12, "not", "()I"⟩
abbrev cX12_both : ByteArray := prog_14_method_31_code
def yX12_both : MethodName := ⟨RX12, "both", "()I"⟩
abbrev cX12_either : ByteArray := prog_14_method_32_code
def yX12_either : MethodName := ⟨RX12, "either", "()I"⟩
abbrev cX12_part : ByteArray := prog_14_method_33_code
def yX12_part : MethodName := ⟨RX12, "part", "(Z)I"⟩
abbrev cX12_read : ByteArray := prog_14_method_34_code
def yX12_read : MethodName := ⟨RX12, "read", "(II)I"⟩
abbrev cX12_text : ByteArray := prog_14_method_35_code
def yX12_text : MethodName := ⟨RX12, "text", "()I"⟩
abbrev cX12_force : ByteArray := prog_14_method_36_code
def yX12_force : MethodName := ⟨RX12, "force", "(I)I"⟩
abbrev cX12_says : ByteArray := prog_14_method_37_code
def yX12_says : MethodName := ⟨RX12, "says", "(IIII)I"⟩
abbrev cX12_gathers : ByteArray := prog_14_method_38_code
def yX12_gathers : MethodName := ⟨RX12, "gathers", "()V"⟩
abbrev cX12_timesBad : ByteArray := prog_14_method_39_code
def yX12_timesBad : MethodName := ⟨RX12, "timesBad", "(III)I"⟩
abbrev cX12_badOf : ByteArray := prog_14_method_40_code
def yX12_badOf : MethodName := ⟨RX12, "badOf", "(III)I"⟩
abbrev cX12_begins : ByteArray := prog_14_method_41_code
def yX12_begins : MethodName := ⟨RX12, "begins", "()V"⟩
abbrev cX12_addsDay : ByteArray := prog_14_method_42_code
def yX12_addsDay : MethodName := ⟨RX12, "addsDay", "(I)V"⟩
abbrev cX12_goesThrough : ByteArray := prog_14_method_43_code
def yX12_goesThrough : MethodName := ⟨RX12, "goesThrough", "(IIII)V"⟩
abbrev cX12_fromNow : ByteArray := prog_14_method_44_code
def yX12_fromNow : MethodName := ⟨RX12, "fromNow", "()V"⟩
abbrev cX12_seeksFor : ByteArray := prog_14_method_45_code
def yX12_seeksFor : MethodName := ⟨RX12, "seeksFor", "(II)V"⟩
abbrev cX12_badNow : ByteArray := prog_14_method_46_code
def yX12_badNow : MethodName := ⟨RX12, "badNow", "(I)I"⟩
abbrev cX12_day : ByteArray := prog_14_method_47_code
def yX12_day : MethodName := ⟨RX12, "day", "(II)I"⟩
abbrev cX12_best : ByteArray := prog_14_method_48_code
def yX12_best : MethodName := ⟨RX12, "best", "(III)I"⟩
abbrev cX12_tidy : ByteArray := prog_14_method_49_code
def yX12_tidy : MethodName := ⟨RX12, "tidy", "(I)I"⟩
abbrev cX12_seeksOnce : ByteArray := prog_14_method_50_code
def yX12_seeksOnce : MethodName := ⟨RX12, "seeksOnce", "()V"⟩
abbrev cX12_once : ByteArray := prog_14_method_51_code
def yX12_once : MethodName := ⟨RX12, "once", "(I)I"⟩
abbrev cX12_weeks : ByteArray := prog_14_method_52_code
def yX12_weeks : MethodName := ⟨RX12, "weeks", "()V"⟩
abbrev cX12_week : ByteArray := prog_14_method_53_code
def yX12_week : MethodName := ⟨RX12, "week", "(I)I"⟩
abbrev cX12_keepsDays : ByteArray := prog_14_method_54_code
def yX12_keepsDays : MethodName := ⟨RX12, "keepsDays", "()V"⟩
abbrev cX12_daysBack : ByteArray := prog_14_method_55_code
def yX12_daysBack : MethodName := ⟨RX12, "daysBack", "()V"⟩
abbrev cX12_dearest : ByteArray := prog_14_method_56_code
def yX12_dearest : MethodName := ⟨RX12, "dearest", "(I)I"⟩
abbrev cX12_give : ByteArray := prog_14_method_57_code
def yX12_give : MethodName := ⟨RX12, "give", "()I"⟩
abbrev cX12_seat : ByteArray := prog_14_method_58_code
def yX12_seat : MethodName := ⟨RX12, "seat", "(II)I"⟩
abbrev cX12_isRoom : ByteArray := prog_14_method_59_code
def yX12_isRoom : MethodName := ⟨RX12, "isRoom", "(I)Z"⟩
abbrev cX12_leastBad : ByteArray := prog_14_method_60_code
def yX12_leastBad : MethodName := ⟨RX12, "leastBad", "(I)I"⟩
abbrev cX12_seen : ByteArray := prog_14_method_61_code
def yX12_seen : MethodName := ⟨RX12, "seen", "(II)I"⟩
abbrev cX12_film : ByteArray := prog_14_method_62_code
def yX12_film : MethodName := ⟨RX12, "film", "(II)I"⟩
abbrev cX12_draws : ByteArray := prog_14_method_63_code
def yX12_draws : MethodName := ⟨RX12, "draws", "(I)V"⟩
abbrev cX12_drawn : ByteArray := prog_14_method_64_code
def yX12_drawn : MethodName := ⟨RX12, "drawn", "(I)I"⟩
abbrev cX12_chance : ByteArray := prog_14_method_65_code
def yX12_chance : MethodName := ⟨RX12, "chance", "(III)J"⟩
abbrev cX12_image : ByteArray := prog_14_method_66_code
def yX12_image : MethodName := ⟨RX12, "image", "()I"⟩
abbrev cX12_back : ByteArray := prog_14_method_67_code
def yX12_back : MethodName := ⟨RX12, "back", "()I"⟩
abbrev cX12_count : ByteArray := prog_14_method_68_code
def yX12_count : MethodName := ⟨RX12, "count", "(I)I"⟩
abbrev cX12_isSheet : ByteArray := prog_14_method_69_code
def yX12_isSheet : MethodName := ⟨RX12, "isSheet", "(I)Z"⟩
abbrev cX12_sheet : ByteArray := prog_14_method_70_code
def yX12_sheet : MethodName := ⟨RX12, "sheet", "(III)I"⟩
abbrev cX12_cell : ByteArray := prog_14_method_71_code
def yX12_cell : MethodName := ⟨RX12, "cell", "(III)I"⟩
abbrev cX12_copy : ByteArray := prog_14_method_72_code
def yX12_copy : MethodName := ⟨RX12, "copy", "(IIIII)I"⟩
abbrev cX12_things : ByteArray := prog_14_method_73_code
def yX12_things : MethodName := ⟨RX12, "things", "(IIII)I"⟩
abbrev cX12_over : ByteArray := prog_14_method_74_code
def yX12_over : MethodName := ⟨RX12, "over", "(I)I"⟩
abbrev cX12_taken : ByteArray := prog_14_method_75_code
def yX12_taken : MethodName := ⟨RX12, "taken", "(II)I"⟩
def RJ6 : String := "java/lang/Integer"
abbrev cJ6_bitCount_0f7a4 : ByteArray := prog_16_method_49_code
def yJ6_bitCount_0f7a4 : MethodName := ⟨RJ6, "bitCount", "(I)I"⟩
def RJ9 : String := "java/lang/Math"
abbrev cJ9_max_7cf53 : ByteArray := prog_17_method_65_code
def yJ9_max_7cf53 : MethodName := ⟨RJ9, "max", "(II)I"⟩
abbrev cJ9_min_7cf53 : ByteArray := prog_17_method_69_code
def yJ9_min_7cf53 : MethodName := ⟨RJ9, "min", "(II)I"⟩
def RJ0 : String := "java/lang/String"
abbrev cJ0_length_8abf5 : ByteArray := prog_18_method_54_code
def yJ0_length_8abf5 : MethodName := ⟨RJ0, "length", "()I"⟩
abbrev cJ0_charAt_5068e : ByteArray := prog_18_method_56_code
def yJ0_charAt_5068e : MethodName := ⟨RJ0, "charAt", "(I)C"⟩
abbrev cJ0_coder_7d493 : ByteArray := prog_18_method_152_code
def yJ0_coder_7d493 : MethodName := ⟨RJ0, "coder", "()B"⟩
abbrev cJ0_isLatin1_aae02 : ByteArray := prog_18_method_154_code
def yJ0_isLatin1_aae02 : MethodName := ⟨RJ0, "isLatin1", "()Z"⟩
abbrev cJ0_checkIndex_df160 : ByteArray := prog_18_method_155_code
def yJ0_checkIndex_df160 : MethodName := ⟨RJ0, "checkIndex", "(II)V"⟩
def RJ1 : String := "java/lang/StringLatin1"
abbrev cJ1_charAt_3b067 : ByteArray := prog_19_method_2_code
def yJ1_charAt_3b067 : MethodName := ⟨RJ1, "charAt", "([BI)C"⟩
def RJ2 : String := "java/lang/StringUTF16"
abbrev cJ2_getChar_3b067 : ByteArray := prog_20_method_5_code
def yJ2_getChar_3b067 : MethodName := ⟨RJ2, "getChar", "([BI)C"⟩
abbrev cJ2_length_9d52b : ByteArray := prog_20_method_6_code
def yJ2_length_9d52b : MethodName := ⟨RJ2, "length", "([B)I"⟩
abbrev cJ2_charAt_3b067 : ByteArray := prog_20_method_83_code
def yJ2_charAt_3b067 : MethodName := ⟨RJ2, "charAt", "([BI)C"⟩
abbrev cJ2_checkIndex_2214a : ByteArray := prog_20_method_91_code
def yJ2_checkIndex_2214a : MethodName := ⟨RJ2, "checkIndex", "(I[B)V"⟩
def RJ10 : String := "java/lang/System"
def RJ7 : String := "java/util/Arrays"
abbrev cJ7_fill_53178 : ByteArray := prog_22_method_103_code
def yJ7_fill_53178 : MethodName := ⟨RJ7, "fill", "([II)V"⟩
abbrev cJ7_copyOf_59c91 : ByteArray := prog_22_method_123_code
def yJ7_copyOf_59c91 : MethodName := ⟨RJ7, "copyOf", "([II)[I"⟩
def RJ3 : String := "jdk/internal/util/Preconditions"
abbrev cJ3_checkIndex_8e157 : ByteArray := prog_23_method_11_code
def yJ3_checkIndex_8e157 : MethodName := ⟨RJ3, "checkIndex", "(IILjava/util/function/BiFunction;)I"⟩
def RL : String := "PutOutLaw"
abbrev cL_law : ByteArray := code
def yL_law : MethodName := ⟨RL, "law", "([I)Z"⟩
abbrev vwCl : List vw_C := [(RX0, TX0, 13), (RX1, TX1, 13), (RX2, TX2, 6), (RX3, TX3, 13), (RX4, TX4, 12), (RX5, TX5, 13), (RX6, TX6, 10), (RX7, TX7, 3), (RX8, TX8, 4), (RX9, TX9, 13), (RX10, TX10, 13), (RX11, TX11, 9), (RX12, TX12, 56)]
end
section
/-! the classes by their numbers -/
def xN : Nat → Nat := fun ci => match ci with
  | 0 => 13
  | 1 => 13
  | 2 => 6
  | 3 => 13
  | 4 => 12
  | 5 => 13
  | 6 => 10
  | 7 => 3
  | 8 => 4
  | 9 => 13
  | 10 => 13
  | 11 => 9
  | 12 => 56
  | _ => 0
def xC : Nat → String := fun ci => match ci with
  | 0 => RX0
  | 1 => RX1
  | 2 => RX2
  | 3 => RX3
  | 4 => RX4
  | 5 => RX5
  | 6 => RX6
  | 7 => RX7
  | 8 => RX8
  | 9 => RX9
  | 10 => RX10
  | 11 => RX11
  | 12 => RX12
  | _ => ""
def xT : Nat → u_T := fun ci => match ci with
  | 0 => TX0
  | 1 => TX1
  | 2 => TX2
  | 3 => TX3
  | 4 => TX4
  | 5 => TX5
  | 6 => TX6
  | 7 => TX7
  | 8 => TX8
  | 9 => TX9
  | 10 => TX10
  | 11 => TX11
  | 12 => TX12
  | _ => TX0
def xty : Nat → Nat → FieldType := fun ci => match ci with
  | 0 => tyX0
  | 1 => tyX1
  | 2 => tyX2
  | 3 => tyX3
  | 4 => tyX4
  | 5 => tyX5
  | 6 => tyX6
  | 7 => tyX7
  | 8 => tyX8
  | 9 => tyX9
  | 10 => tyX10
  | 11 => tyX11
  | 12 => tyX12
  | _ => tyX0
theorem x_cl : ∀ {ci : Nat}, ci < 13 → vwCl[ci]? = some (xC ci, xT ci, xN ci)
  | 0, _ => rfl
  | 1, _ => rfl
  | 2, _ => rfl
  | 3, _ => rfl
  | 4, _ => rfl
  | 5, _ => rfl
  | 6, _ => rfl
  | 7, _ => rfl
  | 8, _ => rfl
  | 9, _ => rfl
  | 10, _ => rfl
  | 11, _ => rfl
  | 12, _ => rfl
  | _ + 13, h => absurd h (by omega)
theorem x_tyok : ∀ {ci : Nat}, ci < 13 → ∀ k, k < xN ci → parseFieldDescriptor (xT ci k).2.2.1 = some (xty ci k)
  | 0, _ => tyX0_ok
  | 1, _ => tyX1_ok
  | 2, _ => tyX2_ok
  | 3, _ => tyX3_ok
  | 4, _ => tyX4_ok
  | 5, _ => tyX5_ok
  | 6, _ => tyX6_ok
  | 7, _ => tyX7_ok
  | 8, _ => tyX8_ok
  | 9, _ => tyX9_ok
  | 10, _ => tyX10_ok
  | 11, _ => tyX11_ok
  | 12, _ => tyX12_ok
  | _ + 13, h => absurd h (by omega)
theorem x_nm : ∀ {ci : Nat}, ci < 13 → ∀ a, a < xN ci → ∀ b, b < xN ci → a ≠ b → (xT ci a).2.1 ≠ (xT ci b).2.1
  | 0, _ => nmX0
  | 1, _ => nmX1
  | 2, _ => nmX2
  | 3, _ => nmX3
  | 4, _ => nmX4
  | 5, _ => nmX5
  | 6, _ => nmX6
  | 7, _ => nmX7
  | 8, _ => nmX8
  | 9, _ => nmX9
  | 10, _ => nmX10
  | 11, _ => nmX11
  | 12, _ => nmX12
  | _ + 13, h => absurd h (by omega)
/-! the good words of the tables -/
def gT : List Cond := lw_tbl.filter goodWord
theorem gt_of {w : Cond} (i : Nat) (h : lw_tbl[i]? = some w) (hg : goodWord w = true) : w ∈ gT := List.mem_filter.mpr ⟨List.mem_of_getElem? h, hg⟩
theorem gt_sub {w : Cond} (h : w ∈ gT) : w ∈ lw_tbl := (List.mem_filter.mp h).1
theorem gt_good {w : Cond} (h : w ∈ gT) : (w.onTables && w.keeps) = true ∨ ∃ ty, w = .arrayClass ty := good_of_word (List.mem_filter.mp h).2
theorem gt_ps {ws : List Cond} (ps : List Nat) (hp : ws = ps.filterMap (fun i => lw_tbl[i]?)) (h : ws.all goodWord = true) : ∀ w ∈ ws, w ∈ gT := fun w hw => List.mem_filter.mpr ⟨by rw [hp] at hw; obtain ⟨i, -, hi⟩ := List.mem_filterMap.mp hw; exact List.mem_of_getElem? hi, List.all_eq_true.mp h w hw⟩
set_option maxRecDepth 100000 in
theorem x_in0 : ∀ w ∈ u_ws RX0 TX0 13, w ∈ gT := gt_ps [640, 641, 642, 643, 644, 645, 646, 647, 648, 649, 650, 651, 652] (by decide +kernel) (by decide +kernel)
set_option maxRecDepth 100000 in
theorem x_in1 : ∀ w ∈ u_ws RX1 TX1 13, w ∈ gT := gt_ps [580, 581, 582, 583, 584, 585, 586, 587, 588, 589, 590, 591, 592] (by decide +kernel) (by decide +kernel)
set_option maxRecDepth 100000 in
theorem x_in2 : ∀ w ∈ u_ws RX2 TX2 6, w ∈ gT := gt_ps [192, 194, 196, 198, 200, 202] (by decide +kernel) (by decide +kernel)
set_option maxRecDepth 100000 in
theorem x_in3 : ∀ w ∈ u_ws RX3 TX3 13, w ∈ gT := gt_ps [560, 561, 562, 563, 564, 565, 566, 567, 568, 569, 570, 571, 572] (by decide +kernel) (by decide +kernel)
set_option maxRecDepth 100000 in
theorem x_in4 : ∀ w ∈ u_ws RX4 TX4 12, w ∈ gT := gt_ps [270, 272, 274, 276, 278, 280, 282, 284, 286, 288, 290, 292] (by decide +kernel) (by decide +kernel)
set_option maxRecDepth 100000 in
theorem x_in5 : ∀ w ∈ u_ws RX5 TX5 13, w ∈ gT := gt_ps [600, 601, 602, 603, 604, 605, 606, 607, 608, 609, 610, 611, 612] (by decide +kernel) (by decide +kernel)
set_option maxRecDepth 100000 in
theorem x_in6 : ∀ w ∈ u_ws RX6 TX6 10, w ∈ gT := gt_ps [221, 223, 225, 227, 229, 231, 233, 235, 237, 239] (by decide +kernel) (by decide +kernel)
set_option maxRecDepth 100000 in
theorem x_in7 : ∀ w ∈ u_ws RX7 TX7 3, w ∈ gT := gt_ps [306, 308, 310] (by decide +kernel) (by decide +kernel)
set_option maxRecDepth 100000 in
theorem x_in8 : ∀ w ∈ u_ws RX8 TX8 4, w ∈ gT := gt_ps [483, 485, 487, 489] (by decide +kernel) (by decide +kernel)
set_option maxRecDepth 100000 in
theorem x_in9 : ∀ w ∈ u_ws RX9 TX9 13, w ∈ gT := gt_ps [147, 149, 151, 153, 155, 157, 159, 161, 163, 165, 167, 169, 171] (by decide +kernel) (by decide +kernel)
set_option maxRecDepth 100000 in
theorem x_in10 : ∀ w ∈ u_ws RX10 TX10 13, w ∈ gT := gt_ps [620, 621, 622, 623, 624, 625, 626, 627, 628, 629, 630, 631, 632] (by decide +kernel) (by decide +kernel)
set_option maxRecDepth 100000 in
theorem x_in11 : ∀ w ∈ u_ws RX11 TX11 9, w ∈ gT := gt_ps [502, 504, 506, 508, 510, 512, 514, 516, 518] (by decide +kernel) (by decide +kernel)
set_option maxRecDepth 100000 in
theorem x_in12 : ∀ w ∈ u_ws RX12 TX12 56, w ∈ gT := gt_ps [1202, 1204, 1206, 1208, 1210, 1212, 1214, 1216, 1218, 1220, 1222, 1224, 1226, 1228, 1230, 1232, 1234, 1236, 1238, 1240, 1242, 1244, 1246, 1248, 1250, 1252, 1254, 1256, 1258, 1260, 1262, 1264, 1266, 1268, 1270, 1272, 1274, 1276, 1278, 1280, 1282, 1284, 1286, 1288, 1290, 1292, 1294, 1296, 1298, 1300, 1302, 1304, 1306, 1308, 1310, 1312] (by decide +kernel) (by decide +kernel)
theorem x_in : ∀ {ci : Nat}, ci < 13 → ∀ w ∈ u_ws (xC ci) (xT ci) (xN ci), w ∈ gT
  | 0, _ => x_in0
  | 1, _ => x_in1
  | 2, _ => x_in2
  | 3, _ => x_in3
  | 4, _ => x_in4
  | 5, _ => x_in5
  | 6, _ => x_in6
  | 7, _ => x_in7
  | 8, _ => x_in8
  | 9, _ => x_in9
  | 10, _ => x_in10
  | 11, _ => x_in11
  | 12, _ => x_in12
  | _ + 13, h => absurd h (by omega)
end
section
/-! typed memory: the kind of each address (0: none; 1: an object, its number of class; 2: ints, how many; 3: booleans; 4 and on: references), int fields, long fields, reference fields, numbers of arrays, references of arrays -/
abbrev Mem : Type := (Nat → Nat × Nat) × (Nat → Nat → Int32) × (Nat → Nat → Int64) × (Nat → Nat → Option Nat) × (Nat → Nat → Int32) × (Nat → Nat → Option Nat)
def mT (μ : Mem) : Nat → Nat × Nat := μ.1
def mI (μ : Mem) : Nat → Nat → Int32 := μ.2.1
def mJ (μ : Mem) : Nat → Nat → Int64 := μ.2.2.1
def mR (μ : Mem) : Nat → Nat → Option Nat := μ.2.2.2.1
def mA (μ : Mem) : Nat → Nat → Int32 := μ.2.2.2.2.1
def mX (μ : Mem) : Nat → Nat → Option Nat := μ.2.2.2.2.2
def up2 {α : Type} (f : Nat → Nat → α) (q k : Nat) (v : α) : Nat → Nat → α := fun a b => if a = q ∧ b = k then v else f a b
theorem up2_s {α : Type} {f : Nat → Nat → α} {q k : Nat} {v : α} : up2 f q k v q k = v := by simp [up2]
theorem up2_n {α : Type} {f : Nat → Nat → α} {q k a b : Nat} {v : α} (h : a ≠ q ∨ b ≠ k) : up2 f q k v a b = f a b := by
  unfold up2
  rw [if_neg]
  rintro ⟨h1, h2⟩
  rcases h with h | h
  · exact h h1
  · exact h h2
def sI (μ : Mem) (q k : Nat) (v : Int32) : Mem := (μ.1, up2 μ.2.1 q k v, μ.2.2)
def sJ (μ : Mem) (q k : Nat) (v : Int64) : Mem := (μ.1, μ.2.1, up2 μ.2.2.1 q k v, μ.2.2.2)
def sR (μ : Mem) (q k : Nat) (v : Option Nat) : Mem := (μ.1, μ.2.1, μ.2.2.1, up2 μ.2.2.2.1 q k v, μ.2.2.2.2)
def sA (μ : Mem) (q k : Nat) (v : Int32) : Mem := (μ.1, μ.2.1, μ.2.2.1, μ.2.2.2.1, up2 μ.2.2.2.2.1 q k v, μ.2.2.2.2.2)
def sX (μ : Mem) (q k : Nat) (v : Option Nat) : Mem := (μ.1, μ.2.1, μ.2.2.1, μ.2.2.2.1, μ.2.2.2.2.1, up2 μ.2.2.2.2.2 q k v)
/-- what a field holds, by its type -/
def xv (μ : Mem) (q k : Nat) (ty : FieldType) : Value := match ty with
  | .long => .long (mJ μ q k)
  | .object _ => va_rf (mR μ q k)
  | .array _ => va_rf (mR μ q k)
  | _ => .int (mI μ q k)
def xfs (μ : Mem) (q ci : Nat) : List Value := (List.range (xN ci)).map (fun k => xv μ q k (xty ci k))
def xcell (ca : Nat → ClassId) (μ : Mem) (q : Nat) : va_E := match (mT μ q).1 with
  | 0 => .inr (99, [])
  | 1 => .inr ((mT μ q).2, xfs μ q (mT μ q).2)
  | 2 => .inl (ca 0, (mT μ q).2, .inl (mA μ q))
  | 3 => .inl (ca 1, (mT μ q).2, .inl (mA μ q))
  | k + 4 => .inl (ca (k + 2), (mT μ q).2, .inr (.inr (.inr (.inr (mX μ q)))))
theorem xcell_o {ca : Nat → ClassId} {μ : Mem} {q ci : Nat} (h : mT μ q = (1, ci)) : xcell ca μ q = .inr (ci, xfs μ q ci) := by unfold xcell; rw [h]
theorem xcell_i {ca : Nat → ClassId} {μ : Mem} {q n : Nat} (h : mT μ q = (2, n)) : xcell ca μ q = .inl (ca 0, n, .inl (mA μ q)) := by unfold xcell; rw [h]
theorem xcell_z {ca : Nat → ClassId} {μ : Mem} {q n : Nat} (h : mT μ q = (3, n)) : xcell ca μ q = .inl (ca 1, n, .inl (mA μ q)) := by unfold xcell; rw [h]
theorem xcell_x {ca : Nat → ClassId} {μ : Mem} {q n k : Nat} (h : mT μ q = (k + 4, n)) : xcell ca μ q = .inl (ca (k + 2), n, .inr (.inr (.inr (.inr (mX μ q))))) := by unfold xcell; rw [h]
/-- the launch, the classes' numbers, the array classes, the first free address, the strings -/
abbrev Gm : Type := Launch × va_G × (Nat → ClassId) × Nat × (Nat → Nat) × (Nat → Nat)
def gL (Γ : Gm) : Launch := Γ.1
def gD (Γ : Gm) : va_G := Γ.2.1
def gC (Γ : Gm) : Nat → ClassId := Γ.2.2.1
def gB (Γ : Gm) : Nat := Γ.2.2.2.1
def gA (Γ : Gm) : Nat → Prop := fun q => gB Γ ≤ q
def XP (Γ : Gm) (μ : Mem) (H : Heap) : Prop := ∃ L : List Nat, va_P (gD Γ) vwCl (va_pl L (xcell (gC Γ) μ)) H ∧ va_D (gA Γ) (va_pl L (xcell (gC Γ) μ)) ∧ ∀ q, q ∈ L ↔ (mT μ q).1 ≠ 0
def xtys (Γ : Gm) : List (ClassId × FieldType) := [(gC Γ 0, .int), (gC Γ 1, .boolean), (gC Γ 2, .object "PutOut$Thing"), (gC Γ 3, .object "PutOut$Text"), (gC Γ 4, .object "PutOut$Sheet"), (gC Γ 5, .array .int)]
/-- the strings of the class, by their numbers: whose pool, entry, text, length, bytes -/
def sOwn : Nat → String := fun i => if i = 0 then "PutOut" else "PutOut$Reader"
def sIdx : Nat → Nat := fun i => [57, 106, 112, 114, 116, 118, 120, 122, 124, 126, 128, 130, 132].getD i 0
def sTx : Nat → String := fun i => ["moves 1 ; ugly 9 - look ; minds 20 ;", "moves", "ugly", "minds", "or", "and", "not", "thing", "place", "giver", "guests", "look", "number"].getD i ""
def sLen : List Nat := [36, 5, 4, 5, 2, 3, 3, 5, 5, 5, 6, 4, 6]
def sByt : List (List Int32) := [[109, 111, 118, 101, 115, 32, 49, 32, 59, 32, 117, 103, 108, 121, 32, 57, 32, 45, 32, 108, 111, 111, 107, 32, 59, 32, 109, 105, 110, 100, 115, 32, 50, 48, 32, 59], [109, 111, 118, 101, 115], [117, 103, 108, 121], [109, 105, 110, 100, 115], [111, 114], [97, 110, 100], [110, 111, 116], [116, 104, 105, 110, 103], [112, 108, 97, 99, 101], [103, 105, 118, 101, 114], [103, 117, 101, 115, 116, 115], [108, 111, 111, 107], [110, 117, 109, 98, 101, 114]]
/-- links of nest mates; what arrays of references are of; which casts go and which don't -/
def nestL : List (String × Nat × MethodName) := [("PutOut", 29, ⟨"PutOut$Reader", "<init>", "()V"⟩), ("PutOut", 51, ⟨"PutOut$Planner", "<init>", "()V"⟩), ("PutOut", 56, ⟨"PutOut$Sheet", "<init>", "()V"⟩), ("PutOut$House", 43, ⟨"PutOut", "isBelow", "(II)Z"⟩), ("PutOut$Thing", 52, ⟨"PutOut", "isBelow", "(II)Z"⟩), ("PutOut$Planner", 77, ⟨"PutOut", "viewersOf", "(I[I)I"⟩), ("PutOut$Thing", 79, ⟨"PutOut", "hasBit", "(II)Z"⟩), ("PutOut$Planner", 84, ⟨"PutOut", "isBelow", "(II)Z"⟩)]
def xRC : Nat → String := fun k => match k with
  | 0 => "PutOut$Thing"
  | 1 => "PutOut$Text"
  | _ => "PutOut$Sheet"
def castY : List (String × String) := [("PutOut$Portrait", "PutOut$Picture"), ("PutOut$Vase", "PutOut$Clock"), ("PutOut$Picture", "PutOut$Thing"), ("PutOut$Clock", "PutOut$Thing"), ("PutOut$Portrait", "PutOut$Thing"), ("PutOut$Vase", "PutOut$Thing"), ("PutOut$Broken", "PutOut$Thing")]
def castN : List (String × String) := [("PutOut$Thing", "PutOut$Picture"), ("PutOut$Clock", "PutOut$Picture"), ("PutOut$Vase", "PutOut$Picture"), ("PutOut$Broken", "PutOut$Picture"), ("PutOut$Thing", "PutOut$Clock"), ("PutOut$Picture", "PutOut$Clock"), ("PutOut$Portrait", "PutOut$Clock"), ("PutOut$Broken", "PutOut$Clock"), ("PutOut$Thing", "PutOut$Portrait"), ("PutOut$Picture", "PutOut$Portrait"), ("PutOut$Clock", "PutOut$Portrait"), ("PutOut$Vase", "PutOut$Portrait"), ("PutOut$Broken", "PutOut$Portrait"), ("PutOut$Thing", "PutOut$Vase"), ("PutOut$Picture", "PutOut$Vase"), ("PutOut$Clock", "PutOut$Vase"), ("PutOut$Portrait", "PutOut$Vase"), ("PutOut$Broken", "PutOut$Vase"), ("PutOut$Thing", "PutOut$Broken"), ("PutOut$Picture", "PutOut$Broken"), ("PutOut$Clock", "PutOut$Broken"), ("PutOut$Portrait", "PutOut$Broken"), ("PutOut$Vase", "PutOut$Broken")]
def SE (Γ : Gm) (U : State) (H : Heap) : Prop := vk_S 13 sLen sByt Γ.2.2.2.2.1 Γ.2.2.2.2.2 (gA Γ) U H ∧ (∀ i : Nat, i < 13 → vk_R (sOwn i) (sIdx i) (sTx i) (Γ.2.2.2.2.1 i) U) ∧ va_Z "java/lang/String" "COMPACT_STRINGS" "Z" (.int 1) (gA Γ) U H ∧ (∀ x ∈ nestL, va_Nw (.methodLinkNest x.1 x.2.1 x.2.2 "PutOut") U) ∧ (∀ k : Nat, va_AO (xRC k) U) ∧ (∀ x ∈ castY, va_Nw (.castable x.1 x.2) U) ∧ (∀ x ∈ castN, va_Nc x.1 x.2 U)
/-- a method: its name, its bytes, how many locals, what it answers -/
abbrev Mt : Type := MethodName × ByteArray × Nat × Option FieldType
def XF (Γ : Gm) (M : Mt) (p : Program) (s : State) (m : MethodId) (args : Array Value) (meth : Method) (c : Code) : Prop :=
  p.tables.exec = Jvm.exec ∧ c.code = M.2.1 ∧ c.maxLocals = M.2.2.1 ∧ meth.sig.returnType = M.2.2.2 ∧ meth.locks = false ∧ meth.name = M.1.name ∧ s.vm.findClass M.1.cls = some m.cls ∧ (∀ w ∈ gT, w.before args s = true) ∧ va_K (gD Γ) vwCl (xtys Γ) s ∧ gB Γ ≤ s.heap.size ∧ SE Γ s s.heap
/-- the locals by their slots -/
def xl (ls : Array Slot) (nL : Nat) (lv : List (Option Value)) : Prop := ls.size = nL ∧ lv_wf ls ∧ ∀ (j : Nat) (v : Value), lv[j]? = some (some v) → ls[j]? = some (.val v)
/-- what an end of the method asks -/
def XRet (Γ : Gm) (M : Mt) (R : Room) (p : Program) (e : Env) (s : State) (m : MethodId) (args : Array Value) (below : List Frame) (meth : Method) (c : Code) (H : Heap) (locs : List Loc) (mc ms : Nat) (Qf : State → Prop) (r : Option Value) : Prop :=
  ∀ (pc : Nat) (ls : Array Slot), match r with
    | none => M.2.2.2 = none → decode M.2.1 pc = .ok (.return_, 1) → W p (gL Γ) e R s m args below meth c H locs mc ms Qf (F0 m pc ls [])
    | some (.int v) => (∃ ty, M.2.2.2 = some ty ∧ narrow ty (.int v) = .int v) → decode M.2.1 pc = .ok (.ireturn, 1) → W p (gL Γ) e R s m args below meth c H locs mc ms Qf (F0 m pc ls [.int v])
    | some (.long v) => M.2.2.2 = some .long → decode M.2.1 pc = .ok (.lreturn, 1) → W p (gL Γ) e R s m args below meth c H locs mc ms Qf (F0 m pc ls [.long v])
    | some (.ref v) => (∃ t, M.2.2.2 = some t ∧ ((∃ n, t = .object n) ∨ ∃ u, t = .array u)) → decode M.2.1 pc = .ok (.areturn, 1) → W p (gL Γ) e R s m args below meth c H locs mc ms Qf (F0 m pc ls [.ref v])
    | _ => True
def WA (Γ : Gm) (M : Mt) (R : Room) (mc ms cl sl : Nat) (Q : Option Value → Mem → Prop) (pc : Nat) (lv : List (Option Value)) (st : List Value) (μ : Mem) : Prop :=
  ∀ (p : Program) (e : Env) (s : State) (m : MethodId) (args : Array Value) (below : List Frame) (meth : Method) (c : Code) (Qf : State → Prop) (H : Heap) (locs : List Loc) (ls : Array Slot),
    XF Γ M p s m args meth c → va_S (gA Γ) s.heap H locs → XP Γ μ H → xl ls M.2.2.1 lv →
    (∀ (r : Option Value) (μ' : Mem) (H' : Heap) (locs' : List Loc), Q r μ' → XP Γ μ' H' → va_S (gA Γ) s.heap H' locs' → XRet Γ M R p e s m args below meth c H' locs' mc ms Qf r) →
    W p (gL Γ) e R s m args below meth c H locs cl sl Qf (F0 m pc ls st)
def XQ (Γ : Gm) (Q : Option Value → Mem → Prop) : Array Value → State → Outcome → State → Prop := fun _ st o t => (∃ (r : Option Value) (μ' : Mem), o = .returned r ∧ Q r μ' ∧ XP Γ μ' t.heap) ∧ va_F (gA Γ) st t
def xB (Γ : Gm) (μ : Mem) (U : State) : Prop := XP Γ μ U.heap ∧ va_K (gD Γ) vwCl (xtys Γ) U ∧ gB Γ ≤ U.heap.size ∧ SE Γ U U.heap
abbrev xrm (d mc ms : Nat) : Room := { frames := d, cells := mc, slots := ms, locals := 64 * d }
abbrev xws (M : Mt) : List Cond := Cond.code M.1 M.2.1 M.2.2.1 M.2.2.2 :: gT
/-- a method's contract: from the memory μ, with these arguments, it answers and leaves a memory so that Q; it makes at most mc cells of ms slots, its calls stand at most d deep -/
def XM (Γ : Gm) (M : Mt) (d mc ms : Nat) (As : List Value) (μ : Mem) (Q : Option Value → Mem → Prop) : Prop :=
  Met (gL Γ) M.1 (xws M) (xrm d mc ms) (va_Pc As (xB Γ μ)) (XQ Γ Q) mc ms (gA Γ)
theorem SE_calling {Γ : Gm} {U : State} {g : JFrame} {mk : MethodId} {a : Array Value} (h : SE Γ U U.heap) : SE Γ (U.calling g mk a) (U.calling g mk a).heap :=
  ⟨vk_S.moved (u := U) (U := U.calling g mk a) (Vm.Alike.refl U.vm) h.1, fun i hi => vk_R.same (u := U) rfl (h.2.1 i hi), va_Z.moved (u := U) (U := U.calling g mk a) (Vm.Alike.refl U.vm) h.2.2.1, fun x hx => va_Nw.same (u := U) rfl rfl (h.2.2.2.1 x hx), fun k => va_AO.moved (u := U) (U := U.calling g mk a) (Vm.Alike.refl U.vm) (h.2.2.2.2.1 k), fun x hx => va_Nw.same (u := U) rfl rfl (h.2.2.2.2.2.1 x hx), fun x hx => va_Nc.moved (u := U) (U := U.calling g mk a) (Vm.Alike.refl U.vm) (h.2.2.2.2.2.2 x hx)⟩
theorem xB_blind {Γ : Gm} {μ : Mem} {As : List Value} : FrameBlind (va_Pc As (xB Γ μ)) := fun a U g mk q => by
  obtain ⟨q0, qP, qK, qB, qS⟩ := q
  exact ⟨q0, qP, va_K.moved (u := U) (U := U.calling g mk a) (Vm.Alike.refl U.vm) qK, qB, SE_calling qS⟩
theorem xB_at {Γ : Gm} {M : Mt} {μ : Mem} {p : Program} {s U : State} {m : MethodId} {args : Array Value} {meth : Method} {c : Code} {H : Heap} {locs : List Loc} (F : XF Γ M p s m args meth c) (hS : va_S (gA Γ) s.heap H locs) (hP : XP Γ μ H) (hU : U.heap = H) (hW : s.WarmedH U.vm) : xB Γ μ U := by
  obtain ⟨-, -, -, -, -, -, -, -, hK, hB, hE⟩ := F
  refine ⟨by rw [hU]; exact hP, va_K.moved hW.alike hK, by rw [hU]; exact Nat.le_trans hB hS.1, ?_, fun i hi => vk_R.warm hW (hE.2.1 i hi), ?_, fun x hx => va_Nw.warmM hW (hE.2.2.2.1 x hx), fun k => va_AO.moved hW.alike (hE.2.2.2.2.1 k), fun x hx => va_Nw.warmC hW (hE.2.2.2.2.2.1 x hx), fun x hx => va_Nc.moved hW.alike (hE.2.2.2.2.2.2 x hx)⟩
  · rw [hU]
    exact (vk_S.kept hE.1 hS.2.1).moved hW.alike
  · rw [hU]
    exact (va_Z.kept hE.2.2.1 hS.2.1).moved hW.alike
theorem xl_entry (As : List Value) {n : Nat} (h : (lg_sl As).length ≤ n) {lv : List (Option Value)} (hl : ∀ (j : Nat) (v : Value), lv[j]? = some (some v) → (j, v) ∈ lv_args 0 As) : xl ((lg_sl As ++ List.replicate (n - (lg_sl As).length) Slot.unset).toArray) n lv :=
  ⟨(lv_entry As h).1, (lv_entry As h).2.1, fun j v hj => (lv_entry As h).2.2 (j, v) (hl j v hj)⟩
/-- the locals at a method's start -/
def xlv : List Value → List (Option Value)
  | [] => []
  | v :: vs => if v.category = 2 then some v :: none :: xlv vs else some v :: xlv vs
theorem xlv_args : ∀ (vs : List Value) (i j : Nat) (v : Value), (xlv vs)[j]? = some (some v) → (i + j, v) ∈ lv_args i vs
  | [], _, _, _, h => by simp [xlv] at h
  | u :: us, i, j, v, h => by
    by_cases hc : u.category = 2
    · simp only [xlv, if_pos hc] at h
      rw [lv_args, if_pos hc]
      match j, h with
      | 0, h => simp at h; subst h; exact List.mem_cons_self
      | 1, h => simp at h
      | j + 2, h =>
        have h2 := xlv_args us (i + 2) j v (by simpa using h)
        rw [show i + (j + 2) = i + 2 + j by omega]
        exact List.mem_cons_of_mem _ h2
    · simp only [xlv, if_neg hc] at h
      rw [lv_args, if_neg hc]
      match j, h with
      | 0, h => simp at h; subst h; exact List.mem_cons_self
      | j + 1, h =>
        have h2 := xlv_args us (i + 1) j v (by simpa using h)
        rw [show i + (j + 1) = i + 1 + j by omega]
        exact List.mem_cons_of_mem _ h2
theorem xl_pad {ls : Array Slot} {nL : Nat} {lv : List (Option Value)} (h : xl ls nL lv) (k : Nat) : xl ls nL (lv ++ List.replicate k none) := by
  refine ⟨h.1, h.2.1, fun j v hj => h.2.2 j v ?_⟩
  by_cases hlt : j < lv.length
  · rwa [List.getElem?_append_left hlt] at hj
  · rw [List.getElem?_append_right (by omega), List.getElem?_replicate] at hj
    split at hj <;> simp at hj
theorem narrow_i (v : Int32) : narrow .int (.int v) = .int v := rfl
/-- a contract out of the walk of the body -/
theorem XM.of {Γ : Gm} {M : Mt} {d mc ms : Nat} {As : List Value} {μ : Mem} {Q : Option Value → Mem → Prop} (k : Nat) {lv : List (Option Value)} (hlv : xlv As ++ List.replicate k none = lv) (hy : plainName M.1.cls = true) (hn : (lg_sl As).length ≤ M.2.2.1)
    (h : WA Γ M (xrm d mc ms) mc ms 0 0 Q 0 lv [] μ) : XM Γ M d mc ms As μ Q := by
  refine Met.ofW (cc := M.2.1) (maxL := M.2.2.1) (ret := M.2.2.2) hy rfl ?_
  intro p e s m args below meth c s₁ B hml hv
  obtain ⟨rfl, hP, hK, hB, hE⟩ := hv
  have hts := atoms_spec (ws := xws M) B.pre
  rw [lg_entry_eq]
  have F : XF Γ M p s m As.toArray meth c := ⟨B.exec, B.bytes, hml, B.returns, B.notSynchronized, (name_of_methodNamed B.named B.method).1, findClass_of_methodNamed B.named, fun w hw => hts w (List.mem_cons_of_mem _ hw), hK, hB, hE⟩
  refine h p e s m As.toArray below meth c _ s.heap [] _ F va_S.rf hP (by rw [← hlv]; exact xl_pad (xl_entry As hn (fun j v hj => by have := xlv_args As 0 j v hj; rwa [Nat.zero_add] at this)) k) ?_
  intro r μ' H' locs' hQ hP' hS' pc ls
  have hq : ∀ t : State, t.heap = H' → s.WarmedH t.vm → XQ Γ Q As.toArray s (.returned r) t := fun t ht hW => ⟨⟨r, μ', rfl, hQ, by rw [ht]; exact hP'⟩, by rw [ht]; exact hS'.1, fun q h1 h2 => by rw [ht]; exact hS'.2.1 q h1 h2⟩
  obtain ⟨hx, hb, -, hr, hlocks, -⟩ := F
  match r, hq with
  | none, hq => exact fun h1 hd => W.vret hx hb (by rw [hr]; exact h1) hq hS'.2.2 hd hlocks
  | some (.int v), hq => exact fun ⟨ty, h1, h2⟩ hd => W.zret hx hb (by rw [hr]; exact h1) h2 hq hS'.2.2 hd hlocks
  | some (.long v), hq => exact fun h1 hd => W.lret hx hb (by rw [hr]; exact h1) hq hS'.2.2 hd hlocks
  | some (.ref v), hq => exact fun ⟨t, h1, h2⟩ hd => W.aret hx hb (by rw [hr]; exact h1) h2 (Or.inr ⟨v, rfl⟩) hq hS'.2.2 hd hlocks
  | some (.null), hq => trivial
  | some (.float _), hq => trivial
  | some (.double _), hq => trivial
  | some (.retAddr _), hq => trivial
end
section
section XR
variable {Γ : Gm} {M : Mt} {R : Room} {mc ms cl sl : Nat} {Q : Option Value → Mem → Prop} {pc : Nat} {lv lv2 : List (Option Value)} {st : List Value} {μ : Mem}
theorem x_iadd {a b : Int32} (d : decode M.2.1 pc = .ok (.iadd, 1))  (k : WA Γ M R mc ms cl sl Q (pc + 1) lv (.int (a + b) :: st) μ) : WA Γ M R mc ms cl sl Q pc lv (.int b :: .int a :: st) μ := fun p e s m args below meth c Qf H locs ls F hS hP hl hE => lv_iadd F.1 F.2.1 d  (k p e s m args below meth c Qf H locs ls F hS hP hl hE)
theorem x_isub {a b : Int32} (d : decode M.2.1 pc = .ok (.isub, 1))  (k : WA Γ M R mc ms cl sl Q (pc + 1) lv (.int (a - b) :: st) μ) : WA Γ M R mc ms cl sl Q pc lv (.int b :: .int a :: st) μ := fun p e s m args below meth c Qf H locs ls F hS hP hl hE => lv_isub F.1 F.2.1 d  (k p e s m args below meth c Qf H locs ls F hS hP hl hE)
theorem x_imul {a b : Int32} (d : decode M.2.1 pc = .ok (.imul, 1))  (k : WA Γ M R mc ms cl sl Q (pc + 1) lv (.int (a * b) :: st) μ) : WA Γ M R mc ms cl sl Q pc lv (.int b :: .int a :: st) μ := fun p e s m args below meth c Qf H locs ls F hS hP hl hE => lv_imul F.1 F.2.1 d  (k p e s m args below meth c Qf H locs ls F hS hP hl hE)
theorem x_iand {a b : Int32} (d : decode M.2.1 pc = .ok (.iand, 1))  (k : WA Γ M R mc ms cl sl Q (pc + 1) lv (.int (a &&& b) :: st) μ) : WA Γ M R mc ms cl sl Q pc lv (.int b :: .int a :: st) μ := fun p e s m args below meth c Qf H locs ls F hS hP hl hE => lv_iand F.1 F.2.1 d  (k p e s m args below meth c Qf H locs ls F hS hP hl hE)
theorem x_ior {a b : Int32} (d : decode M.2.1 pc = .ok (.ior, 1))  (k : WA Γ M R mc ms cl sl Q (pc + 1) lv (.int (a ||| b) :: st) μ) : WA Γ M R mc ms cl sl Q pc lv (.int b :: .int a :: st) μ := fun p e s m args below meth c Qf H locs ls F hS hP hl hE => lv_ior F.1 F.2.1 d  (k p e s m args below meth c Qf H locs ls F hS hP hl hE)
theorem x_ixor {a b : Int32} (d : decode M.2.1 pc = .ok (.ixor, 1))  (k : WA Γ M R mc ms cl sl Q (pc + 1) lv (.int (a ^^^ b) :: st) μ) : WA Γ M R mc ms cl sl Q pc lv (.int b :: .int a :: st) μ := fun p e s m args below meth c Qf H locs ls F hS hP hl hE => lv_ixor F.1 F.2.1 d  (k p e s m args below meth c Qf H locs ls F hS hP hl hE)
theorem x_ishl {a b : Int32} (d : decode M.2.1 pc = .ok (.ishl, 1))  (k : WA Γ M R mc ms cl sl Q (pc + 1) lv (.int (a <<< (b &&& 31)) :: st) μ) : WA Γ M R mc ms cl sl Q pc lv (.int b :: .int a :: st) μ := fun p e s m args below meth c Qf H locs ls F hS hP hl hE => lv_ishl F.1 F.2.1 d  (k p e s m args below meth c Qf H locs ls F hS hP hl hE)
theorem x_ishr {a b : Int32} (d : decode M.2.1 pc = .ok (.ishr, 1))  (k : WA Γ M R mc ms cl sl Q (pc + 1) lv (.int (a >>> (b &&& 31)) :: st) μ) : WA Γ M R mc ms cl sl Q pc lv (.int b :: .int a :: st) μ := fun p e s m args below meth c Qf H locs ls F hS hP hl hE => lv_ishr F.1 F.2.1 d  (k p e s m args below meth c Qf H locs ls F hS hP hl hE)
theorem x_idiv {a b : Int32} (d : decode M.2.1 pc = .ok (.idiv, 1)) (h : ¬ b = 0) (k : WA Γ M R mc ms cl sl Q (pc + 1) lv (.int (a / b) :: st) μ) : WA Γ M R mc ms cl sl Q pc lv (.int b :: .int a :: st) μ := fun p e s m args below meth c Qf H locs ls F hS hP hl hE => lv_idiv F.1 F.2.1 d h (k p e s m args below meth c Qf H locs ls F hS hP hl hE)
theorem x_irem {a b : Int32} (d : decode M.2.1 pc = .ok (.irem, 1)) (h : ¬ b = 0) (k : WA Γ M R mc ms cl sl Q (pc + 1) lv (.int (a - a / b * b) :: st) μ) : WA Γ M R mc ms cl sl Q pc lv (.int b :: .int a :: st) μ := fun p e s m args below meth c Qf H locs ls F hS hP hl hE => lv_irem F.1 F.2.1 d h (k p e s m args below meth c Qf H locs ls F hS hP hl hE)
theorem x_ineg {a : Int32} (d : decode M.2.1 pc = .ok (.ineg, 1))  (k : WA Γ M R mc ms cl sl Q (pc + 1) lv (.int (-a) :: st) μ) : WA Γ M R mc ms cl sl Q pc lv (.int a :: st) μ := fun p e s m args below meth c Qf H locs ls F hS hP hl hE => lv_ineg F.1 F.2.1 d  (k p e s m args below meth c Qf H locs ls F hS hP hl hE)
theorem x_iushr {a b : Int32} (d : decode M.2.1 pc = .ok (.iushr, 1))  (k : WA Γ M R mc ms cl sl Q (pc + 1) lv (.int ((a.toUInt32 >>> (b.toUInt32 &&& Int32.toUInt32 31)).toInt32) :: st) μ) : WA Γ M R mc ms cl sl Q pc lv (.int b :: .int a :: st) μ := fun p e s m args below meth c Qf H locs ls F hS hP hl hE => lv_iushr F.1 F.2.1 d rfl (k p e s m args below meth c Qf H locs ls F hS hP hl hE)
theorem x_i2l {a : Int32} (d : decode M.2.1 pc = .ok (.i2l, 1))  (k : WA Γ M R mc ms cl sl Q (pc + 1) lv (.long a.toInt64 :: st) μ) : WA Γ M R mc ms cl sl Q pc lv (.int a :: st) μ := fun p e s m args below meth c Qf H locs ls F hS hP hl hE => lv_i2l F.1 F.2.1 d rfl (k p e s m args below meth c Qf H locs ls F hS hP hl hE)
theorem x_i2b {a : Int32} (d : decode M.2.1 pc = .ok (.i2b, 1))  (k : WA Γ M R mc ms cl sl Q (pc + 1) lv (.int a.toInt8.toInt32 :: st) μ) : WA Γ M R mc ms cl sl Q pc lv (.int a :: st) μ := fun p e s m args below meth c Qf H locs ls F hS hP hl hE => lv_i2b F.1 F.2.1 d rfl (k p e s m args below meth c Qf H locs ls F hS hP hl hE)
theorem x_i2s {a : Int32} (d : decode M.2.1 pc = .ok (.i2s, 1))  (k : WA Γ M R mc ms cl sl Q (pc + 1) lv (.int a.toInt16.toInt32 :: st) μ) : WA Γ M R mc ms cl sl Q pc lv (.int a :: st) μ := fun p e s m args below meth c Qf H locs ls F hS hP hl hE => lv_i2s F.1 F.2.1 d rfl (k p e s m args below meth c Qf H locs ls F hS hP hl hE)
theorem x_i2c {a v : Int32} (d : decode M.2.1 pc = .ok (.i2c, 1)) (h : (a.toUInt32 % 65536).toInt32 = v) (k : WA Γ M R mc ms cl sl Q (pc + 1) lv (.int v :: st) μ) : WA Γ M R mc ms cl sl Q pc lv (.int a :: st) μ := fun p e s m args below meth c Qf H locs ls F hS hP hl hE => lv_i2c F.1 F.2.1 d h (k p e s m args below meth c Qf H locs ls F hS hP hl hE)
theorem x_l2i {a : Int64} (d : decode M.2.1 pc = .ok (.l2i, 1))  (k : WA Γ M R mc ms cl sl Q (pc + 1) lv (.int a.toInt32 :: st) μ) : WA Γ M R mc ms cl sl Q pc lv (.long a :: st) μ := fun p e s m args below meth c Qf H locs ls F hS hP hl hE => lv_l2i F.1 F.2.1 d rfl (k p e s m args below meth c Qf H locs ls F hS hP hl hE)
theorem x_ladd {a b : Int64} (d : decode M.2.1 pc = .ok (.ladd, 1))  (k : WA Γ M R mc ms cl sl Q (pc + 1) lv (.long (a + b) :: st) μ) : WA Γ M R mc ms cl sl Q pc lv (.long b :: .long a :: st) μ := fun p e s m args below meth c Qf H locs ls F hS hP hl hE => lv_ladd F.1 F.2.1 d  (k p e s m args below meth c Qf H locs ls F hS hP hl hE)
theorem x_lsub {a b : Int64} (d : decode M.2.1 pc = .ok (.lsub, 1))  (k : WA Γ M R mc ms cl sl Q (pc + 1) lv (.long (a - b) :: st) μ) : WA Γ M R mc ms cl sl Q pc lv (.long b :: .long a :: st) μ := fun p e s m args below meth c Qf H locs ls F hS hP hl hE => lv_lsub F.1 F.2.1 d  (k p e s m args below meth c Qf H locs ls F hS hP hl hE)
theorem x_lmul {a b : Int64} (d : decode M.2.1 pc = .ok (.lmul, 1))  (k : WA Γ M R mc ms cl sl Q (pc + 1) lv (.long (a * b) :: st) μ) : WA Γ M R mc ms cl sl Q pc lv (.long b :: .long a :: st) μ := fun p e s m args below meth c Qf H locs ls F hS hP hl hE => lv_lmul F.1 F.2.1 d  (k p e s m args below meth c Qf H locs ls F hS hP hl hE)
theorem x_ldiv {a b : Int64} (d : decode M.2.1 pc = .ok (.ldiv, 1)) (h : ¬ b = 0) (k : WA Γ M R mc ms cl sl Q (pc + 1) lv (.long (a / b) :: st) μ) : WA Γ M R mc ms cl sl Q pc lv (.long b :: .long a :: st) μ := fun p e s m args below meth c Qf H locs ls F hS hP hl hE => lv_ldiv F.1 F.2.1 d h (k p e s m args below meth c Qf H locs ls F hS hP hl hE)
theorem x_lrem {a b : Int64} (d : decode M.2.1 pc = .ok (.lrem, 1)) (h : ¬ b = 0) (k : WA Γ M R mc ms cl sl Q (pc + 1) lv (.long (a - a / b * b) :: st) μ) : WA Γ M R mc ms cl sl Q pc lv (.long b :: .long a :: st) μ := fun p e s m args below meth c Qf H locs ls F hS hP hl hE => lv_lrem F.1 F.2.1 d h (k p e s m args below meth c Qf H locs ls F hS hP hl hE)
theorem x_iconst {n : Int} {v : Int32} (d : decode M.2.1 pc = .ok (.iconst n, 1)) (h : Int32.ofInt n = v) (k : WA Γ M R mc ms cl sl Q (pc + 1) lv (.int v :: st) μ) : WA Γ M R mc ms cl sl Q pc lv (st) μ := fun p e s m args below meth c Qf H locs ls F hS hP hl hE => lv_iconst F.1 F.2.1 d h (k p e s m args below meth c Qf H locs ls F hS hP hl hE)
theorem x_bipush {n : Int} {v : Int32} (d : decode M.2.1 pc = .ok (.bipush n, 2)) (h : (Int8.ofInt n).toInt32 = v) (k : WA Γ M R mc ms cl sl Q (pc + 2) lv (.int v :: st) μ) : WA Γ M R mc ms cl sl Q pc lv (st) μ := fun p e s m args below meth c Qf H locs ls F hS hP hl hE => lv_bipush F.1 F.2.1 d h (k p e s m args below meth c Qf H locs ls F hS hP hl hE)
theorem x_sipush {n : Int} {v : Int32} (d : decode M.2.1 pc = .ok (.sipush n, 3)) (h : (Int16.ofInt n).toInt32 = v) (k : WA Γ M R mc ms cl sl Q (pc + 3) lv (.int v :: st) μ) : WA Γ M R mc ms cl sl Q pc lv (st) μ := fun p e s m args below meth c Qf H locs ls F hS hP hl hE => lv_sipush F.1 F.2.1 d h (k p e s m args below meth c Qf H locs ls F hS hP hl hE)
theorem x_lconst {n : Fin 2} {v : Int64} (d : decode M.2.1 pc = .ok (.lconst n, 1)) (h : Int64.ofNat (n : Nat) = v) (k : WA Γ M R mc ms cl sl Q (pc + 1) lv (.long v :: st) μ) : WA Γ M R mc ms cl sl Q pc lv (st) μ := fun p e s m args below meth c Qf H locs ls F hS hP hl hE => lv_lconst F.1 F.2.1 d h (k p e s m args below meth c Qf H locs ls F hS hP hl hE)
theorem x_dup {v : Value} (d : decode M.2.1 pc = .ok (.dup, 1)) (h : v.category = 1) (k : WA Γ M R mc ms cl sl Q (pc + 1) lv (v :: v :: st) μ) : WA Γ M R mc ms cl sl Q pc lv (v :: st) μ := fun p e s m args below meth c Qf H locs ls F hS hP hl hE => lv_dup F.1 F.2.1 d h (k p e s m args below meth c Qf H locs ls F hS hP hl hE)
theorem x_dup2_11 {u v : Value} (d : decode M.2.1 pc = .ok (.dup2, 1)) (h : u.category = 1) (h2 : v.category = 1) (k : WA Γ M R mc ms cl sl Q (pc + 1) lv (u :: v :: u :: v :: st) μ) : WA Γ M R mc ms cl sl Q pc lv (u :: v :: st) μ := fun p e s m args below meth c Qf H locs ls F hS hP hl hE => lv_dup2_11 F.1 F.2.1 d h h2 (k p e s m args below meth c Qf H locs ls F hS hP hl hE)
theorem x_pop {v : Value} (d : decode M.2.1 pc = .ok (.pop, 1)) (h : v.category = 1) (k : WA Γ M R mc ms cl sl Q (pc + 1) lv (st) μ) : WA Γ M R mc ms cl sl Q pc lv (v :: st) μ := fun p e s m args below meth c Qf H locs ls F hS hP hl hE => lv_pop F.1 F.2.1 d h (k p e s m args below meth c Qf H locs ls F hS hP hl hE)
theorem x_lcmp {a b : Int64} (d : decode M.2.1 pc = .ok (.lcmp, 1)) (k : WA Γ M R mc ms cl sl Q (pc + 1) lv (.int (lg_cmp a b) :: st) μ) : WA Γ M R mc ms cl sl Q pc lv (.long b :: .long a :: st) μ := fun p e s m args below meth c Qf H locs ls F hS hP hl hE => W.lcmp F.1 F.2.1 d (k p e s m args below meth c Qf H locs ls F hS hP hl hE)
theorem x_null (d : decode M.2.1 pc = .ok (.aconst_null, 1)) (k : WA Γ M R mc ms cl sl Q (pc + 1) lv (.null :: st) μ) : WA Γ M R mc ms cl sl Q pc lv st μ := fun p e s m args below meth c Qf H locs ls F hS hP hl hE => lv_null F.1 F.2.1 d (k p e s m args below meth c Qf H locs ls F hS hP hl hE)
theorem x_iload_n {n : Fin 4} {x : Int32} (d : decode M.2.1 pc = .ok (.iload_n n, 1)) (h : lv[(n : Nat)]? = some (some (.int x))) (k : WA Γ M R mc ms cl sl Q (pc + 1) lv (.int x :: st) μ) : WA Γ M R mc ms cl sl Q pc lv st μ := fun p e s m args below meth c Qf H locs ls F hS hP hl hE => lv_iload_n F.1 F.2.1 d rfl (hl.2.2 _ _ h) (k p e s m args below meth c Qf H locs ls F hS hP hl hE)
theorem x_iload {n : Nat} {x : Int32} (d : decode M.2.1 pc = .ok (.iload n, 2)) (h : lv[n]? = some (some (.int x))) (k : WA Γ M R mc ms cl sl Q (pc + 2) lv (.int x :: st) μ) : WA Γ M R mc ms cl sl Q pc lv st μ := fun p e s m args below meth c Qf H locs ls F hS hP hl hE => lv_iload F.1 F.2.1 d (hl.2.2 _ _ h) (k p e s m args below meth c Qf H locs ls F hS hP hl hE)
theorem x_lload_n {n : Fin 4} {x : Int64} (d : decode M.2.1 pc = .ok (.lload_n n, 1)) (h : lv[(n : Nat)]? = some (some (.long x))) (k : WA Γ M R mc ms cl sl Q (pc + 1) lv (.long x :: st) μ) : WA Γ M R mc ms cl sl Q pc lv st μ := fun p e s m args below meth c Qf H locs ls F hS hP hl hE => lv_lload_n F.1 F.2.1 d rfl (hl.2.2 _ _ h) (k p e s m args below meth c Qf H locs ls F hS hP hl hE)
theorem x_lload {n : Nat} {x : Int64} (d : decode M.2.1 pc = .ok (.lload n, 2)) (h : lv[n]? = some (some (.long x))) (k : WA Γ M R mc ms cl sl Q (pc + 2) lv (.long x :: st) μ) : WA Γ M R mc ms cl sl Q pc lv st μ := fun p e s m args below meth c Qf H locs ls F hS hP hl hE => lv_lload F.1 F.2.1 d (hl.2.2 _ _ h) (k p e s m args below meth c Qf H locs ls F hS hP hl hE)
theorem x_aload_n {n : Fin 4} {x : Nat} (d : decode M.2.1 pc = .ok (.aload_n n, 1)) (h : lv[(n : Nat)]? = some (some (.ref x))) (k : WA Γ M R mc ms cl sl Q (pc + 1) lv (.ref x :: st) μ) : WA Γ M R mc ms cl sl Q pc lv st μ := fun p e s m args below meth c Qf H locs ls F hS hP hl hE => lv_aload_n F.1 F.2.1 d rfl (hl.2.2 _ _ h) (k p e s m args below meth c Qf H locs ls F hS hP hl hE)
theorem x_aload {n : Nat} {x : Nat} (d : decode M.2.1 pc = .ok (.aload n, 2)) (h : lv[n]? = some (some (.ref x))) (k : WA Γ M R mc ms cl sl Q (pc + 2) lv (.ref x :: st) μ) : WA Γ M R mc ms cl sl Q pc lv st μ := fun p e s m args below meth c Qf H locs ls F hS hP hl hE => lv_aload F.1 F.2.1 d (hl.2.2 _ _ h) (k p e s m args below meth c Qf H locs ls F hS hP hl hE)
/-- may a slot be stored: no long ends there -/
def xok (lv : List (Option Value)) (i : Nat) : Bool := match i with
  | 0 => true
  | j + 1 => match lv[j]? with
    | some (some v) => v.category == 1
    | some none => true
    | none => true
def xls (lv : List (Option Value)) : List (Nat × Value) := (List.range lv.length).filterMap (fun j => match lv[j]? with
  | some (some v) => some (j, v)
  | _ => none)
theorem xls_mem {lv : List (Option Value)} {j : Nat} {v : Value} : (j, v) ∈ xls lv ↔ lv[j]? = some (some v) := by
  unfold xls
  rw [List.mem_filterMap]
  constructor
  · rintro ⟨i, hi, h⟩
    split at h
    · rename_i u hu
      cases h
      exact hu
    · cases h
  · intro h
    refine ⟨j, ?_, ?_⟩
    · rw [List.mem_range]
      exact (List.getElem?_eq_some_iff.mp h).1
    · rw [h]
theorem xl_has {ls : Array Slot} {nL : Nat} {lv : List (Option Value)} (h : xl ls nL lv) : lv_has ls nL (xls lv) := ⟨h.1, h.2.1, fun q hq => h.2.2 q.1 q.2 (xls_mem.mp hq)⟩
theorem xl_st1 {ls : Array Slot} {nL i : Nat} {lv : List (Option Value)} {v : Value} (hk : xok lv i = true) (h : lv_has ls nL ((i, v) :: (xls lv).filter (fun q => !(q.1 == i) && !(q.1 + 1 == i && q.2.category == 2)))) : xl ls nL (lv.set i (some v)) := by
  refine ⟨h.1, h.2.1, fun j u hj => h.2.2 (j, u) ?_⟩
  rw [List.getElem?_set] at hj
  by_cases hji : i = j
  · subst hji
    simp at hj
    rw [← hj.2]
    exact List.mem_cons_self
  · rw [if_neg hji] at hj
    refine List.mem_cons_of_mem _ (List.mem_filter.mpr ⟨xls_mem.mpr hj, ?_⟩)
    have e1 : (j == i) = false := by simp; exact fun e => hji e.symm
    by_cases hj1 : j + 1 = i
    · subst hj1
      simp only [xok, hj] at hk
      have e2 : u.category = 1 := by simpa using hk
      simp [e2]
    · have e2 : (j + 1 == i) = false := by simpa using hj1
      simp [e1, e2]
theorem xl_st2 {ls : Array Slot} {nL i : Nat} {lv : List (Option Value)} {v : Value} (hk : xok lv i = true) (h : lv_has ls nL ((i, v) :: (xls lv).filter (fun q => !(q.1 == i) && (!(q.1 == i + 1) && !(q.1 + 1 == i && q.2.category == 2))))) : xl ls nL ((lv.set i (some v)).set (i + 1) none) := by
  refine ⟨h.1, h.2.1, fun j u hj => h.2.2 (j, u) ?_⟩
  rw [List.getElem?_set] at hj
  by_cases hj2 : i + 1 = j
  · rw [if_pos hj2] at hj
    split at hj <;> simp at hj
  rw [if_neg hj2, List.getElem?_set] at hj
  by_cases hji : i = j
  · subst hji
    simp at hj
    rw [← hj.2]
    exact List.mem_cons_self
  · rw [if_neg hji] at hj
    refine List.mem_cons_of_mem _ (List.mem_filter.mpr ⟨xls_mem.mpr hj, ?_⟩)
    have e1 : (j == i) = false := by simp; exact fun e => hji e.symm
    have e3 : (j == i + 1) = false := by simp; exact fun e => hj2 e.symm
    by_cases hj1 : j + 1 = i
    · subst hj1
      simp only [xok, hj] at hk
      have e2 : u.category = 1 := by simpa using hk
      simp [e2, e3]
    · have e2 : (j + 1 == i) = false := by simpa using hj1
      simp [e1, e2, e3]
theorem x_istore_n {n : Fin 4} {x : Int32} (d : decode M.2.1 pc = .ok (.istore_n n, 1)) (hn : (n : Nat) < M.2.2.1) (hk : xok lv n = true) (h : lv.set (n : Nat) (some (.int x)) = lv2) (k : WA Γ M R mc ms cl sl Q (pc + 1) lv2 st μ) : WA Γ M R mc ms cl sl Q pc lv (.int x :: st) μ := fun p e s m args below meth c Qf H locs ls F hS hP hl hE => lv_istore_n F.1 F.2.1 d rfl (xl_has hl) hn rfl (fun ls2 h2 => k p e s m args below meth c Qf H locs ls2 F hS hP (by rw [← h]; exact xl_st1 hk h2) hE)
theorem x_istore {n : Nat} {x : Int32} (d : decode M.2.1 pc = .ok (.istore n, 2)) (hn : n < M.2.2.1) (hk : xok lv n = true) (h : lv.set n (some (.int x)) = lv2) (k : WA Γ M R mc ms cl sl Q (pc + 2) lv2 st μ) : WA Γ M R mc ms cl sl Q pc lv (.int x :: st) μ := fun p e s m args below meth c Qf H locs ls F hS hP hl hE => lv_istore F.1 F.2.1 d (xl_has hl) hn rfl (fun ls2 h2 => k p e s m args below meth c Qf H locs ls2 F hS hP (by rw [← h]; exact xl_st1 hk h2) hE)
theorem x_astore_n {n : Fin 4} {x : Nat} (d : decode M.2.1 pc = .ok (.astore_n n, 1)) (hn : (n : Nat) < M.2.2.1) (hk : xok lv n = true) (h : lv.set (n : Nat) (some (.ref x)) = lv2) (k : WA Γ M R mc ms cl sl Q (pc + 1) lv2 st μ) : WA Γ M R mc ms cl sl Q pc lv (.ref x :: st) μ := fun p e s m args below meth c Qf H locs ls F hS hP hl hE => lv_astore_n F.1 F.2.1 d rfl (xl_has hl) hn rfl (fun ls2 h2 => k p e s m args below meth c Qf H locs ls2 F hS hP (by rw [← h]; exact xl_st1 hk h2) hE)
theorem x_astore {n : Nat} {x : Nat} (d : decode M.2.1 pc = .ok (.astore n, 2)) (hn : n < M.2.2.1) (hk : xok lv n = true) (h : lv.set n (some (.ref x)) = lv2) (k : WA Γ M R mc ms cl sl Q (pc + 2) lv2 st μ) : WA Γ M R mc ms cl sl Q pc lv (.ref x :: st) μ := fun p e s m args below meth c Qf H locs ls F hS hP hl hE => lv_astore F.1 F.2.1 d (xl_has hl) hn rfl (fun ls2 h2 => k p e s m args below meth c Qf H locs ls2 F hS hP (by rw [← h]; exact xl_st1 hk h2) hE)
theorem x_lstore_n {n : Fin 4} {x : Int64} (d : decode M.2.1 pc = .ok (.lstore_n n, 1)) (hn : (n : Nat) + 1 < M.2.2.1) (hk : xok lv n = true) (h : (lv.set (n : Nat) (some (.long x))).set ((n : Nat) + 1) none = lv2) (k : WA Γ M R mc ms cl sl Q (pc + 1) lv2 st μ) : WA Γ M R mc ms cl sl Q pc lv (.long x :: st) μ := fun p e s m args below meth c Qf H locs ls F hS hP hl hE => lv_lstore_n F.1 F.2.1 d rfl (xl_has hl) hn rfl (fun ls2 h2 => k p e s m args below meth c Qf H locs ls2 F hS hP (by rw [← h]; exact xl_st2 hk h2) hE)
theorem x_lstore {n : Nat} {x : Int64} (d : decode M.2.1 pc = .ok (.lstore n, 2)) (hn : n + 1 < M.2.2.1) (hk : xok lv n = true) (h : (lv.set n (some (.long x))).set (n + 1) none = lv2) (k : WA Γ M R mc ms cl sl Q (pc + 2) lv2 st μ) : WA Γ M R mc ms cl sl Q pc lv (.long x :: st) μ := fun p e s m args below meth c Qf H locs ls F hS hP hl hE => lv_lstore F.1 F.2.1 d (xl_has hl) hn rfl (fun ls2 h2 => k p e s m args below meth c Qf H locs ls2 F hS hP (by rw [← h]; exact xl_st2 hk h2) hE)
theorem xls_at {lv : List (Option Value)} {i : Nat} {v : Value} (h : lv[i]? = some (some v)) : ∃ k : Nat, (xls lv)[k]? = some (i, v) := List.mem_iff_getElem?.mp (xls_mem.mpr h)
theorem x_iinc {i : Nat} {n : Int} {x v : Int32} (d : decode M.2.1 pc = .ok (.iinc i n, 3)) (hn : i < M.2.2.1) (hk : xok lv i = true) (hx : lv[i]? = some (some (.int x))) (hv : x + Int32.ofInt n = v) (h : lv.set i (some (.int v)) = lv2) (k : WA Γ M R mc ms cl sl Q (pc + 3) lv2 st μ) : WA Γ M R mc ms cl sl Q pc lv st μ := fun p e s m args below meth c Qf H locs ls F hS hP hl hE => by
  obtain ⟨q, hq⟩ := xls_at hx
  exact lv_iinc F.1 F.2.1 d (xl_has hl) hq hv hn rfl (fun ls2 h2 => k p e s m args below meth c Qf H locs ls2 F hS hP (by rw [← h]; exact xl_st1 hk h2) hE)
theorem x_if_eq {a : Int32} {off : Int} {tgt : Nat} (d : decode M.2.1 pc = .ok (.ifCond .eq off, 3)) (ht : (pc : Int) + off = (tgt : Int)) (k1 : a = 0 → WA Γ M R mc ms cl sl Q tgt lv st μ) (k2 : ¬ a = 0 → WA Γ M R mc ms cl sl Q (pc + 3) lv st μ) : WA Γ M R mc ms cl sl Q pc lv (.int a :: st) μ := fun p e s m args below meth c Qf H locs ls F hS hP hl hE => lv_if_eq F.1 F.2.1 d ht (fun h => k1 h p e s m args below meth c Qf H locs ls F hS hP hl hE) (fun h => k2 h p e s m args below meth c Qf H locs ls F hS hP hl hE)
theorem x_icmp_eq {a b : Int32} {off : Int} {tgt : Nat} (d : decode M.2.1 pc = .ok (.if_icmp .eq off, 3)) (ht : (pc : Int) + off = (tgt : Int)) (k1 : a = b → WA Γ M R mc ms cl sl Q tgt lv st μ) (k2 : ¬ a = b → WA Γ M R mc ms cl sl Q (pc + 3) lv st μ) : WA Γ M R mc ms cl sl Q pc lv (.int b :: .int a :: st) μ := fun p e s m args below meth c Qf H locs ls F hS hP hl hE => lv_icmp_eq F.1 F.2.1 d ht (fun h => k1 h p e s m args below meth c Qf H locs ls F hS hP hl hE) (fun h => k2 h p e s m args below meth c Qf H locs ls F hS hP hl hE)
theorem x_if_ne {a : Int32} {off : Int} {tgt : Nat} (d : decode M.2.1 pc = .ok (.ifCond .ne off, 3)) (ht : (pc : Int) + off = (tgt : Int)) (k1 : ¬ a = 0 → WA Γ M R mc ms cl sl Q tgt lv st μ) (k2 : a = 0 → WA Γ M R mc ms cl sl Q (pc + 3) lv st μ) : WA Γ M R mc ms cl sl Q pc lv (.int a :: st) μ := fun p e s m args below meth c Qf H locs ls F hS hP hl hE => lv_if_ne F.1 F.2.1 d ht (fun h => k1 h p e s m args below meth c Qf H locs ls F hS hP hl hE) (fun h => k2 h p e s m args below meth c Qf H locs ls F hS hP hl hE)
theorem x_icmp_ne {a b : Int32} {off : Int} {tgt : Nat} (d : decode M.2.1 pc = .ok (.if_icmp .ne off, 3)) (ht : (pc : Int) + off = (tgt : Int)) (k1 : ¬ a = b → WA Γ M R mc ms cl sl Q tgt lv st μ) (k2 : a = b → WA Γ M R mc ms cl sl Q (pc + 3) lv st μ) : WA Γ M R mc ms cl sl Q pc lv (.int b :: .int a :: st) μ := fun p e s m args below meth c Qf H locs ls F hS hP hl hE => lv_icmp_ne F.1 F.2.1 d ht (fun h => k1 h p e s m args below meth c Qf H locs ls F hS hP hl hE) (fun h => k2 h p e s m args below meth c Qf H locs ls F hS hP hl hE)
theorem x_if_lt {a : Int32} {off : Int} {tgt : Nat} (d : decode M.2.1 pc = .ok (.ifCond .lt off, 3)) (ht : (pc : Int) + off = (tgt : Int)) (k1 : a < 0 → WA Γ M R mc ms cl sl Q tgt lv st μ) (k2 : ¬ a < 0 → WA Γ M R mc ms cl sl Q (pc + 3) lv st μ) : WA Γ M R mc ms cl sl Q pc lv (.int a :: st) μ := fun p e s m args below meth c Qf H locs ls F hS hP hl hE => lv_if_lt F.1 F.2.1 d ht (fun h => k1 h p e s m args below meth c Qf H locs ls F hS hP hl hE) (fun h => k2 h p e s m args below meth c Qf H locs ls F hS hP hl hE)
theorem x_icmp_lt {a b : Int32} {off : Int} {tgt : Nat} (d : decode M.2.1 pc = .ok (.if_icmp .lt off, 3)) (ht : (pc : Int) + off = (tgt : Int)) (k1 : a < b → WA Γ M R mc ms cl sl Q tgt lv st μ) (k2 : ¬ a < b → WA Γ M R mc ms cl sl Q (pc + 3) lv st μ) : WA Γ M R mc ms cl sl Q pc lv (.int b :: .int a :: st) μ := fun p e s m args below meth c Qf H locs ls F hS hP hl hE => lv_icmp_lt F.1 F.2.1 d ht (fun h => k1 h p e s m args below meth c Qf H locs ls F hS hP hl hE) (fun h => k2 h p e s m args below meth c Qf H locs ls F hS hP hl hE)
theorem x_if_ge {a : Int32} {off : Int} {tgt : Nat} (d : decode M.2.1 pc = .ok (.ifCond .ge off, 3)) (ht : (pc : Int) + off = (tgt : Int)) (k1 : 0 ≤ a → WA Γ M R mc ms cl sl Q tgt lv st μ) (k2 : ¬ 0 ≤ a → WA Γ M R mc ms cl sl Q (pc + 3) lv st μ) : WA Γ M R mc ms cl sl Q pc lv (.int a :: st) μ := fun p e s m args below meth c Qf H locs ls F hS hP hl hE => lv_if_ge F.1 F.2.1 d ht (fun h => k1 h p e s m args below meth c Qf H locs ls F hS hP hl hE) (fun h => k2 h p e s m args below meth c Qf H locs ls F hS hP hl hE)
theorem x_icmp_ge {a b : Int32} {off : Int} {tgt : Nat} (d : decode M.2.1 pc = .ok (.if_icmp .ge off, 3)) (ht : (pc : Int) + off = (tgt : Int)) (k1 : b ≤ a → WA Γ M R mc ms cl sl Q tgt lv st μ) (k2 : ¬ b ≤ a → WA Γ M R mc ms cl sl Q (pc + 3) lv st μ) : WA Γ M R mc ms cl sl Q pc lv (.int b :: .int a :: st) μ := fun p e s m args below meth c Qf H locs ls F hS hP hl hE => lv_icmp_ge F.1 F.2.1 d ht (fun h => k1 h p e s m args below meth c Qf H locs ls F hS hP hl hE) (fun h => k2 h p e s m args below meth c Qf H locs ls F hS hP hl hE)
theorem x_if_gt {a : Int32} {off : Int} {tgt : Nat} (d : decode M.2.1 pc = .ok (.ifCond .gt off, 3)) (ht : (pc : Int) + off = (tgt : Int)) (k1 : 0 < a → WA Γ M R mc ms cl sl Q tgt lv st μ) (k2 : ¬ 0 < a → WA Γ M R mc ms cl sl Q (pc + 3) lv st μ) : WA Γ M R mc ms cl sl Q pc lv (.int a :: st) μ := fun p e s m args below meth c Qf H locs ls F hS hP hl hE => lv_if_gt F.1 F.2.1 d ht (fun h => k1 h p e s m args below meth c Qf H locs ls F hS hP hl hE) (fun h => k2 h p e s m args below meth c Qf H locs ls F hS hP hl hE)
theorem x_icmp_gt {a b : Int32} {off : Int} {tgt : Nat} (d : decode M.2.1 pc = .ok (.if_icmp .gt off, 3)) (ht : (pc : Int) + off = (tgt : Int)) (k1 : b < a → WA Γ M R mc ms cl sl Q tgt lv st μ) (k2 : ¬ b < a → WA Γ M R mc ms cl sl Q (pc + 3) lv st μ) : WA Γ M R mc ms cl sl Q pc lv (.int b :: .int a :: st) μ := fun p e s m args below meth c Qf H locs ls F hS hP hl hE => lv_icmp_gt F.1 F.2.1 d ht (fun h => k1 h p e s m args below meth c Qf H locs ls F hS hP hl hE) (fun h => k2 h p e s m args below meth c Qf H locs ls F hS hP hl hE)
theorem x_if_le {a : Int32} {off : Int} {tgt : Nat} (d : decode M.2.1 pc = .ok (.ifCond .le off, 3)) (ht : (pc : Int) + off = (tgt : Int)) (k1 : a ≤ 0 → WA Γ M R mc ms cl sl Q tgt lv st μ) (k2 : ¬ a ≤ 0 → WA Γ M R mc ms cl sl Q (pc + 3) lv st μ) : WA Γ M R mc ms cl sl Q pc lv (.int a :: st) μ := fun p e s m args below meth c Qf H locs ls F hS hP hl hE => lv_if_le F.1 F.2.1 d ht (fun h => k1 h p e s m args below meth c Qf H locs ls F hS hP hl hE) (fun h => k2 h p e s m args below meth c Qf H locs ls F hS hP hl hE)
theorem x_icmp_le {a b : Int32} {off : Int} {tgt : Nat} (d : decode M.2.1 pc = .ok (.if_icmp .le off, 3)) (ht : (pc : Int) + off = (tgt : Int)) (k1 : a ≤ b → WA Γ M R mc ms cl sl Q tgt lv st μ) (k2 : ¬ a ≤ b → WA Γ M R mc ms cl sl Q (pc + 3) lv st μ) : WA Γ M R mc ms cl sl Q pc lv (.int b :: .int a :: st) μ := fun p e s m args below meth c Qf H locs ls F hS hP hl hE => lv_icmp_le F.1 F.2.1 d ht (fun h => k1 h p e s m args below meth c Qf H locs ls F hS hP hl hE) (fun h => k2 h p e s m args below meth c Qf H locs ls F hS hP hl hE)
theorem x_goto {off : Int} {tgt : Nat} (d : decode M.2.1 pc = .ok (.goto off, 3)) (ht : (pc : Int) + off = (tgt : Int)) (k : WA Γ M R mc ms cl sl Q tgt lv st μ) : WA Γ M R mc ms cl sl Q pc lv st μ := fun p e s m args below meth c Qf H locs ls F hS hP hl hE => lv_goto F.1 F.2.1 d ht (k p e s m args below meth c Qf H locs ls F hS hP hl hE)
theorem x_ifnonnull {x : Nat} {off : Int} {tgt : Nat} (d : decode M.2.1 pc = .ok (.ifnonnull off, 3)) (ht : (pc : Int) + off = (tgt : Int)) (k : WA Γ M R mc ms cl sl Q tgt lv st μ) : WA Γ M R mc ms cl sl Q pc lv (.ref x :: st) μ := fun p e s m args below meth c Qf H locs ls F hS hP hl hE => lv_ifnonnull F.1 F.2.1 d ht (k p e s m args below meth c Qf H locs ls F hS hP hl hE)
theorem x_ifnonnullN {off : Int} (d : decode M.2.1 pc = .ok (.ifnonnull off, 3)) (k : WA Γ M R mc ms cl sl Q (pc + 3) lv st μ) : WA Γ M R mc ms cl sl Q pc lv (.null :: st) μ := fun p e s m args below meth c Qf H locs ls F hS hP hl hE => lv_ifnonnullN F.1 F.2.1 d (k p e s m args below meth c Qf H locs ls F hS hP hl hE)
theorem x_tableOut {dflt lo hi : Int} {offs : Array Int} {len : Nat} {x : Int32} {tgt : Nat} (d : decode M.2.1 pc = .ok (.tableswitch dflt lo hi offs, len)) (h : x.toInt < lo ∨ hi < x.toInt) (ht : (pc : Int) + dflt = (tgt : Int)) (k : WA Γ M R mc ms cl sl Q tgt lv st μ) : WA Γ M R mc ms cl sl Q pc lv (.int x :: st) μ := fun p e s m args below meth c Qf H locs ls F hS hP hl hE => lv_tableOut F.1 F.2.1 d h ht (k p e s m args below meth c Qf H locs ls F hS hP hl hE)
theorem x_tableIn {dflt lo hi : Int} {offs : Array Int} {len : Nat} {x : Int32} {off : Int} {tgt : Nat} (d : decode M.2.1 pc = .ok (.tableswitch dflt lo hi offs, len)) (h1 : ¬ x.toInt < lo) (h2 : ¬ hi < x.toInt) (ho : offs[(x.toInt - lo).toNat]? = some off) (ht : (pc : Int) + off = (tgt : Int)) (k : WA Γ M R mc ms cl sl Q tgt lv st μ) : WA Γ M R mc ms cl sl Q pc lv (.int x :: st) μ := fun p e s m args below meth c Qf H locs ls F hS hP hl hE => lv_tableIn F.1 F.2.1 d h1 h2 ho ht (k p e s m args below meth c Qf H locs ls F hS hP hl hE)
theorem x_ldc {i : Nat} {v : Int32} (d : decode M.2.1 pc = .ok (.ldc i, 2)) (hw : Cond.constant M.1.cls i v ∈ gT) (k : WA Γ M R mc ms cl sl Q (pc + 2) lv (.int v :: st) μ) : WA Γ M R mc ms cl sl Q pc lv st μ := fun p e s m args below meth c Qf H locs ls F hS hP hl hE => lv_ldc F.1 F.2.1 F.2.2.2.2.2.2.1 (F.2.2.2.2.2.2.2.1 _ hw) d (k p e s m args below meth c Qf H locs ls F hS hP hl hE)
theorem x_ldcw {i : Nat} {v : Int32} (d : decode M.2.1 pc = .ok (.ldc_w i, 3)) (hw : Cond.constant M.1.cls i v ∈ gT) (k : WA Γ M R mc ms cl sl Q (pc + 3) lv (.int v :: st) μ) : WA Γ M R mc ms cl sl Q pc lv st μ := fun p e s m args below meth c Qf H locs ls F hS hP hl hE => lv_ldcw F.1 F.2.1 F.2.2.2.2.2.2.1 (F.2.2.2.2.2.2.2.1 _ hw) d (k p e s m args below meth c Qf H locs ls F hS hP hl hE)
theorem x_ldc2 {i : Nat} {v : Int64} (d : decode M.2.1 pc = .ok (.ldc2_w i, 3)) (hw : Cond.constantLong M.1.cls i v ∈ gT) (k : WA Γ M R mc ms cl sl Q (pc + 3) lv (.long v :: st) μ) : WA Γ M R mc ms cl sl Q pc lv st μ := fun p e s m args below meth c Qf H locs ls F hS hP hl hE => lv_ldc2 F.1 F.2.1 F.2.2.2.2.2.2.1 (F.2.2.2.2.2.2.2.1 _ hw) d (k p e s m args below meth c Qf H locs ls F hS hP hl hE)
theorem x_ldcS {i n : Nat} (d : decode M.2.1 pc = .ok (.ldc i, 2)) (hn : n < 13) (ho : sOwn n = M.1.cls) (hi : sIdx n = i) (k : WA Γ M R mc ms cl sl Q (pc + 2) lv (.ref (Γ.2.2.2.2.1 n) :: st) μ) : WA Γ M R mc ms cl sl Q pc lv st μ := fun p e s m args below meth c Qf H locs ls F hS hP hl hE => va_ldcS F.1 F.2.1 F.2.2.2.2.2.2.1 (by rw [← ho, ← hi]; exact F.2.2.2.2.2.2.2.2.2.2.2.1 n hn) d (k p e s m args below meth c Qf H locs ls F hS hP hl hE)
theorem x_ireturn {v : Int32} {ty : FieldType} (d : decode M.2.1 pc = .ok (.ireturn, 1)) (hr : M.2.2.2 = some ty) (hn : narrow ty (.int v) = .int v) (h : Q (some (.int v)) μ) : WA Γ M R mc ms mc ms Q pc lv [.int v] μ := fun p e s m args below meth c Qf H locs ls F hS hP hl hE => hE _ _ _ _ h hP hS pc ls ⟨ty, hr, hn⟩ d
theorem x_lreturn {v : Int64} (d : decode M.2.1 pc = .ok (.lreturn, 1)) (hr : M.2.2.2 = some .long) (h : Q (some (.long v)) μ) : WA Γ M R mc ms mc ms Q pc lv [.long v] μ := fun p e s m args below meth c Qf H locs ls F hS hP hl hE => hE _ _ _ _ h hP hS pc ls hr d
theorem x_areturn {v : Nat} {t : FieldType} (d : decode M.2.1 pc = .ok (.areturn, 1)) (hr : M.2.2.2 = some t) (ht : (∃ n, t = .object n) ∨ ∃ u, t = .array u) (h : Q (some (.ref v)) μ) : WA Γ M R mc ms mc ms Q pc lv [.ref v] μ := fun p e s m args below meth c Qf H locs ls F hS hP hl hE => hE _ _ _ _ h hP hS pc ls ⟨t, hr, ht⟩ d
theorem x_return (d : decode M.2.1 pc = .ok (.return_, 1)) (hr : M.2.2.2 = none) (h : Q none μ) : WA Γ M R mc ms mc ms Q pc lv [] μ := fun p e s m args below meth c Qf H locs ls F hS hP hl hE => hE _ _ _ _ h hP hS pc ls hr d
theorem x_widen {k n : Nat} (h1 : cl ≤ k) (h2 : sl ≤ n) (kk : WA Γ M R mc ms k n Q pc lv st μ) : WA Γ M R mc ms cl sl Q pc lv st μ := fun p e s m args below meth c Qf H locs ls F hS hP hl hE => W.widen h1 h2 (kk p e s m args below meth c Qf H locs ls F hS hP hl hE)
theorem x_locals (h : ∀ (j : Nat) (v : Value), lv2[j]? = some (some v) → lv[j]? = some (some v)) (k : WA Γ M R mc ms cl sl Q pc lv2 st μ) : WA Γ M R mc ms cl sl Q pc lv st μ := fun p e s m args below meth c Qf H locs ls F hS hP hl hE => k p e s m args below meth c Qf H locs ls F hS hP ⟨hl.1, hl.2.1, fun j v hj => hl.2.2 j v (h j v hj)⟩ hE
theorem x_post {Q2 : Option Value → Mem → Prop} (h : ∀ r μ2, Q2 r μ2 → Q r μ2) (k : WA Γ M R mc ms cl sl Q2 pc lv st μ) : WA Γ M R mc ms cl sl Q pc lv st μ := fun p e s m args below meth c Qf H locs ls F hS hP hl hE => k p e s m args below meth c Qf H locs ls F hS hP hl (fun r μ2 H2 l2 hq => hE r μ2 H2 l2 (h r μ2 hq))
end XR
end
section
section XHP
variable {Γ : Gm} {M : Mt} {R : Room} {mc ms cl sl : Nat} {Q : Option Value → Mem → Prop} {pc : Nat} {lv lv2 : List (Option Value)} {st : List Value} {μ : Mem}
/-- a field's place in the pool of whose code runs -/
def FK (own : String) (idx ci k : Nat) : Prop := ci < 13 ∧ k < xN ci ∧ ∃ ref : String, Cond.fieldLink own idx ref (xT ci k).2.1 (xT ci k).2.2.1 ∈ gT ∧ (ref = (xT ci k).1 ∨ Cond.sameField ref (xT ci k).1 (xT ci k).2.1 (xT ci k).2.2.1 ∈ gT)
theorem xfs_at {μ : Mem} {q ci k : Nat} (h : k < xN ci) : (xfs μ q ci)[k]? = some (xv μ q k (xty ci k)) := by
  unfold xfs
  rw [List.getElem?_map, List.getElem?_range h]
  rfl
theorem xfs_len {μ : Mem} {q ci : Nat} : (xfs μ q ci).length = xN ci := by simp [xfs]
theorem FK_same {own : String} {idx ci k : Nat} {args : Array Value} {s : State} (hts : ∀ w ∈ gT, w.before args s = true) {ref : String} (h : ref = (xT ci k).1 ∨ Cond.sameField ref (xT ci k).1 (xT ci k).2.1 (xT ci k).2.2.1 ∈ gT) : ∀ x, s.fieldFound? (xT ci k).1 (xT ci k).2.1 (xT ci k).2.2.1 = some x → s.fieldFound? ref (xT ci k).2.1 (xT ci k).2.2.1 = some x := by
  intro x hx
  rcases h with h | h
  · rw [h]; exact hx
  · exact u_same (hts _ h) x hx
theorem x_getv {q idx ci k : Nat} {v : Value} (d : decode M.2.1 pc = .ok (.getfield idx, 3)) (f : FK M.1.cls idx ci k) (hT : mT μ q = (1, ci)) (hv : xv μ q k (xty ci k) = v) (kk : WA Γ M R mc ms cl sl Q (pc + 3) lv (v :: st) μ) : WA Γ M R mc ms cl sl Q pc lv (.ref q :: st) μ := by
  intro p e s m args below meth c Qf H locs ls F hS hP hl hE
  obtain ⟨hx, hb, -, -, -, -, hown, hts, hK, -, -⟩ := id F
  obtain ⟨L, hPL, hD, hL⟩ := id hP
  obtain ⟨hci, hk, ref, hlk, hsm⟩ := f
  have hq : q ∈ L := (hL q).mpr (by rw [hT]; exact fun h => by cases h)
  obtain ⟨i, hi⟩ := va_pl_get (X := []) (f := xcell (gC Γ) μ) hq
  rw [xcell_o hT] at hi
  exact va_get hx hb hts (x_in hci) hown hK hPL i hi (x_cl hci) k hk (hts _ hlk) (FK_same (own := M.1.cls) (idx := idx) hts hsm) (by rw [xfs_at hk, hv]) d (kk p e s m args below meth c Qf H locs ls F hS hP hl hE)
theorem x_getI {q idx ci k : Nat} (d : decode M.2.1 pc = .ok (.getfield idx, 3)) (f : FK M.1.cls idx ci k) (hT : mT μ q = (1, ci)) (hv : xty ci k = .int ∨ xty ci k = .boolean) (kk : WA Γ M R mc ms cl sl Q (pc + 3) lv (.int (mI μ q k) :: st) μ) : WA Γ M R mc ms cl sl Q pc lv (.ref q :: st) μ :=
  x_getv d f hT (by rcases hv with h | h <;> rw [h] <;> rfl) kk
theorem x_getJ {q idx ci k : Nat} (d : decode M.2.1 pc = .ok (.getfield idx, 3)) (f : FK M.1.cls idx ci k) (hT : mT μ q = (1, ci)) (hv : xty ci k = .long) (kk : WA Γ M R mc ms cl sl Q (pc + 3) lv (.long (mJ μ q k) :: st) μ) : WA Γ M R mc ms cl sl Q pc lv (.ref q :: st) μ :=
  x_getv d f hT (by rw [hv]; rfl) kk
/-- is it a type of references -/
def isR (t : FieldType) : Prop := (∃ n, t = .object n) ∨ ∃ u, t = .array u
theorem x_getR {q idx ci k a : Nat} (d : decode M.2.1 pc = .ok (.getfield idx, 3)) (f : FK M.1.cls idx ci k) (hT : mT μ q = (1, ci)) (hv : isR (xty ci k)) (ha : mR μ q k = some a) (kk : WA Γ M R mc ms cl sl Q (pc + 3) lv (.ref a :: st) μ) : WA Γ M R mc ms cl sl Q pc lv (.ref q :: st) μ :=
  x_getv d f hT (by rcases hv with ⟨n, h⟩ | ⟨u, h⟩ <;> rw [h] <;> show va_rf (mR μ q k) = _ <;> rw [ha] <;> rfl) kk
theorem x_getN {q idx ci k : Nat} (d : decode M.2.1 pc = .ok (.getfield idx, 3)) (f : FK M.1.cls idx ci k) (hT : mT μ q = (1, ci)) (hv : isR (xty ci k)) (ha : mR μ q k = none) (kk : WA Γ M R mc ms cl sl Q (pc + 3) lv (.null :: st) μ) : WA Γ M R mc ms cl sl Q pc lv (.ref q :: st) μ :=
  x_getv d f hT (by rcases hv with ⟨n, h⟩ | ⟨u, h⟩ <;> rw [h] <;> show va_rf (mR μ q k) = _ <;> rw [ha] <;> rfl) kk
/-- a store into the memory, seen by the pool's cells -/
theorem XP_set {μ' : Mem} {H1 : Heap} {L : List Nat} {q i : Nat} {e : va_E} (hD : va_D (gA Γ) (va_pl L (xcell (gC Γ) μ))) (hL : ∀ q, q ∈ L ↔ (mT μ q).1 ≠ 0) (hq : q ∈ L) (hi : ([] ++ va_pl L (xcell (gC Γ) μ))[i]? = some (q, xcell (gC Γ) μ q)) (hT : mT μ' = mT μ) (he : xcell (gC Γ) μ' q = e) (ho : ∀ a, a ≠ q → xcell (gC Γ) μ' a = xcell (gC Γ) μ a)
    (hP1 : va_P (gD Γ) vwCl ((va_pl L (xcell (gC Γ) μ)).set i (q, e)) H1) (hD1 : va_D (gA Γ) ((va_pl L (xcell (gC Γ) μ)).set i (q, e))) : XP Γ μ' H1 := by
  have h1 := va_pl_set (X := []) (e := e) hD hq hi
  have h2 : va_pl L (va_up (xcell (gC Γ) μ) q e) = va_pl L (xcell (gC Γ) μ') := va_pl_congr (fun a => by
    unfold va_up
    by_cases ha : a = q
    · rw [if_pos ha, ha, he]
    · rw [if_neg ha, ho a ha])
  have h3 : (va_pl L (xcell (gC Γ) μ)).set i (q, e) = va_pl L (xcell (gC Γ) μ') := h1.trans h2
  rw [h3] at hP1 hD1
  exact ⟨L, hP1, hD1, fun a => by rw [hT]; exact hL a⟩
theorem xv_ne {μ μ' : Mem} {a k : Nat} {t : FieldType} (h1 : mI μ' a k = mI μ a k) (h2 : mJ μ' a k = mJ μ a k) (h3 : mR μ' a k = mR μ a k) : xv μ' a k t = xv μ a k t := by
  unfold xv
  split <;> simp [h1, h2, h3]
theorem xcell_ne {ca : Nat → ClassId} {μ μ' : Mem} {a : Nat} (h0 : mT μ' a = mT μ a) (h1 : mI μ' a = mI μ a) (h2 : mJ μ' a = mJ μ a) (h3 : mR μ' a = mR μ a) (h4 : mA μ' a = mA μ a) (h5 : mX μ' a = mX μ a) : xcell ca μ' a = xcell ca μ a := by
  unfold xcell
  have h6 : ∀ ci, xfs μ' a ci = xfs μ a ci := fun ci => by
    unfold xfs
    exact List.map_congr_left (fun k _ => xv_ne (by rw [h1]) (by rw [h2]) (by rw [h3]))
  rw [h0, h4, h5]
  simp [h6]
theorem up2_row {α : Type} {f : Nat → Nat → α} {q k a : Nat} {v : α} (h : a ≠ q) : up2 f q k v a = f a := funext fun b => up2_n (Or.inl h)
theorem xfs_set {μ μ' : Mem} {q ci k : Nat} {v : Value} (hk : k < xN ci) (hv : xv μ' q k (xty ci k) = v) (ho : ∀ j, j ≠ k → xv μ' q j (xty ci j) = xv μ q j (xty ci j)) : xfs μ' q ci = (xfs μ q ci).set k v := by
  apply List.ext_getElem?
  intro j
  rw [List.getElem?_set]
  by_cases hj : k = j
  · subst hj
    rw [if_pos rfl, if_pos (by rw [xfs_len]; exact hk), xfs_at hk, hv]
  · rw [if_neg hj]
    by_cases hjn : j < xN ci
    · rw [xfs_at hjn, xfs_at hjn, ho j (fun e => hj e.symm)]
    · rw [List.getElem?_eq_none (by rw [xfs_len]; omega), List.getElem?_eq_none (by rw [xfs_len]; omega)]
theorem x_putv {q idx ci k : Nat} {v : Value} {μ' : Mem} (d : decode M.2.1 pc = .ok (.putfield idx, 3)) (f : FK M.1.cls idx ci k) (hfin : (xT ci k).2.2.2 = false ∨ ((xT ci k).2.2.2 = true ∧ M.1.name = "<init>" ∧ (xT ci k).1 = M.1.cls)) (hT : mT μ q = (1, ci)) (hn : narrow (xty ci k) v = v) (hfit : fits (xty ci k) v = true)
    (hT' : mT μ' = mT μ) (hv : xv μ' q k (xty ci k) = v) (ho : ∀ j, j ≠ k → xv μ' q j (xty ci j) = xv μ q j (xty ci j)) (hoo : ∀ a, a ≠ q → xcell (gC Γ) μ' a = xcell (gC Γ) μ a)
    (kk : WA Γ M R mc ms cl sl Q (pc + 3) lv st μ') : WA Γ M R mc ms cl sl Q pc lv (v :: .ref q :: st) μ := by
  intro p e s m args below meth c Qf H locs ls F hS hP hl hE
  obtain ⟨hx, hb, -, -, -, hname, hown, hts, hK, -, -⟩ := id F
  obtain ⟨L, hPL, hD, hL⟩ := id hP
  obtain ⟨hci, hk, ref, hlk, hsm⟩ := f
  have hq : q ∈ L := (hL q).mpr (by rw [hT]; exact fun h => by cases h)
  obtain ⟨i, hi0⟩ := va_pl_get (X := []) (f := xcell (gC Γ) μ) hq
  have hi := hi0
  rw [xcell_o hT] at hi
  have hd := x_tyok hci k hk
  have hc2 : xcell (gC Γ) μ' q = .inr (ci, (xfs μ q ci).set k v) := by rw [xcell_o (by rw [hT']; exact hT), xfs_set hk hv ho]
  rcases hfin with hfin | ⟨hfin, hini, hdecl⟩
  · exact va_put hx hb hts (x_in hci) (xty ci) (x_tyok hci) (x_nm hci) hown hK hPL hD hS i hi (x_cl hci) k hk (hts _ hlk) (FK_same (own := M.1.cls) (idx := idx) hts hsm) hfin hd hn hfit (by rw [xfs_len]; exact hk) d (fun H1 locs1 hP1 hD1 hS1 =>
      kk p e s m args below meth c Qf H1 locs1 ls F hS1 (XP_set hD hL hq hi0 hT' hc2 hoo hP1 hD1) hl hE)
  · exact va_putF hx hb hts (x_in hci) (xty ci) (x_tyok hci) (x_nm hci) hown hK hPL hD hS i hi (x_cl hci) k hk (hts _ hlk) (FK_same (own := M.1.cls) (idx := idx) hts hsm) hfin (by rw [hname]; exact hini) hdecl hd hn hfit (by rw [xfs_len]; exact hk) d (fun H1 locs1 hP1 hD1 hS1 =>
      kk p e s m args below meth c Qf H1 locs1 ls F hS1 (XP_set hD hL hq hi0 hT' hc2 hoo hP1 hD1) hl hE)
theorem x_putI {q idx ci k : Nat} {v : Int32} (d : decode M.2.1 pc = .ok (.putfield idx, 3)) (f : FK M.1.cls idx ci k) (hfin : (xT ci k).2.2.2 = false ∨ ((xT ci k).2.2.2 = true ∧ M.1.name = "<init>" ∧ (xT ci k).1 = M.1.cls)) (hT : mT μ q = (1, ci)) (hty : xty ci k = .int ∨ (xty ci k = .boolean ∧ (v = 0 ∨ v = 1)))
    (kk : WA Γ M R mc ms cl sl Q (pc + 3) lv st (sI μ q k v)) : WA Γ M R mc ms cl sl Q pc lv (.int v :: .ref q :: st) μ := by
  refine x_putv (μ' := sI μ q k v) d f hfin hT ?_ ?_ rfl ?_ ?_ ?_ kk
  · rcases hty with h | ⟨h, rfl | rfl⟩ <;> rw [h] <;> rfl
  · rcases hty with h | ⟨h, rfl | rfl⟩ <;> rw [h] <;> rfl
  · rcases hty with h | ⟨h, -⟩ <;> rw [h] <;> show Value.int (up2 (mI μ) q k v q k) = _ <;> rw [up2_s]
  · exact fun j hj => xv_ne (up2_n (Or.inr hj)) rfl rfl
  · exact fun a ha => xcell_ne rfl (up2_row ha) rfl rfl rfl rfl
theorem x_putJ {q idx ci k : Nat} {v : Int64} (d : decode M.2.1 pc = .ok (.putfield idx, 3)) (f : FK M.1.cls idx ci k) (hfin : (xT ci k).2.2.2 = false) (hT : mT μ q = (1, ci)) (hty : xty ci k = .long)
    (kk : WA Γ M R mc ms cl sl Q (pc + 3) lv st (sJ μ q k v)) : WA Γ M R mc ms cl sl Q pc lv (.long v :: .ref q :: st) μ := by
  refine x_putv (μ' := sJ μ q k v) d f (Or.inl hfin) hT ?_ ?_ rfl ?_ ?_ ?_ kk
  · rw [hty]; rfl
  · rw [hty]; rfl
  · rw [hty]; show Value.long (up2 (mJ μ) q k v q k) = _; rw [up2_s]
  · exact fun j hj => xv_ne rfl (up2_n (Or.inr hj)) rfl
  · exact fun a ha => xcell_ne rfl rfl (up2_row ha) rfl rfl rfl
theorem x_putR {q idx ci k a : Nat} (d : decode M.2.1 pc = .ok (.putfield idx, 3)) (f : FK M.1.cls idx ci k) (hfin : (xT ci k).2.2.2 = false ∨ ((xT ci k).2.2.2 = true ∧ M.1.name = "<init>" ∧ (xT ci k).1 = M.1.cls)) (hT : mT μ q = (1, ci)) (hty : isR (xty ci k))
    (kk : WA Γ M R mc ms cl sl Q (pc + 3) lv st (sR μ q k (some a))) : WA Γ M R mc ms cl sl Q pc lv (.ref a :: .ref q :: st) μ := by
  refine x_putv (μ' := sR μ q k (some a)) d f hfin hT ?_ ?_ rfl ?_ ?_ ?_ kk
  · rcases hty with ⟨n, h⟩ | ⟨u, h⟩ <;> rw [h] <;> rfl
  · rcases hty with ⟨n, h⟩ | ⟨u, h⟩ <;> rw [h] <;> rfl
  · rcases hty with ⟨n, h⟩ | ⟨u, h⟩ <;> rw [h] <;> show va_rf (up2 (mR μ) q k (some a) q k) = _ <;> rw [up2_s] <;> rfl
  · exact fun j hj => xv_ne rfl rfl (up2_n (Or.inr hj))
  · exact fun b hb => xcell_ne rfl rfl rfl (up2_row hb) rfl rfl
theorem x_putN {q idx ci k : Nat} (d : decode M.2.1 pc = .ok (.putfield idx, 3)) (f : FK M.1.cls idx ci k) (hfin : (xT ci k).2.2.2 = false ∨ ((xT ci k).2.2.2 = true ∧ M.1.name = "<init>" ∧ (xT ci k).1 = M.1.cls)) (hT : mT μ q = (1, ci)) (hty : isR (xty ci k))
    (kk : WA Γ M R mc ms cl sl Q (pc + 3) lv st (sR μ q k none)) : WA Γ M R mc ms cl sl Q pc lv (.null :: .ref q :: st) μ := by
  refine x_putv (μ' := sR μ q k none) d f hfin hT ?_ ?_ rfl ?_ ?_ ?_ kk
  · rcases hty with ⟨n, h⟩ | ⟨u, h⟩ <;> rw [h] <;> rfl
  · rcases hty with ⟨n, h⟩ | ⟨u, h⟩ <;> rw [h] <;> rfl
  · rcases hty with ⟨n, h⟩ | ⟨u, h⟩ <;> rw [h] <;> show va_rf (up2 (mR μ) q k none q k) = _ <;> rw [up2_s] <;> rfl
  · exact fun j hj => xv_ne rfl rfl (up2_n (Or.inr hj))
  · exact fun b hb => xcell_ne rfl rfl rfl (up2_row hb) rfl rfl
/-! arrays -/
theorem vpin {j : Int32} {i n : Nat} (hj : j = nI i) (hi : i < n) (hn : n < 2 ^ 31) : vp_in j n ∧ j.toNatClampNeg = i := by
  subst hj
  exact ⟨vp_in_nI hi hn, nI_clamp (by omega)⟩
theorem x_iald {q n i : Nat} {j : Int32} (d : decode M.2.1 pc = .ok (.iaload, 1)) (hT : mT μ q = (2, n)) (hj : j = nI i) (hi : i < n) (hn : n < 2 ^ 31) (kk : WA Γ M R mc ms cl sl Q (pc + 1) lv (.int (mA μ q i) :: st) μ) : WA Γ M R mc ms cl sl Q pc lv (.int j :: .ref q :: st) μ := by
  intro p e s m args below meth c Qf H locs ls F hS hP hl hE
  obtain ⟨hx, hb, -, -, -, -, -, -, hK, -, -⟩ := id F
  obtain ⟨L, hPL, hD, hL⟩ := id hP
  have hq : q ∈ L := (hL q).mpr (by rw [hT]; exact fun h => by cases h)
  obtain ⟨z, hz⟩ := va_pl_get (X := []) (f := xcell (gC Γ) μ) hq
  rw [xcell_i hT] at hz
  obtain ⟨h1, h2⟩ := vpin hj hi hn
  exact va_iald hx hb hK hPL z 0 hz rfl h1 d (by rw [h2]; exact kk p e s m args below meth c Qf H locs ls F hS hP hl hE)
theorem x_zald {q n i : Nat} {j : Int32} (d : decode M.2.1 pc = .ok (.baload, 1)) (hT : mT μ q = (3, n)) (hj : j = nI i) (hi : i < n) (hn : n < 2 ^ 31) (kk : WA Γ M R mc ms cl sl Q (pc + 1) lv (.int (mA μ q i) :: st) μ) : WA Γ M R mc ms cl sl Q pc lv (.int j :: .ref q :: st) μ := by
  intro p e s m args below meth c Qf H locs ls F hS hP hl hE
  obtain ⟨hx, hb, -, -, -, -, -, -, hK, -, -⟩ := id F
  obtain ⟨L, hPL, hD, hL⟩ := id hP
  have hq : q ∈ L := (hL q).mpr (by rw [hT]; exact fun h => by cases h)
  obtain ⟨z, hz⟩ := va_pl_get (X := []) (f := xcell (gC Γ) μ) hq
  rw [xcell_z hT] at hz
  obtain ⟨h1, h2⟩ := vpin hj hi hn
  exact va_zald hx hb hK hPL z 1 hz rfl h1 d (by rw [h2]; exact kk p e s m args below meth c Qf H locs ls F hS hP hl hE)
theorem upd_up2 {f : Nat → Nat → Int32} {q i : Nat} {v : Int32} : up2 f q i v q = upd (f q) i v := by
  funext b
  by_cases h : b = i
  · simp [up2, upd, h]
  · simp [up2, upd, h]
theorem x_iast {q n i : Nat} {j v : Int32} (d : decode M.2.1 pc = .ok (.iastore, 1)) (hT : mT μ q = (2, n)) (hj : j = nI i) (hi : i < n) (hn : n < 2 ^ 31) (kk : WA Γ M R mc ms cl sl Q (pc + 1) lv st (sA μ q i v)) : WA Γ M R mc ms cl sl Q pc lv (.int v :: .int j :: .ref q :: st) μ := by
  intro p e s m args below meth c Qf H locs ls F hS hP hl hE
  obtain ⟨hx, hb, -, -, -, -, -, -, hK, -, -⟩ := id F
  obtain ⟨L, hPL, hD, hL⟩ := id hP
  have hq : q ∈ L := (hL q).mpr (by rw [hT]; exact fun h => by cases h)
  obtain ⟨z, hz0⟩ := va_pl_get (X := []) (f := xcell (gC Γ) μ) hq
  have hz := hz0
  rw [xcell_i hT] at hz
  obtain ⟨h1, h2⟩ := vpin hj hi hn
  refine va_iast hx hb hK hPL hD hS z 0 hz rfl h1 d (fun H1 locs1 hP1 hD1 hS1 => ?_)
  rw [h2] at hP1 hD1
  refine kk p e s m args below meth c Qf H1 locs1 ls F hS1 (XP_set (μ' := sA μ q i v) hD hL hq hz0 rfl ?_ (fun a ha => xcell_ne rfl rfl rfl rfl (up2_row ha) rfl) hP1 hD1) hl hE
  rw [xcell_i (show mT (sA μ q i v) q = (2, n) from hT)]
  show (Sum.inl (gC Γ 0, n, Sum.inl (up2 (mA μ) q i v q)) : va_E) = _
  rw [upd_up2]
theorem x_zast {q n i : Nat} {j v : Int32} (d : decode M.2.1 pc = .ok (.bastore, 1)) (hT : mT μ q = (3, n)) (hj : j = nI i) (hi : i < n) (hn : n < 2 ^ 31) (hv : v = 0 ∨ v = 1) (kk : WA Γ M R mc ms cl sl Q (pc + 1) lv st (sA μ q i v)) : WA Γ M R mc ms cl sl Q pc lv (.int v :: .int j :: .ref q :: st) μ := by
  intro p e s m args below meth c Qf H locs ls F hS hP hl hE
  obtain ⟨hx, hb, -, -, -, -, -, -, hK, -, -⟩ := id F
  obtain ⟨L, hPL, hD, hL⟩ := id hP
  have hq : q ∈ L := (hL q).mpr (by rw [hT]; exact fun h => by cases h)
  obtain ⟨z, hz0⟩ := va_pl_get (X := []) (f := xcell (gC Γ) μ) hq
  have hz := hz0
  rw [xcell_z hT] at hz
  obtain ⟨h1, h2⟩ := vpin hj hi hn
  refine va_zast hx hb hK hPL hD hS z 1 hz rfl h1 d (fun H1 locs1 hP1 hD1 hS1 => ?_)
  rw [h2, show vp_nar .boolean v = v by rcases hv with rfl | rfl <;> rfl] at hP1 hD1
  refine kk p e s m args below meth c Qf H1 locs1 ls F hS1 (XP_set (μ' := sA μ q i v) hD hL hq hz0 rfl ?_ (fun a ha => xcell_ne rfl rfl rfl rfl (up2_row ha) rfl) hP1 hD1) hl hE
  rw [xcell_z (show mT (sA μ q i v) q = (3, n) from hT)]
  show (Sum.inl (gC Γ 1, n, Sum.inl (up2 (mA μ) q i v q)) : va_E) = _
  rw [upd_up2]
theorem x_alen {q n t : Nat} {v : Int32} (d : decode M.2.1 pc = .ok (.arraylength, 1)) (hT : mT μ q = (t, n)) (ht : t = 2 ∨ t = 3 ∨ t = 4 ∨ t = 5 ∨ t = 6) (hv : nI n = v) (kk : WA Γ M R mc ms cl sl Q (pc + 1) lv (.int v :: st) μ) : WA Γ M R mc ms cl sl Q pc lv (.ref q :: st) μ := by
  intro p e s m args below meth c Qf H locs ls F hS hP hl hE
  obtain ⟨hx, hb, -, -, -, -, -, -, hK, -, -⟩ := id F
  obtain ⟨L, hPL, hD, hL⟩ := id hP
  have hq : q ∈ L := (hL q).mpr (by rw [hT]; rcases ht with h | h | h | h | h <;> rw [h] <;> exact fun h => by cases h)
  obtain ⟨z, hz⟩ := va_pl_get (X := []) (f := xcell (gC Γ) μ) hq
  have k2 := kk p e s m args below meth c Qf H locs ls F hS hP hl hE
  rcases ht with rfl | rfl | rfl | rfl | rfl
  · rw [xcell_i hT] at hz
    exact va_alen hx hb hK hPL z 0 hz rfl hv d k2
  · rw [xcell_z hT] at hz
    exact va_alen hx hb hK hPL z 1 hz rfl hv d k2
  · rw [xcell_x (k := 0) hT] at hz
    exact va_alen hx hb hK hPL z 2 hz rfl hv d k2
  · rw [xcell_x (k := 1) hT] at hz
    exact va_alen hx hb hK hPL z 3 hz rfl hv d k2
  · rw [xcell_x (k := 2) hT] at hz
    exact va_alen hx hb hK hPL z 4 hz rfl hv d k2
theorem x_aald {q n i t a : Nat} {j : Int32} (d : decode M.2.1 pc = .ok (.aaload, 1)) (hT : mT μ q = (t, n)) (ht : t = 4 ∨ t = 5 ∨ t = 6) (hj : j = nI i) (hi : i < n) (hn : n < 2 ^ 31) (ha : mX μ q i = some a) (kk : WA Γ M R mc ms cl sl Q (pc + 1) lv (.ref a :: st) μ) : WA Γ M R mc ms cl sl Q pc lv (.int j :: .ref q :: st) μ := by
  intro p e s m args below meth c Qf H locs ls F hS hP hl hE
  obtain ⟨hx, hb, -, -, -, -, -, -, hK, -, -⟩ := id F
  obtain ⟨L, hPL, hD, hL⟩ := id hP
  have hq : q ∈ L := (hL q).mpr (by rw [hT]; rcases ht with h | h | h <;> rw [h] <;> exact fun h => by cases h)
  obtain ⟨z, hz⟩ := va_pl_get (X := []) (f := xcell (gC Γ) μ) hq
  have k2 := kk p e s m args below meth c Qf H locs ls F hS hP hl hE
  obtain ⟨h1, h2⟩ := vpin hj hi hn
  rcases ht with rfl | rfl | rfl
  · rw [xcell_x (k := 0) hT] at hz
    exact va_aldq hx hb hK hPL z 2 hz rfl h1 d (by rw [h2, ha]; exact k2)
  · rw [xcell_x (k := 1) hT] at hz
    exact va_aldq hx hb hK hPL z 3 hz rfl h1 d (by rw [h2, ha]; exact k2)
  · rw [xcell_x (k := 2) hT] at hz
    exact va_aldq hx hb hK hPL z 4 hz rfl h1 d (by rw [h2, ha]; exact k2)
end XHP
end
section
section XCL
variable {Γ : Gm} {M M1 : Mt} {R : Room} {mc ms cl sl : Nat} {Q Q1 : Option Value → Mem → Prop} {pc : Nat} {lv lv2 : List (Option Value)} {st st0 : List Value} {μ : Mem}
/-- what the tables say of a method that is called -/
def MK (M1 : Mt) (n : Nat) : Prop := Cond.code M1.1 M1.2.1 M1.2.2.1 M1.2.2.2 ∈ gT ∧ Cond.initialized M1.1.cls ∈ gT ∧ (M1.1.cls ≠ "java/lang/invoke/MethodHandle" ∧ M1.1.cls ≠ "java/lang/invoke/VarHandle" ∧ (parseMethodDescriptor M1.1.desc).map (fun d => d.parameters.length) = some n) ∧ M1.2.2.1 ≤ 45
theorem good_ws {M1 : Mt} {n : Nat} (h : MK M1 n) : GoodIn gT (xws M1) := fun w hw => by
  rcases List.mem_cons.mp hw with rfl | h2
  · exact ⟨h.1, gt_good h.1⟩
  · exact ⟨h2, gt_good h2⟩
theorem x_room {M1 : Mt} {n d1 mc1 ms1 : Nat} (h : MK M1 n) (hR : d1 + 1 ≤ R.frames ∧ 64 * (d1 + 1) ≤ R.locals) : (xrm d1 mc1 ms1).frames + 1 ≤ R.frames ∧ 8 + (M1.2.2.1 + 11) + (xrm d1 mc1 ms1).locals ≤ R.locals := by
  have := h.2.2.2
  exact ⟨hR.1, by show 8 + (M1.2.2.1 + 11) + 64 * d1 ≤ R.locals; omega⟩
/-- behind a call -/
theorem x_go {p : Program} {e : Env} {s : State} {m : MethodId} {args : Array Value} {below : List Frame} {meth : Method} {c : Code} {Qf : State → Prop} {H : Heap} {locs : List Loc} {ls : Array Slot} {a : Array Value} {mc1 ms1 : Nat}
    (F : XF Γ M p s m args meth c) (hS : va_S (gA Γ) s.heap H locs) (hl : xl ls M.2.2.1 lv) (hE : ∀ (r : Option Value) (μ' : Mem) (H' : Heap) (locs' : List Loc), Q r μ' → XP Γ μ' H' → va_S (gA Γ) s.heap H' locs' → XRet Γ M R p e s m args below meth c H' locs' mc ms Qf r)
    (hr : va_Run p (gL Γ) e R s m args below meth c H locs cl sl mc1 ms1 (F0 m pc ls st0) st (XQ Γ Q1 a) (gA Γ))
    (kk : ∀ r μ', Q1 r μ' → WA Γ M R mc ms (cl + mc1) (sl + ms1) Q (pc + 3) lv (r.toList ++ st) μ') : W p (gL Γ) e R s m args below meth c H locs cl sl Qf (F0 m pc ls st0) := by
  intro T hT X
  obtain ⟨v, st₀, t, T', L, h0, X', hL, e1, e2, ⟨⟨r, μ', hv, hq, hP1⟩, hz, hk⟩, stp⟩ := hr T hT X
  cases hv
  rw [h0] at hz hk
  obtain ⟨t2, a1, b1⟩ := kk v μ' hq p e s m args below meth c Qf T'.heap (locs ++ L) ls F ⟨Nat.le_trans hS.1 (by rw [e1]; exact hz), fun q h1 h2 => by rw [e1, hk q (Nat.lt_of_lt_of_le h1 hS.1) h2]; exact hS.2.1 q h1 h2, fun q hq2 => by
      rcases List.mem_append.mp hq2 with h | h
      · exact hS.2.2 q h
      · exact hL q h⟩ (by rw [e1]; exact hP1) hl hE T' rfl X'
  exact ⟨t2, stp t2 a1, b1⟩
/-- a static method, by a link of the class's own kind -/
def LKS (own : String) (idx : Nat) (y : MethodName) : Prop := Cond.methodLink own idx y ∈ gT ∧ Cond.static y ∈ gT
theorem x_callS {idx d1 mc1 ms1 n : Nat} {As : List Value} (d : decode M.2.1 pc = .ok (.invokestatic idx, 3)) (hk : MK M1 n) (hl0 : LKS M.1.cls idx M1.1) (hM : XM Γ M1 d1 mc1 ms1 As μ Q1) (hn : As.length = n) (hst : st0 = As.reverse ++ st) (hw : (st.map fun v => v.category).sum ≤ 8) (hR : d1 + 1 ≤ R.frames ∧ 64 * (d1 + 1) ≤ R.locals) (hcs : cl + mc1 ≤ R.cells ∧ sl + ms1 ≤ R.slots)
    (kk : ∀ r μ', Q1 r μ' → WA Γ M R mc ms (cl + mc1) (sl + ms1) Q (pc + 3) lv (r.toList ++ st) μ') : WA Γ M R mc ms cl sl Q pc lv st0 μ := by
  intro p e s m args below meth c Qf H locs ls F hS hP hl hE
  obtain ⟨hx, hb, hml, -, -, -, hown, hts, hK, -, -⟩ := id F
  refine x_go F hS hl hE (va_runS (Ts := gT) (own := M.1.cls) (As := As) (cc := M.2.1) (nL := M.2.2.1) ⟨hx, hb, hml, hown, hts⟩ hM ⟨callB_of n hts (good_ws hk) rfl rfl rfl (hts _ hk.2.1) (hts _ hl0.1) hk.2.2.1 (x_room hk hR), hts _ hl0.2⟩ ⟨xB_blind, fun U hU hW => ⟨rfl, xB_at F hS hP hU hW⟩⟩ rfl hn hl.1 hst (lv_room hw) d hcs) kk
/-- a static method of a nest mate -/
def LKSN (own : String) (idx : Nat) (y : MethodName) : Prop := (own, idx, y) ∈ nestL ∧ Cond.static y ∈ gT
theorem x_callSN {idx d1 mc1 ms1 n : Nat} {As : List Value} (d : decode M.2.1 pc = .ok (.invokestatic idx, 3)) (hk : MK M1 n) (hl0 : LKSN M.1.cls idx M1.1) (hM : XM Γ M1 d1 mc1 ms1 As μ Q1) (hn : As.length = n) (hst : st0 = As.reverse ++ st) (hw : (st.map fun v => v.category).sum ≤ 8) (hR : d1 + 1 ≤ R.frames ∧ 64 * (d1 + 1) ≤ R.locals) (hcs : cl + mc1 ≤ R.cells ∧ sl + ms1 ≤ R.slots)
    (kk : ∀ r μ', Q1 r μ' → WA Γ M R mc ms (cl + mc1) (sl + ms1) Q (pc + 3) lv (r.toList ++ st) μ') : WA Γ M R mc ms cl sl Q pc lv st0 μ := by
  intro p e s m args below meth c Qf H locs ls F hS hP hl hE
  obtain ⟨hx, hb, hml, -, -, -, hown, hts, hK, -, -⟩ := id F
  obtain ⟨hlk, hstt⟩ := hl0
  have hN := F.2.2.2.2.2.2.2.2.2.2.2.2.2.1 _ hlk
  refine x_go F hS hl hE (va_runSN (Ts := gT) (own := M.1.cls) (host := "PutOut") (As := As) (cc := M.2.1) (nL := M.2.2.1) ⟨hx, hb, hml, hown, hts⟩ hM ⟨va_cnB n hts (good_ws hk) rfl rfl rfl hN (hts _ hk.2.1) hk.2.2.1 (x_room hk hR), hts _ hstt, trivial⟩ ⟨xB_blind, fun U hU hW => ⟨rfl, xB_at F hS hP hU hW⟩⟩ rfl hn hl.1 hst (lv_room hw) d hcs) kk
theorem x_recv {s : State} {H : Heap} {q ci : Nat} (hK : va_K (gD Γ) vwCl (xtys Γ) s) (hP : XP Γ μ H) (hci : ci < 13) (hT : mT μ q = (1, ci)) : ∃ cell : Cell, H[q]? = some cell ∧ cell.vm.isStatics = false ∧ s.vm.findClass (xC ci) = some cell.cls := by
  obtain ⟨L, hPL, hD, hL⟩ := id hP
  have hq : q ∈ L := (hL q).mpr (by rw [hT]; exact fun h => by cases h)
  obtain ⟨z, hz⟩ := va_pl_get (X := []) (f := xcell (gC Γ) μ) hq
  rw [xcell_o hT] at hz
  exact va_recv hK hPL (x_cl hci) hz
/-- a method of the receiver's own class -/
def LKV (own : String) (idx ci : Nat) (y : MethodName) : Prop := ci < 13 ∧ Cond.methodLink own idx y ∈ gT ∧ Cond.instanceMethod y ∈ gT ∧ Cond.selects (xC ci) y y ∈ gT
theorem x_callV {idx d1 mc1 ms1 n q ci : Nat} {As : List Value} (d : decode M.2.1 pc = .ok (.invokevirtual idx, 3)) (hk : MK M1 n) (hl0 : LKV M.1.cls idx ci M1.1) (hT : mT μ q = (1, ci)) (hM : XM Γ M1 d1 mc1 ms1 (.ref q :: As) μ Q1) (hn : As.length = n) (hst : st0 = As.reverse ++ .ref q :: st) (hw : (st.map fun v => v.category).sum ≤ 8) (hR : d1 + 1 ≤ R.frames ∧ 64 * (d1 + 1) ≤ R.locals) (hcs : cl + mc1 ≤ R.cells ∧ sl + ms1 ≤ R.slots)
    (kk : ∀ r μ', Q1 r μ' → WA Γ M R mc ms (cl + mc1) (sl + ms1) Q (pc + 3) lv (r.toList ++ st) μ') : WA Γ M R mc ms cl sl Q pc lv st0 μ := by
  intro p e s m args below meth c Qf H locs ls F hS hP hl hE
  obtain ⟨hx, hb, hml, -, -, -, hown, hts, hK, -, -⟩ := id F
  obtain ⟨hci, hlk, hin, hsel⟩ := hl0
  refine x_go F hS hl hE (va_runV (Ts := gT) (own := M.1.cls) (C := xC ci) (As := As) (cc := M.2.1) (nL := M.2.2.1) ⟨hx, hb, hml, hown, hts⟩ hM ⟨callB_of n hts (good_ws hk) rfl rfl rfl (hts _ hk.2.1) (hts _ hlk) hk.2.2.1 (x_room hk hR), hts _ hin, hts _ hsel⟩ ⟨xB_blind, x_recv hK hP hci hT, fun U hU hW => ⟨rfl, xB_at F hS hP hU hW⟩⟩ rfl hn hl.1 hst (lv_room hw) d hcs) kk
/-- a method that is named in one class and chosen by the receiver's -/
def LKU (own : String) (idx ci : Nat) (x y : MethodName) : Prop := ci < 13 ∧ Cond.methodLink own idx x ∈ gT ∧ Cond.sameMethod x.cls x.cls x.name x.desc ∈ gT ∧ Cond.instanceMethod x ∈ gT ∧ (∃ b k t, Cond.code x b k t ∈ gT) ∧ Cond.selects (xC ci) x y ∈ gT ∧ Cond.instanceMethod y ∈ gT ∧ (x.cls ≠ "java/lang/invoke/MethodHandle" ∧ x.cls ≠ "java/lang/invoke/VarHandle") ∧ x.desc = y.desc
theorem x_callU {idx d1 mc1 ms1 n q ci : Nat} {As : List Value} {x : MethodName} (d : decode M.2.1 pc = .ok (.invokevirtual idx, 3)) (hk : MK M1 n) (hl0 : LKU M.1.cls idx ci x M1.1) (hT : mT μ q = (1, ci)) (hM : XM Γ M1 d1 mc1 ms1 (.ref q :: As) μ Q1) (hn : As.length = n) (hst : st0 = As.reverse ++ .ref q :: st) (hw : (st.map fun v => v.category).sum ≤ 8) (hR : d1 + 1 ≤ R.frames ∧ 64 * (d1 + 1) ≤ R.locals) (hcs : cl + mc1 ≤ R.cells ∧ sl + ms1 ≤ R.slots)
    (kk : ∀ r μ', Q1 r μ' → WA Γ M R mc ms (cl + mc1) (sl + ms1) Q (pc + 3) lv (r.toList ++ st) μ') : WA Γ M R mc ms cl sl Q pc lv st0 μ := by
  intro p e s m args below meth c Qf H locs ls F hS hP hl hE
  obtain ⟨hx, hb, hml, -, -, -, hown, hts, hK, -, -⟩ := id F
  obtain ⟨hci, hlk, hsm, hix, ⟨b0, k0, t0, hcx⟩, hsel, hiy, hmh, hde⟩ := hl0
  have hcode : Cond.code M1.1 M1.2.1 M1.2.2.1 M1.2.2.2 ∈ xws M1 := List.mem_cons_self
  have hR2 := x_room (mc1 := mc1) (ms1 := ms1) hk hR
  refine x_go F hS hl hE (va_runU (Ts := gT) (own := M.1.cls) (C := xC ci) (owner := x.cls) (x := x) (As := As) (n := n) (bytes := M1.2.1) (maxL := M1.2.2.1) (ret := M1.2.2.2) (cc := M.2.1) (nL := M.2.2.1) ⟨hx, hb, hml, hown, hts⟩ hM ⟨⟨rfl, rfl, hR2.1, hR2.2, pay_in hts (good_ws hk), hcode⟩, hts _ hk.1, hts _ hk.2.1, hmh, fun sig h => ?_, hts _ hlk, hts _ hsm, va_Decl.of (hts _ hix) (hts _ hcx), hts _ hsel, hts _ hiy⟩ ⟨xB_blind, x_recv hK hP hci hT, fun U hU hW => ⟨rfl, xB_at F hS hP hU hW⟩⟩ rfl hn hl.1 hst (lv_room hw) d hcs) kk
  have h2 := hk.2.2.1.2.2
  rw [← hde, h] at h2
  exact (Option.some.inj h2).symm
/-- a constructor -/
def LKI (own : String) (idx : Nat) (y : MethodName) : Prop := Cond.methodLink own idx y ∈ gT ∧ y.name = "<init>" ∧ Cond.instanceMethod y ∈ gT
theorem x_callI {idx d1 mc1 ms1 n q : Nat} {As : List Value} (d : decode M.2.1 pc = .ok (.invokespecial idx, 3)) (hk : MK M1 n) (hrt : M1.2.2.2 = none) (hl0 : LKI M.1.cls idx M1.1) (hM : XM Γ M1 d1 mc1 ms1 (.ref q :: As) μ Q1) (hn : As.length = n) (hst : st0 = As.reverse ++ .ref q :: st) (hw : (st.map fun v => v.category).sum ≤ 8) (hR : d1 + 1 ≤ R.frames ∧ 64 * (d1 + 1) ≤ R.locals) (hcs : cl + mc1 ≤ R.cells ∧ sl + ms1 ≤ R.slots)
    (kk : ∀ r μ', Q1 r μ' → WA Γ M R mc ms (cl + mc1) (sl + ms1) Q (pc + 3) lv (r.toList ++ st) μ') : WA Γ M R mc ms cl sl Q pc lv st0 μ := by
  intro p e s m args below meth c Qf H locs ls F hS hP hl hE
  obtain ⟨hx, hb, hml, -, -, -, hown, hts, hK, -, -⟩ := id F
  obtain ⟨hlk, hnm, hin⟩ := hl0
  refine x_go F hS hl hE (va_runI (Ts := gT) (own := M.1.cls) (As := As) (bytes := M1.2.1) (maxL := M1.2.2.1) (cc := M.2.1) (nL := M.2.2.1) ⟨hx, hb, hml, hown, hts⟩ hM ⟨callB_of n hts (good_ws hk) (by rw [xws, hrt]) rfl rfl (hts _ hk.2.1) (hts _ hlk) hk.2.2.1 (x_room hk hR), hnm, hts _ hin⟩ ⟨xB_blind, fun U hU hW => ⟨rfl, xB_at F hS hP hU hW⟩⟩ rfl hn hl.1 hst (lv_room hw) d hcs) kk
/-- a constructor of a nest mate -/
def LKIN (own : String) (idx : Nat) (y : MethodName) : Prop := (own, idx, y) ∈ nestL ∧ y.name = "<init>" ∧ Cond.instanceMethod y ∈ gT
theorem x_callIN {idx d1 mc1 ms1 n q : Nat} {As : List Value} (d : decode M.2.1 pc = .ok (.invokespecial idx, 3)) (hk : MK M1 n) (hrt : M1.2.2.2 = none) (hl0 : LKIN M.1.cls idx M1.1) (hM : XM Γ M1 d1 mc1 ms1 (.ref q :: As) μ Q1) (hn : As.length = n) (hst : st0 = As.reverse ++ .ref q :: st) (hw : (st.map fun v => v.category).sum ≤ 8) (hR : d1 + 1 ≤ R.frames ∧ 64 * (d1 + 1) ≤ R.locals) (hcs : cl + mc1 ≤ R.cells ∧ sl + ms1 ≤ R.slots)
    (kk : ∀ r μ', Q1 r μ' → WA Γ M R mc ms (cl + mc1) (sl + ms1) Q (pc + 3) lv (r.toList ++ st) μ') : WA Γ M R mc ms cl sl Q pc lv st0 μ := by
  intro p e s m args below meth c Qf H locs ls F hS hP hl hE
  obtain ⟨hx, hb, hml, -, -, -, hown, hts, hK, -, -⟩ := id F
  obtain ⟨hlk, hnm, hin⟩ := hl0
  have hN := F.2.2.2.2.2.2.2.2.2.2.2.2.2.1 _ hlk
  refine x_go F hS hl hE (va_runIN (Ts := gT) (own := M.1.cls) (host := "PutOut") (As := As) (bytes := M1.2.1) (maxL := M1.2.2.1) (cc := M.2.1) (nL := M.2.2.1) ⟨hx, hb, hml, hown, hts⟩ hM ⟨va_cnB n hts (good_ws hk) (by rw [xws, hrt]) rfl rfl hN (hts _ hk.2.1) hk.2.2.1 (x_room hk hR), hnm, hts _ hin⟩ ⟨xB_blind, fun U hU hW => ⟨rfl, xB_at F hS hP hU hW⟩⟩ rfl hn hl.1 hst (lv_room hw) d hcs) kk
/-- Object's constructor -/
theorem x_objInit {idx q : Nat} (d : decode M.2.1 pc = .ok (.invokespecial idx, 3)) (hlk : Cond.methodLink M.1.cls idx Lib.objectInit ∈ gT) (hin : Cond.instanceMethod Lib.objectInit ∈ gT) (hcd : Cond.code Lib.objectInit ⟨#[0xb1]⟩ 1 none ∈ gT) (hR : 1 ≤ R.frames ∧ 64 ≤ R.locals) (hw : (st.map fun v => v.category).sum ≤ 8) (kk : WA Γ M R mc ms cl sl Q (pc + 3) lv st μ) : WA Γ M R mc ms cl sl Q pc lv (.ref q :: st) μ := by
  intro p e s m args below meth c Qf H locs ls F hS hP hl hE
  obtain ⟨hx, hb, hml, -, -, -, hown, hts, hK, -, -⟩ := id F
  exact W.objInit hx hb hown (hts _ hlk) (hts _ hin) (hts _ hcd) rfl (by show ls.size = _; rw [hml]; exact hl.1) rfl d hR.1 (by have := lv_room (m := m) (pc := pc) (ls := ls) (rest := .ref q :: st) hw; omega) (kk p e s m args below meth c Qf H locs ls F hS hP hl hE)
/-- a method of the class above, called by super -/
def LKSU (own : String) (idx : Nat) (y : MethodName) : Prop := Cond.methodLink own idx y ∈ gT ∧ Cond.sameMethod y.cls y.cls y.name y.desc ∈ gT ∧ Cond.superclass own y.cls ∈ gT ∧ Cond.instanceMethod y ∈ gT ∧ y.name ≠ "<init>"
theorem x_callSU {idx d1 mc1 ms1 n q ci : Nat} {As : List Value} (d : decode M.2.1 pc = .ok (.invokespecial idx, 3)) (hk : MK M1 n) (hl0 : LKSU M.1.cls idx M1.1) (hci : ci < 13) (hT : mT μ q = (1, ci)) (hM : XM Γ M1 d1 mc1 ms1 (.ref q :: As) μ Q1) (hn : As.length = n) (hst : st0 = As.reverse ++ .ref q :: st) (hw : (st.map fun v => v.category).sum ≤ 8) (hR : d1 + 1 ≤ R.frames ∧ 64 * (d1 + 1) ≤ R.locals) (hcs : cl + mc1 ≤ R.cells ∧ sl + ms1 ≤ R.slots)
    (kk : ∀ r μ', Q1 r μ' → WA Γ M R mc ms (cl + mc1) (sl + ms1) Q (pc + 3) lv (r.toList ++ st) μ') : WA Γ M R mc ms cl sl Q pc lv st0 μ := by
  intro p e s m args below meth c Qf H locs ls F hS hP hl hE
  obtain ⟨hx, hb, hml, -, -, -, hown, hts, hK, -, -⟩ := id F
  obtain ⟨hlk, hsm, hsc, hin, hnm⟩ := hl0
  have hcode : Cond.code M1.1 M1.2.1 M1.2.2.1 M1.2.2.2 ∈ xws M1 := List.mem_cons_self
  have hR2 := x_room (mc1 := mc1) (ms1 := ms1) hk hR
  refine x_go F hS hl hE (va_runSU (Ts := gT) (own := M.1.cls) (C := xC ci) (As := As) (n := n) (bytes := M1.2.1) (maxL := M1.2.2.1) (ret := M1.2.2.2) (cc := M.2.1) (nL := M.2.2.1) (hK.1 ci _ (x_cl hci)).2 ⟨hx, hb, hml, hown, hts⟩ hM ⟨⟨rfl, rfl, hR2.1, hR2.2, pay_in hts (good_ws hk), hcode⟩, hts _ hlk, hts _ hsm, hts _ hsc, hts _ hin, hts _ hk.2.1, hts _ hk.1, hnm, fun sig h => ?_⟩ ⟨xB_blind, x_recv hK hP hci hT, fun U hU hW => ⟨rfl, xB_at F hS hP hU hW⟩⟩ rfl hn hl.1 hst (lv_room hw) d hcs) kk
  have h2 := hk.2.2.1.2.2
  rw [h] at h2
  exact (Option.some.inj h2).symm
end XCL
end
section
section XNW
variable {Γ : Gm} {M M1 : Mt} {R : Room} {mc ms cl sl : Nat} {Q Q1 : Option Value → Mem → Prop} {pc : Nat} {lv lv2 : List (Option Value)} {st st0 : List Value} {μ : Mem}
/-- a new cell at q -/
def nw (μ : Mem) (q t n : Nat) : Mem := (va_up μ.1 q (t, n), va_up μ.2.1 q (fun _ => 0), va_up μ.2.2.1 q (fun _ => 0), va_up μ.2.2.2.1 q (fun _ => none), va_up μ.2.2.2.2.1 q (fun _ => 0), va_up μ.2.2.2.2.2 q (fun _ => none))
theorem va_up_s {α : Type} {f : Nat → α} {k : Nat} {v : α} : va_up f k v k = v := by simp [va_up]
theorem va_up_n {α : Type} {f : Nat → α} {k j : Nat} {v : α} (h : j ≠ k) : va_up f k v j = f j := by simp [va_up, h]
theorem nw_T {μ : Mem} {q t n : Nat} : mT (nw μ q t n) q = (t, n) := va_up_s
theorem nw_Tn {μ : Mem} {q t n a : Nat} (h : a ≠ q) : mT (nw μ q t n) a = mT μ a := va_up_n h
theorem XP_push {H1 : Heap} {L : List Nat} {q t n : Nat} {e : va_E} (hL : ∀ q, q ∈ L ↔ (mT μ q).1 ≠ 0) (ht : t ≠ 0) (he : xcell (gC Γ) (nw μ q t n) q = e)
    (hP1 : va_P (gD Γ) vwCl (va_pl L (xcell (gC Γ) μ) ++ [(q, e)]) H1) (hD1 : va_D (gA Γ) (va_pl L (xcell (gC Γ) μ) ++ [(q, e)])) : (mT μ q).1 = 0 ∧ XP Γ (nw μ q t n) H1 := by
  have hq : q ∉ L := va_pl_fresh2 (X := []) hD1
  rw [va_pl_push hq] at hP1 hD1
  have h2 : va_pl (L ++ [q]) (va_up (xcell (gC Γ) μ) q e) = va_pl (L ++ [q]) (xcell (gC Γ) (nw μ q t n)) := va_pl_congr (fun a => by
    by_cases ha : a = q
    · rw [ha, va_up_s, he]
    · rw [va_up_n ha]
      exact (xcell_ne (μ := μ) (μ' := nw μ q t n) (va_up_n ha) (va_up_n ha) (va_up_n ha) (va_up_n ha) (va_up_n ha) (va_up_n ha)).symm)
  rw [h2] at hP1 hD1
  refine ⟨?_, L ++ [q], hP1, hD1, fun a => ?_⟩
  · rcases Nat.eq_zero_or_pos (mT μ q).1 with h | h
    · exact h
    · exact absurd ((hL q).mpr (by omega)) hq
  · rw [List.mem_append]
    by_cases ha : a = q
    · subst ha
      rw [nw_T]
      simp [ht]
    · rw [nw_Tn ha, ← hL a]
      simp [ha]
theorem x_newI {N : Nat} {n : Int32} (d : decode M.2.1 pc = .ok (.newarray .int, 2)) (hw : Cond.arrayClass .int ∈ gT) (hn : n = nI N) (hN : N ≤ 100000) (hcs : cl + 1 ≤ R.cells ∧ sl + N ≤ R.slots) (kk : ∀ q, (mT μ q).1 = 0 → WA Γ M R mc ms (cl + 1) (sl + N) Q (pc + 2) lv (.ref q :: st) (nw μ q 2 N)) : WA Γ M R mc ms cl sl Q pc lv (.int n :: st) μ := by
  intro p e s m args below meth c Qf H locs ls F hS hP hl hE
  obtain ⟨hx, hb, -, -, -, -, -, hts, hK, hB, -⟩ := id F
  obtain ⟨L, hPL, hD, hL⟩ := id hP
  refine va_newa (atype := .int) (ty := .int) (a0 := (N, .inl (fun _ => 0))) hx hb (hts _ hw) rfl hK hPL hD hS (fun q hq => Nat.le_trans hB hq) (fun cA => rfl) (by rw [hn]; exact nI_pos (by omega)) (by rw [hn]; exact nI_clamp (by omega)) (by show N * 4 ≤ _; omega) hcs.1 hcs.2 d (fun q cA H1 hK1 hP1 hD1 hS1 => ?_)
  have h1 : s.vm.findClass ("[" ++ FieldType.int.toString) = some cA := (hK1.2 6 (cA, .int) rfl).2
  have h2 : s.vm.findClass ("[" ++ FieldType.int.toString) = some (gC Γ 0) := (hK.2 0 (gC Γ 0, .int) rfl).2
  have h3 : cA = gC Γ 0 := Option.some.inj (h1.symm.trans h2)
  subst h3
  obtain ⟨g1, g2⟩ := XP_push (t := 2) (n := N) hL (by decide) (by rw [xcell_i nw_T]; show (Sum.inl (gC Γ 0, N, Sum.inl (va_up (mA μ) q (fun _ => 0) q)) : va_E) = _; rw [va_up_s]) hP1 hD1
  exact kk q g1 p e s m args below meth c Qf H1 locs ls F hS1 g2 hl hE
theorem x_newZ {N : Nat} {n : Int32} (d : decode M.2.1 pc = .ok (.newarray .boolean, 2)) (hw : Cond.arrayClass .boolean ∈ gT) (hn : n = nI N) (hN : N ≤ 100000) (hcs : cl + 1 ≤ R.cells ∧ sl + N ≤ R.slots) (kk : ∀ q, (mT μ q).1 = 0 → WA Γ M R mc ms (cl + 1) (sl + N) Q (pc + 2) lv (.ref q :: st) (nw μ q 3 N)) : WA Γ M R mc ms cl sl Q pc lv (.int n :: st) μ := by
  intro p e s m args below meth c Qf H locs ls F hS hP hl hE
  obtain ⟨hx, hb, -, -, -, -, -, hts, hK, hB, -⟩ := id F
  obtain ⟨L, hPL, hD, hL⟩ := id hP
  refine va_newa (atype := .boolean) (ty := .boolean) (a0 := (N, .inl (fun _ => 0))) hx hb (hts _ hw) rfl hK hPL hD hS (fun q hq => Nat.le_trans hB hq) (fun cA => rfl) (by rw [hn]; exact nI_pos (by omega)) (by rw [hn]; exact nI_clamp (by omega)) (by show N * 1 ≤ _; omega) hcs.1 hcs.2 d (fun q cA H1 hK1 hP1 hD1 hS1 => ?_)
  have h1 : s.vm.findClass ("[" ++ FieldType.boolean.toString) = some cA := (hK1.2 6 (cA, .boolean) rfl).2
  have h2 : s.vm.findClass ("[" ++ FieldType.boolean.toString) = some (gC Γ 1) := (hK.2 1 (gC Γ 1, .boolean) rfl).2
  have h3 : cA = gC Γ 1 := Option.some.inj (h1.symm.trans h2)
  subst h3
  obtain ⟨g1, g2⟩ := XP_push (t := 3) (n := N) hL (by decide) (by rw [xcell_z nw_T]; show (Sum.inl (gC Γ 1, N, Sum.inl (va_up (mA μ) q (fun _ => 0) q)) : va_E) = _; rw [va_up_s]) hP1 hD1
  exact kk q g1 p e s m args below meth c Qf H1 locs ls F hS1 g2 hl hE
theorem x_RA {s : State} (hK : va_K (gD Γ) vwCl (xtys Γ) s) : ∀ (k : Nat), k < 3 → va_RA s (gC Γ (k + 2)) (.object (xRC k))
  | 0, _ => (hK.2 2 (gC Γ 2, .object "PutOut$Thing") rfl).2
  | 1, _ => (hK.2 3 (gC Γ 3, .object "PutOut$Text") rfl).2
  | 2, _ => (hK.2 4 (gC Γ 4, .object "PutOut$Sheet") rfl).2
theorem x_newX {N idx k : Nat} {n : Int32} (hk3 : k < 3) (d : decode M.2.1 pc = .ok (.anewarray idx, 3)) (hw : Cond.classLink M.1.cls idx (xRC k) ∈ gT) (hn : n = nI N) (hN : N ≤ 100000) (hcs : cl + 1 ≤ R.cells ∧ sl + N ≤ R.slots) (kk : ∀ q, (mT μ q).1 = 0 → WA Γ M R mc ms (cl + 1) (sl + N) Q (pc + 3) lv (.ref q :: st) (nw μ q (k + 4) N)) : WA Γ M R mc ms cl sl Q pc lv (.int n :: st) μ := by
  intro p e s m args below meth c Qf H locs ls F hS hP hl hE
  obtain ⟨hx, hb, -, -, -, -, hown, hts, hK, hB, -⟩ := id F
  obtain ⟨L, hPL, hD, hL⟩ := id hP
  refine va_newq (C := xRC k) (N' := N) hx hb hown (hts _ hw) (F.2.2.2.2.2.2.2.2.2.2.2.2.2.2.1 k) hK hPL hD hS (fun q hq => Nat.le_trans hB hq) (by rw [hn]; exact nI_pos (by omega)) (by rw [hn]; exact nI_clamp (by omega)) (by omega) hcs.1 hcs.2 d (fun q cA H1 hK1 hP1 hD1 hS1 => ?_)
  have h1 : va_RA s cA (.object (xRC k)) := (hK1.2 6 (cA, .object (xRC k)) rfl).2
  have h2 : va_RA s (gC Γ (k + 2)) (.object (xRC k)) := x_RA hK k hk3
  obtain ⟨-, -, -, -, -, e1⟩ := h1
  obtain ⟨-, -, -, -, -, e2⟩ := h2
  have h3 : cA = gC Γ (k + 2) := Option.some.inj (e1.symm.trans e2)
  subst h3
  obtain ⟨g1, g2⟩ := XP_push (t := k + 4) (n := N) hL (by omega) (by rw [xcell_x nw_T]; show (Sum.inl (gC Γ (k + 2), N, Sum.inr (Sum.inr (Sum.inr (Sum.inr (va_up (mX μ) q (fun _ => none) q))))) : va_E) = _; rw [va_up_s]) hP1 hD1
  exact kk q g1 p e s m args below meth c Qf H1 locs ls F hS1 g2 hl hE
theorem dflt_ok : ∀ {ci : Nat}, ci < 13 → ∀ j, j < xN ci → defaultValue (xty ci j) = (match xty ci j with
  | .long => .long 0
  | .object _ => .null
  | .array _ => .null
  | _ => .int 0) := by decide +kernel
theorem x_new {ci idx : Nat} (d : decode M.2.1 pc = .ok (.new idx, 3)) (hci : ci < 13) (hw : Cond.classLink M.1.cls idx (xC ci) ∈ gT) (hw2 : Cond.instantiable (xC ci) (xN ci) ∈ gT) (hw3 : Cond.initialized (xC ci) ∈ gT) (hcs : cl + 1 ≤ R.cells ∧ sl + xN ci ≤ R.slots) (kk : ∀ q, (mT μ q).1 = 0 → WA Γ M R mc ms (cl + 1) (sl + xN ci) Q (pc + 3) lv (.ref q :: st) (nw μ q 1 ci)) : WA Γ M R mc ms cl sl Q pc lv st μ := by
  intro p e s m args below meth c Qf H locs ls F hS hP hl hE
  obtain ⟨hx, hb, -, -, -, -, hown, hts, hK, hB, -⟩ := id F
  obtain ⟨L, hPL, hD, hL⟩ := id hP
  refine va_new (fs := (List.range (xN ci)).map (fun k => defaultValue (xty ci k))) hx hb hts (x_in hci) (xty ci) (x_tyok hci) hown (hts _ hw) (hts _ hw2) (hts _ hw3) hK hPL hD hS (fun q hq => Nat.le_trans hB hq) (x_cl hci) (fun j hj => ?_) hcs.1 hcs.2 d (fun q H1 hP1 hD1 hS1 => ?_)
  · unfold vp_V
    rw [List.getD_eq_getElem?_getD, List.getElem?_map, List.getElem?_range hj]
    rfl
  · obtain ⟨g1, g2⟩ := XP_push (t := 1) (n := ci) hL (by decide) (by
      rw [xcell_o nw_T]
      congr 2
      unfold xfs
      refine List.map_congr_left (fun k hk => ?_)
      rw [dflt_ok hci k (List.mem_range.mp hk)]
      have e1 : mI (nw μ q 1 ci) q k = 0 := by show va_up (mI μ) q (fun _ => 0) q k = 0; rw [va_up_s]
      have e2 : mJ (nw μ q 1 ci) q k = 0 := by show va_up (mJ μ) q (fun _ => 0) q k = 0; rw [va_up_s]
      have e3 : mR (nw μ q 1 ci) q k = none := by show va_up (mR μ) q (fun _ => none) q k = none; rw [va_up_s]
      unfold xv
      cases xty ci k <;> simp [e1, e2, e3, va_rf]) hP1 hD1
    exact kk q g1 p e s m args below meth c Qf H1 locs ls F hS1 g2 hl hE
/-- System.arraycopy over ints -/
def cpA (μ : Mem) (a b i j n : Nat) : Mem := (μ.1, μ.2.1, μ.2.2.1, μ.2.2.2.1, va_up μ.2.2.2.2.1 b (va_cpy (μ.2.2.2.2.1 a) (μ.2.2.2.2.1 b) i j n), μ.2.2.2.2.2)
theorem x_copy {idx a b na nb i j n : Nat} {iv jv nv : Int32} (d : decode M.2.1 pc = .ok (.invokestatic idx, 3)) (hw : Cond.methodLink M.1.cls idx arraycopyName ∈ gT) (hw1 : Cond.native arraycopyName ∈ gT) (hw2 : Cond.static arraycopyName ∈ gT) (hw3 : Cond.initialized "java/lang/System" ∈ gT) (hTa : mT μ a = (2, na)) (hTb : mT μ b = (2, nb)) (hi : iv = nI i) (hj : jv = nI j) (hn : nv = nI n) (h4 : i + n ≤ na) (h5 : j + n ≤ nb) (hna : na < 2 ^ 31) (hnb : nb < 2 ^ 31) (hR : 1 ≤ R.frames ∧ 64 ≤ R.locals) (hws : (st.map fun v => v.category).sum ≤ 8)
    (kk : WA Γ M R mc ms cl sl Q (pc + 3) lv st (cpA μ a b i j n)) : WA Γ M R mc ms cl sl Q pc lv (.int nv :: .int jv :: .ref b :: .int iv :: .ref a :: st) μ := by
  intro p e s m args below meth c Qf H locs ls F hS hP hl hE
  obtain ⟨hx, hb, hml, -, -, -, hown, hts, hK, hB, -⟩ := id F
  obtain ⟨L, hPL, hD, hL⟩ := id hP
  have hqa : a ∈ L := (hL a).mpr (by rw [hTa]; exact fun h => by cases h)
  have hqb : b ∈ L := (hL b).mpr (by rw [hTb]; exact fun h => by cases h)
  obtain ⟨za, hza⟩ := va_pl_get (X := []) (f := xcell (gC Γ) μ) hqa
  obtain ⟨zb, hzb0⟩ := va_pl_get (X := []) (f := xcell (gC Γ) μ) hqb
  have hzb := hzb0
  rw [xcell_i hTa] at hza
  rw [xcell_i hTb] at hzb
  subst hi; subst hj; subst hn
  have ci : (nI i).toNatClampNeg = i := nI_clamp (by omega)
  have cj : (nI j).toNatClampNeg = j := nI_clamp (by omega)
  have cn : (nI n).toNatClampNeg = n := nI_clamp (by omega)
  refine va_copyi (sp := nI i) (dp := nI j) (n := nI n) (rest := st) hx hb (by rw [hml, hl.1]) hown (hts _ hw) (hts _ hw1) (hts _ hw2) (hts _ hw3) hK hPL hD hS za zb 0 0 hza hzb rfl rfl rfl (nI_pos (by omega)) (nI_pos (by omega)) (nI_pos (by omega)) (by rw [ci, cn]; exact h4) (by rw [cj, cn]; exact h5) (fun _ _ => rfl) hR.1 (Nat.le_trans (Nat.add_le_add hws (show nativeFrameWords "java/lang/System" "arraycopy" 5 + 11 ≤ 56 by decide)) hR.2) d (fun H1 locs1 hP1 hD1 hS1 => ?_)
  rw [ci, cj, cn] at hP1 hD1
  refine kk p e s m args below meth c Qf H1 locs1 ls F hS1 (XP_set (μ' := cpA μ a b i j n) hD hL hqb hzb0 rfl ?_ (fun z hz => xcell_ne rfl rfl rfl rfl (va_up_n hz) rfl) hP1 hD1) hl hE
  rw [xcell_i (show mT (cpA μ a b i j n) b = (2, nb) from hTb)]
  show (Sum.inl (gC Γ 0, nb, Sum.inl (va_up (mA μ) b (va_cpy (mA μ a) (mA μ b) i j n) b)) : va_E) = _
  rw [va_up_s]
end XNW
end
section
def isTh (ci : Nat) : Prop := ci = 0 ∨ ci = 1 ∨ ci = 3 ∨ ci = 5 ∨ ci = 9 ∨ ci = 10
abbrev zJ0_charAt_5068e : Mt := (yJ0_charAt_5068e, cJ0_charAt_5068e, 2, some (.char))
theorem mJ0_charAt_5068e : MK zJ0_charAt_5068e 1 := ⟨gt_of 327 (by decide +kernel) rfl, gt_of 77 (by decide +kernel) rfl, by decide +kernel, by decide⟩
abbrev zJ0_checkIndex_df160 : Mt := (yJ0_checkIndex_df160, cJ0_checkIndex_df160, 2, none)
theorem mJ0_checkIndex_df160 : MK zJ0_checkIndex_df160 2 := ⟨gt_of 337 (by decide +kernel) rfl, gt_of 77 (by decide +kernel) rfl, by decide +kernel, by decide⟩
abbrev zJ0_coder_7d493 : Mt := (yJ0_coder_7d493, cJ0_coder_7d493, 1, some (.byte))
theorem mJ0_coder_7d493 : MK zJ0_coder_7d493 0 := ⟨gt_of 321 (by decide +kernel) rfl, gt_of 77 (by decide +kernel) rfl, by decide +kernel, by decide⟩
abbrev zJ0_isLatin1_aae02 : Mt := (yJ0_isLatin1_aae02, cJ0_isLatin1_aae02, 1, some (.boolean))
theorem mJ0_isLatin1_aae02 : MK zJ0_isLatin1_aae02 0 := ⟨gt_of 331 (by decide +kernel) rfl, gt_of 77 (by decide +kernel) rfl, by decide +kernel, by decide⟩
abbrev zJ0_length_8abf5 : Mt := (yJ0_length_8abf5, cJ0_length_8abf5, 1, some (.int))
theorem mJ0_length_8abf5 : MK zJ0_length_8abf5 0 := ⟨gt_of 317 (by decide +kernel) rfl, gt_of 77 (by decide +kernel) rfl, by decide +kernel, by decide⟩
abbrev zJ1_charAt_3b067 : Mt := (yJ1_charAt_3b067, cJ1_charAt_3b067, 2, some (.char))
theorem mJ1_charAt_3b067 : MK zJ1_charAt_3b067 2 := ⟨gt_of 334 (by decide +kernel) rfl, gt_of 78 (by decide +kernel) rfl, by decide +kernel, by decide⟩
abbrev zJ2_charAt_3b067 : Mt := (yJ2_charAt_3b067, cJ2_charAt_3b067, 2, some (.char))
theorem mJ2_charAt_3b067 : MK zJ2_charAt_3b067 2 := ⟨gt_of 345 (by decide +kernel) rfl, gt_of 80 (by decide +kernel) rfl, by decide +kernel, by decide⟩
abbrev zJ2_checkIndex_2214a : Mt := (yJ2_checkIndex_2214a, cJ2_checkIndex_2214a, 2, none)
theorem mJ2_checkIndex_2214a : MK zJ2_checkIndex_2214a 2 := ⟨gt_of 348 (by decide +kernel) rfl, gt_of 80 (by decide +kernel) rfl, by decide +kernel, by decide⟩
abbrev zJ2_getChar_3b067 : Mt := (yJ2_getChar_3b067, cJ2_getChar_3b067, 2, some (.char))
theorem mJ2_getChar_3b067 : MK zJ2_getChar_3b067 2 := ⟨gt_of 355 (by decide +kernel) rfl, gt_of 80 (by decide +kernel) rfl, by decide +kernel, by decide⟩
abbrev zJ2_length_9d52b : Mt := (yJ2_length_9d52b, cJ2_length_9d52b, 1, some (.int))
theorem mJ2_length_9d52b : MK zJ2_length_9d52b 1 := ⟨gt_of 351 (by decide +kernel) rfl, gt_of 80 (by decide +kernel) rfl, by decide +kernel, by decide⟩
abbrev zJ3_checkIndex_8e157 : Mt := (yJ3_checkIndex_8e157, cJ3_checkIndex_8e157, 3, some (.int))
theorem mJ3_checkIndex_8e157 : MK zJ3_checkIndex_8e157 3 := ⟨gt_of 342 (by decide +kernel) rfl, gt_of 79 (by decide +kernel) rfl, by decide +kernel, by decide⟩
abbrev zJ6_bitCount_0f7a4 : Mt := (yJ6_bitCount_0f7a4, cJ6_bitCount_0f7a4, 1, some (.int))
theorem mJ6_bitCount_0f7a4 : MK zJ6_bitCount_0f7a4 1 := ⟨gt_of 857 (by decide +kernel) rfl, gt_of 90 (by decide +kernel) rfl, by decide +kernel, by decide⟩
abbrev zJ7_copyOf_59c91 : Mt := (yJ7_copyOf_59c91, cJ7_copyOf_59c91, 3, some (.array .int))
theorem mJ7_copyOf_59c91 : MK zJ7_copyOf_59c91 2 := ⟨gt_of 465 (by decide +kernel) rfl, gt_of 72 (by decide +kernel) rfl, by decide +kernel, by decide⟩
abbrev zJ7_fill_53178 : Mt := (yJ7_fill_53178, cJ7_fill_53178, 4, none)
theorem mJ7_fill_53178 : MK zJ7_fill_53178 2 := ⟨gt_of 109 (by decide +kernel) rfl, gt_of 72 (by decide +kernel) rfl, by decide +kernel, by decide⟩
abbrev zJ9_max_7cf53 : Mt := (yJ9_max_7cf53, cJ9_max_7cf53, 2, some (.int))
theorem mJ9_max_7cf53 : MK zJ9_max_7cf53 2 := ⟨gt_of 716 (by decide +kernel) rfl, gt_of 82 (by decide +kernel) rfl, by decide +kernel, by decide⟩
abbrev zJ9_min_7cf53 : Mt := (yJ9_min_7cf53, cJ9_min_7cf53, 2, some (.int))
theorem mJ9_min_7cf53 : MK zJ9_min_7cf53 2 := ⟨gt_of 475 (by decide +kernel) rfl, gt_of 82 (by decide +kernel) rfl, by decide +kernel, by decide⟩
abbrev zX0_init : Mt := (yX0_init, cX0_init, 5, none)
theorem mX0_init : MK zX0_init 4 := ⟨gt_of 638 (by decide +kernel) rfl, gt_of 89 (by decide +kernel) rfl, by decide +kernel, by decide⟩
abbrev zX0_missed : Mt := (yX0_missed, cX0_missed, 1, some (.int))
theorem mX0_missed : MK zX0_missed 0 := ⟨gt_of 800 (by decide +kernel) rfl, gt_of 89 (by decide +kernel) rfl, by decide +kernel, by decide⟩
abbrev zX0_offends : Mt := (yX0_offends, cX0_offends, 2, some (.int))
theorem mX0_offends : MK zX0_offends 1 := ⟨gt_of 777 (by decide +kernel) rfl, gt_of 89 (by decide +kernel) rfl, by decide +kernel, by decide⟩
abbrev zX10_init : Mt := (yX10_init, cX10_init, 5, none)
theorem mX10_init : MK zX10_init 4 := ⟨gt_of 618 (by decide +kernel) rfl, gt_of 88 (by decide +kernel) rfl, by decide +kernel, by decide⟩
abbrev zX10_missed : Mt := (yX10_missed, cX10_missed, 1, some (.int))
theorem mX10_missed : MK zX10_missed 0 := ⟨gt_of 814 (by decide +kernel) rfl, gt_of 88 (by decide +kernel) rfl, by decide +kernel, by decide⟩
abbrev zX10_offends : Mt := (yX10_offends, cX10_offends, 2, some (.int))
theorem mX10_offends : MK zX10_offends 1 := ⟨gt_of 791 (by decide +kernel) rfl, gt_of 88 (by decide +kernel) rfl, by decide +kernel, by decide⟩
abbrev zX11_back : Mt := (yX11_back, cX11_back, 1, some (.int))
theorem mX11_back : MK zX11_back 0 := ⟨gt_of 1096 (by decide +kernel) rfl, gt_of 70 (by decide +kernel) rfl, by decide +kernel, by decide⟩
abbrev zX11_best : Mt := (yX11_best, cX11_best, 5, some (.int))
theorem mX11_best : MK zX11_best 3 := ⟨gt_of 880 (by decide +kernel) rfl, gt_of 70 (by decide +kernel) rfl, by decide +kernel, by decide⟩
abbrev zX11_cell : Mt := (yX11_cell, cX11_cell, 5, some (.int))
theorem mX11_cell : MK zX11_cell 3 := ⟨gt_of 1112 (by decide +kernel) rfl, gt_of 70 (by decide +kernel) rfl, by decide +kernel, by decide⟩
abbrev zX11_chance : Mt := (yX11_chance, cX11_chance, 6, some (.long))
theorem mX11_chance : MK zX11_chance 3 := ⟨gt_of 1068 (by decide +kernel) rfl, gt_of 70 (by decide +kernel) rfl, by decide +kernel, by decide⟩
abbrev zX11_commonDivisor : Mt := (yX11_commonDivisor, cX11_commonDivisor, 3, some (.int))
theorem mX11_commonDivisor : MK zX11_commonDivisor 2 := ⟨gt_of 1072 (by decide +kernel) rfl, gt_of 70 (by decide +kernel) rfl, by decide +kernel, by decide⟩
abbrev zX11_copy : Mt := (yX11_copy, cX11_copy, 8, some (.int))
theorem mX11_copy : MK zX11_copy 5 := ⟨gt_of 1120 (by decide +kernel) rfl, gt_of 70 (by decide +kernel) rfl, by decide +kernel, by decide⟩
abbrev zX11_count : Mt := (yX11_count, cX11_count, 2, some (.int))
theorem mX11_count : MK zX11_count 1 := ⟨gt_of 1100 (by decide +kernel) rfl, gt_of 70 (by decide +kernel) rfl, by decide +kernel, by decide⟩
abbrev zX11_day : Mt := (yX11_day, cX11_day, 3, some (.int))
theorem mX11_day : MK zX11_day 2 := ⟨gt_of 742 (by decide +kernel) rfl, gt_of 70 (by decide +kernel) rfl, by decide +kernel, by decide⟩
abbrev zX11_dearest : Mt := (yX11_dearest, cX11_dearest, 6, some (.int))
theorem mX11_dearest : MK zX11_dearest 1 := ⟨gt_of 978 (by decide +kernel) rfl, gt_of 70 (by decide +kernel) rfl, by decide +kernel, by decide⟩
abbrev zX11_drawn : Mt := (yX11_drawn, cX11_drawn, 2, some (.int))
theorem mX11_drawn : MK zX11_drawn 1 := ⟨gt_of 1059 (by decide +kernel) rfl, gt_of 70 (by decide +kernel) rfl, by decide +kernel, by decide⟩
abbrev zX11_exchange : Mt := (yX11_exchange, cX11_exchange, 5, some (.int))
theorem mX11_exchange : MK zX11_exchange 4 := ⟨gt_of 527 (by decide +kernel) rfl, gt_of 70 (by decide +kernel) rfl, by decide +kernel, by decide⟩
abbrev zX11_feed : Mt := (yX11_feed, cX11_feed, 2, some (.int))
theorem mX11_feed : MK zX11_feed 1 := ⟨gt_of 730 (by decide +kernel) rfl, gt_of 70 (by decide +kernel) rfl, by decide +kernel, by decide⟩
abbrev zX11_film : Mt := (yX11_film, cX11_film, 4, some (.int))
theorem mX11_film : MK zX11_film 2 := ⟨gt_of 1049 (by decide +kernel) rfl, gt_of 70 (by decide +kernel) rfl, by decide +kernel, by decide⟩
abbrev zX11_force : Mt := (yX11_force, cX11_force, 3, some (.int))
theorem mX11_force : MK zX11_force 1 := ⟨gt_of 738 (by decide +kernel) rfl, gt_of 70 (by decide +kernel) rfl, by decide +kernel, by decide⟩
abbrev zX11_give : Mt := (yX11_give, cX11_give, 5, some (.int))
theorem mX11_give : MK zX11_give 0 := ⟨gt_of 987 (by decide +kernel) rfl, gt_of 70 (by decide +kernel) rfl, by decide +kernel, by decide⟩
abbrev zX11_hasBit : Mt := (yX11_hasBit, cX11_hasBit, 2, some (.boolean))
theorem mX11_hasBit : MK zX11_hasBit 2 := ⟨gt_of 726 (by decide +kernel) rfl, gt_of 70 (by decide +kernel) rfl, by decide +kernel, by decide⟩
abbrev zX11_image : Mt := (yX11_image, cX11_image, 1, some (.int))
theorem mX11_image : MK zX11_image 0 := ⟨gt_of 1077 (by decide +kernel) rfl, gt_of 70 (by decide +kernel) rfl, by decide +kernel, by decide⟩
abbrev zX11_init : Mt := (yX11_init, cX11_init, 2, none)
theorem mX11_init : MK zX11_init 0 := ⟨gt_of 95 (by decide +kernel) rfl, gt_of 70 (by decide +kernel) rfl, by decide +kernel, by decide⟩
abbrev zX11_isBelow : Mt := (yX11_isBelow, cX11_isBelow, 2, some (.boolean))
theorem mX11_isBelow : MK zX11_isBelow 2 := ⟨gt_of 530 (by decide +kernel) rfl, gt_of 70 (by decide +kernel) rfl, by decide +kernel, by decide⟩
abbrev zX11_isOf : Mt := (yX11_isOf, cX11_isOf, 2, some (.boolean))
theorem mX11_isOf : MK zX11_isOf 2 := ⟨gt_of 1136 (by decide +kernel) rfl, gt_of 70 (by decide +kernel) rfl, by decide +kernel, by decide⟩
abbrev zX11_lowestBit : Mt := (yX11_lowestBit, cX11_lowestBit, 2, some (.int))
theorem mX11_lowestBit : MK zX11_lowestBit 1 := ⟨gt_of 1045 (by decide +kernel) rfl, gt_of 70 (by decide +kernel) rfl, by decide +kernel, by decide⟩
abbrev zX11_made : Mt := (yX11_made, cX11_made, 4, some (.object "PutOut$Thing"))
theorem mX11_made : MK zX11_made 4 := ⟨gt_of 553 (by decide +kernel) rfl, gt_of 70 (by decide +kernel) rfl, by decide +kernel, by decide⟩
abbrev zX11_once : Mt := (yX11_once, cX11_once, 3, some (.int))
theorem mX11_once : MK zX11_once 1 := ⟨gt_of 957 (by decide +kernel) rfl, gt_of 70 (by decide +kernel) rfl, by decide +kernel, by decide⟩
abbrev zX11_put : Mt := (yX11_put, cX11_put, 4, some (.int))
theorem mX11_put : MK zX11_put 2 := ⟨gt_of 659 (by decide +kernel) rfl, gt_of 70 (by decide +kernel) rfl, by decide +kernel, by decide⟩
abbrev zX11_rule : Mt := (yX11_rule, cX11_rule, 1, some (.object "PutOut$Text"))
theorem mX11_rule : MK zX11_rule 0 := ⟨gt_of 684 (by decide +kernel) rfl, gt_of 70 (by decide +kernel) rfl, by decide +kernel, by decide⟩
abbrev zX11_seat : Mt := (yX11_seat, cX11_seat, 7, some (.int))
theorem mX11_seat : MK zX11_seat 2 := ⟨gt_of 1009 (by decide +kernel) rfl, gt_of 70 (by decide +kernel) rfl, by decide +kernel, by decide⟩
abbrev zX11_seen : Mt := (yX11_seen, cX11_seen, 5, some (.int))
theorem mX11_seen : MK zX11_seen 2 := ⟨gt_of 1017 (by decide +kernel) rfl, gt_of 70 (by decide +kernel) rfl, by decide +kernel, by decide⟩
abbrev zX11_set : Mt := (yX11_set, cX11_set, 4, some (.int))
theorem mX11_set : MK zX11_set 3 := ⟨gt_of 524 (by decide +kernel) rfl, gt_of 70 (by decide +kernel) rfl, by decide +kernel, by decide⟩
abbrev zX11_sheet : Mt := (yX11_sheet, cX11_sheet, 4, some (.int))
theorem mX11_sheet : MK zX11_sheet 3 := ⟨gt_of 1108 (by decide +kernel) rfl, gt_of 70 (by decide +kernel) rfl, by decide +kernel, by decide⟩
abbrev zX11_taken : Mt := (yX11_taken, cX11_taken, 4, some (.int))
theorem mX11_taken : MK zX11_taken 2 := ⟨gt_of 1133 (by decide +kernel) rfl, gt_of 70 (by decide +kernel) rfl, by decide +kernel, by decide⟩
abbrev zX11_text : Mt := (yX11_text, cX11_text, 2, some (.int))
theorem mX11_text : MK zX11_text 0 := ⟨gt_of 734 (by decide +kernel) rfl, gt_of 70 (by decide +kernel) rfl, by decide +kernel, by decide⟩
abbrev zX11_thing : Mt := (yX11_thing, cX11_thing, 5, some (.int))
theorem mX11_thing : MK zX11_thing 3 := ⟨gt_of 550 (by decide +kernel) rfl, gt_of 70 (by decide +kernel) rfl, by decide +kernel, by decide⟩
abbrev zX11_things : Mt := (yX11_things, cX11_things, 9, some (.int))
theorem mX11_things : MK zX11_things 4 := ⟨gt_of 1128 (by decide +kernel) rfl, gt_of 70 (by decide +kernel) rfl, by decide +kernel, by decide⟩
abbrev zX11_tidy : Mt := (yX11_tidy, cX11_tidy, 4, some (.int))
theorem mX11_tidy : MK zX11_tidy 1 := ⟨gt_of 953 (by decide +kernel) rfl, gt_of 70 (by decide +kernel) rfl, by decide +kernel, by decide⟩
abbrev zX11_told : Mt := (yX11_told, cX11_told, 4, some (.int))
theorem mX11_told : MK zX11_told 2 := ⟨gt_of 720 (by decide +kernel) rfl, gt_of 70 (by decide +kernel) rfl, by decide +kernel, by decide⟩
abbrev zX11_viewersOf : Mt := (yX11_viewersOf, cX11_viewersOf, 4, some (.int))
theorem mX11_viewersOf : MK zX11_viewersOf 2 := ⟨gt_of 723 (by decide +kernel) rfl, gt_of 70 (by decide +kernel) rfl, by decide +kernel, by decide⟩
abbrev zX11_week : Mt := (yX11_week, cX11_week, 3, some (.int))
theorem mX11_week : MK zX11_week 1 := ⟨gt_of 965 (by decide +kernel) rfl, gt_of 70 (by decide +kernel) rfl, by decide +kernel, by decide⟩
abbrev zX12_added : Mt := (yX12_added, cX12_added, 4, some (.int))
theorem mX12_added : MK zX12_added 0 := ⟨gt_of 1403 (by decide +kernel) rfl, gt_of 84 (by decide +kernel) rfl, by decide +kernel, by decide⟩
abbrev zX12_addsDay : Mt := (yX12_addsDay, cX12_addsDay, 4, none)
theorem mX12_addsDay : MK zX12_addsDay 1 := ⟨gt_of 1500 (by decide +kernel) rfl, gt_of 84 (by decide +kernel) rfl, by decide +kernel, by decide⟩
abbrev zX12_areGuests : Mt := (yX12_areGuests, cX12_areGuests, 1, some (.boolean))
theorem mX12_areGuests : MK zX12_areGuests 1 := ⟨gt_of 1453 (by decide +kernel) rfl, gt_of 84 (by decide +kernel) rfl, by decide +kernel, by decide⟩
abbrev zX12_atom : Mt := (yX12_atom, cX12_atom, 2, some (.int))
theorem mX12_atom : MK zX12_atom 0 := ⟨gt_of 1411 (by decide +kernel) rfl, gt_of 84 (by decide +kernel) rfl, by decide +kernel, by decide⟩
abbrev zX12_back : Mt := (yX12_back, cX12_back, 2, some (.int))
theorem mX12_back : MK zX12_back 0 := ⟨gt_of 1593 (by decide +kernel) rfl, gt_of 84 (by decide +kernel) rfl, by decide +kernel, by decide⟩
abbrev zX12_badNow : Mt := (yX12_badNow, cX12_badNow, 4, some (.int))
theorem mX12_badNow : MK zX12_badNow 1 := ⟨gt_of 1461 (by decide +kernel) rfl, gt_of 84 (by decide +kernel) rfl, by decide +kernel, by decide⟩
abbrev zX12_badOf : Mt := (yX12_badOf, cX12_badOf, 4, some (.int))
theorem mX12_badOf : MK zX12_badOf 3 := ⟨gt_of 1465 (by decide +kernel) rfl, gt_of 84 (by decide +kernel) rfl, by decide +kernel, by decide⟩
abbrev zX12_begins : Mt := (yX12_begins, cX12_begins, 2, none)
theorem mX12_begins : MK zX12_begins 0 := ⟨gt_of 1496 (by decide +kernel) rfl, gt_of 84 (by decide +kernel) rfl, by decide +kernel, by decide⟩
abbrev zX12_best : Mt := (yX12_best, cX12_best, 4, some (.int))
theorem mX12_best : MK zX12_best 3 := ⟨gt_of 1484 (by decide +kernel) rfl, gt_of 84 (by decide +kernel) rfl, by decide +kernel, by decide⟩
abbrev zX12_bitsOf : Mt := (yX12_bitsOf, cX12_bitsOf, 3, some (.int))
theorem mX12_bitsOf : MK zX12_bitsOf 1 := ⟨gt_of 1468 (by decide +kernel) rfl, gt_of 84 (by decide +kernel) rfl, by decide +kernel, by decide⟩
abbrev zX12_both : Mt := (yX12_both, cX12_both, 3, some (.int))
theorem mX12_both : MK zX12_both 0 := ⟨gt_of 1391 (by decide +kernel) rfl, gt_of 84 (by decide +kernel) rfl, by decide +kernel, by decide⟩
abbrev zX12_byteAt : Mt := (yX12_byteAt, cX12_byteAt, 2, some (.int))
theorem mX12_byteAt : MK zX12_byteAt 1 := ⟨gt_of 1362 (by decide +kernel) rfl, gt_of 84 (by decide +kernel) rfl, by decide +kernel, by decide⟩
abbrev zX12_cell : Mt := (yX12_cell, cX12_cell, 4, some (.int))
theorem mX12_cell : MK zX12_cell 3 := ⟨gt_of 1603 (by decide +kernel) rfl, gt_of 84 (by decide +kernel) rfl, by decide +kernel, by decide⟩
abbrev zX12_chance : Mt := (yX12_chance, cX12_chance, 12, some (.long))
theorem mX12_chance : MK zX12_chance 3 := ⟨gt_of 1584 (by decide +kernel) rfl, gt_of 84 (by decide +kernel) rfl, by decide +kernel, by decide⟩
abbrev zX12_copy : Mt := (yX12_copy, cX12_copy, 9, some (.int))
theorem mX12_copy : MK zX12_copy 5 := ⟨gt_of 1607 (by decide +kernel) rfl, gt_of 84 (by decide +kernel) rfl, by decide +kernel, by decide⟩
abbrev zX12_count : Mt := (yX12_count, cX12_count, 4, some (.int))
theorem mX12_count : MK zX12_count 1 := ⟨gt_of 1597 (by decide +kernel) rfl, gt_of 84 (by decide +kernel) rfl, by decide +kernel, by decide⟩
abbrev zX12_day : Mt := (yX12_day, cX12_day, 9, some (.int))
theorem mX12_day : MK zX12_day 2 := ⟨gt_of 1450 (by decide +kernel) rfl, gt_of 84 (by decide +kernel) rfl, by decide +kernel, by decide⟩
abbrev zX12_daysBack : Mt := (yX12_daysBack, cX12_daysBack, 2, none)
theorem mX12_daysBack : MK zX12_daysBack 0 := ⟨gt_of 1538 (by decide +kernel) rfl, gt_of 84 (by decide +kernel) rfl, by decide +kernel, by decide⟩
abbrev zX12_dearest : Mt := (yX12_dearest, cX12_dearest, 6, some (.int))
theorem mX12_dearest : MK zX12_dearest 1 := ⟨gt_of 1530 (by decide +kernel) rfl, gt_of 84 (by decide +kernel) rfl, by decide +kernel, by decide⟩
abbrev zX12_doesSee : Mt := (yX12_doesSee, cX12_doesSee, 3, some (.boolean))
theorem mX12_doesSee : MK zX12_doesSee 2 := ⟨gt_of 1433 (by decide +kernel) rfl, gt_of 84 (by decide +kernel) rfl, by decide +kernel, by decide⟩
abbrev zX12_drawn : Mt := (yX12_drawn, cX12_drawn, 2, some (.int))
theorem mX12_drawn : MK zX12_drawn 1 := ⟨gt_of 1575 (by decide +kernel) rfl, gt_of 84 (by decide +kernel) rfl, by decide +kernel, by decide⟩
abbrev zX12_draws : Mt := (yX12_draws, cX12_draws, 4, none)
theorem mX12_draws : MK zX12_draws 1 := ⟨gt_of 1579 (by decide +kernel) rfl, gt_of 84 (by decide +kernel) rfl, by decide +kernel, by decide⟩
abbrev zX12_either : Mt := (yX12_either, cX12_either, 3, some (.int))
theorem mX12_either : MK zX12_either 0 := ⟨gt_of 1387 (by decide +kernel) rfl, gt_of 84 (by decide +kernel) rfl, by decide +kernel, by decide⟩
abbrev zX12_fail : Mt := (yX12_fail, cX12_fail, 1, none)
theorem mX12_fail : MK zX12_fail 0 := ⟨gt_of 1383 (by decide +kernel) rfl, gt_of 84 (by decide +kernel) rfl, by decide +kernel, by decide⟩
abbrev zX12_feed : Mt := (yX12_feed, cX12_feed, 2, some (.int))
theorem mX12_feed : MK zX12_feed 1 := ⟨gt_of 1437 (by decide +kernel) rfl, gt_of 84 (by decide +kernel) rfl, by decide +kernel, by decide⟩
abbrev zX12_film : Mt := (yX12_film, cX12_film, 4, some (.int))
theorem mX12_film : MK zX12_film 2 := ⟨gt_of 1566 (by decide +kernel) rfl, gt_of 84 (by decide +kernel) rfl, by decide +kernel, by decide⟩
abbrev zX12_force : Mt := (yX12_force, cX12_force, 3, some (.int))
theorem mX12_force : MK zX12_force 1 := ⟨gt_of 1446 (by decide +kernel) rfl, gt_of 84 (by decide +kernel) rfl, by decide +kernel, by decide⟩
abbrev zX12_fromNow : Mt := (yX12_fromNow, cX12_fromNow, 2, none)
theorem mX12_fromNow : MK zX12_fromNow 0 := ⟨gt_of 1488 (by decide +kernel) rfl, gt_of 84 (by decide +kernel) rfl, by decide +kernel, by decide⟩
abbrev zX12_gathers : Mt := (yX12_gathers, cX12_gathers, 3, none)
theorem mX12_gathers : MK zX12_gathers 0 := ⟨gt_of 1457 (by decide +kernel) rfl, gt_of 84 (by decide +kernel) rfl, by decide +kernel, by decide⟩
abbrev zX12_give : Mt := (yX12_give, cX12_give, 6, some (.int))
theorem mX12_give : MK zX12_give 0 := ⟨gt_of 1542 (by decide +kernel) rfl, gt_of 84 (by decide +kernel) rfl, by decide +kernel, by decide⟩
abbrev zX12_goesThrough : Mt := (yX12_goesThrough, cX12_goesThrough, 9, none)
theorem mX12_goesThrough : MK zX12_goesThrough 4 := ⟨gt_of 1504 (by decide +kernel) rfl, gt_of 84 (by decide +kernel) rfl, by decide +kernel, by decide⟩
abbrev zX12_image : Mt := (yX12_image, cX12_image, 2, some (.int))
theorem mX12_image : MK zX12_image 0 := ⟨gt_of 1589 (by decide +kernel) rfl, gt_of 84 (by decide +kernel) rfl, by decide +kernel, by decide⟩
abbrev zX12_in : Mt := (yX12_in, cX12_in, 6, some (.boolean))
theorem mX12_in : MK zX12_in 3 := ⟨gt_of 1323 (by decide +kernel) rfl, gt_of 84 (by decide +kernel) rfl, by decide +kernel, by decide⟩
abbrev zX12_init : Mt := (yX12_init, cX12_init, 2, none)
theorem mX12_init : MK zX12_init 0 := ⟨gt_of 1141 (by decide +kernel) rfl, gt_of 84 (by decide +kernel) rfl, by decide +kernel, by decide⟩
abbrev zX12_isLetter : Mt := (yX12_isLetter, cX12_isLetter, 3, some (.boolean))
theorem mX12_isLetter : MK zX12_isLetter 2 := ⟨gt_of 1375 (by decide +kernel) rfl, gt_of 84 (by decide +kernel) rfl, by decide +kernel, by decide⟩
abbrev zX12_isPlace : Mt := (yX12_isPlace, cX12_isPlace, 1, some (.boolean))
theorem mX12_isPlace : MK zX12_isPlace 1 := ⟨gt_of 1342 (by decide +kernel) rfl, gt_of 84 (by decide +kernel) rfl, by decide +kernel, by decide⟩
abbrev zX12_isRoom : Mt := (yX12_isRoom, cX12_isRoom, 5, some (.boolean))
theorem mX12_isRoom : MK zX12_isRoom 1 := ⟨gt_of 1558 (by decide +kernel) rfl, gt_of 84 (by decide +kernel) rfl, by decide +kernel, by decide⟩
abbrev zX12_isSheet : Mt := (yX12_isSheet, cX12_isSheet, 1, some (.boolean))
theorem mX12_isSheet : MK zX12_isSheet 1 := ⟨gt_of 1554 (by decide +kernel) rfl, gt_of 84 (by decide +kernel) rfl, by decide +kernel, by decide⟩
abbrev zX12_isSign : Mt := (yX12_isSign, cX12_isSign, 2, some (.boolean))
theorem mX12_isSign : MK zX12_isSign 1 := ⟨gt_of 1415 (by decide +kernel) rfl, gt_of 84 (by decide +kernel) rfl, by decide +kernel, by decide⟩
abbrev zX12_isThing : Mt := (yX12_isThing, cX12_isThing, 2, some (.boolean))
theorem mX12_isThing : MK zX12_isThing 1 := ⟨gt_of 1339 (by decide +kernel) rfl, gt_of 84 (by decide +kernel) rfl, by decide +kernel, by decide⟩
abbrev zX12_isWord : Mt := (yX12_isWord, cX12_isWord, 9, some (.boolean))
theorem mX12_isWord : MK zX12_isWord 8 := ⟨gt_of 1371 (by decide +kernel) rfl, gt_of 84 (by decide +kernel) rfl, by decide +kernel, by decide⟩
abbrev zX12_keepsDays : Mt := (yX12_keepsDays, cX12_keepsDays, 2, none)
theorem mX12_keepsDays : MK zX12_keepsDays 0 := ⟨gt_of 1534 (by decide +kernel) rfl, gt_of 84 (by decide +kernel) rfl, by decide +kernel, by decide⟩
abbrev zX12_leastBad : Mt := (yX12_leastBad, cX12_leastBad, 2, some (.int))
theorem mX12_leastBad : MK zX12_leastBad 1 := ⟨gt_of 1562 (by decide +kernel) rfl, gt_of 84 (by decide +kernel) rfl, by decide +kernel, by decide⟩
abbrev zX12_missedOf : Mt := (yX12_missedOf, cX12_missedOf, 3, some (.int))
theorem mX12_missedOf : MK zX12_missedOf 1 := ⟨gt_of 1476 (by decide +kernel) rfl, gt_of 84 (by decide +kernel) rfl, by decide +kernel, by decide⟩
abbrev zX12_name : Mt := (yX12_name, cX12_name, 1, some (.int))
theorem mX12_name : MK zX12_name 0 := ⟨gt_of 1419 (by decide +kernel) rfl, gt_of 84 (by decide +kernel) rfl, by decide +kernel, by decide⟩
abbrev zX12_next : Mt := (yX12_next, cX12_next, 3, none)
theorem mX12_next : MK zX12_next 0 := ⟨gt_of 1358 (by decide +kernel) rfl, gt_of 84 (by decide +kernel) rfl, by decide +kernel, by decide⟩
abbrev zX12_not : Mt := (yX12_not, cX12_not, 4, some (.int))
theorem mX12_not : MK zX12_not 0 := ⟨gt_of 1395 (by decide +kernel) rfl, gt_of 84 (by decide +kernel) rfl, by decide +kernel, by decide⟩
abbrev zX12_offendsOf : Mt := (yX12_offendsOf, cX12_offendsOf, 5, some (.int))
theorem mX12_offendsOf : MK zX12_offendsOf 2 := ⟨gt_of 1480 (by decide +kernel) rfl, gt_of 84 (by decide +kernel) rfl, by decide +kernel, by decide⟩
abbrev zX12_once : Mt := (yX12_once, cX12_once, 2, some (.int))
theorem mX12_once : MK zX12_once 1 := ⟨gt_of 1513 (by decide +kernel) rfl, gt_of 84 (by decide +kernel) rfl, by decide +kernel, by decide⟩
abbrev zX12_opens : Mt := (yX12_opens, cX12_opens, 1, some (.boolean))
theorem mX12_opens : MK zX12_opens 0 := ⟨gt_of 1399 (by decide +kernel) rfl, gt_of 84 (by decide +kernel) rfl, by decide +kernel, by decide⟩
abbrev zX12_over : Mt := (yX12_over, cX12_over, 1, some (.int))
theorem mX12_over : MK zX12_over 1 := ⟨gt_of 1619 (by decide +kernel) rfl, gt_of 84 (by decide +kernel) rfl, by decide +kernel, by decide⟩
abbrev zX12_part : Mt := (yX12_part, cX12_part, 3, some (.int))
theorem mX12_part : MK zX12_part 1 := ⟨gt_of 1379 (by decide +kernel) rfl, gt_of 84 (by decide +kernel) rfl, by decide +kernel, by decide⟩
abbrev zX12_put : Mt := (yX12_put, cX12_put, 4, some (.int))
theorem mX12_put : MK zX12_put 2 := ⟨gt_of 1335 (by decide +kernel) rfl, gt_of 84 (by decide +kernel) rfl, by decide +kernel, by decide⟩
abbrev zX12_read : Mt := (yX12_read, cX12_read, 6, some (.int))
theorem mX12_read : MK zX12_read 2 := ⟨gt_of 1354 (by decide +kernel) rfl, gt_of 84 (by decide +kernel) rfl, by decide +kernel, by decide⟩
abbrev zX12_says : Mt := (yX12_says, cX12_says, 5, some (.int))
theorem mX12_says : MK zX12_says 4 := ⟨gt_of 1350 (by decide +kernel) rfl, gt_of 84 (by decide +kernel) rfl, by decide +kernel, by decide⟩
abbrev zX12_seat : Mt := (yX12_seat, cX12_seat, 8, some (.int))
theorem mX12_seat : MK zX12_seat 2 := ⟨gt_of 1546 (by decide +kernel) rfl, gt_of 84 (by decide +kernel) rfl, by decide +kernel, by decide⟩
abbrev zX12_seeksFor : Mt := (yX12_seeksFor, cX12_seeksFor, 3, none)
theorem mX12_seeksFor : MK zX12_seeksFor 2 := ⟨gt_of 1492 (by decide +kernel) rfl, gt_of 84 (by decide +kernel) rfl, by decide +kernel, by decide⟩
abbrev zX12_seeksOnce : Mt := (yX12_seeksOnce, cX12_seeksOnce, 2, none)
theorem mX12_seeksOnce : MK zX12_seeksOnce 0 := ⟨gt_of 1517 (by decide +kernel) rfl, gt_of 84 (by decide +kernel) rfl, by decide +kernel, by decide⟩
abbrev zX12_seen : Mt := (yX12_seen, cX12_seen, 9, some (.int))
theorem mX12_seen : MK zX12_seen 2 := ⟨gt_of 1551 (by decide +kernel) rfl, gt_of 84 (by decide +kernel) rfl, by decide +kernel, by decide⟩
abbrev zX12_set : Mt := (yX12_set, cX12_set, 6, some (.int))
theorem mX12_set : MK zX12_set 3 := ⟨gt_of 1319 (by decide +kernel) rfl, gt_of 84 (by decide +kernel) rfl, by decide +kernel, by decide⟩
abbrev zX12_sheet : Mt := (yX12_sheet, cX12_sheet, 5, some (.int))
theorem mX12_sheet : MK zX12_sheet 3 := ⟨gt_of 1570 (by decide +kernel) rfl, gt_of 84 (by decide +kernel) rfl, by decide +kernel, by decide⟩
abbrev zX12_spell : Mt := (yX12_spell, cX12_spell, 10, none)
theorem mX12_spell : MK zX12_spell 9 := ⟨gt_of 1146 (by decide +kernel) rfl, gt_of 84 (by decide +kernel) rfl, by decide +kernel, by decide⟩
abbrev zX12_stands : Mt := (yX12_stands, cX12_stands, 4, some (.boolean))
theorem mX12_stands : MK zX12_stands 2 := ⟨gt_of 1346 (by decide +kernel) rfl, gt_of 84 (by decide +kernel) rfl, by decide +kernel, by decide⟩
abbrev zX12_taken : Mt := (yX12_taken, cX12_taken, 4, some (.int))
theorem mX12_taken : MK zX12_taken 2 := ⟨gt_of 1616 (by decide +kernel) rfl, gt_of 84 (by decide +kernel) rfl, by decide +kernel, by decide⟩
abbrev zX12_term : Mt := (yX12_term, cX12_term, 2, some (.int))
theorem mX12_term : MK zX12_term 0 := ⟨gt_of 1407 (by decide +kernel) rfl, gt_of 84 (by decide +kernel) rfl, by decide +kernel, by decide⟩
abbrev zX12_text : Mt := (yX12_text, cX12_text, 2, some (.int))
theorem mX12_text : MK zX12_text 0 := ⟨gt_of 1442 (by decide +kernel) rfl, gt_of 84 (by decide +kernel) rfl, by decide +kernel, by decide⟩
abbrev zX12_thing : Mt := (yX12_thing, cX12_thing, 4, some (.int))
theorem mX12_thing : MK zX12_thing 3 := ⟨gt_of 1330 (by decide +kernel) rfl, gt_of 84 (by decide +kernel) rfl, by decide +kernel, by decide⟩
abbrev zX12_things : Mt := (yX12_things, cX12_things, 8, some (.int))
theorem mX12_things : MK zX12_things 4 := ⟨gt_of 1611 (by decide +kernel) rfl, gt_of 84 (by decide +kernel) rfl, by decide +kernel, by decide⟩
abbrev zX12_tidy : Mt := (yX12_tidy, cX12_tidy, 4, some (.int))
theorem mX12_tidy : MK zX12_tidy 1 := ⟨gt_of 1508 (by decide +kernel) rfl, gt_of 84 (by decide +kernel) rfl, by decide +kernel, by decide⟩
abbrev zX12_timesBad : Mt := (yX12_timesBad, cX12_timesBad, 7, some (.int))
theorem mX12_timesBad : MK zX12_timesBad 3 := ⟨gt_of 1472 (by decide +kernel) rfl, gt_of 84 (by decide +kernel) rfl, by decide +kernel, by decide⟩
abbrev zX12_told : Mt := (yX12_told, cX12_told, 5, some (.int))
theorem mX12_told : MK zX12_told 2 := ⟨gt_of 1428 (by decide +kernel) rfl, gt_of 84 (by decide +kernel) rfl, by decide +kernel, by decide⟩
abbrev zX12_week : Mt := (yX12_week, cX12_week, 2, some (.int))
theorem mX12_week : MK zX12_week 1 := ⟨gt_of 1521 (by decide +kernel) rfl, gt_of 84 (by decide +kernel) rfl, by decide +kernel, by decide⟩
abbrev zX12_weeks : Mt := (yX12_weeks, cX12_weeks, 4, none)
theorem mX12_weeks : MK zX12_weeks 0 := ⟨gt_of 1526 (by decide +kernel) rfl, gt_of 84 (by decide +kernel) rfl, by decide +kernel, by decide⟩
abbrev zX12_within : Mt := (yX12_within, cX12_within, 3, some (.int))
theorem mX12_within : MK zX12_within 3 := ⟨gt_of 1424 (by decide +kernel) rfl, gt_of 84 (by decide +kernel) rfl, by decide +kernel, by decide⟩
abbrev zX1_init : Mt := (yX1_init, cX1_init, 5, none)
theorem mX1_init : MK zX1_init 4 := ⟨gt_of 578 (by decide +kernel) rfl, gt_of 86 (by decide +kernel) rfl, by decide +kernel, by decide⟩
abbrev zX1_missed : Mt := (yX1_missed, cX1_missed, 1, some (.int))
theorem mX1_missed : MK zX1_missed 0 := ⟨gt_of 803 (by decide +kernel) rfl, gt_of 86 (by decide +kernel) rfl, by decide +kernel, by decide⟩
abbrev zX1_offends : Mt := (yX1_offends, cX1_offends, 2, some (.int))
theorem mX1_offends : MK zX1_offends 1 := ⟨gt_of 780 (by decide +kernel) rfl, gt_of 86 (by decide +kernel) rfl, by decide +kernel, by decide⟩
abbrev zX1_stands : Mt := (yX1_stands, cX1_stands, 2, some (.boolean))
theorem mX1_stands : MK zX1_stands 1 := ⟨gt_of 667 (by decide +kernel) rfl, gt_of 86 (by decide +kernel) rfl, by decide +kernel, by decide⟩
abbrev zX2_has : Mt := (yX2_has, cX2_has, 2, some (.boolean))
theorem mX2_has : MK zX2_has 1 := ⟨gt_of 534 (by decide +kernel) rfl, gt_of 71 (by decide +kernel) rfl, by decide +kernel, by decide⟩
abbrev zX2_howManyArePut : Mt := (yX2_howManyArePut, cX2_howManyArePut, 3, some (.int))
theorem mX2_howManyArePut : MK zX2_howManyArePut 0 := ⟨gt_of 1104 (by decide +kernel) rfl, gt_of 71 (by decide +kernel) rfl, by decide +kernel, by decide⟩
abbrev zX2_init : Mt := (yX2_init, cX2_init, 2, none)
theorem mX2_init : MK zX2_init 0 := ⟨gt_of 103 (by decide +kernel) rfl, gt_of 71 (by decide +kernel) rfl, by decide +kernel, by decide⟩
abbrev zX2_isTaken : Mt := (yX2_isTaken, cX2_isTaken, 3, some (.boolean))
theorem mX2_isTaken : MK zX2_isTaken 1 := ⟨gt_of 680 (by decide +kernel) rfl, gt_of 71 (by decide +kernel) rfl, by decide +kernel, by decide⟩
abbrev zX2_take : Mt := (yX2_take, cX2_take, 3, none)
theorem mX2_take : MK zX2_take 1 := ⟨gt_of 1081 (by decide +kernel) rfl, gt_of 71 (by decide +kernel) rfl, by decide +kernel, by decide⟩
abbrev zX3_init : Mt := (yX3_init, cX3_init, 5, none)
theorem mX3_init : MK zX3_init 4 := ⟨gt_of 558 (by decide +kernel) rfl, gt_of 85 (by decide +kernel) rfl, by decide +kernel, by decide⟩
abbrev zX3_stands : Mt := (yX3_stands, cX3_stands, 2, some (.boolean))
theorem mX3_stands : MK zX3_stands 1 := ⟨gt_of 670 (by decide +kernel) rfl, gt_of 85 (by decide +kernel) rfl, by decide +kernel, by decide⟩
abbrev zX4_badDay : Mt := (yX4_badDay, cX4_badDay, 5, some (.int))
theorem mX4_badDay : MK zX4_badDay 1 := ⟨gt_of 824 (by decide +kernel) rfl, gt_of 75 (by decide +kernel) rfl, by decide +kernel, by decide⟩
abbrev zX4_bestFor : Mt := (yX4_bestFor, cX4_bestFor, 3, some (.int))
theorem mX4_bestFor : MK zX4_bestFor 2 := ⟨gt_of 884 (by decide +kernel) rfl, gt_of 75 (by decide +kernel) rfl, by decide +kernel, by decide⟩
abbrev zX4_bitOf : Mt := (yX4_bitOf, cX4_bitOf, 1, some (.int))
theorem mX4_bitOf : MK zX4_bitOf 1 := ⟨gt_of 944 (by decide +kernel) rfl, gt_of 75 (by decide +kernel) rfl, by decide +kernel, by decide⟩
abbrev zX4_costFrom : Mt := (yX4_costFrom, cX4_costFrom, 8, some (.int))
theorem mX4_costFrom : MK zX4_costFrom 5 := ⟨gt_of 941 (by decide +kernel) rfl, gt_of 75 (by decide +kernel) rfl, by decide +kernel, by decide⟩
abbrev zX4_draw : Mt := (yX4_draw, cX4_draw, 4, none)
theorem mX4_draw : MK zX4_draw 1 := ⟨gt_of 1063 (by decide +kernel) rfl, gt_of 75 (by decide +kernel) rfl, by decide +kernel, by decide⟩
abbrev zX4_enterFound : Mt := (yX4_enterFound, cX4_enterFound, 3, some (.int))
theorem mX4_enterFound : MK zX4_enterFound 0 := ⟨gt_of 974 (by decide +kernel) rfl, gt_of 75 (by decide +kernel) rfl, by decide +kernel, by decide⟩
abbrev zX4_enterNow : Mt := (yX4_enterNow, cX4_enterNow, 2, none)
theorem mX4_enterNow : MK zX4_enterNow 0 := ⟨gt_of 820 (by decide +kernel) rfl, gt_of 75 (by decide +kernel) rfl, by decide +kernel, by decide⟩
abbrev zX4_enters : Mt := (yX4_enters, cX4_enters, 5, some (.boolean))
theorem mX4_enters : MK zX4_enters 1 := ⟨gt_of 1021 (by decide +kernel) rfl, gt_of 75 (by decide +kernel) rfl, by decide +kernel, by decide⟩
abbrev zX4_expected : Mt := (yX4_expected, cX4_expected, 3, some (.int))
theorem mX4_expected : MK zX4_expected 0 := ⟨gt_of 1040 (by decide +kernel) rfl, gt_of 75 (by decide +kernel) rfl, by decide +kernel, by decide⟩
abbrev zX4_fillLeast : Mt := (yX4_fillLeast, cX4_fillLeast, 7, none)
theorem mX4_fillLeast : MK zX4_fillLeast 3 := ⟨gt_of 935 (by decide +kernel) rfl, gt_of 75 (by decide +kernel) rfl, by decide +kernel, by decide⟩
abbrev zX4_follow : Mt := (yX4_follow, cX4_follow, 8, none)
theorem mX4_follow : MK zX4_follow 2 := ⟨gt_of 949 (by decide +kernel) rfl, gt_of 75 (by decide +kernel) rfl, by decide +kernel, by decide⟩
abbrev zX4_giveAway : Mt := (yX4_giveAway, cX4_giveAway, 2, none)
theorem mX4_giveAway : MK zX4_giveAway 1 := ⟨gt_of 991 (by decide +kernel) rfl, gt_of 75 (by decide +kernel) rfl, by decide +kernel, by decide⟩
abbrev zX4_init : Mt := (yX4_init, cX4_init, 1, none)
theorem mX4_init : MK zX4_init 0 := ⟨gt_of 250 (by decide +kernel) rfl, gt_of 75 (by decide +kernel) rfl, by decide +kernel, by decide⟩
abbrev zX4_lackOf : Mt := (yX4_lackOf, cX4_lackOf, 4, some (.int))
theorem mX4_lackOf : MK zX4_lackOf 1 := ⟨gt_of 995 (by decide +kernel) rfl, gt_of 75 (by decide +kernel) rfl, by decide +kernel, by decide⟩
abbrev zX4_leaveOut : Mt := (yX4_leaveOut, cX4_leaveOut, 4, none)
theorem mX4_leaveOut : MK zX4_leaveOut 2 := ⟨gt_of 983 (by decide +kernel) rfl, gt_of 75 (by decide +kernel) rfl, by decide +kernel, by decide⟩
abbrev zX4_lookAround : Mt := (yX4_lookAround, cX4_lookAround, 2, none)
theorem mX4_lookAround : MK zX4_lookAround 0 := ⟨gt_of 751 (by decide +kernel) rfl, gt_of 75 (by decide +kernel) rfl, by decide +kernel, by decide⟩
abbrev zX4_onceCost : Mt := (yX4_onceCost, cX4_onceCost, 2, some (.int))
theorem mX4_onceCost : MK zX4_onceCost 0 := ⟨gt_of 961 (by decide +kernel) rfl, gt_of 75 (by decide +kernel) rfl, by decide +kernel, by decide⟩
abbrev zX4_priceDay : Mt := (yX4_priceDay, cX4_priceDay, 3, none)
theorem mX4_priceDay : MK zX4_priceDay 1 := ⟨gt_of 916 (by decide +kernel) rfl, gt_of 75 (by decide +kernel) rfl, by decide +kernel, by decide⟩
abbrev zX4_priceMoves : Mt := (yX4_priceMoves, cX4_priceMoves, 2, none)
theorem mX4_priceMoves : MK zX4_priceMoves 0 := ⟨gt_of 902 (by decide +kernel) rfl, gt_of 75 (by decide +kernel) rfl, by decide +kernel, by decide⟩
abbrev zX4_priceNothing : Mt := (yX4_priceNothing, cX4_priceNothing, 2, none)
theorem mX4_priceNothing : MK zX4_priceNothing 0 := ⟨gt_of 888 (by decide +kernel) rfl, gt_of 75 (by decide +kernel) rfl, by decide +kernel, by decide⟩
abbrev zX4_search : Mt := (yX4_search, cX4_search, 6, some (.int))
theorem mX4_search : MK zX4_search 1 := ⟨gt_of 930 (by decide +kernel) rfl, gt_of 75 (by decide +kernel) rfl, by decide +kernel, by decide⟩
abbrev zX4_sits : Mt := (yX4_sits, cX4_sits, 3, none)
theorem mX4_sits : MK zX4_sits 2 := ⟨gt_of 1013 (by decide +kernel) rfl, gt_of 75 (by decide +kernel) rfl, by decide +kernel, by decide⟩
abbrev zX4_start : Mt := (yX4_start, cX4_start, 4, none)
theorem mX4_start : MK zX4_start 2 := ⟨gt_of 746 (by decide +kernel) rfl, gt_of 75 (by decide +kernel) rfl, by decide +kernel, by decide⟩
abbrev zX4_surprised : Mt := (yX4_surprised, cX4_surprised, 4, some (.int))
theorem mX4_surprised : MK zX4_surprised 0 := ⟨gt_of 1036 (by decide +kernel) rfl, gt_of 75 (by decide +kernel) rfl, by decide +kernel, by decide⟩
abbrev zX4_thingsThat : Mt := (yX4_thingsThat, cX4_thingsThat, 7, some (.int))
theorem mX4_thingsThat : MK zX4_thingsThat 2 := ⟨gt_of 864 (by decide +kernel) rfl, gt_of 75 (by decide +kernel) rfl, by decide +kernel, by decide⟩
abbrev zX4_weekCost : Mt := (yX4_weekCost, cX4_weekCost, 4, some (.int))
theorem mX4_weekCost : MK zX4_weekCost 0 := ⟨gt_of 969 (by decide +kernel) rfl, gt_of 75 (by decide +kernel) rfl, by decide +kernel, by decide⟩
abbrev zX5_init : Mt := (yX5_init, cX5_init, 5, none)
theorem mX5_init : MK zX5_init 4 := ⟨gt_of 598 (by decide +kernel) rfl, gt_of 87 (by decide +kernel) rfl, by decide +kernel, by decide⟩
abbrev zX5_missed : Mt := (yX5_missed, cX5_missed, 1, some (.int))
theorem mX5_missed : MK zX5_missed 0 := ⟨gt_of 808 (by decide +kernel) rfl, gt_of 87 (by decide +kernel) rfl, by decide +kernel, by decide⟩
abbrev zX5_offends : Mt := (yX5_offends, cX5_offends, 2, some (.int))
theorem mX5_offends : MK zX5_offends 1 := ⟨gt_of 785 (by decide +kernel) rfl, gt_of 87 (by decide +kernel) rfl, by decide +kernel, by decide⟩
abbrev zX5_stands : Mt := (yX5_stands, cX5_stands, 2, some (.boolean))
theorem mX5_stands : MK zX5_stands 1 := ⟨gt_of 673 (by decide +kernel) rfl, gt_of 87 (by decide +kernel) rfl, by decide +kernel, by decide⟩
abbrev zX6_advance : Mt := (yX6_advance, cX6_advance, 1, none)
theorem mX6_advance : MK zX6_advance 0 := ⟨gt_of 369 (by decide +kernel) rfl, gt_of 74 (by decide +kernel) rfl, by decide +kernel, by decide⟩
abbrev zX6_both : Mt := (yX6_both, cX6_both, 3, none)
theorem mX6_both : MK zX6_both 1 := ⟨gt_of 428 (by decide +kernel) rfl, gt_of 74 (by decide +kernel) rfl, by decide +kernel, by decide⟩
abbrev zX6_comparison : Mt := (yX6_comparison, cX6_comparison, 3, none)
theorem mX6_comparison : MK zX6_comparison 1 := ⟨gt_of 436 (by decide +kernel) rfl, gt_of 74 (by decide +kernel) rfl, by decide +kernel, by decide⟩
abbrev zX6_digits : Mt := (yX6_digits, cX6_digits, 1, some (.int))
theorem mX6_digits : MK zX6_digits 0 := ⟨gt_of 409 (by decide +kernel) rfl, gt_of 74 (by decide +kernel) rfl, by decide +kernel, by decide⟩
abbrev zX6_either : Mt := (yX6_either, cX6_either, 3, none)
theorem mX6_either : MK zX6_either 1 := ⟨gt_of 424 (by decide +kernel) rfl, gt_of 74 (by decide +kernel) rfl, by decide +kernel, by decide⟩
abbrev zX6_emit : Mt := (yX6_emit, cX6_emit, 2, none)
theorem mX6_emit : MK zX6_emit 1 := ⟨gt_of 452 (by decide +kernel) rfl, gt_of 74 (by decide +kernel) rfl, by decide +kernel, by decide⟩
abbrev zX6_expect : Mt := (yX6_expect, cX6_expect, 2, none)
theorem mX6_expect : MK zX6_expect 1 := ⟨gt_of 416 (by decide +kernel) rfl, gt_of 74 (by decide +kernel) rfl, by decide +kernel, by decide⟩
abbrev zX6_fail : Mt := (yX6_fail, cX6_fail, 1, none)
theorem mX6_fail : MK zX6_fail 0 := ⟨gt_of 420 (by decide +kernel) rfl, gt_of 74 (by decide +kernel) rfl, by decide +kernel, by decide⟩
abbrev zX6_init : Mt := (yX6_init, cX6_init, 1, none)
theorem mX6_init : MK zX6_init 0 := ⟨gt_of 209 (by decide +kernel) rfl, gt_of 74 (by decide +kernel) rfl, by decide +kernel, by decide⟩
abbrev zX6_isDigit : Mt := (yX6_isDigit, cX6_isDigit, 1, some (.boolean))
theorem mX6_isDigit : MK zX6_isDigit 1 := ⟨gt_of 405 (by decide +kernel) rfl, gt_of 74 (by decide +kernel) rfl, by decide +kernel, by decide⟩
abbrev zX6_isLetter : Mt := (yX6_isLetter, cX6_isLetter, 1, some (.boolean))
theorem mX6_isLetter : MK zX6_isLetter 1 := ⟨gt_of 372 (by decide +kernel) rfl, gt_of 74 (by decide +kernel) rfl, by decide +kernel, by decide⟩
abbrev zX6_key : Mt := (yX6_key, cX6_key, 1, some (.int))
theorem mX6_key : MK zX6_key 0 := ⟨gt_of 380 (by decide +kernel) rfl, gt_of 74 (by decide +kernel) rfl, by decide +kernel, by decide⟩
abbrev zX6_made : Mt := (yX6_made, cX6_made, 1, some (.object "PutOut$Text"))
theorem mX6_made : MK zX6_made 0 := ⟨gt_of 456 (by decide +kernel) rfl, gt_of 74 (by decide +kernel) rfl, by decide +kernel, by decide⟩
abbrev zX6_name : Mt := (yX6_name, cX6_name, 1, some (.int))
theorem mX6_name : MK zX6_name 0 := ⟨gt_of 396 (by decide +kernel) rfl, gt_of 74 (by decide +kernel) rfl, by decide +kernel, by decide⟩
abbrev zX6_negation : Mt := (yX6_negation, cX6_negation, 2, none)
theorem mX6_negation : MK zX6_negation 1 := ⟨gt_of 432 (by decide +kernel) rfl, gt_of 74 (by decide +kernel) rfl, by decide +kernel, by decide⟩
abbrev zX6_one : Mt := (yX6_one, cX6_one, 2, none)
theorem mX6_one : MK zX6_one 1 := ⟨gt_of 448 (by decide +kernel) rfl, gt_of 74 (by decide +kernel) rfl, by decide +kernel, by decide⟩
abbrev zX6_read : Mt := (yX6_read, cX6_read, 4, some (.int))
theorem mX6_read : MK zX6_read 2 := ⟨gt_of 365 (by decide +kernel) rfl, gt_of 74 (by decide +kernel) rfl, by decide +kernel, by decide⟩
abbrev zX6_sign : Mt := (yX6_sign, cX6_sign, 1, some (.int))
theorem mX6_sign : MK zX6_sign 1 := ⟨gt_of 412 (by decide +kernel) rfl, gt_of 74 (by decide +kernel) rfl, by decide +kernel, by decide⟩
abbrev zX6_spells : Mt := (yX6_spells, cX6_spells, 3, some (.boolean))
theorem mX6_spells : MK zX6_spells 1 := ⟨gt_of 385 (by decide +kernel) rfl, gt_of 74 (by decide +kernel) rfl, by decide +kernel, by decide⟩
abbrev zX6_sum : Mt := (yX6_sum, cX6_sum, 4, none)
theorem mX6_sum : MK zX6_sum 1 := ⟨gt_of 440 (by decide +kernel) rfl, gt_of 74 (by decide +kernel) rfl, by decide +kernel, by decide⟩
abbrev zX6_term : Mt := (yX6_term, cX6_term, 3, none)
theorem mX6_term : MK zX6_term 1 := ⟨gt_of 444 (by decide +kernel) rfl, gt_of 74 (by decide +kernel) rfl, by decide +kernel, by decide⟩
abbrev zX6_word : Mt := (yX6_word, cX6_word, 2, some (.int))
theorem mX6_word : MK zX6_word 0 := ⟨gt_of 376 (by decide +kernel) rfl, gt_of 74 (by decide +kernel) rfl, by decide +kernel, by decide⟩
abbrev zX7_become : Mt := (yX7_become, cX7_become, 3, none)
theorem mX7_become : MK zX7_become 2 := ⟨gt_of 1053 (by decide +kernel) rfl, gt_of 76 (by decide +kernel) rfl, by decide +kernel, by decide⟩
abbrev zX7_holds : Mt := (yX7_holds, cX7_holds, 3, some (.boolean))
theorem mX7_holds : MK zX7_holds 2 := ⟨gt_of 1124 (by decide +kernel) rfl, gt_of 76 (by decide +kernel) rfl, by decide +kernel, by decide⟩
abbrev zX7_init : Mt := (yX7_init, cX7_init, 1, none)
theorem mX7_init : MK zX7_init 0 := ⟨gt_of 298 (by decide +kernel) rfl, gt_of 76 (by decide +kernel) rfl, by decide +kernel, by decide⟩
abbrev zX7_narrowed : Mt := (yX7_narrowed, cX7_narrowed, 2, some (.int))
theorem mX7_narrowed : MK zX7_narrowed 1 := ⟨gt_of 1116 (by decide +kernel) rfl, gt_of 76 (by decide +kernel) rfl, by decide +kernel, by decide⟩
abbrev zX8_init : Mt := (yX8_init, cX8_init, 4, none)
theorem mX8_init : MK zX8_init 3 := ⟨gt_of 461 (by decide +kernel) rfl, gt_of 81 (by decide +kernel) rfl, by decide +kernel, by decide⟩
abbrev zX8_joined : Mt := (yX8_joined, cX8_joined, 3, some (.int))
theorem mX8_joined : MK zX8_joined 3 := ⟨gt_of 712 (by decide +kernel) rfl, gt_of 81 (by decide +kernel) rfl, by decide +kernel, by decide⟩
abbrev zX8_named : Mt := (yX8_named, cX8_named, 4, some (.int))
theorem mX8_named : MK zX8_named 4 := ⟨gt_of 705 (by decide +kernel) rfl, gt_of 81 (by decide +kernel) rfl, by decide +kernel, by decide⟩
abbrev zX8_pop : Mt := (yX8_pop, cX8_pop, 1, some (.int))
theorem mX8_pop : MK zX8_pop 0 := ⟨gt_of 709 (by decide +kernel) rfl, gt_of 81 (by decide +kernel) rfl, by decide +kernel, by decide⟩
abbrev zX8_push : Mt := (yX8_push, cX8_push, 2, none)
theorem mX8_push : MK zX8_push 1 := ⟨gt_of 702 (by decide +kernel) rfl, gt_of 81 (by decide +kernel) rfl, by decide +kernel, by decide⟩
abbrev zX8_tells : Mt := (yX8_tells, cX8_tells, 9, some (.int))
theorem mX8_tells : MK zX8_tells 4 := ⟨gt_of 698 (by decide +kernel) rfl, gt_of 81 (by decide +kernel) rfl, by decide +kernel, by decide⟩
abbrev zX9_bad : Mt := (yX9_bad, cX9_bad, 4, some (.int))
theorem mX9_bad : MK zX9_bad 3 := ⟨gt_of 834 (by decide +kernel) rfl, gt_of 73 (by decide +kernel) rfl, by decide +kernel, by decide⟩
abbrev zX9_change : Mt := (yX9_change, cX9_change, 4, some (.int))
theorem mX9_change : MK zX9_change 2 := ⟨gt_of 545 (by decide +kernel) rfl, gt_of 73 (by decide +kernel) rfl, by decide +kernel, by decide⟩
abbrev zX9_harm : Mt := (yX9_harm, cX9_harm, 4, some (.int))
theorem mX9_harm : MK zX9_harm 2 := ⟨gt_of 844 (by decide +kernel) rfl, gt_of 73 (by decide +kernel) rfl, by decide +kernel, by decide⟩
abbrev zX9_init : Mt := (yX9_init, cX9_init, 5, none)
theorem mX9_init : MK zX9_init 4 := ⟨gt_of 113 (by decide +kernel) rfl, gt_of 73 (by decide +kernel) rfl, by decide +kernel, by decide⟩
abbrev zX9_isBarred : Mt := (yX9_isBarred, cX9_isBarred, 2, some (.boolean))
theorem mX9_isBarred : MK zX9_isBarred 1 := ⟨gt_of 1032 (by decide +kernel) rfl, gt_of 73 (by decide +kernel) rfl, by decide +kernel, by decide⟩
abbrev zX9_isMissed : Mt := (yX9_isMissed, cX9_isMissed, 3, some (.boolean))
theorem mX9_isMissed : MK zX9_isMissed 2 := ⟨gt_of 854 (by decide +kernel) rfl, gt_of 73 (by decide +kernel) rfl, by decide +kernel, by decide⟩
abbrev zX9_isOffending : Mt := (yX9_isOffending, cX9_isOffending, 3, some (.boolean))
theorem mX9_isOffending : MK zX9_isOffending 2 := ⟨gt_of 875 (by decide +kernel) rfl, gt_of 73 (by decide +kernel) rfl, by decide +kernel, by decide⟩
abbrev zX9_lackFor : Mt := (yX9_lackFor, cX9_lackFor, 2, some (.int))
theorem mX9_lackFor : MK zX9_lackFor 1 := ⟨gt_of 1005 (by decide +kernel) rfl, gt_of 73 (by decide +kernel) rfl, by decide +kernel, by decide⟩
abbrev zX9_learn : Mt := (yX9_learn, cX9_learn, 3, none)
theorem mX9_learn : MK zX9_learn 1 := ⟨gt_of 762 (by decide +kernel) rfl, gt_of 73 (by decide +kernel) rfl, by decide +kernel, by decide⟩
abbrev zX9_missed : Mt := (yX9_missed, cX9_missed, 1, some (.int))
theorem mX9_missed : MK zX9_missed 0 := ⟨gt_of 816 (by decide +kernel) rfl, gt_of 73 (by decide +kernel) rfl, by decide +kernel, by decide⟩
abbrev zX9_movesTo : Mt := (yX9_movesTo, cX9_movesTo, 3, some (.int))
theorem mX9_movesTo : MK zX9_movesTo 2 := ⟨gt_of 694 (by decide +kernel) rfl, gt_of 73 (by decide +kernel) rfl, by decide +kernel, by decide⟩
abbrev zX9_offenceTo : Mt := (yX9_offenceTo, cX9_offenceTo, 4, some (.int))
theorem mX9_offenceTo : MK zX9_offenceTo 1 := ⟨gt_of 769 (by decide +kernel) rfl, gt_of 73 (by decide +kernel) rfl, by decide +kernel, by decide⟩
abbrev zX9_offends : Mt := (yX9_offends, cX9_offends, 2, some (.int))
theorem mX9_offends : MK zX9_offends 1 := ⟨gt_of 793 (by decide +kernel) rfl, gt_of 73 (by decide +kernel) rfl, by decide +kernel, by decide⟩
abbrev zX9_priceDay : Mt := (yX9_priceDay, cX9_priceDay, 4, none)
theorem mX9_priceDay : MK zX9_priceDay 2 := ⟨gt_of 926 (by decide +kernel) rfl, gt_of 73 (by decide +kernel) rfl, by decide +kernel, by decide⟩
abbrev zX9_priceMoves : Mt := (yX9_priceMoves, cX9_priceMoves, 3, none)
theorem mX9_priceMoves : MK zX9_priceMoves 1 := ⟨gt_of 912 (by decide +kernel) rfl, gt_of 73 (by decide +kernel) rfl, by decide +kernel, by decide⟩
abbrev zX9_priceNothing : Mt := (yX9_priceNothing, cX9_priceNothing, 3, none)
theorem mX9_priceNothing : MK zX9_priceNothing 1 := ⟨gt_of 898 (by decide +kernel) rfl, gt_of 73 (by decide +kernel) rfl, by decide +kernel, by decide⟩
abbrev zX9_stands : Mt := (yX9_stands, cX9_stands, 2, some (.boolean))
theorem mX9_stands : MK zX9_stands 1 := ⟨gt_of 676 (by decide +kernel) rfl, gt_of 73 (by decide +kernel) rfl, by decide +kernel, by decide⟩
abbrev zX9_take : Mt := (yX9_take, cX9_take, 2, none)
theorem mX9_take : MK zX9_take 1 := ⟨gt_of 1092 (by decide +kernel) rfl, gt_of 73 (by decide +kernel) rfl, by decide +kernel, by decide⟩
theorem fk_9_37 : ∀ {ci : Nat}, isTh ci → FK RX9 37 ci 0 := by
  intro ci h
  rcases h with rfl | rfl | rfl | rfl | rfl | rfl
  · exact ⟨by decide, by decide, "PutOut$Thing", gt_of 115 (by decide +kernel) rfl, Or.inl rfl⟩
  · exact ⟨by decide, by decide, "PutOut$Thing", gt_of 115 (by decide +kernel) rfl, Or.inl rfl⟩
  · exact ⟨by decide, by decide, "PutOut$Thing", gt_of 115 (by decide +kernel) rfl, Or.inl rfl⟩
  · exact ⟨by decide, by decide, "PutOut$Thing", gt_of 115 (by decide +kernel) rfl, Or.inl rfl⟩
  · exact ⟨by decide, by decide, "PutOut$Thing", gt_of 115 (by decide +kernel) rfl, Or.inl rfl⟩
  · exact ⟨by decide, by decide, "PutOut$Thing", gt_of 115 (by decide +kernel) rfl, Or.inl rfl⟩
theorem fk_11_130 : ∀ {ci : Nat}, isTh ci → FK RX11 130 ci 0 := by
  intro ci h
  rcases h with rfl | rfl | rfl | rfl | rfl | rfl
  · exact ⟨by decide, by decide, "PutOut$Thing", gt_of 116 (by decide +kernel) rfl, Or.inl rfl⟩
  · exact ⟨by decide, by decide, "PutOut$Thing", gt_of 116 (by decide +kernel) rfl, Or.inl rfl⟩
  · exact ⟨by decide, by decide, "PutOut$Thing", gt_of 116 (by decide +kernel) rfl, Or.inl rfl⟩
  · exact ⟨by decide, by decide, "PutOut$Thing", gt_of 116 (by decide +kernel) rfl, Or.inl rfl⟩
  · exact ⟨by decide, by decide, "PutOut$Thing", gt_of 116 (by decide +kernel) rfl, Or.inl rfl⟩
  · exact ⟨by decide, by decide, "PutOut$Thing", gt_of 116 (by decide +kernel) rfl, Or.inl rfl⟩
theorem fk_9_40 : ∀ {ci : Nat}, isTh ci → FK RX9 40 ci 1 := by
  intro ci h
  rcases h with rfl | rfl | rfl | rfl | rfl | rfl
  · exact ⟨by decide, by decide, "PutOut$Thing", gt_of 117 (by decide +kernel) rfl, Or.inl rfl⟩
  · exact ⟨by decide, by decide, "PutOut$Thing", gt_of 117 (by decide +kernel) rfl, Or.inl rfl⟩
  · exact ⟨by decide, by decide, "PutOut$Thing", gt_of 117 (by decide +kernel) rfl, Or.inl rfl⟩
  · exact ⟨by decide, by decide, "PutOut$Thing", gt_of 117 (by decide +kernel) rfl, Or.inl rfl⟩
  · exact ⟨by decide, by decide, "PutOut$Thing", gt_of 117 (by decide +kernel) rfl, Or.inl rfl⟩
  · exact ⟨by decide, by decide, "PutOut$Thing", gt_of 117 (by decide +kernel) rfl, Or.inl rfl⟩
theorem fk_8_56 : ∀ {ci : Nat}, isTh ci → FK RX8 56 ci 1 := by
  intro ci h
  rcases h with rfl | rfl | rfl | rfl | rfl | rfl
  · exact ⟨by decide, by decide, "PutOut$Thing", gt_of 118 (by decide +kernel) rfl, Or.inl rfl⟩
  · exact ⟨by decide, by decide, "PutOut$Thing", gt_of 118 (by decide +kernel) rfl, Or.inl rfl⟩
  · exact ⟨by decide, by decide, "PutOut$Thing", gt_of 118 (by decide +kernel) rfl, Or.inl rfl⟩
  · exact ⟨by decide, by decide, "PutOut$Thing", gt_of 118 (by decide +kernel) rfl, Or.inl rfl⟩
  · exact ⟨by decide, by decide, "PutOut$Thing", gt_of 118 (by decide +kernel) rfl, Or.inl rfl⟩
  · exact ⟨by decide, by decide, "PutOut$Thing", gt_of 118 (by decide +kernel) rfl, Or.inl rfl⟩
theorem fk_9_43 : ∀ {ci : Nat}, isTh ci → FK RX9 43 ci 2 := by
  intro ci h
  rcases h with rfl | rfl | rfl | rfl | rfl | rfl
  · exact ⟨by decide, by decide, "PutOut$Thing", gt_of 119 (by decide +kernel) rfl, Or.inl rfl⟩
  · exact ⟨by decide, by decide, "PutOut$Thing", gt_of 119 (by decide +kernel) rfl, Or.inl rfl⟩
  · exact ⟨by decide, by decide, "PutOut$Thing", gt_of 119 (by decide +kernel) rfl, Or.inl rfl⟩
  · exact ⟨by decide, by decide, "PutOut$Thing", gt_of 119 (by decide +kernel) rfl, Or.inl rfl⟩
  · exact ⟨by decide, by decide, "PutOut$Thing", gt_of 119 (by decide +kernel) rfl, Or.inl rfl⟩
  · exact ⟨by decide, by decide, "PutOut$Thing", gt_of 119 (by decide +kernel) rfl, Or.inl rfl⟩
theorem fk_10_11 : ∀ {ci : Nat}, isTh ci → FK RX10 11 ci 2 := by
  intro ci h
  rcases h with rfl | rfl | rfl | rfl | rfl | rfl
  · exact ⟨by decide, by decide, "PutOut$Vase", gt_of 120 (by decide +kernel) rfl, Or.inr (gt_of 121 (by decide +kernel) rfl)⟩
  · exact ⟨by decide, by decide, "PutOut$Vase", gt_of 120 (by decide +kernel) rfl, Or.inr (gt_of 121 (by decide +kernel) rfl)⟩
  · exact ⟨by decide, by decide, "PutOut$Vase", gt_of 120 (by decide +kernel) rfl, Or.inr (gt_of 121 (by decide +kernel) rfl)⟩
  · exact ⟨by decide, by decide, "PutOut$Vase", gt_of 120 (by decide +kernel) rfl, Or.inr (gt_of 121 (by decide +kernel) rfl)⟩
  · exact ⟨by decide, by decide, "PutOut$Vase", gt_of 120 (by decide +kernel) rfl, Or.inr (gt_of 121 (by decide +kernel) rfl)⟩
  · exact ⟨by decide, by decide, "PutOut$Vase", gt_of 120 (by decide +kernel) rfl, Or.inr (gt_of 121 (by decide +kernel) rfl)⟩
theorem fk_1_11 : ∀ {ci : Nat}, isTh ci → FK RX1 11 ci 2 := by
  intro ci h
  rcases h with rfl | rfl | rfl | rfl | rfl | rfl
  · exact ⟨by decide, by decide, "PutOut$Clock", gt_of 122 (by decide +kernel) rfl, Or.inr (gt_of 123 (by decide +kernel) rfl)⟩
  · exact ⟨by decide, by decide, "PutOut$Clock", gt_of 122 (by decide +kernel) rfl, Or.inr (gt_of 123 (by decide +kernel) rfl)⟩
  · exact ⟨by decide, by decide, "PutOut$Clock", gt_of 122 (by decide +kernel) rfl, Or.inr (gt_of 123 (by decide +kernel) rfl)⟩
  · exact ⟨by decide, by decide, "PutOut$Clock", gt_of 122 (by decide +kernel) rfl, Or.inr (gt_of 123 (by decide +kernel) rfl)⟩
  · exact ⟨by decide, by decide, "PutOut$Clock", gt_of 122 (by decide +kernel) rfl, Or.inr (gt_of 123 (by decide +kernel) rfl)⟩
  · exact ⟨by decide, by decide, "PutOut$Clock", gt_of 122 (by decide +kernel) rfl, Or.inr (gt_of 123 (by decide +kernel) rfl)⟩
theorem fk_8_67 : ∀ {ci : Nat}, isTh ci → FK RX8 67 ci 2 := by
  intro ci h
  rcases h with rfl | rfl | rfl | rfl | rfl | rfl
  · exact ⟨by decide, by decide, "PutOut$Thing", gt_of 124 (by decide +kernel) rfl, Or.inl rfl⟩
  · exact ⟨by decide, by decide, "PutOut$Thing", gt_of 124 (by decide +kernel) rfl, Or.inl rfl⟩
  · exact ⟨by decide, by decide, "PutOut$Thing", gt_of 124 (by decide +kernel) rfl, Or.inl rfl⟩
  · exact ⟨by decide, by decide, "PutOut$Thing", gt_of 124 (by decide +kernel) rfl, Or.inl rfl⟩
  · exact ⟨by decide, by decide, "PutOut$Thing", gt_of 124 (by decide +kernel) rfl, Or.inl rfl⟩
  · exact ⟨by decide, by decide, "PutOut$Thing", gt_of 124 (by decide +kernel) rfl, Or.inl rfl⟩
theorem fk_11_133 : ∀ {ci : Nat}, isTh ci → FK RX11 133 ci 2 := by
  intro ci h
  rcases h with rfl | rfl | rfl | rfl | rfl | rfl
  · exact ⟨by decide, by decide, "PutOut$Thing", gt_of 125 (by decide +kernel) rfl, Or.inl rfl⟩
  · exact ⟨by decide, by decide, "PutOut$Thing", gt_of 125 (by decide +kernel) rfl, Or.inl rfl⟩
  · exact ⟨by decide, by decide, "PutOut$Thing", gt_of 125 (by decide +kernel) rfl, Or.inl rfl⟩
  · exact ⟨by decide, by decide, "PutOut$Thing", gt_of 125 (by decide +kernel) rfl, Or.inl rfl⟩
  · exact ⟨by decide, by decide, "PutOut$Thing", gt_of 125 (by decide +kernel) rfl, Or.inl rfl⟩
  · exact ⟨by decide, by decide, "PutOut$Thing", gt_of 125 (by decide +kernel) rfl, Or.inl rfl⟩
theorem fk_9_49 : ∀ {ci : Nat}, isTh ci → FK RX9 49 ci 3 := by
  intro ci h
  rcases h with rfl | rfl | rfl | rfl | rfl | rfl
  · exact ⟨by decide, by decide, "PutOut$Thing", gt_of 126 (by decide +kernel) rfl, Or.inl rfl⟩
  · exact ⟨by decide, by decide, "PutOut$Thing", gt_of 126 (by decide +kernel) rfl, Or.inl rfl⟩
  · exact ⟨by decide, by decide, "PutOut$Thing", gt_of 126 (by decide +kernel) rfl, Or.inl rfl⟩
  · exact ⟨by decide, by decide, "PutOut$Thing", gt_of 126 (by decide +kernel) rfl, Or.inl rfl⟩
  · exact ⟨by decide, by decide, "PutOut$Thing", gt_of 126 (by decide +kernel) rfl, Or.inl rfl⟩
  · exact ⟨by decide, by decide, "PutOut$Thing", gt_of 126 (by decide +kernel) rfl, Or.inl rfl⟩
theorem fk_5_15 : ∀ {ci : Nat}, isTh ci → FK RX5 15 ci 3 := by
  intro ci h
  rcases h with rfl | rfl | rfl | rfl | rfl | rfl
  · exact ⟨by decide, by decide, "PutOut$Portrait", gt_of 127 (by decide +kernel) rfl, Or.inr (gt_of 128 (by decide +kernel) rfl)⟩
  · exact ⟨by decide, by decide, "PutOut$Portrait", gt_of 127 (by decide +kernel) rfl, Or.inr (gt_of 128 (by decide +kernel) rfl)⟩
  · exact ⟨by decide, by decide, "PutOut$Portrait", gt_of 127 (by decide +kernel) rfl, Or.inr (gt_of 128 (by decide +kernel) rfl)⟩
  · exact ⟨by decide, by decide, "PutOut$Portrait", gt_of 127 (by decide +kernel) rfl, Or.inr (gt_of 128 (by decide +kernel) rfl)⟩
  · exact ⟨by decide, by decide, "PutOut$Portrait", gt_of 127 (by decide +kernel) rfl, Or.inr (gt_of 128 (by decide +kernel) rfl)⟩
  · exact ⟨by decide, by decide, "PutOut$Portrait", gt_of 127 (by decide +kernel) rfl, Or.inr (gt_of 128 (by decide +kernel) rfl)⟩
theorem fk_8_61 : ∀ {ci : Nat}, isTh ci → FK RX8 61 ci 3 := by
  intro ci h
  rcases h with rfl | rfl | rfl | rfl | rfl | rfl
  · exact ⟨by decide, by decide, "PutOut$Thing", gt_of 129 (by decide +kernel) rfl, Or.inl rfl⟩
  · exact ⟨by decide, by decide, "PutOut$Thing", gt_of 129 (by decide +kernel) rfl, Or.inl rfl⟩
  · exact ⟨by decide, by decide, "PutOut$Thing", gt_of 129 (by decide +kernel) rfl, Or.inl rfl⟩
  · exact ⟨by decide, by decide, "PutOut$Thing", gt_of 129 (by decide +kernel) rfl, Or.inl rfl⟩
  · exact ⟨by decide, by decide, "PutOut$Thing", gt_of 129 (by decide +kernel) rfl, Or.inl rfl⟩
  · exact ⟨by decide, by decide, "PutOut$Thing", gt_of 129 (by decide +kernel) rfl, Or.inl rfl⟩
theorem fk_11_136 : ∀ {ci : Nat}, isTh ci → FK RX11 136 ci 3 := by
  intro ci h
  rcases h with rfl | rfl | rfl | rfl | rfl | rfl
  · exact ⟨by decide, by decide, "PutOut$Thing", gt_of 130 (by decide +kernel) rfl, Or.inl rfl⟩
  · exact ⟨by decide, by decide, "PutOut$Thing", gt_of 130 (by decide +kernel) rfl, Or.inl rfl⟩
  · exact ⟨by decide, by decide, "PutOut$Thing", gt_of 130 (by decide +kernel) rfl, Or.inl rfl⟩
  · exact ⟨by decide, by decide, "PutOut$Thing", gt_of 130 (by decide +kernel) rfl, Or.inl rfl⟩
  · exact ⟨by decide, by decide, "PutOut$Thing", gt_of 130 (by decide +kernel) rfl, Or.inl rfl⟩
  · exact ⟨by decide, by decide, "PutOut$Thing", gt_of 130 (by decide +kernel) rfl, Or.inl rfl⟩
theorem fk_4_110 : ∀ {ci : Nat}, isTh ci → FK RX4 110 ci 3 := by
  intro ci h
  rcases h with rfl | rfl | rfl | rfl | rfl | rfl
  · exact ⟨by decide, by decide, "PutOut$Thing", gt_of 131 (by decide +kernel) rfl, Or.inl rfl⟩
  · exact ⟨by decide, by decide, "PutOut$Thing", gt_of 131 (by decide +kernel) rfl, Or.inl rfl⟩
  · exact ⟨by decide, by decide, "PutOut$Thing", gt_of 131 (by decide +kernel) rfl, Or.inl rfl⟩
  · exact ⟨by decide, by decide, "PutOut$Thing", gt_of 131 (by decide +kernel) rfl, Or.inl rfl⟩
  · exact ⟨by decide, by decide, "PutOut$Thing", gt_of 131 (by decide +kernel) rfl, Or.inl rfl⟩
  · exact ⟨by decide, by decide, "PutOut$Thing", gt_of 131 (by decide +kernel) rfl, Or.inl rfl⟩
theorem fk_9_46 : ∀ {ci : Nat}, isTh ci → FK RX9 46 ci 4 := by
  intro ci h
  rcases h with rfl | rfl | rfl | rfl | rfl | rfl
  · exact ⟨by decide, by decide, "PutOut$Thing", gt_of 132 (by decide +kernel) rfl, Or.inl rfl⟩
  · exact ⟨by decide, by decide, "PutOut$Thing", gt_of 132 (by decide +kernel) rfl, Or.inl rfl⟩
  · exact ⟨by decide, by decide, "PutOut$Thing", gt_of 132 (by decide +kernel) rfl, Or.inl rfl⟩
  · exact ⟨by decide, by decide, "PutOut$Thing", gt_of 132 (by decide +kernel) rfl, Or.inl rfl⟩
  · exact ⟨by decide, by decide, "PutOut$Thing", gt_of 132 (by decide +kernel) rfl, Or.inl rfl⟩
  · exact ⟨by decide, by decide, "PutOut$Thing", gt_of 132 (by decide +kernel) rfl, Or.inl rfl⟩
theorem fk_8_64 : ∀ {ci : Nat}, isTh ci → FK RX8 64 ci 4 := by
  intro ci h
  rcases h with rfl | rfl | rfl | rfl | rfl | rfl
  · exact ⟨by decide, by decide, "PutOut$Thing", gt_of 133 (by decide +kernel) rfl, Or.inl rfl⟩
  · exact ⟨by decide, by decide, "PutOut$Thing", gt_of 133 (by decide +kernel) rfl, Or.inl rfl⟩
  · exact ⟨by decide, by decide, "PutOut$Thing", gt_of 133 (by decide +kernel) rfl, Or.inl rfl⟩
  · exact ⟨by decide, by decide, "PutOut$Thing", gt_of 133 (by decide +kernel) rfl, Or.inl rfl⟩
  · exact ⟨by decide, by decide, "PutOut$Thing", gt_of 133 (by decide +kernel) rfl, Or.inl rfl⟩
  · exact ⟨by decide, by decide, "PutOut$Thing", gt_of 133 (by decide +kernel) rfl, Or.inl rfl⟩
theorem fk_11_139 : ∀ {ci : Nat}, isTh ci → FK RX11 139 ci 4 := by
  intro ci h
  rcases h with rfl | rfl | rfl | rfl | rfl | rfl
  · exact ⟨by decide, by decide, "PutOut$Thing", gt_of 134 (by decide +kernel) rfl, Or.inl rfl⟩
  · exact ⟨by decide, by decide, "PutOut$Thing", gt_of 134 (by decide +kernel) rfl, Or.inl rfl⟩
  · exact ⟨by decide, by decide, "PutOut$Thing", gt_of 134 (by decide +kernel) rfl, Or.inl rfl⟩
  · exact ⟨by decide, by decide, "PutOut$Thing", gt_of 134 (by decide +kernel) rfl, Or.inl rfl⟩
  · exact ⟨by decide, by decide, "PutOut$Thing", gt_of 134 (by decide +kernel) rfl, Or.inl rfl⟩
  · exact ⟨by decide, by decide, "PutOut$Thing", gt_of 134 (by decide +kernel) rfl, Or.inl rfl⟩
theorem fk_9_9 : ∀ {ci : Nat}, isTh ci → FK RX9 9 ci 5 := by
  intro ci h
  rcases h with rfl | rfl | rfl | rfl | rfl | rfl
  · exact ⟨by decide, by decide, "PutOut$Thing", gt_of 135 (by decide +kernel) rfl, Or.inl rfl⟩
  · exact ⟨by decide, by decide, "PutOut$Thing", gt_of 135 (by decide +kernel) rfl, Or.inl rfl⟩
  · exact ⟨by decide, by decide, "PutOut$Thing", gt_of 135 (by decide +kernel) rfl, Or.inl rfl⟩
  · exact ⟨by decide, by decide, "PutOut$Thing", gt_of 135 (by decide +kernel) rfl, Or.inl rfl⟩
  · exact ⟨by decide, by decide, "PutOut$Thing", gt_of 135 (by decide +kernel) rfl, Or.inl rfl⟩
  · exact ⟨by decide, by decide, "PutOut$Thing", gt_of 135 (by decide +kernel) rfl, Or.inl rfl⟩
theorem fk_2_47 : ∀ {ci : Nat}, isTh ci → FK RX2 47 ci 5 := by
  intro ci h
  rcases h with rfl | rfl | rfl | rfl | rfl | rfl
  · exact ⟨by decide, by decide, "PutOut$Thing", gt_of 136 (by decide +kernel) rfl, Or.inl rfl⟩
  · exact ⟨by decide, by decide, "PutOut$Thing", gt_of 136 (by decide +kernel) rfl, Or.inl rfl⟩
  · exact ⟨by decide, by decide, "PutOut$Thing", gt_of 136 (by decide +kernel) rfl, Or.inl rfl⟩
  · exact ⟨by decide, by decide, "PutOut$Thing", gt_of 136 (by decide +kernel) rfl, Or.inl rfl⟩
  · exact ⟨by decide, by decide, "PutOut$Thing", gt_of 136 (by decide +kernel) rfl, Or.inl rfl⟩
  · exact ⟨by decide, by decide, "PutOut$Thing", gt_of 136 (by decide +kernel) rfl, Or.inl rfl⟩
theorem fk_11_114 : ∀ {ci : Nat}, isTh ci → FK RX11 114 ci 5 := by
  intro ci h
  rcases h with rfl | rfl | rfl | rfl | rfl | rfl
  · exact ⟨by decide, by decide, "PutOut$Thing", gt_of 137 (by decide +kernel) rfl, Or.inl rfl⟩
  · exact ⟨by decide, by decide, "PutOut$Thing", gt_of 137 (by decide +kernel) rfl, Or.inl rfl⟩
  · exact ⟨by decide, by decide, "PutOut$Thing", gt_of 137 (by decide +kernel) rfl, Or.inl rfl⟩
  · exact ⟨by decide, by decide, "PutOut$Thing", gt_of 137 (by decide +kernel) rfl, Or.inl rfl⟩
  · exact ⟨by decide, by decide, "PutOut$Thing", gt_of 137 (by decide +kernel) rfl, Or.inl rfl⟩
  · exact ⟨by decide, by decide, "PutOut$Thing", gt_of 137 (by decide +kernel) rfl, Or.inl rfl⟩
theorem fk_4_81 : ∀ {ci : Nat}, isTh ci → FK RX4 81 ci 5 := by
  intro ci h
  rcases h with rfl | rfl | rfl | rfl | rfl | rfl
  · exact ⟨by decide, by decide, "PutOut$Thing", gt_of 138 (by decide +kernel) rfl, Or.inl rfl⟩
  · exact ⟨by decide, by decide, "PutOut$Thing", gt_of 138 (by decide +kernel) rfl, Or.inl rfl⟩
  · exact ⟨by decide, by decide, "PutOut$Thing", gt_of 138 (by decide +kernel) rfl, Or.inl rfl⟩
  · exact ⟨by decide, by decide, "PutOut$Thing", gt_of 138 (by decide +kernel) rfl, Or.inl rfl⟩
  · exact ⟨by decide, by decide, "PutOut$Thing", gt_of 138 (by decide +kernel) rfl, Or.inl rfl⟩
  · exact ⟨by decide, by decide, "PutOut$Thing", gt_of 138 (by decide +kernel) rfl, Or.inl rfl⟩
theorem fk_9_15 : ∀ {ci : Nat}, isTh ci → FK RX9 15 ci 6 := by
  intro ci h
  rcases h with rfl | rfl | rfl | rfl | rfl | rfl
  · exact ⟨by decide, by decide, "PutOut$Thing", gt_of 139 (by decide +kernel) rfl, Or.inl rfl⟩
  · exact ⟨by decide, by decide, "PutOut$Thing", gt_of 139 (by decide +kernel) rfl, Or.inl rfl⟩
  · exact ⟨by decide, by decide, "PutOut$Thing", gt_of 139 (by decide +kernel) rfl, Or.inl rfl⟩
  · exact ⟨by decide, by decide, "PutOut$Thing", gt_of 139 (by decide +kernel) rfl, Or.inl rfl⟩
  · exact ⟨by decide, by decide, "PutOut$Thing", gt_of 139 (by decide +kernel) rfl, Or.inl rfl⟩
  · exact ⟨by decide, by decide, "PutOut$Thing", gt_of 139 (by decide +kernel) rfl, Or.inl rfl⟩
theorem fk_9_19 : ∀ {ci : Nat}, isTh ci → FK RX9 19 ci 7 := by
  intro ci h
  rcases h with rfl | rfl | rfl | rfl | rfl | rfl
  · exact ⟨by decide, by decide, "PutOut$Thing", gt_of 140 (by decide +kernel) rfl, Or.inl rfl⟩
  · exact ⟨by decide, by decide, "PutOut$Thing", gt_of 140 (by decide +kernel) rfl, Or.inl rfl⟩
  · exact ⟨by decide, by decide, "PutOut$Thing", gt_of 140 (by decide +kernel) rfl, Or.inl rfl⟩
  · exact ⟨by decide, by decide, "PutOut$Thing", gt_of 140 (by decide +kernel) rfl, Or.inl rfl⟩
  · exact ⟨by decide, by decide, "PutOut$Thing", gt_of 140 (by decide +kernel) rfl, Or.inl rfl⟩
  · exact ⟨by decide, by decide, "PutOut$Thing", gt_of 140 (by decide +kernel) rfl, Or.inl rfl⟩
theorem fk_9_22 : ∀ {ci : Nat}, isTh ci → FK RX9 22 ci 8 := by
  intro ci h
  rcases h with rfl | rfl | rfl | rfl | rfl | rfl
  · exact ⟨by decide, by decide, "PutOut$Thing", gt_of 141 (by decide +kernel) rfl, Or.inl rfl⟩
  · exact ⟨by decide, by decide, "PutOut$Thing", gt_of 141 (by decide +kernel) rfl, Or.inl rfl⟩
  · exact ⟨by decide, by decide, "PutOut$Thing", gt_of 141 (by decide +kernel) rfl, Or.inl rfl⟩
  · exact ⟨by decide, by decide, "PutOut$Thing", gt_of 141 (by decide +kernel) rfl, Or.inl rfl⟩
  · exact ⟨by decide, by decide, "PutOut$Thing", gt_of 141 (by decide +kernel) rfl, Or.inl rfl⟩
  · exact ⟨by decide, by decide, "PutOut$Thing", gt_of 141 (by decide +kernel) rfl, Or.inl rfl⟩
theorem fk_9_25 : ∀ {ci : Nat}, isTh ci → FK RX9 25 ci 9 := by
  intro ci h
  rcases h with rfl | rfl | rfl | rfl | rfl | rfl
  · exact ⟨by decide, by decide, "PutOut$Thing", gt_of 142 (by decide +kernel) rfl, Or.inl rfl⟩
  · exact ⟨by decide, by decide, "PutOut$Thing", gt_of 142 (by decide +kernel) rfl, Or.inl rfl⟩
  · exact ⟨by decide, by decide, "PutOut$Thing", gt_of 142 (by decide +kernel) rfl, Or.inl rfl⟩
  · exact ⟨by decide, by decide, "PutOut$Thing", gt_of 142 (by decide +kernel) rfl, Or.inl rfl⟩
  · exact ⟨by decide, by decide, "PutOut$Thing", gt_of 142 (by decide +kernel) rfl, Or.inl rfl⟩
  · exact ⟨by decide, by decide, "PutOut$Thing", gt_of 142 (by decide +kernel) rfl, Or.inl rfl⟩
theorem fk_9_28 : ∀ {ci : Nat}, isTh ci → FK RX9 28 ci 10 := by
  intro ci h
  rcases h with rfl | rfl | rfl | rfl | rfl | rfl
  · exact ⟨by decide, by decide, "PutOut$Thing", gt_of 143 (by decide +kernel) rfl, Or.inl rfl⟩
  · exact ⟨by decide, by decide, "PutOut$Thing", gt_of 143 (by decide +kernel) rfl, Or.inl rfl⟩
  · exact ⟨by decide, by decide, "PutOut$Thing", gt_of 143 (by decide +kernel) rfl, Or.inl rfl⟩
  · exact ⟨by decide, by decide, "PutOut$Thing", gt_of 143 (by decide +kernel) rfl, Or.inl rfl⟩
  · exact ⟨by decide, by decide, "PutOut$Thing", gt_of 143 (by decide +kernel) rfl, Or.inl rfl⟩
  · exact ⟨by decide, by decide, "PutOut$Thing", gt_of 143 (by decide +kernel) rfl, Or.inl rfl⟩
theorem fk_9_31 : ∀ {ci : Nat}, isTh ci → FK RX9 31 ci 11 := by
  intro ci h
  rcases h with rfl | rfl | rfl | rfl | rfl | rfl
  · exact ⟨by decide, by decide, "PutOut$Thing", gt_of 144 (by decide +kernel) rfl, Or.inl rfl⟩
  · exact ⟨by decide, by decide, "PutOut$Thing", gt_of 144 (by decide +kernel) rfl, Or.inl rfl⟩
  · exact ⟨by decide, by decide, "PutOut$Thing", gt_of 144 (by decide +kernel) rfl, Or.inl rfl⟩
  · exact ⟨by decide, by decide, "PutOut$Thing", gt_of 144 (by decide +kernel) rfl, Or.inl rfl⟩
  · exact ⟨by decide, by decide, "PutOut$Thing", gt_of 144 (by decide +kernel) rfl, Or.inl rfl⟩
  · exact ⟨by decide, by decide, "PutOut$Thing", gt_of 144 (by decide +kernel) rfl, Or.inl rfl⟩
theorem fk_9_34 : ∀ {ci : Nat}, isTh ci → FK RX9 34 ci 12 := by
  intro ci h
  rcases h with rfl | rfl | rfl | rfl | rfl | rfl
  · exact ⟨by decide, by decide, "PutOut$Thing", gt_of 145 (by decide +kernel) rfl, Or.inl rfl⟩
  · exact ⟨by decide, by decide, "PutOut$Thing", gt_of 145 (by decide +kernel) rfl, Or.inl rfl⟩
  · exact ⟨by decide, by decide, "PutOut$Thing", gt_of 145 (by decide +kernel) rfl, Or.inl rfl⟩
  · exact ⟨by decide, by decide, "PutOut$Thing", gt_of 145 (by decide +kernel) rfl, Or.inl rfl⟩
  · exact ⟨by decide, by decide, "PutOut$Thing", gt_of 145 (by decide +kernel) rfl, Or.inl rfl⟩
  · exact ⟨by decide, by decide, "PutOut$Thing", gt_of 145 (by decide +kernel) rfl, Or.inl rfl⟩
theorem fk_4_177 : ∀ {ci : Nat}, isTh ci → FK RX4 177 ci 12 := by
  intro ci h
  rcases h with rfl | rfl | rfl | rfl | rfl | rfl
  · exact ⟨by decide, by decide, "PutOut$Thing", gt_of 146 (by decide +kernel) rfl, Or.inl rfl⟩
  · exact ⟨by decide, by decide, "PutOut$Thing", gt_of 146 (by decide +kernel) rfl, Or.inl rfl⟩
  · exact ⟨by decide, by decide, "PutOut$Thing", gt_of 146 (by decide +kernel) rfl, Or.inl rfl⟩
  · exact ⟨by decide, by decide, "PutOut$Thing", gt_of 146 (by decide +kernel) rfl, Or.inl rfl⟩
  · exact ⟨by decide, by decide, "PutOut$Thing", gt_of 146 (by decide +kernel) rfl, Or.inl rfl⟩
  · exact ⟨by decide, by decide, "PutOut$Thing", gt_of 146 (by decide +kernel) rfl, Or.inl rfl⟩
theorem fk_2_9 : FK RX2 9 2 0 := ⟨by decide, by decide, "PutOut$House", gt_of 175 (by decide +kernel) rfl, Or.inl rfl⟩
theorem fk_4_58 : FK RX4 58 2 0 := ⟨by decide, by decide, "PutOut$House", gt_of 176 (by decide +kernel) rfl, Or.inl rfl⟩
theorem fk_11_77 : FK RX11 77 2 0 := ⟨by decide, by decide, "PutOut$House", gt_of 177 (by decide +kernel) rfl, Or.inl rfl⟩
theorem fk_2_15 : FK RX2 15 2 1 := ⟨by decide, by decide, "PutOut$House", gt_of 178 (by decide +kernel) rfl, Or.inl rfl⟩
theorem fk_4_65 : FK RX4 65 2 1 := ⟨by decide, by decide, "PutOut$House", gt_of 179 (by decide +kernel) rfl, Or.inl rfl⟩
theorem fk_11_84 : FK RX11 84 2 1 := ⟨by decide, by decide, "PutOut$House", gt_of 180 (by decide +kernel) rfl, Or.inl rfl⟩
theorem fk_2_18 : FK RX2 18 2 2 := ⟨by decide, by decide, "PutOut$House", gt_of 181 (by decide +kernel) rfl, Or.inl rfl⟩
theorem fk_4_66 : FK RX4 66 2 2 := ⟨by decide, by decide, "PutOut$House", gt_of 182 (by decide +kernel) rfl, Or.inl rfl⟩
theorem fk_11_87 : FK RX11 87 2 2 := ⟨by decide, by decide, "PutOut$House", gt_of 183 (by decide +kernel) rfl, Or.inl rfl⟩
theorem fk_2_23 : FK RX2 23 2 3 := ⟨by decide, by decide, "PutOut$House", gt_of 184 (by decide +kernel) rfl, Or.inl rfl⟩
theorem fk_4_54 : FK RX4 54 2 3 := ⟨by decide, by decide, "PutOut$House", gt_of 185 (by decide +kernel) rfl, Or.inl rfl⟩
theorem fk_11_94 : FK RX11 94 2 3 := ⟨by decide, by decide, "PutOut$House", gt_of 186 (by decide +kernel) rfl, Or.inl rfl⟩
theorem fk_2_27 : FK RX2 27 2 4 := ⟨by decide, by decide, "PutOut$House", gt_of 187 (by decide +kernel) rfl, Or.inl rfl⟩
theorem fk_4_57 : FK RX4 57 2 4 := ⟨by decide, by decide, "PutOut$House", gt_of 188 (by decide +kernel) rfl, Or.inl rfl⟩
theorem fk_11_108 : FK RX11 108 2 4 := ⟨by decide, by decide, "PutOut$House", gt_of 189 (by decide +kernel) rfl, Or.inl rfl⟩
theorem fk_2_31 : FK RX2 31 2 5 := ⟨by decide, by decide, "PutOut$House", gt_of 190 (by decide +kernel) rfl, Or.inl rfl⟩
theorem fk_11_146 : FK RX11 146 2 5 := ⟨by decide, by decide, "PutOut$House", gt_of 191 (by decide +kernel) rfl, Or.inl rfl⟩
theorem fk_6_9 : FK RX6 9 6 0 := ⟨by decide, by decide, "PutOut$Reader", gt_of 211 (by decide +kernel) rfl, Or.inl rfl⟩
theorem fk_6_15 : FK RX6 15 6 1 := ⟨by decide, by decide, "PutOut$Reader", gt_of 212 (by decide +kernel) rfl, Or.inl rfl⟩
theorem fk_6_19 : FK RX6 19 6 2 := ⟨by decide, by decide, "PutOut$Reader", gt_of 213 (by decide +kernel) rfl, Or.inl rfl⟩
theorem fk_6_22 : FK RX6 22 6 3 := ⟨by decide, by decide, "PutOut$Reader", gt_of 214 (by decide +kernel) rfl, Or.inl rfl⟩
theorem fk_6_25 : FK RX6 25 6 4 := ⟨by decide, by decide, "PutOut$Reader", gt_of 215 (by decide +kernel) rfl, Or.inl rfl⟩
theorem fk_6_28 : FK RX6 28 6 5 := ⟨by decide, by decide, "PutOut$Reader", gt_of 216 (by decide +kernel) rfl, Or.inl rfl⟩
theorem fk_6_31 : FK RX6 31 6 6 := ⟨by decide, by decide, "PutOut$Reader", gt_of 217 (by decide +kernel) rfl, Or.inl rfl⟩
theorem fk_6_34 : FK RX6 34 6 7 := ⟨by decide, by decide, "PutOut$Reader", gt_of 218 (by decide +kernel) rfl, Or.inl rfl⟩
theorem fk_6_37 : FK RX6 37 6 8 := ⟨by decide, by decide, "PutOut$Reader", gt_of 219 (by decide +kernel) rfl, Or.inl rfl⟩
theorem fk_6_40 : FK RX6 40 6 9 := ⟨by decide, by decide, "PutOut$Reader", gt_of 220 (by decide +kernel) rfl, Or.inl rfl⟩
theorem fk_4_11 : FK RX4 11 4 0 := ⟨by decide, by decide, "PutOut$Planner", gt_of 255 (by decide +kernel) rfl, Or.inl rfl⟩
theorem fk_4_17 : FK RX4 17 4 1 := ⟨by decide, by decide, "PutOut$Planner", gt_of 256 (by decide +kernel) rfl, Or.inl rfl⟩
theorem fk_4_21 : FK RX4 21 4 2 := ⟨by decide, by decide, "PutOut$Planner", gt_of 257 (by decide +kernel) rfl, Or.inl rfl⟩
theorem fk_4_24 : FK RX4 24 4 3 := ⟨by decide, by decide, "PutOut$Planner", gt_of 258 (by decide +kernel) rfl, Or.inl rfl⟩
theorem fk_4_28 : FK RX4 28 4 4 := ⟨by decide, by decide, "PutOut$Planner", gt_of 259 (by decide +kernel) rfl, Or.inl rfl⟩
theorem fk_4_31 : FK RX4 31 4 5 := ⟨by decide, by decide, "PutOut$Planner", gt_of 260 (by decide +kernel) rfl, Or.inl rfl⟩
theorem fk_4_34 : FK RX4 34 4 6 := ⟨by decide, by decide, "PutOut$Planner", gt_of 261 (by decide +kernel) rfl, Or.inl rfl⟩
theorem fk_4_37 : FK RX4 37 4 7 := ⟨by decide, by decide, "PutOut$Planner", gt_of 262 (by decide +kernel) rfl, Or.inl rfl⟩
theorem fk_4_40 : FK RX4 40 4 8 := ⟨by decide, by decide, "PutOut$Planner", gt_of 263 (by decide +kernel) rfl, Or.inl rfl⟩
theorem fk_11_162 : FK RX11 162 4 8 := ⟨by decide, by decide, "PutOut$Planner", gt_of 264 (by decide +kernel) rfl, Or.inl rfl⟩
theorem fk_4_43 : FK RX4 43 4 9 := ⟨by decide, by decide, "PutOut$Planner", gt_of 265 (by decide +kernel) rfl, Or.inl rfl⟩
theorem fk_11_171 : FK RX11 171 4 9 := ⟨by decide, by decide, "PutOut$Planner", gt_of 266 (by decide +kernel) rfl, Or.inl rfl⟩
theorem fk_4_46 : FK RX4 46 4 10 := ⟨by decide, by decide, "PutOut$Planner", gt_of 267 (by decide +kernel) rfl, Or.inl rfl⟩
theorem fk_11_174 : FK RX11 174 4 10 := ⟨by decide, by decide, "PutOut$Planner", gt_of 268 (by decide +kernel) rfl, Or.inl rfl⟩
theorem fk_4_51 : FK RX4 51 4 11 := ⟨by decide, by decide, "PutOut$Planner", gt_of 269 (by decide +kernel) rfl, Or.inl rfl⟩
theorem fk_7_9 : FK RX7 9 7 0 := ⟨by decide, by decide, "PutOut$Sheet", gt_of 300 (by decide +kernel) rfl, Or.inl rfl⟩
theorem fk_11_193 : FK RX11 193 7 0 := ⟨by decide, by decide, "PutOut$Sheet", gt_of 301 (by decide +kernel) rfl, Or.inl rfl⟩
theorem fk_7_15 : FK RX7 15 7 1 := ⟨by decide, by decide, "PutOut$Sheet", gt_of 302 (by decide +kernel) rfl, Or.inl rfl⟩
theorem fk_11_196 : FK RX11 196 7 1 := ⟨by decide, by decide, "PutOut$Sheet", gt_of 303 (by decide +kernel) rfl, Or.inl rfl⟩
theorem fk_7_18 : FK RX7 18 7 2 := ⟨by decide, by decide, "PutOut$Sheet", gt_of 304 (by decide +kernel) rfl, Or.inl rfl⟩
theorem fk_11_199 : FK RX11 199 7 2 := ⟨by decide, by decide, "PutOut$Sheet", gt_of 305 (by decide +kernel) rfl, Or.inl rfl⟩
theorem fk_8_21 : FK RX8 21 8 0 := ⟨by decide, by decide, "PutOut$Text", gt_of 479 (by decide +kernel) rfl, Or.inl rfl⟩
theorem fk_8_25 : FK RX8 25 8 1 := ⟨by decide, by decide, "PutOut$Text", gt_of 480 (by decide +kernel) rfl, Or.inl rfl⟩
theorem fk_8_28 : FK RX8 28 8 2 := ⟨by decide, by decide, "PutOut$Text", gt_of 481 (by decide +kernel) rfl, Or.inl rfl⟩
theorem fk_8_9 : FK RX8 9 8 3 := ⟨by decide, by decide, "PutOut$Text", gt_of 482 (by decide +kernel) rfl, Or.inl rfl⟩
theorem fk_11_10 : FK RX11 10 11 0 := ⟨by decide, by decide, "PutOut", gt_of 493 (by decide +kernel) rfl, Or.inl rfl⟩
theorem fk_11_16 : FK RX11 16 11 1 := ⟨by decide, by decide, "PutOut", gt_of 494 (by decide +kernel) rfl, Or.inl rfl⟩
theorem fk_11_19 : FK RX11 19 11 2 := ⟨by decide, by decide, "PutOut", gt_of 495 (by decide +kernel) rfl, Or.inl rfl⟩
theorem fk_11_23 : FK RX11 23 11 3 := ⟨by decide, by decide, "PutOut", gt_of 496 (by decide +kernel) rfl, Or.inl rfl⟩
theorem fk_11_30 : FK RX11 30 11 4 := ⟨by decide, by decide, "PutOut", gt_of 497 (by decide +kernel) rfl, Or.inl rfl⟩
theorem fk_11_36 : FK RX11 36 11 5 := ⟨by decide, by decide, "PutOut", gt_of 498 (by decide +kernel) rfl, Or.inl rfl⟩
theorem fk_11_40 : FK RX11 40 11 6 := ⟨by decide, by decide, "PutOut", gt_of 499 (by decide +kernel) rfl, Or.inl rfl⟩
theorem fk_11_45 : FK RX11 45 11 7 := ⟨by decide, by decide, "PutOut", gt_of 500 (by decide +kernel) rfl, Or.inl rfl⟩
theorem fk_11_52 : FK RX11 52 11 8 := ⟨by decide, by decide, "PutOut", gt_of 501 (by decide +kernel) rfl, Or.inl rfl⟩
theorem fk_12_13 : FK RX12 13 12 1 := ⟨by decide, by decide, "PutOutModel", gt_of 1147 (by decide +kernel) rfl, Or.inl rfl⟩
theorem fk_12_17 : FK RX12 17 12 2 := ⟨by decide, by decide, "PutOutModel", gt_of 1148 (by decide +kernel) rfl, Or.inl rfl⟩
theorem fk_12_103 : FK RX12 103 12 3 := ⟨by decide, by decide, "PutOutModel", gt_of 1149 (by decide +kernel) rfl, Or.inl rfl⟩
theorem fk_12_263 : FK RX12 263 12 4 := ⟨by decide, by decide, "PutOutModel", gt_of 1150 (by decide +kernel) rfl, Or.inl rfl⟩
theorem fk_12_20 : FK RX12 20 12 5 := ⟨by decide, by decide, "PutOutModel", gt_of 1151 (by decide +kernel) rfl, Or.inl rfl⟩
theorem fk_12_145 : FK RX12 145 12 6 := ⟨by decide, by decide, "PutOutModel", gt_of 1152 (by decide +kernel) rfl, Or.inl rfl⟩
theorem fk_12_23 : FK RX12 23 12 7 := ⟨by decide, by decide, "PutOutModel", gt_of 1153 (by decide +kernel) rfl, Or.inl rfl⟩
theorem fk_12_26 : FK RX12 26 12 8 := ⟨by decide, by decide, "PutOutModel", gt_of 1154 (by decide +kernel) rfl, Or.inl rfl⟩
theorem fk_12_29 : FK RX12 29 12 9 := ⟨by decide, by decide, "PutOutModel", gt_of 1155 (by decide +kernel) rfl, Or.inl rfl⟩
theorem fk_12_32 : FK RX12 32 12 10 := ⟨by decide, by decide, "PutOutModel", gt_of 1156 (by decide +kernel) rfl, Or.inl rfl⟩
theorem fk_12_35 : FK RX12 35 12 11 := ⟨by decide, by decide, "PutOutModel", gt_of 1157 (by decide +kernel) rfl, Or.inl rfl⟩
theorem fk_12_38 : FK RX12 38 12 12 := ⟨by decide, by decide, "PutOutModel", gt_of 1158 (by decide +kernel) rfl, Or.inl rfl⟩
theorem fk_12_41 : FK RX12 41 12 13 := ⟨by decide, by decide, "PutOutModel", gt_of 1159 (by decide +kernel) rfl, Or.inl rfl⟩
theorem fk_12_44 : FK RX12 44 12 14 := ⟨by decide, by decide, "PutOutModel", gt_of 1160 (by decide +kernel) rfl, Or.inl rfl⟩
theorem fk_12_106 : FK RX12 106 12 15 := ⟨by decide, by decide, "PutOutModel", gt_of 1161 (by decide +kernel) rfl, Or.inl rfl⟩
theorem fk_12_204 : FK RX12 204 12 16 := ⟨by decide, by decide, "PutOutModel", gt_of 1162 (by decide +kernel) rfl, Or.inl rfl⟩
theorem fk_12_207 : FK RX12 207 12 17 := ⟨by decide, by decide, "PutOutModel", gt_of 1163 (by decide +kernel) rfl, Or.inl rfl⟩
theorem fk_12_210 : FK RX12 210 12 18 := ⟨by decide, by decide, "PutOutModel", gt_of 1164 (by decide +kernel) rfl, Or.inl rfl⟩
theorem fk_12_213 : FK RX12 213 12 19 := ⟨by decide, by decide, "PutOutModel", gt_of 1165 (by decide +kernel) rfl, Or.inl rfl⟩
theorem fk_12_216 : FK RX12 216 12 20 := ⟨by decide, by decide, "PutOutModel", gt_of 1166 (by decide +kernel) rfl, Or.inl rfl⟩
theorem fk_12_219 : FK RX12 219 12 21 := ⟨by decide, by decide, "PutOutModel", gt_of 1167 (by decide +kernel) rfl, Or.inl rfl⟩
theorem fk_12_151 : FK RX12 151 12 22 := ⟨by decide, by decide, "PutOutModel", gt_of 1168 (by decide +kernel) rfl, Or.inl rfl⟩
theorem fk_12_148 : FK RX12 148 12 23 := ⟨by decide, by decide, "PutOutModel", gt_of 1169 (by decide +kernel) rfl, Or.inl rfl⟩
theorem fk_12_154 : FK RX12 154 12 24 := ⟨by decide, by decide, "PutOutModel", gt_of 1170 (by decide +kernel) rfl, Or.inl rfl⟩
theorem fk_12_164 : FK RX12 164 12 25 := ⟨by decide, by decide, "PutOutModel", gt_of 1171 (by decide +kernel) rfl, Or.inl rfl⟩
theorem fk_12_161 : FK RX12 161 12 26 := ⟨by decide, by decide, "PutOutModel", gt_of 1172 (by decide +kernel) rfl, Or.inl rfl⟩
theorem fk_12_175 : FK RX12 175 12 27 := ⟨by decide, by decide, "PutOutModel", gt_of 1173 (by decide +kernel) rfl, Or.inl rfl⟩
theorem fk_12_191 : FK RX12 191 12 28 := ⟨by decide, by decide, "PutOutModel", gt_of 1174 (by decide +kernel) rfl, Or.inl rfl⟩
theorem fk_12_181 : FK RX12 181 12 29 := ⟨by decide, by decide, "PutOutModel", gt_of 1175 (by decide +kernel) rfl, Or.inl rfl⟩
theorem fk_12_185 : FK RX12 185 12 30 := ⟨by decide, by decide, "PutOutModel", gt_of 1176 (by decide +kernel) rfl, Or.inl rfl⟩
theorem fk_12_47 : FK RX12 47 12 31 := ⟨by decide, by decide, "PutOutModel", gt_of 1177 (by decide +kernel) rfl, Or.inl rfl⟩
theorem fk_12_50 : FK RX12 50 12 32 := ⟨by decide, by decide, "PutOutModel", gt_of 1178 (by decide +kernel) rfl, Or.inl rfl⟩
theorem fk_12_53 : FK RX12 53 12 33 := ⟨by decide, by decide, "PutOutModel", gt_of 1179 (by decide +kernel) rfl, Or.inl rfl⟩
theorem fk_12_56 : FK RX12 56 12 34 := ⟨by decide, by decide, "PutOutModel", gt_of 1180 (by decide +kernel) rfl, Or.inl rfl⟩
theorem fk_12_59 : FK RX12 59 12 35 := ⟨by decide, by decide, "PutOutModel", gt_of 1181 (by decide +kernel) rfl, Or.inl rfl⟩
theorem fk_12_62 : FK RX12 62 12 36 := ⟨by decide, by decide, "PutOutModel", gt_of 1182 (by decide +kernel) rfl, Or.inl rfl⟩
theorem fk_12_65 : FK RX12 65 12 37 := ⟨by decide, by decide, "PutOutModel", gt_of 1183 (by decide +kernel) rfl, Or.inl rfl⟩
theorem fk_12_288 : FK RX12 288 12 38 := ⟨by decide, by decide, "PutOutModel", gt_of 1184 (by decide +kernel) rfl, Or.inl rfl⟩
theorem fk_12_282 : FK RX12 282 12 39 := ⟨by decide, by decide, "PutOutModel", gt_of 1185 (by decide +kernel) rfl, Or.inl rfl⟩
theorem fk_12_295 : FK RX12 295 12 40 := ⟨by decide, by decide, "PutOutModel", gt_of 1186 (by decide +kernel) rfl, Or.inl rfl⟩
theorem fk_12_68 : FK RX12 68 12 41 := ⟨by decide, by decide, "PutOutModel", gt_of 1187 (by decide +kernel) rfl, Or.inl rfl⟩
theorem fk_12_298 : FK RX12 298 12 42 := ⟨by decide, by decide, "PutOutModel", gt_of 1188 (by decide +kernel) rfl, Or.inl rfl⟩
theorem fk_12_330 : FK RX12 330 12 43 := ⟨by decide, by decide, "PutOutModel", gt_of 1189 (by decide +kernel) rfl, Or.inl rfl⟩
theorem fk_12_333 : FK RX12 333 12 44 := ⟨by decide, by decide, "PutOutModel", gt_of 1190 (by decide +kernel) rfl, Or.inl rfl⟩
theorem fk_12_336 : FK RX12 336 12 45 := ⟨by decide, by decide, "PutOutModel", gt_of 1191 (by decide +kernel) rfl, Or.inl rfl⟩
theorem fk_12_71 : FK RX12 71 12 46 := ⟨by decide, by decide, "PutOutModel", gt_of 1192 (by decide +kernel) rfl, Or.inl rfl⟩
theorem fk_12_74 : FK RX12 74 12 47 := ⟨by decide, by decide, "PutOutModel", gt_of 1193 (by decide +kernel) rfl, Or.inl rfl⟩
theorem fk_12_77 : FK RX12 77 12 48 := ⟨by decide, by decide, "PutOutModel", gt_of 1194 (by decide +kernel) rfl, Or.inl rfl⟩
theorem fk_12_80 : FK RX12 80 12 49 := ⟨by decide, by decide, "PutOutModel", gt_of 1195 (by decide +kernel) rfl, Or.inl rfl⟩
theorem fk_12_83 : FK RX12 83 12 50 := ⟨by decide, by decide, "PutOutModel", gt_of 1196 (by decide +kernel) rfl, Or.inl rfl⟩
theorem fk_12_370 : FK RX12 370 12 51 := ⟨by decide, by decide, "PutOutModel", gt_of 1197 (by decide +kernel) rfl, Or.inl rfl⟩
theorem fk_12_86 : FK RX12 86 12 52 := ⟨by decide, by decide, "PutOutModel", gt_of 1198 (by decide +kernel) rfl, Or.inl rfl⟩
theorem fk_12_90 : FK RX12 90 12 53 := ⟨by decide, by decide, "PutOutModel", gt_of 1199 (by decide +kernel) rfl, Or.inl rfl⟩
theorem fk_12_93 : FK RX12 93 12 54 := ⟨by decide, by decide, "PutOutModel", gt_of 1200 (by decide +kernel) rfl, Or.inl rfl⟩
theorem fk_12_96 : FK RX12 96 12 55 := ⟨by decide, by decide, "PutOutModel", gt_of 1201 (by decide +kernel) rfl, Or.inl rfl⟩
theorem lk_L_9 : LKI RL 9 yX11_init := ⟨gt_of 93 (by decide +kernel) rfl, rfl, gt_of 94 (by decide +kernel) rfl⟩
theorem lw_11_1 : Cond.methodLink RX11 1 ⟨"java/lang/Object", "<init>", "()V"⟩ ∈ gT := gt_of 96 (by decide +kernel) rfl
theorem lk_11_9 : LKI RX11 9 yX2_init := ⟨gt_of 101 (by decide +kernel) rfl, rfl, gt_of 102 (by decide +kernel) rfl⟩
theorem lw_2_3 : Cond.methodLink RX2 3 ⟨"java/lang/Object", "<init>", "()V"⟩ ∈ gT := gt_of 104 (by decide +kernel) rfl
theorem lk_2_34 : LKS RX2 34 yJ7_fill_53178 := ⟨gt_of 107 (by decide +kernel) rfl, gt_of 108 (by decide +kernel) rfl⟩
theorem lk_2_40 : LKI RX2 40 yX9_init := ⟨gt_of 111 (by decide +kernel) rfl, rfl, gt_of 112 (by decide +kernel) rfl⟩
theorem lw_9_3 : Cond.methodLink RX9 3 ⟨"java/lang/Object", "<init>", "()V"⟩ ∈ gT := gt_of 114 (by decide +kernel) rfl
theorem lk_11_29 : LKIN RX11 29 yX6_init := ⟨by decide +kernel, rfl, gt_of 208 (by decide +kernel) rfl⟩
theorem lw_6_3 : Cond.methodLink RX6 3 ⟨"java/lang/Object", "<init>", "()V"⟩ ∈ gT := gt_of 210 (by decide +kernel) rfl
theorem lk_11_51 : LKIN RX11 51 yX4_init := ⟨by decide +kernel, rfl, gt_of 249 (by decide +kernel) rfl⟩
theorem lw_4_3 : Cond.methodLink RX4 3 ⟨"java/lang/Object", "<init>", "()V"⟩ ∈ gT := gt_of 251 (by decide +kernel) rfl
theorem lk_11_56 : LKIN RX11 56 yX7_init := ⟨by decide +kernel, rfl, gt_of 297 (by decide +kernel) rfl⟩
theorem lw_7_3 : Cond.methodLink RX7 3 ⟨"java/lang/Object", "<init>", "()V"⟩ ∈ gT := gt_of 299 (by decide +kernel) rfl
theorem lk_11_69 : LKV RX11 69 6 yX6_read := ⟨by decide, gt_of 362 (by decide +kernel) rfl, gt_of 363 (by decide +kernel) rfl, gt_of 364 (by decide +kernel) rfl⟩
theorem lk_6_43 : LKV RX6 43 6 yX6_advance := ⟨by decide, gt_of 366 (by decide +kernel) rfl, gt_of 368 (by decide +kernel) rfl, gt_of 0 (by decide +kernel) rfl⟩
theorem lk_6_82 : LKS RX6 82 yX6_isLetter := ⟨gt_of 370 (by decide +kernel) rfl, gt_of 371 (by decide +kernel) rfl⟩
theorem lk_6_86 : LKV RX6 86 6 yX6_word := ⟨by decide, gt_of 373 (by decide +kernel) rfl, gt_of 375 (by decide +kernel) rfl, gt_of 1 (by decide +kernel) rfl⟩
theorem lk_6_100 : LKV RX6 100 6 yX6_key := ⟨by decide, gt_of 377 (by decide +kernel) rfl, gt_of 379 (by decide +kernel) rfl, gt_of 2 (by decide +kernel) rfl⟩
theorem lk_6_108 : LKV RX6 108 6 yX6_spells := ⟨by decide, gt_of 382 (by decide +kernel) rfl, gt_of 384 (by decide +kernel) rfl, gt_of 3 (by decide +kernel) rfl⟩
theorem lk_6_103 : LKV RX6 103 6 yX6_name := ⟨by decide, gt_of 393 (by decide +kernel) rfl, gt_of 395 (by decide +kernel) rfl, gt_of 4 (by decide +kernel) rfl⟩
theorem lk_6_90 : LKS RX6 90 yX6_isDigit := ⟨gt_of 403 (by decide +kernel) rfl, gt_of 404 (by decide +kernel) rfl⟩
theorem lk_6_93 : LKV RX6 93 6 yX6_digits := ⟨by decide, gt_of 406 (by decide +kernel) rfl, gt_of 408 (by decide +kernel) rfl, gt_of 5 (by decide +kernel) rfl⟩
theorem lk_6_96 : LKS RX6 96 yX6_sign := ⟨gt_of 410 (by decide +kernel) rfl, gt_of 411 (by decide +kernel) rfl⟩
theorem lk_6_46 : LKV RX6 46 6 yX6_expect := ⟨by decide, gt_of 413 (by decide +kernel) rfl, gt_of 415 (by decide +kernel) rfl, gt_of 6 (by decide +kernel) rfl⟩
theorem lk_6_70 : LKV RX6 70 6 yX6_fail := ⟨by decide, gt_of 417 (by decide +kernel) rfl, gt_of 419 (by decide +kernel) rfl, gt_of 7 (by decide +kernel) rfl⟩
theorem lk_6_50 : LKV RX6 50 6 yX6_either := ⟨by decide, gt_of 421 (by decide +kernel) rfl, gt_of 423 (by decide +kernel) rfl, gt_of 8 (by decide +kernel) rfl⟩
theorem lk_6_61 : LKV RX6 61 6 yX6_both := ⟨by decide, gt_of 425 (by decide +kernel) rfl, gt_of 427 (by decide +kernel) rfl, gt_of 9 (by decide +kernel) rfl⟩
theorem lk_6_64 : LKV RX6 64 6 yX6_negation := ⟨by decide, gt_of 429 (by decide +kernel) rfl, gt_of 431 (by decide +kernel) rfl, gt_of 10 (by decide +kernel) rfl⟩
theorem lk_6_67 : LKV RX6 67 6 yX6_comparison := ⟨by decide, gt_of 433 (by decide +kernel) rfl, gt_of 435 (by decide +kernel) rfl, gt_of 11 (by decide +kernel) rfl⟩
theorem lk_6_73 : LKV RX6 73 6 yX6_sum := ⟨by decide, gt_of 437 (by decide +kernel) rfl, gt_of 439 (by decide +kernel) rfl, gt_of 12 (by decide +kernel) rfl⟩
theorem lk_6_76 : LKV RX6 76 6 yX6_term := ⟨by decide, gt_of 441 (by decide +kernel) rfl, gt_of 443 (by decide +kernel) rfl, gt_of 13 (by decide +kernel) rfl⟩
theorem lk_6_79 : LKV RX6 79 6 yX6_one := ⟨by decide, gt_of 445 (by decide +kernel) rfl, gt_of 447 (by decide +kernel) rfl, gt_of 14 (by decide +kernel) rfl⟩
theorem lk_6_53 : LKV RX6 53 6 yX6_emit := ⟨by decide, gt_of 449 (by decide +kernel) rfl, gt_of 451 (by decide +kernel) rfl, gt_of 15 (by decide +kernel) rfl⟩
theorem lk_11_73 : LKV RX11 73 6 yX6_made := ⟨by decide, gt_of 453 (by decide +kernel) rfl, gt_of 454 (by decide +kernel) rfl, gt_of 455 (by decide +kernel) rfl⟩
theorem lk_6_58 : LKI RX6 58 yX8_init := ⟨gt_of 459 (by decide +kernel) rfl, rfl, gt_of 460 (by decide +kernel) rfl⟩
theorem lw_8_3 : Cond.methodLink RX8 3 ⟨"java/lang/Object", "<init>", "()V"⟩ ∈ gT := gt_of 462 (by decide +kernel) rfl
theorem lk_8_15 : LKS RX8 15 yJ7_copyOf_59c91 := ⟨gt_of 463 (by decide +kernel) rfl, gt_of 464 (by decide +kernel) rfl⟩
theorem lk_L_13 : LKV RL 13 11 yX11_set := ⟨by decide, gt_of 521 (by decide +kernel) rfl, gt_of 522 (by decide +kernel) rfl, gt_of 523 (by decide +kernel) rfl⟩
theorem lk_11_80 : LKS RX11 80 yX11_exchange := ⟨gt_of 525 (by decide +kernel) rfl, gt_of 526 (by decide +kernel) rfl⟩
theorem lk_11_104 : LKS RX11 104 yX11_isBelow := ⟨gt_of 528 (by decide +kernel) rfl, gt_of 529 (by decide +kernel) rfl⟩
theorem lk_11_90 : LKV RX11 90 2 yX2_has := ⟨by decide, gt_of 531 (by decide +kernel) rfl, gt_of 532 (by decide +kernel) rfl, gt_of 533 (by decide +kernel) rfl⟩
theorem lk_2_43 : LKSN RX2 43 yX11_isBelow := ⟨by decide +kernel, gt_of 529 (by decide +kernel) rfl⟩
theorem lku_11_98_0 : LKU RX11 98 0 yX9_change yX9_change := ⟨by decide, gt_of 536 (by decide +kernel) rfl, gt_of 539 (by decide +kernel) rfl, gt_of 537 (by decide +kernel) rfl, ⟨_, _, _, gt_of (w := .code yX9_change cX9_change 4 (some (.int))) 545 (by decide +kernel) rfl⟩, gt_of 540 (by decide +kernel) rfl, gt_of 537 (by decide +kernel) rfl, by decide +kernel, rfl⟩
theorem lku_11_98_1 : LKU RX11 98 1 yX9_change yX9_change := ⟨by decide, gt_of 536 (by decide +kernel) rfl, gt_of 539 (by decide +kernel) rfl, gt_of 537 (by decide +kernel) rfl, ⟨_, _, _, gt_of (w := .code yX9_change cX9_change 4 (some (.int))) 545 (by decide +kernel) rfl⟩, gt_of 541 (by decide +kernel) rfl, gt_of 537 (by decide +kernel) rfl, by decide +kernel, rfl⟩
theorem lku_11_98_3 : LKU RX11 98 3 yX9_change yX9_change := ⟨by decide, gt_of 536 (by decide +kernel) rfl, gt_of 539 (by decide +kernel) rfl, gt_of 537 (by decide +kernel) rfl, ⟨_, _, _, gt_of (w := .code yX9_change cX9_change 4 (some (.int))) 545 (by decide +kernel) rfl⟩, gt_of 542 (by decide +kernel) rfl, gt_of 537 (by decide +kernel) rfl, by decide +kernel, rfl⟩
theorem lku_11_98_5 : LKU RX11 98 5 yX9_change yX9_change := ⟨by decide, gt_of 536 (by decide +kernel) rfl, gt_of 539 (by decide +kernel) rfl, gt_of 537 (by decide +kernel) rfl, ⟨_, _, _, gt_of (w := .code yX9_change cX9_change 4 (some (.int))) 545 (by decide +kernel) rfl⟩, gt_of 543 (by decide +kernel) rfl, gt_of 537 (by decide +kernel) rfl, by decide +kernel, rfl⟩
theorem lku_11_98_9 : LKU RX11 98 9 yX9_change yX9_change := ⟨by decide, gt_of 536 (by decide +kernel) rfl, gt_of 539 (by decide +kernel) rfl, gt_of 537 (by decide +kernel) rfl, ⟨_, _, _, gt_of (w := .code yX9_change cX9_change 4 (some (.int))) 545 (by decide +kernel) rfl⟩, gt_of 538 (by decide +kernel) rfl, gt_of 537 (by decide +kernel) rfl, by decide +kernel, rfl⟩
theorem lku_11_98_10 : LKU RX11 98 10 yX9_change yX9_change := ⟨by decide, gt_of 536 (by decide +kernel) rfl, gt_of 539 (by decide +kernel) rfl, gt_of 537 (by decide +kernel) rfl, ⟨_, _, _, gt_of (w := .code yX9_change cX9_change 4 (some (.int))) 545 (by decide +kernel) rfl⟩, gt_of 544 (by decide +kernel) rfl, gt_of 537 (by decide +kernel) rfl, by decide +kernel, rfl⟩
theorem lk_11_98 : LKV RX11 98 9 yX9_change := ⟨by decide, gt_of 536 (by decide +kernel) rfl, gt_of 537 (by decide +kernel) rfl, gt_of 538 (by decide +kernel) rfl⟩
theorem lk_9_52 : LKSN RX9 52 yX11_isBelow := ⟨by decide +kernel, gt_of 529 (by decide +kernel) rfl⟩
theorem lk_L_18 : LKV RL 18 11 yX11_thing := ⟨by decide, gt_of 547 (by decide +kernel) rfl, gt_of 548 (by decide +kernel) rfl, gt_of 549 (by decide +kernel) rfl⟩
theorem lk_11_111 : LKS RX11 111 yX11_made := ⟨gt_of 551 (by decide +kernel) rfl, gt_of 552 (by decide +kernel) rfl⟩
theorem lk_11_260 : LKI RX11 260 yX3_init := ⟨gt_of 556 (by decide +kernel) rfl, rfl, gt_of 557 (by decide +kernel) rfl⟩
theorem lk_3_1 : LKI RX3 1 yX9_init := ⟨gt_of 559 (by decide +kernel) rfl, rfl, gt_of 112 (by decide +kernel) rfl⟩
theorem lk_11_265 : LKI RX11 265 yX1_init := ⟨gt_of 576 (by decide +kernel) rfl, rfl, gt_of 577 (by decide +kernel) rfl⟩
theorem lk_1_1 : LKI RX1 1 yX9_init := ⟨gt_of 579 (by decide +kernel) rfl, rfl, gt_of 112 (by decide +kernel) rfl⟩
theorem lk_11_268 : LKI RX11 268 yX5_init := ⟨gt_of 596 (by decide +kernel) rfl, rfl, gt_of 597 (by decide +kernel) rfl⟩
theorem lk_5_1 : LKI RX5 1 yX3_init := ⟨gt_of 599 (by decide +kernel) rfl, rfl, gt_of 557 (by decide +kernel) rfl⟩
theorem lk_11_271 : LKI RX11 271 yX10_init := ⟨gt_of 616 (by decide +kernel) rfl, rfl, gt_of 617 (by decide +kernel) rfl⟩
theorem lk_10_1 : LKI RX10 1 yX1_init := ⟨gt_of 619 (by decide +kernel) rfl, rfl, gt_of 577 (by decide +kernel) rfl⟩
theorem lk_11_274 : LKI RX11 274 yX0_init := ⟨gt_of 636 (by decide +kernel) rfl, rfl, gt_of 637 (by decide +kernel) rfl⟩
theorem lk_0_1 : LKI RX0 1 yX9_init := ⟨gt_of 639 (by decide +kernel) rfl, rfl, gt_of 112 (by decide +kernel) rfl⟩
theorem lk_11_275 : LKI RX11 275 yX9_init := ⟨gt_of 655 (by decide +kernel) rfl, rfl, gt_of 112 (by decide +kernel) rfl⟩
theorem lk_L_22 : LKV RL 22 11 yX11_put := ⟨by decide, gt_of 656 (by decide +kernel) rfl, gt_of 657 (by decide +kernel) rfl, gt_of 658 (by decide +kernel) rfl⟩
theorem lku_11_117_0 : LKU RX11 117 0 yX9_stands yX9_stands := ⟨by decide, gt_of 660 (by decide +kernel) rfl, gt_of 663 (by decide +kernel) rfl, gt_of 661 (by decide +kernel) rfl, ⟨_, _, _, gt_of (w := .code yX9_stands cX9_stands 2 (some (.boolean))) 676 (by decide +kernel) rfl⟩, gt_of 664 (by decide +kernel) rfl, gt_of 661 (by decide +kernel) rfl, by decide +kernel, rfl⟩
theorem lku_11_117_1 : LKU RX11 117 1 yX9_stands yX1_stands := ⟨by decide, gt_of 660 (by decide +kernel) rfl, gt_of 663 (by decide +kernel) rfl, gt_of 661 (by decide +kernel) rfl, ⟨_, _, _, gt_of (w := .code yX9_stands cX9_stands 2 (some (.boolean))) 676 (by decide +kernel) rfl⟩, gt_of 665 (by decide +kernel) rfl, gt_of 666 (by decide +kernel) rfl, by decide +kernel, rfl⟩
theorem lku_11_117_3 : LKU RX11 117 3 yX9_stands yX3_stands := ⟨by decide, gt_of 660 (by decide +kernel) rfl, gt_of 663 (by decide +kernel) rfl, gt_of 661 (by decide +kernel) rfl, ⟨_, _, _, gt_of (w := .code yX9_stands cX9_stands 2 (some (.boolean))) 676 (by decide +kernel) rfl⟩, gt_of 668 (by decide +kernel) rfl, gt_of 669 (by decide +kernel) rfl, by decide +kernel, rfl⟩
theorem lku_11_117_5 : LKU RX11 117 5 yX9_stands yX5_stands := ⟨by decide, gt_of 660 (by decide +kernel) rfl, gt_of 663 (by decide +kernel) rfl, gt_of 661 (by decide +kernel) rfl, ⟨_, _, _, gt_of (w := .code yX9_stands cX9_stands 2 (some (.boolean))) 676 (by decide +kernel) rfl⟩, gt_of 671 (by decide +kernel) rfl, gt_of 672 (by decide +kernel) rfl, by decide +kernel, rfl⟩
theorem lku_11_117_9 : LKU RX11 117 9 yX9_stands yX9_stands := ⟨by decide, gt_of 660 (by decide +kernel) rfl, gt_of 663 (by decide +kernel) rfl, gt_of 661 (by decide +kernel) rfl, ⟨_, _, _, gt_of (w := .code yX9_stands cX9_stands 2 (some (.boolean))) 676 (by decide +kernel) rfl⟩, gt_of 662 (by decide +kernel) rfl, gt_of 661 (by decide +kernel) rfl, by decide +kernel, rfl⟩
theorem lku_11_117_10 : LKU RX11 117 10 yX9_stands yX1_stands := ⟨by decide, gt_of 660 (by decide +kernel) rfl, gt_of 663 (by decide +kernel) rfl, gt_of 661 (by decide +kernel) rfl, ⟨_, _, _, gt_of (w := .code yX9_stands cX9_stands 2 (some (.boolean))) 676 (by decide +kernel) rfl⟩, gt_of 675 (by decide +kernel) rfl, gt_of 666 (by decide +kernel) rfl, by decide +kernel, rfl⟩
theorem lk_11_117 : LKV RX11 117 9 yX9_stands := ⟨by decide, gt_of 660 (by decide +kernel) rfl, gt_of 661 (by decide +kernel) rfl, gt_of 662 (by decide +kernel) rfl⟩
theorem lsu_5_7 : LKSU RX5 7 yX3_stands := ⟨gt_of 674 (by decide +kernel) rfl, gt_of 1620 (by decide +kernel) rfl, gt_of 613 (by decide +kernel) rfl, gt_of 669 (by decide +kernel) rfl, by decide +kernel⟩
theorem lk_11_120 : LKV RX11 120 2 yX2_isTaken := ⟨by decide, gt_of 677 (by decide +kernel) rfl, gt_of 678 (by decide +kernel) rfl, gt_of 679 (by decide +kernel) rfl⟩
theorem lk_11_123 : LKV RX11 123 11 yX11_rule := ⟨by decide, gt_of 681 (by decide +kernel) rfl, gt_of 683 (by decide +kernel) rfl, gt_of 16 (by decide +kernel) rfl⟩
theorem lku_11_126_0 : LKU RX11 126 0 yX9_movesTo yX9_movesTo := ⟨by decide, gt_of 685 (by decide +kernel) rfl, gt_of 688 (by decide +kernel) rfl, gt_of 686 (by decide +kernel) rfl, ⟨_, _, _, gt_of (w := .code yX9_movesTo cX9_movesTo 3 (some (.int))) 694 (by decide +kernel) rfl⟩, gt_of 689 (by decide +kernel) rfl, gt_of 686 (by decide +kernel) rfl, by decide +kernel, rfl⟩
theorem lku_11_126_1 : LKU RX11 126 1 yX9_movesTo yX9_movesTo := ⟨by decide, gt_of 685 (by decide +kernel) rfl, gt_of 688 (by decide +kernel) rfl, gt_of 686 (by decide +kernel) rfl, ⟨_, _, _, gt_of (w := .code yX9_movesTo cX9_movesTo 3 (some (.int))) 694 (by decide +kernel) rfl⟩, gt_of 690 (by decide +kernel) rfl, gt_of 686 (by decide +kernel) rfl, by decide +kernel, rfl⟩
theorem lku_11_126_3 : LKU RX11 126 3 yX9_movesTo yX9_movesTo := ⟨by decide, gt_of 685 (by decide +kernel) rfl, gt_of 688 (by decide +kernel) rfl, gt_of 686 (by decide +kernel) rfl, ⟨_, _, _, gt_of (w := .code yX9_movesTo cX9_movesTo 3 (some (.int))) 694 (by decide +kernel) rfl⟩, gt_of 691 (by decide +kernel) rfl, gt_of 686 (by decide +kernel) rfl, by decide +kernel, rfl⟩
theorem lku_11_126_5 : LKU RX11 126 5 yX9_movesTo yX9_movesTo := ⟨by decide, gt_of 685 (by decide +kernel) rfl, gt_of 688 (by decide +kernel) rfl, gt_of 686 (by decide +kernel) rfl, ⟨_, _, _, gt_of (w := .code yX9_movesTo cX9_movesTo 3 (some (.int))) 694 (by decide +kernel) rfl⟩, gt_of 692 (by decide +kernel) rfl, gt_of 686 (by decide +kernel) rfl, by decide +kernel, rfl⟩
theorem lku_11_126_9 : LKU RX11 126 9 yX9_movesTo yX9_movesTo := ⟨by decide, gt_of 685 (by decide +kernel) rfl, gt_of 688 (by decide +kernel) rfl, gt_of 686 (by decide +kernel) rfl, ⟨_, _, _, gt_of (w := .code yX9_movesTo cX9_movesTo 3 (some (.int))) 694 (by decide +kernel) rfl⟩, gt_of 687 (by decide +kernel) rfl, gt_of 686 (by decide +kernel) rfl, by decide +kernel, rfl⟩
theorem lku_11_126_10 : LKU RX11 126 10 yX9_movesTo yX9_movesTo := ⟨by decide, gt_of 685 (by decide +kernel) rfl, gt_of 688 (by decide +kernel) rfl, gt_of 686 (by decide +kernel) rfl, ⟨_, _, _, gt_of (w := .code yX9_movesTo cX9_movesTo 3 (some (.int))) 694 (by decide +kernel) rfl⟩, gt_of 693 (by decide +kernel) rfl, gt_of 686 (by decide +kernel) rfl, by decide +kernel, rfl⟩
theorem lk_11_126 : LKV RX11 126 9 yX9_movesTo := ⟨by decide, gt_of 685 (by decide +kernel) rfl, gt_of 686 (by decide +kernel) rfl, gt_of 687 (by decide +kernel) rfl⟩
theorem lk_9_56 : LKV RX9 56 8 yX8_tells := ⟨by decide, gt_of 695 (by decide +kernel) rfl, gt_of 696 (by decide +kernel) rfl, gt_of 697 (by decide +kernel) rfl⟩
theorem lk_8_31 : LKV RX8 31 8 yX8_push := ⟨by decide, gt_of 699 (by decide +kernel) rfl, gt_of 701 (by decide +kernel) rfl, gt_of 17 (by decide +kernel) rfl⟩
theorem lk_8_35 : LKS RX8 35 yX8_named := ⟨gt_of 703 (by decide +kernel) rfl, gt_of 704 (by decide +kernel) rfl⟩
theorem lk_8_39 : LKV RX8 39 8 yX8_pop := ⟨by decide, gt_of 706 (by decide +kernel) rfl, gt_of 708 (by decide +kernel) rfl, gt_of 18 (by decide +kernel) rfl⟩
theorem lk_8_43 : LKS RX8 43 yX8_joined := ⟨gt_of 710 (by decide +kernel) rfl, gt_of 711 (by decide +kernel) rfl⟩
theorem lk_8_47 : LKS RX8 47 yJ9_min_7cf53 := ⟨gt_of 713 (by decide +kernel) rfl, gt_of 474 (by decide +kernel) rfl⟩
theorem lk_8_53 : LKS RX8 53 yJ9_max_7cf53 := ⟨gt_of 714 (by decide +kernel) rfl, gt_of 715 (by decide +kernel) rfl⟩
theorem lk_L_27 : LKV RL 27 11 yX11_told := ⟨by decide, gt_of 717 (by decide +kernel) rfl, gt_of 718 (by decide +kernel) rfl, gt_of 719 (by decide +kernel) rfl⟩
theorem lk_11_142 : LKS RX11 142 yX11_viewersOf := ⟨gt_of 721 (by decide +kernel) rfl, gt_of 722 (by decide +kernel) rfl⟩
theorem lk_11_276 : LKS RX11 276 yX11_hasBit := ⟨gt_of 724 (by decide +kernel) rfl, gt_of 725 (by decide +kernel) rfl⟩
theorem lk_L_31 : LKV RL 31 11 yX11_feed := ⟨by decide, gt_of 727 (by decide +kernel) rfl, gt_of 728 (by decide +kernel) rfl, gt_of 729 (by decide +kernel) rfl⟩
theorem lk_L_36 : LKV RL 36 11 yX11_text := ⟨by decide, gt_of 731 (by decide +kernel) rfl, gt_of 732 (by decide +kernel) rfl, gt_of 733 (by decide +kernel) rfl⟩
theorem lk_L_41 : LKV RL 41 11 yX11_force := ⟨by decide, gt_of 735 (by decide +kernel) rfl, gt_of 736 (by decide +kernel) rfl, gt_of 737 (by decide +kernel) rfl⟩
theorem lk_L_45 : LKV RL 45 11 yX11_day := ⟨by decide, gt_of 739 (by decide +kernel) rfl, gt_of 740 (by decide +kernel) rfl, gt_of 741 (by decide +kernel) rfl⟩
theorem lk_11_148 : LKV RX11 148 4 yX4_start := ⟨by decide, gt_of 743 (by decide +kernel) rfl, gt_of 744 (by decide +kernel) rfl, gt_of 745 (by decide +kernel) rfl⟩
theorem lw_4_59 : Cond.methodLink RX4 59 ⟨"java/lang/System", "arraycopy", "(Ljava/lang/Object;ILjava/lang/Object;II)V"⟩ ∈ gT := gt_of 747 (by decide +kernel) rfl
theorem lk_4_67 : LKV RX4 67 4 yX4_lookAround := ⟨by decide, gt_of 748 (by decide +kernel) rfl, gt_of 750 (by decide +kernel) rfl, gt_of 19 (by decide +kernel) rfl⟩
theorem lk_4_77 : LKSN RX4 77 yX11_viewersOf := ⟨by decide +kernel, gt_of 722 (by decide +kernel) rfl⟩
theorem lku_4_70_0 : LKU RX4 70 0 yX9_learn yX9_learn := ⟨by decide, gt_of 753 (by decide +kernel) rfl, gt_of 756 (by decide +kernel) rfl, gt_of 754 (by decide +kernel) rfl, ⟨_, _, _, gt_of (w := .code yX9_learn cX9_learn 3 (none)) 762 (by decide +kernel) rfl⟩, gt_of 757 (by decide +kernel) rfl, gt_of 754 (by decide +kernel) rfl, by decide +kernel, rfl⟩
theorem lku_4_70_1 : LKU RX4 70 1 yX9_learn yX9_learn := ⟨by decide, gt_of 753 (by decide +kernel) rfl, gt_of 756 (by decide +kernel) rfl, gt_of 754 (by decide +kernel) rfl, ⟨_, _, _, gt_of (w := .code yX9_learn cX9_learn 3 (none)) 762 (by decide +kernel) rfl⟩, gt_of 758 (by decide +kernel) rfl, gt_of 754 (by decide +kernel) rfl, by decide +kernel, rfl⟩
theorem lku_4_70_3 : LKU RX4 70 3 yX9_learn yX9_learn := ⟨by decide, gt_of 753 (by decide +kernel) rfl, gt_of 756 (by decide +kernel) rfl, gt_of 754 (by decide +kernel) rfl, ⟨_, _, _, gt_of (w := .code yX9_learn cX9_learn 3 (none)) 762 (by decide +kernel) rfl⟩, gt_of 759 (by decide +kernel) rfl, gt_of 754 (by decide +kernel) rfl, by decide +kernel, rfl⟩
theorem lku_4_70_5 : LKU RX4 70 5 yX9_learn yX9_learn := ⟨by decide, gt_of 753 (by decide +kernel) rfl, gt_of 756 (by decide +kernel) rfl, gt_of 754 (by decide +kernel) rfl, ⟨_, _, _, gt_of (w := .code yX9_learn cX9_learn 3 (none)) 762 (by decide +kernel) rfl⟩, gt_of 760 (by decide +kernel) rfl, gt_of 754 (by decide +kernel) rfl, by decide +kernel, rfl⟩
theorem lku_4_70_9 : LKU RX4 70 9 yX9_learn yX9_learn := ⟨by decide, gt_of 753 (by decide +kernel) rfl, gt_of 756 (by decide +kernel) rfl, gt_of 754 (by decide +kernel) rfl, ⟨_, _, _, gt_of (w := .code yX9_learn cX9_learn 3 (none)) 762 (by decide +kernel) rfl⟩, gt_of 755 (by decide +kernel) rfl, gt_of 754 (by decide +kernel) rfl, by decide +kernel, rfl⟩
theorem lku_4_70_10 : LKU RX4 70 10 yX9_learn yX9_learn := ⟨by decide, gt_of 753 (by decide +kernel) rfl, gt_of 756 (by decide +kernel) rfl, gt_of 754 (by decide +kernel) rfl, ⟨_, _, _, gt_of (w := .code yX9_learn cX9_learn 3 (none)) 762 (by decide +kernel) rfl⟩, gt_of 761 (by decide +kernel) rfl, gt_of 754 (by decide +kernel) rfl, by decide +kernel, rfl⟩
theorem lk_4_70 : LKV RX4 70 9 yX9_learn := ⟨by decide, gt_of 753 (by decide +kernel) rfl, gt_of 754 (by decide +kernel) rfl, gt_of 755 (by decide +kernel) rfl⟩
theorem lku_9_62_0 : LKU RX9 62 0 yX9_movesTo yX9_movesTo := ⟨by decide, gt_of 763 (by decide +kernel) rfl, gt_of 688 (by decide +kernel) rfl, gt_of 686 (by decide +kernel) rfl, ⟨_, _, _, gt_of (w := .code yX9_movesTo cX9_movesTo 3 (some (.int))) 694 (by decide +kernel) rfl⟩, gt_of 689 (by decide +kernel) rfl, gt_of 686 (by decide +kernel) rfl, by decide +kernel, rfl⟩
theorem lku_9_62_1 : LKU RX9 62 1 yX9_movesTo yX9_movesTo := ⟨by decide, gt_of 763 (by decide +kernel) rfl, gt_of 688 (by decide +kernel) rfl, gt_of 686 (by decide +kernel) rfl, ⟨_, _, _, gt_of (w := .code yX9_movesTo cX9_movesTo 3 (some (.int))) 694 (by decide +kernel) rfl⟩, gt_of 690 (by decide +kernel) rfl, gt_of 686 (by decide +kernel) rfl, by decide +kernel, rfl⟩
theorem lku_9_62_3 : LKU RX9 62 3 yX9_movesTo yX9_movesTo := ⟨by decide, gt_of 763 (by decide +kernel) rfl, gt_of 688 (by decide +kernel) rfl, gt_of 686 (by decide +kernel) rfl, ⟨_, _, _, gt_of (w := .code yX9_movesTo cX9_movesTo 3 (some (.int))) 694 (by decide +kernel) rfl⟩, gt_of 691 (by decide +kernel) rfl, gt_of 686 (by decide +kernel) rfl, by decide +kernel, rfl⟩
theorem lku_9_62_5 : LKU RX9 62 5 yX9_movesTo yX9_movesTo := ⟨by decide, gt_of 763 (by decide +kernel) rfl, gt_of 688 (by decide +kernel) rfl, gt_of 686 (by decide +kernel) rfl, ⟨_, _, _, gt_of (w := .code yX9_movesTo cX9_movesTo 3 (some (.int))) 694 (by decide +kernel) rfl⟩, gt_of 692 (by decide +kernel) rfl, gt_of 686 (by decide +kernel) rfl, by decide +kernel, rfl⟩
theorem lku_9_62_9 : LKU RX9 62 9 yX9_movesTo yX9_movesTo := ⟨by decide, gt_of 763 (by decide +kernel) rfl, gt_of 688 (by decide +kernel) rfl, gt_of 686 (by decide +kernel) rfl, ⟨_, _, _, gt_of (w := .code yX9_movesTo cX9_movesTo 3 (some (.int))) 694 (by decide +kernel) rfl⟩, gt_of 687 (by decide +kernel) rfl, gt_of 686 (by decide +kernel) rfl, by decide +kernel, rfl⟩
theorem lku_9_62_10 : LKU RX9 62 10 yX9_movesTo yX9_movesTo := ⟨by decide, gt_of 763 (by decide +kernel) rfl, gt_of 688 (by decide +kernel) rfl, gt_of 686 (by decide +kernel) rfl, ⟨_, _, _, gt_of (w := .code yX9_movesTo cX9_movesTo 3 (some (.int))) 694 (by decide +kernel) rfl⟩, gt_of 693 (by decide +kernel) rfl, gt_of 686 (by decide +kernel) rfl, by decide +kernel, rfl⟩
theorem lk_9_62 : LKV RX9 62 9 yX9_movesTo := ⟨by decide, gt_of 763 (by decide +kernel) rfl, gt_of 686 (by decide +kernel) rfl, gt_of 687 (by decide +kernel) rfl⟩
theorem lku_9_66_0 : LKU RX9 66 0 yX9_stands yX9_stands := ⟨by decide, gt_of 764 (by decide +kernel) rfl, gt_of 663 (by decide +kernel) rfl, gt_of 661 (by decide +kernel) rfl, ⟨_, _, _, gt_of (w := .code yX9_stands cX9_stands 2 (some (.boolean))) 676 (by decide +kernel) rfl⟩, gt_of 664 (by decide +kernel) rfl, gt_of 661 (by decide +kernel) rfl, by decide +kernel, rfl⟩
theorem lku_9_66_1 : LKU RX9 66 1 yX9_stands yX1_stands := ⟨by decide, gt_of 764 (by decide +kernel) rfl, gt_of 663 (by decide +kernel) rfl, gt_of 661 (by decide +kernel) rfl, ⟨_, _, _, gt_of (w := .code yX9_stands cX9_stands 2 (some (.boolean))) 676 (by decide +kernel) rfl⟩, gt_of 665 (by decide +kernel) rfl, gt_of 666 (by decide +kernel) rfl, by decide +kernel, rfl⟩
theorem lku_9_66_3 : LKU RX9 66 3 yX9_stands yX3_stands := ⟨by decide, gt_of 764 (by decide +kernel) rfl, gt_of 663 (by decide +kernel) rfl, gt_of 661 (by decide +kernel) rfl, ⟨_, _, _, gt_of (w := .code yX9_stands cX9_stands 2 (some (.boolean))) 676 (by decide +kernel) rfl⟩, gt_of 668 (by decide +kernel) rfl, gt_of 669 (by decide +kernel) rfl, by decide +kernel, rfl⟩
theorem lku_9_66_5 : LKU RX9 66 5 yX9_stands yX5_stands := ⟨by decide, gt_of 764 (by decide +kernel) rfl, gt_of 663 (by decide +kernel) rfl, gt_of 661 (by decide +kernel) rfl, ⟨_, _, _, gt_of (w := .code yX9_stands cX9_stands 2 (some (.boolean))) 676 (by decide +kernel) rfl⟩, gt_of 671 (by decide +kernel) rfl, gt_of 672 (by decide +kernel) rfl, by decide +kernel, rfl⟩
theorem lku_9_66_9 : LKU RX9 66 9 yX9_stands yX9_stands := ⟨by decide, gt_of 764 (by decide +kernel) rfl, gt_of 663 (by decide +kernel) rfl, gt_of 661 (by decide +kernel) rfl, ⟨_, _, _, gt_of (w := .code yX9_stands cX9_stands 2 (some (.boolean))) 676 (by decide +kernel) rfl⟩, gt_of 662 (by decide +kernel) rfl, gt_of 661 (by decide +kernel) rfl, by decide +kernel, rfl⟩
theorem lku_9_66_10 : LKU RX9 66 10 yX9_stands yX1_stands := ⟨by decide, gt_of 764 (by decide +kernel) rfl, gt_of 663 (by decide +kernel) rfl, gt_of 661 (by decide +kernel) rfl, ⟨_, _, _, gt_of (w := .code yX9_stands cX9_stands 2 (some (.boolean))) 676 (by decide +kernel) rfl⟩, gt_of 675 (by decide +kernel) rfl, gt_of 666 (by decide +kernel) rfl, by decide +kernel, rfl⟩
theorem lk_9_66 : LKV RX9 66 9 yX9_stands := ⟨by decide, gt_of 764 (by decide +kernel) rfl, gt_of 661 (by decide +kernel) rfl, gt_of 662 (by decide +kernel) rfl⟩
theorem lku_9_71_9 : LKU RX9 71 9 yX9_offenceTo yX9_offenceTo := ⟨by decide, gt_of 766 (by decide +kernel) rfl, gt_of 1621 (by decide +kernel) rfl, gt_of 768 (by decide +kernel) rfl, ⟨_, _, _, gt_of (w := .code yX9_offenceTo cX9_offenceTo 4 (some (.int))) 769 (by decide +kernel) rfl⟩, gt_of 20 (by decide +kernel) rfl, gt_of 768 (by decide +kernel) rfl, by decide +kernel, rfl⟩
theorem lk_9_71 : LKV RX9 71 9 yX9_offenceTo := ⟨by decide, gt_of 766 (by decide +kernel) rfl, gt_of 768 (by decide +kernel) rfl, gt_of 20 (by decide +kernel) rfl⟩
theorem lk_9_79 : LKSN RX9 79 yX11_hasBit := ⟨by decide +kernel, gt_of 725 (by decide +kernel) rfl⟩
theorem lku_9_82_0 : LKU RX9 82 0 yX9_offends yX0_offends := ⟨by decide, gt_of 771 (by decide +kernel) rfl, gt_of 774 (by decide +kernel) rfl, gt_of 772 (by decide +kernel) rfl, ⟨_, _, _, gt_of (w := .code yX9_offends cX9_offends 2 (some (.int))) 793 (by decide +kernel) rfl⟩, gt_of 775 (by decide +kernel) rfl, gt_of 776 (by decide +kernel) rfl, by decide +kernel, rfl⟩
theorem lku_9_82_1 : LKU RX9 82 1 yX9_offends yX1_offends := ⟨by decide, gt_of 771 (by decide +kernel) rfl, gt_of 774 (by decide +kernel) rfl, gt_of 772 (by decide +kernel) rfl, ⟨_, _, _, gt_of (w := .code yX9_offends cX9_offends 2 (some (.int))) 793 (by decide +kernel) rfl⟩, gt_of 778 (by decide +kernel) rfl, gt_of 779 (by decide +kernel) rfl, by decide +kernel, rfl⟩
theorem lku_9_82_3 : LKU RX9 82 3 yX9_offends yX9_offends := ⟨by decide, gt_of 771 (by decide +kernel) rfl, gt_of 774 (by decide +kernel) rfl, gt_of 772 (by decide +kernel) rfl, ⟨_, _, _, gt_of (w := .code yX9_offends cX9_offends 2 (some (.int))) 793 (by decide +kernel) rfl⟩, gt_of 782 (by decide +kernel) rfl, gt_of 772 (by decide +kernel) rfl, by decide +kernel, rfl⟩
theorem lku_9_82_5 : LKU RX9 82 5 yX9_offends yX5_offends := ⟨by decide, gt_of 771 (by decide +kernel) rfl, gt_of 774 (by decide +kernel) rfl, gt_of 772 (by decide +kernel) rfl, ⟨_, _, _, gt_of (w := .code yX9_offends cX9_offends 2 (some (.int))) 793 (by decide +kernel) rfl⟩, gt_of 783 (by decide +kernel) rfl, gt_of 784 (by decide +kernel) rfl, by decide +kernel, rfl⟩
theorem lku_9_82_9 : LKU RX9 82 9 yX9_offends yX9_offends := ⟨by decide, gt_of 771 (by decide +kernel) rfl, gt_of 774 (by decide +kernel) rfl, gt_of 772 (by decide +kernel) rfl, ⟨_, _, _, gt_of (w := .code yX9_offends cX9_offends 2 (some (.int))) 793 (by decide +kernel) rfl⟩, gt_of 773 (by decide +kernel) rfl, gt_of 772 (by decide +kernel) rfl, by decide +kernel, rfl⟩
theorem lku_9_82_10 : LKU RX9 82 10 yX9_offends yX10_offends := ⟨by decide, gt_of 771 (by decide +kernel) rfl, gt_of 774 (by decide +kernel) rfl, gt_of 772 (by decide +kernel) rfl, ⟨_, _, _, gt_of (w := .code yX9_offends cX9_offends 2 (some (.int))) 793 (by decide +kernel) rfl⟩, gt_of 789 (by decide +kernel) rfl, gt_of 790 (by decide +kernel) rfl, by decide +kernel, rfl⟩
theorem lk_9_82 : LKV RX9 82 9 yX9_offends := ⟨by decide, gt_of 771 (by decide +kernel) rfl, gt_of 772 (by decide +kernel) rfl, gt_of 773 (by decide +kernel) rfl⟩
theorem lsu_1_17 : LKSU RX1 17 yX9_offends := ⟨gt_of 781 (by decide +kernel) rfl, gt_of 774 (by decide +kernel) rfl, gt_of 593 (by decide +kernel) rfl, gt_of 772 (by decide +kernel) rfl, by decide +kernel⟩
theorem lku_1_17_0 : LKU RX1 17 0 yX9_offends yX0_offends := ⟨by decide, gt_of 781 (by decide +kernel) rfl, gt_of 774 (by decide +kernel) rfl, gt_of 772 (by decide +kernel) rfl, ⟨_, _, _, gt_of (w := .code yX9_offends cX9_offends 2 (some (.int))) 793 (by decide +kernel) rfl⟩, gt_of 775 (by decide +kernel) rfl, gt_of 776 (by decide +kernel) rfl, by decide +kernel, rfl⟩
theorem lku_1_17_1 : LKU RX1 17 1 yX9_offends yX1_offends := ⟨by decide, gt_of 781 (by decide +kernel) rfl, gt_of 774 (by decide +kernel) rfl, gt_of 772 (by decide +kernel) rfl, ⟨_, _, _, gt_of (w := .code yX9_offends cX9_offends 2 (some (.int))) 793 (by decide +kernel) rfl⟩, gt_of 778 (by decide +kernel) rfl, gt_of 779 (by decide +kernel) rfl, by decide +kernel, rfl⟩
theorem lku_1_17_3 : LKU RX1 17 3 yX9_offends yX9_offends := ⟨by decide, gt_of 781 (by decide +kernel) rfl, gt_of 774 (by decide +kernel) rfl, gt_of 772 (by decide +kernel) rfl, ⟨_, _, _, gt_of (w := .code yX9_offends cX9_offends 2 (some (.int))) 793 (by decide +kernel) rfl⟩, gt_of 782 (by decide +kernel) rfl, gt_of 772 (by decide +kernel) rfl, by decide +kernel, rfl⟩
theorem lku_1_17_5 : LKU RX1 17 5 yX9_offends yX5_offends := ⟨by decide, gt_of 781 (by decide +kernel) rfl, gt_of 774 (by decide +kernel) rfl, gt_of 772 (by decide +kernel) rfl, ⟨_, _, _, gt_of (w := .code yX9_offends cX9_offends 2 (some (.int))) 793 (by decide +kernel) rfl⟩, gt_of 783 (by decide +kernel) rfl, gt_of 784 (by decide +kernel) rfl, by decide +kernel, rfl⟩
theorem lku_1_17_9 : LKU RX1 17 9 yX9_offends yX9_offends := ⟨by decide, gt_of 781 (by decide +kernel) rfl, gt_of 774 (by decide +kernel) rfl, gt_of 772 (by decide +kernel) rfl, ⟨_, _, _, gt_of (w := .code yX9_offends cX9_offends 2 (some (.int))) 793 (by decide +kernel) rfl⟩, gt_of 773 (by decide +kernel) rfl, gt_of 772 (by decide +kernel) rfl, by decide +kernel, rfl⟩
theorem lku_1_17_10 : LKU RX1 17 10 yX9_offends yX10_offends := ⟨by decide, gt_of 781 (by decide +kernel) rfl, gt_of 774 (by decide +kernel) rfl, gt_of 772 (by decide +kernel) rfl, ⟨_, _, _, gt_of (w := .code yX9_offends cX9_offends 2 (some (.int))) 793 (by decide +kernel) rfl⟩, gt_of 789 (by decide +kernel) rfl, gt_of 790 (by decide +kernel) rfl, by decide +kernel, rfl⟩
theorem lk_1_17 : LKV RX1 17 9 yX9_offends := ⟨by decide, gt_of 781 (by decide +kernel) rfl, gt_of 772 (by decide +kernel) rfl, gt_of 773 (by decide +kernel) rfl⟩
theorem lw_5_21 : Cond.methodLink RX5 21 ⟨"PutOut$Picture", "offends", "(I)I"⟩ ∈ gT := gt_of 786 (by decide +kernel) rfl
theorem lsu_10_17 : LKSU RX10 17 yX1_offends := ⟨gt_of 792 (by decide +kernel) rfl, gt_of 1622 (by decide +kernel) rfl, gt_of 633 (by decide +kernel) rfl, gt_of 779 (by decide +kernel) rfl, by decide +kernel⟩
theorem lku_9_75_0 : LKU RX9 75 0 yX9_missed yX0_missed := ⟨by decide, gt_of 794 (by decide +kernel) rfl, gt_of 797 (by decide +kernel) rfl, gt_of 795 (by decide +kernel) rfl, ⟨_, _, _, gt_of (w := .code yX9_missed cX9_missed 1 (some (.int))) 816 (by decide +kernel) rfl⟩, gt_of 798 (by decide +kernel) rfl, gt_of 799 (by decide +kernel) rfl, by decide +kernel, rfl⟩
theorem lku_9_75_1 : LKU RX9 75 1 yX9_missed yX1_missed := ⟨by decide, gt_of 794 (by decide +kernel) rfl, gt_of 797 (by decide +kernel) rfl, gt_of 795 (by decide +kernel) rfl, ⟨_, _, _, gt_of (w := .code yX9_missed cX9_missed 1 (some (.int))) 816 (by decide +kernel) rfl⟩, gt_of 801 (by decide +kernel) rfl, gt_of 802 (by decide +kernel) rfl, by decide +kernel, rfl⟩
theorem lku_9_75_3 : LKU RX9 75 3 yX9_missed yX9_missed := ⟨by decide, gt_of 794 (by decide +kernel) rfl, gt_of 797 (by decide +kernel) rfl, gt_of 795 (by decide +kernel) rfl, ⟨_, _, _, gt_of (w := .code yX9_missed cX9_missed 1 (some (.int))) 816 (by decide +kernel) rfl⟩, gt_of 805 (by decide +kernel) rfl, gt_of 795 (by decide +kernel) rfl, by decide +kernel, rfl⟩
theorem lku_9_75_5 : LKU RX9 75 5 yX9_missed yX5_missed := ⟨by decide, gt_of 794 (by decide +kernel) rfl, gt_of 797 (by decide +kernel) rfl, gt_of 795 (by decide +kernel) rfl, ⟨_, _, _, gt_of (w := .code yX9_missed cX9_missed 1 (some (.int))) 816 (by decide +kernel) rfl⟩, gt_of 806 (by decide +kernel) rfl, gt_of 807 (by decide +kernel) rfl, by decide +kernel, rfl⟩
theorem lku_9_75_9 : LKU RX9 75 9 yX9_missed yX9_missed := ⟨by decide, gt_of 794 (by decide +kernel) rfl, gt_of 797 (by decide +kernel) rfl, gt_of 795 (by decide +kernel) rfl, ⟨_, _, _, gt_of (w := .code yX9_missed cX9_missed 1 (some (.int))) 816 (by decide +kernel) rfl⟩, gt_of 796 (by decide +kernel) rfl, gt_of 795 (by decide +kernel) rfl, by decide +kernel, rfl⟩
theorem lku_9_75_10 : LKU RX9 75 10 yX9_missed yX10_missed := ⟨by decide, gt_of 794 (by decide +kernel) rfl, gt_of 797 (by decide +kernel) rfl, gt_of 795 (by decide +kernel) rfl, ⟨_, _, _, gt_of (w := .code yX9_missed cX9_missed 1 (some (.int))) 816 (by decide +kernel) rfl⟩, gt_of 812 (by decide +kernel) rfl, gt_of 813 (by decide +kernel) rfl, by decide +kernel, rfl⟩
theorem lk_9_75 : LKV RX9 75 9 yX9_missed := ⟨by decide, gt_of 794 (by decide +kernel) rfl, gt_of 795 (by decide +kernel) rfl, gt_of 796 (by decide +kernel) rfl⟩
theorem lsu_1_7 : LKSU RX1 7 yX9_missed := ⟨gt_of 804 (by decide +kernel) rfl, gt_of 797 (by decide +kernel) rfl, gt_of 593 (by decide +kernel) rfl, gt_of 795 (by decide +kernel) rfl, by decide +kernel⟩
theorem lku_1_7_0 : LKU RX1 7 0 yX9_missed yX0_missed := ⟨by decide, gt_of 804 (by decide +kernel) rfl, gt_of 797 (by decide +kernel) rfl, gt_of 795 (by decide +kernel) rfl, ⟨_, _, _, gt_of (w := .code yX9_missed cX9_missed 1 (some (.int))) 816 (by decide +kernel) rfl⟩, gt_of 798 (by decide +kernel) rfl, gt_of 799 (by decide +kernel) rfl, by decide +kernel, rfl⟩
theorem lku_1_7_1 : LKU RX1 7 1 yX9_missed yX1_missed := ⟨by decide, gt_of 804 (by decide +kernel) rfl, gt_of 797 (by decide +kernel) rfl, gt_of 795 (by decide +kernel) rfl, ⟨_, _, _, gt_of (w := .code yX9_missed cX9_missed 1 (some (.int))) 816 (by decide +kernel) rfl⟩, gt_of 801 (by decide +kernel) rfl, gt_of 802 (by decide +kernel) rfl, by decide +kernel, rfl⟩
theorem lku_1_7_3 : LKU RX1 7 3 yX9_missed yX9_missed := ⟨by decide, gt_of 804 (by decide +kernel) rfl, gt_of 797 (by decide +kernel) rfl, gt_of 795 (by decide +kernel) rfl, ⟨_, _, _, gt_of (w := .code yX9_missed cX9_missed 1 (some (.int))) 816 (by decide +kernel) rfl⟩, gt_of 805 (by decide +kernel) rfl, gt_of 795 (by decide +kernel) rfl, by decide +kernel, rfl⟩
theorem lku_1_7_5 : LKU RX1 7 5 yX9_missed yX5_missed := ⟨by decide, gt_of 804 (by decide +kernel) rfl, gt_of 797 (by decide +kernel) rfl, gt_of 795 (by decide +kernel) rfl, ⟨_, _, _, gt_of (w := .code yX9_missed cX9_missed 1 (some (.int))) 816 (by decide +kernel) rfl⟩, gt_of 806 (by decide +kernel) rfl, gt_of 807 (by decide +kernel) rfl, by decide +kernel, rfl⟩
theorem lku_1_7_9 : LKU RX1 7 9 yX9_missed yX9_missed := ⟨by decide, gt_of 804 (by decide +kernel) rfl, gt_of 797 (by decide +kernel) rfl, gt_of 795 (by decide +kernel) rfl, ⟨_, _, _, gt_of (w := .code yX9_missed cX9_missed 1 (some (.int))) 816 (by decide +kernel) rfl⟩, gt_of 796 (by decide +kernel) rfl, gt_of 795 (by decide +kernel) rfl, by decide +kernel, rfl⟩
theorem lku_1_7_10 : LKU RX1 7 10 yX9_missed yX10_missed := ⟨by decide, gt_of 804 (by decide +kernel) rfl, gt_of 797 (by decide +kernel) rfl, gt_of 795 (by decide +kernel) rfl, ⟨_, _, _, gt_of (w := .code yX9_missed cX9_missed 1 (some (.int))) 816 (by decide +kernel) rfl⟩, gt_of 812 (by decide +kernel) rfl, gt_of 813 (by decide +kernel) rfl, by decide +kernel, rfl⟩
theorem lk_1_7 : LKV RX1 7 9 yX9_missed := ⟨by decide, gt_of 804 (by decide +kernel) rfl, gt_of 795 (by decide +kernel) rfl, gt_of 796 (by decide +kernel) rfl⟩
theorem lw_5_11 : Cond.methodLink RX5 11 ⟨"PutOut$Picture", "missed", "()I"⟩ ∈ gT := gt_of 809 (by decide +kernel) rfl
theorem lsu_10_7 : LKSU RX10 7 yX1_missed := ⟨gt_of 815 (by decide +kernel) rfl, gt_of 1623 (by decide +kernel) rfl, gt_of 633 (by decide +kernel) rfl, gt_of 802 (by decide +kernel) rfl, by decide +kernel⟩
theorem lk_4_74 : LKV RX4 74 4 yX4_enterNow := ⟨by decide, gt_of 817 (by decide +kernel) rfl, gt_of 819 (by decide +kernel) rfl, gt_of 21 (by decide +kernel) rfl⟩
theorem lk_11_152 : LKV RX11 152 4 yX4_badDay := ⟨by decide, gt_of 821 (by decide +kernel) rfl, gt_of 822 (by decide +kernel) rfl, gt_of 823 (by decide +kernel) rfl⟩
theorem lku_4_96_0 : LKU RX4 96 0 yX9_bad yX9_bad := ⟨by decide, gt_of 825 (by decide +kernel) rfl, gt_of 828 (by decide +kernel) rfl, gt_of 826 (by decide +kernel) rfl, ⟨_, _, _, gt_of (w := .code yX9_bad cX9_bad 4 (some (.int))) 834 (by decide +kernel) rfl⟩, gt_of 829 (by decide +kernel) rfl, gt_of 826 (by decide +kernel) rfl, by decide +kernel, rfl⟩
theorem lku_4_96_1 : LKU RX4 96 1 yX9_bad yX9_bad := ⟨by decide, gt_of 825 (by decide +kernel) rfl, gt_of 828 (by decide +kernel) rfl, gt_of 826 (by decide +kernel) rfl, ⟨_, _, _, gt_of (w := .code yX9_bad cX9_bad 4 (some (.int))) 834 (by decide +kernel) rfl⟩, gt_of 830 (by decide +kernel) rfl, gt_of 826 (by decide +kernel) rfl, by decide +kernel, rfl⟩
theorem lku_4_96_3 : LKU RX4 96 3 yX9_bad yX9_bad := ⟨by decide, gt_of 825 (by decide +kernel) rfl, gt_of 828 (by decide +kernel) rfl, gt_of 826 (by decide +kernel) rfl, ⟨_, _, _, gt_of (w := .code yX9_bad cX9_bad 4 (some (.int))) 834 (by decide +kernel) rfl⟩, gt_of 831 (by decide +kernel) rfl, gt_of 826 (by decide +kernel) rfl, by decide +kernel, rfl⟩
theorem lku_4_96_5 : LKU RX4 96 5 yX9_bad yX9_bad := ⟨by decide, gt_of 825 (by decide +kernel) rfl, gt_of 828 (by decide +kernel) rfl, gt_of 826 (by decide +kernel) rfl, ⟨_, _, _, gt_of (w := .code yX9_bad cX9_bad 4 (some (.int))) 834 (by decide +kernel) rfl⟩, gt_of 832 (by decide +kernel) rfl, gt_of 826 (by decide +kernel) rfl, by decide +kernel, rfl⟩
theorem lku_4_96_9 : LKU RX4 96 9 yX9_bad yX9_bad := ⟨by decide, gt_of 825 (by decide +kernel) rfl, gt_of 828 (by decide +kernel) rfl, gt_of 826 (by decide +kernel) rfl, ⟨_, _, _, gt_of (w := .code yX9_bad cX9_bad 4 (some (.int))) 834 (by decide +kernel) rfl⟩, gt_of 827 (by decide +kernel) rfl, gt_of 826 (by decide +kernel) rfl, by decide +kernel, rfl⟩
theorem lku_4_96_10 : LKU RX4 96 10 yX9_bad yX9_bad := ⟨by decide, gt_of 825 (by decide +kernel) rfl, gt_of 828 (by decide +kernel) rfl, gt_of 826 (by decide +kernel) rfl, ⟨_, _, _, gt_of (w := .code yX9_bad cX9_bad 4 (some (.int))) 834 (by decide +kernel) rfl⟩, gt_of 833 (by decide +kernel) rfl, gt_of 826 (by decide +kernel) rfl, by decide +kernel, rfl⟩
theorem lk_4_96 : LKV RX4 96 9 yX9_bad := ⟨by decide, gt_of 825 (by decide +kernel) rfl, gt_of 826 (by decide +kernel) rfl, gt_of 827 (by decide +kernel) rfl⟩
theorem lku_9_93_0 : LKU RX9 93 0 yX9_harm yX9_harm := ⟨by decide, gt_of 835 (by decide +kernel) rfl, gt_of 838 (by decide +kernel) rfl, gt_of 836 (by decide +kernel) rfl, ⟨_, _, _, gt_of (w := .code yX9_harm cX9_harm 4 (some (.int))) 844 (by decide +kernel) rfl⟩, gt_of 839 (by decide +kernel) rfl, gt_of 836 (by decide +kernel) rfl, by decide +kernel, rfl⟩
theorem lku_9_93_1 : LKU RX9 93 1 yX9_harm yX9_harm := ⟨by decide, gt_of 835 (by decide +kernel) rfl, gt_of 838 (by decide +kernel) rfl, gt_of 836 (by decide +kernel) rfl, ⟨_, _, _, gt_of (w := .code yX9_harm cX9_harm 4 (some (.int))) 844 (by decide +kernel) rfl⟩, gt_of 840 (by decide +kernel) rfl, gt_of 836 (by decide +kernel) rfl, by decide +kernel, rfl⟩
theorem lku_9_93_3 : LKU RX9 93 3 yX9_harm yX9_harm := ⟨by decide, gt_of 835 (by decide +kernel) rfl, gt_of 838 (by decide +kernel) rfl, gt_of 836 (by decide +kernel) rfl, ⟨_, _, _, gt_of (w := .code yX9_harm cX9_harm 4 (some (.int))) 844 (by decide +kernel) rfl⟩, gt_of 841 (by decide +kernel) rfl, gt_of 836 (by decide +kernel) rfl, by decide +kernel, rfl⟩
theorem lku_9_93_5 : LKU RX9 93 5 yX9_harm yX9_harm := ⟨by decide, gt_of 835 (by decide +kernel) rfl, gt_of 838 (by decide +kernel) rfl, gt_of 836 (by decide +kernel) rfl, ⟨_, _, _, gt_of (w := .code yX9_harm cX9_harm 4 (some (.int))) 844 (by decide +kernel) rfl⟩, gt_of 842 (by decide +kernel) rfl, gt_of 836 (by decide +kernel) rfl, by decide +kernel, rfl⟩
theorem lku_9_93_9 : LKU RX9 93 9 yX9_harm yX9_harm := ⟨by decide, gt_of 835 (by decide +kernel) rfl, gt_of 838 (by decide +kernel) rfl, gt_of 836 (by decide +kernel) rfl, ⟨_, _, _, gt_of (w := .code yX9_harm cX9_harm 4 (some (.int))) 844 (by decide +kernel) rfl⟩, gt_of 837 (by decide +kernel) rfl, gt_of 836 (by decide +kernel) rfl, by decide +kernel, rfl⟩
theorem lku_9_93_10 : LKU RX9 93 10 yX9_harm yX9_harm := ⟨by decide, gt_of 835 (by decide +kernel) rfl, gt_of 838 (by decide +kernel) rfl, gt_of 836 (by decide +kernel) rfl, ⟨_, _, _, gt_of (w := .code yX9_harm cX9_harm 4 (some (.int))) 844 (by decide +kernel) rfl⟩, gt_of 843 (by decide +kernel) rfl, gt_of 836 (by decide +kernel) rfl, by decide +kernel, rfl⟩
theorem lk_9_93 : LKV RX9 93 9 yX9_harm := ⟨by decide, gt_of 835 (by decide +kernel) rfl, gt_of 836 (by decide +kernel) rfl, gt_of 837 (by decide +kernel) rfl⟩
theorem lku_9_85_0 : LKU RX9 85 0 yX9_isMissed yX9_isMissed := ⟨by decide, gt_of 845 (by decide +kernel) rfl, gt_of 848 (by decide +kernel) rfl, gt_of 846 (by decide +kernel) rfl, ⟨_, _, _, gt_of (w := .code yX9_isMissed cX9_isMissed 3 (some (.boolean))) 854 (by decide +kernel) rfl⟩, gt_of 849 (by decide +kernel) rfl, gt_of 846 (by decide +kernel) rfl, by decide +kernel, rfl⟩
theorem lku_9_85_1 : LKU RX9 85 1 yX9_isMissed yX9_isMissed := ⟨by decide, gt_of 845 (by decide +kernel) rfl, gt_of 848 (by decide +kernel) rfl, gt_of 846 (by decide +kernel) rfl, ⟨_, _, _, gt_of (w := .code yX9_isMissed cX9_isMissed 3 (some (.boolean))) 854 (by decide +kernel) rfl⟩, gt_of 850 (by decide +kernel) rfl, gt_of 846 (by decide +kernel) rfl, by decide +kernel, rfl⟩
theorem lku_9_85_3 : LKU RX9 85 3 yX9_isMissed yX9_isMissed := ⟨by decide, gt_of 845 (by decide +kernel) rfl, gt_of 848 (by decide +kernel) rfl, gt_of 846 (by decide +kernel) rfl, ⟨_, _, _, gt_of (w := .code yX9_isMissed cX9_isMissed 3 (some (.boolean))) 854 (by decide +kernel) rfl⟩, gt_of 851 (by decide +kernel) rfl, gt_of 846 (by decide +kernel) rfl, by decide +kernel, rfl⟩
theorem lku_9_85_5 : LKU RX9 85 5 yX9_isMissed yX9_isMissed := ⟨by decide, gt_of 845 (by decide +kernel) rfl, gt_of 848 (by decide +kernel) rfl, gt_of 846 (by decide +kernel) rfl, ⟨_, _, _, gt_of (w := .code yX9_isMissed cX9_isMissed 3 (some (.boolean))) 854 (by decide +kernel) rfl⟩, gt_of 852 (by decide +kernel) rfl, gt_of 846 (by decide +kernel) rfl, by decide +kernel, rfl⟩
theorem lku_9_85_9 : LKU RX9 85 9 yX9_isMissed yX9_isMissed := ⟨by decide, gt_of 845 (by decide +kernel) rfl, gt_of 848 (by decide +kernel) rfl, gt_of 846 (by decide +kernel) rfl, ⟨_, _, _, gt_of (w := .code yX9_isMissed cX9_isMissed 3 (some (.boolean))) 854 (by decide +kernel) rfl⟩, gt_of 847 (by decide +kernel) rfl, gt_of 846 (by decide +kernel) rfl, by decide +kernel, rfl⟩
theorem lku_9_85_10 : LKU RX9 85 10 yX9_isMissed yX9_isMissed := ⟨by decide, gt_of 845 (by decide +kernel) rfl, gt_of 848 (by decide +kernel) rfl, gt_of 846 (by decide +kernel) rfl, ⟨_, _, _, gt_of (w := .code yX9_isMissed cX9_isMissed 3 (some (.boolean))) 854 (by decide +kernel) rfl⟩, gt_of 853 (by decide +kernel) rfl, gt_of 846 (by decide +kernel) rfl, by decide +kernel, rfl⟩
theorem lk_9_85 : LKV RX9 85 9 yX9_isMissed := ⟨by decide, gt_of 845 (by decide +kernel) rfl, gt_of 846 (by decide +kernel) rfl, gt_of 847 (by decide +kernel) rfl⟩
theorem lk_9_88 : LKS RX9 88 yJ6_bitCount_0f7a4 := ⟨gt_of 855 (by decide +kernel) rfl, gt_of 856 (by decide +kernel) rfl⟩
theorem lk_11_156 : LKV RX11 156 4 yX4_thingsThat := ⟨by decide, gt_of 861 (by decide +kernel) rfl, gt_of 862 (by decide +kernel) rfl, gt_of 863 (by decide +kernel) rfl⟩
theorem lku_4_100_0 : LKU RX4 100 0 yX9_isMissed yX9_isMissed := ⟨by decide, gt_of 865 (by decide +kernel) rfl, gt_of 848 (by decide +kernel) rfl, gt_of 846 (by decide +kernel) rfl, ⟨_, _, _, gt_of (w := .code yX9_isMissed cX9_isMissed 3 (some (.boolean))) 854 (by decide +kernel) rfl⟩, gt_of 849 (by decide +kernel) rfl, gt_of 846 (by decide +kernel) rfl, by decide +kernel, rfl⟩
theorem lku_4_100_1 : LKU RX4 100 1 yX9_isMissed yX9_isMissed := ⟨by decide, gt_of 865 (by decide +kernel) rfl, gt_of 848 (by decide +kernel) rfl, gt_of 846 (by decide +kernel) rfl, ⟨_, _, _, gt_of (w := .code yX9_isMissed cX9_isMissed 3 (some (.boolean))) 854 (by decide +kernel) rfl⟩, gt_of 850 (by decide +kernel) rfl, gt_of 846 (by decide +kernel) rfl, by decide +kernel, rfl⟩
theorem lku_4_100_3 : LKU RX4 100 3 yX9_isMissed yX9_isMissed := ⟨by decide, gt_of 865 (by decide +kernel) rfl, gt_of 848 (by decide +kernel) rfl, gt_of 846 (by decide +kernel) rfl, ⟨_, _, _, gt_of (w := .code yX9_isMissed cX9_isMissed 3 (some (.boolean))) 854 (by decide +kernel) rfl⟩, gt_of 851 (by decide +kernel) rfl, gt_of 846 (by decide +kernel) rfl, by decide +kernel, rfl⟩
theorem lku_4_100_5 : LKU RX4 100 5 yX9_isMissed yX9_isMissed := ⟨by decide, gt_of 865 (by decide +kernel) rfl, gt_of 848 (by decide +kernel) rfl, gt_of 846 (by decide +kernel) rfl, ⟨_, _, _, gt_of (w := .code yX9_isMissed cX9_isMissed 3 (some (.boolean))) 854 (by decide +kernel) rfl⟩, gt_of 852 (by decide +kernel) rfl, gt_of 846 (by decide +kernel) rfl, by decide +kernel, rfl⟩
theorem lku_4_100_9 : LKU RX4 100 9 yX9_isMissed yX9_isMissed := ⟨by decide, gt_of 865 (by decide +kernel) rfl, gt_of 848 (by decide +kernel) rfl, gt_of 846 (by decide +kernel) rfl, ⟨_, _, _, gt_of (w := .code yX9_isMissed cX9_isMissed 3 (some (.boolean))) 854 (by decide +kernel) rfl⟩, gt_of 847 (by decide +kernel) rfl, gt_of 846 (by decide +kernel) rfl, by decide +kernel, rfl⟩
theorem lku_4_100_10 : LKU RX4 100 10 yX9_isMissed yX9_isMissed := ⟨by decide, gt_of 865 (by decide +kernel) rfl, gt_of 848 (by decide +kernel) rfl, gt_of 846 (by decide +kernel) rfl, ⟨_, _, _, gt_of (w := .code yX9_isMissed cX9_isMissed 3 (some (.boolean))) 854 (by decide +kernel) rfl⟩, gt_of 853 (by decide +kernel) rfl, gt_of 846 (by decide +kernel) rfl, by decide +kernel, rfl⟩
theorem lk_4_100 : LKV RX4 100 9 yX9_isMissed := ⟨by decide, gt_of 865 (by decide +kernel) rfl, gt_of 846 (by decide +kernel) rfl, gt_of 847 (by decide +kernel) rfl⟩
theorem lku_4_103_0 : LKU RX4 103 0 yX9_isOffending yX9_isOffending := ⟨by decide, gt_of 866 (by decide +kernel) rfl, gt_of 869 (by decide +kernel) rfl, gt_of 867 (by decide +kernel) rfl, ⟨_, _, _, gt_of (w := .code yX9_isOffending cX9_isOffending 3 (some (.boolean))) 875 (by decide +kernel) rfl⟩, gt_of 870 (by decide +kernel) rfl, gt_of 867 (by decide +kernel) rfl, by decide +kernel, rfl⟩
theorem lku_4_103_1 : LKU RX4 103 1 yX9_isOffending yX9_isOffending := ⟨by decide, gt_of 866 (by decide +kernel) rfl, gt_of 869 (by decide +kernel) rfl, gt_of 867 (by decide +kernel) rfl, ⟨_, _, _, gt_of (w := .code yX9_isOffending cX9_isOffending 3 (some (.boolean))) 875 (by decide +kernel) rfl⟩, gt_of 871 (by decide +kernel) rfl, gt_of 867 (by decide +kernel) rfl, by decide +kernel, rfl⟩
theorem lku_4_103_3 : LKU RX4 103 3 yX9_isOffending yX9_isOffending := ⟨by decide, gt_of 866 (by decide +kernel) rfl, gt_of 869 (by decide +kernel) rfl, gt_of 867 (by decide +kernel) rfl, ⟨_, _, _, gt_of (w := .code yX9_isOffending cX9_isOffending 3 (some (.boolean))) 875 (by decide +kernel) rfl⟩, gt_of 872 (by decide +kernel) rfl, gt_of 867 (by decide +kernel) rfl, by decide +kernel, rfl⟩
theorem lku_4_103_5 : LKU RX4 103 5 yX9_isOffending yX9_isOffending := ⟨by decide, gt_of 866 (by decide +kernel) rfl, gt_of 869 (by decide +kernel) rfl, gt_of 867 (by decide +kernel) rfl, ⟨_, _, _, gt_of (w := .code yX9_isOffending cX9_isOffending 3 (some (.boolean))) 875 (by decide +kernel) rfl⟩, gt_of 873 (by decide +kernel) rfl, gt_of 867 (by decide +kernel) rfl, by decide +kernel, rfl⟩
theorem lku_4_103_9 : LKU RX4 103 9 yX9_isOffending yX9_isOffending := ⟨by decide, gt_of 866 (by decide +kernel) rfl, gt_of 869 (by decide +kernel) rfl, gt_of 867 (by decide +kernel) rfl, ⟨_, _, _, gt_of (w := .code yX9_isOffending cX9_isOffending 3 (some (.boolean))) 875 (by decide +kernel) rfl⟩, gt_of 868 (by decide +kernel) rfl, gt_of 867 (by decide +kernel) rfl, by decide +kernel, rfl⟩
theorem lku_4_103_10 : LKU RX4 103 10 yX9_isOffending yX9_isOffending := ⟨by decide, gt_of 866 (by decide +kernel) rfl, gt_of 869 (by decide +kernel) rfl, gt_of 867 (by decide +kernel) rfl, ⟨_, _, _, gt_of (w := .code yX9_isOffending cX9_isOffending 3 (some (.boolean))) 875 (by decide +kernel) rfl⟩, gt_of 874 (by decide +kernel) rfl, gt_of 867 (by decide +kernel) rfl, by decide +kernel, rfl⟩
theorem lk_4_103 : LKV RX4 103 9 yX9_isOffending := ⟨by decide, gt_of 866 (by decide +kernel) rfl, gt_of 867 (by decide +kernel) rfl, gt_of 868 (by decide +kernel) rfl⟩
theorem lku_4_106_0 : LKU RX4 106 0 yX9_harm yX9_harm := ⟨by decide, gt_of 876 (by decide +kernel) rfl, gt_of 838 (by decide +kernel) rfl, gt_of 836 (by decide +kernel) rfl, ⟨_, _, _, gt_of (w := .code yX9_harm cX9_harm 4 (some (.int))) 844 (by decide +kernel) rfl⟩, gt_of 839 (by decide +kernel) rfl, gt_of 836 (by decide +kernel) rfl, by decide +kernel, rfl⟩
theorem lku_4_106_1 : LKU RX4 106 1 yX9_harm yX9_harm := ⟨by decide, gt_of 876 (by decide +kernel) rfl, gt_of 838 (by decide +kernel) rfl, gt_of 836 (by decide +kernel) rfl, ⟨_, _, _, gt_of (w := .code yX9_harm cX9_harm 4 (some (.int))) 844 (by decide +kernel) rfl⟩, gt_of 840 (by decide +kernel) rfl, gt_of 836 (by decide +kernel) rfl, by decide +kernel, rfl⟩
theorem lku_4_106_3 : LKU RX4 106 3 yX9_harm yX9_harm := ⟨by decide, gt_of 876 (by decide +kernel) rfl, gt_of 838 (by decide +kernel) rfl, gt_of 836 (by decide +kernel) rfl, ⟨_, _, _, gt_of (w := .code yX9_harm cX9_harm 4 (some (.int))) 844 (by decide +kernel) rfl⟩, gt_of 841 (by decide +kernel) rfl, gt_of 836 (by decide +kernel) rfl, by decide +kernel, rfl⟩
theorem lku_4_106_5 : LKU RX4 106 5 yX9_harm yX9_harm := ⟨by decide, gt_of 876 (by decide +kernel) rfl, gt_of 838 (by decide +kernel) rfl, gt_of 836 (by decide +kernel) rfl, ⟨_, _, _, gt_of (w := .code yX9_harm cX9_harm 4 (some (.int))) 844 (by decide +kernel) rfl⟩, gt_of 842 (by decide +kernel) rfl, gt_of 836 (by decide +kernel) rfl, by decide +kernel, rfl⟩
theorem lku_4_106_9 : LKU RX4 106 9 yX9_harm yX9_harm := ⟨by decide, gt_of 876 (by decide +kernel) rfl, gt_of 838 (by decide +kernel) rfl, gt_of 836 (by decide +kernel) rfl, ⟨_, _, _, gt_of (w := .code yX9_harm cX9_harm 4 (some (.int))) 844 (by decide +kernel) rfl⟩, gt_of 837 (by decide +kernel) rfl, gt_of 836 (by decide +kernel) rfl, by decide +kernel, rfl⟩
theorem lku_4_106_10 : LKU RX4 106 10 yX9_harm yX9_harm := ⟨by decide, gt_of 876 (by decide +kernel) rfl, gt_of 838 (by decide +kernel) rfl, gt_of 836 (by decide +kernel) rfl, ⟨_, _, _, gt_of (w := .code yX9_harm cX9_harm 4 (some (.int))) 844 (by decide +kernel) rfl⟩, gt_of 843 (by decide +kernel) rfl, gt_of 836 (by decide +kernel) rfl, by decide +kernel, rfl⟩
theorem lk_4_106 : LKV RX4 106 9 yX9_harm := ⟨by decide, gt_of 876 (by decide +kernel) rfl, gt_of 836 (by decide +kernel) rfl, gt_of 837 (by decide +kernel) rfl⟩
theorem lk_L_49 : LKV RL 49 11 yX11_best := ⟨by decide, gt_of 877 (by decide +kernel) rfl, gt_of 878 (by decide +kernel) rfl, gt_of 879 (by decide +kernel) rfl⟩
theorem lk_11_159 : LKV RX11 159 4 yX4_bestFor := ⟨by decide, gt_of 881 (by decide +kernel) rfl, gt_of 882 (by decide +kernel) rfl, gt_of 883 (by decide +kernel) rfl⟩
theorem lk_4_113 : LKV RX4 113 4 yX4_priceNothing := ⟨by decide, gt_of 885 (by decide +kernel) rfl, gt_of 887 (by decide +kernel) rfl, gt_of 22 (by decide +kernel) rfl⟩
theorem lku_4_140_0 : LKU RX4 140 0 yX9_priceNothing yX9_priceNothing := ⟨by decide, gt_of 889 (by decide +kernel) rfl, gt_of 892 (by decide +kernel) rfl, gt_of 890 (by decide +kernel) rfl, ⟨_, _, _, gt_of (w := .code yX9_priceNothing cX9_priceNothing 3 (none)) 898 (by decide +kernel) rfl⟩, gt_of 893 (by decide +kernel) rfl, gt_of 890 (by decide +kernel) rfl, by decide +kernel, rfl⟩
theorem lku_4_140_1 : LKU RX4 140 1 yX9_priceNothing yX9_priceNothing := ⟨by decide, gt_of 889 (by decide +kernel) rfl, gt_of 892 (by decide +kernel) rfl, gt_of 890 (by decide +kernel) rfl, ⟨_, _, _, gt_of (w := .code yX9_priceNothing cX9_priceNothing 3 (none)) 898 (by decide +kernel) rfl⟩, gt_of 894 (by decide +kernel) rfl, gt_of 890 (by decide +kernel) rfl, by decide +kernel, rfl⟩
theorem lku_4_140_3 : LKU RX4 140 3 yX9_priceNothing yX9_priceNothing := ⟨by decide, gt_of 889 (by decide +kernel) rfl, gt_of 892 (by decide +kernel) rfl, gt_of 890 (by decide +kernel) rfl, ⟨_, _, _, gt_of (w := .code yX9_priceNothing cX9_priceNothing 3 (none)) 898 (by decide +kernel) rfl⟩, gt_of 895 (by decide +kernel) rfl, gt_of 890 (by decide +kernel) rfl, by decide +kernel, rfl⟩
theorem lku_4_140_5 : LKU RX4 140 5 yX9_priceNothing yX9_priceNothing := ⟨by decide, gt_of 889 (by decide +kernel) rfl, gt_of 892 (by decide +kernel) rfl, gt_of 890 (by decide +kernel) rfl, ⟨_, _, _, gt_of (w := .code yX9_priceNothing cX9_priceNothing 3 (none)) 898 (by decide +kernel) rfl⟩, gt_of 896 (by decide +kernel) rfl, gt_of 890 (by decide +kernel) rfl, by decide +kernel, rfl⟩
theorem lku_4_140_9 : LKU RX4 140 9 yX9_priceNothing yX9_priceNothing := ⟨by decide, gt_of 889 (by decide +kernel) rfl, gt_of 892 (by decide +kernel) rfl, gt_of 890 (by decide +kernel) rfl, ⟨_, _, _, gt_of (w := .code yX9_priceNothing cX9_priceNothing 3 (none)) 898 (by decide +kernel) rfl⟩, gt_of 891 (by decide +kernel) rfl, gt_of 890 (by decide +kernel) rfl, by decide +kernel, rfl⟩
theorem lku_4_140_10 : LKU RX4 140 10 yX9_priceNothing yX9_priceNothing := ⟨by decide, gt_of 889 (by decide +kernel) rfl, gt_of 892 (by decide +kernel) rfl, gt_of 890 (by decide +kernel) rfl, ⟨_, _, _, gt_of (w := .code yX9_priceNothing cX9_priceNothing 3 (none)) 898 (by decide +kernel) rfl⟩, gt_of 897 (by decide +kernel) rfl, gt_of 890 (by decide +kernel) rfl, by decide +kernel, rfl⟩
theorem lk_4_140 : LKV RX4 140 9 yX9_priceNothing := ⟨by decide, gt_of 889 (by decide +kernel) rfl, gt_of 890 (by decide +kernel) rfl, gt_of 891 (by decide +kernel) rfl⟩
theorem lk_4_126 : LKV RX4 126 4 yX4_priceMoves := ⟨by decide, gt_of 899 (by decide +kernel) rfl, gt_of 901 (by decide +kernel) rfl, gt_of 23 (by decide +kernel) rfl⟩
theorem lku_4_143_0 : LKU RX4 143 0 yX9_priceMoves yX9_priceMoves := ⟨by decide, gt_of 903 (by decide +kernel) rfl, gt_of 906 (by decide +kernel) rfl, gt_of 904 (by decide +kernel) rfl, ⟨_, _, _, gt_of (w := .code yX9_priceMoves cX9_priceMoves 3 (none)) 912 (by decide +kernel) rfl⟩, gt_of 907 (by decide +kernel) rfl, gt_of 904 (by decide +kernel) rfl, by decide +kernel, rfl⟩
theorem lku_4_143_1 : LKU RX4 143 1 yX9_priceMoves yX9_priceMoves := ⟨by decide, gt_of 903 (by decide +kernel) rfl, gt_of 906 (by decide +kernel) rfl, gt_of 904 (by decide +kernel) rfl, ⟨_, _, _, gt_of (w := .code yX9_priceMoves cX9_priceMoves 3 (none)) 912 (by decide +kernel) rfl⟩, gt_of 908 (by decide +kernel) rfl, gt_of 904 (by decide +kernel) rfl, by decide +kernel, rfl⟩
theorem lku_4_143_3 : LKU RX4 143 3 yX9_priceMoves yX9_priceMoves := ⟨by decide, gt_of 903 (by decide +kernel) rfl, gt_of 906 (by decide +kernel) rfl, gt_of 904 (by decide +kernel) rfl, ⟨_, _, _, gt_of (w := .code yX9_priceMoves cX9_priceMoves 3 (none)) 912 (by decide +kernel) rfl⟩, gt_of 909 (by decide +kernel) rfl, gt_of 904 (by decide +kernel) rfl, by decide +kernel, rfl⟩
theorem lku_4_143_5 : LKU RX4 143 5 yX9_priceMoves yX9_priceMoves := ⟨by decide, gt_of 903 (by decide +kernel) rfl, gt_of 906 (by decide +kernel) rfl, gt_of 904 (by decide +kernel) rfl, ⟨_, _, _, gt_of (w := .code yX9_priceMoves cX9_priceMoves 3 (none)) 912 (by decide +kernel) rfl⟩, gt_of 910 (by decide +kernel) rfl, gt_of 904 (by decide +kernel) rfl, by decide +kernel, rfl⟩
theorem lku_4_143_9 : LKU RX4 143 9 yX9_priceMoves yX9_priceMoves := ⟨by decide, gt_of 903 (by decide +kernel) rfl, gt_of 906 (by decide +kernel) rfl, gt_of 904 (by decide +kernel) rfl, ⟨_, _, _, gt_of (w := .code yX9_priceMoves cX9_priceMoves 3 (none)) 912 (by decide +kernel) rfl⟩, gt_of 905 (by decide +kernel) rfl, gt_of 904 (by decide +kernel) rfl, by decide +kernel, rfl⟩
theorem lku_4_143_10 : LKU RX4 143 10 yX9_priceMoves yX9_priceMoves := ⟨by decide, gt_of 903 (by decide +kernel) rfl, gt_of 906 (by decide +kernel) rfl, gt_of 904 (by decide +kernel) rfl, ⟨_, _, _, gt_of (w := .code yX9_priceMoves cX9_priceMoves 3 (none)) 912 (by decide +kernel) rfl⟩, gt_of 911 (by decide +kernel) rfl, gt_of 904 (by decide +kernel) rfl, by decide +kernel, rfl⟩
theorem lk_4_143 : LKV RX4 143 9 yX9_priceMoves := ⟨by decide, gt_of 903 (by decide +kernel) rfl, gt_of 904 (by decide +kernel) rfl, gt_of 905 (by decide +kernel) rfl⟩
theorem lk_4_116 : LKV RX4 116 4 yX4_priceDay := ⟨by decide, gt_of 913 (by decide +kernel) rfl, gt_of 915 (by decide +kernel) rfl, gt_of 24 (by decide +kernel) rfl⟩
theorem lku_4_145_0 : LKU RX4 145 0 yX9_priceDay yX9_priceDay := ⟨by decide, gt_of 917 (by decide +kernel) rfl, gt_of 920 (by decide +kernel) rfl, gt_of 918 (by decide +kernel) rfl, ⟨_, _, _, gt_of (w := .code yX9_priceDay cX9_priceDay 4 (none)) 926 (by decide +kernel) rfl⟩, gt_of 921 (by decide +kernel) rfl, gt_of 918 (by decide +kernel) rfl, by decide +kernel, rfl⟩
theorem lku_4_145_1 : LKU RX4 145 1 yX9_priceDay yX9_priceDay := ⟨by decide, gt_of 917 (by decide +kernel) rfl, gt_of 920 (by decide +kernel) rfl, gt_of 918 (by decide +kernel) rfl, ⟨_, _, _, gt_of (w := .code yX9_priceDay cX9_priceDay 4 (none)) 926 (by decide +kernel) rfl⟩, gt_of 922 (by decide +kernel) rfl, gt_of 918 (by decide +kernel) rfl, by decide +kernel, rfl⟩
theorem lku_4_145_3 : LKU RX4 145 3 yX9_priceDay yX9_priceDay := ⟨by decide, gt_of 917 (by decide +kernel) rfl, gt_of 920 (by decide +kernel) rfl, gt_of 918 (by decide +kernel) rfl, ⟨_, _, _, gt_of (w := .code yX9_priceDay cX9_priceDay 4 (none)) 926 (by decide +kernel) rfl⟩, gt_of 923 (by decide +kernel) rfl, gt_of 918 (by decide +kernel) rfl, by decide +kernel, rfl⟩
theorem lku_4_145_5 : LKU RX4 145 5 yX9_priceDay yX9_priceDay := ⟨by decide, gt_of 917 (by decide +kernel) rfl, gt_of 920 (by decide +kernel) rfl, gt_of 918 (by decide +kernel) rfl, ⟨_, _, _, gt_of (w := .code yX9_priceDay cX9_priceDay 4 (none)) 926 (by decide +kernel) rfl⟩, gt_of 924 (by decide +kernel) rfl, gt_of 918 (by decide +kernel) rfl, by decide +kernel, rfl⟩
theorem lku_4_145_9 : LKU RX4 145 9 yX9_priceDay yX9_priceDay := ⟨by decide, gt_of 917 (by decide +kernel) rfl, gt_of 920 (by decide +kernel) rfl, gt_of 918 (by decide +kernel) rfl, ⟨_, _, _, gt_of (w := .code yX9_priceDay cX9_priceDay 4 (none)) 926 (by decide +kernel) rfl⟩, gt_of 919 (by decide +kernel) rfl, gt_of 918 (by decide +kernel) rfl, by decide +kernel, rfl⟩
theorem lku_4_145_10 : LKU RX4 145 10 yX9_priceDay yX9_priceDay := ⟨by decide, gt_of 917 (by decide +kernel) rfl, gt_of 920 (by decide +kernel) rfl, gt_of 918 (by decide +kernel) rfl, ⟨_, _, _, gt_of (w := .code yX9_priceDay cX9_priceDay 4 (none)) 926 (by decide +kernel) rfl⟩, gt_of 925 (by decide +kernel) rfl, gt_of 918 (by decide +kernel) rfl, by decide +kernel, rfl⟩
theorem lk_4_145 : LKV RX4 145 9 yX9_priceDay := ⟨by decide, gt_of 917 (by decide +kernel) rfl, gt_of 918 (by decide +kernel) rfl, gt_of 919 (by decide +kernel) rfl⟩
theorem lk_4_123 : LKV RX4 123 4 yX4_search := ⟨by decide, gt_of 927 (by decide +kernel) rfl, gt_of 929 (by decide +kernel) rfl, gt_of 25 (by decide +kernel) rfl⟩
theorem lk_4_148 : LKS RX4 148 yJ7_fill_53178 := ⟨gt_of 931 (by decide +kernel) rfl, gt_of 108 (by decide +kernel) rfl⟩
theorem lk_4_154 : LKV RX4 154 4 yX4_fillLeast := ⟨by decide, gt_of 932 (by decide +kernel) rfl, gt_of 934 (by decide +kernel) rfl, gt_of 26 (by decide +kernel) rfl⟩
theorem lk_4_162 : LKS RX4 162 yJ6_bitCount_0f7a4 := ⟨gt_of 936 (by decide +kernel) rfl, gt_of 856 (by decide +kernel) rfl⟩
theorem lk_4_168 : LKV RX4 168 4 yX4_costFrom := ⟨by decide, gt_of 938 (by decide +kernel) rfl, gt_of 940 (by decide +kernel) rfl, gt_of 27 (by decide +kernel) rfl⟩
theorem lk_4_88 : LKS RX4 88 yX4_bitOf := ⟨gt_of 942 (by decide +kernel) rfl, gt_of 943 (by decide +kernel) rfl⟩
theorem lk_4_172 : LKS RX4 172 yJ9_min_7cf53 := ⟨gt_of 945 (by decide +kernel) rfl, gt_of 474 (by decide +kernel) rfl⟩
theorem lk_4_158 : LKV RX4 158 4 yX4_follow := ⟨by decide, gt_of 946 (by decide +kernel) rfl, gt_of 948 (by decide +kernel) rfl, gt_of 28 (by decide +kernel) rfl⟩
theorem lk_L_53 : LKV RL 53 11 yX11_tidy := ⟨by decide, gt_of 950 (by decide +kernel) rfl, gt_of 951 (by decide +kernel) rfl, gt_of 952 (by decide +kernel) rfl⟩
theorem lk_L_57 : LKV RL 57 11 yX11_once := ⟨by decide, gt_of 954 (by decide +kernel) rfl, gt_of 955 (by decide +kernel) rfl, gt_of 956 (by decide +kernel) rfl⟩
theorem lk_11_165 : LKV RX11 165 4 yX4_onceCost := ⟨by decide, gt_of 958 (by decide +kernel) rfl, gt_of 959 (by decide +kernel) rfl, gt_of 960 (by decide +kernel) rfl⟩
theorem lk_L_61 : LKV RL 61 11 yX11_week := ⟨by decide, gt_of 962 (by decide +kernel) rfl, gt_of 963 (by decide +kernel) rfl, gt_of 964 (by decide +kernel) rfl⟩
theorem lk_11_168 : LKV RX11 168 4 yX4_weekCost := ⟨by decide, gt_of 966 (by decide +kernel) rfl, gt_of 967 (by decide +kernel) rfl, gt_of 968 (by decide +kernel) rfl⟩
theorem lk_4_129 : LKV RX4 129 4 yX4_bestFor := ⟨by decide, gt_of 970 (by decide +kernel) rfl, gt_of 882 (by decide +kernel) rfl, gt_of 883 (by decide +kernel) rfl⟩
theorem lk_4_132 : LKV RX4 132 4 yX4_enterFound := ⟨by decide, gt_of 971 (by decide +kernel) rfl, gt_of 973 (by decide +kernel) rfl, gt_of 29 (by decide +kernel) rfl⟩
theorem lk_L_65 : LKV RL 65 11 yX11_dearest := ⟨by decide, gt_of 975 (by decide +kernel) rfl, gt_of 976 (by decide +kernel) rfl, gt_of 977 (by decide +kernel) rfl⟩
theorem lk_11_178 : LKV RX11 178 4 yX4_leaveOut := ⟨by decide, gt_of 980 (by decide +kernel) rfl, gt_of 981 (by decide +kernel) rfl, gt_of 982 (by decide +kernel) rfl⟩
theorem lk_L_69 : LKV RL 69 11 yX11_give := ⟨by decide, gt_of 984 (by decide +kernel) rfl, gt_of 985 (by decide +kernel) rfl, gt_of 986 (by decide +kernel) rfl⟩
theorem lk_11_182 : LKV RX11 182 4 yX4_giveAway := ⟨by decide, gt_of 988 (by decide +kernel) rfl, gt_of 989 (by decide +kernel) rfl, gt_of 990 (by decide +kernel) rfl⟩
theorem lk_11_186 : LKV RX11 186 4 yX4_lackOf := ⟨by decide, gt_of 992 (by decide +kernel) rfl, gt_of 993 (by decide +kernel) rfl, gt_of 994 (by decide +kernel) rfl⟩
theorem lku_4_136_0 : LKU RX4 136 0 yX9_lackFor yX9_lackFor := ⟨by decide, gt_of 996 (by decide +kernel) rfl, gt_of 999 (by decide +kernel) rfl, gt_of 997 (by decide +kernel) rfl, ⟨_, _, _, gt_of (w := .code yX9_lackFor cX9_lackFor 2 (some (.int))) 1005 (by decide +kernel) rfl⟩, gt_of 1000 (by decide +kernel) rfl, gt_of 997 (by decide +kernel) rfl, by decide +kernel, rfl⟩
theorem lku_4_136_1 : LKU RX4 136 1 yX9_lackFor yX9_lackFor := ⟨by decide, gt_of 996 (by decide +kernel) rfl, gt_of 999 (by decide +kernel) rfl, gt_of 997 (by decide +kernel) rfl, ⟨_, _, _, gt_of (w := .code yX9_lackFor cX9_lackFor 2 (some (.int))) 1005 (by decide +kernel) rfl⟩, gt_of 1001 (by decide +kernel) rfl, gt_of 997 (by decide +kernel) rfl, by decide +kernel, rfl⟩
theorem lku_4_136_3 : LKU RX4 136 3 yX9_lackFor yX9_lackFor := ⟨by decide, gt_of 996 (by decide +kernel) rfl, gt_of 999 (by decide +kernel) rfl, gt_of 997 (by decide +kernel) rfl, ⟨_, _, _, gt_of (w := .code yX9_lackFor cX9_lackFor 2 (some (.int))) 1005 (by decide +kernel) rfl⟩, gt_of 1002 (by decide +kernel) rfl, gt_of 997 (by decide +kernel) rfl, by decide +kernel, rfl⟩
theorem lku_4_136_5 : LKU RX4 136 5 yX9_lackFor yX9_lackFor := ⟨by decide, gt_of 996 (by decide +kernel) rfl, gt_of 999 (by decide +kernel) rfl, gt_of 997 (by decide +kernel) rfl, ⟨_, _, _, gt_of (w := .code yX9_lackFor cX9_lackFor 2 (some (.int))) 1005 (by decide +kernel) rfl⟩, gt_of 1003 (by decide +kernel) rfl, gt_of 997 (by decide +kernel) rfl, by decide +kernel, rfl⟩
theorem lku_4_136_9 : LKU RX4 136 9 yX9_lackFor yX9_lackFor := ⟨by decide, gt_of 996 (by decide +kernel) rfl, gt_of 999 (by decide +kernel) rfl, gt_of 997 (by decide +kernel) rfl, ⟨_, _, _, gt_of (w := .code yX9_lackFor cX9_lackFor 2 (some (.int))) 1005 (by decide +kernel) rfl⟩, gt_of 998 (by decide +kernel) rfl, gt_of 997 (by decide +kernel) rfl, by decide +kernel, rfl⟩
theorem lku_4_136_10 : LKU RX4 136 10 yX9_lackFor yX9_lackFor := ⟨by decide, gt_of 996 (by decide +kernel) rfl, gt_of 999 (by decide +kernel) rfl, gt_of 997 (by decide +kernel) rfl, ⟨_, _, _, gt_of (w := .code yX9_lackFor cX9_lackFor 2 (some (.int))) 1005 (by decide +kernel) rfl⟩, gt_of 1004 (by decide +kernel) rfl, gt_of 997 (by decide +kernel) rfl, by decide +kernel, rfl⟩
theorem lk_4_136 : LKV RX4 136 9 yX9_lackFor := ⟨by decide, gt_of 996 (by decide +kernel) rfl, gt_of 997 (by decide +kernel) rfl, gt_of 998 (by decide +kernel) rfl⟩
theorem lk_L_73 : LKV RL 73 11 yX11_seat := ⟨by decide, gt_of 1006 (by decide +kernel) rfl, gt_of 1007 (by decide +kernel) rfl, gt_of 1008 (by decide +kernel) rfl⟩
theorem lk_11_189 : LKV RX11 189 4 yX4_sits := ⟨by decide, gt_of 1010 (by decide +kernel) rfl, gt_of 1011 (by decide +kernel) rfl, gt_of 1012 (by decide +kernel) rfl⟩
theorem lk_L_77 : LKV RL 77 11 yX11_seen := ⟨by decide, gt_of 1014 (by decide +kernel) rfl, gt_of 1015 (by decide +kernel) rfl, gt_of 1016 (by decide +kernel) rfl⟩
theorem lk_11_202 : LKV RX11 202 4 yX4_enters := ⟨by decide, gt_of 1018 (by decide +kernel) rfl, gt_of 1019 (by decide +kernel) rfl, gt_of 1020 (by decide +kernel) rfl⟩
theorem lk_4_84 : LKSN RX4 84 yX11_isBelow := ⟨by decide +kernel, gt_of 529 (by decide +kernel) rfl⟩
theorem lku_4_92_0 : LKU RX4 92 0 yX9_isBarred yX9_isBarred := ⟨by decide, gt_of 1023 (by decide +kernel) rfl, gt_of 1026 (by decide +kernel) rfl, gt_of 1024 (by decide +kernel) rfl, ⟨_, _, _, gt_of (w := .code yX9_isBarred cX9_isBarred 2 (some (.boolean))) 1032 (by decide +kernel) rfl⟩, gt_of 1027 (by decide +kernel) rfl, gt_of 1024 (by decide +kernel) rfl, by decide +kernel, rfl⟩
theorem lku_4_92_1 : LKU RX4 92 1 yX9_isBarred yX9_isBarred := ⟨by decide, gt_of 1023 (by decide +kernel) rfl, gt_of 1026 (by decide +kernel) rfl, gt_of 1024 (by decide +kernel) rfl, ⟨_, _, _, gt_of (w := .code yX9_isBarred cX9_isBarred 2 (some (.boolean))) 1032 (by decide +kernel) rfl⟩, gt_of 1028 (by decide +kernel) rfl, gt_of 1024 (by decide +kernel) rfl, by decide +kernel, rfl⟩
theorem lku_4_92_3 : LKU RX4 92 3 yX9_isBarred yX9_isBarred := ⟨by decide, gt_of 1023 (by decide +kernel) rfl, gt_of 1026 (by decide +kernel) rfl, gt_of 1024 (by decide +kernel) rfl, ⟨_, _, _, gt_of (w := .code yX9_isBarred cX9_isBarred 2 (some (.boolean))) 1032 (by decide +kernel) rfl⟩, gt_of 1029 (by decide +kernel) rfl, gt_of 1024 (by decide +kernel) rfl, by decide +kernel, rfl⟩
theorem lku_4_92_5 : LKU RX4 92 5 yX9_isBarred yX9_isBarred := ⟨by decide, gt_of 1023 (by decide +kernel) rfl, gt_of 1026 (by decide +kernel) rfl, gt_of 1024 (by decide +kernel) rfl, ⟨_, _, _, gt_of (w := .code yX9_isBarred cX9_isBarred 2 (some (.boolean))) 1032 (by decide +kernel) rfl⟩, gt_of 1030 (by decide +kernel) rfl, gt_of 1024 (by decide +kernel) rfl, by decide +kernel, rfl⟩
theorem lku_4_92_9 : LKU RX4 92 9 yX9_isBarred yX9_isBarred := ⟨by decide, gt_of 1023 (by decide +kernel) rfl, gt_of 1026 (by decide +kernel) rfl, gt_of 1024 (by decide +kernel) rfl, ⟨_, _, _, gt_of (w := .code yX9_isBarred cX9_isBarred 2 (some (.boolean))) 1032 (by decide +kernel) rfl⟩, gt_of 1025 (by decide +kernel) rfl, gt_of 1024 (by decide +kernel) rfl, by decide +kernel, rfl⟩
theorem lku_4_92_10 : LKU RX4 92 10 yX9_isBarred yX9_isBarred := ⟨by decide, gt_of 1023 (by decide +kernel) rfl, gt_of 1026 (by decide +kernel) rfl, gt_of 1024 (by decide +kernel) rfl, ⟨_, _, _, gt_of (w := .code yX9_isBarred cX9_isBarred 2 (some (.boolean))) 1032 (by decide +kernel) rfl⟩, gt_of 1031 (by decide +kernel) rfl, gt_of 1024 (by decide +kernel) rfl, by decide +kernel, rfl⟩
theorem lk_4_92 : LKV RX4 92 9 yX9_isBarred := ⟨by decide, gt_of 1023 (by decide +kernel) rfl, gt_of 1024 (by decide +kernel) rfl, gt_of 1025 (by decide +kernel) rfl⟩
theorem lk_11_206 : LKV RX11 206 4 yX4_surprised := ⟨by decide, gt_of 1033 (by decide +kernel) rfl, gt_of 1034 (by decide +kernel) rfl, gt_of 1035 (by decide +kernel) rfl⟩
theorem lk_11_209 : LKV RX11 209 4 yX4_expected := ⟨by decide, gt_of 1037 (by decide +kernel) rfl, gt_of 1038 (by decide +kernel) rfl, gt_of 1039 (by decide +kernel) rfl⟩
theorem lk_4_120 : LKV RX4 120 4 yX4_badDay := ⟨by decide, gt_of 1041 (by decide +kernel) rfl, gt_of 822 (by decide +kernel) rfl, gt_of 823 (by decide +kernel) rfl⟩
theorem lk_11_212 : LKS RX11 212 yJ6_bitCount_0f7a4 := ⟨gt_of 1042 (by decide +kernel) rfl, gt_of 856 (by decide +kernel) rfl⟩
theorem lk_11_217 : LKS RX11 217 yX11_lowestBit := ⟨gt_of 1043 (by decide +kernel) rfl, gt_of 1044 (by decide +kernel) rfl⟩
theorem lk_L_81 : LKV RL 81 11 yX11_film := ⟨by decide, gt_of 1046 (by decide +kernel) rfl, gt_of 1047 (by decide +kernel) rfl, gt_of 1048 (by decide +kernel) rfl⟩
theorem lk_11_220 : LKV RX11 220 7 yX7_become := ⟨by decide, gt_of 1050 (by decide +kernel) rfl, gt_of 1051 (by decide +kernel) rfl, gt_of 1052 (by decide +kernel) rfl⟩
theorem lk_7_22 : LKS RX7 22 yJ7_fill_53178 := ⟨gt_of 1054 (by decide +kernel) rfl, gt_of 108 (by decide +kernel) rfl⟩
theorem lw_11_223 : Cond.methodLink RX11 223 ⟨"java/lang/System", "arraycopy", "(Ljava/lang/Object;ILjava/lang/Object;II)V"⟩ ∈ gT := gt_of 1055 (by decide +kernel) rfl
theorem lk_L_85 : LKV RL 85 11 yX11_drawn := ⟨by decide, gt_of 1056 (by decide +kernel) rfl, gt_of 1057 (by decide +kernel) rfl, gt_of 1058 (by decide +kernel) rfl⟩
theorem lk_11_229 : LKV RX11 229 4 yX4_draw := ⟨by decide, gt_of 1060 (by decide +kernel) rfl, gt_of 1061 (by decide +kernel) rfl, gt_of 1062 (by decide +kernel) rfl⟩
theorem lk_L_89 : LKV RL 89 11 yX11_chance := ⟨by decide, gt_of 1065 (by decide +kernel) rfl, gt_of 1066 (by decide +kernel) rfl, gt_of 1067 (by decide +kernel) rfl⟩
theorem lk_11_234 : LKS RX11 234 yX11_commonDivisor := ⟨gt_of 1070 (by decide +kernel) rfl, gt_of 1071 (by decide +kernel) rfl⟩
theorem lk_11_279 : LKS RX11 279 yJ9_max_7cf53 := ⟨gt_of 1073 (by decide +kernel) rfl, gt_of 715 (by decide +kernel) rfl⟩
theorem lk_L_94 : LKV RL 94 11 yX11_image := ⟨by decide, gt_of 1074 (by decide +kernel) rfl, gt_of 1075 (by decide +kernel) rfl, gt_of 1076 (by decide +kernel) rfl⟩
theorem lk_11_237 : LKV RX11 237 2 yX2_take := ⟨by decide, gt_of 1078 (by decide +kernel) rfl, gt_of 1079 (by decide +kernel) rfl, gt_of 1080 (by decide +kernel) rfl⟩
theorem lw_2_50 : Cond.methodLink RX2 50 ⟨"java/lang/System", "arraycopy", "(Ljava/lang/Object;ILjava/lang/Object;II)V"⟩ ∈ gT := gt_of 1082 (by decide +kernel) rfl
theorem lku_2_56_0 : LKU RX2 56 0 yX9_take yX9_take := ⟨by decide, gt_of 1083 (by decide +kernel) rfl, gt_of 1086 (by decide +kernel) rfl, gt_of 1084 (by decide +kernel) rfl, ⟨_, _, _, gt_of (w := .code yX9_take cX9_take 2 (none)) 1092 (by decide +kernel) rfl⟩, gt_of 1087 (by decide +kernel) rfl, gt_of 1084 (by decide +kernel) rfl, by decide +kernel, rfl⟩
theorem lku_2_56_1 : LKU RX2 56 1 yX9_take yX9_take := ⟨by decide, gt_of 1083 (by decide +kernel) rfl, gt_of 1086 (by decide +kernel) rfl, gt_of 1084 (by decide +kernel) rfl, ⟨_, _, _, gt_of (w := .code yX9_take cX9_take 2 (none)) 1092 (by decide +kernel) rfl⟩, gt_of 1088 (by decide +kernel) rfl, gt_of 1084 (by decide +kernel) rfl, by decide +kernel, rfl⟩
theorem lku_2_56_3 : LKU RX2 56 3 yX9_take yX9_take := ⟨by decide, gt_of 1083 (by decide +kernel) rfl, gt_of 1086 (by decide +kernel) rfl, gt_of 1084 (by decide +kernel) rfl, ⟨_, _, _, gt_of (w := .code yX9_take cX9_take 2 (none)) 1092 (by decide +kernel) rfl⟩, gt_of 1089 (by decide +kernel) rfl, gt_of 1084 (by decide +kernel) rfl, by decide +kernel, rfl⟩
theorem lku_2_56_5 : LKU RX2 56 5 yX9_take yX9_take := ⟨by decide, gt_of 1083 (by decide +kernel) rfl, gt_of 1086 (by decide +kernel) rfl, gt_of 1084 (by decide +kernel) rfl, ⟨_, _, _, gt_of (w := .code yX9_take cX9_take 2 (none)) 1092 (by decide +kernel) rfl⟩, gt_of 1090 (by decide +kernel) rfl, gt_of 1084 (by decide +kernel) rfl, by decide +kernel, rfl⟩
theorem lku_2_56_9 : LKU RX2 56 9 yX9_take yX9_take := ⟨by decide, gt_of 1083 (by decide +kernel) rfl, gt_of 1086 (by decide +kernel) rfl, gt_of 1084 (by decide +kernel) rfl, ⟨_, _, _, gt_of (w := .code yX9_take cX9_take 2 (none)) 1092 (by decide +kernel) rfl⟩, gt_of 1085 (by decide +kernel) rfl, gt_of 1084 (by decide +kernel) rfl, by decide +kernel, rfl⟩
theorem lku_2_56_10 : LKU RX2 56 10 yX9_take yX9_take := ⟨by decide, gt_of 1083 (by decide +kernel) rfl, gt_of 1086 (by decide +kernel) rfl, gt_of 1084 (by decide +kernel) rfl, ⟨_, _, _, gt_of (w := .code yX9_take cX9_take 2 (none)) 1092 (by decide +kernel) rfl⟩, gt_of 1091 (by decide +kernel) rfl, gt_of 1084 (by decide +kernel) rfl, by decide +kernel, rfl⟩
theorem lk_2_56 : LKV RX2 56 9 yX9_take := ⟨by decide, gt_of 1083 (by decide +kernel) rfl, gt_of 1084 (by decide +kernel) rfl, gt_of 1085 (by decide +kernel) rfl⟩
theorem lk_L_98 : LKV RL 98 11 yX11_back := ⟨by decide, gt_of 1093 (by decide +kernel) rfl, gt_of 1094 (by decide +kernel) rfl, gt_of 1095 (by decide +kernel) rfl⟩
theorem lk_L_102 : LKV RL 102 11 yX11_count := ⟨by decide, gt_of 1097 (by decide +kernel) rfl, gt_of 1098 (by decide +kernel) rfl, gt_of 1099 (by decide +kernel) rfl⟩
theorem lk_11_241 : LKV RX11 241 2 yX2_howManyArePut := ⟨by decide, gt_of 1101 (by decide +kernel) rfl, gt_of 1102 (by decide +kernel) rfl, gt_of 1103 (by decide +kernel) rfl⟩
theorem lk_L_106 : LKV RL 106 11 yX11_sheet := ⟨by decide, gt_of 1105 (by decide +kernel) rfl, gt_of 1106 (by decide +kernel) rfl, gt_of 1107 (by decide +kernel) rfl⟩
theorem lk_L_110 : LKV RL 110 11 yX11_cell := ⟨by decide, gt_of 1109 (by decide +kernel) rfl, gt_of 1110 (by decide +kernel) rfl, gt_of 1111 (by decide +kernel) rfl⟩
theorem lk_11_244 : LKV RX11 244 7 yX7_narrowed := ⟨by decide, gt_of 1113 (by decide +kernel) rfl, gt_of 1114 (by decide +kernel) rfl, gt_of 1115 (by decide +kernel) rfl⟩
theorem lk_L_114 : LKV RL 114 11 yX11_copy := ⟨by decide, gt_of 1117 (by decide +kernel) rfl, gt_of 1118 (by decide +kernel) rfl, gt_of 1119 (by decide +kernel) rfl⟩
theorem lk_11_247 : LKV RX11 247 7 yX7_holds := ⟨by decide, gt_of 1121 (by decide +kernel) rfl, gt_of 1122 (by decide +kernel) rfl, gt_of 1123 (by decide +kernel) rfl⟩
theorem lk_L_119 : LKV RL 119 11 yX11_things := ⟨by decide, gt_of 1125 (by decide +kernel) rfl, gt_of 1126 (by decide +kernel) rfl, gt_of 1127 (by decide +kernel) rfl⟩
theorem lk_11_250 : LKV RX11 250 11 yX11_thing := ⟨by decide, gt_of 1129 (by decide +kernel) rfl, gt_of 548 (by decide +kernel) rfl, gt_of 549 (by decide +kernel) rfl⟩
theorem lk_L_124 : LKV RL 124 11 yX11_taken := ⟨by decide, gt_of 1130 (by decide +kernel) rfl, gt_of 1131 (by decide +kernel) rfl, gt_of 1132 (by decide +kernel) rfl⟩
theorem lk_11_254 : LKS RX11 254 yX11_isOf := ⟨gt_of 1134 (by decide +kernel) rfl, gt_of 1135 (by decide +kernel) rfl⟩
theorem lk_L_12 : LKI RL 12 yX12_init := ⟨gt_of 1139 (by decide +kernel) rfl, rfl, gt_of 1140 (by decide +kernel) rfl⟩
theorem lw_12_7 : Cond.methodLink RX12 7 ⟨"java/lang/Object", "<init>", "()V"⟩ ∈ gT := gt_of 1142 (by decide +kernel) rfl
theorem lk_12_99 : LKV RX12 99 12 yX12_spell := ⟨by decide, gt_of 1143 (by decide +kernel) rfl, gt_of 1145 (by decide +kernel) rfl, gt_of 30 (by decide +kernel) rfl⟩
theorem lk_L_17 : LKV RL 17 12 yX12_set := ⟨by decide, gt_of 1316 (by decide +kernel) rfl, gt_of 1317 (by decide +kernel) rfl, gt_of 1318 (by decide +kernel) rfl⟩
theorem lk_12_109 : LKS RX12 109 yX12_in := ⟨gt_of 1321 (by decide +kernel) rfl, gt_of 1322 (by decide +kernel) rfl⟩
theorem lk_L_21 : LKV RL 21 12 yX12_thing := ⟨by decide, gt_of 1327 (by decide +kernel) rfl, gt_of 1328 (by decide +kernel) rfl, gt_of 1329 (by decide +kernel) rfl⟩
theorem lk_L_26 : LKV RL 26 12 yX12_put := ⟨by decide, gt_of 1332 (by decide +kernel) rfl, gt_of 1333 (by decide +kernel) rfl, gt_of 1334 (by decide +kernel) rfl⟩
theorem lk_12_123 : LKV RX12 123 12 yX12_isThing := ⟨by decide, gt_of 1336 (by decide +kernel) rfl, gt_of 1338 (by decide +kernel) rfl, gt_of 31 (by decide +kernel) rfl⟩
theorem lk_12_127 : LKS RX12 127 yX12_isPlace := ⟨gt_of 1340 (by decide +kernel) rfl, gt_of 1341 (by decide +kernel) rfl⟩
theorem lk_12_130 : LKV RX12 130 12 yX12_stands := ⟨by decide, gt_of 1343 (by decide +kernel) rfl, gt_of 1345 (by decide +kernel) rfl, gt_of 32 (by decide +kernel) rfl⟩
theorem lk_12_134 : LKV RX12 134 12 yX12_says := ⟨by decide, gt_of 1347 (by decide +kernel) rfl, gt_of 1349 (by decide +kernel) rfl, gt_of 33 (by decide +kernel) rfl⟩
theorem lk_12_259 : LKV RX12 259 12 yX12_read := ⟨by decide, gt_of 1351 (by decide +kernel) rfl, gt_of 1353 (by decide +kernel) rfl, gt_of 34 (by decide +kernel) rfl⟩
theorem lk_12_197 : LKV RX12 197 12 yX12_next := ⟨by decide, gt_of 1355 (by decide +kernel) rfl, gt_of 1357 (by decide +kernel) rfl, gt_of 35 (by decide +kernel) rfl⟩
theorem lk_12_157 : LKV RX12 157 12 yX12_byteAt := ⟨by decide, gt_of 1359 (by decide +kernel) rfl, gt_of 1361 (by decide +kernel) rfl, gt_of 36 (by decide +kernel) rfl⟩
theorem lk_12_200 : LKV RX12 200 12 yX12_isWord := ⟨by decide, gt_of 1368 (by decide +kernel) rfl, gt_of 1370 (by decide +kernel) rfl, gt_of 37 (by decide +kernel) rfl⟩
theorem lk_12_188 : LKV RX12 188 12 yX12_isLetter := ⟨by decide, gt_of 1372 (by decide +kernel) rfl, gt_of 1374 (by decide +kernel) rfl, gt_of 38 (by decide +kernel) rfl⟩
theorem lk_12_255 : LKV RX12 255 12 yX12_part := ⟨by decide, gt_of 1376 (by decide +kernel) rfl, gt_of 1378 (by decide +kernel) rfl, gt_of 39 (by decide +kernel) rfl⟩
theorem lk_12_194 : LKV RX12 194 12 yX12_fail := ⟨by decide, gt_of 1380 (by decide +kernel) rfl, gt_of 1382 (by decide +kernel) rfl, gt_of 40 (by decide +kernel) rfl⟩
theorem lk_12_233 : LKV RX12 233 12 yX12_either := ⟨by decide, gt_of 1384 (by decide +kernel) rfl, gt_of 1386 (by decide +kernel) rfl, gt_of 41 (by decide +kernel) rfl⟩
theorem lk_12_252 : LKV RX12 252 12 yX12_both := ⟨by decide, gt_of 1388 (by decide +kernel) rfl, gt_of 1390 (by decide +kernel) rfl, gt_of 42 (by decide +kernel) rfl⟩
theorem lk_12_244 : LKV RX12 244 12 yX12_not := ⟨by decide, gt_of 1392 (by decide +kernel) rfl, gt_of 1394 (by decide +kernel) rfl, gt_of 43 (by decide +kernel) rfl⟩
theorem lk_12_225 : LKV RX12 225 12 yX12_opens := ⟨by decide, gt_of 1396 (by decide +kernel) rfl, gt_of 1398 (by decide +kernel) rfl, gt_of 44 (by decide +kernel) rfl⟩
theorem lk_12_247 : LKV RX12 247 12 yX12_added := ⟨by decide, gt_of 1400 (by decide +kernel) rfl, gt_of 1402 (by decide +kernel) rfl, gt_of 45 (by decide +kernel) rfl⟩
theorem lk_12_239 : LKV RX12 239 12 yX12_term := ⟨by decide, gt_of 1404 (by decide +kernel) rfl, gt_of 1406 (by decide +kernel) rfl, gt_of 46 (by decide +kernel) rfl⟩
theorem lk_12_229 : LKV RX12 229 12 yX12_atom := ⟨by decide, gt_of 1408 (by decide +kernel) rfl, gt_of 1410 (by decide +kernel) rfl, gt_of 47 (by decide +kernel) rfl⟩
theorem lk_12_222 : LKV RX12 222 12 yX12_isSign := ⟨by decide, gt_of 1412 (by decide +kernel) rfl, gt_of 1414 (by decide +kernel) rfl, gt_of 48 (by decide +kernel) rfl⟩
theorem lk_12_236 : LKV RX12 236 12 yX12_name := ⟨by decide, gt_of 1416 (by decide +kernel) rfl, gt_of 1418 (by decide +kernel) rfl, gt_of 49 (by decide +kernel) rfl⟩
theorem lk_12_266 : LKS RX12 266 yX12_within := ⟨gt_of 1422 (by decide +kernel) rfl, gt_of 1423 (by decide +kernel) rfl⟩
theorem lk_L_30 : LKV RL 30 12 yX12_told := ⟨by decide, gt_of 1425 (by decide +kernel) rfl, gt_of 1426 (by decide +kernel) rfl, gt_of 1427 (by decide +kernel) rfl⟩
theorem lk_12_140 : LKV RX12 140 12 yX12_doesSee := ⟨by decide, gt_of 1430 (by decide +kernel) rfl, gt_of 1432 (by decide +kernel) rfl, gt_of 50 (by decide +kernel) rfl⟩
theorem lk_L_35 : LKV RL 35 12 yX12_feed := ⟨by decide, gt_of 1434 (by decide +kernel) rfl, gt_of 1435 (by decide +kernel) rfl, gt_of 1436 (by decide +kernel) rfl⟩
theorem lk_L_40 : LKV RL 40 12 yX12_text := ⟨by decide, gt_of 1439 (by decide +kernel) rfl, gt_of 1440 (by decide +kernel) rfl, gt_of 1441 (by decide +kernel) rfl⟩
theorem lk_L_44 : LKV RL 44 12 yX12_force := ⟨by decide, gt_of 1443 (by decide +kernel) rfl, gt_of 1444 (by decide +kernel) rfl, gt_of 1445 (by decide +kernel) rfl⟩
theorem lk_L_48 : LKV RL 48 12 yX12_day := ⟨by decide, gt_of 1447 (by decide +kernel) rfl, gt_of 1448 (by decide +kernel) rfl, gt_of 1449 (by decide +kernel) rfl⟩
theorem lk_12_308 : LKS RX12 308 yX12_areGuests := ⟨gt_of 1451 (by decide +kernel) rfl, gt_of 1452 (by decide +kernel) rfl⟩
theorem lk_12_311 : LKV RX12 311 12 yX12_gathers := ⟨by decide, gt_of 1454 (by decide +kernel) rfl, gt_of 1456 (by decide +kernel) rfl, gt_of 51 (by decide +kernel) rfl⟩
theorem lk_12_314 : LKV RX12 314 12 yX12_badNow := ⟨by decide, gt_of 1458 (by decide +kernel) rfl, gt_of 1460 (by decide +kernel) rfl, gt_of 52 (by decide +kernel) rfl⟩
theorem lk_12_285 : LKV RX12 285 12 yX12_badOf := ⟨by decide, gt_of 1462 (by decide +kernel) rfl, gt_of 1464 (by decide +kernel) rfl, gt_of 53 (by decide +kernel) rfl⟩
theorem lk_12_276 : LKS RX12 276 yX12_bitsOf := ⟨gt_of 1466 (by decide +kernel) rfl, gt_of 1467 (by decide +kernel) rfl⟩
theorem lk_12_279 : LKV RX12 279 12 yX12_timesBad := ⟨by decide, gt_of 1469 (by decide +kernel) rfl, gt_of 1471 (by decide +kernel) rfl, gt_of 54 (by decide +kernel) rfl⟩
theorem lk_12_270 : LKV RX12 270 12 yX12_missedOf := ⟨by decide, gt_of 1473 (by decide +kernel) rfl, gt_of 1475 (by decide +kernel) rfl, gt_of 55 (by decide +kernel) rfl⟩
theorem lk_12_273 : LKV RX12 273 12 yX12_offendsOf := ⟨by decide, gt_of 1477 (by decide +kernel) rfl, gt_of 1479 (by decide +kernel) rfl, gt_of 56 (by decide +kernel) rfl⟩
theorem lk_L_52 : LKV RL 52 12 yX12_best := ⟨by decide, gt_of 1481 (by decide +kernel) rfl, gt_of 1482 (by decide +kernel) rfl, gt_of 1483 (by decide +kernel) rfl⟩
theorem lk_12_317 : LKV RX12 317 12 yX12_fromNow := ⟨by decide, gt_of 1485 (by decide +kernel) rfl, gt_of 1487 (by decide +kernel) rfl, gt_of 57 (by decide +kernel) rfl⟩
theorem lk_12_320 : LKV RX12 320 12 yX12_seeksFor := ⟨by decide, gt_of 1489 (by decide +kernel) rfl, gt_of 1491 (by decide +kernel) rfl, gt_of 58 (by decide +kernel) rfl⟩
theorem lk_12_301 : LKV RX12 301 12 yX12_begins := ⟨by decide, gt_of 1493 (by decide +kernel) rfl, gt_of 1495 (by decide +kernel) rfl, gt_of 59 (by decide +kernel) rfl⟩
theorem lk_12_304 : LKV RX12 304 12 yX12_addsDay := ⟨by decide, gt_of 1497 (by decide +kernel) rfl, gt_of 1499 (by decide +kernel) rfl, gt_of 60 (by decide +kernel) rfl⟩
theorem lk_12_291 : LKV RX12 291 12 yX12_goesThrough := ⟨by decide, gt_of 1501 (by decide +kernel) rfl, gt_of 1503 (by decide +kernel) rfl, gt_of 61 (by decide +kernel) rfl⟩
theorem lk_L_56 : LKV RL 56 12 yX12_tidy := ⟨by decide, gt_of 1505 (by decide +kernel) rfl, gt_of 1506 (by decide +kernel) rfl, gt_of 1507 (by decide +kernel) rfl⟩
theorem lk_12_324 : LKV RX12 324 12 yX12_best := ⟨by decide, gt_of 1509 (by decide +kernel) rfl, gt_of 1482 (by decide +kernel) rfl, gt_of 1483 (by decide +kernel) rfl⟩
theorem lk_L_60 : LKV RL 60 12 yX12_once := ⟨by decide, gt_of 1510 (by decide +kernel) rfl, gt_of 1511 (by decide +kernel) rfl, gt_of 1512 (by decide +kernel) rfl⟩
theorem lk_12_327 : LKV RX12 327 12 yX12_seeksOnce := ⟨by decide, gt_of 1514 (by decide +kernel) rfl, gt_of 1516 (by decide +kernel) rfl, gt_of 62 (by decide +kernel) rfl⟩
theorem lk_L_64 : LKV RL 64 12 yX12_week := ⟨by decide, gt_of 1518 (by decide +kernel) rfl, gt_of 1519 (by decide +kernel) rfl, gt_of 1520 (by decide +kernel) rfl⟩
theorem lk_12_341 : LKV RX12 341 12 yX12_weeks := ⟨by decide, gt_of 1523 (by decide +kernel) rfl, gt_of 1525 (by decide +kernel) rfl, gt_of 63 (by decide +kernel) rfl⟩
theorem lk_L_68 : LKV RL 68 12 yX12_dearest := ⟨by decide, gt_of 1527 (by decide +kernel) rfl, gt_of 1528 (by decide +kernel) rfl, gt_of 1529 (by decide +kernel) rfl⟩
theorem lk_12_344 : LKV RX12 344 12 yX12_keepsDays := ⟨by decide, gt_of 1531 (by decide +kernel) rfl, gt_of 1533 (by decide +kernel) rfl, gt_of 64 (by decide +kernel) rfl⟩
theorem lk_12_347 : LKV RX12 347 12 yX12_daysBack := ⟨by decide, gt_of 1535 (by decide +kernel) rfl, gt_of 1537 (by decide +kernel) rfl, gt_of 65 (by decide +kernel) rfl⟩
theorem lk_L_72 : LKV RL 72 12 yX12_give := ⟨by decide, gt_of 1539 (by decide +kernel) rfl, gt_of 1540 (by decide +kernel) rfl, gt_of 1541 (by decide +kernel) rfl⟩
theorem lk_L_76 : LKV RL 76 12 yX12_seat := ⟨by decide, gt_of 1543 (by decide +kernel) rfl, gt_of 1544 (by decide +kernel) rfl, gt_of 1545 (by decide +kernel) rfl⟩
theorem lk_L_80 : LKV RL 80 12 yX12_seen := ⟨by decide, gt_of 1548 (by decide +kernel) rfl, gt_of 1549 (by decide +kernel) rfl, gt_of 1550 (by decide +kernel) rfl⟩
theorem lk_12_352 : LKS RX12 352 yX12_isSheet := ⟨gt_of 1552 (by decide +kernel) rfl, gt_of 1553 (by decide +kernel) rfl⟩
theorem lk_12_355 : LKV RX12 355 12 yX12_isRoom := ⟨by decide, gt_of 1555 (by decide +kernel) rfl, gt_of 1557 (by decide +kernel) rfl, gt_of 66 (by decide +kernel) rfl⟩
theorem lk_12_358 : LKV RX12 358 12 yX12_leastBad := ⟨by decide, gt_of 1559 (by decide +kernel) rfl, gt_of 1561 (by decide +kernel) rfl, gt_of 67 (by decide +kernel) rfl⟩
theorem lk_L_84 : LKV RL 84 12 yX12_film := ⟨by decide, gt_of 1563 (by decide +kernel) rfl, gt_of 1564 (by decide +kernel) rfl, gt_of 1565 (by decide +kernel) rfl⟩
theorem lk_12_361 : LKV RX12 361 12 yX12_sheet := ⟨by decide, gt_of 1567 (by decide +kernel) rfl, gt_of 1568 (by decide +kernel) rfl, gt_of 1569 (by decide +kernel) rfl⟩
theorem lk_L_88 : LKV RL 88 12 yX12_drawn := ⟨by decide, gt_of 1572 (by decide +kernel) rfl, gt_of 1573 (by decide +kernel) rfl, gt_of 1574 (by decide +kernel) rfl⟩
theorem lk_12_365 : LKV RX12 365 12 yX12_draws := ⟨by decide, gt_of 1576 (by decide +kernel) rfl, gt_of 1578 (by decide +kernel) rfl, gt_of 68 (by decide +kernel) rfl⟩
theorem lk_L_93 : LKV RL 93 12 yX12_chance := ⟨by decide, gt_of 1581 (by decide +kernel) rfl, gt_of 1582 (by decide +kernel) rfl, gt_of 1583 (by decide +kernel) rfl⟩
theorem lk_L_97 : LKV RL 97 12 yX12_image := ⟨by decide, gt_of 1586 (by decide +kernel) rfl, gt_of 1587 (by decide +kernel) rfl, gt_of 1588 (by decide +kernel) rfl⟩
theorem lk_L_101 : LKV RL 101 12 yX12_back := ⟨by decide, gt_of 1590 (by decide +kernel) rfl, gt_of 1591 (by decide +kernel) rfl, gt_of 1592 (by decide +kernel) rfl⟩
theorem lk_L_105 : LKV RL 105 12 yX12_count := ⟨by decide, gt_of 1594 (by decide +kernel) rfl, gt_of 1595 (by decide +kernel) rfl, gt_of 1596 (by decide +kernel) rfl⟩
theorem lk_L_109 : LKV RL 109 12 yX12_sheet := ⟨by decide, gt_of 1599 (by decide +kernel) rfl, gt_of 1568 (by decide +kernel) rfl, gt_of 1569 (by decide +kernel) rfl⟩
theorem lk_L_113 : LKV RL 113 12 yX12_cell := ⟨by decide, gt_of 1600 (by decide +kernel) rfl, gt_of 1601 (by decide +kernel) rfl, gt_of 1602 (by decide +kernel) rfl⟩
theorem lk_L_118 : LKV RL 118 12 yX12_copy := ⟨by decide, gt_of 1604 (by decide +kernel) rfl, gt_of 1605 (by decide +kernel) rfl, gt_of 1606 (by decide +kernel) rfl⟩
theorem lk_L_123 : LKV RL 123 12 yX12_things := ⟨by decide, gt_of 1608 (by decide +kernel) rfl, gt_of 1609 (by decide +kernel) rfl, gt_of 1610 (by decide +kernel) rfl⟩
theorem lk_12_377 : LKV RX12 377 12 yX12_thing := ⟨by decide, gt_of 1612 (by decide +kernel) rfl, gt_of 1328 (by decide +kernel) rfl, gt_of 1329 (by decide +kernel) rfl⟩
theorem lk_L_127 : LKV RL 127 12 yX12_taken := ⟨by decide, gt_of 1613 (by decide +kernel) rfl, gt_of 1614 (by decide +kernel) rfl, gt_of 1615 (by decide +kernel) rfl⟩
theorem lk_12_380 : LKS RX12 380 yX12_over := ⟨gt_of 1617 (by decide +kernel) rfl, gt_of 1618 (by decide +kernel) rfl⟩
theorem w_System : Cond.initialized "java/lang/System" ∈ gT := gt_of 83 (by decide +kernel) rfl
theorem kn_11 : Cond.initialized RX11 ∈ gT := gt_of 70 (by decide +kernel) rfl
theorem kn_2 : Cond.initialized RX2 ∈ gT := gt_of 71 (by decide +kernel) rfl
theorem kn_9 : Cond.initialized RX9 ∈ gT := gt_of 73 (by decide +kernel) rfl
theorem kn_6 : Cond.initialized RX6 ∈ gT := gt_of 74 (by decide +kernel) rfl
theorem kn_4 : Cond.initialized RX4 ∈ gT := gt_of 75 (by decide +kernel) rfl
theorem kn_7 : Cond.initialized RX7 ∈ gT := gt_of 76 (by decide +kernel) rfl
theorem kn_8 : Cond.initialized RX8 ∈ gT := gt_of 81 (by decide +kernel) rfl
theorem kn_12 : Cond.initialized RX12 ∈ gT := gt_of 84 (by decide +kernel) rfl
theorem kn_3 : Cond.initialized RX3 ∈ gT := gt_of 85 (by decide +kernel) rfl
theorem kn_1 : Cond.initialized RX1 ∈ gT := gt_of 86 (by decide +kernel) rfl
theorem kn_5 : Cond.initialized RX5 ∈ gT := gt_of 87 (by decide +kernel) rfl
theorem kn_10 : Cond.initialized RX10 ∈ gT := gt_of 88 (by decide +kernel) rfl
theorem kn_0 : Cond.initialized RX0 ∈ gT := gt_of 89 (by decide +kernel) rfl
theorem kl_L_7 : Cond.classLink RL 7 "PutOut" ∈ gT := gt_of 91 (by decide +kernel) rfl
theorem ki_11 : Cond.instantiable RX11 9 ∈ gT := gt_of 92 (by decide +kernel) rfl
theorem kl_11_7 : Cond.classLink RX11 7 "PutOut$House" ∈ gT := gt_of 99 (by decide +kernel) rfl
theorem ki_2 : Cond.instantiable RX2 6 ∈ gT := gt_of 100 (by decide +kernel) rfl
theorem kl_2_21 : Cond.classLink RX2 21 "PutOut$Thing" ∈ gT := gt_of 105 (by decide +kernel) rfl
theorem ki_9 : Cond.instantiable RX9 13 ∈ gT := gt_of 110 (by decide +kernel) rfl
theorem ka_int : Cond.arrayClass .int ∈ gT := gt_of 174 (by decide +kernel) rfl
theorem kl_11_27 : Cond.classLink RX11 27 "PutOut$Reader" ∈ gT := gt_of 205 (by decide +kernel) rfl
theorem ki_6 : Cond.instantiable RX6 10 ∈ gT := gt_of 206 (by decide +kernel) rfl
theorem kl_11_34 : Cond.classLink RX11 34 "PutOut$Text" ∈ gT := gt_of 242 (by decide +kernel) rfl
theorem kl_11_43 : Cond.classLink RX11 43 "PutOut$Sheet" ∈ gT := gt_of 244 (by decide +kernel) rfl
theorem kl_11_49 : Cond.classLink RX11 49 "PutOut$Planner" ∈ gT := gt_of 246 (by decide +kernel) rfl
theorem ki_4 : Cond.instantiable RX4 12 ∈ gT := gt_of 247 (by decide +kernel) rfl
theorem kl_4_9 : Cond.classLink RX4 9 "PutOut$Thing" ∈ gT := gt_of 252 (by decide +kernel) rfl
theorem kl_4_49 : Cond.classLink RX4 49 "[[I" ∈ gT := gt_of 253 (by decide +kernel) rfl
theorem ki_7 : Cond.instantiable RX7 3 ∈ gT := gt_of 295 (by decide +kernel) rfl
theorem kl_6_56 : Cond.classLink RX6 56 "PutOut$Text" ∈ gT := gt_of 457 (by decide +kernel) rfl
theorem ki_8 : Cond.instantiable RX8 4 ∈ gT := gt_of 458 (by decide +kernel) rfl
theorem ka_byte : Cond.arrayClass .byte ∈ gT := gt_of 492 (by decide +kernel) rfl
theorem kl_11_258 : Cond.classLink RX11 258 "PutOut$Picture" ∈ gT := gt_of 554 (by decide +kernel) rfl
theorem ki_3 : Cond.instantiable RX3 13 ∈ gT := gt_of 555 (by decide +kernel) rfl
theorem kl_11_263 : Cond.classLink RX11 263 "PutOut$Clock" ∈ gT := gt_of 574 (by decide +kernel) rfl
theorem ki_1 : Cond.instantiable RX1 13 ∈ gT := gt_of 575 (by decide +kernel) rfl
theorem kl_11_266 : Cond.classLink RX11 266 "PutOut$Portrait" ∈ gT := gt_of 594 (by decide +kernel) rfl
theorem ki_5 : Cond.instantiable RX5 13 ∈ gT := gt_of 595 (by decide +kernel) rfl
theorem kl_11_269 : Cond.classLink RX11 269 "PutOut$Vase" ∈ gT := gt_of 614 (by decide +kernel) rfl
theorem ki_10 : Cond.instantiable RX10 13 ∈ gT := gt_of 615 (by decide +kernel) rfl
theorem kl_11_272 : Cond.classLink RX11 272 "PutOut$Broken" ∈ gT := gt_of 634 (by decide +kernel) rfl
theorem ki_0 : Cond.instantiable RX0 13 ∈ gT := gt_of 635 (by decide +kernel) rfl
theorem kl_11_99 : Cond.classLink RX11 99 "PutOut$Thing" ∈ gT := gt_of 654 (by decide +kernel) rfl
theorem kc_9_70 : Cond.constant RX9 70 (1000000) ∈ gT := gt_of 765 (by decide +kernel) rfl
theorem kc_J6_265 : Cond.constant RJ6 265 (1431655765) ∈ gT := gt_of 858 (by decide +kernel) rfl
theorem kc_J6_266 : Cond.constant RJ6 266 (858993459) ∈ gT := gt_of 859 (by decide +kernel) rfl
theorem kc_J6_267 : Cond.constant RJ6 267 (252645135) ∈ gT := gt_of 860 (by decide +kernel) rfl
theorem kc_4_167 : Cond.constant RX4 167 (1000000) ∈ gT := gt_of 937 (by decide +kernel) rfl
theorem kc_11_177 : Cond.constant RX11 177 (1000000) ∈ gT := gt_of 979 (by decide +kernel) rfl
theorem kc_4_139 : Cond.constant RX4 139 (1103515245) ∈ gT := gt_of 1064 (by decide +kernel) rfl
theorem kc_11_232 : Cond.constantLong RX11 232 (-4611686018427387904) ∈ gT := gt_of 1069 (by decide +kernel) rfl
theorem kl_L_10 : Cond.classLink RL 10 "PutOutModel" ∈ gT := gt_of 1137 (by decide +kernel) rfl
theorem ki_12 : Cond.instantiable RX12 56 ∈ gT := gt_of 1138 (by decide +kernel) rfl
theorem ka_boolean : Cond.arrayClass .boolean ∈ gT := gt_of 1315 (by decide +kernel) rfl
theorem kc_12_113 : Cond.constantLong RX12 113 (5) ∈ gT := gt_of 1320 (by decide +kernel) rfl
theorem kc_12_115 : Cond.constantLong RX12 115 (15) ∈ gT := gt_of 1324 (by decide +kernel) rfl
theorem kc_12_117 : Cond.constantLong RX12 117 (3) ∈ gT := gt_of 1325 (by decide +kernel) rfl
theorem kc_12_119 : Cond.constantLong RX12 119 (9) ∈ gT := gt_of 1326 (by decide +kernel) rfl
theorem kc_12_121 : Cond.constantLong RX12 121 (99) ∈ gT := gt_of 1331 (by decide +kernel) rfl
theorem kc_12_167 : Cond.constantLong RX12 167 (97) ∈ gT := gt_of 1363 (by decide +kernel) rfl
theorem kc_12_169 : Cond.constantLong RX12 169 (122) ∈ gT := gt_of 1364 (by decide +kernel) rfl
theorem kc_12_171 : Cond.constantLong RX12 171 (48) ∈ gT := gt_of 1365 (by decide +kernel) rfl
theorem kc_12_173 : Cond.constantLong RX12 173 (57) ∈ gT := gt_of 1366 (by decide +kernel) rfl
theorem kc_12_179 : Cond.constantLong RX12 179 (10) ∈ gT := gt_of 1367 (by decide +kernel) rfl
theorem kc_12_242 : Cond.constantLong RX12 242 (43) ∈ gT := gt_of 1420 (by decide +kernel) rfl
theorem kc_12_250 : Cond.constantLong RX12 250 (60) ∈ gT := gt_of 1421 (by decide +kernel) rfl
theorem kc_12_138 : Cond.constantLong RX12 138 (11) ∈ gT := gt_of 1429 (by decide +kernel) rfl
theorem kc_12_143 : Cond.constantLong RX12 143 (255) ∈ gT := gt_of 1438 (by decide +kernel) rfl
theorem kc_12_339 : Cond.constantLong RX12 339 (2) ∈ gT := gt_of 1522 (by decide +kernel) rfl
theorem kc_12_350 : Cond.constantLong RX12 350 (6) ∈ gT := gt_of 1547 (by decide +kernel) rfl
theorem kc_12_375 : Cond.constantLong RX12 375 (-1) ∈ gT := gt_of 1571 (by decide +kernel) rfl
theorem kc_12_364 : Cond.constant RX12 364 (1103515245) ∈ gT := gt_of 1580 (by decide +kernel) rfl
theorem kc_12_368 : Cond.constantLong RX12 368 (-4611686018427387904) ∈ gT := gt_of 1585 (by decide +kernel) rfl
theorem kc_12_373 : Cond.constantLong RX12 373 (21) ∈ gT := gt_of 1598 (by decide +kernel) rfl
theorem wo_inst : Cond.instanceMethod Lib.objectInit ∈ gT := gt_of 97 (by decide +kernel) rfl
theorem wo_code : Cond.code Lib.objectInit ⟨#[0xb1]⟩ 1 none ∈ gT := gt_of 98 (by decide +kernel) rfl
theorem wa_nat : Cond.native arraycopyName ∈ gT := gt_of 478 (by decide +kernel) rfl
theorem wa_st : Cond.static arraycopyName ∈ gT := gt_of 477 (by decide +kernel) rfl
end
