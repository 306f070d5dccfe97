section
-- ===== PART A: goes FIRST, ahead of the names: the tables' words, and 'selects' of the private methods out of them =====
/-- a private method of a class that the tables say can be made, by its rows of tables_1 -/
def lw_okq (q : MethodName × Nat) : Prop := (q.1.cls ≠ "java/lang/invoke/MethodHandle" ∧ q.1.cls ≠ "java/lang/invoke/VarHandle") ∧ Cond.instantiable q.1.cls q.2 ∈ tables_1 ∧ Cond.privateMethod q.1 ∈ tables_1 ∧ Cond.instanceMethod q.1 ∈ tables_1
theorem lw_p0 : lw_okq (⟨"PutOut$Reader", "advance", "()V"⟩, 10) := ⟨⟨by decide +kernel, by decide +kernel⟩, List.mem_of_getElem? (i := 137) (by decide +kernel), List.mem_of_getElem? (i := 298) (by decide +kernel), List.mem_of_getElem? (i := 299) (by decide +kernel)⟩
theorem lw_p1 : lw_okq (⟨"PutOut$Reader", "word", "()I"⟩, 10) := ⟨⟨by decide +kernel, by decide +kernel⟩, List.mem_of_getElem? (i := 137) (by decide +kernel), List.mem_of_getElem? (i := 305) (by decide +kernel), List.mem_of_getElem? (i := 306) (by decide +kernel)⟩
theorem lw_p2 : lw_okq (⟨"PutOut$Reader", "key", "()I"⟩, 10) := ⟨⟨by decide +kernel, by decide +kernel⟩, List.mem_of_getElem? (i := 137) (by decide +kernel), List.mem_of_getElem? (i := 309) (by decide +kernel), List.mem_of_getElem? (i := 310) (by decide +kernel)⟩
theorem lw_p3 : lw_okq (⟨"PutOut$Reader", "spells", "(Ljava/lang/String;)Z"⟩, 10) := ⟨⟨by decide +kernel, by decide +kernel⟩, List.mem_of_getElem? (i := 137) (by decide +kernel), List.mem_of_getElem? (i := 314) (by decide +kernel), List.mem_of_getElem? (i := 315) (by decide +kernel)⟩
theorem lw_p4 : lw_okq (⟨"PutOut$Reader", "name", "()I"⟩, 10) := ⟨⟨by decide +kernel, by decide +kernel⟩, List.mem_of_getElem? (i := 137) (by decide +kernel), List.mem_of_getElem? (i := 325) (by decide +kernel), List.mem_of_getElem? (i := 326) (by decide +kernel)⟩
theorem lw_p5 : lw_okq (⟨"PutOut$Reader", "digits", "()I"⟩, 10) := ⟨⟨by decide +kernel, by decide +kernel⟩, List.mem_of_getElem? (i := 137) (by decide +kernel), List.mem_of_getElem? (i := 338) (by decide +kernel), List.mem_of_getElem? (i := 339) (by decide +kernel)⟩
theorem lw_p6 : lw_okq (⟨"PutOut$Reader", "expect", "(I)V"⟩, 10) := ⟨⟨by decide +kernel, by decide +kernel⟩, List.mem_of_getElem? (i := 137) (by decide +kernel), List.mem_of_getElem? (i := 345) (by decide +kernel), List.mem_of_getElem? (i := 346) (by decide +kernel)⟩
theorem lw_p7 : lw_okq (⟨"PutOut$Reader", "fail", "()V"⟩, 10) := ⟨⟨by decide +kernel, by decide +kernel⟩, List.mem_of_getElem? (i := 137) (by decide +kernel), List.mem_of_getElem? (i := 349) (by decide +kernel), List.mem_of_getElem? (i := 350) (by decide +kernel)⟩
theorem lw_p8 : lw_okq (⟨"PutOut$Reader", "either", "(I)V"⟩, 10) := ⟨⟨by decide +kernel, by decide +kernel⟩, List.mem_of_getElem? (i := 137) (by decide +kernel), List.mem_of_getElem? (i := 353) (by decide +kernel), List.mem_of_getElem? (i := 354) (by decide +kernel)⟩
theorem lw_p9 : lw_okq (⟨"PutOut$Reader", "both", "(I)V"⟩, 10) := ⟨⟨by decide +kernel, by decide +kernel⟩, List.mem_of_getElem? (i := 137) (by decide +kernel), List.mem_of_getElem? (i := 357) (by decide +kernel), List.mem_of_getElem? (i := 358) (by decide +kernel)⟩
theorem lw_p10 : lw_okq (⟨"PutOut$Reader", "negation", "(I)V"⟩, 10) := ⟨⟨by decide +kernel, by decide +kernel⟩, List.mem_of_getElem? (i := 137) (by decide +kernel), List.mem_of_getElem? (i := 361) (by decide +kernel), List.mem_of_getElem? (i := 362) (by decide +kernel)⟩
theorem lw_p11 : lw_okq (⟨"PutOut$Reader", "comparison", "(I)V"⟩, 10) := ⟨⟨by decide +kernel, by decide +kernel⟩, List.mem_of_getElem? (i := 137) (by decide +kernel), List.mem_of_getElem? (i := 365) (by decide +kernel), List.mem_of_getElem? (i := 366) (by decide +kernel)⟩
theorem lw_p12 : lw_okq (⟨"PutOut$Reader", "sum", "(I)V"⟩, 10) := ⟨⟨by decide +kernel, by decide +kernel⟩, List.mem_of_getElem? (i := 137) (by decide +kernel), List.mem_of_getElem? (i := 369) (by decide +kernel), List.mem_of_getElem? (i := 370) (by decide +kernel)⟩
theorem lw_p13 : lw_okq (⟨"PutOut$Reader", "term", "(I)V"⟩, 10) := ⟨⟨by decide +kernel, by decide +kernel⟩, List.mem_of_getElem? (i := 137) (by decide +kernel), List.mem_of_getElem? (i := 373) (by decide +kernel), List.mem_of_getElem? (i := 374) (by decide +kernel)⟩
theorem lw_p14 : lw_okq (⟨"PutOut$Reader", "one", "(I)V"⟩, 10) := ⟨⟨by decide +kernel, by decide +kernel⟩, List.mem_of_getElem? (i := 137) (by decide +kernel), List.mem_of_getElem? (i := 377) (by decide +kernel), List.mem_of_getElem? (i := 378) (by decide +kernel)⟩
theorem lw_p15 : lw_okq (⟨"PutOut$Reader", "emit", "(I)V"⟩, 10) := ⟨⟨by decide +kernel, by decide +kernel⟩, List.mem_of_getElem? (i := 137) (by decide +kernel), List.mem_of_getElem? (i := 381) (by decide +kernel), List.mem_of_getElem? (i := 382) (by decide +kernel)⟩
def lw_privs_1 : List (MethodName × Nat) := [(⟨"PutOut$Reader", "advance", "()V"⟩, 10), (⟨"PutOut$Reader", "word", "()I"⟩, 10), (⟨"PutOut$Reader", "key", "()I"⟩, 10), (⟨"PutOut$Reader", "spells", "(Ljava/lang/String;)Z"⟩, 10), (⟨"PutOut$Reader", "name", "()I"⟩, 10), (⟨"PutOut$Reader", "digits", "()I"⟩, 10), (⟨"PutOut$Reader", "expect", "(I)V"⟩, 10), (⟨"PutOut$Reader", "fail", "()V"⟩, 10), (⟨"PutOut$Reader", "either", "(I)V"⟩, 10), (⟨"PutOut$Reader", "both", "(I)V"⟩, 10), (⟨"PutOut$Reader", "negation", "(I)V"⟩, 10), (⟨"PutOut$Reader", "comparison", "(I)V"⟩, 10), (⟨"PutOut$Reader", "sum", "(I)V"⟩, 10), (⟨"PutOut$Reader", "term", "(I)V"⟩, 10), (⟨"PutOut$Reader", "one", "(I)V"⟩, 10), (⟨"PutOut$Reader", "emit", "(I)V"⟩, 10)]
theorem lw_r1 : ∀ q ∈ lw_privs_1, lw_okq q := List.forall_mem_cons.mpr ⟨lw_p0, List.forall_mem_cons.mpr ⟨lw_p1, List.forall_mem_cons.mpr ⟨lw_p2, List.forall_mem_cons.mpr ⟨lw_p3, List.forall_mem_cons.mpr ⟨lw_p4, List.forall_mem_cons.mpr ⟨lw_p5, List.forall_mem_cons.mpr ⟨lw_p6, List.forall_mem_cons.mpr ⟨lw_p7, List.forall_mem_cons.mpr ⟨lw_p8, List.forall_mem_cons.mpr ⟨lw_p9, List.forall_mem_cons.mpr ⟨lw_p10, List.forall_mem_cons.mpr ⟨lw_p11, List.forall_mem_cons.mpr ⟨lw_p12, List.forall_mem_cons.mpr ⟨lw_p13, List.forall_mem_cons.mpr ⟨lw_p14, List.forall_mem_cons.mpr ⟨lw_p15, fun _ h => absurd h List.not_mem_nil⟩⟩⟩⟩⟩⟩⟩⟩⟩⟩⟩⟩⟩⟩⟩⟩
theorem lw_p16 : lw_okq (⟨"PutOut", "rule", "()LPutOut$Text;"⟩, 9) := ⟨⟨by decide +kernel, by decide +kernel⟩, List.mem_of_getElem? (i := 23) (by decide +kernel), List.mem_of_getElem? (i := 613) (by decide +kernel), List.mem_of_getElem? (i := 614) (by decide +kernel)⟩
theorem lw_p17 : lw_okq (⟨"PutOut$Text", "push", "(I)V"⟩, 4) := ⟨⟨by decide +kernel, by decide +kernel⟩, List.mem_of_getElem? (i := 389) (by decide +kernel), List.mem_of_getElem? (i := 631) (by decide +kernel), List.mem_of_getElem? (i := 632) (by decide +kernel)⟩
theorem lw_p18 : lw_okq (⟨"PutOut$Text", "pop", "()I"⟩, 4) := ⟨⟨by decide +kernel, by decide +kernel⟩, List.mem_of_getElem? (i := 389) (by decide +kernel), List.mem_of_getElem? (i := 638) (by decide +kernel), List.mem_of_getElem? (i := 639) (by decide +kernel)⟩
theorem lw_p19 : lw_okq (⟨"PutOut$Planner", "lookAround", "()V"⟩, 12) := ⟨⟨by decide +kernel, by decide +kernel⟩, List.mem_of_getElem? (i := 178) (by decide +kernel), List.mem_of_getElem? (i := 680) (by decide +kernel), List.mem_of_getElem? (i := 681) (by decide +kernel)⟩
theorem lw_p20 : lw_okq (⟨"PutOut$Thing", "offenceTo", "(I)I"⟩, 13) := ⟨⟨by decide +kernel, by decide +kernel⟩, List.mem_of_getElem? (i := 41) (by decide +kernel), List.mem_of_getElem? (i := 698) (by decide +kernel), List.mem_of_getElem? (i := 699) (by decide +kernel)⟩
theorem lw_p21 : lw_okq (⟨"PutOut$Planner", "enterNow", "()V"⟩, 12) := ⟨⟨by decide +kernel, by decide +kernel⟩, List.mem_of_getElem? (i := 178) (by decide +kernel), List.mem_of_getElem? (i := 749) (by decide +kernel), List.mem_of_getElem? (i := 750) (by decide +kernel)⟩
theorem lw_p22 : lw_okq (⟨"PutOut$Planner", "priceNothing", "()V"⟩, 12) := ⟨⟨by decide +kernel, by decide +kernel⟩, List.mem_of_getElem? (i := 178) (by decide +kernel), List.mem_of_getElem? (i := 817) (by decide +kernel), List.mem_of_getElem? (i := 818) (by decide +kernel)⟩
theorem lw_p23 : lw_okq (⟨"PutOut$Planner", "priceMoves", "()V"⟩, 12) := ⟨⟨by decide +kernel, by decide +kernel⟩, List.mem_of_getElem? (i := 178) (by decide +kernel), List.mem_of_getElem? (i := 831) (by decide +kernel), List.mem_of_getElem? (i := 832) (by decide +kernel)⟩
theorem lw_p24 : lw_okq (⟨"PutOut$Planner", "priceDay", "(I)V"⟩, 12) := ⟨⟨by decide +kernel, by decide +kernel⟩, List.mem_of_getElem? (i := 178) (by decide +kernel), List.mem_of_getElem? (i := 845) (by decide +kernel), List.mem_of_getElem? (i := 846) (by decide +kernel)⟩
theorem lw_p25 : lw_okq (⟨"PutOut$Planner", "search", "(I)I"⟩, 12) := ⟨⟨by decide +kernel, by decide +kernel⟩, List.mem_of_getElem? (i := 178) (by decide +kernel), List.mem_of_getElem? (i := 859) (by decide +kernel), List.mem_of_getElem? (i := 860) (by decide +kernel)⟩
theorem lw_p26 : lw_okq (⟨"PutOut$Planner", "fillLeast", "(IIZ)V"⟩, 12) := ⟨⟨by decide +kernel, by decide +kernel⟩, List.mem_of_getElem? (i := 178) (by decide +kernel), List.mem_of_getElem? (i := 864) (by decide +kernel), List.mem_of_getElem? (i := 865) (by decide +kernel)⟩
theorem lw_p27 : lw_okq (⟨"PutOut$Planner", "costFrom", "(IIIIZ)I"⟩, 12) := ⟨⟨by decide +kernel, by decide +kernel⟩, List.mem_of_getElem? (i := 178) (by decide +kernel), List.mem_of_getElem? (i := 870) (by decide +kernel), List.mem_of_getElem? (i := 871) (by decide +kernel)⟩
theorem lw_p28 : lw_okq (⟨"PutOut$Planner", "follow", "(IZ)V"⟩, 12) := ⟨⟨by decide +kernel, by decide +kernel⟩, List.mem_of_getElem? (i := 178) (by decide +kernel), List.mem_of_getElem? (i := 878) (by decide +kernel), List.mem_of_getElem? (i := 879) (by decide +kernel)⟩
theorem lw_p29 : lw_okq (⟨"PutOut$Planner", "enterFound", "()I"⟩, 12) := ⟨⟨by decide +kernel, by decide +kernel⟩, List.mem_of_getElem? (i := 178) (by decide +kernel), List.mem_of_getElem? (i := 903) (by decide +kernel), List.mem_of_getElem? (i := 904) (by decide +kernel)⟩
theorem lw_p30 : lw_okq (⟨"PutOutModel", "spell", "(IIIIIIIII)V"⟩, 56) := ⟨⟨by decide +kernel, by decide +kernel⟩, List.mem_of_getElem? (i := 1069) (by decide +kernel), List.mem_of_getElem? (i := 1075) (by decide +kernel), List.mem_of_getElem? (i := 1076) (by decide +kernel)⟩
theorem lw_p31 : lw_okq (⟨"PutOutModel", "isThing", "(I)Z"⟩, 56) := ⟨⟨by decide +kernel, by decide +kernel⟩, List.mem_of_getElem? (i := 1069) (by decide +kernel), List.mem_of_getElem? (i := 1268) (by decide +kernel), List.mem_of_getElem? (i := 1269) (by decide +kernel)⟩
def lw_privs_2 : List (MethodName × Nat) := [(⟨"PutOut", "rule", "()LPutOut$Text;"⟩, 9), (⟨"PutOut$Text", "push", "(I)V"⟩, 4), (⟨"PutOut$Text", "pop", "()I"⟩, 4), (⟨"PutOut$Planner", "lookAround", "()V"⟩, 12), (⟨"PutOut$Thing", "offenceTo", "(I)I"⟩, 13), (⟨"PutOut$Planner", "enterNow", "()V"⟩, 12), (⟨"PutOut$Planner", "priceNothing", "()V"⟩, 12), (⟨"PutOut$Planner", "priceMoves", "()V"⟩, 12), (⟨"PutOut$Planner", "priceDay", "(I)V"⟩, 12), (⟨"PutOut$Planner", "search", "(I)I"⟩, 12), (⟨"PutOut$Planner", "fillLeast", "(IIZ)V"⟩, 12), (⟨"PutOut$Planner", "costFrom", "(IIIIZ)I"⟩, 12), (⟨"PutOut$Planner", "follow", "(IZ)V"⟩, 12), (⟨"PutOut$Planner", "enterFound", "()I"⟩, 12), (⟨"PutOutModel", "spell", "(IIIIIIIII)V"⟩, 56), (⟨"PutOutModel", "isThing", "(I)Z"⟩, 56)]
theorem lw_r2 : ∀ q ∈ lw_privs_2, lw_okq q := List.forall_mem_cons.mpr ⟨lw_p16, List.forall_mem_cons.mpr ⟨lw_p17, List.forall_mem_cons.mpr ⟨lw_p18, List.forall_mem_cons.mpr ⟨lw_p19, List.forall_mem_cons.mpr ⟨lw_p20, List.forall_mem_cons.mpr ⟨lw_p21, List.forall_mem_cons.mpr ⟨lw_p22, List.forall_mem_cons.mpr ⟨lw_p23, List.forall_mem_cons.mpr ⟨lw_p24, List.forall_mem_cons.mpr ⟨lw_p25, List.forall_mem_cons.mpr ⟨lw_p26, List.forall_mem_cons.mpr ⟨lw_p27, List.forall_mem_cons.mpr ⟨lw_p28, List.forall_mem_cons.mpr ⟨lw_p29, List.forall_mem_cons.mpr ⟨lw_p30, List.forall_mem_cons.mpr ⟨lw_p31, fun _ h => absurd h List.not_mem_nil⟩⟩⟩⟩⟩⟩⟩⟩⟩⟩⟩⟩⟩⟩⟩⟩
theorem lw_p32 : lw_okq (⟨"PutOutModel", "stands", "(II)Z"⟩, 56) := ⟨⟨by decide +kernel, by decide +kernel⟩, List.mem_of_getElem? (i := 1069) (by decide +kernel), List.mem_of_getElem? (i := 1275) (by decide +kernel), List.mem_of_getElem? (i := 1276) (by decide +kernel)⟩
theorem lw_p33 : lw_okq (⟨"PutOutModel", "says", "(IIII)I"⟩, 56) := ⟨⟨by decide +kernel, by decide +kernel⟩, List.mem_of_getElem? (i := 1069) (by decide +kernel), List.mem_of_getElem? (i := 1279) (by decide +kernel), List.mem_of_getElem? (i := 1280) (by decide +kernel)⟩
theorem lw_p34 : lw_okq (⟨"PutOutModel", "read", "(II)I"⟩, 56) := ⟨⟨by decide +kernel, by decide +kernel⟩, List.mem_of_getElem? (i := 1069) (by decide +kernel), List.mem_of_getElem? (i := 1283) (by decide +kernel), List.mem_of_getElem? (i := 1284) (by decide +kernel)⟩
theorem lw_p35 : lw_okq (⟨"PutOutModel", "next", "()V"⟩, 56) := ⟨⟨by decide +kernel, by decide +kernel⟩, List.mem_of_getElem? (i := 1069) (by decide +kernel), List.mem_of_getElem? (i := 1287) (by decide +kernel), List.mem_of_getElem? (i := 1288) (by decide +kernel)⟩
theorem lw_p36 : lw_okq (⟨"PutOutModel", "byteAt", "(I)I"⟩, 56) := ⟨⟨by decide +kernel, by decide +kernel⟩, List.mem_of_getElem? (i := 1069) (by decide +kernel), List.mem_of_getElem? (i := 1291) (by decide +kernel), List.mem_of_getElem? (i := 1292) (by decide +kernel)⟩
theorem lw_p37 : lw_okq (⟨"PutOutModel", "isWord", "(IIIIIIII)Z"⟩, 56) := ⟨⟨by decide +kernel, by decide +kernel⟩, List.mem_of_getElem? (i := 1069) (by decide +kernel), List.mem_of_getElem? (i := 1300) (by decide +kernel), List.mem_of_getElem? (i := 1301) (by decide +kernel)⟩
theorem lw_p38 : lw_okq (⟨"PutOutModel", "isLetter", "(II)Z"⟩, 56) := ⟨⟨by decide +kernel, by decide +kernel⟩, List.mem_of_getElem? (i := 1069) (by decide +kernel), List.mem_of_getElem? (i := 1304) (by decide +kernel), List.mem_of_getElem? (i := 1305) (by decide +kernel)⟩
theorem lw_p39 : lw_okq (⟨"PutOutModel", "part", "(Z)I"⟩, 56) := ⟨⟨by decide +kernel, by decide +kernel⟩, List.mem_of_getElem? (i := 1069) (by decide +kernel), List.mem_of_getElem? (i := 1308) (by decide +kernel), List.mem_of_getElem? (i := 1309) (by decide +kernel)⟩
theorem lw_p40 : lw_okq (⟨"PutOutModel", "fail", "()V"⟩, 56) := ⟨⟨by decide +kernel, by decide +kernel⟩, List.mem_of_getElem? (i := 1069) (by decide +kernel), List.mem_of_getElem? (i := 1312) (by decide +kernel), List.mem_of_getElem? (i := 1313) (by decide +kernel)⟩
theorem lw_p41 : lw_okq (⟨"PutOutModel", "either", "()I"⟩, 56) := ⟨⟨by decide +kernel, by decide +kernel⟩, List.mem_of_getElem? (i := 1069) (by decide +kernel), List.mem_of_getElem? (i := 1316) (by decide +kernel), List.mem_of_getElem? (i := 1317) (by decide +kernel)⟩
theorem lw_p42 : lw_okq (⟨"PutOutModel", "both", "()I"⟩, 56) := ⟨⟨by decide +kernel, by decide +kernel⟩, List.mem_of_getElem? (i := 1069) (by decide +kernel), List.mem_of_getElem? (i := 1320) (by decide +kernel), List.mem_of_getElem? (i := 1321) (by decide +kernel)⟩
theorem lw_p43 : lw_okq (⟨"PutOutModel", "not", "()I"⟩, 56) := ⟨⟨by decide +kernel, by decide +kernel⟩, List.mem_of_getElem? (i := 1069) (by decide +kernel), List.mem_of_getElem? (i := 1324) (by decide +kernel), List.mem_of_getElem? (i := 1325) (by decide +kernel)⟩
theorem lw_p44 : lw_okq (⟨"PutOutModel", "opens", "()Z"⟩, 56) := ⟨⟨by decide +kernel, by decide +kernel⟩, List.mem_of_getElem? (i := 1069) (by decide +kernel), List.mem_of_getElem? (i := 1328) (by decide +kernel), List.mem_of_getElem? (i := 1329) (by decide +kernel)⟩
theorem lw_p45 : lw_okq (⟨"PutOutModel", "added", "()I"⟩, 56) := ⟨⟨by decide +kernel, by decide +kernel⟩, List.mem_of_getElem? (i := 1069) (by decide +kernel), List.mem_of_getElem? (i := 1332) (by decide +kernel), List.mem_of_getElem? (i := 1333) (by decide +kernel)⟩
theorem lw_p46 : lw_okq (⟨"PutOutModel", "term", "()I"⟩, 56) := ⟨⟨by decide +kernel, by decide +kernel⟩, List.mem_of_getElem? (i := 1069) (by decide +kernel), List.mem_of_getElem? (i := 1336) (by decide +kernel), List.mem_of_getElem? (i := 1337) (by decide +kernel)⟩
theorem lw_p47 : lw_okq (⟨"PutOutModel", "atom", "()I"⟩, 56) := ⟨⟨by decide +kernel, by decide +kernel⟩, List.mem_of_getElem? (i := 1069) (by decide +kernel), List.mem_of_getElem? (i := 1340) (by decide +kernel), List.mem_of_getElem? (i := 1341) (by decide +kernel)⟩
def lw_privs_3 : List (MethodName × Nat) := [(⟨"PutOutModel", "stands", "(II)Z"⟩, 56), (⟨"PutOutModel", "says", "(IIII)I"⟩, 56), (⟨"PutOutModel", "read", "(II)I"⟩, 56), (⟨"PutOutModel", "next", "()V"⟩, 56), (⟨"PutOutModel", "byteAt", "(I)I"⟩, 56), (⟨"PutOutModel", "isWord", "(IIIIIIII)Z"⟩, 56), (⟨"PutOutModel", "isLetter", "(II)Z"⟩, 56), (⟨"PutOutModel", "part", "(Z)I"⟩, 56), (⟨"PutOutModel", "fail", "()V"⟩, 56), (⟨"PutOutModel", "either", "()I"⟩, 56), (⟨"PutOutModel", "both", "()I"⟩, 56), (⟨"PutOutModel", "not", "()I"⟩, 56), (⟨"PutOutModel", "opens", "()Z"⟩, 56), (⟨"PutOutModel", "added", "()I"⟩, 56), (⟨"PutOutModel", "term", "()I"⟩, 56), (⟨"PutOutModel", "atom", "()I"⟩, 56)]
theorem lw_r3 : ∀ q ∈ lw_privs_3, lw_okq q := List.forall_mem_cons.mpr ⟨lw_p32, List.forall_mem_cons.mpr ⟨lw_p33, List.forall_mem_cons.mpr ⟨lw_p34, List.forall_mem_cons.mpr ⟨lw_p35, List.forall_mem_cons.mpr ⟨lw_p36, List.forall_mem_cons.mpr ⟨lw_p37, List.forall_mem_cons.mpr ⟨lw_p38, List.forall_mem_cons.mpr ⟨lw_p39, List.forall_mem_cons.mpr ⟨lw_p40, List.forall_mem_cons.mpr ⟨lw_p41, List.forall_mem_cons.mpr ⟨lw_p42, List.forall_mem_cons.mpr ⟨lw_p43, List.forall_mem_cons.mpr ⟨lw_p44, List.forall_mem_cons.mpr ⟨lw_p45, List.forall_mem_cons.mpr ⟨lw_p46, List.forall_mem_cons.mpr ⟨lw_p47, fun _ h => absurd h List.not_mem_nil⟩⟩⟩⟩⟩⟩⟩⟩⟩⟩⟩⟩⟩⟩⟩⟩
theorem lw_p48 : lw_okq (⟨"PutOutModel", "isSign", "(I)Z"⟩, 56) := ⟨⟨by decide +kernel, by decide +kernel⟩, List.mem_of_getElem? (i := 1069) (by decide +kernel), List.mem_of_getElem? (i := 1344) (by decide +kernel), List.mem_of_getElem? (i := 1345) (by decide +kernel)⟩
theorem lw_p49 : lw_okq (⟨"PutOutModel", "name", "()I"⟩, 56) := ⟨⟨by decide +kernel, by decide +kernel⟩, List.mem_of_getElem? (i := 1069) (by decide +kernel), List.mem_of_getElem? (i := 1348) (by decide +kernel), List.mem_of_getElem? (i := 1349) (by decide +kernel)⟩
theorem lw_p50 : lw_okq (⟨"PutOutModel", "doesSee", "(II)Z"⟩, 56) := ⟨⟨by decide +kernel, by decide +kernel⟩, List.mem_of_getElem? (i := 1069) (by decide +kernel), List.mem_of_getElem? (i := 1362) (by decide +kernel), List.mem_of_getElem? (i := 1363) (by decide +kernel)⟩
theorem lw_p51 : lw_okq (⟨"PutOutModel", "gathers", "()V"⟩, 56) := ⟨⟨by decide +kernel, by decide +kernel⟩, List.mem_of_getElem? (i := 1069) (by decide +kernel), List.mem_of_getElem? (i := 1386) (by decide +kernel), List.mem_of_getElem? (i := 1387) (by decide +kernel)⟩
theorem lw_p52 : lw_okq (⟨"PutOutModel", "badNow", "(I)I"⟩, 56) := ⟨⟨by decide +kernel, by decide +kernel⟩, List.mem_of_getElem? (i := 1069) (by decide +kernel), List.mem_of_getElem? (i := 1390) (by decide +kernel), List.mem_of_getElem? (i := 1391) (by decide +kernel)⟩
theorem lw_p53 : lw_okq (⟨"PutOutModel", "badOf", "(III)I"⟩, 56) := ⟨⟨by decide +kernel, by decide +kernel⟩, List.mem_of_getElem? (i := 1069) (by decide +kernel), List.mem_of_getElem? (i := 1394) (by decide +kernel), List.mem_of_getElem? (i := 1395) (by decide +kernel)⟩
theorem lw_p54 : lw_okq (⟨"PutOutModel", "timesBad", "(III)I"⟩, 56) := ⟨⟨by decide +kernel, by decide +kernel⟩, List.mem_of_getElem? (i := 1069) (by decide +kernel), List.mem_of_getElem? (i := 1401) (by decide +kernel), List.mem_of_getElem? (i := 1402) (by decide +kernel)⟩
theorem lw_p55 : lw_okq (⟨"PutOutModel", "missedOf", "(I)I"⟩, 56) := ⟨⟨by decide +kernel, by decide +kernel⟩, List.mem_of_getElem? (i := 1069) (by decide +kernel), List.mem_of_getElem? (i := 1405) (by decide +kernel), List.mem_of_getElem? (i := 1406) (by decide +kernel)⟩
theorem lw_p56 : lw_okq (⟨"PutOutModel", "offendsOf", "(II)I"⟩, 56) := ⟨⟨by decide +kernel, by decide +kernel⟩, List.mem_of_getElem? (i := 1069) (by decide +kernel), List.mem_of_getElem? (i := 1409) (by decide +kernel), List.mem_of_getElem? (i := 1410) (by decide +kernel)⟩
theorem lw_p57 : lw_okq (⟨"PutOutModel", "fromNow", "()V"⟩, 56) := ⟨⟨by decide +kernel, by decide +kernel⟩, List.mem_of_getElem? (i := 1069) (by decide +kernel), List.mem_of_getElem? (i := 1417) (by decide +kernel), List.mem_of_getElem? (i := 1418) (by decide +kernel)⟩
theorem lw_p58 : lw_okq (⟨"PutOutModel", "seeksFor", "(II)V"⟩, 56) := ⟨⟨by decide +kernel, by decide +kernel⟩, List.mem_of_getElem? (i := 1069) (by decide +kernel), List.mem_of_getElem? (i := 1421) (by decide +kernel), List.mem_of_getElem? (i := 1422) (by decide +kernel)⟩
theorem lw_p59 : lw_okq (⟨"PutOutModel", "begins", "()V"⟩, 56) := ⟨⟨by decide +kernel, by decide +kernel⟩, List.mem_of_getElem? (i := 1069) (by decide +kernel), List.mem_of_getElem? (i := 1425) (by decide +kernel), List.mem_of_getElem? (i := 1426) (by decide +kernel)⟩
theorem lw_p60 : lw_okq (⟨"PutOutModel", "addsDay", "(I)V"⟩, 56) := ⟨⟨by decide +kernel, by decide +kernel⟩, List.mem_of_getElem? (i := 1069) (by decide +kernel), List.mem_of_getElem? (i := 1429) (by decide +kernel), List.mem_of_getElem? (i := 1430) (by decide +kernel)⟩
theorem lw_p61 : lw_okq (⟨"PutOutModel", "goesThrough", "(IIII)V"⟩, 56) := ⟨⟨by decide +kernel, by decide +kernel⟩, List.mem_of_getElem? (i := 1069) (by decide +kernel), List.mem_of_getElem? (i := 1433) (by decide +kernel), List.mem_of_getElem? (i := 1434) (by decide +kernel)⟩
theorem lw_p62 : lw_okq (⟨"PutOutModel", "seeksOnce", "()V"⟩, 56) := ⟨⟨by decide +kernel, by decide +kernel⟩, List.mem_of_getElem? (i := 1069) (by decide +kernel), List.mem_of_getElem? (i := 1446) (by decide +kernel), List.mem_of_getElem? (i := 1447) (by decide +kernel)⟩
theorem lw_p63 : lw_okq (⟨"PutOutModel", "weeks", "()V"⟩, 56) := ⟨⟨by decide +kernel, by decide +kernel⟩, List.mem_of_getElem? (i := 1069) (by decide +kernel), List.mem_of_getElem? (i := 1455) (by decide +kernel), List.mem_of_getElem? (i := 1456) (by decide +kernel)⟩
def lw_privs_4 : List (MethodName × Nat) := [(⟨"PutOutModel", "isSign", "(I)Z"⟩, 56), (⟨"PutOutModel", "name", "()I"⟩, 56), (⟨"PutOutModel", "doesSee", "(II)Z"⟩, 56), (⟨"PutOutModel", "gathers", "()V"⟩, 56), (⟨"PutOutModel", "badNow", "(I)I"⟩, 56), (⟨"PutOutModel", "badOf", "(III)I"⟩, 56), (⟨"PutOutModel", "timesBad", "(III)I"⟩, 56), (⟨"PutOutModel", "missedOf", "(I)I"⟩, 56), (⟨"PutOutModel", "offendsOf", "(II)I"⟩, 56), (⟨"PutOutModel", "fromNow", "()V"⟩, 56), (⟨"PutOutModel", "seeksFor", "(II)V"⟩, 56), (⟨"PutOutModel", "begins", "()V"⟩, 56), (⟨"PutOutModel", "addsDay", "(I)V"⟩, 56), (⟨"PutOutModel", "goesThrough", "(IIII)V"⟩, 56), (⟨"PutOutModel", "seeksOnce", "()V"⟩, 56), (⟨"PutOutModel", "weeks", "()V"⟩, 56)]
theorem lw_r4 : ∀ q ∈ lw_privs_4, lw_okq q := List.forall_mem_cons.mpr ⟨lw_p48, List.forall_mem_cons.mpr ⟨lw_p49, List.forall_mem_cons.mpr ⟨lw_p50, List.forall_mem_cons.mpr ⟨lw_p51, List.forall_mem_cons.mpr ⟨lw_p52, List.forall_mem_cons.mpr ⟨lw_p53, List.forall_mem_cons.mpr ⟨lw_p54, List.forall_mem_cons.mpr ⟨lw_p55, List.forall_mem_cons.mpr ⟨lw_p56, List.forall_mem_cons.mpr ⟨lw_p57, List.forall_mem_cons.mpr ⟨lw_p58, List.forall_mem_cons.mpr ⟨lw_p59, List.forall_mem_cons.mpr ⟨lw_p60, List.forall_mem_cons.mpr ⟨lw_p61, List.forall_mem_cons.mpr ⟨lw_p62, List.forall_mem_cons.mpr ⟨lw_p63, fun _ h => absurd h List.not_mem_nil⟩⟩⟩⟩⟩⟩⟩⟩⟩⟩⟩⟩⟩⟩⟩⟩
theorem lw_p64 : lw_okq (⟨"PutOutModel", "keepsDays", "()V"⟩, 56) := ⟨⟨by decide +kernel, by decide +kernel⟩, List.mem_of_getElem? (i := 1069) (by decide +kernel), List.mem_of_getElem? (i := 1463) (by decide +kernel), List.mem_of_getElem? (i := 1464) (by decide +kernel)⟩
theorem lw_p65 : lw_okq (⟨"PutOutModel", "daysBack", "()V"⟩, 56) := ⟨⟨by decide +kernel, by decide +kernel⟩, List.mem_of_getElem? (i := 1069) (by decide +kernel), List.mem_of_getElem? (i := 1467) (by decide +kernel), List.mem_of_getElem? (i := 1468) (by decide +kernel)⟩
theorem lw_p66 : lw_okq (⟨"PutOutModel", "isRoom", "(I)Z"⟩, 56) := ⟨⟨by decide +kernel, by decide +kernel⟩, List.mem_of_getElem? (i := 1069) (by decide +kernel), List.mem_of_getElem? (i := 1487) (by decide +kernel), List.mem_of_getElem? (i := 1488) (by decide +kernel)⟩
theorem lw_p67 : lw_okq (⟨"PutOutModel", "leastBad", "(I)I"⟩, 56) := ⟨⟨by decide +kernel, by decide +kernel⟩, List.mem_of_getElem? (i := 1069) (by decide +kernel), List.mem_of_getElem? (i := 1491) (by decide +kernel), List.mem_of_getElem? (i := 1492) (by decide +kernel)⟩
theorem lw_p68 : lw_okq (⟨"PutOutModel", "draws", "(I)V"⟩, 56) := ⟨⟨by decide +kernel, by decide +kernel⟩, List.mem_of_getElem? (i := 1069) (by decide +kernel), List.mem_of_getElem? (i := 1508) (by decide +kernel), List.mem_of_getElem? (i := 1509) (by decide +kernel)⟩
def lw_privs_5 : List (MethodName × Nat) := [(⟨"PutOutModel", "keepsDays", "()V"⟩, 56), (⟨"PutOutModel", "daysBack", "()V"⟩, 56), (⟨"PutOutModel", "isRoom", "(I)Z"⟩, 56), (⟨"PutOutModel", "leastBad", "(I)I"⟩, 56), (⟨"PutOutModel", "draws", "(I)V"⟩, 56)]
theorem lw_r5 : ∀ q ∈ lw_privs_5, lw_okq q := List.forall_mem_cons.mpr ⟨lw_p64, List.forall_mem_cons.mpr ⟨lw_p65, List.forall_mem_cons.mpr ⟨lw_p66, List.forall_mem_cons.mpr ⟨lw_p67, List.forall_mem_cons.mpr ⟨lw_p68, fun _ h => absurd h List.not_mem_nil⟩⟩⟩⟩⟩
def lw_privs : List (MethodName × Nat) := lw_privs_1 ++ (lw_privs_2 ++ (lw_privs_3 ++ (lw_privs_4 ++ (lw_privs_5))))
def lw_tbl : List Cond := k2_sels lw_privs ++ tables_1
theorem lw_privs_ok : ∀ q ∈ lw_privs, lw_okq q := by
  show ∀ q ∈ lw_privs_1 ++ (lw_privs_2 ++ (lw_privs_3 ++ (lw_privs_4 ++ (lw_privs_5)))), lw_okq q
  exact List.forall_mem_append.mpr ⟨lw_r1, List.forall_mem_append.mpr ⟨lw_r2, List.forall_mem_append.mpr ⟨lw_r3, List.forall_mem_append.mpr ⟨lw_r4, lw_r5⟩⟩⟩⟩
end
section
theorem goodIn_r {big : List Cond} (ws : List Cond) (ps : List Nat) (hp : ws = ps.filterMap (fun i => big[i]?)) (h : ws.all goodWord = true) : GoodIn big ws := by
  intro w hw
  have h1 := List.all_eq_true.mp h w hw
  rw [hp] at hw
  obtain ⟨i, -, hi⟩ := List.mem_filterMap.mp hw
  have hm : w ∈ big := by first | exact List.mem_of_getElem? hi | exact List.getElem?_mem hi
  exact ⟨hm, good_of_word h1⟩
theorem goodIn_app {big a b : List Cond} (ha : GoodIn big a) (hb : GoodIn big b) : GoodIn big (a ++ b) := fun w h => (List.mem_append.mp h).elim (ha w) (hb w)
theorem goodIn_ca {big a b : List Cond} {c : Cond} (ha : GoodIn big (c :: a)) (hb : GoodIn big b) : GoodIn big (c :: (a ++ b)) := fun w h => (List.mem_cons.mp h).elim (fun e => ha w (List.mem_cons.mpr (Or.inl e))) (fun h => (List.mem_append.mp h).elim (fun h => ha w (List.mem_cons.mpr (Or.inr h))) (hb w))
theorem goodIn_sub {big ws : List Cond} (hm : ∀ w ∈ ws, w ∈ big) (h : ws.all goodWord = true) : GoodIn big ws := fun w hw => ⟨hm w hw, good_of_word (List.all_eq_true.mp h w hw)⟩
def RX0 : String := "PutOut$Broken"
def TX0 : u_T := fun k => match k with
  | 0 => ("PutOut$Thing", "kind", "I", true)
  | 1 => ("PutOut$Thing", "index", "I", true)
  | 2 => ("PutOut$Thing", "number", "I", false)
  | 3 => ("PutOut$Thing", "giver", "I", false)
  | 4 => ("PutOut$Thing", "look", "I", false)
  | 5 => ("PutOut$Thing", "place", "I", false)
  | 6 => ("PutOut$Thing", "moves", "[I", true)
  | 7 => ("PutOut$Thing", "ugly", "[I", true)
  | 8 => ("PutOut$Thing", "minds", "[I", true)
  | 9 => ("PutOut$Thing", "offences", "[I", true)
  | 10 => ("PutOut$Thing", "lack", "I", false)
  | 11 => ("PutOut$Thing", "barred", "[I", true)
  | _ => ("PutOut$Thing", "price", "[I", true)
def tyX0 : Nat → FieldType := fun k => match k with
  | 0 => .int
  | 1 => .int
  | 2 => .int
  | 3 => .int
  | 4 => .int
  | 5 => .int
  | 6 => .array .int
  | 7 => .array .int
  | 8 => .array .int
  | 9 => .array .int
  | 10 => .int
  | 11 => .array .int
  | _ => .array .int
abbrev wsX00 : List Cond := u_ws RX0 TX0 13
theorem nmX0 : ∀ a, a < 13 → ∀ b, b < 13 → a ≠ b → (TX0 a).2.1 ≠ (TX0 b).2.1 := by decide +kernel
theorem tyX0_ok : ∀ k, k < 13 → parseFieldDescriptor (TX0 k).2.2.1 = some (tyX0 k) := by decide +kernel
abbrev cX0_init : ByteArray := prog_2_method_1_code
def yX0_init : MethodName := ⟨RX0, "<init>", "(IIII)V"⟩
abbrev cX0_missed : ByteArray := prog_2_method_2_code
def yX0_missed : MethodName := ⟨RX0, "missed", "()I"⟩
abbrev cX0_offends : ByteArray := prog_2_method_3_code
def yX0_offends : MethodName := ⟨RX0, "offends", "(I)I"⟩
def RX1 : String := "PutOut$Clock"
def TX1 : u_T := fun k => match k with
  | 0 => ("PutOut$Thing", "kind", "I", true)
  | 1 => ("PutOut$Thing", "index", "I", true)
  | 2 => ("PutOut$Thing", "number", "I", false)
  | 3 => ("PutOut$Thing", "giver", "I", false)
  | 4 => ("PutOut$Thing", "look", "I", false)
  | 5 => ("PutOut$Thing", "place", "I", false)
  | 6 => ("PutOut$Thing", "moves", "[I", true)
  | 7 => ("PutOut$Thing", "ugly", "[I", true)
  | 8 => ("PutOut$Thing", "minds", "[I", true)
  | 9 => ("PutOut$Thing", "offences", "[I", true)
  | 10 => ("PutOut$Thing", "lack", "I", false)
  | 11 => ("PutOut$Thing", "barred", "[I", true)
  | _ => ("PutOut$Thing", "price", "[I", true)
def tyX1 : Nat → FieldType := fun k => match k with
  | 0 => .int
  | 1 => .int
  | 2 => .int
  | 3 => .int
  | 4 => .int
  | 5 => .int
  | 6 => .array .int
  | 7 => .array .int
  | 8 => .array .int
  | 9 => .array .int
  | 10 => .int
  | 11 => .array .int
  | _ => .array .int
abbrev wsX10 : List Cond := u_ws RX1 TX1 13
theorem nmX1 : ∀ a, a < 13 → ∀ b, b < 13 → a ≠ b → (TX1 a).2.1 ≠ (TX1 b).2.1 := by decide +kernel
theorem tyX1_ok : ∀ k, k < 13 → parseFieldDescriptor (TX1 k).2.2.1 = some (tyX1 k) := by decide +kernel
abbrev cX1_init : ByteArray := prog_3_method_1_code
def yX1_init : MethodName := ⟨RX1, "<init>", "(IIII)V"⟩
abbrev cX1_stands : ByteArray := prog_3_method_2_code
def yX1_stands : MethodName := ⟨RX1, "stands", "(I)Z"⟩
abbrev cX1_missed : ByteArray := prog_3_method_3_code
def yX1_missed : MethodName := ⟨RX1, "missed", "()I"⟩
abbrev cX1_offends : ByteArray := prog_3_method_4_code
def yX1_offends : MethodName := ⟨RX1, "offends", "(I)I"⟩
def RX2 : String := "PutOut$House"
def TX2 : u_T := fun k => match k with
  | 0 => ("PutOut$House", "sight", "[I", true)
  | 1 => ("PutOut$House", "seats", "[I", true)
  | 2 => ("PutOut$House", "days", "[I", true)
  | 3 => ("PutOut$House", "things", "[LPutOut$Thing;", true)
  | 4 => ("PutOut$House", "count", "I", false)
  | _ => ("PutOut$House", "rule", "I", false)
def tyX2 : Nat → FieldType := fun k => match k with
  | 0 => .array .int
  | 1 => .array .int
  | 2 => .array .int
  | 3 => .array (.object "PutOut$Thing")
  | 4 => .int
  | _ => .int
abbrev wsX20 : List Cond := u_ws RX2 TX2 6
theorem nmX2 : ∀ a, a < 6 → ∀ b, b < 6 → a ≠ b → (TX2 a).2.1 ≠ (TX2 b).2.1 := by decide +kernel
theorem tyX2_ok : ∀ k, k < 6 → parseFieldDescriptor (TX2 k).2.2.1 = some (tyX2 k) := by decide +kernel
abbrev cX2_init : ByteArray := prog_4_method_1_code
def yX2_init : MethodName := ⟨RX2, "<init>", "()V"⟩
abbrev cX2_has : ByteArray := prog_4_method_2_code
def yX2_has : MethodName := ⟨RX2, "has", "(I)Z"⟩
abbrev cX2_isTaken : ByteArray := prog_4_method_3_code
def yX2_isTaken : MethodName := ⟨RX2, "isTaken", "(I)Z"⟩
abbrev cX2_howManyArePut : ByteArray := prog_4_method_4_code
def yX2_howManyArePut : MethodName := ⟨RX2, "howManyArePut", "()I"⟩
abbrev cX2_take : ByteArray := prog_4_method_5_code
def yX2_take : MethodName := ⟨RX2, "take", "(LPutOut$House;)V"⟩
def RX3 : String := "PutOut$Picture"
def TX3 : u_T := fun k => match k with
  | 0 => ("PutOut$Thing", "kind", "I", true)
  | 1 => ("PutOut$Thing", "index", "I", true)
  | 2 => ("PutOut$Thing", "number", "I", false)
  | 3 => ("PutOut$Thing", "giver", "I", false)
  | 4 => ("PutOut$Thing", "look", "I", false)
  | 5 => ("PutOut$Thing", "place", "I", false)
  | 6 => ("PutOut$Thing", "moves", "[I", true)
  | 7 => ("PutOut$Thing", "ugly", "[I", true)
  | 8 => ("PutOut$Thing", "minds", "[I", true)
  | 9 => ("PutOut$Thing", "offences", "[I", true)
  | 10 => ("PutOut$Thing", "lack", "I", false)
  | 11 => ("PutOut$Thing", "barred", "[I", true)
  | _ => ("PutOut$Thing", "price", "[I", true)
def tyX3 : Nat → FieldType := fun k => match k with
  | 0 => .int
  | 1 => .int
  | 2 => .int
  | 3 => .int
  | 4 => .int
  | 5 => .int
  | 6 => .array .int
  | 7 => .array .int
  | 8 => .array .int
  | 9 => .array .int
  | 10 => .int
  | 11 => .array .int
  | _ => .array .int
abbrev wsX30 : List Cond := u_ws RX3 TX3 13
theorem nmX3 : ∀ a, a < 13 → ∀ b, b < 13 → a ≠ b → (TX3 a).2.1 ≠ (TX3 b).2.1 := by decide +kernel
theorem tyX3_ok : ∀ k, k < 13 → parseFieldDescriptor (TX3 k).2.2.1 = some (tyX3 k) := by decide +kernel
abbrev cX3_init : ByteArray := prog_5_method_1_code
def yX3_init : MethodName := ⟨RX3, "<init>", "(IIII)V"⟩
abbrev cX3_stands : ByteArray := prog_5_method_2_code
def yX3_stands : MethodName := ⟨RX3, "stands", "(I)Z"⟩
def RX4 : String := "PutOut$Planner"
def TX4 : u_T := fun k => match k with
  | 0 => ("PutOut$Planner", "things", "[LPutOut$Thing;", false)
  | 1 => ("PutOut$Planner", "count", "I", false)
  | 2 => ("PutOut$Planner", "absent", "I", false)
  | 3 => ("PutOut$Planner", "sight", "[I", true)
  | 4 => ("PutOut$Planner", "seats", "[I", true)
  | 5 => ("PutOut$Planner", "days", "[I", true)
  | 6 => ("PutOut$Planner", "viewers", "[I", true)
  | 7 => ("PutOut$Planner", "room", "[I", true)
  | 8 => ("PutOut$Planner", "found", "[I", true)
  | 9 => ("PutOut$Planner", "movedThings", "I", false)
  | 10 => ("PutOut$Planner", "movedDays", "I", false)
  | _ => ("PutOut$Planner", "least", "[[I", true)
def tyX4 : Nat → FieldType := fun k => match k with
  | 0 => .array (.object "PutOut$Thing")
  | 1 => .int
  | 2 => .int
  | 3 => .array .int
  | 4 => .array .int
  | 5 => .array .int
  | 6 => .array .int
  | 7 => .array .int
  | 8 => .array .int
  | 9 => .int
  | 10 => .int
  | _ => .array (.array .int)
abbrev wsX40 : List Cond := u_ws RX4 TX4 12
theorem nmX4 : ∀ a, a < 12 → ∀ b, b < 12 → a ≠ b → (TX4 a).2.1 ≠ (TX4 b).2.1 := by decide +kernel
theorem tyX4_ok : ∀ k, k < 12 → parseFieldDescriptor (TX4 k).2.2.1 = some (tyX4 k) := by decide +kernel
abbrev cX4_init : ByteArray := prog_6_method_1_code
def yX4_init : MethodName := ⟨RX4, "<init>", "()V"⟩
abbrev cX4_start : ByteArray := prog_6_method_2_code
def yX4_start : MethodName := ⟨RX4, "start", "(LPutOut$House;LPutOut$Text;)V"⟩
abbrev cX4_sits : ByteArray := prog_6_method_3_code
def yX4_sits : MethodName := ⟨RX4, "sits", "(II)V"⟩
abbrev cX4_lookAround : ByteArray := prog_6_method_4_code
def yX4_lookAround : MethodName := ⟨RX4, "lookAround", "()V"⟩
abbrev cX4_enterNow : ByteArray := prog_6_method_5_code
def yX4_enterNow : MethodName := ⟨RX4, "enterNow", "()V"⟩
abbrev cX4_enters : ByteArray := prog_6_method_6_code
def yX4_enters : MethodName := ⟨RX4, "enters", "([I)Z"⟩
abbrev cX4_badDay : ByteArray := prog_6_method_7_code
def yX4_badDay : MethodName := ⟨RX4, "badDay", "(I)I"⟩
abbrev cX4_thingsThat : ByteArray := prog_6_method_8_code
def yX4_thingsThat : MethodName := ⟨RX4, "thingsThat", "(II)I"⟩
abbrev cX4_surprised : ByteArray := prog_6_method_9_code
def yX4_surprised : MethodName := ⟨RX4, "surprised", "()I"⟩
abbrev cX4_expected : ByteArray := prog_6_method_10_code
def yX4_expected : MethodName := ⟨RX4, "expected", "()I"⟩
abbrev cX4_bestFor : ByteArray := prog_6_method_11_code
def yX4_bestFor : MethodName := ⟨RX4, "bestFor", "(II)I"⟩
abbrev cX4_onceCost : ByteArray := prog_6_method_12_code
def yX4_onceCost : MethodName := ⟨RX4, "onceCost", "()I"⟩
abbrev cX4_weekCost : ByteArray := prog_6_method_13_code
def yX4_weekCost : MethodName := ⟨RX4, "weekCost", "()I"⟩
abbrev cX4_leaveOut : ByteArray := prog_6_method_14_code
def yX4_leaveOut : MethodName := ⟨RX4, "leaveOut", "([II)V"⟩
abbrev cX4_giveAway : ByteArray := prog_6_method_15_code
def yX4_giveAway : MethodName := ⟨RX4, "giveAway", "(I)V"⟩
abbrev cX4_lackOf : ByteArray := prog_6_method_16_code
def yX4_lackOf : MethodName := ⟨RX4, "lackOf", "(I)I"⟩
abbrev cX4_draw : ByteArray := prog_6_method_17_code
def yX4_draw : MethodName := ⟨RX4, "draw", "(I)V"⟩
abbrev cX4_enterFound : ByteArray := prog_6_method_18_code
def yX4_enterFound : MethodName := ⟨RX4, "enterFound", "()I"⟩
abbrev cX4_priceNothing : ByteArray := prog_6_method_19_code
def yX4_priceNothing : MethodName := ⟨RX4, "priceNothing", "()V"⟩
abbrev cX4_priceMoves : ByteArray := prog_6_method_20_code
def yX4_priceMoves : MethodName := ⟨RX4, "priceMoves", "()V"⟩
abbrev cX4_priceDay : ByteArray := prog_6_method_21_code
def yX4_priceDay : MethodName := ⟨RX4, "priceDay", "(I)V"⟩
abbrev cX4_search : ByteArray := prog_6_method_22_code
def yX4_search : MethodName := ⟨RX4, "search", "(I)I"⟩
abbrev cX4_fillLeast : ByteArray := prog_6_method_23_code
def yX4_fillLeast : MethodName := ⟨RX4, "fillLeast", "(IIZ)V"⟩
abbrev cX4_follow : ByteArray := prog_6_method_24_code
def yX4_follow : MethodName := ⟨RX4, "follow", "(IZ)V"⟩
abbrev cX4_costFrom : ByteArray := prog_6_method_25_code
def yX4_costFrom : MethodName := ⟨RX4, "costFrom", "(IIIIZ)I"⟩
abbrev cX4_bitOf : ByteArray := prog_6_method_26_code
def yX4_bitOf : MethodName := ⟨RX4, "bitOf", "(I)I"⟩
def RX5 : String := "PutOut$Portrait"
def TX5 : u_T := fun k => match k with
  | 0 => ("PutOut$Thing", "kind", "I", true)
  | 1 => ("PutOut$Thing", "index", "I", true)
  | 2 => ("PutOut$Thing", "number", "I", false)
  | 3 => ("PutOut$Thing", "giver", "I", false)
  | 4 => ("PutOut$Thing", "look", "I", false)
  | 5 => ("PutOut$Thing", "place", "I", false)
  | 6 => ("PutOut$Thing", "moves", "[I", true)
  | 7 => ("PutOut$Thing", "ugly", "[I", true)
  | 8 => ("PutOut$Thing", "minds", "[I", true)
  | 9 => ("PutOut$Thing", "offences", "[I", true)
  | 10 => ("PutOut$Thing", "lack", "I", false)
  | 11 => ("PutOut$Thing", "barred", "[I", true)
  | _ => ("PutOut$Thing", "price", "[I", true)
def tyX5 : Nat → FieldType := fun k => match k with
  | 0 => .int
  | 1 => .int
  | 2 => .int
  | 3 => .int
  | 4 => .int
  | 5 => .int
  | 6 => .array .int
  | 7 => .array .int
  | 8 => .array .int
  | 9 => .array .int
  | 10 => .int
  | 11 => .array .int
  | _ => .array .int
abbrev wsX50 : List Cond := u_ws RX5 TX5 13
theorem nmX5 : ∀ a, a < 13 → ∀ b, b < 13 → a ≠ b → (TX5 a).2.1 ≠ (TX5 b).2.1 := by decide +kernel
theorem tyX5_ok : ∀ k, k < 13 → parseFieldDescriptor (TX5 k).2.2.1 = some (tyX5 k) := by decide +kernel
abbrev cX5_init : ByteArray := prog_7_method_1_code
def yX5_init : MethodName := ⟨RX5, "<init>", "(IIII)V"⟩
abbrev cX5_stands : ByteArray := prog_7_method_2_code
def yX5_stands : MethodName := ⟨RX5, "stands", "(I)Z"⟩
abbrev cX5_missed : ByteArray := prog_7_method_3_code
def yX5_missed : MethodName := ⟨RX5, "missed", "()I"⟩
abbrev cX5_offends : ByteArray := prog_7_method_4_code
def yX5_offends : MethodName := ⟨RX5, "offends", "(I)I"⟩
def RX6 : String := "PutOut$Reader"
def TX6 : u_T := fun k => match k with
  | 0 => ("PutOut$Reader", "bytes", "[I", false)
  | 1 => ("PutOut$Reader", "size", "I", false)
  | 2 => ("PutOut$Reader", "at", "I", false)
  | 3 => ("PutOut$Reader", "start", "I", false)
  | 4 => ("PutOut$Reader", "token", "I", false)
  | 5 => ("PutOut$Reader", "value", "I", false)
  | 6 => ("PutOut$Reader", "fault", "I", false)
  | 7 => ("PutOut$Reader", "code", "[I", true)
  | 8 => ("PutOut$Reader", "length", "I", false)
  | _ => ("PutOut$Reader", "starts", "[I", true)
def tyX6 : Nat → FieldType := fun k => match k with
  | 0 => .array .int
  | 1 => .int
  | 2 => .int
  | 3 => .int
  | 4 => .int
  | 5 => .int
  | 6 => .int
  | 7 => .array .int
  | 8 => .int
  | _ => .array .int
abbrev wsX60 : List Cond := u_ws RX6 TX6 10
theorem nmX6 : ∀ a, a < 10 → ∀ b, b < 10 → a ≠ b → (TX6 a).2.1 ≠ (TX6 b).2.1 := by decide +kernel
theorem tyX6_ok : ∀ k, k < 10 → parseFieldDescriptor (TX6 k).2.2.1 = some (tyX6 k) := by decide +kernel
abbrev cX6_init : ByteArray := prog_8_method_1_code
def yX6_init : MethodName := ⟨RX6, "<init>", "()V"⟩
abbrev cX6_read : ByteArray := prog_8_method_2_code
def yX6_read : MethodName := ⟨RX6, "read", "([II)I"⟩
abbrev cX6_made : ByteArray := prog_8_method_3_code
def yX6_made : MethodName := ⟨RX6, "made", "()LPutOut$Text;"⟩
abbrev cX6_either : ByteArray := prog_8_method_4_code
def yX6_either : MethodName := ⟨RX6, "either", "(I)V"⟩
abbrev cX6_both : ByteArray := prog_8_method_5_code
def yX6_both : MethodName := ⟨RX6, "both", "(I)V"⟩
abbrev cX6_negation : ByteArray := prog_8_method_6_code
def yX6_negation : MethodName := ⟨RX6, "negation", "(I)V"⟩
abbrev cX6_comparison : ByteArray := prog_8_method_7_code
def yX6_comparison : MethodName := ⟨RX6, "comparison", "(I)V"⟩
abbrev cX6_sum : ByteArray := prog_8_method_8_code
def yX6_sum : MethodName := ⟨RX6, "sum", "(I)V"⟩
abbrev cX6_term : ByteArray := prog_8_method_9_code
def yX6_term : MethodName := ⟨RX6, "term", "(I)V"⟩
abbrev cX6_one : ByteArray := prog_8_method_10_code
def yX6_one : MethodName := ⟨RX6, "one", "(I)V"⟩
abbrev cX6_emit : ByteArray := prog_8_method_11_code
def yX6_emit : MethodName := ⟨RX6, "emit", "(I)V"⟩
abbrev cX6_expect : ByteArray := prog_8_method_12_code
def yX6_expect : MethodName := ⟨RX6, "expect", "(I)V"⟩
abbrev cX6_fail : ByteArray := prog_8_method_13_code
def yX6_fail : MethodName := ⟨RX6, "fail", "()V"⟩
abbrev cX6_advance : ByteArray := prog_8_method_14_code
def yX6_advance : MethodName := ⟨RX6, "advance", "()V"⟩
abbrev cX6_word : ByteArray := prog_8_method_15_code
def yX6_word : MethodName := ⟨RX6, "word", "()I"⟩
abbrev cX6_key : ByteArray := prog_8_method_16_code
def yX6_key : MethodName := ⟨RX6, "key", "()I"⟩
abbrev cX6_name : ByteArray := prog_8_method_17_code
def yX6_name : MethodName := ⟨RX6, "name", "()I"⟩
abbrev cX6_spells : ByteArray := prog_8_method_18_code
def yX6_spells : MethodName := ⟨RX6, "spells", "(Ljava/lang/String;)Z"⟩
abbrev cX6_digits : ByteArray := prog_8_method_19_code
def yX6_digits : MethodName := ⟨RX6, "digits", "()I"⟩
abbrev cX6_sign : ByteArray := prog_8_method_20_code
def yX6_sign : MethodName := ⟨RX6, "sign", "(I)I"⟩
abbrev cX6_isLetter : ByteArray := prog_8_method_21_code
def yX6_isLetter : MethodName := ⟨RX6, "isLetter", "(I)Z"⟩
abbrev cX6_isDigit : ByteArray := prog_8_method_22_code
def yX6_isDigit : MethodName := ⟨RX6, "isDigit", "(I)Z"⟩
def RX7 : String := "PutOut$Sheet"
def TX7 : u_T := fun k => match k with
  | 0 => ("PutOut$Sheet", "sort", "I", false)
  | 1 => ("PutOut$Sheet", "size", "I", false)
  | _ => ("PutOut$Sheet", "cells", "[I", true)
def tyX7 : Nat → FieldType := fun k => match k with
  | 0 => .int
  | 1 => .int
  | _ => .array .int
abbrev wsX70 : List Cond := u_ws RX7 TX7 3
theorem nmX7 : ∀ a, a < 3 → ∀ b, b < 3 → a ≠ b → (TX7 a).2.1 ≠ (TX7 b).2.1 := by decide +kernel
theorem tyX7_ok : ∀ k, k < 3 → parseFieldDescriptor (TX7 k).2.2.1 = some (tyX7 k) := by decide +kernel
abbrev cX7_init : ByteArray := prog_9_method_1_code
def yX7_init : MethodName := ⟨RX7, "<init>", "()V"⟩
abbrev cX7_become : ByteArray := prog_9_method_2_code
def yX7_become : MethodName := ⟨RX7, "become", "(II)V"⟩
abbrev cX7_narrowed : ByteArray := prog_9_method_3_code
def yX7_narrowed : MethodName := ⟨RX7, "narrowed", "(I)I"⟩
abbrev cX7_holds : ByteArray := prog_9_method_4_code
def yX7_holds : MethodName := ⟨RX7, "holds", "(II)Z"⟩
def RX8 : String := "PutOut$Text"
def TX8 : u_T := fun k => match k with
  | 0 => ("PutOut$Text", "code", "[I", true)
  | 1 => ("PutOut$Text", "starts", "[I", true)
  | 2 => ("PutOut$Text", "stack", "[I", true)
  | _ => ("PutOut$Text", "top", "I", false)
def tyX8 : Nat → FieldType := fun k => match k with
  | 0 => .array .int
  | 1 => .array .int
  | 2 => .array .int
  | _ => .int
abbrev wsX80 : List Cond := u_ws RX8 TX8 4
theorem nmX8 : ∀ a, a < 4 → ∀ b, b < 4 → a ≠ b → (TX8 a).2.1 ≠ (TX8 b).2.1 := by decide +kernel
theorem tyX8_ok : ∀ k, k < 4 → parseFieldDescriptor (TX8 k).2.2.1 = some (tyX8 k) := by decide +kernel
abbrev cX8_init : ByteArray := prog_10_method_1_code
def yX8_init : MethodName := ⟨RX8, "<init>", "([II[I)V"⟩
abbrev cX8_tells : ByteArray := prog_10_method_2_code
def yX8_tells : MethodName := ⟨RX8, "tells", "(ILPutOut$Thing;II)I"⟩
abbrev cX8_push : ByteArray := prog_10_method_3_code
def yX8_push : MethodName := ⟨RX8, "push", "(I)V"⟩
abbrev cX8_pop : ByteArray := prog_10_method_4_code
def yX8_pop : MethodName := ⟨RX8, "pop", "()I"⟩
abbrev cX8_named : ByteArray := prog_10_method_5_code
def yX8_named : MethodName := ⟨RX8, "named", "(ILPutOut$Thing;II)I"⟩
abbrev cX8_joined : ByteArray := prog_10_method_6_code
def yX8_joined : MethodName := ⟨RX8, "joined", "(III)I"⟩
def RX9 : String := "PutOut$Thing"
def TX9 : u_T := fun k => match k with
  | 0 => ("PutOut$Thing", "kind", "I", true)
  | 1 => ("PutOut$Thing", "index", "I", true)
  | 2 => ("PutOut$Thing", "number", "I", false)
  | 3 => ("PutOut$Thing", "giver", "I", false)
  | 4 => ("PutOut$Thing", "look", "I", false)
  | 5 => ("PutOut$Thing", "place", "I", false)
  | 6 => ("PutOut$Thing", "moves", "[I", true)
  | 7 => ("PutOut$Thing", "ugly", "[I", true)
  | 8 => ("PutOut$Thing", "minds", "[I", true)
  | 9 => ("PutOut$Thing", "offences", "[I", true)
  | 10 => ("PutOut$Thing", "lack", "I", false)
  | 11 => ("PutOut$Thing", "barred", "[I", true)
  | _ => ("PutOut$Thing", "price", "[I", true)
def tyX9 : Nat → FieldType := fun k => match k with
  | 0 => .int
  | 1 => .int
  | 2 => .int
  | 3 => .int
  | 4 => .int
  | 5 => .int
  | 6 => .array .int
  | 7 => .array .int
  | 8 => .array .int
  | 9 => .array .int
  | 10 => .int
  | 11 => .array .int
  | _ => .array .int
abbrev wsX90 : List Cond := u_ws RX9 TX9 13
theorem nmX9 : ∀ a, a < 13 → ∀ b, b < 13 → a ≠ b → (TX9 a).2.1 ≠ (TX9 b).2.1 := by decide +kernel
theorem tyX9_ok : ∀ k, k < 13 → parseFieldDescriptor (TX9 k).2.2.1 = some (tyX9 k) := by decide +kernel
abbrev cX9_init : ByteArray := prog_11_method_1_code
def yX9_init : MethodName := ⟨RX9, "<init>", "(IIII)V"⟩
abbrev cX9_stands : ByteArray := prog_11_method_2_code
def yX9_stands : MethodName := ⟨RX9, "stands", "(I)Z"⟩
abbrev cX9_missed : ByteArray := prog_11_method_3_code
def yX9_missed : MethodName := ⟨RX9, "missed", "()I"⟩
abbrev cX9_offends : ByteArray := prog_11_method_4_code
def yX9_offends : MethodName := ⟨RX9, "offends", "(I)I"⟩
abbrev cX9_change : ByteArray := prog_11_method_5_code
def yX9_change : MethodName := ⟨RX9, "change", "(II)I"⟩
abbrev cX9_take : ByteArray := prog_11_method_6_code
def yX9_take : MethodName := ⟨RX9, "take", "(LPutOut$Thing;)V"⟩
abbrev cX9_movesTo : ByteArray := prog_11_method_7_code
def yX9_movesTo : MethodName := ⟨RX9, "movesTo", "(LPutOut$Text;I)I"⟩
abbrev cX9_learn : ByteArray := prog_11_method_8_code
def yX9_learn : MethodName := ⟨RX9, "learn", "(LPutOut$Text;)V"⟩
abbrev cX9_isBarred : ByteArray := prog_11_method_9_code
def yX9_isBarred : MethodName := ⟨RX9, "isBarred", "(I)Z"⟩
abbrev cX9_offenceTo : ByteArray := prog_11_method_10_code
def yX9_offenceTo : MethodName := ⟨RX9, "offenceTo", "(I)I"⟩
abbrev cX9_isMissed : ByteArray := prog_11_method_11_code
def yX9_isMissed : MethodName := ⟨RX9, "isMissed", "(II)Z"⟩
abbrev cX9_isOffending : ByteArray := prog_11_method_12_code
def yX9_isOffending : MethodName := ⟨RX9, "isOffending", "(II)Z"⟩
abbrev cX9_harm : ByteArray := prog_11_method_13_code
def yX9_harm : MethodName := ⟨RX9, "harm", "(II)I"⟩
abbrev cX9_bad : ByteArray := prog_11_method_14_code
def yX9_bad : MethodName := ⟨RX9, "bad", "(III)I"⟩
abbrev cX9_lackFor : ByteArray := prog_11_method_15_code
def yX9_lackFor : MethodName := ⟨RX9, "lackFor", "(I)I"⟩
abbrev cX9_priceNothing : ByteArray := prog_11_method_16_code
def yX9_priceNothing : MethodName := ⟨RX9, "priceNothing", "(Z)V"⟩
abbrev cX9_priceMoves : ByteArray := prog_11_method_17_code
def yX9_priceMoves : MethodName := ⟨RX9, "priceMoves", "(I)V"⟩
abbrev cX9_priceDay : ByteArray := prog_11_method_18_code
def yX9_priceDay : MethodName := ⟨RX9, "priceDay", "(I[I)V"⟩
def RX10 : String := "PutOut$Vase"
def TX10 : u_T := fun k => match k with
  | 0 => ("PutOut$Thing", "kind", "I", true)
  | 1 => ("PutOut$Thing", "index", "I", true)
  | 2 => ("PutOut$Thing", "number", "I", false)
  | 3 => ("PutOut$Thing", "giver", "I", false)
  | 4 => ("PutOut$Thing", "look", "I", false)
  | 5 => ("PutOut$Thing", "place", "I", false)
  | 6 => ("PutOut$Thing", "moves", "[I", true)
  | 7 => ("PutOut$Thing", "ugly", "[I", true)
  | 8 => ("PutOut$Thing", "minds", "[I", true)
  | 9 => ("PutOut$Thing", "offences", "[I", true)
  | 10 => ("PutOut$Thing", "lack", "I", false)
  | 11 => ("PutOut$Thing", "barred", "[I", true)
  | _ => ("PutOut$Thing", "price", "[I", true)
def tyX10 : Nat → FieldType := fun k => match k with
  | 0 => .int
  | 1 => .int
  | 2 => .int
  | 3 => .int
  | 4 => .int
  | 5 => .int
  | 6 => .array .int
  | 7 => .array .int
  | 8 => .array .int
  | 9 => .array .int
  | 10 => .int
  | 11 => .array .int
  | _ => .array .int
abbrev wsX100 : List Cond := u_ws RX10 TX10 13
theorem nmX10 : ∀ a, a < 13 → ∀ b, b < 13 → a ≠ b → (TX10 a).2.1 ≠ (TX10 b).2.1 := by decide +kernel
theorem tyX10_ok : ∀ k, k < 13 → parseFieldDescriptor (TX10 k).2.2.1 = some (tyX10 k) := by decide +kernel
abbrev cX10_init : ByteArray := prog_12_method_1_code
def yX10_init : MethodName := ⟨RX10, "<init>", "(IIII)V"⟩
abbrev cX10_missed : ByteArray := prog_12_method_2_code
def yX10_missed : MethodName := ⟨RX10, "missed", "()I"⟩
abbrev cX10_offends : ByteArray := prog_12_method_3_code
def yX10_offends : MethodName := ⟨RX10, "offends", "(I)I"⟩
def RX11 : String := "PutOut"
def TX11 : u_T := fun k => match k with
  | 0 => ("PutOut", "house", "LPutOut$House;", true)
  | 1 => ("PutOut", "kept", "LPutOut$House;", false)
  | 2 => ("PutOut", "tape", "[I", true)
  | 3 => ("PutOut", "fed", "I", false)
  | 4 => ("PutOut", "reader", "LPutOut$Reader;", true)
  | 5 => ("PutOut", "texts", "[LPutOut$Text;", true)
  | 6 => ("PutOut", "textCount", "I", false)
  | 7 => ("PutOut", "sheets", "[LPutOut$Sheet;", true)
  | _ => ("PutOut", "planner", "LPutOut$Planner;", true)
def tyX11 : Nat → FieldType := fun k => match k with
  | 0 => .object "PutOut$House"
  | 1 => .object "PutOut$House"
  | 2 => .array .int
  | 3 => .int
  | 4 => .object "PutOut$Reader"
  | 5 => .array (.object "PutOut$Text")
  | 6 => .int
  | 7 => .array (.object "PutOut$Sheet")
  | _ => .object "PutOut$Planner"
abbrev wsX110 : List Cond := u_ws RX11 TX11 9
theorem nmX11 : ∀ a, a < 9 → ∀ b, b < 9 → a ≠ b → (TX11 a).2.1 ≠ (TX11 b).2.1 := by decide +kernel
theorem tyX11_ok : ∀ k, k < 9 → parseFieldDescriptor (TX11 k).2.2.1 = some (tyX11 k) := by decide +kernel
abbrev cX11_init : ByteArray := prog_1_method_1_code
def yX11_init : MethodName := ⟨RX11, "<init>", "()V"⟩
abbrev cX11_set : ByteArray := prog_1_method_2_code
def yX11_set : MethodName := ⟨RX11, "set", "(III)I"⟩
abbrev cX11_thing : ByteArray := prog_1_method_3_code
def yX11_thing : MethodName := ⟨RX11, "thing", "(III)I"⟩
abbrev cX11_put : ByteArray := prog_1_method_4_code
def yX11_put : MethodName := ⟨RX11, "put", "(II)I"⟩
abbrev cX11_told : ByteArray := prog_1_method_5_code
def yX11_told : MethodName := ⟨RX11, "told", "(II)I"⟩
abbrev cX11_feed : ByteArray := prog_1_method_6_code
def yX11_feed : MethodName := ⟨RX11, "feed", "(I)I"⟩
abbrev cX11_text : ByteArray := prog_1_method_7_code
def yX11_text : MethodName := ⟨RX11, "text", "()I"⟩
abbrev cX11_force : ByteArray := prog_1_method_8_code
def yX11_force : MethodName := ⟨RX11, "force", "(I)I"⟩
abbrev cX11_day : ByteArray := prog_1_method_9_code
def yX11_day : MethodName := ⟨RX11, "day", "(II)I"⟩
abbrev cX11_best : ByteArray := prog_1_method_10_code
def yX11_best : MethodName := ⟨RX11, "best", "(III)I"⟩
abbrev cX11_tidy : ByteArray := prog_1_method_11_code
def yX11_tidy : MethodName := ⟨RX11, "tidy", "(I)I"⟩
abbrev cX11_once : ByteArray := prog_1_method_12_code
def yX11_once : MethodName := ⟨RX11, "once", "(I)I"⟩
abbrev cX11_week : ByteArray := prog_1_method_13_code
def yX11_week : MethodName := ⟨RX11, "week", "(I)I"⟩
abbrev cX11_dearest : ByteArray := prog_1_method_14_code
def yX11_dearest : MethodName := ⟨RX11, "dearest", "(I)I"⟩
abbrev cX11_give : ByteArray := prog_1_method_15_code
def yX11_give : MethodName := ⟨RX11, "give", "()I"⟩
abbrev cX11_seat : ByteArray := prog_1_method_16_code
def yX11_seat : MethodName := ⟨RX11, "seat", "(II)I"⟩
abbrev cX11_seen : ByteArray := prog_1_method_17_code
def yX11_seen : MethodName := ⟨RX11, "seen", "(II)I"⟩
abbrev cX11_film : ByteArray := prog_1_method_18_code
def yX11_film : MethodName := ⟨RX11, "film", "(II)I"⟩
abbrev cX11_drawn : ByteArray := prog_1_method_19_code
def yX11_drawn : MethodName := ⟨RX11, "drawn", "(I)I"⟩
abbrev cX11_chance : ByteArray := prog_1_method_20_code
def yX11_chance : MethodName := ⟨RX11, "chance", "(III)J"⟩
abbrev cX11_image : ByteArray := prog_1_method_21_code
def yX11_image : MethodName := ⟨RX11, "image", "()I"⟩
abbrev cX11_back : ByteArray := prog_1_method_22_code
def yX11_back : MethodName := ⟨RX11, "back", "()I"⟩
abbrev cX11_count : ByteArray := prog_1_method_23_code
def yX11_count : MethodName := ⟨RX11, "count", "(I)I"⟩
abbrev cX11_sheet : ByteArray := prog_1_method_24_code
def yX11_sheet : MethodName := ⟨RX11, "sheet", "(III)I"⟩
abbrev cX11_cell : ByteArray := prog_1_method_25_code
def yX11_cell : MethodName := ⟨RX11, "cell", "(III)I"⟩
abbrev cX11_copy : ByteArray := prog_1_method_26_code
def yX11_copy : MethodName := ⟨RX11, "copy", "(IIIII)I"⟩
abbrev cX11_things : ByteArray := prog_1_method_27_code
def yX11_things : MethodName := ⟨RX11, "things", "(IIII)I"⟩
abbrev cX11_taken : ByteArray := prog_1_method_28_code
def yX11_taken : MethodName := ⟨RX11, "taken", "(II)I"⟩
abbrev cX11_rule : ByteArray := prog_1_method_29_code
def yX11_rule : MethodName := ⟨RX11, "rule", "()LPutOut$Text;"⟩
abbrev cX11_isBelow : ByteArray := prog_1_method_30_code
def yX11_isBelow : MethodName := ⟨RX11, "isBelow", "(II)Z"⟩
abbrev cX11_exchange : ByteArray := prog_1_method_31_code
def yX11_exchange : MethodName := ⟨RX11, "exchange", "([IIII)I"⟩
abbrev cX11_made : ByteArray := prog_1_method_32_code
def yX11_made : MethodName := ⟨RX11, "made", "(IIII)LPutOut$Thing;"⟩
abbrev cX11_isOf : ByteArray := prog_1_method_33_code
def yX11_isOf : MethodName := ⟨RX11, "isOf", "(LPutOut$Thing;I)Z"⟩
abbrev cX11_viewersOf : ByteArray := prog_1_method_34_code
def yX11_viewersOf : MethodName := ⟨RX11, "viewersOf", "(I[I)I"⟩
abbrev cX11_hasBit : ByteArray := prog_1_method_35_code
def yX11_hasBit : MethodName := ⟨RX11, "hasBit", "(II)Z"⟩
abbrev cX11_lowestBit : ByteArray := prog_1_method_36_code
def yX11_lowestBit : MethodName := ⟨RX11, "lowestBit", "(I)I"⟩
abbrev cX11_commonDivisor : ByteArray := prog_1_method_37_code
def yX11_commonDivisor : MethodName := ⟨RX11, "commonDivisor", "(II)I"⟩
def RX12 : String := "PutOutModel"
def TX12 : u_T := fun k => match k with
  | 0 => ("PutOutModel", "thrown", "I", false)
  | 1 => ("PutOutModel", "texts", "[I", true)
  | 2 => ("PutOutModel", "textSize", "[I", true)
  | 3 => ("PutOutModel", "textCount", "I", false)
  | 4 => ("PutOutModel", "rule", "I", false)
  | 5 => ("PutOutModel", "tape", "[I", true)
  | 6 => ("PutOutModel", "taped", "I", false)
  | 7 => ("PutOutModel", "sights", "[I", true)
  | 8 => ("PutOutModel", "seats", "[I", true)
  | 9 => ("PutOutModel", "days", "[I", true)
  | 10 => ("PutOutModel", "kinds", "[I", true)
  | 11 => ("PutOutModel", "numbers", "[I", true)
  | 12 => ("PutOutModel", "givers", "[I", true)
  | 13 => ("PutOutModel", "looks", "[I", true)
  | 14 => ("PutOutModel", "puts", "[I", true)
  | 15 => ("PutOutModel", "thingCount", "I", false)
  | 16 => ("PutOutModel", "ofThing", "I", false)
  | 17 => ("PutOutModel", "ofPlace", "I", false)
  | 18 => ("PutOutModel", "ofGiver", "I", false)
  | 19 => ("PutOutModel", "ofGuests", "I", false)
  | 20 => ("PutOutModel", "ofLook", "I", false)
  | 21 => ("PutOutModel", "ofNumber", "I", false)
  | 22 => ("PutOutModel", "from", "I", false)
  | 23 => ("PutOutModel", "size", "I", false)
  | 24 => ("PutOutModel", "here", "I", false)
  | 25 => ("PutOutModel", "token", "I", false)
  | 26 => ("PutOutModel", "tokenAt", "I", false)
  | 27 => ("PutOutModel", "tokenWorth", "J", false)
  | 28 => ("PutOutModel", "open", "I", false)
  | 29 => ("PutOutModel", "bad", "Z", false)
  | 30 => ("PutOutModel", "fault", "I", false)
  | 31 => ("PutOutModel", "ugly", "[I", true)
  | 32 => ("PutOutModel", "moving", "[I", true)
  | 33 => ("PutOutModel", "minding", "[I", true)
  | 34 => ("PutOutModel", "table", "[I", true)
  | 35 => ("PutOutModel", "away", "I", false)
  | 36 => ("PutOutModel", "room", "[I", true)
  | 37 => ("PutOutModel", "bestRoom", "[I", true)
  | 38 => ("PutOutModel", "bestCost", "I", false)
  | 39 => ("PutOutModel", "isFound", "Z", false)
  | 40 => ("PutOutModel", "most", "I", false)
  | 41 => ("PutOutModel", "wasPut", "[I", true)
  | 42 => ("PutOutModel", "isCounted", "Z", false)
  | 43 => ("PutOutModel", "weekCost", "I", false)
  | 44 => ("PutOutModel", "weekMoves", "I", false)
  | 45 => ("PutOutModel", "weekDays", "I", false)
  | 46 => ("PutOutModel", "daysWas", "[I", true)
  | 47 => ("PutOutModel", "told", "[I", true)
  | 48 => ("PutOutModel", "roomKept", "[I", true)
  | 49 => ("PutOutModel", "thingsKept", "[I", true)
  | 50 => ("PutOutModel", "manyKept", "I", false)
  | 51 => ("PutOutModel", "ruleKept", "I", false)
  | 52 => ("PutOutModel", "isThere", "[Z", true)
  | 53 => ("PutOutModel", "sorts", "[I", true)
  | 54 => ("PutOutModel", "sheetSize", "[I", true)
  | _ => ("PutOutModel", "items", "[I", true)
def tyX12 : Nat → FieldType := fun k => match k with
  | 0 => .int
  | 1 => .array .int
  | 2 => .array .int
  | 3 => .int
  | 4 => .int
  | 5 => .array .int
  | 6 => .int
  | 7 => .array .int
  | 8 => .array .int
  | 9 => .array .int
  | 10 => .array .int
  | 11 => .array .int
  | 12 => .array .int
  | 13 => .array .int
  | 14 => .array .int
  | 15 => .int
  | 16 => .int
  | 17 => .int
  | 18 => .int
  | 19 => .int
  | 20 => .int
  | 21 => .int
  | 22 => .int
  | 23 => .int
  | 24 => .int
  | 25 => .int
  | 26 => .int
  | 27 => .long
  | 28 => .int
  | 29 => .boolean
  | 30 => .int
  | 31 => .array .int
  | 32 => .array .int
  | 33 => .array .int
  | 34 => .array .int
  | 35 => .int
  | 36 => .array .int
  | 37 => .array .int
  | 38 => .int
  | 39 => .boolean
  | 40 => .int
  | 41 => .array .int
  | 42 => .boolean
  | 43 => .int
  | 44 => .int
  | 45 => .int
  | 46 => .array .int
  | 47 => .array .int
  | 48 => .array .int
  | 49 => .array .int
  | 50 => .int
  | 51 => .int
  | 52 => .array .boolean
  | 53 => .array .int
  | 54 => .array .int
  | _ => .array .int
abbrev wsX120 : List Cond := u_ws RX12 TX12 56
theorem nmX12 : ∀ a, a < 56 → ∀ b, b < 56 → a ≠ b → (TX12 a).2.1 ≠ (TX12 b).2.1 := by decide +kernel
theorem tyX12_ok : ∀ k, k < 56 → parseFieldDescriptor (TX12 k).2.2.1 = some (tyX12 k) := by decide +kernel
abbrev cX12_in : ByteArray := prog_14_method_2_code
def yX12_in : MethodName := ⟨RX12, "in", "(JJJ)Z"⟩
abbrev cX12_within : ByteArray := prog_14_method_3_code
def yX12_within : MethodName := ⟨RX12, "within", "(III)I"⟩
abbrev cX12_bitsOf : ByteArray := prog_14_method_4_code
def yX12_bitsOf : MethodName := ⟨RX12, "bitsOf", "(I)I"⟩
abbrev cX12_init : ByteArray := prog_14_method_5_code
def yX12_init : MethodName := ⟨RX12, "<init>", "()V"⟩
abbrev cX12_spell : ByteArray := prog_14_method_6_code
def yX12_spell : MethodName := ⟨RX12, "spell", "(IIIIIIIII)V"⟩
abbrev cX12_isThing : ByteArray := prog_14_method_7_code
def yX12_isThing : MethodName := ⟨RX12, "isThing", "(I)Z"⟩
abbrev cX12_isPlace : ByteArray := prog_14_method_8_code
def yX12_isPlace : MethodName := ⟨RX12, "isPlace", "(I)Z"⟩
abbrev cX12_areGuests : ByteArray := prog_14_method_9_code
def yX12_areGuests : MethodName := ⟨RX12, "areGuests", "(I)Z"⟩
abbrev cX12_set : ByteArray := prog_14_method_10_code
def yX12_set : MethodName := ⟨RX12, "set", "(III)I"⟩
abbrev cX12_thing : ByteArray := prog_14_method_11_code
def yX12_thing : MethodName := ⟨RX12, "thing", "(III)I"⟩
abbrev cX12_stands : ByteArray := prog_14_method_12_code
def yX12_stands : MethodName := ⟨RX12, "stands", "(II)Z"⟩
abbrev cX12_missedOf : ByteArray := prog_14_method_13_code
def yX12_missedOf : MethodName := ⟨RX12, "missedOf", "(I)I"⟩
abbrev cX12_offendsOf : ByteArray := prog_14_method_14_code
def yX12_offendsOf : MethodName := ⟨RX12, "offendsOf", "(II)I"⟩
abbrev cX12_doesSee : ByteArray := prog_14_method_15_code
def yX12_doesSee : MethodName := ⟨RX12, "doesSee", "(II)Z"⟩
abbrev cX12_put : ByteArray := prog_14_method_16_code
def yX12_put : MethodName := ⟨RX12, "put", "(II)I"⟩
abbrev cX12_told : ByteArray := prog_14_method_17_code
def yX12_told : MethodName := ⟨RX12, "told", "(II)I"⟩
abbrev cX12_feed : ByteArray := prog_14_method_18_code
def yX12_feed : MethodName := ⟨RX12, "feed", "(I)I"⟩
abbrev cX12_byteAt : ByteArray := prog_14_method_19_code
def yX12_byteAt : MethodName := ⟨RX12, "byteAt", "(I)I"⟩
abbrev cX12_next : ByteArray := prog_14_method_20_code
def yX12_next : MethodName := ⟨RX12, "next", "()V"⟩
abbrev cX12_fail : ByteArray := prog_14_method_21_code
def yX12_fail : MethodName := ⟨RX12, "fail", "()V"⟩
abbrev cX12_isLetter : ByteArray := prog_14_method_22_code
def yX12_isLetter : MethodName := ⟨RX12, "isLetter", "(II)Z"⟩
abbrev cX12_isWord : ByteArray := prog_14_method_23_code
def yX12_isWord : MethodName := ⟨RX12, "isWord", "(IIIIIIII)Z"⟩
abbrev cX12_isSign : ByteArray := prog_14_method_24_code
def yX12_isSign : MethodName := ⟨RX12, "isSign", "(I)Z"⟩
abbrev cX12_opens : ByteArray := prog_14_method_25_code
def yX12_opens : MethodName := ⟨RX12, "opens", "()Z"⟩
abbrev cX12_name : ByteArray := prog_14_method_26_code
def yX12_name : MethodName := ⟨RX12, "name", "()I"⟩
abbrev cX12_atom : ByteArray := prog_14_method_27_code
def yX12_atom : MethodName := ⟨RX12, "atom", "()I"⟩
abbrev cX12_term : ByteArray := prog_14_method_28_code
def yX12_term : MethodName := ⟨RX12, "term", "()I"⟩
abbrev cX12_added : ByteArray := prog_14_method_29_code
def yX12_added : MethodName := ⟨RX12, "added", "()I"⟩
abbrev cX12_not : ByteArray := prog_14_method_30_code
def yX12_not : MethodName := ⟨RX12, "not", "()I"⟩
abbrev cX12_both : ByteArray := prog_14_method_31_code
def yX12_both : MethodName := ⟨RX12, "both", "()I"⟩
abbrev cX12_either : ByteArray := prog_14_method_32_code
def yX12_either : MethodName := ⟨RX12, "either", "()I"⟩
abbrev cX12_part : ByteArray := prog_14_method_33_code
def yX12_part : MethodName := ⟨RX12, "part", "(Z)I"⟩
abbrev cX12_read : ByteArray := prog_14_method_34_code
def yX12_read : MethodName := ⟨RX12, "read", "(II)I"⟩
abbrev cX12_text : ByteArray := prog_14_method_35_code
def yX12_text : MethodName := ⟨RX12, "text", "()I"⟩
abbrev cX12_force : ByteArray := prog_14_method_36_code
def yX12_force : MethodName := ⟨RX12, "force", "(I)I"⟩
abbrev cX12_says : ByteArray := prog_14_method_37_code
def yX12_says : MethodName := ⟨RX12, "says", "(IIII)I"⟩
abbrev cX12_gathers : ByteArray := prog_14_method_38_code
def yX12_gathers : MethodName := ⟨RX12, "gathers", "()V"⟩
abbrev cX12_timesBad : ByteArray := prog_14_method_39_code
def yX12_timesBad : MethodName := ⟨RX12, "timesBad", "(III)I"⟩
abbrev cX12_badOf : ByteArray := prog_14_method_40_code
def yX12_badOf : MethodName := ⟨RX12, "badOf", "(III)I"⟩
abbrev cX12_begins : ByteArray := prog_14_method_41_code
def yX12_begins : MethodName := ⟨RX12, "begins", "()V"⟩
abbrev cX12_addsDay : ByteArray := prog_14_method_42_code
def yX12_addsDay : MethodName := ⟨RX12, "addsDay", "(I)V"⟩
abbrev cX12_goesThrough : ByteArray := prog_14_method_43_code
def yX12_goesThrough : MethodName := ⟨RX12, "goesThrough", "(IIII)V"⟩
abbrev cX12_fromNow : ByteArray := prog_14_method_44_code
def yX12_fromNow : MethodName := ⟨RX12, "fromNow", "()V"⟩
abbrev cX12_seeksFor : ByteArray := prog_14_method_45_code
def yX12_seeksFor : MethodName := ⟨RX12, "seeksFor", "(II)V"⟩
abbrev cX12_badNow : ByteArray := prog_14_method_46_code
def yX12_badNow : MethodName := ⟨RX12, "badNow", "(I)I"⟩
abbrev cX12_day : ByteArray := prog_14_method_47_code
def yX12_day : MethodName := ⟨RX12, "day", "(II)I"⟩
abbrev cX12_best : ByteArray := prog_14_method_48_code
def yX12_best : MethodName := ⟨RX12, "best", "(III)I"⟩
abbrev cX12_tidy : ByteArray := prog_14_method_49_code
def yX12_tidy : MethodName := ⟨RX12, "tidy", "(I)I"⟩
abbrev cX12_seeksOnce : ByteArray := prog_14_method_50_code
def yX12_seeksOnce : MethodName := ⟨RX12, "seeksOnce", "()V"⟩
abbrev cX12_once : ByteArray := prog_14_method_51_code
def yX12_once : MethodName := ⟨RX12, "once", "(I)I"⟩
abbrev cX12_weeks : ByteArray := prog_14_method_52_code
def yX12_weeks : MethodName := ⟨RX12, "weeks", "()V"⟩
abbrev cX12_week : ByteArray := prog_14_method_53_code
def yX12_week : MethodName := ⟨RX12, "week", "(I)I"⟩
abbrev cX12_keepsDays : ByteArray := prog_14_method_54_code
def yX12_keepsDays : MethodName := ⟨RX12, "keepsDays", "()V"⟩
abbrev cX12_daysBack : ByteArray := prog_14_method_55_code
def yX12_daysBack : MethodName := ⟨RX12, "daysBack", "()V"⟩
abbrev cX12_dearest : ByteArray := prog_14_method_56_code
def yX12_dearest : MethodName := ⟨RX12, "dearest", "(I)I"⟩
abbrev cX12_give : ByteArray := prog_14_method_57_code
def yX12_give : MethodName := ⟨RX12, "give", "()I"⟩
abbrev cX12_seat : ByteArray := prog_14_method_58_code
def yX12_seat : MethodName := ⟨RX12, "seat", "(II)I"⟩
abbrev cX12_isRoom : ByteArray := prog_14_method_59_code
def yX12_isRoom : MethodName := ⟨RX12, "isRoom", "(I)Z"⟩
abbrev cX12_leastBad : ByteArray := prog_14_method_60_code
def yX12_leastBad : MethodName := ⟨RX12, "leastBad", "(I)I"⟩
abbrev cX12_seen : ByteArray := prog_14_method_61_code
def yX12_seen : MethodName := ⟨RX12, "seen", "(II)I"⟩
abbrev cX12_film : ByteArray := prog_14_method_62_code
def yX12_film : MethodName := ⟨RX12, "film", "(II)I"⟩
abbrev cX12_draws : ByteArray := prog_14_method_63_code
def yX12_draws : MethodName := ⟨RX12, "draws", "(I)V"⟩
abbrev cX12_drawn : ByteArray := prog_14_method_64_code
def yX12_drawn : MethodName := ⟨RX12, "drawn", "(I)I"⟩
abbrev cX12_chance : ByteArray := prog_14_method_65_code
def yX12_chance : MethodName := ⟨RX12, "chance", "(III)J"⟩
abbrev cX12_image : ByteArray := prog_14_method_66_code
def yX12_image : MethodName := ⟨RX12, "image", "()I"⟩
abbrev cX12_back : ByteArray := prog_14_method_67_code
def yX12_back : MethodName := ⟨RX12, "back", "()I"⟩
abbrev cX12_count : ByteArray := prog_14_method_68_code
def yX12_count : MethodName := ⟨RX12, "count", "(I)I"⟩
abbrev cX12_isSheet : ByteArray := prog_14_method_69_code
def yX12_isSheet : MethodName := ⟨RX12, "isSheet", "(I)Z"⟩
abbrev cX12_sheet : ByteArray := prog_14_method_70_code
def yX12_sheet : MethodName := ⟨RX12, "sheet", "(III)I"⟩
abbrev cX12_cell : ByteArray := prog_14_method_71_code
def yX12_cell : MethodName := ⟨RX12, "cell", "(III)I"⟩
abbrev cX12_copy : ByteArray := prog_14_method_72_code
def yX12_copy : MethodName := ⟨RX12, "copy", "(IIIII)I"⟩
abbrev cX12_things : ByteArray := prog_14_method_73_code
def yX12_things : MethodName := ⟨RX12, "things", "(IIII)I"⟩
abbrev cX12_over : ByteArray := prog_14_method_74_code
def yX12_over : MethodName := ⟨RX12, "over", "(I)I"⟩
abbrev cX12_taken : ByteArray := prog_14_method_75_code
def yX12_taken : MethodName := ⟨RX12, "taken", "(II)I"⟩
def RJ6 : String := "java/lang/Integer"
abbrev cJ6_bitCount_0f7a4 : ByteArray := prog_16_method_49_code
def yJ6_bitCount_0f7a4 : MethodName := ⟨RJ6, "bitCount", "(I)I"⟩
def RJ9 : String := "java/lang/Math"
abbrev cJ9_max_7cf53 : ByteArray := prog_17_method_65_code
def yJ9_max_7cf53 : MethodName := ⟨RJ9, "max", "(II)I"⟩
abbrev cJ9_min_7cf53 : ByteArray := prog_17_method_69_code
def yJ9_min_7cf53 : MethodName := ⟨RJ9, "min", "(II)I"⟩
def RJ0 : String := "java/lang/String"
abbrev cJ0_length_8abf5 : ByteArray := prog_18_method_54_code
def yJ0_length_8abf5 : MethodName := ⟨RJ0, "length", "()I"⟩
abbrev cJ0_charAt_5068e : ByteArray := prog_18_method_56_code
def yJ0_charAt_5068e : MethodName := ⟨RJ0, "charAt", "(I)C"⟩
abbrev cJ0_coder_7d493 : ByteArray := prog_18_method_152_code
def yJ0_coder_7d493 : MethodName := ⟨RJ0, "coder", "()B"⟩
abbrev cJ0_isLatin1_aae02 : ByteArray := prog_18_method_154_code
def yJ0_isLatin1_aae02 : MethodName := ⟨RJ0, "isLatin1", "()Z"⟩
abbrev cJ0_checkIndex_df160 : ByteArray := prog_18_method_155_code
def yJ0_checkIndex_df160 : MethodName := ⟨RJ0, "checkIndex", "(II)V"⟩
def RJ1 : String := "java/lang/StringLatin1"
abbrev cJ1_charAt_3b067 : ByteArray := prog_19_method_2_code
def yJ1_charAt_3b067 : MethodName := ⟨RJ1, "charAt", "([BI)C"⟩
def RJ2 : String := "java/lang/StringUTF16"
abbrev cJ2_getChar_3b067 : ByteArray := prog_20_method_5_code
def yJ2_getChar_3b067 : MethodName := ⟨RJ2, "getChar", "([BI)C"⟩
abbrev cJ2_length_9d52b : ByteArray := prog_20_method_6_code
def yJ2_length_9d52b : MethodName := ⟨RJ2, "length", "([B)I"⟩
abbrev cJ2_charAt_3b067 : ByteArray := prog_20_method_83_code
def yJ2_charAt_3b067 : MethodName := ⟨RJ2, "charAt", "([BI)C"⟩
abbrev cJ2_checkIndex_2214a : ByteArray := prog_20_method_91_code
def yJ2_checkIndex_2214a : MethodName := ⟨RJ2, "checkIndex", "(I[B)V"⟩
def RJ10 : String := "java/lang/System"
def RJ7 : String := "java/util/Arrays"
abbrev cJ7_fill_53178 : ByteArray := prog_22_method_103_code
def yJ7_fill_53178 : MethodName := ⟨RJ7, "fill", "([II)V"⟩
abbrev cJ7_copyOf_59c91 : ByteArray := prog_22_method_123_code
def yJ7_copyOf_59c91 : MethodName := ⟨RJ7, "copyOf", "([II)[I"⟩
def RJ3 : String := "jdk/internal/util/Preconditions"
abbrev cJ3_checkIndex_8e157 : ByteArray := prog_23_method_11_code
def yJ3_checkIndex_8e157 : MethodName := ⟨RJ3, "checkIndex", "(IILjava/util/function/BiFunction;)I"⟩
def RL : String := "PutOutLaw"
abbrev cL_law : ByteArray := code
def yL_law : MethodName := ⟨RL, "law", "([I)Z"⟩
abbrev vwCl : List vw_C := [(RX0, TX0, 13), (RX1, TX1, 13), (RX2, TX2, 6), (RX3, TX3, 13), (RX4, TX4, 12), (RX5, TX5, 13), (RX6, TX6, 10), (RX7, TX7, 3), (RX8, TX8, 4), (RX9, TX9, 13), (RX10, TX10, 13), (RX11, TX11, 9), (RX12, TX12, 56)]
end
section
/-! the classes by their numbers -/
def xN : Nat → Nat := fun ci => match ci with
  | 0 => 13
  | 1 => 13
  | 2 => 6
  | 3 => 13
  | 4 => 12
  | 5 => 13
  | 6 => 10
  | 7 => 3
  | 8 => 4
  | 9 => 13
  | 10 => 13
  | 11 => 9
  | 12 => 56
  | _ => 0
def xC : Nat → String := fun ci => match ci with
  | 0 => RX0
  | 1 => RX1
  | 2 => RX2
  | 3 => RX3
  | 4 => RX4
  | 5 => RX5
  | 6 => RX6
  | 7 => RX7
  | 8 => RX8
  | 9 => RX9
  | 10 => RX10
  | 11 => RX11
  | 12 => RX12
  | _ => ""
def xT : Nat → u_T := fun ci => match ci with
  | 0 => TX0
  | 1 => TX1
  | 2 => TX2
  | 3 => TX3
  | 4 => TX4
  | 5 => TX5
  | 6 => TX6
  | 7 => TX7
  | 8 => TX8
  | 9 => TX9
  | 10 => TX10
  | 11 => TX11
  | 12 => TX12
  | _ => TX0
def xty : Nat → Nat → FieldType := fun ci => match ci with
  | 0 => tyX0
  | 1 => tyX1
  | 2 => tyX2
  | 3 => tyX3
  | 4 => tyX4
  | 5 => tyX5
  | 6 => tyX6
  | 7 => tyX7
  | 8 => tyX8
  | 9 => tyX9
  | 10 => tyX10
  | 11 => tyX11
  | 12 => tyX12
  | _ => tyX0
theorem x_cl : ∀ {ci : Nat}, ci < 13 → vwCl[ci]? = some (xC ci, xT ci, xN ci)
  | 0, _ => rfl
  | 1, _ => rfl
  | 2, _ => rfl
  | 3, _ => rfl
  | 4, _ => rfl
  | 5, _ => rfl
  | 6, _ => rfl
  | 7, _ => rfl
  | 8, _ => rfl
  | 9, _ => rfl
  | 10, _ => rfl
  | 11, _ => rfl
  | 12, _ => rfl
  | _ + 13, h => absurd h (by omega)
theorem x_tyok : ∀ {ci : Nat}, ci < 13 → ∀ k, k < xN ci → parseFieldDescriptor (xT ci k).2.2.1 = some (xty ci k)
  | 0, _ => tyX0_ok
  | 1, _ => tyX1_ok
  | 2, _ => tyX2_ok
  | 3, _ => tyX3_ok
  | 4, _ => tyX4_ok
  | 5, _ => tyX5_ok
  | 6, _ => tyX6_ok
  | 7, _ => tyX7_ok
  | 8, _ => tyX8_ok
  | 9, _ => tyX9_ok
  | 10, _ => tyX10_ok
  | 11, _ => tyX11_ok
  | 12, _ => tyX12_ok
  | _ + 13, h => absurd h (by omega)
theorem x_nm : ∀ {ci : Nat}, ci < 13 → ∀ a, a < xN ci → ∀ b, b < xN ci → a ≠ b → (xT ci a).2.1 ≠ (xT ci b).2.1
  | 0, _ => nmX0
  | 1, _ => nmX1
  | 2, _ => nmX2
  | 3, _ => nmX3
  | 4, _ => nmX4
  | 5, _ => nmX5
  | 6, _ => nmX6
  | 7, _ => nmX7
  | 8, _ => nmX8
  | 9, _ => nmX9
  | 10, _ => nmX10
  | 11, _ => nmX11
  | 12, _ => nmX12
  | _ + 13, h => absurd h (by omega)
/-! the good words of the tables -/
def gT : List Cond := lw_tbl.filter goodWord
theorem gt_of {w : Cond} (i : Nat) (h : lw_tbl[i]? = some w) (hg : goodWord w = true) : w ∈ gT := List.mem_filter.mpr ⟨List.mem_of_getElem? h, hg⟩
theorem gt_sub {w : Cond} (h : w ∈ gT) : w ∈ lw_tbl := (List.mem_filter.mp h).1
theorem gt_good {w : Cond} (h : w ∈ gT) : (w.onTables && w.keeps) = true ∨ ∃ ty, w = .arrayClass ty := good_of_word (List.mem_filter.mp h).2
theorem gt_ps {ws : List Cond} (ps : List Nat) (hp : ws = ps.filterMap (fun i => lw_tbl[i]?)) (h : ws.all goodWord = true) : ∀ w ∈ ws, w ∈ gT := fun w hw => List.mem_filter.mpr ⟨by rw [hp] at hw; obtain ⟨i, -, hi⟩ := List.mem_filterMap.mp hw; exact List.mem_of_getElem? hi, List.all_eq_true.mp h w hw⟩
set_option maxRecDepth 100000 in
theorem x_in0 : ∀ w ∈ u_ws RX0 TX0 13, w ∈ gT := gt_ps [640, 641, 642, 643, 644, 645, 646, 647, 648, 649, 650, 651, 652] (by decide +kernel) (by decide +kernel)
set_option maxRecDepth 100000 in
theorem x_in1 : ∀ w ∈ u_ws RX1 TX1 13, w ∈ gT := gt_ps [580, 581, 582, 583, 584, 585, 586, 587, 588, 589, 590, 591, 592] (by decide +kernel) (by decide +kernel)
set_option maxRecDepth 100000 in
theorem x_in2 : ∀ w ∈ u_ws RX2 TX2 6, w ∈ gT := gt_ps [192, 194, 196, 198, 200, 202] (by decide +kernel) (by decide +kernel)
set_option maxRecDepth 100000 in
theorem x_in3 : ∀ w ∈ u_ws RX3 TX3 13, w ∈ gT := gt_ps [560, 561, 562, 563, 564, 565, 566, 567, 568, 569, 570, 571, 572] (by decide +kernel) (by decide +kernel)
set_option maxRecDepth 100000 in
theorem x_in4 : ∀ w ∈ u_ws RX4 TX4 12, w ∈ gT := gt_ps [270, 272, 274, 276, 278, 280, 282, 284, 286, 288, 290, 292] (by decide +kernel) (by decide +kernel)
set_option maxRecDepth 100000 in
theorem x_in5 : ∀ w ∈ u_ws RX5 TX5 13, w ∈ gT := gt_ps [600, 601, 602, 603, 604, 605, 606, 607, 608, 609, 610, 611, 612] (by decide +kernel) (by decide +kernel)
set_option maxRecDepth 100000 in
theorem x_in6 : ∀ w ∈ u_ws RX6 TX6 10, w ∈ gT := gt_ps [221, 223, 225, 227, 229, 231, 233, 235, 237, 239] (by decide +kernel) (by decide +kernel)
set_option maxRecDepth 100000 in
theorem x_in7 : ∀ w ∈ u_ws RX7 TX7 3, w ∈ gT := gt_ps [306, 308, 310] (by decide +kernel) (by decide +kernel)
set_option maxRecDepth 100000 in
theorem x_in8 : ∀ w ∈ u_ws RX8 TX8 4, w ∈ gT := gt_ps [483, 485, 487, 489] (by decide +kernel) (by decide +kernel)
set_option maxRecDepth 100000 in
theorem x_in9 : ∀ w ∈ u_ws RX9 TX9 13, w ∈ gT := gt_ps [147, 149, 151, 153, 155, 157, 159, 161, 163, 165, 167, 169, 171] (by decide +kernel) (by decide +kernel)
set_option maxRecDepth 100000 in
theorem x_in10 : ∀ w ∈ u_ws RX10 TX10 13, w ∈ gT := gt_ps [620, 621, 622, 623, 624, 625, 626, 627, 628, 629, 630, 631, 632] (by decide +kernel) (by decide +kernel)
set_option maxRecDepth 100000 in
theorem x_in11 : ∀ w ∈ u_ws RX11 TX11 9, w ∈ gT := gt_ps [502, 504, 506, 508, 510, 512, 514, 516, 518] (by decide +kernel) (by decide +kernel)
set_option maxRecDepth 100000 in
theorem x_in12 : ∀ w ∈ u_ws RX12 TX12 56, w ∈ gT := gt_ps [1202, 1204, 1206, 1208, 1210, 1212, 1214, 1216, 1218, 1220, 1222, 1224, 1226, 1228, 1230, 1232, 1234, 1236, 1238, 1240, 1242, 1244, 1246, 1248, 1250, 1252, 1254, 1256, 1258, 1260, 1262, 1264, 1266, 1268, 1270, 1272, 1274, 1276, 1278, 1280, 1282, 1284, 1286, 1288, 1290, 1292, 1294, 1296, 1298, 1300, 1302, 1304, 1306, 1308, 1310, 1312] (by decide +kernel) (by decide +kernel)
theorem x_in : ∀ {ci : Nat}, ci < 13 → ∀ w ∈ u_ws (xC ci) (xT ci) (xN ci), w ∈ gT
  | 0, _ => x_in0
  | 1, _ => x_in1
  | 2, _ => x_in2
  | 3, _ => x_in3
  | 4, _ => x_in4
  | 5, _ => x_in5
  | 6, _ => x_in6
  | 7, _ => x_in7
  | 8, _ => x_in8
  | 9, _ => x_in9
  | 10, _ => x_in10
  | 11, _ => x_in11
  | 12, _ => x_in12
  | _ + 13, h => absurd h (by omega)
end
section
/-! typed memory: the kind of each address (0: none; 1: an object, its number of class; 2: ints, how many; 3: booleans; 4 and on: references), int fields, long fields, reference fields, numbers of arrays, references of arrays -/
abbrev Mem : Type := (Nat → Nat × Nat) × (Nat → Nat → Int32) × (Nat → Nat → Int64) × (Nat → Nat → Option Nat) × (Nat → Nat → Int32) × (Nat → Nat → Option Nat)
def mT (μ : Mem) : Nat → Nat × Nat := μ.1
def mI (μ : Mem) : Nat → Nat → Int32 := μ.2.1
def mJ (μ : Mem) : Nat → Nat → Int64 := μ.2.2.1
def mR (μ : Mem) : Nat → Nat → Option Nat := μ.2.2.2.1
def mA (μ : Mem) : Nat → Nat → Int32 := μ.2.2.2.2.1
def mX (μ : Mem) : Nat → Nat → Option Nat := μ.2.2.2.2.2
def up2 {α : Type} (f : Nat → Nat → α) (q k : Nat) (v : α) : Nat → Nat → α := fun a b => if a = q ∧ b = k then v else f a b
theorem up2_s {α : Type} {f : Nat → Nat → α} {q k : Nat} {v : α} : up2 f q k v q k = v := by simp [up2]
theorem up2_n {α : Type} {f : Nat → Nat → α} {q k a b : Nat} {v : α} (h : a ≠ q ∨ b ≠ k) : up2 f q k v a b = f a b := by
  unfold up2
  rw [if_neg]
  rintro ⟨h1, h2⟩
  rcases h with h | h
  · exact h h1
  · exact h h2
def sI (μ : Mem) (q k : Nat) (v : Int32) : Mem := (μ.1, up2 μ.2.1 q k v, μ.2.2)
def sJ (μ : Mem) (q k : Nat) (v : Int64) : Mem := (μ.1, μ.2.1, up2 μ.2.2.1 q k v, μ.2.2.2)
def sR (μ : Mem) (q k : Nat) (v : Option Nat) : Mem := (μ.1, μ.2.1, μ.2.2.1, up2 μ.2.2.2.1 q k v, μ.2.2.2.2)
def sA (μ : Mem) (q k : Nat) (v : Int32) : Mem := (μ.1, μ.2.1, μ.2.2.1, μ.2.2.2.1, up2 μ.2.2.2.2.1 q k v, μ.2.2.2.2.2)
def sX (μ : Mem) (q k : Nat) (v : Option Nat) : Mem := (μ.1, μ.2.1, μ.2.2.1, μ.2.2.2.1, μ.2.2.2.2.1, up2 μ.2.2.2.2.2 q k v)
/-- what a field holds, by its type -/
def xv (μ : Mem) (q k : Nat) (ty : FieldType) : Value := match ty with
  | .long => .long (mJ μ q k)
  | .object _ => va_rf (mR μ q k)
  | .array _ => va_rf (mR μ q k)
  | _ => .int (mI μ q k)
def xfs (μ : Mem) (q ci : Nat) : List Value := (List.range (xN ci)).map (fun k => xv μ q k (xty ci k))
def xcell (ca : Nat → ClassId) (μ : Mem) (q : Nat) : va_E := match (mT μ q).1 with
  | 0 => .inr (99, [])
  | 1 => .inr ((mT μ q).2, xfs μ q (mT μ q).2)
  | 2 => .inl (ca 0, (mT μ q).2, .inl (mA μ q))
  | 3 => .inl (ca 1, (mT μ q).2, .inl (mA μ q))
  | k + 4 => .inl (ca (k + 2), (mT μ q).2, .inr (.inr (.inr (.inr (mX μ q)))))
theorem xcell_o {ca : Nat → ClassId} {μ : Mem} {q ci : Nat} (h : mT μ q = (1, ci)) : xcell ca μ q = .inr (ci, xfs μ q ci) := by unfold xcell; rw [h]
theorem xcell_i {ca : Nat → ClassId} {μ : Mem} {q n : Nat} (h : mT μ q = (2, n)) : xcell ca μ q = .inl (ca 0, n, .inl (mA μ q)) := by unfold xcell; rw [h]
theorem xcell_z {ca : Nat → ClassId} {μ : Mem} {q n : Nat} (h : mT μ q = (3, n)) : xcell ca μ q = .inl (ca 1, n, .inl (mA μ q)) := by unfold xcell; rw [h]
theorem xcell_x {ca : Nat → ClassId} {μ : Mem} {q n k : Nat} (h : mT μ q = (k + 4, n)) : xcell ca μ q = .inl (ca (k + 2), n, .inr (.inr (.inr (.inr (mX μ q))))) := by unfold xcell; rw [h]
/-- the launch, the classes' numbers, the array classes, the first free address, the strings -/
abbrev Gm : Type := Launch × va_G × (Nat → ClassId) × Nat × (Nat → Nat) × (Nat → Nat)
def gL (Γ : Gm) : Launch := Γ.1
def gD (Γ : Gm) : va_G := Γ.2.1
def gC (Γ : Gm) : Nat → ClassId := Γ.2.2.1
def gB (Γ : Gm) : Nat := Γ.2.2.2.1
def gA (Γ : Gm) : Nat → Prop := fun q => gB Γ ≤ q
def XP (Γ : Gm) (μ : Mem) (H : Heap) : Prop := ∃ L : List Nat, va_P (gD Γ) vwCl (va_pl L (xcell (gC Γ) μ)) H ∧ va_D (gA Γ) (va_pl L (xcell (gC Γ) μ)) ∧ ∀ q, q ∈ L ↔ (mT μ q).1 ≠ 0
def xtys (Γ : Gm) : List (ClassId × FieldType) := [(gC Γ 0, .int), (gC Γ 1, .boolean), (gC Γ 2, .object "PutOut$Thing"), (gC Γ 3, .object "PutOut$Text"), (gC Γ 4, .object "PutOut$Sheet"), (gC Γ 5, .array .int)]
/-- the strings of the class, by their numbers: whose pool, entry, text, length, bytes -/
def sOwn : Nat → String := fun i => if i = 0 then "PutOut" else "PutOut$Reader"
def sIdx : Nat → Nat := fun i => [57, 106, 112, 114, 116, 118, 120, 122, 124, 126, 128, 130, 132].getD i 0
def sTx : Nat → String := fun i => ["moves 1 ; ugly 9 - look ; minds 20 ;", "moves", "ugly", "minds", "or", "and", "not", "thing", "place", "giver", "guests", "look", "number"].getD i ""
def sLen : List Nat := [36, 5, 4, 5, 2, 3, 3, 5, 5, 5, 6, 4, 6]
def sByt : List (List Int32) := [[109, 111, 118, 101, 115, 32, 49, 32, 59, 32, 117, 103, 108, 121, 32, 57, 32, 45, 32, 108, 111, 111, 107, 32, 59, 32, 109, 105, 110, 100, 115, 32, 50, 48, 32, 59], [109, 111, 118, 101, 115], [117, 103, 108, 121], [109, 105, 110, 100, 115], [111, 114], [97, 110, 100], [110, 111, 116], [116, 104, 105, 110, 103], [112, 108, 97, 99, 101], [103, 105, 118, 101, 114], [103, 117, 101, 115, 116, 115], [108, 111, 111, 107], [110, 117, 109, 98, 101, 114]]
def SE (Γ : Gm) (U : State) (H : Heap) : Prop := vk_S 13 sLen sByt Γ.2.2.2.2.1 Γ.2.2.2.2.2 (gA Γ) U H ∧ (∀ i : Nat, i < 13 → vk_R (sOwn i) (sIdx i) (sTx i) (Γ.2.2.2.2.1 i) U) ∧ va_Z "java/lang/String" "COMPACT_STRINGS" "Z" (.int 1) (gA Γ) U H
/-- a method: its name, its bytes, how many locals, what it answers -/
abbrev Mt : Type := MethodName × ByteArray × Nat × Option FieldType
def XF (Γ : Gm) (M : Mt) (p : Program) (s : State) (m : MethodId) (args : Array Value) (meth : Method) (c : Code) : Prop :=
  p.tables.exec = Jvm.exec ∧ c.code = M.2.1 ∧ c.maxLocals = M.2.2.1 ∧ meth.sig.returnType = M.2.2.2 ∧ meth.locks = false ∧ meth.name = M.1.name ∧ s.vm.findClass M.1.cls = some m.cls ∧ (∀ w ∈ gT, w.before args s = true) ∧ va_K (gD Γ) vwCl (xtys Γ) s ∧ gB Γ ≤ s.heap.size ∧ SE Γ s s.heap
/-- the locals by their slots -/
def xl (ls : Array Slot) (nL : Nat) (lv : List (Option Value)) : Prop := ls.size = nL ∧ lv_wf ls ∧ ∀ (j : Nat) (v : Value), lv[j]? = some (some v) → ls[j]? = some (.val v)
/-- what an end of the method asks -/
def XRet (Γ : Gm) (M : Mt) (R : Room) (p : Program) (e : Env) (s : State) (m : MethodId) (args : Array Value) (below : List Frame) (meth : Method) (c : Code) (H : Heap) (locs : List Loc) (mc ms : Nat) (Qf : State → Prop) (r : Option Value) : Prop :=
  ∀ (pc : Nat) (ls : Array Slot), match r with
    | none => M.2.2.2 = none → decode M.2.1 pc = .ok (.return_, 1) → W p (gL Γ) e R s m args below meth c H locs mc ms Qf (F0 m pc ls [])
    | some (.int v) => (∃ ty, M.2.2.2 = some ty ∧ narrow ty (.int v) = .int v) → decode M.2.1 pc = .ok (.ireturn, 1) → W p (gL Γ) e R s m args below meth c H locs mc ms Qf (F0 m pc ls [.int v])
    | some (.long v) => M.2.2.2 = some .long → decode M.2.1 pc = .ok (.lreturn, 1) → W p (gL Γ) e R s m args below meth c H locs mc ms Qf (F0 m pc ls [.long v])
    | some (.ref v) => (∃ t, M.2.2.2 = some t ∧ ((∃ n, t = .object n) ∨ ∃ u, t = .array u)) → decode M.2.1 pc = .ok (.areturn, 1) → W p (gL Γ) e R s m args below meth c H locs mc ms Qf (F0 m pc ls [.ref v])
    | _ => True
def WA (Γ : Gm) (M : Mt) (R : Room) (mc ms cl sl : Nat) (Q : Option Value → Mem → Prop) (pc : Nat) (lv : List (Option Value)) (st : List Value) (μ : Mem) : Prop :=
  ∀ (p : Program) (e : Env) (s : State) (m : MethodId) (args : Array Value) (below : List Frame) (meth : Method) (c : Code) (Qf : State → Prop) (H : Heap) (locs : List Loc) (ls : Array Slot),
    XF Γ M p s m args meth c → va_S (gA Γ) s.heap H locs → XP Γ μ H → xl ls M.2.2.1 lv →
    (∀ (r : Option Value) (μ' : Mem) (H' : Heap) (locs' : List Loc), Q r μ' → XP Γ μ' H' → va_S (gA Γ) s.heap H' locs' → XRet Γ M R p e s m args below meth c H' locs' mc ms Qf r) →
    W p (gL Γ) e R s m args below meth c H locs cl sl Qf (F0 m pc ls st)
def XQ (Γ : Gm) (Q : Option Value → Mem → Prop) : Array Value → State → Outcome → State → Prop := fun _ st o t => (∃ (r : Option Value) (μ' : Mem), o = .returned r ∧ Q r μ' ∧ XP Γ μ' t.heap) ∧ va_F (gA Γ) st t
def xB (Γ : Gm) (μ : Mem) (U : State) : Prop := XP Γ μ U.heap ∧ va_K (gD Γ) vwCl (xtys Γ) U ∧ gB Γ ≤ U.heap.size ∧ SE Γ U U.heap
abbrev xrm (d mc ms : Nat) : Room := { frames := d, cells := mc, slots := ms, locals := 64 * d }
abbrev xws (M : Mt) : List Cond := Cond.code M.1 M.2.1 M.2.2.1 M.2.2.2 :: gT
/-- a method's contract: from the memory μ, with these arguments, it answers and leaves a memory so that Q; it makes at most mc cells of ms slots, its calls stand at most d deep -/
def XM (Γ : Gm) (M : Mt) (d mc ms : Nat) (As : List Value) (μ : Mem) (Q : Option Value → Mem → Prop) : Prop :=
  Met (gL Γ) M.1 (xws M) (xrm d mc ms) (va_Pc As (xB Γ μ)) (XQ Γ Q) mc ms (gA Γ)
theorem SE_calling {Γ : Gm} {U : State} {g : JFrame} {mk : MethodId} {a : Array Value} (h : SE Γ U U.heap) : SE Γ (U.calling g mk a) (U.calling g mk a).heap :=
  ⟨vk_S.moved (u := U) (U := U.calling g mk a) (Vm.Alike.refl U.vm) h.1, fun i hi => vk_R.same (u := U) rfl (h.2.1 i hi), va_Z.moved (u := U) (U := U.calling g mk a) (Vm.Alike.refl U.vm) h.2.2⟩
theorem xB_blind {Γ : Gm} {μ : Mem} {As : List Value} : FrameBlind (va_Pc As (xB Γ μ)) := fun a U g mk q => by
  obtain ⟨q0, qP, qK, qB, qS⟩ := q
  exact ⟨q0, qP, va_K.moved (u := U) (U := U.calling g mk a) (Vm.Alike.refl U.vm) qK, qB, SE_calling qS⟩
theorem xB_at {Γ : Gm} {M : Mt} {μ : Mem} {p : Program} {s U : State} {m : MethodId} {args : Array Value} {meth : Method} {c : Code} {H : Heap} {locs : List Loc} (F : XF Γ M p s m args meth c) (hS : va_S (gA Γ) s.heap H locs) (hP : XP Γ μ H) (hU : U.heap = H) (hW : s.WarmedH U.vm) : xB Γ μ U := by
  obtain ⟨-, -, -, -, -, -, -, -, hK, hB, hE⟩ := F
  refine ⟨by rw [hU]; exact hP, va_K.moved hW.alike hK, by rw [hU]; exact Nat.le_trans hB hS.1, ?_, fun i hi => vk_R.warm hW (hE.2.1 i hi), ?_⟩
  · rw [hU]
    exact (vk_S.kept hE.1 hS.2.1).moved hW.alike
  · rw [hU]
    exact (va_Z.kept hE.2.2 hS.2.1).moved hW.alike
theorem xl_entry (As : List Value) {n : Nat} (h : (lg_sl As).length ≤ n) {lv : List (Option Value)} (hl : ∀ (j : Nat) (v : Value), lv[j]? = some (some v) → (j, v) ∈ lv_args 0 As) : xl ((lg_sl As ++ List.replicate (n - (lg_sl As).length) Slot.unset).toArray) n lv :=
  ⟨(lv_entry As h).1, (lv_entry As h).2.1, fun j v hj => (lv_entry As h).2.2 (j, v) (hl j v hj)⟩
/-- the locals at a method's start -/
def xlv : List Value → List (Option Value)
  | [] => []
  | v :: vs => if v.category = 2 then some v :: none :: xlv vs else some v :: xlv vs
theorem xlv_args : ∀ (vs : List Value) (i j : Nat) (v : Value), (xlv vs)[j]? = some (some v) → (i + j, v) ∈ lv_args i vs
  | [], _, _, _, h => by simp [xlv] at h
  | u :: us, i, j, v, h => by
    by_cases hc : u.category = 2
    · simp only [xlv, if_pos hc] at h
      rw [lv_args, if_pos hc]
      match j, h with
      | 0, h => simp at h; subst h; exact List.mem_cons_self
      | 1, h => simp at h
      | j + 2, h =>
        have h2 := xlv_args us (i + 2) j v (by simpa using h)
        rw [show i + (j + 2) = i + 2 + j by omega]
        exact List.mem_cons_of_mem _ h2
    · simp only [xlv, if_neg hc] at h
      rw [lv_args, if_neg hc]
      match j, h with
      | 0, h => simp at h; subst h; exact List.mem_cons_self
      | j + 1, h =>
        have h2 := xlv_args us (i + 1) j v (by simpa using h)
        rw [show i + (j + 1) = i + 1 + j by omega]
        exact List.mem_cons_of_mem _ h2
theorem xl_pad {ls : Array Slot} {nL : Nat} {lv : List (Option Value)} (h : xl ls nL lv) (k : Nat) : xl ls nL (lv ++ List.replicate k none) := by
  refine ⟨h.1, h.2.1, fun j v hj => h.2.2 j v ?_⟩
  by_cases hlt : j < lv.length
  · rwa [List.getElem?_append_left hlt] at hj
  · rw [List.getElem?_append_right (by omega), List.getElem?_replicate] at hj
    split at hj <;> simp at hj
theorem narrow_i (v : Int32) : narrow .int (.int v) = .int v := rfl
/-- a contract out of the walk of the body -/
theorem XM.of {Γ : Gm} {M : Mt} {d mc ms : Nat} {As : List Value} {μ : Mem} {Q : Option Value → Mem → Prop} (k : Nat) {lv : List (Option Value)} (hlv : xlv As ++ List.replicate k none = lv) (hy : plainName M.1.cls = true) (hn : (lg_sl As).length ≤ M.2.2.1)
    (h : WA Γ M (xrm d mc ms) mc ms 0 0 Q 0 lv [] μ) : XM Γ M d mc ms As μ Q := by
  refine Met.ofW (cc := M.2.1) (maxL := M.2.2.1) (ret := M.2.2.2) hy rfl ?_
  intro p e s m args below meth c s₁ B hml hv
  obtain ⟨rfl, hP, hK, hB, hE⟩ := hv
  have hts := atoms_spec (ws := xws M) B.pre
  rw [lg_entry_eq]
  have F : XF Γ M p s m As.toArray meth c := ⟨B.exec, B.bytes, hml, B.returns, B.notSynchronized, (name_of_methodNamed B.named B.method).1, findClass_of_methodNamed B.named, fun w hw => hts w (List.mem_cons_of_mem _ hw), hK, hB, hE⟩
  refine h p e s m As.toArray below meth c _ s.heap [] _ F va_S.rf hP (by rw [← hlv]; exact xl_pad (xl_entry As hn (fun j v hj => by have := xlv_args As 0 j v hj; rwa [Nat.zero_add] at this)) k) ?_
  intro r μ' H' locs' hQ hP' hS' pc ls
  have hq : ∀ t : State, t.heap = H' → s.WarmedH t.vm → XQ Γ Q As.toArray s (.returned r) t := fun t ht hW => ⟨⟨r, μ', rfl, hQ, by rw [ht]; exact hP'⟩, by rw [ht]; exact hS'.1, fun q h1 h2 => by rw [ht]; exact hS'.2.1 q h1 h2⟩
  obtain ⟨hx, hb, -, hr, hlocks, -⟩ := F
  match r, hq with
  | none, hq => exact fun h1 hd => W.vret hx hb (by rw [hr]; exact h1) hq hS'.2.2 hd hlocks
  | some (.int v), hq => exact fun ⟨ty, h1, h2⟩ hd => W.zret hx hb (by rw [hr]; exact h1) h2 hq hS'.2.2 hd hlocks
  | some (.long v), hq => exact fun h1 hd => W.lret hx hb (by rw [hr]; exact h1) hq hS'.2.2 hd hlocks
  | some (.ref v), hq => exact fun ⟨t, h1, h2⟩ hd => W.aret hx hb (by rw [hr]; exact h1) h2 (Or.inr ⟨v, rfl⟩) hq hS'.2.2 hd hlocks
  | some (.null), hq => trivial
  | some (.float _), hq => trivial
  | some (.double _), hq => trivial
  | some (.retAddr _), hq => trivial
end
section
section XR
variable {Γ : Gm} {M : Mt} {R : Room} {mc ms cl sl : Nat} {Q : Option Value → Mem → Prop} {pc : Nat} {lv lv2 : List (Option Value)} {st : List Value} {μ : Mem}
theorem x_iadd {a b : Int32} (d : decode M.2.1 pc = .ok (.iadd, 1))  (k : WA Γ M R mc ms cl sl Q (pc + 1) lv (.int (a + b) :: st) μ) : WA Γ M R mc ms cl sl Q pc lv (.int b :: .int a :: st) μ := fun p e s m args below meth c Qf H locs ls F hS hP hl hE => lv_iadd F.1 F.2.1 d  (k p e s m args below meth c Qf H locs ls F hS hP hl hE)
theorem x_isub {a b : Int32} (d : decode M.2.1 pc = .ok (.isub, 1))  (k : WA Γ M R mc ms cl sl Q (pc + 1) lv (.int (a - b) :: st) μ) : WA Γ M R mc ms cl sl Q pc lv (.int b :: .int a :: st) μ := fun p e s m args below meth c Qf H locs ls F hS hP hl hE => lv_isub F.1 F.2.1 d  (k p e s m args below meth c Qf H locs ls F hS hP hl hE)
theorem x_imul {a b : Int32} (d : decode M.2.1 pc = .ok (.imul, 1))  (k : WA Γ M R mc ms cl sl Q (pc + 1) lv (.int (a * b) :: st) μ) : WA Γ M R mc ms cl sl Q pc lv (.int b :: .int a :: st) μ := fun p e s m args below meth c Qf H locs ls F hS hP hl hE => lv_imul F.1 F.2.1 d  (k p e s m args below meth c Qf H locs ls F hS hP hl hE)
theorem x_iand {a b : Int32} (d : decode M.2.1 pc = .ok (.iand, 1))  (k : WA Γ M R mc ms cl sl Q (pc + 1) lv (.int (a &&& b) :: st) μ) : WA Γ M R mc ms cl sl Q pc lv (.int b :: .int a :: st) μ := fun p e s m args below meth c Qf H locs ls F hS hP hl hE => lv_iand F.1 F.2.1 d  (k p e s m args below meth c Qf H locs ls F hS hP hl hE)
theorem x_ior {a b : Int32} (d : decode M.2.1 pc = .ok (.ior, 1))  (k : WA Γ M R mc ms cl sl Q (pc + 1) lv (.int (a ||| b) :: st) μ) : WA Γ M R mc ms cl sl Q pc lv (.int b :: .int a :: st) μ := fun p e s m args below meth c Qf H locs ls F hS hP hl hE => lv_ior F.1 F.2.1 d  (k p e s m args below meth c Qf H locs ls F hS hP hl hE)
theorem x_ixor {a b : Int32} (d : decode M.2.1 pc = .ok (.ixor, 1))  (k : WA Γ M R mc ms cl sl Q (pc + 1) lv (.int (a ^^^ b) :: st) μ) : WA Γ M R mc ms cl sl Q pc lv (.int b :: .int a :: st) μ := fun p e s m args below meth c Qf H locs ls F hS hP hl hE => lv_ixor F.1 F.2.1 d  (k p e s m args below meth c Qf H locs ls F hS hP hl hE)
theorem x_ishl {a b : Int32} (d : decode M.2.1 pc = .ok (.ishl, 1))  (k : WA Γ M R mc ms cl sl Q (pc + 1) lv (.int (a <<< (b &&& 31)) :: st) μ) : WA Γ M R mc ms cl sl Q pc lv (.int b :: .int a :: st) μ := fun p e s m args below meth c Qf H locs ls F hS hP hl hE => lv_ishl F.1 F.2.1 d  (k p e s m args below meth c Qf H locs ls F hS hP hl hE)
theorem x_ishr {a b : Int32} (d : decode M.2.1 pc = .ok (.ishr, 1))  (k : WA Γ M R mc ms cl sl Q (pc + 1) lv (.int (a >>> (b &&& 31)) :: st) μ) : WA Γ M R mc ms cl sl Q pc lv (.int b :: .int a :: st) μ := fun p e s m args below meth c Qf H locs ls F hS hP hl hE => lv_ishr F.1 F.2.1 d  (k p e s m args below meth c Qf H locs ls F hS hP hl hE)
theorem x_idiv {a b : Int32} (d : decode M.2.1 pc = .ok (.idiv, 1)) (h : ¬ b = 0) (k : WA Γ M R mc ms cl sl Q (pc + 1) lv (.int (a / b) :: st) μ) : WA Γ M R mc ms cl sl Q pc lv (.int b :: .int a :: st) μ := fun p e s m args below meth c Qf H locs ls F hS hP hl hE => lv_idiv F.1 F.2.1 d h (k p e s m args below meth c Qf H locs ls F hS hP hl hE)
theorem x_irem {a b : Int32} (d : decode M.2.1 pc = .ok (.irem, 1)) (h : ¬ b = 0) (k : WA Γ M R mc ms cl sl Q (pc + 1) lv (.int (a - a / b * b) :: st) μ) : WA Γ M R mc ms cl sl Q pc lv (.int b :: .int a :: st) μ := fun p e s m args below meth c Qf H locs ls F hS hP hl hE => lv_irem F.1 F.2.1 d h (k p e s m args below meth c Qf H locs ls F hS hP hl hE)
theorem x_ineg {a : Int32} (d : decode M.2.1 pc = .ok (.ineg, 1))  (k : WA Γ M R mc ms cl sl Q (pc + 1) lv (.int (-a) :: st) μ) : WA Γ M R mc ms cl sl Q pc lv (.int a :: st) μ := fun p e s m args below meth c Qf H locs ls F hS hP hl hE => lv_ineg F.1 F.2.1 d  (k p e s m args below meth c Qf H locs ls F hS hP hl hE)
theorem x_iushr {a b : Int32} (d : decode M.2.1 pc = .ok (.iushr, 1))  (k : WA Γ M R mc ms cl sl Q (pc + 1) lv (.int ((a.toUInt32 >>> (b.toUInt32 &&& Int32.toUInt32 31)).toInt32) :: st) μ) : WA Γ M R mc ms cl sl Q pc lv (.int b :: .int a :: st) μ := fun p e s m args below meth c Qf H locs ls F hS hP hl hE => lv_iushr F.1 F.2.1 d rfl (k p e s m args below meth c Qf H locs ls F hS hP hl hE)
theorem x_i2l {a : Int32} (d : decode M.2.1 pc = .ok (.i2l, 1))  (k : WA Γ M R mc ms cl sl Q (pc + 1) lv (.long a.toInt64 :: st) μ) : WA Γ M R mc ms cl sl Q pc lv (.int a :: st) μ := fun p e s m args below meth c Qf H locs ls F hS hP hl hE => lv_i2l F.1 F.2.1 d rfl (k p e s m args below meth c Qf H locs ls F hS hP hl hE)
theorem x_i2b {a : Int32} (d : decode M.2.1 pc = .ok (.i2b, 1))  (k : WA Γ M R mc ms cl sl Q (pc + 1) lv (.int a.toInt8.toInt32 :: st) μ) : WA Γ M R mc ms cl sl Q pc lv (.int a :: st) μ := fun p e s m args below meth c Qf H locs ls F hS hP hl hE => lv_i2b F.1 F.2.1 d rfl (k p e s m args below meth c Qf H locs ls F hS hP hl hE)
theorem x_i2s {a : Int32} (d : decode M.2.1 pc = .ok (.i2s, 1))  (k : WA Γ M R mc ms cl sl Q (pc + 1) lv (.int a.toInt16.toInt32 :: st) μ) : WA Γ M R mc ms cl sl Q pc lv (.int a :: st) μ := fun p e s m args below meth c Qf H locs ls F hS hP hl hE => lv_i2s F.1 F.2.1 d rfl (k p e s m args below meth c Qf H locs ls F hS hP hl hE)
theorem x_i2c {a v : Int32} (d : decode M.2.1 pc = .ok (.i2c, 1)) (h : (a.toUInt32 % 65536).toInt32 = v) (k : WA Γ M R mc ms cl sl Q (pc + 1) lv (.int v :: st) μ) : WA Γ M R mc ms cl sl Q pc lv (.int a :: st) μ := fun p e s m args below meth c Qf H locs ls F hS hP hl hE => lv_i2c F.1 F.2.1 d h (k p e s m args below meth c Qf H locs ls F hS hP hl hE)
theorem x_l2i {a : Int64} (d : decode M.2.1 pc = .ok (.l2i, 1))  (k : WA Γ M R mc ms cl sl Q (pc + 1) lv (.int a.toInt32 :: st) μ) : WA Γ M R mc ms cl sl Q pc lv (.long a :: st) μ := fun p e s m args below meth c Qf H locs ls F hS hP hl hE => lv_l2i F.1 F.2.1 d rfl (k p e s m args below meth c Qf H locs ls F hS hP hl hE)
theorem x_ladd {a b : Int64} (d : decode M.2.1 pc = .ok (.ladd, 1))  (k : WA Γ M R mc ms cl sl Q (pc + 1) lv (.long (a + b) :: st) μ) : WA Γ M R mc ms cl sl Q pc lv (.long b :: .long a :: st) μ := fun p e s m args below meth c Qf H locs ls F hS hP hl hE => lv_ladd F.1 F.2.1 d  (k p e s m args below meth c Qf H locs ls F hS hP hl hE)
theorem x_lsub {a b : Int64} (d : decode M.2.1 pc = .ok (.lsub, 1))  (k : WA Γ M R mc ms cl sl Q (pc + 1) lv (.long (a - b) :: st) μ) : WA Γ M R mc ms cl sl Q pc lv (.long b :: .long a :: st) μ := fun p e s m args below meth c Qf H locs ls F hS hP hl hE => lv_lsub F.1 F.2.1 d  (k p e s m args below meth c Qf H locs ls F hS hP hl hE)
theorem x_lmul {a b : Int64} (d : decode M.2.1 pc = .ok (.lmul, 1))  (k : WA Γ M R mc ms cl sl Q (pc + 1) lv (.long (a * b) :: st) μ) : WA Γ M R mc ms cl sl Q pc lv (.long b :: .long a :: st) μ := fun p e s m args below meth c Qf H locs ls F hS hP hl hE => lv_lmul F.1 F.2.1 d  (k p e s m args below meth c Qf H locs ls F hS hP hl hE)
theorem x_ldiv {a b : Int64} (d : decode M.2.1 pc = .ok (.ldiv, 1)) (h : ¬ b = 0) (k : WA Γ M R mc ms cl sl Q (pc + 1) lv (.long (a / b) :: st) μ) : WA Γ M R mc ms cl sl Q pc lv (.long b :: .long a :: st) μ := fun p e s m args below meth c Qf H locs ls F hS hP hl hE => lv_ldiv F.1 F.2.1 d h (k p e s m args below meth c Qf H locs ls F hS hP hl hE)
theorem x_lrem {a b : Int64} (d : decode M.2.1 pc = .ok (.lrem, 1)) (h : ¬ b = 0) (k : WA Γ M R mc ms cl sl Q (pc + 1) lv (.long (a - a / b * b) :: st) μ) : WA Γ M R mc ms cl sl Q pc lv (.long b :: .long a :: st) μ := fun p e s m args below meth c Qf H locs ls F hS hP hl hE => lv_lrem F.1 F.2.1 d h (k p e s m args below meth c Qf H locs ls F hS hP hl hE)
theorem x_iconst {n : Int} {v : Int32} (d : decode M.2.1 pc = .ok (.iconst n, 1)) (h : Int32.ofInt n = v) (k : WA Γ M R mc ms cl sl Q (pc + 1) lv (.int v :: st) μ) : WA Γ M R mc ms cl sl Q pc lv (st) μ := fun p e s m args below meth c Qf H locs ls F hS hP hl hE => lv_iconst F.1 F.2.1 d h (k p e s m args below meth c Qf H locs ls F hS hP hl hE)
theorem x_bipush {n : Int} {v : Int32} (d : decode M.2.1 pc = .ok (.bipush n, 2)) (h : (Int8.ofInt n).toInt32 = v) (k : WA Γ M R mc ms cl sl Q (pc + 2) lv (.int v :: st) μ) : WA Γ M R mc ms cl sl Q pc lv (st) μ := fun p e s m args below meth c Qf H locs ls F hS hP hl hE => lv_bipush F.1 F.2.1 d h (k p e s m args below meth c Qf H locs ls F hS hP hl hE)
theorem x_sipush {n : Int} {v : Int32} (d : decode M.2.1 pc = .ok (.sipush n, 3)) (h : (Int16.ofInt n).toInt32 = v) (k : WA Γ M R mc ms cl sl Q (pc + 3) lv (.int v :: st) μ) : WA Γ M R mc ms cl sl Q pc lv (st) μ := fun p e s m args below meth c Qf H locs ls F hS hP hl hE => lv_sipush F.1 F.2.1 d h (k p e s m args below meth c Qf H locs ls F hS hP hl hE)
theorem x_lconst {n : Fin 2} {v : Int64} (d : decode M.2.1 pc = .ok (.lconst n, 1)) (h : Int64.ofNat (n : Nat) = v) (k : WA Γ M R mc ms cl sl Q (pc + 1) lv (.long v :: st) μ) : WA Γ M R mc ms cl sl Q pc lv (st) μ := fun p e s m args below meth c Qf H locs ls F hS hP hl hE => lv_lconst F.1 F.2.1 d h (k p e s m args below meth c Qf H locs ls F hS hP hl hE)
theorem x_dup {v : Value} (d : decode M.2.1 pc = .ok (.dup, 1)) (h : v.category = 1) (k : WA Γ M R mc ms cl sl Q (pc + 1) lv (v :: v :: st) μ) : WA Γ M R mc ms cl sl Q pc lv (v :: st) μ := fun p e s m args below meth c Qf H locs ls F hS hP hl hE => lv_dup F.1 F.2.1 d h (k p e s m args below meth c Qf H locs ls F hS hP hl hE)
theorem x_dup2_11 {u v : Value} (d : decode M.2.1 pc = .ok (.dup2, 1)) (h : u.category = 1) (h2 : v.category = 1) (k : WA Γ M R mc ms cl sl Q (pc + 1) lv (u :: v :: u :: v :: st) μ) : WA Γ M R mc ms cl sl Q pc lv (u :: v :: st) μ := fun p e s m args below meth c Qf H locs ls F hS hP hl hE => lv_dup2_11 F.1 F.2.1 d h h2 (k p e s m args below meth c Qf H locs ls F hS hP hl hE)
theorem x_pop {v : Value} (d : decode M.2.1 pc = .ok (.pop, 1)) (h : v.category = 1) (k : WA Γ M R mc ms cl sl Q (pc + 1) lv (st) μ) : WA Γ M R mc ms cl sl Q pc lv (v :: st) μ := fun p e s m args below meth c Qf H locs ls F hS hP hl hE => lv_pop F.1 F.2.1 d h (k p e s m args below meth c Qf H locs ls F hS hP hl hE)
theorem x_lcmp {a b : Int64} (d : decode M.2.1 pc = .ok (.lcmp, 1)) (k : WA Γ M R mc ms cl sl Q (pc + 1) lv (.int (lg_cmp a b) :: st) μ) : WA Γ M R mc ms cl sl Q pc lv (.long b :: .long a :: st) μ := fun p e s m args below meth c Qf H locs ls F hS hP hl hE => W.lcmp F.1 F.2.1 d (k p e s m args below meth c Qf H locs ls F hS hP hl hE)
theorem x_null (d : decode M.2.1 pc = .ok (.aconst_null, 1)) (k : WA Γ M R mc ms cl sl Q (pc + 1) lv (.null :: st) μ) : WA Γ M R mc ms cl sl Q pc lv st μ := fun p e s m args below meth c Qf H locs ls F hS hP hl hE => lv_null F.1 F.2.1 d (k p e s m args below meth c Qf H locs ls F hS hP hl hE)
theorem x_iload_n {n : Fin 4} {x : Int32} (d : decode M.2.1 pc = .ok (.iload_n n, 1)) (h : lv[(n : Nat)]? = some (some (.int x))) (k : WA Γ M R mc ms cl sl Q (pc + 1) lv (.int x :: st) μ) : WA Γ M R mc ms cl sl Q pc lv st μ := fun p e s m args below meth c Qf H locs ls F hS hP hl hE => lv_iload_n F.1 F.2.1 d rfl (hl.2.2 _ _ h) (k p e s m args below meth c Qf H locs ls F hS hP hl hE)
theorem x_iload {n : Nat} {x : Int32} (d : decode M.2.1 pc = .ok (.iload n, 2)) (h : lv[n]? = some (some (.int x))) (k : WA Γ M R mc ms cl sl Q (pc + 2) lv (.int x :: st) μ) : WA Γ M R mc ms cl sl Q pc lv st μ := fun p e s m args below meth c Qf H locs ls F hS hP hl hE => lv_iload F.1 F.2.1 d (hl.2.2 _ _ h) (k p e s m args below meth c Qf H locs ls F hS hP hl hE)
theorem x_lload_n {n : Fin 4} {x : Int64} (d : decode M.2.1 pc = .ok (.lload_n n, 1)) (h : lv[(n : Nat)]? = some (some (.long x))) (k : WA Γ M R mc ms cl sl Q (pc + 1) lv (.long x :: st) μ) : WA Γ M R mc ms cl sl Q pc lv st μ := fun p e s m args below meth c Qf H locs ls F hS hP hl hE => lv_lload_n F.1 F.2.1 d rfl (hl.2.2 _ _ h) (k p e s m args below meth c Qf H locs ls F hS hP hl hE)
theorem x_lload {n : Nat} {x : Int64} (d : decode M.2.1 pc = .ok (.lload n, 2)) (h : lv[n]? = some (some (.long x))) (k : WA Γ M R mc ms cl sl Q (pc + 2) lv (.long x :: st) μ) : WA Γ M R mc ms cl sl Q pc lv st μ := fun p e s m args below meth c Qf H locs ls F hS hP hl hE => lv_lload F.1 F.2.1 d (hl.2.2 _ _ h) (k p e s m args below meth c Qf H locs ls F hS hP hl hE)
theorem x_aload_n {n : Fin 4} {x : Nat} (d : decode M.2.1 pc = .ok (.aload_n n, 1)) (h : lv[(n : Nat)]? = some (some (.ref x))) (k : WA Γ M R mc ms cl sl Q (pc + 1) lv (.ref x :: st) μ) : WA Γ M R mc ms cl sl Q pc lv st μ := fun p e s m args below meth c Qf H locs ls F hS hP hl hE => lv_aload_n F.1 F.2.1 d rfl (hl.2.2 _ _ h) (k p e s m args below meth c Qf H locs ls F hS hP hl hE)
theorem x_aload {n : Nat} {x : Nat} (d : decode M.2.1 pc = .ok (.aload n, 2)) (h : lv[n]? = some (some (.ref x))) (k : WA Γ M R mc ms cl sl Q (pc + 2) lv (.ref x :: st) μ) : WA Γ M R mc ms cl sl Q pc lv st μ := fun p e s m args below meth c Qf H locs ls F hS hP hl hE => lv_aload F.1 F.2.1 d (hl.2.2 _ _ h) (k p e s m args below meth c Qf H locs ls F hS hP hl hE)
/-- may a slot be stored: no long ends there -/
def xok (lv : List (Option Value)) (i : Nat) : Bool := match i with
  | 0 => true
  | j + 1 => match lv[j]? with
    | some (some v) => v.category == 1
    | some none => true
    | none => true
def xls (lv : List (Option Value)) : List (Nat × Value) := (List.range lv.length).filterMap (fun j => match lv[j]? with
  | some (some v) => some (j, v)
  | _ => none)
theorem xls_mem {lv : List (Option Value)} {j : Nat} {v : Value} : (j, v) ∈ xls lv ↔ lv[j]? = some (some v) := by
  unfold xls
  rw [List.mem_filterMap]
  constructor
  · rintro ⟨i, hi, h⟩
    split at h
    · rename_i u hu
      cases h
      exact hu
    · cases h
  · intro h
    refine ⟨j, ?_, ?_⟩
    · rw [List.mem_range]
      exact (List.getElem?_eq_some_iff.mp h).1
    · rw [h]
theorem xl_has {ls : Array Slot} {nL : Nat} {lv : List (Option Value)} (h : xl ls nL lv) : lv_has ls nL (xls lv) := ⟨h.1, h.2.1, fun q hq => h.2.2 q.1 q.2 (xls_mem.mp hq)⟩
theorem xl_st1 {ls : Array Slot} {nL i : Nat} {lv : List (Option Value)} {v : Value} (hk : xok lv i = true) (h : lv_has ls nL ((i, v) :: (xls lv).filter (fun q => !(q.1 == i) && !(q.1 + 1 == i && q.2.category == 2)))) : xl ls nL (lv.set i (some v)) := by
  refine ⟨h.1, h.2.1, fun j u hj => h.2.2 (j, u) ?_⟩
  rw [List.getElem?_set] at hj
  by_cases hji : i = j
  · subst hji
    simp at hj
    rw [← hj.2]
    exact List.mem_cons_self
  · rw [if_neg hji] at hj
    refine List.mem_cons_of_mem _ (List.mem_filter.mpr ⟨xls_mem.mpr hj, ?_⟩)
    have e1 : (j == i) = false := by simp; exact fun e => hji e.symm
    by_cases hj1 : j + 1 = i
    · subst hj1
      simp only [xok, hj] at hk
      have e2 : u.category = 1 := by simpa using hk
      simp [e2]
    · have e2 : (j + 1 == i) = false := by simpa using hj1
      simp [e1, e2]
theorem xl_st2 {ls : Array Slot} {nL i : Nat} {lv : List (Option Value)} {v : Value} (hk : xok lv i = true) (h : lv_has ls nL ((i, v) :: (xls lv).filter (fun q => !(q.1 == i) && (!(q.1 == i + 1) && !(q.1 + 1 == i && q.2.category == 2))))) : xl ls nL ((lv.set i (some v)).set (i + 1) none) := by
  refine ⟨h.1, h.2.1, fun j u hj => h.2.2 (j, u) ?_⟩
  rw [List.getElem?_set] at hj
  by_cases hj2 : i + 1 = j
  · rw [if_pos hj2] at hj
    split at hj <;> simp at hj
  rw [if_neg hj2, List.getElem?_set] at hj
  by_cases hji : i = j
  · subst hji
    simp at hj
    rw [← hj.2]
    exact List.mem_cons_self
  · rw [if_neg hji] at hj
    refine List.mem_cons_of_mem _ (List.mem_filter.mpr ⟨xls_mem.mpr hj, ?_⟩)
    have e1 : (j == i) = false := by simp; exact fun e => hji e.symm
    have e3 : (j == i + 1) = false := by simp; exact fun e => hj2 e.symm
    by_cases hj1 : j + 1 = i
    · subst hj1
      simp only [xok, hj] at hk
      have e2 : u.category = 1 := by simpa using hk
      simp [e2, e3]
    · have e2 : (j + 1 == i) = false := by simpa using hj1
      simp [e1, e2, e3]
theorem x_istore_n {n : Fin 4} {x : Int32} (d : decode M.2.1 pc = .ok (.istore_n n, 1)) (hn : (n : Nat) < M.2.2.1) (hk : xok lv n = true) (h : lv.set (n : Nat) (some (.int x)) = lv2) (k : WA Γ M R mc ms cl sl Q (pc + 1) lv2 st μ) : WA Γ M R mc ms cl sl Q pc lv (.int x :: st) μ := fun p e s m args below meth c Qf H locs ls F hS hP hl hE => lv_istore_n F.1 F.2.1 d rfl (xl_has hl) hn rfl (fun ls2 h2 => k p e s m args below meth c Qf H locs ls2 F hS hP (by rw [← h]; exact xl_st1 hk h2) hE)
theorem x_istore {n : Nat} {x : Int32} (d : decode M.2.1 pc = .ok (.istore n, 2)) (hn : n < M.2.2.1) (hk : xok lv n = true) (h : lv.set n (some (.int x)) = lv2) (k : WA Γ M R mc ms cl sl Q (pc + 2) lv2 st μ) : WA Γ M R mc ms cl sl Q pc lv (.int x :: st) μ := fun p e s m args below meth c Qf H locs ls F hS hP hl hE => lv_istore F.1 F.2.1 d (xl_has hl) hn rfl (fun ls2 h2 => k p e s m args below meth c Qf H locs ls2 F hS hP (by rw [← h]; exact xl_st1 hk h2) hE)
theorem x_astore_n {n : Fin 4} {x : Nat} (d : decode M.2.1 pc = .ok (.astore_n n, 1)) (hn : (n : Nat) < M.2.2.1) (hk : xok lv n = true) (h : lv.set (n : Nat) (some (.ref x)) = lv2) (k : WA Γ M R mc ms cl sl Q (pc + 1) lv2 st μ) : WA Γ M R mc ms cl sl Q pc lv (.ref x :: st) μ := fun p e s m args below meth c Qf H locs ls F hS hP hl hE => lv_astore_n F.1 F.2.1 d rfl (xl_has hl) hn rfl (fun ls2 h2 => k p e s m args below meth c Qf H locs ls2 F hS hP (by rw [← h]; exact xl_st1 hk h2) hE)
theorem x_astore {n : Nat} {x : Nat} (d : decode M.2.1 pc = .ok (.astore n, 2)) (hn : n < M.2.2.1) (hk : xok lv n = true) (h : lv.set n (some (.ref x)) = lv2) (k : WA Γ M R mc ms cl sl Q (pc + 2) lv2 st μ) : WA Γ M R mc ms cl sl Q pc lv (.ref x :: st) μ := fun p e s m args below meth c Qf H locs ls F hS hP hl hE => lv_astore F.1 F.2.1 d (xl_has hl) hn rfl (fun ls2 h2 => k p e s m args below meth c Qf H locs ls2 F hS hP (by rw [← h]; exact xl_st1 hk h2) hE)
theorem x_lstore_n {n : Fin 4} {x : Int64} (d : decode M.2.1 pc = .ok (.lstore_n n, 1)) (hn : (n : Nat) + 1 < M.2.2.1) (hk : xok lv n = true) (h : (lv.set (n : Nat) (some (.long x))).set ((n : Nat) + 1) none = lv2) (k : WA Γ M R mc ms cl sl Q (pc + 1) lv2 st μ) : WA Γ M R mc ms cl sl Q pc lv (.long x :: st) μ := fun p e s m args below meth c Qf H locs ls F hS hP hl hE => lv_lstore_n F.1 F.2.1 d rfl (xl_has hl) hn rfl (fun ls2 h2 => k p e s m args below meth c Qf H locs ls2 F hS hP (by rw [← h]; exact xl_st2 hk h2) hE)
theorem x_lstore {n : Nat} {x : Int64} (d : decode M.2.1 pc = .ok (.lstore n, 2)) (hn : n + 1 < M.2.2.1) (hk : xok lv n = true) (h : (lv.set n (some (.long x))).set (n + 1) none = lv2) (k : WA Γ M R mc ms cl sl Q (pc + 2) lv2 st μ) : WA Γ M R mc ms cl sl Q pc lv (.long x :: st) μ := fun p e s m args below meth c Qf H locs ls F hS hP hl hE => lv_lstore F.1 F.2.1 d (xl_has hl) hn rfl (fun ls2 h2 => k p e s m args below meth c Qf H locs ls2 F hS hP (by rw [← h]; exact xl_st2 hk h2) hE)
theorem xls_at {lv : List (Option Value)} {i : Nat} {v : Value} (h : lv[i]? = some (some v)) : ∃ k : Nat, (xls lv)[k]? = some (i, v) := List.mem_iff_getElem?.mp (xls_mem.mpr h)
theorem x_iinc {i : Nat} {n : Int} {x v : Int32} (d : decode M.2.1 pc = .ok (.iinc i n, 3)) (hn : i < M.2.2.1) (hk : xok lv i = true) (hx : lv[i]? = some (some (.int x))) (hv : x + Int32.ofInt n = v) (h : lv.set i (some (.int v)) = lv2) (k : WA Γ M R mc ms cl sl Q (pc + 3) lv2 st μ) : WA Γ M R mc ms cl sl Q pc lv st μ := fun p e s m args below meth c Qf H locs ls F hS hP hl hE => by
  obtain ⟨q, hq⟩ := xls_at hx
  exact lv_iinc F.1 F.2.1 d (xl_has hl) hq hv hn rfl (fun ls2 h2 => k p e s m args below meth c Qf H locs ls2 F hS hP (by rw [← h]; exact xl_st1 hk h2) hE)
theorem x_if_eq {a : Int32} {off : Int} {tgt : Nat} (d : decode M.2.1 pc = .ok (.ifCond .eq off, 3)) (ht : (pc : Int) + off = (tgt : Int)) (k1 : a = 0 → WA Γ M R mc ms cl sl Q tgt lv st μ) (k2 : ¬ a = 0 → WA Γ M R mc ms cl sl Q (pc + 3) lv st μ) : WA Γ M R mc ms cl sl Q pc lv (.int a :: st) μ := fun p e s m args below meth c Qf H locs ls F hS hP hl hE => lv_if_eq F.1 F.2.1 d ht (fun h => k1 h p e s m args below meth c Qf H locs ls F hS hP hl hE) (fun h => k2 h p e s m args below meth c Qf H locs ls F hS hP hl hE)
theorem x_icmp_eq {a b : Int32} {off : Int} {tgt : Nat} (d : decode M.2.1 pc = .ok (.if_icmp .eq off, 3)) (ht : (pc : Int) + off = (tgt : Int)) (k1 : a = b → WA Γ M R mc ms cl sl Q tgt lv st μ) (k2 : ¬ a = b → WA Γ M R mc ms cl sl Q (pc + 3) lv st μ) : WA Γ M R mc ms cl sl Q pc lv (.int b :: .int a :: st) μ := fun p e s m args below meth c Qf H locs ls F hS hP hl hE => lv_icmp_eq F.1 F.2.1 d ht (fun h => k1 h p e s m args below meth c Qf H locs ls F hS hP hl hE) (fun h => k2 h p e s m args below meth c Qf H locs ls F hS hP hl hE)
theorem x_if_ne {a : Int32} {off : Int} {tgt : Nat} (d : decode M.2.1 pc = .ok (.ifCond .ne off, 3)) (ht : (pc : Int) + off = (tgt : Int)) (k1 : ¬ a = 0 → WA Γ M R mc ms cl sl Q tgt lv st μ) (k2 : a = 0 → WA Γ M R mc ms cl sl Q (pc + 3) lv st μ) : WA Γ M R mc ms cl sl Q pc lv (.int a :: st) μ := fun p e s m args below meth c Qf H locs ls F hS hP hl hE => lv_if_ne F.1 F.2.1 d ht (fun h => k1 h p e s m args below meth c Qf H locs ls F hS hP hl hE) (fun h => k2 h p e s m args below meth c Qf H locs ls F hS hP hl hE)
theorem x_icmp_ne {a b : Int32} {off : Int} {tgt : Nat} (d : decode M.2.1 pc = .ok (.if_icmp .ne off, 3)) (ht : (pc : Int) + off = (tgt : Int)) (k1 : ¬ a = b → WA Γ M R mc ms cl sl Q tgt lv st μ) (k2 : a = b → WA Γ M R mc ms cl sl Q (pc + 3) lv st μ) : WA Γ M R mc ms cl sl Q pc lv (.int b :: .int a :: st) μ := fun p e s m args below meth c Qf H locs ls F hS hP hl hE => lv_icmp_ne F.1 F.2.1 d ht (fun h => k1 h p e s m args below meth c Qf H locs ls F hS hP hl hE) (fun h => k2 h p e s m args below meth c Qf H locs ls F hS hP hl hE)
theorem x_if_lt {a : Int32} {off : Int} {tgt : Nat} (d : decode M.2.1 pc = .ok (.ifCond .lt off, 3)) (ht : (pc : Int) + off = (tgt : Int)) (k1 : a < 0 → WA Γ M R mc ms cl sl Q tgt lv st μ) (k2 : ¬ a < 0 → WA Γ M R mc ms cl sl Q (pc + 3) lv st μ) : WA Γ M R mc ms cl sl Q pc lv (.int a :: st) μ := fun p e s m args below meth c Qf H locs ls F hS hP hl hE => lv_if_lt F.1 F.2.1 d ht (fun h => k1 h p e s m args below meth c Qf H locs ls F hS hP hl hE) (fun h => k2 h p e s m args below meth c Qf H locs ls F hS hP hl hE)
theorem x_icmp_lt {a b : Int32} {off : Int} {tgt : Nat} (d : decode M.2.1 pc = .ok (.if_icmp .lt off, 3)) (ht : (pc : Int) + off = (tgt : Int)) (k1 : a < b → WA Γ M R mc ms cl sl Q tgt lv st μ) (k2 : ¬ a < b → WA Γ M R mc ms cl sl Q (pc + 3) lv st μ) : WA Γ M R mc ms cl sl Q pc lv (.int b :: .int a :: st) μ := fun p e s m args below meth c Qf H locs ls F hS hP hl hE => lv_icmp_lt F.1 F.2.1 d ht (fun h => k1 h p e s m args below meth c Qf H locs ls F hS hP hl hE) (fun h => k2 h p e s m args below meth c Qf H locs ls F hS hP hl hE)
theorem x_if_ge {a : Int32} {off : Int} {tgt : Nat} (d : decode M.2.1 pc = .ok (.ifCond .ge off, 3)) (ht : (pc : Int) + off = (tgt : Int)) (k1 : 0 ≤ a → WA Γ M R mc ms cl sl Q tgt lv st μ) (k2 : ¬ 0 ≤ a → WA Γ M R mc ms cl sl Q (pc + 3) lv st μ) : WA Γ M R mc ms cl sl Q pc lv (.int a :: st) μ := fun p e s m args below meth c Qf H locs ls F hS hP hl hE => lv_if_ge F.1 F.2.1 d ht (fun h => k1 h p e s m args below meth c Qf H locs ls F hS hP hl hE) (fun h => k2 h p e s m args below meth c Qf H locs ls F hS hP hl hE)
theorem x_icmp_ge {a b : Int32} {off : Int} {tgt : Nat} (d : decode M.2.1 pc = .ok (.if_icmp .ge off, 3)) (ht : (pc : Int) + off = (tgt : Int)) (k1 : b ≤ a → WA Γ M R mc ms cl sl Q tgt lv st μ) (k2 : ¬ b ≤ a → WA Γ M R mc ms cl sl Q (pc + 3) lv st μ) : WA Γ M R mc ms cl sl Q pc lv (.int b :: .int a :: st) μ := fun p e s m args below meth c Qf H locs ls F hS hP hl hE => lv_icmp_ge F.1 F.2.1 d ht (fun h => k1 h p e s m args below meth c Qf H locs ls F hS hP hl hE) (fun h => k2 h p e s m args below meth c Qf H locs ls F hS hP hl hE)
theorem x_if_gt {a : Int32} {off : Int} {tgt : Nat} (d : decode M.2.1 pc = .ok (.ifCond .gt off, 3)) (ht : (pc : Int) + off = (tgt : Int)) (k1 : 0 < a → WA Γ M R mc ms cl sl Q tgt lv st μ) (k2 : ¬ 0 < a → WA Γ M R mc ms cl sl Q (pc + 3) lv st μ) : WA Γ M R mc ms cl sl Q pc lv (.int a :: st) μ := fun p e s m args below meth c Qf H locs ls F hS hP hl hE => lv_if_gt F.1 F.2.1 d ht (fun h => k1 h p e s m args below meth c Qf H locs ls F hS hP hl hE) (fun h => k2 h p e s m args below meth c Qf H locs ls F hS hP hl hE)
theorem x_icmp_gt {a b : Int32} {off : Int} {tgt : Nat} (d : decode M.2.1 pc = .ok (.if_icmp .gt off, 3)) (ht : (pc : Int) + off = (tgt : Int)) (k1 : b < a → WA Γ M R mc ms cl sl Q tgt lv st μ) (k2 : ¬ b < a → WA Γ M R mc ms cl sl Q (pc + 3) lv st μ) : WA Γ M R mc ms cl sl Q pc lv (.int b :: .int a :: st) μ := fun p e s m args below meth c Qf H locs ls F hS hP hl hE => lv_icmp_gt F.1 F.2.1 d ht (fun h => k1 h p e s m args below meth c Qf H locs ls F hS hP hl hE) (fun h => k2 h p e s m args below meth c Qf H locs ls F hS hP hl hE)
theorem x_if_le {a : Int32} {off : Int} {tgt : Nat} (d : decode M.2.1 pc = .ok (.ifCond .le off, 3)) (ht : (pc : Int) + off = (tgt : Int)) (k1 : a ≤ 0 → WA Γ M R mc ms cl sl Q tgt lv st μ) (k2 : ¬ a ≤ 0 → WA Γ M R mc ms cl sl Q (pc + 3) lv st μ) : WA Γ M R mc ms cl sl Q pc lv (.int a :: st) μ := fun p e s m args below meth c Qf H locs ls F hS hP hl hE => lv_if_le F.1 F.2.1 d ht (fun h => k1 h p e s m args below meth c Qf H locs ls F hS hP hl hE) (fun h => k2 h p e s m args below meth c Qf H locs ls F hS hP hl hE)
theorem x_icmp_le {a b : Int32} {off : Int} {tgt : Nat} (d : decode M.2.1 pc = .ok (.if_icmp .le off, 3)) (ht : (pc : Int) + off = (tgt : Int)) (k1 : a ≤ b → WA Γ M R mc ms cl sl Q tgt lv st μ) (k2 : ¬ a ≤ b → WA Γ M R mc ms cl sl Q (pc + 3) lv st μ) : WA Γ M R mc ms cl sl Q pc lv (.int b :: .int a :: st) μ := fun p e s m args below meth c Qf H locs ls F hS hP hl hE => lv_icmp_le F.1 F.2.1 d ht (fun h => k1 h p e s m args below meth c Qf H locs ls F hS hP hl hE) (fun h => k2 h p e s m args below meth c Qf H locs ls F hS hP hl hE)
theorem x_goto {off : Int} {tgt : Nat} (d : decode M.2.1 pc = .ok (.goto off, 3)) (ht : (pc : Int) + off = (tgt : Int)) (k : WA Γ M R mc ms cl sl Q tgt lv st μ) : WA Γ M R mc ms cl sl Q pc lv st μ := fun p e s m args below meth c Qf H locs ls F hS hP hl hE => lv_goto F.1 F.2.1 d ht (k p e s m args below meth c Qf H locs ls F hS hP hl hE)
theorem x_ifnonnull {x : Nat} {off : Int} {tgt : Nat} (d : decode M.2.1 pc = .ok (.ifnonnull off, 3)) (ht : (pc : Int) + off = (tgt : Int)) (k : WA Γ M R mc ms cl sl Q tgt lv st μ) : WA Γ M R mc ms cl sl Q pc lv (.ref x :: st) μ := fun p e s m args below meth c Qf H locs ls F hS hP hl hE => lv_ifnonnull F.1 F.2.1 d ht (k p e s m args below meth c Qf H locs ls F hS hP hl hE)
theorem x_ifnonnullN {off : Int} (d : decode M.2.1 pc = .ok (.ifnonnull off, 3)) (k : WA Γ M R mc ms cl sl Q (pc + 3) lv st μ) : WA Γ M R mc ms cl sl Q pc lv (.null :: st) μ := fun p e s m args below meth c Qf H locs ls F hS hP hl hE => lv_ifnonnullN F.1 F.2.1 d (k p e s m args below meth c Qf H locs ls F hS hP hl hE)
theorem x_tableOut {dflt lo hi : Int} {offs : Array Int} {len : Nat} {x : Int32} {tgt : Nat} (d : decode M.2.1 pc = .ok (.tableswitch dflt lo hi offs, len)) (h : x.toInt < lo ∨ hi < x.toInt) (ht : (pc : Int) + dflt = (tgt : Int)) (k : WA Γ M R mc ms cl sl Q tgt lv st μ) : WA Γ M R mc ms cl sl Q pc lv (.int x :: st) μ := fun p e s m args below meth c Qf H locs ls F hS hP hl hE => lv_tableOut F.1 F.2.1 d h ht (k p e s m args below meth c Qf H locs ls F hS hP hl hE)
theorem x_tableIn {dflt lo hi : Int} {offs : Array Int} {len : Nat} {x : Int32} {off : Int} {tgt : Nat} (d : decode M.2.1 pc = .ok (.tableswitch dflt lo hi offs, len)) (h1 : ¬ x.toInt < lo) (h2 : ¬ hi < x.toInt) (ho : offs[(x.toInt - lo).toNat]? = some off) (ht : (pc : Int) + off = (tgt : Int)) (k : WA Γ M R mc ms cl sl Q tgt lv st μ) : WA Γ M R mc ms cl sl Q pc lv (.int x :: st) μ := fun p e s m args below meth c Qf H locs ls F hS hP hl hE => lv_tableIn F.1 F.2.1 d h1 h2 ho ht (k p e s m args below meth c Qf H locs ls F hS hP hl hE)
theorem x_ldc {i : Nat} {v : Int32} (d : decode M.2.1 pc = .ok (.ldc i, 2)) (hw : Cond.constant M.1.cls i v ∈ gT) (k : WA Γ M R mc ms cl sl Q (pc + 2) lv (.int v :: st) μ) : WA Γ M R mc ms cl sl Q pc lv st μ := fun p e s m args below meth c Qf H locs ls F hS hP hl hE => lv_ldc F.1 F.2.1 F.2.2.2.2.2.2.1 (F.2.2.2.2.2.2.2.1 _ hw) d (k p e s m args below meth c Qf H locs ls F hS hP hl hE)
theorem x_ldcw {i : Nat} {v : Int32} (d : decode M.2.1 pc = .ok (.ldc_w i, 3)) (hw : Cond.constant M.1.cls i v ∈ gT) (k : WA Γ M R mc ms cl sl Q (pc + 3) lv (.int v :: st) μ) : WA Γ M R mc ms cl sl Q pc lv st μ := fun p e s m args below meth c Qf H locs ls F hS hP hl hE => lv_ldcw F.1 F.2.1 F.2.2.2.2.2.2.1 (F.2.2.2.2.2.2.2.1 _ hw) d (k p e s m args below meth c Qf H locs ls F hS hP hl hE)
theorem x_ldc2 {i : Nat} {v : Int64} (d : decode M.2.1 pc = .ok (.ldc2_w i, 3)) (hw : Cond.constantLong M.1.cls i v ∈ gT) (k : WA Γ M R mc ms cl sl Q (pc + 3) lv (.long v :: st) μ) : WA Γ M R mc ms cl sl Q pc lv st μ := fun p e s m args below meth c Qf H locs ls F hS hP hl hE => lv_ldc2 F.1 F.2.1 F.2.2.2.2.2.2.1 (F.2.2.2.2.2.2.2.1 _ hw) d (k p e s m args below meth c Qf H locs ls F hS hP hl hE)
theorem x_ldcS {i n : Nat} (d : decode M.2.1 pc = .ok (.ldc i, 2)) (hn : n < 13) (ho : sOwn n = M.1.cls) (hi : sIdx n = i) (k : WA Γ M R mc ms cl sl Q (pc + 2) lv (.ref (Γ.2.2.2.2.1 n) :: st) μ) : WA Γ M R mc ms cl sl Q pc lv st μ := fun p e s m args below meth c Qf H locs ls F hS hP hl hE => va_ldcS F.1 F.2.1 F.2.2.2.2.2.2.1 (by rw [← ho, ← hi]; exact F.2.2.2.2.2.2.2.2.2.2.2.1 n hn) d (k p e s m args below meth c Qf H locs ls F hS hP hl hE)
theorem x_ireturn {v : Int32} {ty : FieldType} (d : decode M.2.1 pc = .ok (.ireturn, 1)) (hr : M.2.2.2 = some ty) (hn : narrow ty (.int v) = .int v) (h : Q (some (.int v)) μ) : WA Γ M R mc ms mc ms Q pc lv [.int v] μ := fun p e s m args below meth c Qf H locs ls F hS hP hl hE => hE _ _ _ _ h hP hS pc ls ⟨ty, hr, hn⟩ d
theorem x_lreturn {v : Int64} (d : decode M.2.1 pc = .ok (.lreturn, 1)) (hr : M.2.2.2 = some .long) (h : Q (some (.long v)) μ) : WA Γ M R mc ms mc ms Q pc lv [.long v] μ := fun p e s m args below meth c Qf H locs ls F hS hP hl hE => hE _ _ _ _ h hP hS pc ls hr d
theorem x_areturn {v : Nat} {t : FieldType} (d : decode M.2.1 pc = .ok (.areturn, 1)) (hr : M.2.2.2 = some t) (ht : (∃ n, t = .object n) ∨ ∃ u, t = .array u) (h : Q (some (.ref v)) μ) : WA Γ M R mc ms mc ms Q pc lv [.ref v] μ := fun p e s m args below meth c Qf H locs ls F hS hP hl hE => hE _ _ _ _ h hP hS pc ls ⟨t, hr, ht⟩ d
theorem x_return (d : decode M.2.1 pc = .ok (.return_, 1)) (hr : M.2.2.2 = none) (h : Q none μ) : WA Γ M R mc ms mc ms Q pc lv [] μ := fun p e s m args below meth c Qf H locs ls F hS hP hl hE => hE _ _ _ _ h hP hS pc ls hr d
theorem x_widen {k n : Nat} (h1 : cl ≤ k) (h2 : sl ≤ n) (kk : WA Γ M R mc ms k n Q pc lv st μ) : WA Γ M R mc ms cl sl Q pc lv st μ := fun p e s m args below meth c Qf H locs ls F hS hP hl hE => W.widen h1 h2 (kk p e s m args below meth c Qf H locs ls F hS hP hl hE)
theorem x_locals (h : ∀ (j : Nat) (v : Value), lv2[j]? = some (some v) → lv[j]? = some (some v)) (k : WA Γ M R mc ms cl sl Q pc lv2 st μ) : WA Γ M R mc ms cl sl Q pc lv st μ := fun p e s m args below meth c Qf H locs ls F hS hP hl hE => k p e s m args below meth c Qf H locs ls F hS hP ⟨hl.1, hl.2.1, fun j v hj => hl.2.2 j v (h j v hj)⟩ hE
theorem x_post {Q2 : Option Value → Mem → Prop} (h : ∀ r μ2, Q2 r μ2 → Q r μ2) (k : WA Γ M R mc ms cl sl Q2 pc lv st μ) : WA Γ M R mc ms cl sl Q pc lv st μ := fun p e s m args below meth c Qf H locs ls F hS hP hl hE => k p e s m args below meth c Qf H locs ls F hS hP hl (fun r μ2 H2 l2 hq => hE r μ2 H2 l2 (h r μ2 hq))
end XR
end
section
section XHP
variable {Γ : Gm} {M : Mt} {R : Room} {mc ms cl sl : Nat} {Q : Option Value → Mem → Prop} {pc : Nat} {lv lv2 : List (Option Value)} {st : List Value} {μ : Mem}
/-- a field's place in the pool of whose code runs -/
def FK (own : String) (idx ci k : Nat) : Prop := ci < 13 ∧ k < xN ci ∧ ∃ ref : String, Cond.fieldLink own idx ref (xT ci k).2.1 (xT ci k).2.2.1 ∈ gT ∧ (ref = (xT ci k).1 ∨ Cond.sameField ref (xT ci k).1 (xT ci k).2.1 (xT ci k).2.2.1 ∈ gT)
theorem xfs_at {μ : Mem} {q ci k : Nat} (h : k < xN ci) : (xfs μ q ci)[k]? = some (xv μ q k (xty ci k)) := by
  unfold xfs
  rw [List.getElem?_map, List.getElem?_range h]
  rfl
theorem xfs_len {μ : Mem} {q ci : Nat} : (xfs μ q ci).length = xN ci := by simp [xfs]
theorem FK_same {own : String} {idx ci k : Nat} {args : Array Value} {s : State} (hts : ∀ w ∈ gT, w.before args s = true) {ref : String} (h : ref = (xT ci k).1 ∨ Cond.sameField ref (xT ci k).1 (xT ci k).2.1 (xT ci k).2.2.1 ∈ gT) : ∀ x, s.fieldFound? (xT ci k).1 (xT ci k).2.1 (xT ci k).2.2.1 = some x → s.fieldFound? ref (xT ci k).2.1 (xT ci k).2.2.1 = some x := by
  intro x hx
  rcases h with h | h
  · rw [h]; exact hx
  · exact u_same (hts _ h) x hx
theorem x_getv {q idx ci k : Nat} {v : Value} (d : decode M.2.1 pc = .ok (.getfield idx, 3)) (f : FK M.1.cls idx ci k) (hT : mT μ q = (1, ci)) (hv : xv μ q k (xty ci k) = v) (kk : WA Γ M R mc ms cl sl Q (pc + 3) lv (v :: st) μ) : WA Γ M R mc ms cl sl Q pc lv (.ref q :: st) μ := by
  intro p e s m args below meth c Qf H locs ls F hS hP hl hE
  obtain ⟨hx, hb, -, -, -, -, hown, hts, hK, -, -⟩ := id F
  obtain ⟨L, hPL, hD, hL⟩ := id hP
  obtain ⟨hci, hk, ref, hlk, hsm⟩ := f
  have hq : q ∈ L := (hL q).mpr (by rw [hT]; exact fun h => by cases h)
  obtain ⟨i, hi⟩ := va_pl_get (X := []) (f := xcell (gC Γ) μ) hq
  rw [xcell_o hT] at hi
  exact va_get hx hb hts (x_in hci) hown hK hPL i hi (x_cl hci) k hk (hts _ hlk) (FK_same (own := M.1.cls) (idx := idx) hts hsm) (by rw [xfs_at hk, hv]) d (kk p e s m args below meth c Qf H locs ls F hS hP hl hE)
theorem x_getI {q idx ci k : Nat} (d : decode M.2.1 pc = .ok (.getfield idx, 3)) (f : FK M.1.cls idx ci k) (hT : mT μ q = (1, ci)) (hv : xty ci k = .int ∨ xty ci k = .boolean) (kk : WA Γ M R mc ms cl sl Q (pc + 3) lv (.int (mI μ q k) :: st) μ) : WA Γ M R mc ms cl sl Q pc lv (.ref q :: st) μ :=
  x_getv d f hT (by rcases hv with h | h <;> rw [h] <;> rfl) kk
theorem x_getJ {q idx ci k : Nat} (d : decode M.2.1 pc = .ok (.getfield idx, 3)) (f : FK M.1.cls idx ci k) (hT : mT μ q = (1, ci)) (hv : xty ci k = .long) (kk : WA Γ M R mc ms cl sl Q (pc + 3) lv (.long (mJ μ q k) :: st) μ) : WA Γ M R mc ms cl sl Q pc lv (.ref q :: st) μ :=
  x_getv d f hT (by rw [hv]; rfl) kk
/-- is it a type of references -/
def isR (t : FieldType) : Prop := (∃ n, t = .object n) ∨ ∃ u, t = .array u
theorem x_getR {q idx ci k a : Nat} (d : decode M.2.1 pc = .ok (.getfield idx, 3)) (f : FK M.1.cls idx ci k) (hT : mT μ q = (1, ci)) (hv : isR (xty ci k)) (ha : mR μ q k = some a) (kk : WA Γ M R mc ms cl sl Q (pc + 3) lv (.ref a :: st) μ) : WA Γ M R mc ms cl sl Q pc lv (.ref q :: st) μ :=
  x_getv d f hT (by rcases hv with ⟨n, h⟩ | ⟨u, h⟩ <;> rw [h] <;> show va_rf (mR μ q k) = _ <;> rw [ha] <;> rfl) kk
theorem x_getN {q idx ci k : Nat} (d : decode M.2.1 pc = .ok (.getfield idx, 3)) (f : FK M.1.cls idx ci k) (hT : mT μ q = (1, ci)) (hv : isR (xty ci k)) (ha : mR μ q k = none) (kk : WA Γ M R mc ms cl sl Q (pc + 3) lv (.null :: st) μ) : WA Γ M R mc ms cl sl Q pc lv (.ref q :: st) μ :=
  x_getv d f hT (by rcases hv with ⟨n, h⟩ | ⟨u, h⟩ <;> rw [h] <;> show va_rf (mR μ q k) = _ <;> rw [ha] <;> rfl) kk
/-- a store into the memory, seen by the pool's cells -/
theorem XP_set {μ' : Mem} {H1 : Heap} {L : List Nat} {q i : Nat} {e : va_E} (hD : va_D (gA Γ) (va_pl L (xcell (gC Γ) μ))) (hL : ∀ q, q ∈ L ↔ (mT μ q).1 ≠ 0) (hq : q ∈ L) (hi : ([] ++ va_pl L (xcell (gC Γ) μ))[i]? = some (q, xcell (gC Γ) μ q)) (hT : mT μ' = mT μ) (he : xcell (gC Γ) μ' q = e) (ho : ∀ a, a ≠ q → xcell (gC Γ) μ' a = xcell (gC Γ) μ a)
    (hP1 : va_P (gD Γ) vwCl ((va_pl L (xcell (gC Γ) μ)).set i (q, e)) H1) (hD1 : va_D (gA Γ) ((va_pl L (xcell (gC Γ) μ)).set i (q, e))) : XP Γ μ' H1 := by
  have h1 := va_pl_set (X := []) (e := e) hD hq hi
  have h2 : va_pl L (va_up (xcell (gC Γ) μ) q e) = va_pl L (xcell (gC Γ) μ') := va_pl_congr (fun a => by
    unfold va_up
    by_cases ha : a = q
    · rw [if_pos ha, ha, he]
    · rw [if_neg ha, ho a ha])
  have h3 : (va_pl L (xcell (gC Γ) μ)).set i (q, e) = va_pl L (xcell (gC Γ) μ') := h1.trans h2
  rw [h3] at hP1 hD1
  exact ⟨L, hP1, hD1, fun a => by rw [hT]; exact hL a⟩
theorem xv_ne {μ μ' : Mem} {a k : Nat} {t : FieldType} (h1 : mI μ' a k = mI μ a k) (h2 : mJ μ' a k = mJ μ a k) (h3 : mR μ' a k = mR μ a k) : xv μ' a k t = xv μ a k t := by
  unfold xv
  split <;> simp [h1, h2, h3]
theorem xcell_ne {ca : Nat → ClassId} {μ μ' : Mem} {a : Nat} (h0 : mT μ' a = mT μ a) (h1 : mI μ' a = mI μ a) (h2 : mJ μ' a = mJ μ a) (h3 : mR μ' a = mR μ a) (h4 : mA μ' a = mA μ a) (h5 : mX μ' a = mX μ a) : xcell ca μ' a = xcell ca μ a := by
  unfold xcell
  have h6 : ∀ ci, xfs μ' a ci = xfs μ a ci := fun ci => by
    unfold xfs
    exact List.map_congr_left (fun k _ => xv_ne (by rw [h1]) (by rw [h2]) (by rw [h3]))
  rw [h0, h4, h5]
  simp [h6]
theorem up2_row {α : Type} {f : Nat → Nat → α} {q k a : Nat} {v : α} (h : a ≠ q) : up2 f q k v a = f a := funext fun b => up2_n (Or.inl h)
theorem xfs_set {μ μ' : Mem} {q ci k : Nat} {v : Value} (hk : k < xN ci) (hv : xv μ' q k (xty ci k) = v) (ho : ∀ j, j ≠ k → xv μ' q j (xty ci j) = xv μ q j (xty ci j)) : xfs μ' q ci = (xfs μ q ci).set k v := by
  apply List.ext_getElem?
  intro j
  rw [List.getElem?_set]
  by_cases hj : k = j
  · subst hj
    rw [if_pos rfl, if_pos (by rw [xfs_len]; exact hk), xfs_at hk, hv]
  · rw [if_neg hj]
    by_cases hjn : j < xN ci
    · rw [xfs_at hjn, xfs_at hjn, ho j (fun e => hj e.symm)]
    · rw [List.getElem?_eq_none (by rw [xfs_len]; omega), List.getElem?_eq_none (by rw [xfs_len]; omega)]
theorem x_putv {q idx ci k : Nat} {v : Value} {μ' : Mem} (d : decode M.2.1 pc = .ok (.putfield idx, 3)) (f : FK M.1.cls idx ci k) (hfin : (xT ci k).2.2.2 = false ∨ ((xT ci k).2.2.2 = true ∧ M.1.name = "<init>" ∧ (xT ci k).1 = M.1.cls)) (hT : mT μ q = (1, ci)) (hn : narrow (xty ci k) v = v) (hfit : fits (xty ci k) v = true)
    (hT' : mT μ' = mT μ) (hv : xv μ' q k (xty ci k) = v) (ho : ∀ j, j ≠ k → xv μ' q j (xty ci j) = xv μ q j (xty ci j)) (hoo : ∀ a, a ≠ q → xcell (gC Γ) μ' a = xcell (gC Γ) μ a)
    (kk : WA Γ M R mc ms cl sl Q (pc + 3) lv st μ') : WA Γ M R mc ms cl sl Q pc lv (v :: .ref q :: st) μ := by
  intro p e s m args below meth c Qf H locs ls F hS hP hl hE
  obtain ⟨hx, hb, -, -, -, hname, hown, hts, hK, -, -⟩ := id F
  obtain ⟨L, hPL, hD, hL⟩ := id hP
  obtain ⟨hci, hk, ref, hlk, hsm⟩ := f
  have hq : q ∈ L := (hL q).mpr (by rw [hT]; exact fun h => by cases h)
  obtain ⟨i, hi0⟩ := va_pl_get (X := []) (f := xcell (gC Γ) μ) hq
  have hi := hi0
  rw [xcell_o hT] at hi
  have hd := x_tyok hci k hk
  have hc2 : xcell (gC Γ) μ' q = .inr (ci, (xfs μ q ci).set k v) := by rw [xcell_o (by rw [hT']; exact hT), xfs_set hk hv ho]
  rcases hfin with hfin | ⟨hfin, hini, hdecl⟩
  · exact va_put hx hb hts (x_in hci) (xty ci) (x_tyok hci) (x_nm hci) hown hK hPL hD hS i hi (x_cl hci) k hk (hts _ hlk) (FK_same (own := M.1.cls) (idx := idx) hts hsm) hfin hd hn hfit (by rw [xfs_len]; exact hk) d (fun H1 locs1 hP1 hD1 hS1 =>
      kk p e s m args below meth c Qf H1 locs1 ls F hS1 (XP_set hD hL hq hi0 hT' hc2 hoo hP1 hD1) hl hE)
  · exact va_putF hx hb hts (x_in hci) (xty ci) (x_tyok hci) (x_nm hci) hown hK hPL hD hS i hi (x_cl hci) k hk (hts _ hlk) (FK_same (own := M.1.cls) (idx := idx) hts hsm) hfin (by rw [hname]; exact hini) hdecl hd hn hfit (by rw [xfs_len]; exact hk) d (fun H1 locs1 hP1 hD1 hS1 =>
      kk p e s m args below meth c Qf H1 locs1 ls F hS1 (XP_set hD hL hq hi0 hT' hc2 hoo hP1 hD1) hl hE)
theorem x_putI {q idx ci k : Nat} {v : Int32} (d : decode M.2.1 pc = .ok (.putfield idx, 3)) (f : FK M.1.cls idx ci k) (hfin : (xT ci k).2.2.2 = false ∨ ((xT ci k).2.2.2 = true ∧ M.1.name = "<init>" ∧ (xT ci k).1 = M.1.cls)) (hT : mT μ q = (1, ci)) (hty : xty ci k = .int ∨ (xty ci k = .boolean ∧ (v = 0 ∨ v = 1)))
    (kk : WA Γ M R mc ms cl sl Q (pc + 3) lv st (sI μ q k v)) : WA Γ M R mc ms cl sl Q pc lv (.int v :: .ref q :: st) μ := by
  refine x_putv (μ' := sI μ q k v) d f hfin hT ?_ ?_ rfl ?_ ?_ ?_ kk
  · rcases hty with h | ⟨h, rfl | rfl⟩ <;> rw [h] <;> rfl
  · rcases hty with h | ⟨h, rfl | rfl⟩ <;> rw [h] <;> rfl
  · rcases hty with h | ⟨h, -⟩ <;> rw [h] <;> show Value.int (up2 (mI μ) q k v q k) = _ <;> rw [up2_s]
  · exact fun j hj => xv_ne (up2_n (Or.inr hj)) rfl rfl
  · exact fun a ha => xcell_ne rfl (up2_row ha) rfl rfl rfl rfl
theorem x_putJ {q idx ci k : Nat} {v : Int64} (d : decode M.2.1 pc = .ok (.putfield idx, 3)) (f : FK M.1.cls idx ci k) (hfin : (xT ci k).2.2.2 = false) (hT : mT μ q = (1, ci)) (hty : xty ci k = .long)
    (kk : WA Γ M R mc ms cl sl Q (pc + 3) lv st (sJ μ q k v)) : WA Γ M R mc ms cl sl Q pc lv (.long v :: .ref q :: st) μ := by
  refine x_putv (μ' := sJ μ q k v) d f (Or.inl hfin) hT ?_ ?_ rfl ?_ ?_ ?_ kk
  · rw [hty]; rfl
  · rw [hty]; rfl
  · rw [hty]; show Value.long (up2 (mJ μ) q k v q k) = _; rw [up2_s]
  · exact fun j hj => xv_ne rfl (up2_n (Or.inr hj)) rfl
  · exact fun a ha => xcell_ne rfl rfl (up2_row ha) rfl rfl rfl
theorem x_putR {q idx ci k a : Nat} (d : decode M.2.1 pc = .ok (.putfield idx, 3)) (f : FK M.1.cls idx ci k) (hfin : (xT ci k).2.2.2 = false ∨ ((xT ci k).2.2.2 = true ∧ M.1.name = "<init>" ∧ (xT ci k).1 = M.1.cls)) (hT : mT μ q = (1, ci)) (hty : isR (xty ci k))
    (kk : WA Γ M R mc ms cl sl Q (pc + 3) lv st (sR μ q k (some a))) : WA Γ M R mc ms cl sl Q pc lv (.ref a :: .ref q :: st) μ := by
  refine x_putv (μ' := sR μ q k (some a)) d f hfin hT ?_ ?_ rfl ?_ ?_ ?_ kk
  · rcases hty with ⟨n, h⟩ | ⟨u, h⟩ <;> rw [h] <;> rfl
  · rcases hty with ⟨n, h⟩ | ⟨u, h⟩ <;> rw [h] <;> rfl
  · rcases hty with ⟨n, h⟩ | ⟨u, h⟩ <;> rw [h] <;> show va_rf (up2 (mR μ) q k (some a) q k) = _ <;> rw [up2_s] <;> rfl
  · exact fun j hj => xv_ne rfl rfl (up2_n (Or.inr hj))
  · exact fun b hb => xcell_ne rfl rfl rfl (up2_row hb) rfl rfl
theorem x_putN {q idx ci k : Nat} (d : decode M.2.1 pc = .ok (.putfield idx, 3)) (f : FK M.1.cls idx ci k) (hfin : (xT ci k).2.2.2 = false ∨ ((xT ci k).2.2.2 = true ∧ M.1.name = "<init>" ∧ (xT ci k).1 = M.1.cls)) (hT : mT μ q = (1, ci)) (hty : isR (xty ci k))
    (kk : WA Γ M R mc ms cl sl Q (pc + 3) lv st (sR μ q k none)) : WA Γ M R mc ms cl sl Q pc lv (.null :: .ref q :: st) μ := by
  refine x_putv (μ' := sR μ q k none) d f hfin hT ?_ ?_ rfl ?_ ?_ ?_ kk
  · rcases hty with ⟨n, h⟩ | ⟨u, h⟩ <;> rw [h] <;> rfl
  · rcases hty with ⟨n, h⟩ | ⟨u, h⟩ <;> rw [h] <;> rfl
  · rcases hty with ⟨n, h⟩ | ⟨u, h⟩ <;> rw [h] <;> show va_rf (up2 (mR μ) q k none q k) = _ <;> rw [up2_s] <;> rfl
  · exact fun j hj => xv_ne rfl rfl (up2_n (Or.inr hj))
  · exact fun b hb => xcell_ne rfl rfl rfl (up2_row hb) rfl rfl
/-! arrays -/
theorem vpin {j : Int32} {i n : Nat} (hj : j = nI i) (hi : i < n) (hn : n < 2 ^ 31) : vp_in j n ∧ j.toNatClampNeg = i := by
  subst hj
  exact ⟨vp_in_nI hi hn, nI_clamp (by omega)⟩
theorem x_iald {q n i : Nat} {j : Int32} (d : decode M.2.1 pc = .ok (.iaload, 1)) (hT : mT μ q = (2, n)) (hj : j = nI i) (hi : i < n) (hn : n < 2 ^ 31) (kk : WA Γ M R mc ms cl sl Q (pc + 1) lv (.int (mA μ q i) :: st) μ) : WA Γ M R mc ms cl sl Q pc lv (.int j :: .ref q :: st) μ := by
  intro p e s m args below meth c Qf H locs ls F hS hP hl hE
  obtain ⟨hx, hb, -, -, -, -, -, -, hK, -, -⟩ := id F
  obtain ⟨L, hPL, hD, hL⟩ := id hP
  have hq : q ∈ L := (hL q).mpr (by rw [hT]; exact fun h => by cases h)
  obtain ⟨z, hz⟩ := va_pl_get (X := []) (f := xcell (gC Γ) μ) hq
  rw [xcell_i hT] at hz
  obtain ⟨h1, h2⟩ := vpin hj hi hn
  exact va_iald hx hb hK hPL z 0 hz rfl h1 d (by rw [h2]; exact kk p e s m args below meth c Qf H locs ls F hS hP hl hE)
theorem x_zald {q n i : Nat} {j : Int32} (d : decode M.2.1 pc = .ok (.baload, 1)) (hT : mT μ q = (3, n)) (hj : j = nI i) (hi : i < n) (hn : n < 2 ^ 31) (kk : WA Γ M R mc ms cl sl Q (pc + 1) lv (.int (mA μ q i) :: st) μ) : WA Γ M R mc ms cl sl Q pc lv (.int j :: .ref q :: st) μ := by
  intro p e s m args below meth c Qf H locs ls F hS hP hl hE
  obtain ⟨hx, hb, -, -, -, -, -, -, hK, -, -⟩ := id F
  obtain ⟨L, hPL, hD, hL⟩ := id hP
  have hq : q ∈ L := (hL q).mpr (by rw [hT]; exact fun h => by cases h)
  obtain ⟨z, hz⟩ := va_pl_get (X := []) (f := xcell (gC Γ) μ) hq
  rw [xcell_z hT] at hz
  obtain ⟨h1, h2⟩ := vpin hj hi hn
  exact va_zald hx hb hK hPL z 1 hz rfl h1 d (by rw [h2]; exact kk p e s m args below meth c Qf H locs ls F hS hP hl hE)
theorem upd_up2 {f : Nat → Nat → Int32} {q i : Nat} {v : Int32} : up2 f q i v q = upd (f q) i v := by
  funext b
  by_cases h : b = i
  · simp [up2, upd, h]
  · simp [up2, upd, h]
theorem x_iast {q n i : Nat} {j v : Int32} (d : decode M.2.1 pc = .ok (.iastore, 1)) (hT : mT μ q = (2, n)) (hj : j = nI i) (hi : i < n) (hn : n < 2 ^ 31) (kk : WA Γ M R mc ms cl sl Q (pc + 1) lv st (sA μ q i v)) : WA Γ M R mc ms cl sl Q pc lv (.int v :: .int j :: .ref q :: st) μ := by
  intro p e s m args below meth c Qf H locs ls F hS hP hl hE
  obtain ⟨hx, hb, -, -, -, -, -, -, hK, -, -⟩ := id F
  obtain ⟨L, hPL, hD, hL⟩ := id hP
  have hq : q ∈ L := (hL q).mpr (by rw [hT]; exact fun h => by cases h)
  obtain ⟨z, hz0⟩ := va_pl_get (X := []) (f := xcell (gC Γ) μ) hq
  have hz := hz0
  rw [xcell_i hT] at hz
  obtain ⟨h1, h2⟩ := vpin hj hi hn
  refine va_iast hx hb hK hPL hD hS z 0 hz rfl h1 d (fun H1 locs1 hP1 hD1 hS1 => ?_)
  rw [h2] at hP1 hD1
  refine kk p e s m args below meth c Qf H1 locs1 ls F hS1 (XP_set (μ' := sA μ q i v) hD hL hq hz0 rfl ?_ (fun a ha => xcell_ne rfl rfl rfl rfl (up2_row ha) rfl) hP1 hD1) hl hE
  rw [xcell_i (show mT (sA μ q i v) q = (2, n) from hT)]
  show (Sum.inl (gC Γ 0, n, Sum.inl (up2 (mA μ) q i v q)) : va_E) = _
  rw [upd_up2]
theorem x_zast {q n i : Nat} {j v : Int32} (d : decode M.2.1 pc = .ok (.bastore, 1)) (hT : mT μ q = (3, n)) (hj : j = nI i) (hi : i < n) (hn : n < 2 ^ 31) (hv : v = 0 ∨ v = 1) (kk : WA Γ M R mc ms cl sl Q (pc + 1) lv st (sA μ q i v)) : WA Γ M R mc ms cl sl Q pc lv (.int v :: .int j :: .ref q :: st) μ := by
  intro p e s m args below meth c Qf H locs ls F hS hP hl hE
  obtain ⟨hx, hb, -, -, -, -, -, -, hK, -, -⟩ := id F
  obtain ⟨L, hPL, hD, hL⟩ := id hP
  have hq : q ∈ L := (hL q).mpr (by rw [hT]; exact fun h => by cases h)
  obtain ⟨z, hz0⟩ := va_pl_get (X := []) (f := xcell (gC Γ) μ) hq
  have hz := hz0
  rw [xcell_z hT] at hz
  obtain ⟨h1, h2⟩ := vpin hj hi hn
  refine va_zast hx hb hK hPL hD hS z 1 hz rfl h1 d (fun H1 locs1 hP1 hD1 hS1 => ?_)
  rw [h2, show vp_nar .boolean v = v by rcases hv with rfl | rfl <;> rfl] at hP1 hD1
  refine kk p e s m args below meth c Qf H1 locs1 ls F hS1 (XP_set (μ' := sA μ q i v) hD hL hq hz0 rfl ?_ (fun a ha => xcell_ne rfl rfl rfl rfl (up2_row ha) rfl) hP1 hD1) hl hE
  rw [xcell_z (show mT (sA μ q i v) q = (3, n) from hT)]
  show (Sum.inl (gC Γ 1, n, Sum.inl (up2 (mA μ) q i v q)) : va_E) = _
  rw [upd_up2]
theorem x_alen {q n t : Nat} {v : Int32} (d : decode M.2.1 pc = .ok (.arraylength, 1)) (hT : mT μ q = (t, n)) (ht : t = 2 ∨ t = 3 ∨ t = 4 ∨ t = 5 ∨ t = 6) (hv : nI n = v) (kk : WA Γ M R mc ms cl sl Q (pc + 1) lv (.int v :: st) μ) : WA Γ M R mc ms cl sl Q pc lv (.ref q :: st) μ := by
  intro p e s m args below meth c Qf H locs ls F hS hP hl hE
  obtain ⟨hx, hb, -, -, -, -, -, -, hK, -, -⟩ := id F
  obtain ⟨L, hPL, hD, hL⟩ := id hP
  have hq : q ∈ L := (hL q).mpr (by rw [hT]; rcases ht with h | h | h | h | h <;> rw [h] <;> exact fun h => by cases h)
  obtain ⟨z, hz⟩ := va_pl_get (X := []) (f := xcell (gC Γ) μ) hq
  have k2 := kk p e s m args below meth c Qf H locs ls F hS hP hl hE
  rcases ht with rfl | rfl | rfl | rfl | rfl
  · rw [xcell_i hT] at hz
    exact va_alen hx hb hK hPL z 0 hz rfl hv d k2
  · rw [xcell_z hT] at hz
    exact va_alen hx hb hK hPL z 1 hz rfl hv d k2
  · rw [xcell_x (k := 0) hT] at hz
    exact va_alen hx hb hK hPL z 2 hz rfl hv d k2
  · rw [xcell_x (k := 1) hT] at hz
    exact va_alen hx hb hK hPL z 3 hz rfl hv d k2
  · rw [xcell_x (k := 2) hT] at hz
    exact va_alen hx hb hK hPL z 4 hz rfl hv d k2
theorem x_aald {q n i t a : Nat} {j : Int32} (d : decode M.2.1 pc = .ok (.aaload, 1)) (hT : mT μ q = (t, n)) (ht : t = 4 ∨ t = 5 ∨ t = 6) (hj : j = nI i) (hi : i < n) (hn : n < 2 ^ 31) (ha : mX μ q i = some a) (kk : WA Γ M R mc ms cl sl Q (pc + 1) lv (.ref a :: st) μ) : WA Γ M R mc ms cl sl Q pc lv (.int j :: .ref q :: st) μ := by
  intro p e s m args below meth c Qf H locs ls F hS hP hl hE
  obtain ⟨hx, hb, -, -, -, -, -, -, hK, -, -⟩ := id F
  obtain ⟨L, hPL, hD, hL⟩ := id hP
  have hq : q ∈ L := (hL q).mpr (by rw [hT]; rcases ht with h | h | h <;> rw [h] <;> exact fun h => by cases h)
  obtain ⟨z, hz⟩ := va_pl_get (X := []) (f := xcell (gC Γ) μ) hq
  have k2 := kk p e s m args below meth c Qf H locs ls F hS hP hl hE
  obtain ⟨h1, h2⟩ := vpin hj hi hn
  rcases ht with rfl | rfl | rfl
  · rw [xcell_x (k := 0) hT] at hz
    exact va_aldq hx hb hK hPL z 2 hz rfl h1 d (by rw [h2, ha]; exact k2)
  · rw [xcell_x (k := 1) hT] at hz
    exact va_aldq hx hb hK hPL z 3 hz rfl h1 d (by rw [h2, ha]; exact k2)
  · rw [xcell_x (k := 2) hT] at hz
    exact va_aldq hx hb hK hPL z 4 hz rfl h1 d (by rw [h2, ha]; exact k2)
end XHP
end
section
section XCL
variable {Γ : Gm} {M M1 : Mt} {R : Room} {mc ms cl sl : Nat} {Q Q1 : Option Value → Mem → Prop} {pc : Nat} {lv lv2 : List (Option Value)} {st st0 : List Value} {μ : Mem}
/-- what the tables say of a method that is called -/
def MK (M1 : Mt) (n : Nat) : Prop := Cond.code M1.1 M1.2.1 M1.2.2.1 M1.2.2.2 ∈ gT ∧ Cond.initialized M1.1.cls ∈ gT ∧ (M1.1.cls ≠ "java/lang/invoke/MethodHandle" ∧ M1.1.cls ≠ "java/lang/invoke/VarHandle" ∧ (parseMethodDescriptor M1.1.desc).map (fun d => d.parameters.length) = some n) ∧ M1.2.2.1 ≤ 45
theorem good_ws {M1 : Mt} {n : Nat} (h : MK M1 n) : GoodIn gT (xws M1) := fun w hw => by
  rcases List.mem_cons.mp hw with rfl | h2
  · exact ⟨h.1, gt_good h.1⟩
  · exact ⟨h2, gt_good h2⟩
theorem x_room {M1 : Mt} {n d1 mc1 ms1 : Nat} (h : MK M1 n) (hR : d1 + 1 ≤ R.frames ∧ 64 * (d1 + 1) ≤ R.locals) : (xrm d1 mc1 ms1).frames + 1 ≤ R.frames ∧ 8 + (M1.2.2.1 + 11) + (xrm d1 mc1 ms1).locals ≤ R.locals := by
  have := h.2.2.2
  exact ⟨hR.1, by show 8 + (M1.2.2.1 + 11) + 64 * d1 ≤ R.locals; omega⟩
/-- behind a call -/
theorem x_go {p : Program} {e : Env} {s : State} {m : MethodId} {args : Array Value} {below : List Frame} {meth : Method} {c : Code} {Qf : State → Prop} {H : Heap} {locs : List Loc} {ls : Array Slot} {a : Array Value} {mc1 ms1 : Nat}
    (F : XF Γ M p s m args meth c) (hS : va_S (gA Γ) s.heap H locs) (hl : xl ls M.2.2.1 lv) (hE : ∀ (r : Option Value) (μ' : Mem) (H' : Heap) (locs' : List Loc), Q r μ' → XP Γ μ' H' → va_S (gA Γ) s.heap H' locs' → XRet Γ M R p e s m args below meth c H' locs' mc ms Qf r)
    (hr : va_Run p (gL Γ) e R s m args below meth c H locs cl sl mc1 ms1 (F0 m pc ls st0) st (XQ Γ Q1 a) (gA Γ))
    (kk : ∀ r μ', Q1 r μ' → WA Γ M R mc ms (cl + mc1) (sl + ms1) Q (pc + 3) lv (r.toList ++ st) μ') : W p (gL Γ) e R s m args below meth c H locs cl sl Qf (F0 m pc ls st0) := by
  intro T hT X
  obtain ⟨v, st₀, t, T', L, h0, X', hL, e1, e2, ⟨⟨r, μ', hv, hq, hP1⟩, hz, hk⟩, stp⟩ := hr T hT X
  cases hv
  rw [h0] at hz hk
  obtain ⟨t2, a1, b1⟩ := kk v μ' hq p e s m args below meth c Qf T'.heap (locs ++ L) ls F ⟨Nat.le_trans hS.1 (by rw [e1]; exact hz), fun q h1 h2 => by rw [e1, hk q (Nat.lt_of_lt_of_le h1 hS.1) h2]; exact hS.2.1 q h1 h2, fun q hq2 => by
      rcases List.mem_append.mp hq2 with h | h
      · exact hS.2.2 q h
      · exact hL q h⟩ (by rw [e1]; exact hP1) hl hE T' rfl X'
  exact ⟨t2, stp t2 a1, b1⟩
/-- a static method, by a link of the class's own kind -/
def LS (own : String) (idx : Nat) (y : MethodName) : Prop := Cond.methodLink own idx y ∈ gT ∧ Cond.static y ∈ gT
theorem x_callS {idx d1 mc1 ms1 n : Nat} {As : List Value} (d : decode M.2.1 pc = .ok (.invokestatic idx, 3)) (hk : MK M1 n) (hl0 : LS M.1.cls idx M1.1) (hM : XM Γ M1 d1 mc1 ms1 As μ Q1) (hn : As.length = n) (hst : st0 = As.reverse ++ st) (hw : (st.map fun v => v.category).sum ≤ 8) (hR : d1 + 1 ≤ R.frames ∧ 64 * (d1 + 1) ≤ R.locals) (hcs : cl + mc1 ≤ R.cells ∧ sl + ms1 ≤ R.slots)
    (kk : ∀ r μ', Q1 r μ' → WA Γ M R mc ms (cl + mc1) (sl + ms1) Q (pc + 3) lv (r.toList ++ st) μ') : WA Γ M R mc ms cl sl Q pc lv st0 μ := by
  intro p e s m args below meth c Qf H locs ls F hS hP hl hE
  obtain ⟨hx, hb, hml, -, -, -, hown, hts, hK, -, -⟩ := id F
  refine x_go F hS hl hE (va_runS (Ts := gT) (own := M.1.cls) (As := As) (cc := M.2.1) (nL := M.2.2.1) ⟨hx, hb, hml, hown, hts⟩ hM ⟨callB_of n hts (good_ws hk) rfl rfl rfl (hts _ hk.2.1) (hts _ hl0.1) hk.2.2.1 (x_room hk hR), hts _ hl0.2⟩ ⟨xB_blind, fun U hU hW => ⟨rfl, xB_at F hS hP hU hW⟩⟩ rfl hn hl.1 hst (lv_room hw) d hcs) kk
/-- a static method of a nest mate -/
def LSN (own : String) (idx : Nat) (y : MethodName) : Prop := (∃ host, Cond.methodLinkNest own idx y host ∈ gT) ∧ Cond.static y ∈ gT
theorem x_callSN {idx d1 mc1 ms1 n : Nat} {As : List Value} (d : decode M.2.1 pc = .ok (.invokestatic idx, 3)) (hk : MK M1 n) (hl0 : LSN M.1.cls idx M1.1) (hM : XM Γ M1 d1 mc1 ms1 As μ Q1) (hn : As.length = n) (hst : st0 = As.reverse ++ st) (hw : (st.map fun v => v.category).sum ≤ 8) (hR : d1 + 1 ≤ R.frames ∧ 64 * (d1 + 1) ≤ R.locals) (hcs : cl + mc1 ≤ R.cells ∧ sl + ms1 ≤ R.slots)
    (kk : ∀ r μ', Q1 r μ' → WA Γ M R mc ms (cl + mc1) (sl + ms1) Q (pc + 3) lv (r.toList ++ st) μ') : WA Γ M R mc ms cl sl Q pc lv st0 μ := by
  intro p e s m args below meth c Qf H locs ls F hS hP hl hE
  obtain ⟨hx, hb, hml, -, -, -, hown, hts, hK, -, -⟩ := id F
  obtain ⟨⟨host, hlk⟩, hstt⟩ := hl0
  refine x_go F hS hl hE (va_runSN (Ts := gT) (own := M.1.cls) (host := host) (As := As) (cc := M.2.1) (nL := M.2.2.1) ⟨hx, hb, hml, hown, hts⟩ hM ⟨va_cnB n hts (good_ws hk) rfl rfl rfl (va_Nw.of rfl (hts _ hlk)) (hts _ hk.2.1) hk.2.2.1 (x_room hk hR), hts _ hstt, trivial⟩ ⟨xB_blind, fun U hU hW => ⟨rfl, xB_at F hS hP hU hW⟩⟩ rfl hn hl.1 hst (lv_room hw) d hcs) kk
theorem x_recv {s : State} {H : Heap} {q ci : Nat} (hK : va_K (gD Γ) vwCl (xtys Γ) s) (hP : XP Γ μ H) (hci : ci < 13) (hT : mT μ q = (1, ci)) : ∃ cell : Cell, H[q]? = some cell ∧ cell.vm.isStatics = false ∧ s.vm.findClass (xC ci) = some cell.cls := by
  obtain ⟨L, hPL, hD, hL⟩ := id hP
  have hq : q ∈ L := (hL q).mpr (by rw [hT]; exact fun h => by cases h)
  obtain ⟨z, hz⟩ := va_pl_get (X := []) (f := xcell (gC Γ) μ) hq
  rw [xcell_o hT] at hz
  exact va_recv hK hPL (x_cl hci) hz
/-- a method of the receiver's own class -/
def LV (own : String) (idx ci : Nat) (y : MethodName) : Prop := ci < 13 ∧ Cond.methodLink own idx y ∈ gT ∧ Cond.instanceMethod y ∈ gT ∧ Cond.selects (xC ci) y y ∈ gT
theorem x_callV {idx d1 mc1 ms1 n q ci : Nat} {As : List Value} (d : decode M.2.1 pc = .ok (.invokevirtual idx, 3)) (hk : MK M1 n) (hl0 : LV M.1.cls idx ci M1.1) (hT : mT μ q = (1, ci)) (hM : XM Γ M1 d1 mc1 ms1 (.ref q :: As) μ Q1) (hn : As.length = n) (hst : st0 = As.reverse ++ .ref q :: st) (hw : (st.map fun v => v.category).sum ≤ 8) (hR : d1 + 1 ≤ R.frames ∧ 64 * (d1 + 1) ≤ R.locals) (hcs : cl + mc1 ≤ R.cells ∧ sl + ms1 ≤ R.slots)
    (kk : ∀ r μ', Q1 r μ' → WA Γ M R mc ms (cl + mc1) (sl + ms1) Q (pc + 3) lv (r.toList ++ st) μ') : WA Γ M R mc ms cl sl Q pc lv st0 μ := by
  intro p e s m args below meth c Qf H locs ls F hS hP hl hE
  obtain ⟨hx, hb, hml, -, -, -, hown, hts, hK, -, -⟩ := id F
  obtain ⟨hci, hlk, hin, hsel⟩ := hl0
  refine x_go F hS hl hE (va_runV (Ts := gT) (own := M.1.cls) (C := xC ci) (As := As) (cc := M.2.1) (nL := M.2.2.1) ⟨hx, hb, hml, hown, hts⟩ hM ⟨callB_of n hts (good_ws hk) rfl rfl rfl (hts _ hk.2.1) (hts _ hlk) hk.2.2.1 (x_room hk hR), hts _ hin, hts _ hsel⟩ ⟨xB_blind, x_recv hK hP hci hT, fun U hU hW => ⟨rfl, xB_at F hS hP hU hW⟩⟩ rfl hn hl.1 hst (lv_room hw) d hcs) kk
/-- a method that is named in one class and chosen by the receiver's -/
def LU (own : String) (idx ci : Nat) (x y : MethodName) : Prop := ci < 13 ∧ Cond.methodLink own idx x ∈ gT ∧ Cond.sameMethod x.cls x.cls x.name x.desc ∈ gT ∧ Cond.instanceMethod x ∈ gT ∧ (∃ b k t, Cond.code x b k t ∈ gT) ∧ Cond.selects (xC ci) x y ∈ gT ∧ Cond.instanceMethod y ∈ gT ∧ (x.cls ≠ "java/lang/invoke/MethodHandle" ∧ x.cls ≠ "java/lang/invoke/VarHandle") ∧ x.desc = y.desc
theorem x_callU {idx d1 mc1 ms1 n q ci : Nat} {As : List Value} {x : MethodName} (d : decode M.2.1 pc = .ok (.invokevirtual idx, 3)) (hk : MK M1 n) (hl0 : LU M.1.cls idx ci x M1.1) (hT : mT μ q = (1, ci)) (hM : XM Γ M1 d1 mc1 ms1 (.ref q :: As) μ Q1) (hn : As.length = n) (hst : st0 = As.reverse ++ .ref q :: st) (hw : (st.map fun v => v.category).sum ≤ 8) (hR : d1 + 1 ≤ R.frames ∧ 64 * (d1 + 1) ≤ R.locals) (hcs : cl + mc1 ≤ R.cells ∧ sl + ms1 ≤ R.slots)
    (kk : ∀ r μ', Q1 r μ' → WA Γ M R mc ms (cl + mc1) (sl + ms1) Q (pc + 3) lv (r.toList ++ st) μ') : WA Γ M R mc ms cl sl Q pc lv st0 μ := by
  intro p e s m args below meth c Qf H locs ls F hS hP hl hE
  obtain ⟨hx, hb, hml, -, -, -, hown, hts, hK, -, -⟩ := id F
  obtain ⟨hci, hlk, hsm, hix, ⟨b0, k0, t0, hcx⟩, hsel, hiy, hmh, hde⟩ := hl0
  have hcode : Cond.code M1.1 M1.2.1 M1.2.2.1 M1.2.2.2 ∈ xws M1 := List.mem_cons_self
  have hR2 := x_room (mc1 := mc1) (ms1 := ms1) hk hR
  refine x_go F hS hl hE (va_runU (Ts := gT) (own := M.1.cls) (C := xC ci) (owner := x.cls) (x := x) (As := As) (n := n) (bytes := M1.2.1) (maxL := M1.2.2.1) (ret := M1.2.2.2) (cc := M.2.1) (nL := M.2.2.1) ⟨hx, hb, hml, hown, hts⟩ hM ⟨⟨rfl, rfl, hR2.1, hR2.2, pay_in hts (good_ws hk), hcode⟩, hts _ hk.1, hts _ hk.2.1, hmh, fun sig h => ?_, hts _ hlk, hts _ hsm, va_Decl.of (hts _ hix) (hts _ hcx), hts _ hsel, hts _ hiy⟩ ⟨xB_blind, x_recv hK hP hci hT, fun U hU hW => ⟨rfl, xB_at F hS hP hU hW⟩⟩ rfl hn hl.1 hst (lv_room hw) d hcs) kk
  have h2 := hk.2.2.1.2.2
  rw [← hde, h] at h2
  exact (Option.some.inj h2).symm
/-- a constructor -/
def LI (own : String) (idx : Nat) (y : MethodName) : Prop := Cond.methodLink own idx y ∈ gT ∧ y.name = "<init>" ∧ Cond.instanceMethod y ∈ gT
theorem x_callI {idx d1 mc1 ms1 n q : Nat} {As : List Value} (d : decode M.2.1 pc = .ok (.invokespecial idx, 3)) (hk : MK M1 n) (hrt : M1.2.2.2 = none) (hl0 : LI M.1.cls idx M1.1) (hM : XM Γ M1 d1 mc1 ms1 (.ref q :: As) μ Q1) (hn : As.length = n) (hst : st0 = As.reverse ++ .ref q :: st) (hw : (st.map fun v => v.category).sum ≤ 8) (hR : d1 + 1 ≤ R.frames ∧ 64 * (d1 + 1) ≤ R.locals) (hcs : cl + mc1 ≤ R.cells ∧ sl + ms1 ≤ R.slots)
    (kk : ∀ r μ', Q1 r μ' → WA Γ M R mc ms (cl + mc1) (sl + ms1) Q (pc + 3) lv (r.toList ++ st) μ') : WA Γ M R mc ms cl sl Q pc lv st0 μ := by
  intro p e s m args below meth c Qf H locs ls F hS hP hl hE
  obtain ⟨hx, hb, hml, -, -, -, hown, hts, hK, -, -⟩ := id F
  obtain ⟨hlk, hnm, hin⟩ := hl0
  refine x_go F hS hl hE (va_runI (Ts := gT) (own := M.1.cls) (As := As) (bytes := M1.2.1) (maxL := M1.2.2.1) (cc := M.2.1) (nL := M.2.2.1) ⟨hx, hb, hml, hown, hts⟩ hM ⟨callB_of n hts (good_ws hk) (by rw [xws, hrt]) rfl rfl (hts _ hk.2.1) (hts _ hlk) hk.2.2.1 (x_room hk hR), hnm, hts _ hin⟩ ⟨xB_blind, fun U hU hW => ⟨rfl, xB_at F hS hP hU hW⟩⟩ rfl hn hl.1 hst (lv_room hw) d hcs) kk
/-- a constructor of a nest mate -/
def LIN (own : String) (idx : Nat) (y : MethodName) : Prop := (∃ host, Cond.methodLinkNest own idx y host ∈ gT) ∧ y.name = "<init>" ∧ Cond.instanceMethod y ∈ gT
theorem x_callIN {idx d1 mc1 ms1 n q : Nat} {As : List Value} (d : decode M.2.1 pc = .ok (.invokespecial idx, 3)) (hk : MK M1 n) (hrt : M1.2.2.2 = none) (hl0 : LIN M.1.cls idx M1.1) (hM : XM Γ M1 d1 mc1 ms1 (.ref q :: As) μ Q1) (hn : As.length = n) (hst : st0 = As.reverse ++ .ref q :: st) (hw : (st.map fun v => v.category).sum ≤ 8) (hR : d1 + 1 ≤ R.frames ∧ 64 * (d1 + 1) ≤ R.locals) (hcs : cl + mc1 ≤ R.cells ∧ sl + ms1 ≤ R.slots)
    (kk : ∀ r μ', Q1 r μ' → WA Γ M R mc ms (cl + mc1) (sl + ms1) Q (pc + 3) lv (r.toList ++ st) μ') : WA Γ M R mc ms cl sl Q pc lv st0 μ := by
  intro p e s m args below meth c Qf H locs ls F hS hP hl hE
  obtain ⟨hx, hb, hml, -, -, -, hown, hts, hK, -, -⟩ := id F
  obtain ⟨⟨host, hlk⟩, hnm, hin⟩ := hl0
  refine x_go F hS hl hE (va_runIN (Ts := gT) (own := M.1.cls) (host := host) (As := As) (bytes := M1.2.1) (maxL := M1.2.2.1) (cc := M.2.1) (nL := M.2.2.1) ⟨hx, hb, hml, hown, hts⟩ hM ⟨va_cnB n hts (good_ws hk) (by rw [xws, hrt]) rfl rfl (va_Nw.of rfl (hts _ hlk)) (hts _ hk.2.1) hk.2.2.1 (x_room hk hR), hnm, hts _ hin⟩ ⟨xB_blind, fun U hU hW => ⟨rfl, xB_at F hS hP hU hW⟩⟩ rfl hn hl.1 hst (lv_room hw) d hcs) kk
/-- Object's constructor -/
theorem x_objInit {idx q : Nat} (d : decode M.2.1 pc = .ok (.invokespecial idx, 3)) (hlk : Cond.methodLink M.1.cls idx Lib.objectInit ∈ gT) (hin : Cond.instanceMethod Lib.objectInit ∈ gT) (hcd : Cond.code Lib.objectInit ⟨#[0xb1]⟩ 1 none ∈ gT) (hR : 1 ≤ R.frames ∧ 64 ≤ R.locals) (hw : (st.map fun v => v.category).sum ≤ 8) (kk : WA Γ M R mc ms cl sl Q (pc + 3) lv st μ) : WA Γ M R mc ms cl sl Q pc lv (.ref q :: st) μ := by
  intro p e s m args below meth c Qf H locs ls F hS hP hl hE
  obtain ⟨hx, hb, hml, -, -, -, hown, hts, hK, -, -⟩ := id F
  exact W.objInit hx hb hown (hts _ hlk) (hts _ hin) (hts _ hcd) rfl (by show ls.size = _; rw [hml]; exact hl.1) rfl d hR.1 (by have := lv_room (m := m) (pc := pc) (ls := ls) (rest := .ref q :: st) hw; omega) (kk p e s m args below meth c Qf H locs ls F hS hP hl hE)
/-- a method of the class above, called by super -/
def LSU (own : String) (idx : Nat) (y : MethodName) : Prop := Cond.methodLink own idx y ∈ gT ∧ Cond.sameMethod y.cls y.cls y.name y.desc ∈ gT ∧ Cond.superclass own y.cls ∈ gT ∧ Cond.instanceMethod y ∈ gT ∧ y.name ≠ "<init>"
theorem x_callSU {idx d1 mc1 ms1 n q ci : Nat} {As : List Value} (d : decode M.2.1 pc = .ok (.invokespecial idx, 3)) (hk : MK M1 n) (hl0 : LSU M.1.cls idx M1.1) (hci : ci < 13) (hT : mT μ q = (1, ci)) (hM : XM Γ M1 d1 mc1 ms1 (.ref q :: As) μ Q1) (hn : As.length = n) (hst : st0 = As.reverse ++ .ref q :: st) (hw : (st.map fun v => v.category).sum ≤ 8) (hR : d1 + 1 ≤ R.frames ∧ 64 * (d1 + 1) ≤ R.locals) (hcs : cl + mc1 ≤ R.cells ∧ sl + ms1 ≤ R.slots)
    (kk : ∀ r μ', Q1 r μ' → WA Γ M R mc ms (cl + mc1) (sl + ms1) Q (pc + 3) lv (r.toList ++ st) μ') : WA Γ M R mc ms cl sl Q pc lv st0 μ := by
  intro p e s m args below meth c Qf H locs ls F hS hP hl hE
  obtain ⟨hx, hb, hml, -, -, -, hown, hts, hK, -, -⟩ := id F
  obtain ⟨hlk, hsm, hsc, hin, hnm⟩ := hl0
  have hcode : Cond.code M1.1 M1.2.1 M1.2.2.1 M1.2.2.2 ∈ xws M1 := List.mem_cons_self
  have hR2 := x_room (mc1 := mc1) (ms1 := ms1) hk hR
  refine x_go F hS hl hE (va_runSU (Ts := gT) (own := M.1.cls) (C := xC ci) (As := As) (n := n) (bytes := M1.2.1) (maxL := M1.2.2.1) (ret := M1.2.2.2) (cc := M.2.1) (nL := M.2.2.1) (hK.1 ci _ (x_cl hci)).2 ⟨hx, hb, hml, hown, hts⟩ hM ⟨⟨rfl, rfl, hR2.1, hR2.2, pay_in hts (good_ws hk), hcode⟩, hts _ hlk, hts _ hsm, hts _ hsc, hts _ hin, hts _ hk.2.1, hts _ hk.1, hnm, fun sig h => ?_⟩ ⟨xB_blind, x_recv hK hP hci hT, fun U hU hW => ⟨rfl, xB_at F hS hP hU hW⟩⟩ rfl hn hl.1 hst (lv_room hw) d hcs) kk
  have h2 := hk.2.2.1.2.2
  rw [h] at h2
  exact (Option.some.inj h2).symm
end XCL
end
