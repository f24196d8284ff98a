section
-- ===== PART A: goes FIRST, ahead of the names: the tables' words, and 'selects' of the private methods out of them =====
/-- a private method of a class that the tables say can be made, by its rows of tables_1 -/
def lw_okq (q : MethodName × Nat) : Prop := (q.1.cls ≠ "java/lang/invoke/MethodHandle" ∧ q.1.cls ≠ "java/lang/invoke/VarHandle") ∧ Cond.instantiable q.1.cls q.2 ∈ tables_1 ∧ Cond.privateMethod q.1 ∈ tables_1 ∧ Cond.instanceMethod q.1 ∈ tables_1
theorem lw_p0 : lw_okq (⟨"GritWatch", "countOf", "(I)I"⟩, 16) := ⟨⟨by decide +kernel, by decide +kernel⟩, List.mem_of_getElem? (i := 29) (by decide +kernel), List.mem_of_getElem? (i := 188) (by decide +kernel), List.mem_of_getElem? (i := 189) (by decide +kernel)⟩
theorem lw_p1 : lw_okq (⟨"GritWatch", "saltInHoppers", "()I"⟩, 16) := ⟨⟨by decide +kernel, by decide +kernel⟩, List.mem_of_getElem? (i := 29) (by decide +kernel), List.mem_of_getElem? (i := 192) (by decide +kernel), List.mem_of_getElem? (i := 193) (by decide +kernel)⟩
theorem lw_p2 : lw_okq (⟨"GritWatch", "saltOnRoads", "()I"⟩, 16) := ⟨⟨by decide +kernel, by decide +kernel⟩, List.mem_of_getElem? (i := 29) (by decide +kernel), List.mem_of_getElem? (i := 196) (by decide +kernel), List.mem_of_getElem? (i := 197) (by decide +kernel)⟩
theorem lw_p3 : lw_okq (⟨"GritWatch", "saltInRiver", "()I"⟩, 16) := ⟨⟨by decide +kernel, by decide +kernel⟩, List.mem_of_getElem? (i := 29) (by decide +kernel), List.mem_of_getElem? (i := 200) (by decide +kernel), List.mem_of_getElem? (i := 201) (by decide +kernel)⟩
theorem lw_p4 : lw_okq (⟨"GritWatch", "saltOnFields", "()I"⟩, 16) := ⟨⟨by decide +kernel, by decide +kernel⟩, List.mem_of_getElem? (i := 29) (by decide +kernel), List.mem_of_getElem? (i := 204) (by decide +kernel), List.mem_of_getElem? (i := 205) (by decide +kernel)⟩
theorem lw_p5 : lw_okq (⟨"GritWatch", "waterRunOff", "()I"⟩, 16) := ⟨⟨by decide +kernel, by decide +kernel⟩, List.mem_of_getElem? (i := 29) (by decide +kernel), List.mem_of_getElem? (i := 208) (by decide +kernel), List.mem_of_getElem? (i := 209) (by decide +kernel)⟩
theorem lw_p6 : lw_okq (⟨"GritWatch", "deliveriesOnTheirWay", "()I"⟩, 16) := ⟨⟨by decide +kernel, by decide +kernel⟩, List.mem_of_getElem? (i := 29) (by decide +kernel), List.mem_of_getElem? (i := 212) (by decide +kernel), List.mem_of_getElem? (i := 213) (by decide +kernel)⟩
theorem lw_p7 : lw_okq (⟨"GritWatch", "slipperyNow", "()I"⟩, 16) := ⟨⟨by decide +kernel, by decide +kernel⟩, List.mem_of_getElem? (i := 29) (by decide +kernel), List.mem_of_getElem? (i := 216) (by decide +kernel), List.mem_of_getElem? (i := 217) (by decide +kernel)⟩
theorem lw_p8 : lw_okq (⟨"GritWatch", "digestOfRoad", "(LGritWatch$Road;J)J"⟩, 16) := ⟨⟨by decide +kernel, by decide +kernel⟩, List.mem_of_getElem? (i := 29) (by decide +kernel), List.mem_of_getElem? (i := 224) (by decide +kernel), List.mem_of_getElem? (i := 225) (by decide +kernel)⟩
theorem lw_p9 : lw_okq (⟨"GritWatch", "firstSlippery", "(LGritWatch$Road;II)I"⟩, 16) := ⟨⟨by decide +kernel, by decide +kernel⟩, List.mem_of_getElem? (i := 29) (by decide +kernel), List.mem_of_getElem? (i := 236) (by decide +kernel), List.mem_of_getElem? (i := 237) (by decide +kernel)⟩
theorem lw_p10 : lw_okq (⟨"GritWatch", "leastSalt", "(LGritWatch$Road;I)I"⟩, 16) := ⟨⟨by decide +kernel, by decide +kernel⟩, List.mem_of_getElem? (i := 29) (by decide +kernel), List.mem_of_getElem? (i := 279) (by decide +kernel), List.mem_of_getElem? (i := 280) (by decide +kernel)⟩
theorem lw_p11 : lw_okq (⟨"GritWatch", "answerTo", "(LGritWatch$Road;I)I"⟩, 16) := ⟨⟨by decide +kernel, by decide +kernel⟩, List.mem_of_getElem? (i := 29) (by decide +kernel), List.mem_of_getElem? (i := 283) (by decide +kernel), List.mem_of_getElem? (i := 284) (by decide +kernel)⟩
theorem lw_p12 : lw_okq (⟨"GritWatch", "lastWarning", "(LGritWatch$Road;I)LGritWatch$Forecast;"⟩, 16) := ⟨⟨by decide +kernel, by decide +kernel⟩, List.mem_of_getElem? (i := 29) (by decide +kernel), List.mem_of_getElem? (i := 293) (by decide +kernel), List.mem_of_getElem? (i := 294) (by decide +kernel)⟩
theorem lw_p13 : lw_okq (⟨"GritWatch", "shortestWay", "(II)I"⟩, 16) := ⟨⟨by decide +kernel, by decide +kernel⟩, List.mem_of_getElem? (i := 29) (by decide +kernel), List.mem_of_getElem? (i := 320) (by decide +kernel), List.mem_of_getElem? (i := 321) (by decide +kernel)⟩
theorem lw_p14 : lw_okq (⟨"GritWatch", "lowerWay", "(III)V"⟩, 16) := ⟨⟨by decide +kernel, by decide +kernel⟩, List.mem_of_getElem? (i := 29) (by decide +kernel), List.mem_of_getElem? (i := 331) (by decide +kernel), List.mem_of_getElem? (i := 332) (by decide +kernel)⟩
theorem lw_p15 : lw_okq (⟨"GritWatch$Rows", "bestWhole", "(I)I"⟩, 2) := ⟨⟨by decide +kernel, by decide +kernel⟩, List.mem_of_getElem? (i := 115) (by decide +kernel), List.mem_of_getElem? (i := 345) (by decide +kernel), List.mem_of_getElem? (i := 346) (by decide +kernel)⟩
def lw_privs_1 : List (MethodName × Nat) := [(⟨"GritWatch", "countOf", "(I)I"⟩, 16), (⟨"GritWatch", "saltInHoppers", "()I"⟩, 16), (⟨"GritWatch", "saltOnRoads", "()I"⟩, 16), (⟨"GritWatch", "saltInRiver", "()I"⟩, 16), (⟨"GritWatch", "saltOnFields", "()I"⟩, 16), (⟨"GritWatch", "waterRunOff", "()I"⟩, 16), (⟨"GritWatch", "deliveriesOnTheirWay", "()I"⟩, 16), (⟨"GritWatch", "slipperyNow", "()I"⟩, 16), (⟨"GritWatch", "digestOfRoad", "(LGritWatch$Road;J)J"⟩, 16), (⟨"GritWatch", "firstSlippery", "(LGritWatch$Road;II)I"⟩, 16), (⟨"GritWatch", "leastSalt", "(LGritWatch$Road;I)I"⟩, 16), (⟨"GritWatch", "answerTo", "(LGritWatch$Road;I)I"⟩, 16), (⟨"GritWatch", "lastWarning", "(LGritWatch$Road;I)LGritWatch$Forecast;"⟩, 16), (⟨"GritWatch", "shortestWay", "(II)I"⟩, 16), (⟨"GritWatch", "lowerWay", "(III)V"⟩, 16), (⟨"GritWatch$Rows", "bestWhole", "(I)I"⟩, 2)]
theorem lw_r1 : ∀ q ∈ lw_privs_1, lw_okq q := List.forall_mem_cons.mpr ⟨lw_p0, List.forall_mem_cons.mpr ⟨lw_p1, List.forall_mem_cons.mpr ⟨lw_p2, List.forall_mem_cons.mpr ⟨lw_p3, List.forall_mem_cons.mpr ⟨lw_p4, List.forall_mem_cons.mpr ⟨lw_p5, List.forall_mem_cons.mpr ⟨lw_p6, List.forall_mem_cons.mpr ⟨lw_p7, List.forall_mem_cons.mpr ⟨lw_p8, List.forall_mem_cons.mpr ⟨lw_p9, List.forall_mem_cons.mpr ⟨lw_p10, List.forall_mem_cons.mpr ⟨lw_p11, List.forall_mem_cons.mpr ⟨lw_p12, List.forall_mem_cons.mpr ⟨lw_p13, List.forall_mem_cons.mpr ⟨lw_p14, List.forall_mem_cons.mpr ⟨lw_p15, fun _ h => absurd h List.not_mem_nil⟩⟩⟩⟩⟩⟩⟩⟩⟩⟩⟩⟩⟩⟩⟩⟩
theorem lw_p16 : lw_okq (⟨"GritWatch$Rows", "lengthen", "([LGritWatch$Road;I)V"⟩, 2) := ⟨⟨by decide +kernel, by decide +kernel⟩, List.mem_of_getElem? (i := 115) (by decide +kernel), List.mem_of_getElem? (i := 351) (by decide +kernel), List.mem_of_getElem? (i := 352) (by decide +kernel)⟩
theorem lw_p17 : lw_okq (⟨"GritWatch$Rows", "goAlong", "(LGritWatch$Road;III)V"⟩, 2) := ⟨⟨by decide +kernel, by decide +kernel⟩, List.mem_of_getElem? (i := 115) (by decide +kernel), List.mem_of_getElem? (i := 355) (by decide +kernel), List.mem_of_getElem? (i := 356) (by decide +kernel)⟩
theorem lw_p18 : lw_okq (⟨"java/lang/Throwable", "fillInStackTrace", "(I)Ljava/lang/Throwable;"⟩, 6) := ⟨⟨by decide +kernel, by decide +kernel⟩, List.mem_of_getElem? (i := 411) (by decide +kernel), List.mem_of_getElem? (i := 409) (by decide +kernel), List.mem_of_getElem? (i := 410) (by decide +kernel)⟩
theorem lw_p19 : lw_okq (⟨"GritWatch", "roadsForetold", "(LGritWatch$Forecast;)I"⟩, 16) := ⟨⟨by decide +kernel, by decide +kernel⟩, List.mem_of_getElem? (i := 29) (by decide +kernel), List.mem_of_getElem? (i := 590) (by decide +kernel), List.mem_of_getElem? (i := 591) (by decide +kernel)⟩
theorem lw_p20 : lw_okq (⟨"GritWatch", "passQuarter", "()V"⟩, 16) := ⟨⟨by decide +kernel, by decide +kernel⟩, List.mem_of_getElem? (i := 29) (by decide +kernel), List.mem_of_getElem? (i := 603) (by decide +kernel), List.mem_of_getElem? (i := 604) (by decide +kernel)⟩
theorem lw_p21 : lw_okq (⟨"GritWatch", "work", "(LGritWatch$Lorry;)V"⟩, 16) := ⟨⟨by decide +kernel, by decide +kernel⟩, List.mem_of_getElem? (i := 29) (by decide +kernel), List.mem_of_getElem? (i := 612) (by decide +kernel), List.mem_of_getElem? (i := 613) (by decide +kernel)⟩
theorem lw_p22 : lw_okq (⟨"GritWatch", "roadAt", "(I)LGritWatch$Road;"⟩, 16) := ⟨⟨by decide +kernel, by decide +kernel⟩, List.mem_of_getElem? (i := 29) (by decide +kernel), List.mem_of_getElem? (i := 617) (by decide +kernel), List.mem_of_getElem? (i := 618) (by decide +kernel)⟩
theorem lw_p23 : lw_okq (⟨"GritWatch", "treat", "(LGritWatch$Road;LGritWatch$Lorry;)V"⟩, 16) := ⟨⟨by decide +kernel, by decide +kernel⟩, List.mem_of_getElem? (i := 29) (by decide +kernel), List.mem_of_getElem? (i := 639) (by decide +kernel), List.mem_of_getElem? (i := 640) (by decide +kernel)⟩
theorem lw_p24 : lw_okq (⟨"GritWatch", "takeDeliveries", "()V"⟩, 16) := ⟨⟨by decide +kernel, by decide +kernel⟩, List.mem_of_getElem? (i := 29) (by decide +kernel), List.mem_of_getElem? (i := 648) (by decide +kernel), List.mem_of_getElem? (i := 649) (by decide +kernel)⟩
theorem lw_p25 : lw_okq (⟨"GritWatch", "lorryAt", "(I)LGritWatch$Lorry;"⟩, 16) := ⟨⟨by decide +kernel, by decide +kernel⟩, List.mem_of_getElem? (i := 29) (by decide +kernel), List.mem_of_getElem? (i := 712) (by decide +kernel), List.mem_of_getElem? (i := 713) (by decide +kernel)⟩
theorem lw_p26 : lw_okq (⟨"GritWatch", "keepDelivery", "(LGritWatch$Delivery;)V"⟩, 16) := ⟨⟨by decide +kernel, by decide +kernel⟩, List.mem_of_getElem? (i := 29) (by decide +kernel), List.mem_of_getElem? (i := 770) (by decide +kernel), List.mem_of_getElem? (i := 771) (by decide +kernel)⟩
theorem lw_p27 : lw_okq (⟨"GritWatchModel", "no", "(I)I"⟩, 16) := ⟨⟨by decide +kernel, by decide +kernel⟩, List.mem_of_getElem? (i := 836) (by decide +kernel), List.mem_of_getElem? (i := 961) (by decide +kernel), List.mem_of_getElem? (i := 962) (by decide +kernel)⟩
theorem lw_p28 : lw_okq (⟨"java/util/ArrayList", "add", "(Ljava/lang/Object;[Ljava/lang/Object;I)V"⟩, 3) := ⟨⟨by decide +kernel, by decide +kernel⟩, List.mem_of_getElem? (i := 842) (by decide +kernel), List.mem_of_getElem? (i := 1062) (by decide +kernel), List.mem_of_getElem? (i := 1063) (by decide +kernel)⟩
theorem lw_p29 : lw_okq (⟨"java/util/ArrayList", "grow", "()[Ljava/lang/Object;"⟩, 3) := ⟨⟨by decide +kernel, by decide +kernel⟩, List.mem_of_getElem? (i := 842) (by decide +kernel), List.mem_of_getElem? (i := 1066) (by decide +kernel), List.mem_of_getElem? (i := 1067) (by decide +kernel)⟩
theorem lw_p30 : lw_okq (⟨"java/util/ArrayList", "grow", "(I)[Ljava/lang/Object;"⟩, 3) := ⟨⟨by decide +kernel, by decide +kernel⟩, List.mem_of_getElem? (i := 842) (by decide +kernel), List.mem_of_getElem? (i := 1070) (by decide +kernel), List.mem_of_getElem? (i := 1071) (by decide +kernel)⟩
theorem lw_p31 : lw_okq (⟨"GritWatchModel", "inHoppers", "()I"⟩, 16) := ⟨⟨by decide +kernel, by decide +kernel⟩, List.mem_of_getElem? (i := 836) (by decide +kernel), List.mem_of_getElem? (i := 1129) (by decide +kernel), List.mem_of_getElem? (i := 1130) (by decide +kernel)⟩
def lw_privs_2 : List (MethodName × Nat) := [(⟨"GritWatch$Rows", "lengthen", "([LGritWatch$Road;I)V"⟩, 2), (⟨"GritWatch$Rows", "goAlong", "(LGritWatch$Road;III)V"⟩, 2), (⟨"java/lang/Throwable", "fillInStackTrace", "(I)Ljava/lang/Throwable;"⟩, 6), (⟨"GritWatch", "roadsForetold", "(LGritWatch$Forecast;)I"⟩, 16), (⟨"GritWatch", "passQuarter", "()V"⟩, 16), (⟨"GritWatch", "work", "(LGritWatch$Lorry;)V"⟩, 16), (⟨"GritWatch", "roadAt", "(I)LGritWatch$Road;"⟩, 16), (⟨"GritWatch", "treat", "(LGritWatch$Road;LGritWatch$Lorry;)V"⟩, 16), (⟨"GritWatch", "takeDeliveries", "()V"⟩, 16), (⟨"GritWatch", "lorryAt", "(I)LGritWatch$Lorry;"⟩, 16), (⟨"GritWatch", "keepDelivery", "(LGritWatch$Delivery;)V"⟩, 16), (⟨"GritWatchModel", "no", "(I)I"⟩, 16), (⟨"java/util/ArrayList", "add", "(Ljava/lang/Object;[Ljava/lang/Object;I)V"⟩, 3), (⟨"java/util/ArrayList", "grow", "()[Ljava/lang/Object;"⟩, 3), (⟨"java/util/ArrayList", "grow", "(I)[Ljava/lang/Object;"⟩, 3), (⟨"GritWatchModel", "inHoppers", "()I"⟩, 16)]
theorem lw_r2 : ∀ q ∈ lw_privs_2, lw_okq q := List.forall_mem_cons.mpr ⟨lw_p16, List.forall_mem_cons.mpr ⟨lw_p17, List.forall_mem_cons.mpr ⟨lw_p18, List.forall_mem_cons.mpr ⟨lw_p19, List.forall_mem_cons.mpr ⟨lw_p20, List.forall_mem_cons.mpr ⟨lw_p21, List.forall_mem_cons.mpr ⟨lw_p22, List.forall_mem_cons.mpr ⟨lw_p23, List.forall_mem_cons.mpr ⟨lw_p24, List.forall_mem_cons.mpr ⟨lw_p25, List.forall_mem_cons.mpr ⟨lw_p26, List.forall_mem_cons.mpr ⟨lw_p27, List.forall_mem_cons.mpr ⟨lw_p28, List.forall_mem_cons.mpr ⟨lw_p29, List.forall_mem_cons.mpr ⟨lw_p30, List.forall_mem_cons.mpr ⟨lw_p31, fun _ h => absurd h List.not_mem_nil⟩⟩⟩⟩⟩⟩⟩⟩⟩⟩⟩⟩⟩⟩⟩⟩
theorem lw_p32 : lw_okq (⟨"GritWatchModel", "quarter", "()I"⟩, 16) := ⟨⟨by decide +kernel, by decide +kernel⟩, List.mem_of_getElem? (i := 836) (by decide +kernel), List.mem_of_getElem? (i := 1165) (by decide +kernel), List.mem_of_getElem? (i := 1166) (by decide +kernel)⟩
theorem lw_p33 : lw_okq (⟨"GritWatchModel", "work", "(LGritWatchModel$Lorry;)V"⟩, 16) := ⟨⟨by decide +kernel, by decide +kernel⟩, List.mem_of_getElem? (i := 836) (by decide +kernel), List.mem_of_getElem? (i := 1180) (by decide +kernel), List.mem_of_getElem? (i := 1181) (by decide +kernel)⟩
theorem lw_p34 : lw_okq (⟨"GritWatchModel", "isLorry", "(I)Z"⟩, 16) := ⟨⟨by decide +kernel, by decide +kernel⟩, List.mem_of_getElem? (i := 836) (by decide +kernel), List.mem_of_getElem? (i := 1248) (by decide +kernel), List.mem_of_getElem? (i := 1249) (by decide +kernel)⟩
theorem lw_p35 : lw_okq (⟨"GritWatchModel", "isRoad", "(I)Z"⟩, 16) := ⟨⟨by decide +kernel, by decide +kernel⟩, List.mem_of_getElem? (i := 836) (by decide +kernel), List.mem_of_getElem? (i := 1256) (by decide +kernel), List.mem_of_getElem? (i := 1257) (by decide +kernel)⟩
theorem lw_p36 : lw_okq (⟨"GritWatchModel", "claimNow", "(LGritWatchModel$Road;I)I"⟩, 16) := ⟨⟨by decide +kernel, by decide +kernel⟩, List.mem_of_getElem? (i := 836) (by decide +kernel), List.mem_of_getElem? (i := 1276) (by decide +kernel), List.mem_of_getElem? (i := 1277) (by decide +kernel)⟩
theorem lw_p37 : lw_okq (⟨"GritWatchModel", "manyNow", "(I)I"⟩, 16) := ⟨⟨by decide +kernel, by decide +kernel⟩, List.mem_of_getElem? (i := 836) (by decide +kernel), List.mem_of_getElem? (i := 1301) (by decide +kernel), List.mem_of_getElem? (i := 1302) (by decide +kernel)⟩
theorem lw_p38 : lw_okq (⟨"GritWatchModel", "wayNow", "(II)I"⟩, 16) := ⟨⟨by decide +kernel, by decide +kernel⟩, List.mem_of_getElem? (i := 836) (by decide +kernel), List.mem_of_getElem? (i := 1309) (by decide +kernel), List.mem_of_getElem? (i := 1310) (by decide +kernel)⟩
theorem lw_p39 : lw_okq (⟨"GritWatchModel", "slipperyNow", "(LGritWatchModel$Road;LGritWatchModel$Road;II)I"⟩, 16) := ⟨⟨by decide +kernel, by decide +kernel⟩, List.mem_of_getElem? (i := 836) (by decide +kernel), List.mem_of_getElem? (i := 1336) (by decide +kernel), List.mem_of_getElem? (i := 1337) (by decide +kernel)⟩
theorem lw_p40 : lw_okq (⟨"GritWatchModel", "saltNow", "(LGritWatchModel$Road;I)I"⟩, 16) := ⟨⟨by decide +kernel, by decide +kernel⟩, List.mem_of_getElem? (i := 836) (by decide +kernel), List.mem_of_getElem? (i := 1348) (by decide +kernel), List.mem_of_getElem? (i := 1349) (by decide +kernel)⟩
theorem lw_p41 : lw_okq (⟨"GritWatchModel", "bestNow", "(I)I"⟩, 16) := ⟨⟨by decide +kernel, by decide +kernel⟩, List.mem_of_getElem? (i := 836) (by decide +kernel), List.mem_of_getElem? (i := 1356) (by decide +kernel), List.mem_of_getElem? (i := 1357) (by decide +kernel)⟩
def lw_privs_3 : List (MethodName × Nat) := [(⟨"GritWatchModel", "quarter", "()I"⟩, 16), (⟨"GritWatchModel", "work", "(LGritWatchModel$Lorry;)V"⟩, 16), (⟨"GritWatchModel", "isLorry", "(I)Z"⟩, 16), (⟨"GritWatchModel", "isRoad", "(I)Z"⟩, 16), (⟨"GritWatchModel", "claimNow", "(LGritWatchModel$Road;I)I"⟩, 16), (⟨"GritWatchModel", "manyNow", "(I)I"⟩, 16), (⟨"GritWatchModel", "wayNow", "(II)I"⟩, 16), (⟨"GritWatchModel", "slipperyNow", "(LGritWatchModel$Road;LGritWatchModel$Road;II)I"⟩, 16), (⟨"GritWatchModel", "saltNow", "(LGritWatchModel$Road;I)I"⟩, 16), (⟨"GritWatchModel", "bestNow", "(I)I"⟩, 16)]
theorem lw_r3 : ∀ q ∈ lw_privs_3, lw_okq q := List.forall_mem_cons.mpr ⟨lw_p32, List.forall_mem_cons.mpr ⟨lw_p33, List.forall_mem_cons.mpr ⟨lw_p34, List.forall_mem_cons.mpr ⟨lw_p35, List.forall_mem_cons.mpr ⟨lw_p36, List.forall_mem_cons.mpr ⟨lw_p37, List.forall_mem_cons.mpr ⟨lw_p38, List.forall_mem_cons.mpr ⟨lw_p39, List.forall_mem_cons.mpr ⟨lw_p40, List.forall_mem_cons.mpr ⟨lw_p41, fun _ h => absurd h List.not_mem_nil⟩⟩⟩⟩⟩⟩⟩⟩⟩⟩
def lw_privs : List (MethodName × Nat) := lw_privs_1 ++ (lw_privs_2 ++ (lw_privs_3))
def lw_tbl : List Cond := k2_sels lw_privs ++ tables_1
theorem lw_privs_ok : ∀ q ∈ lw_privs, lw_okq q := by
  show ∀ q ∈ lw_privs_1 ++ (lw_privs_2 ++ (lw_privs_3)), lw_okq q
  exact List.forall_mem_append.mpr ⟨lw_r1, List.forall_mem_append.mpr ⟨lw_r2, lw_r3⟩⟩
/-- the streams that the claim lets the run draw from -/
abbrev lw_cs : List Choice := [Jvm.Choice.named "NaN.bits"]
theorem lw_bits : nanBits ∈ lw_cs := by first | decide | exact List.mem_cons_self | simp [lw_cs, nanBits]
end
section
/-! names, fields, methods, words: by program (wip/tools/gennames.py) out of what TURN printed -/
def R_Del : String := "GritWatch$Delivery"
def T_Del : u_T := fun k => match k with
  | 0 => ("GritWatch$Delivery", "amount", "I", true)
  | _ => ("GritWatch$Delivery", "quarter", "I", true)
def ty_Del : Nat → FieldType := fun k => match k with
  | 0 => .int
  | _ => .int
def R_Fc : String := "GritWatch$Forecast"
def T_Fc : u_T := fun k => match k with
  | 0 => ("GritWatch$Forecast", "toldAt", "I", true)
  | 1 => ("GritWatch$Forecast", "quarter", "I", true)
  | 2 => ("GritWatch$Forecast", "salt", "I", true)
  | 3 => ("GritWatch$Forecast", "first", "I", false)
  | 4 => ("GritWatch$Forecast", "second", "I", false)
  | 5 => ("GritWatch$Forecast", "third", "I", false)
  | _ => ("GritWatch$Forecast", "isClear", "Z", false)
def ty_Fc : Nat → FieldType := fun k => match k with
  | 0 => .int
  | 1 => .int
  | 2 => .int
  | 3 => .int
  | 4 => .int
  | 5 => .int
  | _ => .boolean
def R_Lor : String := "GritWatch$Lorry"
def T_Lor : u_T := fun k => match k with
  | 0 => ("GritWatch$Lorry", "hasPlough", "Z", true)
  | 1 => ("GritWatch$Lorry", "orders", "[I", true)
  | 2 => ("GritWatch$Lorry", "orderCount", "I", false)
  | 3 => ("GritWatch$Lorry", "node", "I", false)
  | 4 => ("GritWatch$Lorry", "ahead", "I", false)
  | 5 => ("GritWatch$Lorry", "done", "I", false)
  | 6 => ("GritWatch$Lorry", "hopper", "I", false)
  | 7 => ("GritWatch$Lorry", "rate", "I", false)
  | 8 => ("GritWatch$Lorry", "hours", "I", false)
  | _ => ("GritWatch$Lorry", "spread", "I", false)
def ty_Lor : Nat → FieldType := fun k => match k with
  | 0 => .boolean
  | 1 => .array .int
  | 2 => .int
  | 3 => .int
  | 4 => .int
  | 5 => .int
  | 6 => .int
  | 7 => .int
  | 8 => .int
  | _ => .int
def R_Road : String := "GritWatch$Road"
def T_Road : u_T := fun k => match k with
  | 0 => ("GritWatch$Road", "one", "I", true)
  | 1 => ("GritWatch$Road", "other", "I", true)
  | 2 => ("GritWatch$Road", "length", "I", true)
  | 3 => ("GritWatch$Road", "rank", "I", true)
  | 4 => ("GritWatch$Road", "height", "I", true)
  | 5 => ("GritWatch$Road", "shade", "I", true)
  | 6 => ("GritWatch$Road", "isBridge", "Z", true)
  | 7 => ("GritWatch$Road", "surface", "LGritWatch$Surface;", true)
  | 8 => ("GritWatch$Road", "slippery", "[Z", true)
  | 9 => ("GritWatch$Road", "treated", "[Z", true)
  | 10 => ("GritWatch$Road", "slipperyTimes", "I", false)
  | _ => ("GritWatch$Road", "lastTreated", "I", false)
def ty_Road : Nat → FieldType := fun k => match k with
  | 0 => .int
  | 1 => .int
  | 2 => .int
  | 3 => .int
  | 4 => .int
  | 5 => .int
  | 6 => .boolean
  | 7 => .object "GritWatch$Surface"
  | 8 => .array .boolean
  | 9 => .array .boolean
  | 10 => .int
  | _ => .int
def R_Rows : String := "GritWatch$Rows"
def T_Rows : u_T := fun k => match k with
  | 0 => ("GritWatch$Rows", "kept", "[I", false)
  | _ => ("GritWatch$Rows", "longer", "[I", false)
def ty_Rows : Nat → FieldType := fun k => match k with
  | 0 => .array .int
  | _ => .array .int
def R_Surf : String := "GritWatch$Surface"
def T_Surf : u_T := fun k => match k with
  | 0 => ("GritWatch$Surface", "warmth", "I", false)
  | 1 => ("GritWatch$Surface", "water", "I", false)
  | 2 => ("GritWatch$Surface", "ice", "I", false)
  | 3 => ("GritWatch$Surface", "snow", "I", false)
  | 4 => ("GritWatch$Surface", "salt", "I", false)
  | 5 => ("GritWatch$Surface", "saltToRiver", "I", false)
  | 6 => ("GritWatch$Surface", "saltToFields", "I", false)
  | _ => ("GritWatch$Surface", "waterRunOff", "I", false)
def ty_Surf : Nat → FieldType := fun k => match k with
  | 0 => .int
  | 1 => .int
  | 2 => .int
  | 3 => .int
  | 4 => .int
  | 5 => .int
  | 6 => .int
  | _ => .int
def R_Wea : String := "GritWatch$Weather"
def T_Wea : u_T := fun k => match k with
  | 0 => ("GritWatch$Weather", "air", "I", false)
  | 1 => ("GritWatch$Weather", "isClear", "Z", false)
  | 2 => ("GritWatch$Weather", "rain", "I", false)
  | 3 => ("GritWatch$Weather", "flakes", "I", false)
  | _ => ("GritWatch$Weather", "wind", "I", false)
def ty_Wea : Nat → FieldType := fun k => match k with
  | 0 => .int
  | 1 => .boolean
  | 2 => .int
  | 3 => .int
  | _ => .int
def R_G : String := "GritWatch"
def T_G : u_T := fun k => match k with
  | 0 => ("GritWatch", "roads", "[LGritWatch$Road;", true)
  | 1 => ("GritWatch", "lorries", "[LGritWatch$Lorry;", true)
  | 2 => ("GritWatch", "forecasts", "[LGritWatch$Forecast;", true)
  | 3 => ("GritWatch", "deliveries", "[LGritWatch$Delivery;", true)
  | 4 => ("GritWatch", "weather", "LGritWatch$Weather;", true)
  | 5 => ("GritWatch", "trial", "LGritWatch$Surface;", true)
  | 6 => ("GritWatch", "ways", "[I", true)
  | 7 => ("GritWatch", "rows", "LGritWatch$Rows;", true)
  | 8 => ("GritWatch", "roadCount", "I", false)
  | 9 => ("GritWatch", "lorryCount", "I", false)
  | 10 => ("GritWatch", "forecastCount", "I", false)
  | 11 => ("GritWatch", "now", "I", false)
  | 12 => ("GritWatch", "barn", "I", false)
  | 13 => ("GritWatch", "delivered", "I", false)
  | 14 => ("GritWatch", "returned", "I", false)
  | _ => ("GritWatch", "ploughed", "I", false)
def ty_G : Nat → FieldType := fun k => match k with
  | 0 => .array (.object "GritWatch$Road")
  | 1 => .array (.object "GritWatch$Lorry")
  | 2 => .array (.object "GritWatch$Forecast")
  | 3 => .array (.object "GritWatch$Delivery")
  | 4 => .object "GritWatch$Weather"
  | 5 => .object "GritWatch$Surface"
  | 6 => .array .int
  | 7 => .object "GritWatch$Rows"
  | 8 => .int
  | 9 => .int
  | 10 => .int
  | 11 => .int
  | 12 => .int
  | 13 => .int
  | 14 => .int
  | _ => .int
def R_MLor : String := "GritWatchModel$Lorry"
def T_MLor : u_T := fun k => match k with
  | 0 => ("GritWatchModel$Lorry", "hasPlough", "Z", true)
  | 1 => ("GritWatchModel$Lorry", "node", "I", false)
  | 2 => ("GritWatchModel$Lorry", "road", "I", false)
  | 3 => ("GritWatchModel$Lorry", "done", "I", false)
  | 4 => ("GritWatchModel$Lorry", "hopper", "I", false)
  | 5 => ("GritWatchModel$Lorry", "rate", "I", false)
  | 6 => ("GritWatchModel$Lorry", "hours", "I", false)
  | 7 => ("GritWatchModel$Lorry", "spread", "I", false)
  | 8 => ("GritWatchModel$Lorry", "orderCount", "I", false)
  | _ => ("GritWatchModel$Lorry", "orders", "[I", true)
def ty_MLor : Nat → FieldType := fun k => match k with
  | 0 => .boolean
  | 1 => .int
  | 2 => .int
  | 3 => .int
  | 4 => .int
  | 5 => .int
  | 6 => .int
  | 7 => .int
  | 8 => .int
  | _ => .array .int
def R_MRoad : String := "GritWatchModel$Road"
def T_MRoad : u_T := fun k => match k with
  | 0 => ("GritWatchModel$Road", "one", "I", true)
  | 1 => ("GritWatchModel$Road", "other", "I", true)
  | 2 => ("GritWatchModel$Road", "length", "I", true)
  | 3 => ("GritWatchModel$Road", "rank", "I", true)
  | 4 => ("GritWatchModel$Road", "height", "I", true)
  | 5 => ("GritWatchModel$Road", "shade", "I", true)
  | 6 => ("GritWatchModel$Road", "isBridge", "Z", true)
  | 7 => ("GritWatchModel$Road", "warmth", "I", false)
  | 8 => ("GritWatchModel$Road", "water", "I", false)
  | 9 => ("GritWatchModel$Road", "ice", "I", false)
  | 10 => ("GritWatchModel$Road", "snow", "I", false)
  | 11 => ("GritWatchModel$Road", "salt", "I", false)
  | 12 => ("GritWatchModel$Road", "slippery", "I", false)
  | 13 => ("GritWatchModel$Road", "treated", "I", false)
  | 14 => ("GritWatchModel$Road", "toRiver", "I", false)
  | 15 => ("GritWatchModel$Road", "toFields", "I", false)
  | 16 => ("GritWatchModel$Road", "ranOff", "I", false)
  | 17 => ("GritWatchModel$Road", "wasSlippery", "[Z", true)
  | _ => ("GritWatchModel$Road", "wasTreated", "[Z", true)
def ty_MRoad : Nat → FieldType := fun k => match k with
  | 0 => .int
  | 1 => .int
  | 2 => .int
  | 3 => .int
  | 4 => .int
  | 5 => .int
  | 6 => .boolean
  | 7 => .int
  | 8 => .int
  | 9 => .int
  | 10 => .int
  | 11 => .int
  | 12 => .int
  | 13 => .int
  | 14 => .int
  | 15 => .int
  | 16 => .int
  | 17 => .array .boolean
  | _ => .array .boolean
def R_MWea : String := "GritWatchModel$Weather"
def T_MWea : u_T := fun k => match k with
  | 0 => ("GritWatchModel$Weather", "air", "I", false)
  | 1 => ("GritWatchModel$Weather", "rain", "I", false)
  | 2 => ("GritWatchModel$Weather", "flakes", "I", false)
  | 3 => ("GritWatchModel$Weather", "wind", "I", false)
  | _ => ("GritWatchModel$Weather", "isClear", "Z", false)
def ty_MWea : Nat → FieldType := fun k => match k with
  | 0 => .int
  | 1 => .int
  | 2 => .int
  | 3 => .int
  | _ => .boolean
def R_M : String := "GritWatchModel"
def T_M : u_T := fun k => match k with
  | 0 => ("GritWatchModel", "thrown", "I", false)
  | 1 => ("GritWatchModel", "roads", "Ljava/util/List;", true)
  | 2 => ("GritWatchModel", "lorries", "Ljava/util/List;", true)
  | 3 => ("GritWatchModel", "forecasts", "[[I", true)
  | 4 => ("GritWatchModel", "deliveries", "[[I", true)
  | 5 => ("GritWatchModel", "weather", "LGritWatchModel$Weather;", true)
  | 6 => ("GritWatchModel", "forecastCount", "I", false)
  | 7 => ("GritWatchModel", "deliveryCount", "I", false)
  | 8 => ("GritWatchModel", "now", "I", false)
  | 9 => ("GritWatchModel", "barn", "I", false)
  | 10 => ("GritWatchModel", "river", "I", false)
  | 11 => ("GritWatchModel", "fields", "I", false)
  | 12 => ("GritWatchModel", "returned", "I", false)
  | 13 => ("GritWatchModel", "ranOff", "I", false)
  | 14 => ("GritWatchModel", "ploughed", "I", false)
  | _ => ("GritWatchModel", "delivered", "I", false)
def ty_M : Nat → FieldType := fun k => match k with
  | 0 => .int
  | 1 => .object "java/util/List"
  | 2 => .object "java/util/List"
  | 3 => .array (.array .int)
  | 4 => .array (.array .int)
  | 5 => .object "GritWatchModel$Weather"
  | 6 => .int
  | 7 => .int
  | 8 => .int
  | 9 => .int
  | 10 => .int
  | 11 => .int
  | 12 => .int
  | 13 => .int
  | 14 => .int
  | _ => .int
def R_J_java_io_Serializable : String := "java/io/Serializable"
def R_J_java_lang_Cloneable : String := "java/lang/Cloneable"
def R_J_java_lang_Iterable : String := "java/lang/Iterable"
def R_Math : String := "java/lang/Math"
def R_Str : String := "java/lang/String"
def R_J_java_lang_System : String := "java/lang/System"
def R_AbC : String := "java/util/AbstractCollection"
def R_AbL : String := "java/util/AbstractList"
def R_AL : String := "java/util/ArrayList"
def T_AL : u_T := fun k => match k with
  | 0 => ("java/util/AbstractList", "modCount", "I", false)
  | 1 => ("java/util/ArrayList", "elementData", "[Ljava/lang/Object;", false)
  | _ => ("java/util/ArrayList", "size", "I", false)
def ty_AL : Nat → FieldType := fun k => match k with
  | 0 => .int
  | 1 => .array (.object "java/lang/Object")
  | _ => .int
def R_Arrays : String := "java/util/Arrays"
def R_J_java_util_Collection : String := "java/util/Collection"
def R_J_java_util_List : String := "java/util/List"
def R_Objs : String := "java/util/Objects"
def R_J_java_util_RandomAccess : String := "java/util/RandomAccess"
def R_J_java_util_SequencedCollection : String := "java/util/SequencedCollection"
def R_ArrS : String := "jdk/internal/util/ArraysSupport"
def R_Prec : String := "jdk/internal/util/Preconditions"
def R_Law : String := "GritWatchLaw"
abbrev b_Del_init : ByteArray := prog_2_method_1_code
def y_Del_init : MethodName := ⟨R_Del, "<init>", "(II)V"⟩
abbrev b_Fc_init : ByteArray := prog_3_method_1_code
def y_Fc_init : MethodName := ⟨R_Fc, "<init>", "(III)V"⟩
abbrev b_Fc_tellMembers : ByteArray := prog_3_method_2_code
def y_Fc_tellMembers : MethodName := ⟨R_Fc, "tellMembers", "(IIIZ)V"⟩
abbrev b_Fc_foretells : ByteArray := prog_3_method_3_code
def y_Fc_foretells : MethodName := ⟨R_Fc, "foretells", "(LGritWatch$Road;)Z"⟩
abbrev b_Lor_init : ByteArray := prog_4_method_1_code
def y_Lor_init : MethodName := ⟨R_Lor, "<init>", "(Z)V"⟩
abbrev b_Lor_addOrder : ByteArray := prog_4_method_2_code
def y_Lor_addOrder : MethodName := ⟨R_Lor, "addOrder", "(I)V"⟩
abbrev b_Lor_firstOrder : ByteArray := prog_4_method_3_code
def y_Lor_firstOrder : MethodName := ⟨R_Lor, "firstOrder", "()I"⟩
abbrev b_Lor_dropFirstOrder : ByteArray := prog_4_method_4_code
def y_Lor_dropFirstOrder : MethodName := ⟨R_Lor, "dropFirstOrder", "()V"⟩
abbrev b_Lor_arrive : ByteArray := prog_4_method_5_code
def y_Lor_arrive : MethodName := ⟨R_Lor, "arrive", "()V"⟩
abbrev b_Lor_fact : ByteArray := prog_4_method_6_code
def y_Lor_fact : MethodName := ⟨R_Lor, "fact", "(I)I"⟩
abbrev b_Road_init : ByteArray := prog_5_method_1_code
def y_Road_init : MethodName := ⟨R_Road, "<init>", "(IIIIIIZ)V"⟩
abbrev b_Road_goal : ByteArray := prog_5_method_2_code
def y_Road_goal : MethodName := ⟨R_Road, "goal", "(IZ)I"⟩
abbrev b_Road_notice : ByteArray := prog_5_method_3_code
def y_Road_notice : MethodName := ⟨R_Road, "notice", "()I"⟩
abbrev b_Road_joins : ByteArray := prog_5_method_4_code
def y_Road_joins : MethodName := ⟨R_Road, "joins", "(I)Z"⟩
abbrev b_Road_otherEnd : ByteArray := prog_5_method_5_code
def y_Road_otherEnd : MethodName := ⟨R_Road, "otherEnd", "(I)I"⟩
abbrev b_Road_weatherQuarter : ByteArray := prog_5_method_6_code
def y_Road_weatherQuarter : MethodName := ⟨R_Road, "weatherQuarter", "(LGritWatch$Surface;LGritWatch$Weather;)V"⟩
abbrev b_Road_noteSlippery : ByteArray := prog_5_method_7_code
def y_Road_noteSlippery : MethodName := ⟨R_Road, "noteSlippery", "(I)V"⟩
abbrev b_Road_noteTreated : ByteArray := prog_5_method_8_code
def y_Road_noteTreated : MethodName := ⟨R_Road, "noteTreated", "(I)V"⟩
abbrev b_Road_wasSlippery : ByteArray := prog_5_method_9_code
def y_Road_wasSlippery : MethodName := ⟨R_Road, "wasSlippery", "(I)Z"⟩
abbrev b_Road_wasTreatedWithin : ByteArray := prog_5_method_10_code
def y_Road_wasTreatedWithin : MethodName := ⟨R_Road, "wasTreatedWithin", "(II)Z"⟩
abbrev b_Road_fact : ByteArray := prog_5_method_11_code
def y_Road_fact : MethodName := ⟨R_Road, "fact", "(I)I"⟩
abbrev b_Rows_init : ByteArray := prog_6_method_1_code
def y_Rows_init : MethodName := ⟨R_Rows, "<init>", "()V"⟩
abbrev b_Rows_best : ByteArray := prog_6_method_2_code
def y_Rows_best : MethodName := ⟨R_Rows, "best", "([LGritWatch$Road;I)I"⟩
abbrev b_Rows_bestWhole : ByteArray := prog_6_method_3_code
def y_Rows_bestWhole : MethodName := ⟨R_Rows, "bestWhole", "(I)I"⟩
abbrev b_Rows_lengthen : ByteArray := prog_6_method_4_code
def y_Rows_lengthen : MethodName := ⟨R_Rows, "lengthen", "([LGritWatch$Road;I)V"⟩
abbrev b_Rows_goAlong : ByteArray := prog_6_method_5_code
def y_Rows_goAlong : MethodName := ⟨R_Rows, "goAlong", "(LGritWatch$Road;III)V"⟩
abbrev b_Surf_init : ByteArray := prog_7_method_1_code
def y_Surf_init : MethodName := ⟨R_Surf, "<init>", "()V"⟩
abbrev b_Surf_becomeLike : ByteArray := prog_7_method_2_code
def y_Surf_becomeLike : MethodName := ⟨R_Surf, "becomeLike", "(LGritWatch$Surface;)V"⟩
abbrev b_Surf_isSlippery : ByteArray := prog_7_method_3_code
def y_Surf_isSlippery : MethodName := ⟨R_Surf, "isSlippery", "()Z"⟩
abbrev b_Surf_point : ByteArray := prog_7_method_4_code
def y_Surf_point : MethodName := ⟨R_Surf, "point", "()I"⟩
abbrev b_Surf_comeNearer : ByteArray := prog_7_method_5_code
def y_Surf_comeNearer : MethodName := ⟨R_Surf, "comeNearer", "(II)V"⟩
abbrev b_Surf_freezeOrThaw : ByteArray := prog_7_method_6_code
def y_Surf_freezeOrThaw : MethodName := ⟨R_Surf, "freezeOrThaw", "()V"⟩
abbrev b_Surf_runOff : ByteArray := prog_7_method_7_code
def y_Surf_runOff : MethodName := ⟨R_Surf, "runOff", "()V"⟩
abbrev b_Surf_loseToFields : ByteArray := prog_7_method_8_code
def y_Surf_loseToFields : MethodName := ⟨R_Surf, "loseToFields", "(I)V"⟩
abbrev b_Wea_init : ByteArray := prog_8_method_1_code
def y_Wea_init : MethodName := ⟨R_Wea, "<init>", "()V"⟩
abbrev b_G_init : ByteArray := prog_1_method_1_code
def y_G_init : MethodName := ⟨R_G, "<init>", "()V"⟩
abbrev b_G_road : ByteArray := prog_1_method_2_code
def y_G_road : MethodName := ⟨R_G, "road", "(IIIIIIZ)I"⟩
abbrev b_G_air : ByteArray := prog_1_method_3_code
def y_G_air : MethodName := ⟨R_G, "air", "(IZ)I"⟩
abbrev b_G_fall : ByteArray := prog_1_method_4_code
def y_G_fall : MethodName := ⟨R_G, "fall", "(III)I"⟩
abbrev b_G_forecast : ByteArray := prog_1_method_5_code
def y_G_forecast : MethodName := ⟨R_G, "forecast", "(IIIIZ)I"⟩
abbrev b_G_pass : ByteArray := prog_1_method_6_code
def y_G_pass : MethodName := ⟨R_G, "pass", "(I)I"⟩
abbrev b_G_lorry : ByteArray := prog_1_method_7_code
def y_G_lorry : MethodName := ⟨R_G, "lorry", "(Z)I"⟩
abbrev b_G_rate : ByteArray := prog_1_method_8_code
def y_G_rate : MethodName := ⟨R_G, "rate", "(II)I"⟩
abbrev b_G_order : ByteArray := prog_1_method_9_code
def y_G_order : MethodName := ⟨R_G, "order", "(II)I"⟩
abbrev b_G_load : ByteArray := prog_1_method_10_code
def y_G_load : MethodName := ⟨R_G, "load", "(I)I"⟩
abbrev b_G_rest : ByteArray := prog_1_method_11_code
def y_G_rest : MethodName := ⟨R_G, "rest", "(I)I"⟩
abbrev b_G_deliver : ByteArray := prog_1_method_12_code
def y_G_deliver : MethodName := ⟨R_G, "deliver", "(II)I"⟩
abbrev b_G_claim : ByteArray := prog_1_method_13_code
def y_G_claim : MethodName := ⟨R_G, "claim", "(II)I"⟩
abbrev b_G_ofRoad : ByteArray := prog_1_method_14_code
def y_G_ofRoad : MethodName := ⟨R_G, "ofRoad", "(II)I"⟩
abbrev b_G_ofLorry : ByteArray := prog_1_method_15_code
def y_G_ofLorry : MethodName := ⟨R_G, "ofLorry", "(II)I"⟩
abbrev b_G_many : ByteArray := prog_1_method_16_code
def y_G_many : MethodName := ⟨R_G, "many", "(I)I"⟩
abbrev b_G_way : ByteArray := prog_1_method_17_code
def y_G_way : MethodName := ⟨R_G, "way", "(II)I"⟩
abbrev b_G_meanWarmth : ByteArray := prog_1_method_18_code
def y_G_meanWarmth : MethodName := ⟨R_G, "meanWarmth", "()D"⟩
abbrev b_G_slipperyIn : ByteArray := prog_1_method_19_code
def y_G_slipperyIn : MethodName := ⟨R_G, "slipperyIn", "(II)I"⟩
abbrev b_G_saltFor : ByteArray := prog_1_method_20_code
def y_G_saltFor : MethodName := ⟨R_G, "saltFor", "(II)I"⟩
abbrev b_G_bestOrders : ByteArray := prog_1_method_21_code
def y_G_bestOrders : MethodName := ⟨R_G, "bestOrders", "(II)I"⟩
abbrev b_G_digest : ByteArray := prog_1_method_22_code
def y_G_digest : MethodName := ⟨R_G, "digest", "()J"⟩
abbrev b_G_digestOfRoad : ByteArray := prog_1_method_23_code
def y_G_digestOfRoad : MethodName := ⟨R_G, "digestOfRoad", "(LGritWatch$Road;J)J"⟩
abbrev b_G_digestOfLorry : ByteArray := prog_1_method_24_code
def y_G_digestOfLorry : MethodName := ⟨R_G, "digestOfLorry", "(LGritWatch$Lorry;J)J"⟩
abbrev b_G_isWithin : ByteArray := prog_1_method_25_code
def y_G_isWithin : MethodName := ⟨R_G, "isWithin", "(III)Z"⟩
abbrev b_G_isNode : ByteArray := prog_1_method_26_code
def y_G_isNode : MethodName := ⟨R_G, "isNode", "(I)Z"⟩
abbrev b_G_isAir : ByteArray := prog_1_method_27_code
def y_G_isAir : MethodName := ⟨R_G, "isAir", "(I)Z"⟩
abbrev b_G_roadAt : ByteArray := prog_1_method_28_code
def y_G_roadAt : MethodName := ⟨R_G, "roadAt", "(I)LGritWatch$Road;"⟩
abbrev b_G_lorryAt : ByteArray := prog_1_method_29_code
def y_G_lorryAt : MethodName := ⟨R_G, "lorryAt", "(I)LGritWatch$Lorry;"⟩
abbrev b_G_numberAt : ByteArray := prog_1_method_30_code
def y_G_numberAt : MethodName := ⟨R_G, "numberAt", "([II)I"⟩
abbrev b_G_lower : ByteArray := prog_1_method_31_code
def y_G_lower : MethodName := ⟨R_G, "lower", "([III)V"⟩
abbrev b_G_passQuarter : ByteArray := prog_1_method_32_code
def y_G_passQuarter : MethodName := ⟨R_G, "passQuarter", "()V"⟩
abbrev b_G_work : ByteArray := prog_1_method_33_code
def y_G_work : MethodName := ⟨R_G, "work", "(LGritWatch$Lorry;)V"⟩
abbrev b_G_treat : ByteArray := prog_1_method_34_code
def y_G_treat : MethodName := ⟨R_G, "treat", "(LGritWatch$Road;LGritWatch$Lorry;)V"⟩
abbrev b_G_takeDeliveries : ByteArray := prog_1_method_35_code
def y_G_takeDeliveries : MethodName := ⟨R_G, "takeDeliveries", "()V"⟩
abbrev b_G_keepDelivery : ByteArray := prog_1_method_36_code
def y_G_keepDelivery : MethodName := ⟨R_G, "keepDelivery", "(LGritWatch$Delivery;)V"⟩
abbrev b_G_roadsForetold : ByteArray := prog_1_method_37_code
def y_G_roadsForetold : MethodName := ⟨R_G, "roadsForetold", "(LGritWatch$Forecast;)I"⟩
abbrev b_G_answerTo : ByteArray := prog_1_method_38_code
def y_G_answerTo : MethodName := ⟨R_G, "answerTo", "(LGritWatch$Road;I)I"⟩
abbrev b_G_lastWarning : ByteArray := prog_1_method_39_code
def y_G_lastWarning : MethodName := ⟨R_G, "lastWarning", "(LGritWatch$Road;I)LGritWatch$Forecast;"⟩
abbrev b_G_countOf : ByteArray := prog_1_method_40_code
def y_G_countOf : MethodName := ⟨R_G, "countOf", "(I)I"⟩
abbrev b_G_saltInHoppers : ByteArray := prog_1_method_41_code
def y_G_saltInHoppers : MethodName := ⟨R_G, "saltInHoppers", "()I"⟩
abbrev b_G_saltOnRoads : ByteArray := prog_1_method_42_code
def y_G_saltOnRoads : MethodName := ⟨R_G, "saltOnRoads", "()I"⟩
abbrev b_G_saltInRiver : ByteArray := prog_1_method_43_code
def y_G_saltInRiver : MethodName := ⟨R_G, "saltInRiver", "()I"⟩
abbrev b_G_saltOnFields : ByteArray := prog_1_method_44_code
def y_G_saltOnFields : MethodName := ⟨R_G, "saltOnFields", "()I"⟩
abbrev b_G_waterRunOff : ByteArray := prog_1_method_45_code
def y_G_waterRunOff : MethodName := ⟨R_G, "waterRunOff", "()I"⟩
abbrev b_G_deliveriesOnTheirWay : ByteArray := prog_1_method_46_code
def y_G_deliveriesOnTheirWay : MethodName := ⟨R_G, "deliveriesOnTheirWay", "()I"⟩
abbrev b_G_slipperyNow : ByteArray := prog_1_method_47_code
def y_G_slipperyNow : MethodName := ⟨R_G, "slipperyNow", "()I"⟩
abbrev b_G_shortestWay : ByteArray := prog_1_method_48_code
def y_G_shortestWay : MethodName := ⟨R_G, "shortestWay", "(II)I"⟩
abbrev b_G_lowerWay : ByteArray := prog_1_method_49_code
def y_G_lowerWay : MethodName := ⟨R_G, "lowerWay", "(III)V"⟩
abbrev b_G_firstSlippery : ByteArray := prog_1_method_50_code
def y_G_firstSlippery : MethodName := ⟨R_G, "firstSlippery", "(LGritWatch$Road;II)I"⟩
abbrev b_G_leastSalt : ByteArray := prog_1_method_51_code
def y_G_leastSalt : MethodName := ⟨R_G, "leastSalt", "(LGritWatch$Road;I)I"⟩
abbrev b_MLor_init : ByteArray := prog_11_method_1_code
def y_MLor_init : MethodName := ⟨R_MLor, "<init>", "(Z)V"⟩
abbrev b_MLor_drop : ByteArray := prog_11_method_2_code
def y_MLor_drop : MethodName := ⟨R_MLor, "drop", "()V"⟩
abbrev b_MLor_of : ByteArray := prog_11_method_3_code
def y_MLor_of : MethodName := ⟨R_MLor, "of", "(I)I"⟩
abbrev b_MRoad_init : ByteArray := prog_12_method_1_code
def y_MRoad_init : MethodName := ⟨R_MRoad, "<init>", "(IIIIIIZ)V"⟩
abbrev b_MRoad_copyTo : ByteArray := prog_12_method_2_code
def y_MRoad_copyTo : MethodName := ⟨R_MRoad, "copyTo", "(LGritWatchModel$Road;)V"⟩
abbrev b_MRoad_bare : ByteArray := prog_12_method_3_code
def y_MRoad_bare : MethodName := ⟨R_MRoad, "bare", "()LGritWatchModel$Road;"⟩
abbrev b_MRoad_goal : ByteArray := prog_12_method_4_code
def y_MRoad_goal : MethodName := ⟨R_MRoad, "goal", "(IZ)I"⟩
abbrev b_MRoad_point : ByteArray := prog_12_method_5_code
def y_MRoad_point : MethodName := ⟨R_MRoad, "point", "()I"⟩
abbrev b_MRoad_pass : ByteArray := prog_12_method_6_code
def y_MRoad_pass : MethodName := ⟨R_MRoad, "pass", "(LGritWatchModel$Weather;)Z"⟩
abbrev b_MRoad_has : ByteArray := prog_12_method_7_code
def y_MRoad_has : MethodName := ⟨R_MRoad, "has", "(I)Z"⟩
abbrev b_MRoad_of : ByteArray := prog_12_method_8_code
def y_MRoad_of : MethodName := ⟨R_MRoad, "of", "(I)I"⟩
abbrev b_MWea_init : ByteArray := prog_13_method_1_code
def y_MWea_init : MethodName := ⟨R_MWea, "<init>", "()V"⟩
abbrev b_M_init : ByteArray := prog_10_method_1_code
def y_M_init : MethodName := ⟨R_M, "<init>", "()V"⟩
abbrev b_M_thrown : ByteArray := prog_10_method_2_code
def y_M_thrown : MethodName := ⟨R_M, "thrown", "()I"⟩
abbrev b_M_no : ByteArray := prog_10_method_3_code
def y_M_no : MethodName := ⟨R_M, "no", "(I)I"⟩
abbrev b_M_in : ByteArray := prog_10_method_4_code
def y_M_in : MethodName := ⟨R_M, "in", "(III)Z"⟩
abbrev b_M_work : ByteArray := prog_10_method_5_code
def y_M_work : MethodName := ⟨R_M, "work", "(LGritWatchModel$Lorry;)V"⟩
abbrev b_M_quarter : ByteArray := prog_10_method_6_code
def y_M_quarter : MethodName := ⟨R_M, "quarter", "()I"⟩
abbrev b_M_isNode : ByteArray := prog_10_method_7_code
def y_M_isNode : MethodName := ⟨R_M, "isNode", "(I)Z"⟩
abbrev b_M_isRoad : ByteArray := prog_10_method_8_code
def y_M_isRoad : MethodName := ⟨R_M, "isRoad", "(I)Z"⟩
abbrev b_M_isLorry : ByteArray := prog_10_method_9_code
def y_M_isLorry : MethodName := ⟨R_M, "isLorry", "(I)Z"⟩
abbrev b_M_road : ByteArray := prog_10_method_10_code
def y_M_road : MethodName := ⟨R_M, "road", "(IIIIIIZ)I"⟩
abbrev b_M_air : ByteArray := prog_10_method_11_code
def y_M_air : MethodName := ⟨R_M, "air", "(IZ)I"⟩
abbrev b_M_fall : ByteArray := prog_10_method_12_code
def y_M_fall : MethodName := ⟨R_M, "fall", "(III)I"⟩
abbrev b_M_inHoppers : ByteArray := prog_10_method_13_code
def y_M_inHoppers : MethodName := ⟨R_M, "inHoppers", "()I"⟩
abbrev b_M_isForetold : ByteArray := prog_10_method_14_code
def y_M_isForetold : MethodName := ⟨R_M, "isForetold", "(LGritWatchModel$Road;[I)Z"⟩
abbrev b_M_forecast : ByteArray := prog_10_method_15_code
def y_M_forecast : MethodName := ⟨R_M, "forecast", "(IIIIZ)I"⟩
abbrev b_M_pass : ByteArray := prog_10_method_16_code
def y_M_pass : MethodName := ⟨R_M, "pass", "(I)I"⟩
abbrev b_M_lorry : ByteArray := prog_10_method_17_code
def y_M_lorry : MethodName := ⟨R_M, "lorry", "(Z)I"⟩
abbrev b_M_rate : ByteArray := prog_10_method_18_code
def y_M_rate : MethodName := ⟨R_M, "rate", "(II)I"⟩
abbrev b_M_order : ByteArray := prog_10_method_19_code
def y_M_order : MethodName := ⟨R_M, "order", "(II)I"⟩
abbrev b_M_load : ByteArray := prog_10_method_20_code
def y_M_load : MethodName := ⟨R_M, "load", "(I)I"⟩
abbrev b_M_rest : ByteArray := prog_10_method_21_code
def y_M_rest : MethodName := ⟨R_M, "rest", "(I)I"⟩
abbrev b_M_deliver : ByteArray := prog_10_method_22_code
def y_M_deliver : MethodName := ⟨R_M, "deliver", "(II)I"⟩
abbrev b_M_claimNow : ByteArray := prog_10_method_23_code
def y_M_claimNow : MethodName := ⟨R_M, "claimNow", "(LGritWatchModel$Road;I)I"⟩
abbrev b_M_claim : ByteArray := prog_10_method_24_code
def y_M_claim : MethodName := ⟨R_M, "claim", "(II)I"⟩
abbrev b_M_ofRoad : ByteArray := prog_10_method_25_code
def y_M_ofRoad : MethodName := ⟨R_M, "ofRoad", "(II)I"⟩
abbrev b_M_ofLorry : ByteArray := prog_10_method_26_code
def y_M_ofLorry : MethodName := ⟨R_M, "ofLorry", "(II)I"⟩
abbrev b_M_manyNow : ByteArray := prog_10_method_27_code
def y_M_manyNow : MethodName := ⟨R_M, "manyNow", "(I)I"⟩
abbrev b_M_many : ByteArray := prog_10_method_28_code
def y_M_many : MethodName := ⟨R_M, "many", "(I)I"⟩
abbrev b_M_wayNow : ByteArray := prog_10_method_29_code
def y_M_wayNow : MethodName := ⟨R_M, "wayNow", "(II)I"⟩
abbrev b_M_way : ByteArray := prog_10_method_30_code
def y_M_way : MethodName := ⟨R_M, "way", "(II)I"⟩
abbrev b_M_meanWarmth : ByteArray := prog_10_method_31_code
def y_M_meanWarmth : MethodName := ⟨R_M, "meanWarmth", "()D"⟩
abbrev b_M_slipperyNow : ByteArray := prog_10_method_32_code
def y_M_slipperyNow : MethodName := ⟨R_M, "slipperyNow", "(LGritWatchModel$Road;LGritWatchModel$Road;II)I"⟩
abbrev b_M_slipperyIn : ByteArray := prog_10_method_33_code
def y_M_slipperyIn : MethodName := ⟨R_M, "slipperyIn", "(II)I"⟩
abbrev b_M_saltNow : ByteArray := prog_10_method_34_code
def y_M_saltNow : MethodName := ⟨R_M, "saltNow", "(LGritWatchModel$Road;I)I"⟩
abbrev b_M_saltFor : ByteArray := prog_10_method_35_code
def y_M_saltFor : MethodName := ⟨R_M, "saltFor", "(II)I"⟩
abbrev b_M_bestNow : ByteArray := prog_10_method_36_code
def y_M_bestNow : MethodName := ⟨R_M, "bestNow", "(I)I"⟩
abbrev b_M_bestOrders : ByteArray := prog_10_method_37_code
def y_M_bestOrders : MethodName := ⟨R_M, "bestOrders", "(II)I"⟩
abbrev b_M_digest : ByteArray := prog_10_method_38_code
def y_M_digest : MethodName := ⟨R_M, "digest", "()J"⟩
abbrev b_Math_max_7cf53 : ByteArray := prog_21_method_65_code
def y_Math_max_7cf53 : MethodName := ⟨R_Math, "max", "(II)I"⟩
abbrev b_Math_min_7cf53 : ByteArray := prog_21_method_69_code
def y_Math_min_7cf53 : MethodName := ⟨R_Math, "min", "(II)I"⟩
abbrev b_AbC_init_da8c8 : ByteArray := prog_26_method_1_code
def y_AbC_init_da8c8 : MethodName := ⟨R_AbC, "<init>", "()V"⟩
abbrev b_AbL_init_da8c8 : ByteArray := prog_27_method_1_code
def y_AbL_init_da8c8 : MethodName := ⟨R_AbL, "<init>", "()V"⟩
abbrev b_AL_init_da8c8 : ByteArray := prog_28_method_2_code
def y_AL_init_da8c8 : MethodName := ⟨R_AL, "<init>", "()V"⟩
abbrev b_AL_grow_92f84 : ByteArray := prog_28_method_6_code
def y_AL_grow_92f84 : MethodName := ⟨R_AL, "grow", "(I)[Ljava/lang/Object;"⟩
abbrev b_AL_grow_d5877 : ByteArray := prog_28_method_7_code
def y_AL_grow_d5877 : MethodName := ⟨R_AL, "grow", "()[Ljava/lang/Object;"⟩
abbrev b_AL_size_8abf5 : ByteArray := prog_28_method_8_code
def y_AL_size_8abf5 : MethodName := ⟨R_AL, "size", "()I"⟩
abbrev b_AL_isEmpty_aae02 : ByteArray := prog_28_method_9_code
def y_AL_isEmpty_aae02 : MethodName := ⟨R_AL, "isEmpty", "()Z"⟩
abbrev b_AL_elementData_915e3 : ByteArray := prog_28_method_18_code
def y_AL_elementData_915e3 : MethodName := ⟨R_AL, "elementData", "(I)Ljava/lang/Object;"⟩
abbrev b_AL_get_915e3 : ByteArray := prog_28_method_20_code
def y_AL_get_915e3 : MethodName := ⟨R_AL, "get", "(I)Ljava/lang/Object;"⟩
abbrev b_AL_add_72be8 : ByteArray := prog_28_method_24_code
def y_AL_add_72be8 : MethodName := ⟨R_AL, "add", "(Ljava/lang/Object;[Ljava/lang/Object;I)V"⟩
abbrev b_AL_add_9ea2d : ByteArray := prog_28_method_25_code
def y_AL_add_9ea2d : MethodName := ⟨R_AL, "add", "(Ljava/lang/Object;)Z"⟩
abbrev b_Arrays_fill_53178 : ByteArray := prog_29_method_103_code
def y_Arrays_fill_53178 : MethodName := ⟨R_Arrays, "fill", "([II)V"⟩
abbrev b_Arrays_copyOf_1904c : ByteArray := prog_29_method_119_code
def y_Arrays_copyOf_1904c : MethodName := ⟨R_Arrays, "copyOf", "([Ljava/lang/Object;I)[Ljava/lang/Object;"⟩
abbrev b_Arrays_copyOf_6403c : ByteArray := prog_29_method_120_code
def y_Arrays_copyOf_6403c : MethodName := ⟨R_Arrays, "copyOf", "([Ljava/lang/Object;ILjava/lang/Class;)[Ljava/lang/Object;"⟩
abbrev b_Objs_checkIndex_7cf53 : ByteArray := prog_32_method_17_code
def y_Objs_checkIndex_7cf53 : MethodName := ⟨R_Objs, "checkIndex", "(II)I"⟩
abbrev b_ArrS_newLength_cabcc : ByteArray := prog_35_method_27_code
def y_ArrS_newLength_cabcc : MethodName := ⟨R_ArrS, "newLength", "(III)I"⟩
abbrev b_ArrS_hugeLength_7cf53 : ByteArray := prog_35_method_28_code
def y_ArrS_hugeLength_7cf53 : MethodName := ⟨R_ArrS, "hugeLength", "(II)I"⟩
abbrev b_Prec_checkIndex_8e157 : ByteArray := prog_36_method_11_code
def y_Prec_checkIndex_8e157 : MethodName := ⟨R_Prec, "checkIndex", "(IILjava/util/function/BiFunction;)I"⟩
abbrev b_Law_road : ByteArray := method_3_code
def y_Law_road : MethodName := ⟨R_Law, "road", "(LGritWatch;IIIIIIZ[J)I"⟩
abbrev b_Law_air : ByteArray := method_4_code
def y_Law_air : MethodName := ⟨R_Law, "air", "(LGritWatch;IZ[J)I"⟩
abbrev b_Law_fall : ByteArray := method_5_code
def y_Law_fall : MethodName := ⟨R_Law, "fall", "(LGritWatch;III[J)I"⟩
abbrev b_Law_forecast : ByteArray := method_6_code
def y_Law_forecast : MethodName := ⟨R_Law, "forecast", "(LGritWatch;IIIIZ[J)I"⟩
abbrev b_Law_pass : ByteArray := method_7_code
def y_Law_pass : MethodName := ⟨R_Law, "pass", "(LGritWatch;I[J)I"⟩
abbrev b_Law_lorry : ByteArray := method_8_code
def y_Law_lorry : MethodName := ⟨R_Law, "lorry", "(LGritWatch;Z[J)I"⟩
abbrev b_Law_rate : ByteArray := method_9_code
def y_Law_rate : MethodName := ⟨R_Law, "rate", "(LGritWatch;II[J)I"⟩
abbrev b_Law_order : ByteArray := method_10_code
def y_Law_order : MethodName := ⟨R_Law, "order", "(LGritWatch;II[J)I"⟩
abbrev b_Law_load : ByteArray := method_11_code
def y_Law_load : MethodName := ⟨R_Law, "load", "(LGritWatch;I[J)I"⟩
abbrev b_Law_rest : ByteArray := method_12_code
def y_Law_rest : MethodName := ⟨R_Law, "rest", "(LGritWatch;I[J)I"⟩
abbrev b_Law_deliver : ByteArray := method_13_code
def y_Law_deliver : MethodName := ⟨R_Law, "deliver", "(LGritWatch;II[J)I"⟩
abbrev b_Law_claim : ByteArray := method_14_code
def y_Law_claim : MethodName := ⟨R_Law, "claim", "(LGritWatch;II[J)I"⟩
abbrev b_Law_ofRoad : ByteArray := method_15_code
def y_Law_ofRoad : MethodName := ⟨R_Law, "ofRoad", "(LGritWatch;II[J)I"⟩
abbrev b_Law_ofLorry : ByteArray := method_16_code
def y_Law_ofLorry : MethodName := ⟨R_Law, "ofLorry", "(LGritWatch;II[J)I"⟩
abbrev b_Law_many : ByteArray := method_17_code
def y_Law_many : MethodName := ⟨R_Law, "many", "(LGritWatch;I[J)I"⟩
abbrev b_Law_way : ByteArray := method_18_code
def y_Law_way : MethodName := ⟨R_Law, "way", "(LGritWatch;II[J)I"⟩
abbrev b_Law_slipperyIn : ByteArray := method_19_code
def y_Law_slipperyIn : MethodName := ⟨R_Law, "slipperyIn", "(LGritWatch;II[J)I"⟩
abbrev b_Law_saltFor : ByteArray := method_20_code
def y_Law_saltFor : MethodName := ⟨R_Law, "saltFor", "(LGritWatch;II[J)I"⟩
abbrev b_Law_bestOrders : ByteArray := method_21_code
def y_Law_bestOrders : MethodName := ⟨R_Law, "bestOrders", "(LGritWatch;II[J)I"⟩
abbrev b_Law_law : ByteArray := code
def y_Law_law : MethodName := ⟨R_Law, "law", "([I)Z"⟩
abbrev cls : List vw_C := [(R_Surf, T_Surf, 8), (R_Wea, T_Wea, 5), (R_Road, T_Road, 12), (R_Lor, T_Lor, 10), (R_Rows, T_Rows, 2), (R_Fc, T_Fc, 7), (R_Del, T_Del, 2), (R_G, T_G, 16), (R_MWea, T_MWea, 5), (R_MRoad, T_MRoad, 19), (R_MLor, T_MLor, 10), (R_M, T_M, 16), (R_AL, T_AL, 3)]
def W0 : List Cond := lw_tbl.filter goodWord
theorem W0_good : GoodIn W0 W0 := fun w h => ⟨h, good_of_word (List.mem_filter.mp h).2⟩
theorem W0_of {w : Cond} (i : Nat) (h : tables_1[i]? = some w) (g : goodWord w = true) : w ∈ W0 := List.mem_filter.mpr ⟨List.mem_append_right _ (List.mem_of_getElem? h), g⟩
theorem W0_sel {y : MethodName} {C : String} (i : Nat) (h : (k2_sels lw_privs)[i]? = some (.selects C y y)) (g : goodWord (.selects C y y) = true) : Cond.selects C y y ∈ W0 := List.mem_filter.mpr ⟨List.mem_append_left _ (List.mem_of_getElem? h), g⟩
theorem i_Law : Cond.initialized R_Law ∈ W0 := W0_of 0 (by decide +kernel) rfl
theorem i_G : Cond.initialized R_G ∈ W0 := W0_of 1 (by decide +kernel) rfl
theorem i_Wea : Cond.initialized R_Wea ∈ W0 := W0_of 2 (by decide +kernel) rfl
theorem i_Surf : Cond.initialized R_Surf ∈ W0 := W0_of 3 (by decide +kernel) rfl
theorem i_Rows : Cond.initialized R_Rows ∈ W0 := W0_of 4 (by decide +kernel) rfl
theorem i_M : Cond.initialized R_M ∈ W0 := W0_of 5 (by decide +kernel) rfl
theorem i_AbC : Cond.initialized R_AbC ∈ W0 := W0_of 6 (by decide +kernel) rfl
theorem i_AbL : Cond.initialized R_AbL ∈ W0 := W0_of 7 (by decide +kernel) rfl
theorem i_AL : Cond.initialized R_AL ∈ W0 := W0_of 8 (by decide +kernel) rfl
theorem i_MWea : Cond.initialized R_MWea ∈ W0 := W0_of 9 (by decide +kernel) rfl
theorem i_java_lang_Throwable : Cond.initialized "java/lang/Throwable" ∈ W0 := W0_of 10 (by decide +kernel) rfl
theorem i_java_lang_Exception : Cond.initialized "java/lang/Exception" ∈ W0 := W0_of 11 (by decide +kernel) rfl
theorem i_java_lang_RuntimeException : Cond.initialized "java/lang/RuntimeException" ∈ W0 := W0_of 12 (by decide +kernel) rfl
theorem i_java_lang_IndexOutOfBoundsException : Cond.initialized "java/lang/IndexOutOfBoundsException" ∈ W0 := W0_of 13 (by decide +kernel) rfl
theorem i_java_lang_IllegalArgumentException : Cond.initialized "java/lang/IllegalArgumentException" ∈ W0 := W0_of 14 (by decide +kernel) rfl
theorem i_java_lang_IllegalStateException : Cond.initialized "java/lang/IllegalStateException" ∈ W0 := W0_of 15 (by decide +kernel) rfl
theorem i_Road : Cond.initialized R_Road ∈ W0 := W0_of 16 (by decide +kernel) rfl
theorem i_MRoad : Cond.initialized R_MRoad ∈ W0 := W0_of 17 (by decide +kernel) rfl
theorem i_ArrS : Cond.initialized R_ArrS ∈ W0 := W0_of 18 (by decide +kernel) rfl
theorem i_Math : Cond.initialized R_Math ∈ W0 := W0_of 19 (by decide +kernel) rfl
theorem i_Arrays : Cond.initialized R_Arrays ∈ W0 := W0_of 20 (by decide +kernel) rfl
theorem i_J_java_lang_System : Cond.initialized R_J_java_lang_System ∈ W0 := W0_of 21 (by decide +kernel) rfl
theorem i_Fc : Cond.initialized R_Fc ∈ W0 := W0_of 22 (by decide +kernel) rfl
theorem i_Objs : Cond.initialized R_Objs ∈ W0 := W0_of 23 (by decide +kernel) rfl
theorem i_Prec : Cond.initialized R_Prec ∈ W0 := W0_of 24 (by decide +kernel) rfl
theorem i_Lor : Cond.initialized R_Lor ∈ W0 := W0_of 25 (by decide +kernel) rfl
theorem i_MLor : Cond.initialized R_MLor ∈ W0 := W0_of 26 (by decide +kernel) rfl
theorem i_Del : Cond.initialized R_Del ∈ W0 := W0_of 27 (by decide +kernel) rfl
theorem c_Law_8 : Cond.classLink R_Law 8 R_G ∈ W0 := W0_of 28 (by decide +kernel) rfl
theorem n_G : Cond.instantiable R_G 16 ∈ W0 := W0_of 29 (by decide +kernel) rfl
theorem m_Law_79 : Cond.methodLink R_Law 79 y_G_init ∈ W0 := W0_of 30 (by decide +kernel) rfl
theorem m_G_1 : Cond.methodLink R_G 1 ⟨"java/lang/Object", "<init>", "()V"⟩ ∈ W0 := W0_of 33 (by decide +kernel) rfl
theorem c_G_9 : Cond.classLink R_G 9 R_Road ∈ W0 := W0_of 36 (by decide +kernel) rfl
theorem c_G_15 : Cond.classLink R_G 15 R_Lor ∈ W0 := W0_of 38 (by decide +kernel) rfl
theorem c_G_21 : Cond.classLink R_G 21 R_Fc ∈ W0 := W0_of 40 (by decide +kernel) rfl
theorem c_G_27 : Cond.classLink R_G 27 R_Del ∈ W0 := W0_of 42 (by decide +kernel) rfl
theorem c_G_33 : Cond.classLink R_G 33 R_Wea ∈ W0 := W0_of 44 (by decide +kernel) rfl
theorem n_Wea : Cond.instantiable R_Wea 5 ∈ W0 := W0_of 45 (by decide +kernel) rfl
theorem m_Wea_1 : Cond.methodLink R_Wea 1 ⟨"java/lang/Object", "<init>", "()V"⟩ ∈ W0 := W0_of 49 (by decide +kernel) rfl
theorem f_Wea_7 : Cond.fieldLink R_Wea 7 "GritWatch$Weather" "air" "I" ∈ W0 := W0_of 50 (by decide +kernel) rfl
theorem f_G_100 : Cond.fieldLink R_G 100 "GritWatch$Weather" "air" "I" ∈ W0 := W0_of 51 (by decide +kernel) rfl
theorem f_Road_51 : Cond.fieldLink R_Road 51 "GritWatch$Weather" "air" "I" ∈ W0 := W0_of 52 (by decide +kernel) rfl
theorem f_G_103 : Cond.fieldLink R_G 103 "GritWatch$Weather" "isClear" "Z" ∈ W0 := W0_of 53 (by decide +kernel) rfl
theorem f_Road_56 : Cond.fieldLink R_Road 56 "GritWatch$Weather" "isClear" "Z" ∈ W0 := W0_of 54 (by decide +kernel) rfl
theorem f_G_112 : Cond.fieldLink R_G 112 "GritWatch$Weather" "rain" "I" ∈ W0 := W0_of 55 (by decide +kernel) rfl
theorem f_Road_70 : Cond.fieldLink R_Road 70 "GritWatch$Weather" "rain" "I" ∈ W0 := W0_of 56 (by decide +kernel) rfl
theorem f_G_115 : Cond.fieldLink R_G 115 "GritWatch$Weather" "flakes" "I" ∈ W0 := W0_of 57 (by decide +kernel) rfl
theorem f_Road_76 : Cond.fieldLink R_Road 76 "GritWatch$Weather" "flakes" "I" ∈ W0 := W0_of 58 (by decide +kernel) rfl
theorem f_G_109 : Cond.fieldLink R_G 109 "GritWatch$Weather" "wind" "I" ∈ W0 := W0_of 59 (by decide +kernel) rfl
theorem f_Road_89 : Cond.fieldLink R_Road 89 "GritWatch$Weather" "wind" "I" ∈ W0 := W0_of 60 (by decide +kernel) rfl
theorem c_G_40 : Cond.classLink R_G 40 R_Surf ∈ W0 := W0_of 72 (by decide +kernel) rfl
theorem n_Surf : Cond.instantiable R_Surf 8 ∈ W0 := W0_of 73 (by decide +kernel) rfl
theorem m_Surf_3 : Cond.methodLink R_Surf 3 ⟨"java/lang/Object", "<init>", "()V"⟩ ∈ W0 := W0_of 77 (by decide +kernel) rfl
theorem f_Surf_9 : Cond.fieldLink R_Surf 9 "GritWatch$Surface" "warmth" "I" ∈ W0 := W0_of 78 (by decide +kernel) rfl
theorem f_Road_108 : Cond.fieldLink R_Road 108 "GritWatch$Surface" "warmth" "I" ∈ W0 := W0_of 79 (by decide +kernel) rfl
theorem f_G_248 : Cond.fieldLink R_G 248 "GritWatch$Surface" "warmth" "I" ∈ W0 := W0_of 80 (by decide +kernel) rfl
theorem f_Surf_15 : Cond.fieldLink R_Surf 15 "GritWatch$Surface" "water" "I" ∈ W0 := W0_of 81 (by decide +kernel) rfl
theorem f_Road_67 : Cond.fieldLink R_Road 67 "GritWatch$Surface" "water" "I" ∈ W0 := W0_of 82 (by decide +kernel) rfl
theorem f_Surf_18 : Cond.fieldLink R_Surf 18 "GritWatch$Surface" "ice" "I" ∈ W0 := W0_of 83 (by decide +kernel) rfl
theorem f_Road_111 : Cond.fieldLink R_Road 111 "GritWatch$Surface" "ice" "I" ∈ W0 := W0_of 84 (by decide +kernel) rfl
theorem f_Surf_21 : Cond.fieldLink R_Surf 21 "GritWatch$Surface" "snow" "I" ∈ W0 := W0_of 85 (by decide +kernel) rfl
theorem f_Road_73 : Cond.fieldLink R_Road 73 "GritWatch$Surface" "snow" "I" ∈ W0 := W0_of 86 (by decide +kernel) rfl
theorem f_G_333 : Cond.fieldLink R_G 333 "GritWatch$Surface" "snow" "I" ∈ W0 := W0_of 87 (by decide +kernel) rfl
theorem f_Surf_24 : Cond.fieldLink R_Surf 24 "GritWatch$Surface" "salt" "I" ∈ W0 := W0_of 88 (by decide +kernel) rfl
theorem f_Road_114 : Cond.fieldLink R_Road 114 "GritWatch$Surface" "salt" "I" ∈ W0 := W0_of 89 (by decide +kernel) rfl
theorem f_G_324 : Cond.fieldLink R_G 324 "GritWatch$Surface" "salt" "I" ∈ W0 := W0_of 90 (by decide +kernel) rfl
theorem f_Surf_43 : Cond.fieldLink R_Surf 43 "GritWatch$Surface" "saltToRiver" "I" ∈ W0 := W0_of 91 (by decide +kernel) rfl
theorem f_G_386 : Cond.fieldLink R_G 386 "GritWatch$Surface" "saltToRiver" "I" ∈ W0 := W0_of 92 (by decide +kernel) rfl
theorem f_Surf_46 : Cond.fieldLink R_Surf 46 "GritWatch$Surface" "saltToFields" "I" ∈ W0 := W0_of 93 (by decide +kernel) rfl
theorem f_G_389 : Cond.fieldLink R_G 389 "GritWatch$Surface" "saltToFields" "I" ∈ W0 := W0_of 94 (by decide +kernel) rfl
theorem f_Surf_40 : Cond.fieldLink R_Surf 40 "GritWatch$Surface" "waterRunOff" "I" ∈ W0 := W0_of 95 (by decide +kernel) rfl
theorem f_G_392 : Cond.fieldLink R_G 392 "GritWatch$Surface" "waterRunOff" "I" ∈ W0 := W0_of 96 (by decide +kernel) rfl
theorem c_G_51 : Cond.classLink R_G 51 R_Rows ∈ W0 := W0_of 114 (by decide +kernel) rfl
theorem n_Rows : Cond.instantiable R_Rows 2 ∈ W0 := W0_of 115 (by decide +kernel) rfl
theorem m_Rows_3 : Cond.methodLink R_Rows 3 ⟨"java/lang/Object", "<init>", "()V"⟩ ∈ W0 := W0_of 119 (by decide +kernel) rfl
theorem f_Rows_9 : Cond.fieldLink R_Rows 9 "GritWatch$Rows" "kept" "[I" ∈ W0 := W0_of 120 (by decide +kernel) rfl
theorem f_Rows_15 : Cond.fieldLink R_Rows 15 "GritWatch$Rows" "longer" "[I" ∈ W0 := W0_of 121 (by decide +kernel) rfl
theorem a_int : Cond.arrayClass Jvm.ClassFile.FieldType.int ∈ W0 := W0_of 127 (by decide +kernel) rfl
theorem f_G_11 : Cond.fieldLink R_G 11 "GritWatch" "roads" "[LGritWatch$Road;" ∈ W0 := W0_of 128 (by decide +kernel) rfl
theorem f_G_17 : Cond.fieldLink R_G 17 "GritWatch" "lorries" "[LGritWatch$Lorry;" ∈ W0 := W0_of 129 (by decide +kernel) rfl
theorem f_G_23 : Cond.fieldLink R_G 23 "GritWatch" "forecasts" "[LGritWatch$Forecast;" ∈ W0 := W0_of 130 (by decide +kernel) rfl
theorem f_G_29 : Cond.fieldLink R_G 29 "GritWatch" "deliveries" "[LGritWatch$Delivery;" ∈ W0 := W0_of 131 (by decide +kernel) rfl
theorem f_G_36 : Cond.fieldLink R_G 36 "GritWatch" "weather" "LGritWatch$Weather;" ∈ W0 := W0_of 132 (by decide +kernel) rfl
theorem f_G_43 : Cond.fieldLink R_G 43 "GritWatch" "trial" "LGritWatch$Surface;" ∈ W0 := W0_of 133 (by decide +kernel) rfl
theorem f_G_47 : Cond.fieldLink R_G 47 "GritWatch" "ways" "[I" ∈ W0 := W0_of 134 (by decide +kernel) rfl
theorem f_G_54 : Cond.fieldLink R_G 54 "GritWatch" "rows" "LGritWatch$Rows;" ∈ W0 := W0_of 135 (by decide +kernel) rfl
theorem f_G_84 : Cond.fieldLink R_G 84 "GritWatch" "roadCount" "I" ∈ W0 := W0_of 136 (by decide +kernel) rfl
theorem f_G_155 : Cond.fieldLink R_G 155 "GritWatch" "lorryCount" "I" ∈ W0 := W0_of 137 (by decide +kernel) rfl
theorem f_G_122 : Cond.fieldLink R_G 122 "GritWatch" "forecastCount" "I" ∈ W0 := W0_of 138 (by decide +kernel) rfl
theorem f_G_127 : Cond.fieldLink R_G 127 "GritWatch" "now" "I" ∈ W0 := W0_of 139 (by decide +kernel) rfl
theorem f_G_58 : Cond.fieldLink R_G 58 "GritWatch" "barn" "I" ∈ W0 := W0_of 140 (by decide +kernel) rfl
theorem f_G_345 : Cond.fieldLink R_G 345 "GritWatch" "delivered" "I" ∈ W0 := W0_of 141 (by decide +kernel) rfl
theorem f_G_348 : Cond.fieldLink R_G 348 "GritWatch" "returned" "I" ∈ W0 := W0_of 142 (by decide +kernel) rfl
theorem f_G_330 : Cond.fieldLink R_G 330 "GritWatch" "ploughed" "I" ∈ W0 := W0_of 143 (by decide +kernel) rfl
theorem m_Law_144 : Cond.methodLink R_Law 144 y_G_meanWarmth ∈ W0 := W0_of 177 (by decide +kernel) rfl
theorem m_Law_158 : Cond.methodLink R_Law 158 y_G_digest ∈ W0 := W0_of 181 (by decide +kernel) rfl
theorem q_G_266 : Cond.constantLong R_G 266 (4808 : Int64) ∈ W0 := W0_of 185 (by decide +kernel) rfl
theorem q_G_268 : Cond.constantLong R_G 268 (31 : Int64) ∈ W0 := W0_of 186 (by decide +kernel) rfl
theorem m_G_239 : Cond.methodLink R_G 239 y_G_countOf ∈ W0 := W0_of 187 (by decide +kernel) rfl
theorem m_G_130 : Cond.methodLink R_G 130 y_G_saltInHoppers ∈ W0 := W0_of 191 (by decide +kernel) rfl
theorem m_G_374 : Cond.methodLink R_G 374 y_G_saltOnRoads ∈ W0 := W0_of 195 (by decide +kernel) rfl
theorem m_G_377 : Cond.methodLink R_G 377 y_G_saltInRiver ∈ W0 := W0_of 199 (by decide +kernel) rfl
theorem m_G_380 : Cond.methodLink R_G 380 y_G_saltOnFields ∈ W0 := W0_of 203 (by decide +kernel) rfl
theorem m_G_383 : Cond.methodLink R_G 383 y_G_waterRunOff ∈ W0 := W0_of 207 (by decide +kernel) rfl
theorem m_G_210 : Cond.methodLink R_G 210 y_G_deliveriesOnTheirWay ∈ W0 := W0_of 211 (by decide +kernel) rfl
theorem m_G_152 : Cond.methodLink R_G 152 y_G_slipperyNow ∈ W0 := W0_of 215 (by decide +kernel) rfl
theorem m_G_355 : Cond.methodLink R_G 355 y_Road_wasSlippery ∈ W0 := W0_of 219 (by decide +kernel) rfl
theorem m_G_270 : Cond.methodLink R_G 270 y_G_digestOfRoad ∈ W0 := W0_of 223 (by decide +kernel) rfl
theorem m_G_232 : Cond.methodLink R_G 232 y_Road_fact ∈ W0 := W0_of 227 (by decide +kernel) rfl
theorem m_Road_117 : Cond.methodLink R_Road 117 y_Surf_point ∈ W0 := W0_of 231 (by decide +kernel) rfl
theorem m_G_253 : Cond.methodLink R_G 253 y_G_firstSlippery ∈ W0 := W0_of 235 (by decide +kernel) rfl
theorem m_G_417 : Cond.methodLink R_G 417 y_Surf_becomeLike ∈ W0 := W0_of 239 (by decide +kernel) rfl
theorem m_G_279 : Cond.methodLink R_G 279 y_Road_weatherQuarter ∈ W0 := W0_of 243 (by decide +kernel) rfl
theorem m_Road_59 : Cond.methodLink R_Road 59 y_Road_goal ∈ W0 := W0_of 247 (by decide +kernel) rfl
theorem m_Road_63 : Cond.methodLink R_Road 63 y_Surf_comeNearer ∈ W0 := W0_of 251 (by decide +kernel) rfl
theorem m_Surf_27 : Cond.methodLink R_Surf 27 y_Math_min_7cf53 ∈ W0 := W0_of 255 (by decide +kernel) rfl
theorem m_Surf_33 : Cond.methodLink R_Surf 33 y_Math_max_7cf53 ∈ W0 := W0_of 258 (by decide +kernel) rfl
theorem m_Road_79 : Cond.methodLink R_Road 79 y_Surf_freezeOrThaw ∈ W0 := W0_of 261 (by decide +kernel) rfl
theorem m_Surf_36 : Cond.methodLink R_Surf 36 y_Surf_point ∈ W0 := W0_of 265 (by decide +kernel) rfl
theorem m_Road_82 : Cond.methodLink R_Road 82 y_Surf_runOff ∈ W0 := W0_of 266 (by decide +kernel) rfl
theorem m_Road_85 : Cond.methodLink R_Road 85 y_Surf_loseToFields ∈ W0 := W0_of 270 (by decide +kernel) rfl
theorem m_G_421 : Cond.methodLink R_G 421 y_Surf_isSlippery ∈ W0 := W0_of 274 (by decide +kernel) rfl
theorem m_G_257 : Cond.methodLink R_G 257 y_G_leastSalt ∈ W0 := W0_of 278 (by decide +kernel) rfl
theorem m_G_226 : Cond.methodLink R_G 226 y_G_answerTo ∈ W0 := W0_of 282 (by decide +kernel) rfl
theorem m_G_358 : Cond.methodLink R_G 358 y_Road_wasTreatedWithin ∈ W0 := W0_of 286 (by decide +kernel) rfl
theorem m_Road_99 : Cond.methodLink R_Road 99 y_Math_min_7cf53 ∈ W0 := W0_of 290 (by decide +kernel) rfl
theorem m_Road_105 : Cond.methodLink R_Road 105 y_Math_max_7cf53 ∈ W0 := W0_of 291 (by decide +kernel) rfl
theorem m_G_362 : Cond.methodLink R_G 362 y_G_lastWarning ∈ W0 := W0_of 292 (by decide +kernel) rfl
theorem m_G_78 : Cond.methodLink R_G 78 y_G_isWithin ∈ W0 := W0_of 296 (by decide +kernel) rfl
theorem m_G_371 : Cond.methodLink R_G 371 y_Road_notice ∈ W0 := W0_of 299 (by decide +kernel) rfl
theorem m_G_351 : Cond.methodLink R_G 351 y_Fc_foretells ∈ W0 := W0_of 303 (by decide +kernel) rfl
theorem m_Fc_32 : Cond.methodLink R_Fc 32 y_Road_goal ∈ W0 := W0_of 307 (by decide +kernel) rfl
theorem m_G_274 : Cond.methodLink R_G 274 y_G_digestOfLorry ∈ W0 := W0_of 308 (by decide +kernel) rfl
theorem m_G_238 : Cond.methodLink R_G 238 y_Lor_fact ∈ W0 := W0_of 311 (by decide +kernel) rfl
theorem m_Lor_44 : Cond.methodLink R_Lor 44 y_Lor_firstOrder ∈ W0 := W0_of 315 (by decide +kernel) rfl
theorem m_G_242 : Cond.methodLink R_G 242 y_G_shortestWay ∈ W0 := W0_of 319 (by decide +kernel) rfl
theorem q_G_278 : Cond.constant R_G 278 (1000000000 : Int32) ∈ W0 := W0_of 323 (by decide +kernel) rfl
theorem m_G_394 : Cond.methodLink R_G 394 y_Arrays_fill_53178 ∈ W0 := W0_of 324 (by decide +kernel) rfl
theorem m_G_400 : Cond.methodLink R_G 400 y_G_lower ∈ W0 := W0_of 327 (by decide +kernel) rfl
theorem m_G_410 : Cond.methodLink R_G 410 y_G_lowerWay ∈ W0 := W0_of 330 (by decide +kernel) rfl
theorem m_G_413 : Cond.methodLink R_G 413 y_G_numberAt ∈ W0 := W0_of 334 (by decide +kernel) rfl
theorem m_G_262 : Cond.methodLink R_G 262 y_Rows_best ∈ W0 := W0_of 337 (by decide +kernel) rfl
theorem q_Rows_24 : Cond.constant R_Rows 24 (1000000000 : Int32) ∈ W0 := W0_of 341 (by decide +kernel) rfl
theorem m_Rows_25 : Cond.methodLink R_Rows 25 y_Arrays_fill_53178 ∈ W0 := W0_of 342 (by decide +kernel) rfl
theorem m_Rows_35 : Cond.methodLink R_Rows 35 y_Rows_bestWhole ∈ W0 := W0_of 344 (by decide +kernel) rfl
theorem m_Rows_48 : Cond.methodLink R_Rows 48 y_Math_min_7cf53 ∈ W0 := W0_of 349 (by decide +kernel) rfl
theorem m_Rows_39 : Cond.methodLink R_Rows 39 y_Rows_lengthen ∈ W0 := W0_of 350 (by decide +kernel) rfl
theorem m_Rows_60 : Cond.methodLink R_Rows 60 y_Rows_goAlong ∈ W0 := W0_of 354 (by decide +kernel) rfl
theorem q_Rows_43 : Cond.constant R_Rows 43 (10000000 : Int32) ∈ W0 := W0_of 358 (by decide +kernel) rfl
theorem m_Law_83 : Cond.methodLink R_Law 83 y_Law_road ∈ W0 := W0_of 359 (by decide +kernel) rfl
theorem c_Law_13 : Cond.classLink R_Law 13 "java/lang/IndexOutOfBoundsException" ∈ W0 := W0_of 362 (by decide +kernel) rfl
theorem c_Law_15 : Cond.classLink R_Law 15 "java/lang/IllegalArgumentException" ∈ W0 := W0_of 363 (by decide +kernel) rfl
theorem c_Law_17 : Cond.classLink R_Law 17 "java/lang/IllegalStateException" ∈ W0 := W0_of 364 (by decide +kernel) rfl
theorem m_Law_7 : Cond.methodLink R_Law 7 y_G_road ∈ W0 := W0_of 365 (by decide +kernel) rfl
theorem m_G_62 : Cond.methodLink R_G 62 y_G_isNode ∈ W0 := W0_of 369 (by decide +kernel) rfl
theorem c_G_66 : Cond.classLink R_G 66 "java/lang/IndexOutOfBoundsException" ∈ W0 := W0_of 372 (by decide +kernel) rfl
theorem m_G_70 : Cond.methodLink R_G 70 ⟨"java/lang/IndexOutOfBoundsException", "<init>", "(Ljava/lang/String;)V"⟩ ∈ W0 := W0_of 414 (by decide +kernel) rfl
theorem a_byte : Cond.arrayClass Jvm.ClassFile.FieldType.byte ∈ W0 := W0_of 439 (by decide +kernel) rfl
theorem c_G_73 : Cond.classLink R_G 73 "java/lang/IllegalArgumentException" ∈ W0 := W0_of 440 (by decide +kernel) rfl
theorem m_G_77 : Cond.methodLink R_G 77 ⟨"java/lang/IllegalArgumentException", "<init>", "(Ljava/lang/String;)V"⟩ ∈ W0 := W0_of 450 (by decide +kernel) rfl
theorem c_G_87 : Cond.classLink R_G 87 "java/lang/IllegalStateException" ∈ W0 := W0_of 457 (by decide +kernel) rfl
theorem m_G_91 : Cond.methodLink R_G 91 ⟨"java/lang/IllegalStateException", "<init>", "(Ljava/lang/String;)V"⟩ ∈ W0 := W0_of 467 (by decide +kernel) rfl
theorem n_Road : Cond.instantiable R_Road 12 ∈ W0 := W0_of 473 (by decide +kernel) rfl
theorem m_G_92 : Cond.methodLink R_G 92 y_Road_init ∈ W0 := W0_of 474 (by decide +kernel) rfl
theorem m_Road_3 : Cond.methodLink R_Road 3 ⟨"java/lang/Object", "<init>", "()V"⟩ ∈ W0 := W0_of 477 (by decide +kernel) rfl
theorem c_Road_9 : Cond.classLink R_Road 9 R_Surf ∈ W0 := W0_of 478 (by decide +kernel) rfl
theorem f_Road_29 : Cond.fieldLink R_Road 29 "GritWatch$Road" "one" "I" ∈ W0 := W0_of 480 (by decide +kernel) rfl
theorem f_Rows_54 : Cond.fieldLink R_Rows 54 "GritWatch$Road" "one" "I" ∈ W0 := W0_of 481 (by decide +kernel) rfl
theorem f_G_404 : Cond.fieldLink R_G 404 "GritWatch$Road" "one" "I" ∈ W0 := W0_of 482 (by decide +kernel) rfl
theorem f_Road_32 : Cond.fieldLink R_Road 32 "GritWatch$Road" "other" "I" ∈ W0 := W0_of 483 (by decide +kernel) rfl
theorem f_Rows_57 : Cond.fieldLink R_Rows 57 "GritWatch$Road" "other" "I" ∈ W0 := W0_of 484 (by decide +kernel) rfl
theorem f_G_407 : Cond.fieldLink R_G 407 "GritWatch$Road" "other" "I" ∈ W0 := W0_of 485 (by decide +kernel) rfl
theorem f_Road_35 : Cond.fieldLink R_Road 35 "GritWatch$Road" "length" "I" ∈ W0 := W0_of 486 (by decide +kernel) rfl
theorem f_Rows_64 : Cond.fieldLink R_Rows 64 "GritWatch$Road" "length" "I" ∈ W0 := W0_of 487 (by decide +kernel) rfl
theorem f_G_311 : Cond.fieldLink R_G 311 "GritWatch$Road" "length" "I" ∈ W0 := W0_of 488 (by decide +kernel) rfl
theorem f_Road_38 : Cond.fieldLink R_Road 38 "GritWatch$Road" "rank" "I" ∈ W0 := W0_of 489 (by decide +kernel) rfl
theorem f_Rows_18 : Cond.fieldLink R_Rows 18 "GritWatch$Road" "rank" "I" ∈ W0 := W0_of 490 (by decide +kernel) rfl
theorem f_Road_41 : Cond.fieldLink R_Road 41 "GritWatch$Road" "height" "I" ∈ W0 := W0_of 491 (by decide +kernel) rfl
theorem f_Road_44 : Cond.fieldLink R_Road 44 "GritWatch$Road" "shade" "I" ∈ W0 := W0_of 492 (by decide +kernel) rfl
theorem f_Road_47 : Cond.fieldLink R_Road 47 "GritWatch$Road" "isBridge" "Z" ∈ W0 := W0_of 493 (by decide +kernel) rfl
theorem f_Road_12 : Cond.fieldLink R_Road 12 "GritWatch$Road" "surface" "LGritWatch$Surface;" ∈ W0 := W0_of 494 (by decide +kernel) rfl
theorem f_G_245 : Cond.fieldLink R_G 245 "GritWatch$Road" "surface" "LGritWatch$Surface;" ∈ W0 := W0_of 495 (by decide +kernel) rfl
theorem f_Road_18 : Cond.fieldLink R_Road 18 "GritWatch$Road" "slippery" "[Z" ∈ W0 := W0_of 496 (by decide +kernel) rfl
theorem f_Road_22 : Cond.fieldLink R_Road 22 "GritWatch$Road" "treated" "[Z" ∈ W0 := W0_of 497 (by decide +kernel) rfl
theorem f_Road_96 : Cond.fieldLink R_Road 96 "GritWatch$Road" "slipperyTimes" "I" ∈ W0 := W0_of 498 (by decide +kernel) rfl
theorem f_Road_25 : Cond.fieldLink R_Road 25 "GritWatch$Road" "lastTreated" "I" ∈ W0 := W0_of 499 (by decide +kernel) rfl
theorem a_boolean : Cond.arrayClass Jvm.ClassFile.FieldType.boolean ∈ W0 := W0_of 525 (by decide +kernel) rfl
theorem m_Law_93 : Cond.methodLink R_Law 93 y_Law_air ∈ W0 := W0_of 526 (by decide +kernel) rfl
theorem m_Law_19 : Cond.methodLink R_Law 19 y_G_air ∈ W0 := W0_of 529 (by decide +kernel) rfl
theorem m_G_95 : Cond.methodLink R_G 95 y_G_isAir ∈ W0 := W0_of 533 (by decide +kernel) rfl
theorem m_Law_97 : Cond.methodLink R_Law 97 y_Law_fall ∈ W0 := W0_of 537 (by decide +kernel) rfl
theorem m_Law_23 : Cond.methodLink R_Law 23 y_G_fall ∈ W0 := W0_of 540 (by decide +kernel) rfl
theorem m_Law_101 : Cond.methodLink R_Law 101 y_Law_forecast ∈ W0 := W0_of 545 (by decide +kernel) rfl
theorem m_Law_27 : Cond.methodLink R_Law 27 y_G_forecast ∈ W0 := W0_of 548 (by decide +kernel) rfl
theorem n_Fc : Cond.instantiable R_Fc 7 ∈ W0 := W0_of 555 (by decide +kernel) rfl
theorem m_G_134 : Cond.methodLink R_G 134 y_Fc_init ∈ W0 := W0_of 556 (by decide +kernel) rfl
theorem m_Fc_1 : Cond.methodLink R_Fc 1 ⟨"java/lang/Object", "<init>", "()V"⟩ ∈ W0 := W0_of 559 (by decide +kernel) rfl
theorem f_Fc_7 : Cond.fieldLink R_Fc 7 "GritWatch$Forecast" "toldAt" "I" ∈ W0 := W0_of 560 (by decide +kernel) rfl
theorem f_G_368 : Cond.fieldLink R_G 368 "GritWatch$Forecast" "toldAt" "I" ∈ W0 := W0_of 561 (by decide +kernel) rfl
theorem f_Fc_13 : Cond.fieldLink R_Fc 13 "GritWatch$Forecast" "quarter" "I" ∈ W0 := W0_of 562 (by decide +kernel) rfl
theorem f_G_367 : Cond.fieldLink R_G 367 "GritWatch$Forecast" "quarter" "I" ∈ W0 := W0_of 563 (by decide +kernel) rfl
theorem f_Fc_16 : Cond.fieldLink R_Fc 16 "GritWatch$Forecast" "salt" "I" ∈ W0 := W0_of 564 (by decide +kernel) rfl
theorem f_G_366 : Cond.fieldLink R_G 366 "GritWatch$Forecast" "salt" "I" ∈ W0 := W0_of 565 (by decide +kernel) rfl
theorem f_Fc_19 : Cond.fieldLink R_Fc 19 "GritWatch$Forecast" "first" "I" ∈ W0 := W0_of 566 (by decide +kernel) rfl
theorem f_Fc_22 : Cond.fieldLink R_Fc 22 "GritWatch$Forecast" "second" "I" ∈ W0 := W0_of 567 (by decide +kernel) rfl
theorem f_Fc_25 : Cond.fieldLink R_Fc 25 "GritWatch$Forecast" "third" "I" ∈ W0 := W0_of 568 (by decide +kernel) rfl
theorem f_Fc_28 : Cond.fieldLink R_Fc 28 "GritWatch$Forecast" "isClear" "Z" ∈ W0 := W0_of 569 (by decide +kernel) rfl
theorem m_G_137 : Cond.methodLink R_G 137 y_Fc_tellMembers ∈ W0 := W0_of 585 (by decide +kernel) rfl
theorem m_G_141 : Cond.methodLink R_G 141 y_G_roadsForetold ∈ W0 := W0_of 589 (by decide +kernel) rfl
theorem m_Law_105 : Cond.methodLink R_Law 105 y_Law_pass ∈ W0 := W0_of 593 (by decide +kernel) rfl
theorem m_Law_31 : Cond.methodLink R_Law 31 y_G_pass ∈ W0 := W0_of 596 (by decide +kernel) rfl
theorem m_G_149 : Cond.methodLink R_G 149 y_G_passQuarter ∈ W0 := W0_of 602 (by decide +kernel) rfl
theorem m_G_283 : Cond.methodLink R_G 283 y_Road_noteSlippery ∈ W0 := W0_of 606 (by decide +kernel) rfl
theorem m_Road_92 : Cond.methodLink R_Road 92 y_Surf_isSlippery ∈ W0 := W0_of 610 (by decide +kernel) rfl
theorem m_G_286 : Cond.methodLink R_G 286 y_G_work ∈ W0 := W0_of 611 (by decide +kernel) rfl
theorem m_G_293 : Cond.methodLink R_G 293 y_Lor_firstOrder ∈ W0 := W0_of 615 (by decide +kernel) rfl
theorem m_G_174 : Cond.methodLink R_G 174 y_G_roadAt ∈ W0 := W0_of 616 (by decide +kernel) rfl
theorem m_G_296 : Cond.methodLink R_G 296 y_Road_joins ∈ W0 := W0_of 620 (by decide +kernel) rfl
theorem m_G_299 : Cond.methodLink R_G 299 y_Lor_dropFirstOrder ∈ W0 := W0_of 624 (by decide +kernel) rfl
theorem m_Lor_26 : Cond.methodLink R_Lor 26 y_Math_max_7cf53 ∈ W0 := W0_of 628 (by decide +kernel) rfl
theorem m_G_302 : Cond.methodLink R_G 302 y_Road_otherEnd ∈ W0 := W0_of 629 (by decide +kernel) rfl
theorem m_G_314 : Cond.methodLink R_G 314 y_Lor_arrive ∈ W0 := W0_of 633 (by decide +kernel) rfl
theorem m_Lor_41 : Cond.methodLink R_Lor 41 y_Lor_dropFirstOrder ∈ W0 := W0_of 637 (by decide +kernel) rfl
theorem m_G_317 : Cond.methodLink R_G 317 y_G_treat ∈ W0 := W0_of 638 (by decide +kernel) rfl
theorem m_G_197 : Cond.methodLink R_G 197 y_Math_min_7cf53 ∈ W0 := W0_of 642 (by decide +kernel) rfl
theorem m_G_336 : Cond.methodLink R_G 336 y_Road_noteTreated ∈ W0 := W0_of 643 (by decide +kernel) rfl
theorem m_G_290 : Cond.methodLink R_G 290 y_G_takeDeliveries ∈ W0 := W0_of 647 (by decide +kernel) rfl
theorem m_Law_109 : Cond.methodLink R_Law 109 y_Law_lorry ∈ W0 := W0_of 651 (by decide +kernel) rfl
theorem m_Law_35 : Cond.methodLink R_Law 35 y_G_lorry ∈ W0 := W0_of 654 (by decide +kernel) rfl
theorem n_Lor : Cond.instantiable R_Lor 10 ∈ W0 := W0_of 659 (by decide +kernel) rfl
theorem m_G_160 : Cond.methodLink R_G 160 y_Lor_init ∈ W0 := W0_of 660 (by decide +kernel) rfl
theorem m_Lor_3 : Cond.methodLink R_Lor 3 ⟨"java/lang/Object", "<init>", "()V"⟩ ∈ W0 := W0_of 663 (by decide +kernel) rfl
theorem f_Lor_19 : Cond.fieldLink R_Lor 19 "GritWatch$Lorry" "hasPlough" "Z" ∈ W0 := W0_of 664 (by decide +kernel) rfl
theorem f_G_327 : Cond.fieldLink R_G 327 "GritWatch$Lorry" "hasPlough" "Z" ∈ W0 := W0_of 665 (by decide +kernel) rfl
theorem f_Lor_9 : Cond.fieldLink R_Lor 9 "GritWatch$Lorry" "orders" "[I" ∈ W0 := W0_of 666 (by decide +kernel) rfl
theorem f_Lor_23 : Cond.fieldLink R_Lor 23 "GritWatch$Lorry" "orderCount" "I" ∈ W0 := W0_of 667 (by decide +kernel) rfl
theorem f_G_180 : Cond.fieldLink R_G 180 "GritWatch$Lorry" "orderCount" "I" ∈ W0 := W0_of 668 (by decide +kernel) rfl
theorem f_Lor_35 : Cond.fieldLink R_Lor 35 "GritWatch$Lorry" "node" "I" ∈ W0 := W0_of 669 (by decide +kernel) rfl
theorem f_G_189 : Cond.fieldLink R_G 189 "GritWatch$Lorry" "node" "I" ∈ W0 := W0_of 670 (by decide +kernel) rfl
theorem f_Lor_32 : Cond.fieldLink R_Lor 32 "GritWatch$Lorry" "ahead" "I" ∈ W0 := W0_of 671 (by decide +kernel) rfl
theorem f_G_305 : Cond.fieldLink R_G 305 "GritWatch$Lorry" "ahead" "I" ∈ W0 := W0_of 672 (by decide +kernel) rfl
theorem f_Lor_38 : Cond.fieldLink R_Lor 38 "GritWatch$Lorry" "done" "I" ∈ W0 := W0_of 673 (by decide +kernel) rfl
theorem f_G_308 : Cond.fieldLink R_G 308 "GritWatch$Lorry" "done" "I" ∈ W0 := W0_of 674 (by decide +kernel) rfl
theorem f_Lor_48 : Cond.fieldLink R_Lor 48 "GritWatch$Lorry" "hopper" "I" ∈ W0 := W0_of 675 (by decide +kernel) rfl
theorem f_G_194 : Cond.fieldLink R_G 194 "GritWatch$Lorry" "hopper" "I" ∈ W0 := W0_of 676 (by decide +kernel) rfl
theorem f_Lor_15 : Cond.fieldLink R_Lor 15 "GritWatch$Lorry" "rate" "I" ∈ W0 := W0_of 677 (by decide +kernel) rfl
theorem f_G_171 : Cond.fieldLink R_G 171 "GritWatch$Lorry" "rate" "I" ∈ W0 := W0_of 678 (by decide +kernel) rfl
theorem f_Lor_51 : Cond.fieldLink R_Lor 51 "GritWatch$Lorry" "hours" "I" ∈ W0 := W0_of 679 (by decide +kernel) rfl
theorem f_G_205 : Cond.fieldLink R_G 205 "GritWatch$Lorry" "hours" "I" ∈ W0 := W0_of 680 (by decide +kernel) rfl
theorem f_Lor_54 : Cond.fieldLink R_Lor 54 "GritWatch$Lorry" "spread" "I" ∈ W0 := W0_of 681 (by decide +kernel) rfl
theorem f_G_321 : Cond.fieldLink R_G 321 "GritWatch$Lorry" "spread" "I" ∈ W0 := W0_of 682 (by decide +kernel) rfl
theorem m_Law_113 : Cond.methodLink R_Law 113 y_Law_rate ∈ W0 := W0_of 704 (by decide +kernel) rfl
theorem m_Law_39 : Cond.methodLink R_Law 39 y_G_rate ∈ W0 := W0_of 707 (by decide +kernel) rfl
theorem m_G_163 : Cond.methodLink R_G 163 y_G_lorryAt ∈ W0 := W0_of 711 (by decide +kernel) rfl
theorem m_Law_117 : Cond.methodLink R_Law 117 y_Law_order ∈ W0 := W0_of 717 (by decide +kernel) rfl
theorem m_Law_43 : Cond.methodLink R_Law 43 y_G_order ∈ W0 := W0_of 720 (by decide +kernel) rfl
theorem m_G_185 : Cond.methodLink R_G 185 y_Lor_addOrder ∈ W0 := W0_of 726 (by decide +kernel) rfl
theorem m_Law_120 : Cond.methodLink R_Law 120 y_Law_load ∈ W0 := W0_of 730 (by decide +kernel) rfl
theorem m_Law_46 : Cond.methodLink R_Law 46 y_G_load ∈ W0 := W0_of 733 (by decide +kernel) rfl
theorem m_Law_123 : Cond.methodLink R_Law 123 y_Law_rest ∈ W0 := W0_of 738 (by decide +kernel) rfl
theorem m_Law_49 : Cond.methodLink R_Law 49 y_G_rest ∈ W0 := W0_of 741 (by decide +kernel) rfl
theorem m_Law_126 : Cond.methodLink R_Law 126 y_Law_deliver ∈ W0 := W0_of 746 (by decide +kernel) rfl
theorem m_Law_52 : Cond.methodLink R_Law 52 y_G_deliver ∈ W0 := W0_of 749 (by decide +kernel) rfl
theorem n_Del : Cond.instantiable R_Del 2 ∈ W0 := W0_of 755 (by decide +kernel) rfl
theorem m_G_215 : Cond.methodLink R_G 215 y_Del_init ∈ W0 := W0_of 756 (by decide +kernel) rfl
theorem m_Del_1 : Cond.methodLink R_Del 1 ⟨"java/lang/Object", "<init>", "()V"⟩ ∈ W0 := W0_of 759 (by decide +kernel) rfl
theorem f_Del_7 : Cond.fieldLink R_Del 7 "GritWatch$Delivery" "amount" "I" ∈ W0 := W0_of 760 (by decide +kernel) rfl
theorem f_G_342 : Cond.fieldLink R_G 342 "GritWatch$Delivery" "amount" "I" ∈ W0 := W0_of 761 (by decide +kernel) rfl
theorem f_Del_13 : Cond.fieldLink R_Del 13 "GritWatch$Delivery" "quarter" "I" ∈ W0 := W0_of 762 (by decide +kernel) rfl
theorem f_G_339 : Cond.fieldLink R_G 339 "GritWatch$Delivery" "quarter" "I" ∈ W0 := W0_of 763 (by decide +kernel) rfl
theorem m_G_218 : Cond.methodLink R_G 218 y_G_keepDelivery ∈ W0 := W0_of 769 (by decide +kernel) rfl
theorem m_Law_129 : Cond.methodLink R_Law 129 y_Law_claim ∈ W0 := W0_of 773 (by decide +kernel) rfl
theorem m_Law_55 : Cond.methodLink R_Law 55 y_G_claim ∈ W0 := W0_of 776 (by decide +kernel) rfl
theorem m_Law_132 : Cond.methodLink R_Law 132 y_Law_ofRoad ∈ W0 := W0_of 782 (by decide +kernel) rfl
theorem m_Law_58 : Cond.methodLink R_Law 58 y_G_ofRoad ∈ W0 := W0_of 785 (by decide +kernel) rfl
theorem m_Law_135 : Cond.methodLink R_Law 135 y_Law_ofLorry ∈ W0 := W0_of 790 (by decide +kernel) rfl
theorem m_Law_61 : Cond.methodLink R_Law 61 y_G_ofLorry ∈ W0 := W0_of 793 (by decide +kernel) rfl
theorem m_Law_138 : Cond.methodLink R_Law 138 y_Law_many ∈ W0 := W0_of 798 (by decide +kernel) rfl
theorem m_Law_64 : Cond.methodLink R_Law 64 y_G_many ∈ W0 := W0_of 801 (by decide +kernel) rfl
theorem m_Law_141 : Cond.methodLink R_Law 141 y_Law_way ∈ W0 := W0_of 805 (by decide +kernel) rfl
theorem m_Law_67 : Cond.methodLink R_Law 67 y_G_way ∈ W0 := W0_of 808 (by decide +kernel) rfl
theorem m_Law_149 : Cond.methodLink R_Law 149 y_Law_slipperyIn ∈ W0 := W0_of 812 (by decide +kernel) rfl
theorem m_Law_70 : Cond.methodLink R_Law 70 y_G_slipperyIn ∈ W0 := W0_of 815 (by decide +kernel) rfl
theorem m_Law_152 : Cond.methodLink R_Law 152 y_Law_saltFor ∈ W0 := W0_of 820 (by decide +kernel) rfl
theorem m_Law_73 : Cond.methodLink R_Law 73 y_G_saltFor ∈ W0 := W0_of 823 (by decide +kernel) rfl
theorem m_Law_155 : Cond.methodLink R_Law 155 y_Law_bestOrders ∈ W0 := W0_of 827 (by decide +kernel) rfl
theorem m_Law_76 : Cond.methodLink R_Law 76 y_G_bestOrders ∈ W0 := W0_of 830 (by decide +kernel) rfl
theorem c_Law_80 : Cond.classLink R_Law 80 R_M ∈ W0 := W0_of 835 (by decide +kernel) rfl
theorem n_M : Cond.instantiable R_M 16 ∈ W0 := W0_of 836 (by decide +kernel) rfl
theorem m_Law_82 : Cond.methodLink R_Law 82 y_M_init ∈ W0 := W0_of 837 (by decide +kernel) rfl
theorem m_M_1 : Cond.methodLink R_M 1 ⟨"java/lang/Object", "<init>", "()V"⟩ ∈ W0 := W0_of 840 (by decide +kernel) rfl
theorem c_M_7 : Cond.classLink R_M 7 R_AL ∈ W0 := W0_of 841 (by decide +kernel) rfl
theorem n_AL : Cond.instantiable R_AL 3 ∈ W0 := W0_of 842 (by decide +kernel) rfl
theorem m_M_9 : Cond.methodLink R_M 9 y_AL_init_da8c8 ∈ W0 := W0_of 843 (by decide +kernel) rfl
theorem m_AL_1 : Cond.methodLink R_AL 1 y_AbL_init_da8c8 ∈ W0 := W0_of 846 (by decide +kernel) rfl
theorem m_AbL_1 : Cond.methodLink R_AbL 1 y_AbC_init_da8c8 ∈ W0 := W0_of 849 (by decide +kernel) rfl
theorem m_AbC_1 : Cond.methodLink R_AbC 1 ⟨"java/lang/Object", "<init>", "()V"⟩ ∈ W0 := W0_of 852 (by decide +kernel) rfl
theorem f_AL_39 : Cond.fieldLink R_AL 39 "java/util/ArrayList" "DEFAULTCAPACITY_EMPTY_ELEMENTDATA" "[Ljava/lang/Object;" ∈ W0 := W0_of 853 (by decide +kernel) rfl
theorem f_AL_9 : Cond.fieldLink R_AL 9 "java/util/ArrayList" "elementData" "[Ljava/lang/Object;" ∈ W0 := W0_of 855 (by decide +kernel) rfl
theorem f_AL_48 : Cond.fieldLink R_AL 48 "java/util/ArrayList" "size" "I" ∈ W0 := W0_of 856 (by decide +kernel) rfl
theorem f_AbL_7 : Cond.fieldLink R_AbL 7 "java/util/AbstractList" "modCount" "I" ∈ W0 := W0_of 857 (by decide +kernel) rfl
theorem f_AL_63 : Cond.fieldLink R_AL 63 "java/util/ArrayList" "modCount" "I" ∈ W0 := W0_of 858 (by decide +kernel) rfl
theorem c_M_19 : Cond.classLink R_M 19 "[[I" ∈ W0 := W0_of 867 (by decide +kernel) rfl
theorem c_M_27 : Cond.classLink R_M 27 R_MWea ∈ W0 := W0_of 869 (by decide +kernel) rfl
theorem n_MWea : Cond.instantiable R_MWea 5 ∈ W0 := W0_of 870 (by decide +kernel) rfl
theorem m_MWea_1 : Cond.methodLink R_MWea 1 ⟨"java/lang/Object", "<init>", "()V"⟩ ∈ W0 := W0_of 874 (by decide +kernel) rfl
theorem f_MWea_7 : Cond.fieldLink R_MWea 7 "GritWatchModel$Weather" "air" "I" ∈ W0 := W0_of 875 (by decide +kernel) rfl
theorem f_MRoad_68 : Cond.fieldLink R_MRoad 68 "GritWatchModel$Weather" "air" "I" ∈ W0 := W0_of 876 (by decide +kernel) rfl
theorem f_M_185 : Cond.fieldLink R_M 185 "GritWatchModel$Weather" "air" "I" ∈ W0 := W0_of 877 (by decide +kernel) rfl
theorem f_MRoad_83 : Cond.fieldLink R_MRoad 83 "GritWatchModel$Weather" "rain" "I" ∈ W0 := W0_of 878 (by decide +kernel) rfl
theorem f_M_194 : Cond.fieldLink R_M 194 "GritWatchModel$Weather" "rain" "I" ∈ W0 := W0_of 879 (by decide +kernel) rfl
theorem f_MRoad_86 : Cond.fieldLink R_MRoad 86 "GritWatchModel$Weather" "flakes" "I" ∈ W0 := W0_of 880 (by decide +kernel) rfl
theorem f_M_197 : Cond.fieldLink R_M 197 "GritWatchModel$Weather" "flakes" "I" ∈ W0 := W0_of 881 (by decide +kernel) rfl
theorem f_MRoad_99 : Cond.fieldLink R_MRoad 99 "GritWatchModel$Weather" "wind" "I" ∈ W0 := W0_of 882 (by decide +kernel) rfl
theorem f_M_191 : Cond.fieldLink R_M 191 "GritWatchModel$Weather" "wind" "I" ∈ W0 := W0_of 883 (by decide +kernel) rfl
theorem f_MRoad_73 : Cond.fieldLink R_MRoad 73 "GritWatchModel$Weather" "isClear" "Z" ∈ W0 := W0_of 884 (by decide +kernel) rfl
theorem f_M_188 : Cond.fieldLink R_M 188 "GritWatchModel$Weather" "isClear" "Z" ∈ W0 := W0_of 885 (by decide +kernel) rfl
theorem f_M_38 : Cond.fieldLink R_M 38 "GritWatchModel" "thrown" "I" ∈ W0 := W0_of 897 (by decide +kernel) rfl
theorem f_M_10 : Cond.fieldLink R_M 10 "GritWatchModel" "roads" "Ljava/util/List;" ∈ W0 := W0_of 898 (by decide +kernel) rfl
theorem f_M_16 : Cond.fieldLink R_M 16 "GritWatchModel" "lorries" "Ljava/util/List;" ∈ W0 := W0_of 899 (by decide +kernel) rfl
theorem f_M_21 : Cond.fieldLink R_M 21 "GritWatchModel" "forecasts" "[[I" ∈ W0 := W0_of 900 (by decide +kernel) rfl
theorem f_M_24 : Cond.fieldLink R_M 24 "GritWatchModel" "deliveries" "[[I" ∈ W0 := W0_of 901 (by decide +kernel) rfl
theorem f_M_30 : Cond.fieldLink R_M 30 "GritWatchModel" "weather" "LGritWatchModel$Weather;" ∈ W0 := W0_of 902 (by decide +kernel) rfl
theorem f_M_204 : Cond.fieldLink R_M 204 "GritWatchModel" "forecastCount" "I" ∈ W0 := W0_of 903 (by decide +kernel) rfl
theorem f_M_158 : Cond.fieldLink R_M 158 "GritWatchModel" "deliveryCount" "I" ∈ W0 := W0_of 904 (by decide +kernel) rfl
theorem f_M_114 : Cond.fieldLink R_M 114 "GritWatchModel" "now" "I" ∈ W0 := W0_of 905 (by decide +kernel) rfl
theorem f_M_34 : Cond.fieldLink R_M 34 "GritWatchModel" "barn" "I" ∈ W0 := W0_of 906 (by decide +kernel) rfl
theorem f_M_138 : Cond.fieldLink R_M 138 "GritWatchModel" "river" "I" ∈ W0 := W0_of 907 (by decide +kernel) rfl
theorem f_M_144 : Cond.fieldLink R_M 144 "GritWatchModel" "fields" "I" ∈ W0 := W0_of 908 (by decide +kernel) rfl
theorem f_M_164 : Cond.fieldLink R_M 164 "GritWatchModel" "returned" "I" ∈ W0 := W0_of 909 (by decide +kernel) rfl
theorem f_M_150 : Cond.fieldLink R_M 150 "GritWatchModel" "ranOff" "I" ∈ W0 := W0_of 910 (by decide +kernel) rfl
theorem f_M_108 : Cond.fieldLink R_M 108 "GritWatchModel" "ploughed" "I" ∈ W0 := W0_of 911 (by decide +kernel) rfl
theorem f_M_161 : Cond.fieldLink R_M 161 "GritWatchModel" "delivered" "I" ∈ W0 := W0_of 912 (by decide +kernel) rfl
theorem m_Law_89 : Cond.methodLink R_Law 89 y_M_thrown ∈ W0 := W0_of 946 (by decide +kernel) rfl
theorem m_Law_88 : Cond.methodLink R_Law 88 y_M_road ∈ W0 := W0_of 950 (by decide +kernel) rfl
theorem m_M_171 : Cond.methodLink R_M 171 y_M_isNode ∈ W0 := W0_of 954 (by decide +kernel) rfl
theorem m_M_167 : Cond.methodLink R_M 167 y_M_in ∈ W0 := W0_of 957 (by decide +kernel) rfl
theorem m_M_174 : Cond.methodLink R_M 174 y_M_no ∈ W0 := W0_of 960 (by decide +kernel) rfl
theorem m_M_124 : Cond.methodLink R_M 124 ⟨"java/util/List", "size", "()I"⟩ ∈ W0 := W0_of 965 (by decide +kernel) rfl
theorem c_M_59 : Cond.classLink R_M 59 R_MRoad ∈ W0 := W0_of 974 (by decide +kernel) rfl
theorem n_MRoad : Cond.instantiable R_MRoad 19 ∈ W0 := W0_of 975 (by decide +kernel) rfl
theorem m_M_178 : Cond.methodLink R_M 178 y_MRoad_init ∈ W0 := W0_of 976 (by decide +kernel) rfl
theorem m_MRoad_3 : Cond.methodLink R_MRoad 3 ⟨"java/lang/Object", "<init>", "()V"⟩ ∈ W0 := W0_of 979 (by decide +kernel) rfl
theorem f_MRoad_25 : Cond.fieldLink R_MRoad 25 "GritWatchModel$Road" "one" "I" ∈ W0 := W0_of 980 (by decide +kernel) rfl
theorem f_M_80 : Cond.fieldLink R_M 80 "GritWatchModel$Road" "one" "I" ∈ W0 := W0_of 981 (by decide +kernel) rfl
theorem f_MRoad_28 : Cond.fieldLink R_MRoad 28 "GritWatchModel$Road" "other" "I" ∈ W0 := W0_of 982 (by decide +kernel) rfl
theorem f_M_83 : Cond.fieldLink R_M 83 "GritWatchModel$Road" "other" "I" ∈ W0 := W0_of 983 (by decide +kernel) rfl
theorem f_MRoad_31 : Cond.fieldLink R_MRoad 31 "GritWatchModel$Road" "length" "I" ∈ W0 := W0_of 984 (by decide +kernel) rfl
theorem f_M_77 : Cond.fieldLink R_M 77 "GritWatchModel$Road" "length" "I" ∈ W0 := W0_of 985 (by decide +kernel) rfl
theorem f_MRoad_34 : Cond.fieldLink R_MRoad 34 "GritWatchModel$Road" "rank" "I" ∈ W0 := W0_of 986 (by decide +kernel) rfl
theorem f_M_235 : Cond.fieldLink R_M 235 "GritWatchModel$Road" "rank" "I" ∈ W0 := W0_of 987 (by decide +kernel) rfl
theorem f_MRoad_37 : Cond.fieldLink R_MRoad 37 "GritWatchModel$Road" "height" "I" ∈ W0 := W0_of 988 (by decide +kernel) rfl
theorem f_MRoad_40 : Cond.fieldLink R_MRoad 40 "GritWatchModel$Road" "shade" "I" ∈ W0 := W0_of 989 (by decide +kernel) rfl
theorem f_MRoad_43 : Cond.fieldLink R_MRoad 43 "GritWatchModel$Road" "isBridge" "Z" ∈ W0 := W0_of 990 (by decide +kernel) rfl
theorem f_MRoad_9 : Cond.fieldLink R_MRoad 9 "GritWatchModel$Road" "warmth" "I" ∈ W0 := W0_of 991 (by decide +kernel) rfl
theorem f_M_252 : Cond.fieldLink R_M 252 "GritWatchModel$Road" "warmth" "I" ∈ W0 := W0_of 992 (by decide +kernel) rfl
theorem f_MRoad_47 : Cond.fieldLink R_MRoad 47 "GritWatchModel$Road" "water" "I" ∈ W0 := W0_of 993 (by decide +kernel) rfl
theorem f_MRoad_50 : Cond.fieldLink R_MRoad 50 "GritWatchModel$Road" "ice" "I" ∈ W0 := W0_of 994 (by decide +kernel) rfl
theorem f_MRoad_53 : Cond.fieldLink R_MRoad 53 "GritWatchModel$Road" "snow" "I" ∈ W0 := W0_of 995 (by decide +kernel) rfl
theorem f_M_111 : Cond.fieldLink R_M 111 "GritWatchModel$Road" "snow" "I" ∈ W0 := W0_of 996 (by decide +kernel) rfl
theorem f_MRoad_56 : Cond.fieldLink R_MRoad 56 "GritWatchModel$Road" "salt" "I" ∈ W0 := W0_of 997 (by decide +kernel) rfl
theorem f_M_101 : Cond.fieldLink R_M 101 "GritWatchModel$Road" "salt" "I" ∈ W0 := W0_of 998 (by decide +kernel) rfl
theorem f_M_135 : Cond.fieldLink R_M 135 "GritWatchModel$Road" "slippery" "I" ∈ W0 := W0_of 999 (by decide +kernel) rfl
theorem f_MRoad_105 : Cond.fieldLink R_MRoad 105 "GritWatchModel$Road" "slippery" "I" ∈ W0 := W0_of 1000 (by decide +kernel) rfl
theorem f_MRoad_15 : Cond.fieldLink R_MRoad 15 "GritWatchModel$Road" "treated" "I" ∈ W0 := W0_of 1001 (by decide +kernel) rfl
theorem f_M_117 : Cond.fieldLink R_M 117 "GritWatchModel$Road" "treated" "I" ∈ W0 := W0_of 1002 (by decide +kernel) rfl
theorem f_M_141 : Cond.fieldLink R_M 141 "GritWatchModel$Road" "toRiver" "I" ∈ W0 := W0_of 1003 (by decide +kernel) rfl
theorem f_MRoad_96 : Cond.fieldLink R_MRoad 96 "GritWatchModel$Road" "toRiver" "I" ∈ W0 := W0_of 1004 (by decide +kernel) rfl
theorem f_M_147 : Cond.fieldLink R_M 147 "GritWatchModel$Road" "toFields" "I" ∈ W0 := W0_of 1005 (by decide +kernel) rfl
theorem f_MRoad_102 : Cond.fieldLink R_MRoad 102 "GritWatchModel$Road" "toFields" "I" ∈ W0 := W0_of 1006 (by decide +kernel) rfl
theorem f_M_153 : Cond.fieldLink R_M 153 "GritWatchModel$Road" "ranOff" "I" ∈ W0 := W0_of 1007 (by decide +kernel) rfl
theorem f_MRoad_93 : Cond.fieldLink R_MRoad 93 "GritWatchModel$Road" "ranOff" "I" ∈ W0 := W0_of 1008 (by decide +kernel) rfl
theorem f_MRoad_18 : Cond.fieldLink R_MRoad 18 "GritWatchModel$Road" "wasSlippery" "[Z" ∈ W0 := W0_of 1009 (by decide +kernel) rfl
theorem f_M_132 : Cond.fieldLink R_M 132 "GritWatchModel$Road" "wasSlippery" "[Z" ∈ W0 := W0_of 1010 (by decide +kernel) rfl
theorem f_MRoad_22 : Cond.fieldLink R_MRoad 22 "GritWatchModel$Road" "wasTreated" "[Z" ∈ W0 := W0_of 1011 (by decide +kernel) rfl
theorem f_M_120 : Cond.fieldLink R_M 120 "GritWatchModel$Road" "wasTreated" "[Z" ∈ W0 := W0_of 1012 (by decide +kernel) rfl
theorem m_M_181 : Cond.methodLink R_M 181 ⟨"java/util/List", "add", "(Ljava/lang/Object;)Z"⟩ ∈ W0 := W0_of 1053 (by decide +kernel) rfl
theorem m_AL_131 : Cond.methodLink R_AL 131 y_AL_add_72be8 ∈ W0 := W0_of 1061 (by decide +kernel) rfl
theorem m_AL_129 : Cond.methodLink R_AL 129 y_AL_grow_d5877 ∈ W0 := W0_of 1065 (by decide +kernel) rfl
theorem m_AL_69 : Cond.methodLink R_AL 69 y_AL_grow_92f84 ∈ W0 := W0_of 1069 (by decide +kernel) rfl
theorem m_AL_73 : Cond.methodLink R_AL 73 y_ArrS_newLength_cabcc ∈ W0 := W0_of 1073 (by decide +kernel) rfl
theorem m_ArrS_194 : Cond.methodLink R_ArrS 194 y_Math_max_7cf53 ∈ W0 := W0_of 1076 (by decide +kernel) rfl
theorem q_ArrS_200 : Cond.constant R_ArrS 200 (2147483639 : Int32) ∈ W0 := W0_of 1077 (by decide +kernel) rfl
theorem m_ArrS_201 : Cond.methodLink R_ArrS 201 y_ArrS_hugeLength_7cf53 ∈ W0 := W0_of 1078 (by decide +kernel) rfl
theorem m_AL_66 : Cond.methodLink R_AL 66 y_Arrays_copyOf_1904c ∈ W0 := W0_of 1081 (by decide +kernel) rfl
theorem m_Arrays_86 : Cond.methodLink R_Arrays 86 ⟨"java/lang/Object", "getClass", "()Ljava/lang/Class;"⟩ ∈ W0 := W0_of 1084 (by decide +kernel) rfl
theorem m_Arrays_300 : Cond.methodLink R_Arrays 300 y_Arrays_copyOf_6403c ∈ W0 := W0_of 1104 (by decide +kernel) rfl
theorem c_Arrays_110 : Cond.classLink R_Arrays 110 "[Ljava/lang/Object;" ∈ W0 := W0_of 1107 (by decide +kernel) rfl
theorem c_Arrays_2 : Cond.classLink R_Arrays 2 "java/lang/Object" ∈ W0 := W0_of 1109 (by decide +kernel) rfl
theorem m_Arrays_304 : Cond.methodLink R_Arrays 304 y_Math_min_7cf53 ∈ W0 := W0_of 1110 (by decide +kernel) rfl
theorem m_Arrays_150 : Cond.methodLink R_Arrays 150 ⟨"java/lang/System", "arraycopy", "(Ljava/lang/Object;ILjava/lang/Object;II)V"⟩ ∈ W0 := W0_of 1111 (by decide +kernel) rfl
theorem m_AL_79 : Cond.methodLink R_AL 79 y_Math_max_7cf53 ∈ W0 := W0_of 1114 (by decide +kernel) rfl
theorem c_AL_7 : Cond.classLink R_AL 7 "java/lang/Object" ∈ W0 := W0_of 1115 (by decide +kernel) rfl
theorem m_Law_96 : Cond.methodLink R_Law 96 y_M_air ∈ W0 := W0_of 1116 (by decide +kernel) rfl
theorem m_Law_100 : Cond.methodLink R_Law 100 y_M_fall ∈ W0 := W0_of 1120 (by decide +kernel) rfl
theorem m_Law_104 : Cond.methodLink R_Law 104 y_M_forecast ∈ W0 := W0_of 1124 (by decide +kernel) rfl
theorem m_M_207 : Cond.methodLink R_M 207 y_M_inHoppers ∈ W0 := W0_of 1128 (by decide +kernel) rfl
theorem m_M_53 : Cond.methodLink R_M 53 ⟨"java/util/List", "get", "(I)Ljava/lang/Object;"⟩ ∈ W0 := W0_of 1133 (by decide +kernel) rfl
theorem m_AL_118 : Cond.methodLink R_AL 118 y_Objs_checkIndex_7cf53 ∈ W0 := W0_of 1141 (by decide +kernel) rfl
theorem m_Objs_105 : Cond.methodLink R_Objs 105 y_Prec_checkIndex_8e157 ∈ W0 := W0_of 1144 (by decide +kernel) rfl
theorem m_AL_123 : Cond.methodLink R_AL 123 y_AL_elementData_915e3 ∈ W0 := W0_of 1147 (by decide +kernel) rfl
theorem c_M_42 : Cond.classLink R_M 42 R_MLor ∈ W0 := W0_of 1151 (by decide +kernel) rfl
theorem m_M_210 : Cond.methodLink R_M 210 ⟨"java/lang/System", "arraycopy", "(Ljava/lang/Object;ILjava/lang/Object;II)V"⟩ ∈ W0 := W0_of 1152 (by decide +kernel) rfl
theorem m_M_216 : Cond.methodLink R_M 216 y_M_isForetold ∈ W0 := W0_of 1153 (by decide +kernel) rfl
theorem m_M_200 : Cond.methodLink R_M 200 y_MRoad_goal ∈ W0 := W0_of 1156 (by decide +kernel) rfl
theorem m_Law_108 : Cond.methodLink R_Law 108 y_M_pass ∈ W0 := W0_of 1160 (by decide +kernel) rfl
theorem m_M_220 : Cond.methodLink R_M 220 y_M_quarter ∈ W0 := W0_of 1164 (by decide +kernel) rfl
theorem m_M_128 : Cond.methodLink R_M 128 y_MRoad_pass ∈ W0 := W0_of 1168 (by decide +kernel) rfl
theorem m_MRoad_76 : Cond.methodLink R_MRoad 76 y_MRoad_goal ∈ W0 := W0_of 1172 (by decide +kernel) rfl
theorem m_MRoad_80 : Cond.methodLink R_MRoad 80 y_Math_min_7cf53 ∈ W0 := W0_of 1173 (by decide +kernel) rfl
theorem m_MRoad_62 : Cond.methodLink R_MRoad 62 y_Math_max_7cf53 ∈ W0 := W0_of 1174 (by decide +kernel) rfl
theorem m_MRoad_89 : Cond.methodLink R_MRoad 89 y_MRoad_point ∈ W0 := W0_of 1175 (by decide +kernel) rfl
theorem m_M_154 : Cond.methodLink R_M 154 y_M_work ∈ W0 := W0_of 1179 (by decide +kernel) rfl
theorem m_M_67 : Cond.methodLink R_M 67 y_MRoad_has ∈ W0 := W0_of 1183 (by decide +kernel) rfl
theorem m_M_71 : Cond.methodLink R_M 71 y_MLor_drop ∈ W0 := W0_of 1187 (by decide +kernel) rfl
theorem m_MLor_29 : Cond.methodLink R_MLor 29 ⟨"java/lang/System", "arraycopy", "(Ljava/lang/Object;ILjava/lang/Object;II)V"⟩ ∈ W0 := W0_of 1191 (by decide +kernel) rfl
theorem m_M_92 : Cond.methodLink R_M 92 y_Math_min_7cf53 ∈ W0 := W0_of 1192 (by decide +kernel) rfl
theorem m_Law_112 : Cond.methodLink R_Law 112 y_M_lorry ∈ W0 := W0_of 1193 (by decide +kernel) rfl
theorem n_MLor : Cond.instantiable R_MLor 10 ∈ W0 := W0_of 1197 (by decide +kernel) rfl
theorem m_M_223 : Cond.methodLink R_M 223 y_MLor_init ∈ W0 := W0_of 1198 (by decide +kernel) rfl
theorem m_MLor_3 : Cond.methodLink R_MLor 3 ⟨"java/lang/Object", "<init>", "()V"⟩ ∈ W0 := W0_of 1201 (by decide +kernel) rfl
theorem f_MLor_22 : Cond.fieldLink R_MLor 22 "GritWatchModel$Lorry" "hasPlough" "Z" ∈ W0 := W0_of 1202 (by decide +kernel) rfl
theorem f_M_104 : Cond.fieldLink R_M 104 "GritWatchModel$Lorry" "hasPlough" "Z" ∈ W0 := W0_of 1203 (by decide +kernel) rfl
theorem f_MLor_35 : Cond.fieldLink R_MLor 35 "GritWatchModel$Lorry" "node" "I" ∈ W0 := W0_of 1204 (by decide +kernel) rfl
theorem f_M_64 : Cond.fieldLink R_M 64 "GritWatchModel$Lorry" "node" "I" ∈ W0 := W0_of 1205 (by decide +kernel) rfl
theorem f_MLor_9 : Cond.fieldLink R_MLor 9 "GritWatchModel$Lorry" "road" "I" ∈ W0 := W0_of 1206 (by decide +kernel) rfl
theorem f_M_61 : Cond.fieldLink R_M 61 "GritWatchModel$Lorry" "road" "I" ∈ W0 := W0_of 1207 (by decide +kernel) rfl
theorem f_MLor_38 : Cond.fieldLink R_MLor 38 "GritWatchModel$Lorry" "done" "I" ∈ W0 := W0_of 1208 (by decide +kernel) rfl
theorem f_M_74 : Cond.fieldLink R_M 74 "GritWatchModel$Lorry" "done" "I" ∈ W0 := W0_of 1209 (by decide +kernel) rfl
theorem f_MLor_41 : Cond.fieldLink R_MLor 41 "GritWatchModel$Lorry" "hopper" "I" ∈ W0 := W0_of 1210 (by decide +kernel) rfl
theorem f_M_86 : Cond.fieldLink R_M 86 "GritWatchModel$Lorry" "hopper" "I" ∈ W0 := W0_of 1211 (by decide +kernel) rfl
theorem f_MLor_15 : Cond.fieldLink R_MLor 15 "GritWatchModel$Lorry" "rate" "I" ∈ W0 := W0_of 1212 (by decide +kernel) rfl
theorem f_M_89 : Cond.fieldLink R_M 89 "GritWatchModel$Lorry" "rate" "I" ∈ W0 := W0_of 1213 (by decide +kernel) rfl
theorem f_MLor_44 : Cond.fieldLink R_MLor 44 "GritWatchModel$Lorry" "hours" "I" ∈ W0 := W0_of 1214 (by decide +kernel) rfl
theorem f_M_46 : Cond.fieldLink R_M 46 "GritWatchModel$Lorry" "hours" "I" ∈ W0 := W0_of 1215 (by decide +kernel) rfl
theorem f_MLor_47 : Cond.fieldLink R_MLor 47 "GritWatchModel$Lorry" "spread" "I" ∈ W0 := W0_of 1216 (by decide +kernel) rfl
theorem f_M_98 : Cond.fieldLink R_M 98 "GritWatchModel$Lorry" "spread" "I" ∈ W0 := W0_of 1217 (by decide +kernel) rfl
theorem f_MLor_26 : Cond.fieldLink R_MLor 26 "GritWatchModel$Lorry" "orderCount" "I" ∈ W0 := W0_of 1218 (by decide +kernel) rfl
theorem f_M_41 : Cond.fieldLink R_M 41 "GritWatchModel$Lorry" "orderCount" "I" ∈ W0 := W0_of 1219 (by decide +kernel) rfl
theorem f_MLor_18 : Cond.fieldLink R_MLor 18 "GritWatchModel$Lorry" "orders" "[I" ∈ W0 := W0_of 1220 (by decide +kernel) rfl
theorem f_M_49 : Cond.fieldLink R_M 49 "GritWatchModel$Lorry" "orders" "[I" ∈ W0 := W0_of 1221 (by decide +kernel) rfl
theorem m_Law_116 : Cond.methodLink R_Law 116 y_M_rate ∈ W0 := W0_of 1243 (by decide +kernel) rfl
theorem m_M_226 : Cond.methodLink R_M 226 y_M_isLorry ∈ W0 := W0_of 1247 (by decide +kernel) rfl
theorem m_Law_119 : Cond.methodLink R_Law 119 y_M_order ∈ W0 := W0_of 1251 (by decide +kernel) rfl
theorem m_M_229 : Cond.methodLink R_M 229 y_M_isRoad ∈ W0 := W0_of 1255 (by decide +kernel) rfl
theorem m_Law_122 : Cond.methodLink R_Law 122 y_M_load ∈ W0 := W0_of 1259 (by decide +kernel) rfl
theorem m_Law_125 : Cond.methodLink R_Law 125 y_M_rest ∈ W0 := W0_of 1263 (by decide +kernel) rfl
theorem m_Law_128 : Cond.methodLink R_Law 128 y_M_deliver ∈ W0 := W0_of 1267 (by decide +kernel) rfl
theorem m_Law_131 : Cond.methodLink R_Law 131 y_M_claim ∈ W0 := W0_of 1271 (by decide +kernel) rfl
theorem m_M_238 : Cond.methodLink R_M 238 y_M_claimNow ∈ W0 := W0_of 1275 (by decide +kernel) rfl
theorem m_M_232 : Cond.methodLink R_M 232 y_Math_max_7cf53 ∈ W0 := W0_of 1279 (by decide +kernel) rfl
theorem m_Law_134 : Cond.methodLink R_Law 134 y_M_ofRoad ∈ W0 := W0_of 1280 (by decide +kernel) rfl
theorem m_M_242 : Cond.methodLink R_M 242 y_MRoad_of ∈ W0 := W0_of 1284 (by decide +kernel) rfl
theorem m_Law_137 : Cond.methodLink R_Law 137 y_M_ofLorry ∈ W0 := W0_of 1288 (by decide +kernel) rfl
theorem m_M_245 : Cond.methodLink R_M 245 y_MLor_of ∈ W0 := W0_of 1292 (by decide +kernel) rfl
theorem m_Law_140 : Cond.methodLink R_Law 140 y_M_many ∈ W0 := W0_of 1296 (by decide +kernel) rfl
theorem m_M_246 : Cond.methodLink R_M 246 y_M_manyNow ∈ W0 := W0_of 1300 (by decide +kernel) rfl
theorem m_Law_143 : Cond.methodLink R_Law 143 y_M_way ∈ W0 := W0_of 1304 (by decide +kernel) rfl
theorem m_M_249 : Cond.methodLink R_M 249 y_M_wayNow ∈ W0 := W0_of 1308 (by decide +kernel) rfl
theorem m_Law_148 : Cond.methodLink R_Law 148 y_M_meanWarmth ∈ W0 := W0_of 1312 (by decide +kernel) rfl
theorem m_M_255 : Cond.methodLink R_M 255 ⟨"java/util/List", "isEmpty", "()Z"⟩ ∈ W0 := W0_of 1317 (by decide +kernel) rfl
theorem m_Law_151 : Cond.methodLink R_Law 151 y_M_slipperyIn ∈ W0 := W0_of 1325 (by decide +kernel) rfl
theorem m_M_263 : Cond.methodLink R_M 263 y_MRoad_bare ∈ W0 := W0_of 1329 (by decide +kernel) rfl
theorem c_MRoad_10 : Cond.classLink R_MRoad 10 R_MRoad ∈ W0 := W0_of 1333 (by decide +kernel) rfl
theorem m_MRoad_59 : Cond.methodLink R_MRoad 59 y_MRoad_init ∈ W0 := W0_of 1334 (by decide +kernel) rfl
theorem m_M_267 : Cond.methodLink R_M 267 y_M_slipperyNow ∈ W0 := W0_of 1335 (by decide +kernel) rfl
theorem m_M_259 : Cond.methodLink R_M 259 y_MRoad_copyTo ∈ W0 := W0_of 1339 (by decide +kernel) rfl
theorem m_Law_154 : Cond.methodLink R_Law 154 y_M_saltFor ∈ W0 := W0_of 1343 (by decide +kernel) rfl
theorem m_M_271 : Cond.methodLink R_M 271 y_M_saltNow ∈ W0 := W0_of 1347 (by decide +kernel) rfl
theorem m_Law_157 : Cond.methodLink R_Law 157 y_M_bestOrders ∈ W0 := W0_of 1351 (by decide +kernel) rfl
theorem m_M_274 : Cond.methodLink R_M 274 y_M_bestNow ∈ W0 := W0_of 1355 (by decide +kernel) rfl
theorem m_Law_162 : Cond.methodLink R_Law 162 y_M_digest ∈ W0 := W0_of 1359 (by decide +kernel) rfl
theorem q_M_277 : Cond.constantLong R_M 277 (4808 : Int64) ∈ W0 := W0_of 1363 (by decide +kernel) rfl
theorem q_M_279 : Cond.constantLong R_M 279 (31 : Int64) ∈ W0 := W0_of 1364 (by decide +kernel) rfl
theorem a_long : Cond.arrayClass Jvm.ClassFile.FieldType.long ∈ W0 := W0_of 1365 (by decide +kernel) rfl
abbrev rt_G_init : Option FieldType := none
theorem wc_G_init : Cond.code y_G_init b_G_init 1 none ∈ W0 := W0_of 32 (by decide +kernel) rfl
theorem wi_G_init : Cond.instanceMethod y_G_init ∈ W0 := W0_of 31 (by decide +kernel) rfl
theorem wz_G_init : Cond.initialized y_G_init.cls ∈ W0 := W0_of 1 (by decide +kernel) rfl
abbrev rt_Wea_init : Option FieldType := none
theorem wc_Wea_init : Cond.code y_Wea_init b_Wea_init 1 none ∈ W0 := W0_of 48 (by decide +kernel) rfl
theorem wi_Wea_init : Cond.instanceMethod y_Wea_init ∈ W0 := W0_of 47 (by decide +kernel) rfl
theorem wz_Wea_init : Cond.initialized y_Wea_init.cls ∈ W0 := W0_of 2 (by decide +kernel) rfl
abbrev rt_Surf_init : Option FieldType := none
theorem wc_Surf_init : Cond.code y_Surf_init b_Surf_init 1 none ∈ W0 := W0_of 76 (by decide +kernel) rfl
theorem wi_Surf_init : Cond.instanceMethod y_Surf_init ∈ W0 := W0_of 75 (by decide +kernel) rfl
theorem wz_Surf_init : Cond.initialized y_Surf_init.cls ∈ W0 := W0_of 3 (by decide +kernel) rfl
abbrev rt_Rows_init : Option FieldType := none
theorem wc_Rows_init : Cond.code y_Rows_init b_Rows_init 1 none ∈ W0 := W0_of 118 (by decide +kernel) rfl
theorem wi_Rows_init : Cond.instanceMethod y_Rows_init ∈ W0 := W0_of 117 (by decide +kernel) rfl
theorem wz_Rows_init : Cond.initialized y_Rows_init.cls ∈ W0 := W0_of 4 (by decide +kernel) rfl
abbrev rt_G_meanWarmth : Option FieldType := (some FieldType.double)
theorem wc_G_meanWarmth : Cond.code y_G_meanWarmth b_G_meanWarmth 7 rt_G_meanWarmth ∈ W0 := W0_of 180 (by decide +kernel) rfl
theorem wi_G_meanWarmth : Cond.instanceMethod y_G_meanWarmth ∈ W0 := W0_of 178 (by decide +kernel) rfl
theorem we_G_meanWarmth : Cond.selects R_G y_G_meanWarmth y_G_meanWarmth ∈ W0 := W0_of 179 (by decide +kernel) rfl
abbrev rt_G_digest : Option FieldType := (some FieldType.long)
theorem wc_G_digest : Cond.code y_G_digest b_G_digest 7 rt_G_digest ∈ W0 := W0_of 184 (by decide +kernel) rfl
theorem wi_G_digest : Cond.instanceMethod y_G_digest ∈ W0 := W0_of 182 (by decide +kernel) rfl
theorem we_G_digest : Cond.selects R_G y_G_digest y_G_digest ∈ W0 := W0_of 183 (by decide +kernel) rfl
abbrev rt_G_countOf : Option FieldType := (some FieldType.int)
theorem wc_G_countOf : Cond.code y_G_countOf b_G_countOf 2 rt_G_countOf ∈ W0 := W0_of 190 (by decide +kernel) rfl
theorem wi_G_countOf : Cond.instanceMethod y_G_countOf ∈ W0 := W0_of 189 (by decide +kernel) rfl
theorem we_G_countOf : Cond.selects R_G y_G_countOf y_G_countOf ∈ W0 := W0_sel 0 (by decide +kernel) rfl
abbrev rt_G_saltInHoppers : Option FieldType := (some FieldType.int)
theorem wc_G_saltInHoppers : Cond.code y_G_saltInHoppers b_G_saltInHoppers 6 rt_G_saltInHoppers ∈ W0 := W0_of 194 (by decide +kernel) rfl
theorem wi_G_saltInHoppers : Cond.instanceMethod y_G_saltInHoppers ∈ W0 := W0_of 193 (by decide +kernel) rfl
theorem we_G_saltInHoppers : Cond.selects R_G y_G_saltInHoppers y_G_saltInHoppers ∈ W0 := W0_sel 1 (by decide +kernel) rfl
abbrev rt_G_saltOnRoads : Option FieldType := (some FieldType.int)
theorem wc_G_saltOnRoads : Cond.code y_G_saltOnRoads b_G_saltOnRoads 6 rt_G_saltOnRoads ∈ W0 := W0_of 198 (by decide +kernel) rfl
theorem wi_G_saltOnRoads : Cond.instanceMethod y_G_saltOnRoads ∈ W0 := W0_of 197 (by decide +kernel) rfl
theorem we_G_saltOnRoads : Cond.selects R_G y_G_saltOnRoads y_G_saltOnRoads ∈ W0 := W0_sel 2 (by decide +kernel) rfl
abbrev rt_G_saltInRiver : Option FieldType := (some FieldType.int)
theorem wc_G_saltInRiver : Cond.code y_G_saltInRiver b_G_saltInRiver 6 rt_G_saltInRiver ∈ W0 := W0_of 202 (by decide +kernel) rfl
theorem wi_G_saltInRiver : Cond.instanceMethod y_G_saltInRiver ∈ W0 := W0_of 201 (by decide +kernel) rfl
theorem we_G_saltInRiver : Cond.selects R_G y_G_saltInRiver y_G_saltInRiver ∈ W0 := W0_sel 3 (by decide +kernel) rfl
abbrev rt_G_saltOnFields : Option FieldType := (some FieldType.int)
theorem wc_G_saltOnFields : Cond.code y_G_saltOnFields b_G_saltOnFields 6 rt_G_saltOnFields ∈ W0 := W0_of 206 (by decide +kernel) rfl
theorem wi_G_saltOnFields : Cond.instanceMethod y_G_saltOnFields ∈ W0 := W0_of 205 (by decide +kernel) rfl
theorem we_G_saltOnFields : Cond.selects R_G y_G_saltOnFields y_G_saltOnFields ∈ W0 := W0_sel 4 (by decide +kernel) rfl
abbrev rt_G_waterRunOff : Option FieldType := (some FieldType.int)
theorem wc_G_waterRunOff : Cond.code y_G_waterRunOff b_G_waterRunOff 6 rt_G_waterRunOff ∈ W0 := W0_of 210 (by decide +kernel) rfl
theorem wi_G_waterRunOff : Cond.instanceMethod y_G_waterRunOff ∈ W0 := W0_of 209 (by decide +kernel) rfl
theorem we_G_waterRunOff : Cond.selects R_G y_G_waterRunOff y_G_waterRunOff ∈ W0 := W0_sel 5 (by decide +kernel) rfl
abbrev rt_G_deliveriesOnTheirWay : Option FieldType := (some FieldType.int)
theorem wc_G_deliveriesOnTheirWay : Cond.code y_G_deliveriesOnTheirWay b_G_deliveriesOnTheirWay 6 rt_G_deliveriesOnTheirWay ∈ W0 := W0_of 214 (by decide +kernel) rfl
theorem wi_G_deliveriesOnTheirWay : Cond.instanceMethod y_G_deliveriesOnTheirWay ∈ W0 := W0_of 213 (by decide +kernel) rfl
theorem we_G_deliveriesOnTheirWay : Cond.selects R_G y_G_deliveriesOnTheirWay y_G_deliveriesOnTheirWay ∈ W0 := W0_sel 6 (by decide +kernel) rfl
abbrev rt_G_slipperyNow : Option FieldType := (some FieldType.int)
theorem wc_G_slipperyNow : Cond.code y_G_slipperyNow b_G_slipperyNow 6 rt_G_slipperyNow ∈ W0 := W0_of 218 (by decide +kernel) rfl
theorem wi_G_slipperyNow : Cond.instanceMethod y_G_slipperyNow ∈ W0 := W0_of 217 (by decide +kernel) rfl
theorem we_G_slipperyNow : Cond.selects R_G y_G_slipperyNow y_G_slipperyNow ∈ W0 := W0_sel 7 (by decide +kernel) rfl
abbrev rt_Road_wasSlippery : Option FieldType := (some FieldType.boolean)
theorem wc_Road_wasSlippery : Cond.code y_Road_wasSlippery b_Road_wasSlippery 2 rt_Road_wasSlippery ∈ W0 := W0_of 222 (by decide +kernel) rfl
theorem wi_Road_wasSlippery : Cond.instanceMethod y_Road_wasSlippery ∈ W0 := W0_of 220 (by decide +kernel) rfl
theorem we_Road_wasSlippery : Cond.selects R_Road y_Road_wasSlippery y_Road_wasSlippery ∈ W0 := W0_of 221 (by decide +kernel) rfl
abbrev rt_G_digestOfRoad : Option FieldType := (some FieldType.long)
theorem wc_G_digestOfRoad : Cond.code y_G_digestOfRoad b_G_digestOfRoad 7 rt_G_digestOfRoad ∈ W0 := W0_of 226 (by decide +kernel) rfl
theorem wi_G_digestOfRoad : Cond.instanceMethod y_G_digestOfRoad ∈ W0 := W0_of 225 (by decide +kernel) rfl
theorem we_G_digestOfRoad : Cond.selects R_G y_G_digestOfRoad y_G_digestOfRoad ∈ W0 := W0_sel 8 (by decide +kernel) rfl
abbrev rt_Road_fact : Option FieldType := (some FieldType.int)
theorem wc_Road_fact : Cond.code y_Road_fact b_Road_fact 2 rt_Road_fact ∈ W0 := W0_of 230 (by decide +kernel) rfl
theorem wi_Road_fact : Cond.instanceMethod y_Road_fact ∈ W0 := W0_of 228 (by decide +kernel) rfl
theorem we_Road_fact : Cond.selects R_Road y_Road_fact y_Road_fact ∈ W0 := W0_of 229 (by decide +kernel) rfl
abbrev rt_Surf_point : Option FieldType := (some FieldType.int)
theorem wc_Surf_point : Cond.code y_Surf_point b_Surf_point 3 rt_Surf_point ∈ W0 := W0_of 234 (by decide +kernel) rfl
theorem wi_Surf_point : Cond.instanceMethod y_Surf_point ∈ W0 := W0_of 232 (by decide +kernel) rfl
theorem we_Surf_point : Cond.selects R_Surf y_Surf_point y_Surf_point ∈ W0 := W0_of 233 (by decide +kernel) rfl
abbrev rt_G_firstSlippery : Option FieldType := (some FieldType.int)
theorem wc_G_firstSlippery : Cond.code y_G_firstSlippery b_G_firstSlippery 5 rt_G_firstSlippery ∈ W0 := W0_of 238 (by decide +kernel) rfl
theorem wi_G_firstSlippery : Cond.instanceMethod y_G_firstSlippery ∈ W0 := W0_of 237 (by decide +kernel) rfl
theorem we_G_firstSlippery : Cond.selects R_G y_G_firstSlippery y_G_firstSlippery ∈ W0 := W0_sel 9 (by decide +kernel) rfl
abbrev rt_Surf_becomeLike : Option FieldType := none
theorem wc_Surf_becomeLike : Cond.code y_Surf_becomeLike b_Surf_becomeLike 2 rt_Surf_becomeLike ∈ W0 := W0_of 242 (by decide +kernel) rfl
theorem wi_Surf_becomeLike : Cond.instanceMethod y_Surf_becomeLike ∈ W0 := W0_of 240 (by decide +kernel) rfl
theorem we_Surf_becomeLike : Cond.selects R_Surf y_Surf_becomeLike y_Surf_becomeLike ∈ W0 := W0_of 241 (by decide +kernel) rfl
abbrev rt_Road_weatherQuarter : Option FieldType := none
theorem wc_Road_weatherQuarter : Cond.code y_Road_weatherQuarter b_Road_weatherQuarter 3 rt_Road_weatherQuarter ∈ W0 := W0_of 246 (by decide +kernel) rfl
theorem wi_Road_weatherQuarter : Cond.instanceMethod y_Road_weatherQuarter ∈ W0 := W0_of 244 (by decide +kernel) rfl
theorem we_Road_weatherQuarter : Cond.selects R_Road y_Road_weatherQuarter y_Road_weatherQuarter ∈ W0 := W0_of 245 (by decide +kernel) rfl
abbrev rt_Road_goal : Option FieldType := (some FieldType.int)
theorem wc_Road_goal : Cond.code y_Road_goal b_Road_goal 3 rt_Road_goal ∈ W0 := W0_of 250 (by decide +kernel) rfl
theorem wi_Road_goal : Cond.instanceMethod y_Road_goal ∈ W0 := W0_of 248 (by decide +kernel) rfl
theorem we_Road_goal : Cond.selects R_Road y_Road_goal y_Road_goal ∈ W0 := W0_of 249 (by decide +kernel) rfl
abbrev rt_Surf_comeNearer : Option FieldType := none
theorem wc_Surf_comeNearer : Cond.code y_Surf_comeNearer b_Surf_comeNearer 3 rt_Surf_comeNearer ∈ W0 := W0_of 254 (by decide +kernel) rfl
theorem wi_Surf_comeNearer : Cond.instanceMethod y_Surf_comeNearer ∈ W0 := W0_of 252 (by decide +kernel) rfl
theorem we_Surf_comeNearer : Cond.selects R_Surf y_Surf_comeNearer y_Surf_comeNearer ∈ W0 := W0_of 253 (by decide +kernel) rfl
abbrev rt_Math_min_7cf53 : Option FieldType := (some FieldType.int)
theorem wc_Math_min_7cf53 : Cond.code y_Math_min_7cf53 b_Math_min_7cf53 2 rt_Math_min_7cf53 ∈ W0 := W0_of 257 (by decide +kernel) rfl
theorem wi_Math_min_7cf53 : Cond.static y_Math_min_7cf53 ∈ W0 := W0_of 256 (by decide +kernel) rfl
theorem wz_Math_min_7cf53 : Cond.initialized y_Math_min_7cf53.cls ∈ W0 := W0_of 19 (by decide +kernel) rfl
abbrev rt_Math_max_7cf53 : Option FieldType := (some FieldType.int)
theorem wc_Math_max_7cf53 : Cond.code y_Math_max_7cf53 b_Math_max_7cf53 2 rt_Math_max_7cf53 ∈ W0 := W0_of 260 (by decide +kernel) rfl
theorem wi_Math_max_7cf53 : Cond.static y_Math_max_7cf53 ∈ W0 := W0_of 259 (by decide +kernel) rfl
theorem wz_Math_max_7cf53 : Cond.initialized y_Math_max_7cf53.cls ∈ W0 := W0_of 19 (by decide +kernel) rfl
abbrev rt_Surf_freezeOrThaw : Option FieldType := none
theorem wc_Surf_freezeOrThaw : Cond.code y_Surf_freezeOrThaw b_Surf_freezeOrThaw 4 rt_Surf_freezeOrThaw ∈ W0 := W0_of 264 (by decide +kernel) rfl
theorem wi_Surf_freezeOrThaw : Cond.instanceMethod y_Surf_freezeOrThaw ∈ W0 := W0_of 262 (by decide +kernel) rfl
theorem we_Surf_freezeOrThaw : Cond.selects R_Surf y_Surf_freezeOrThaw y_Surf_freezeOrThaw ∈ W0 := W0_of 263 (by decide +kernel) rfl
abbrev rt_Surf_runOff : Option FieldType := none
theorem wc_Surf_runOff : Cond.code y_Surf_runOff b_Surf_runOff 3 rt_Surf_runOff ∈ W0 := W0_of 269 (by decide +kernel) rfl
theorem wi_Surf_runOff : Cond.instanceMethod y_Surf_runOff ∈ W0 := W0_of 267 (by decide +kernel) rfl
theorem we_Surf_runOff : Cond.selects R_Surf y_Surf_runOff y_Surf_runOff ∈ W0 := W0_of 268 (by decide +kernel) rfl
abbrev rt_Surf_loseToFields : Option FieldType := none
theorem wc_Surf_loseToFields : Cond.code y_Surf_loseToFields b_Surf_loseToFields 3 rt_Surf_loseToFields ∈ W0 := W0_of 273 (by decide +kernel) rfl
theorem wi_Surf_loseToFields : Cond.instanceMethod y_Surf_loseToFields ∈ W0 := W0_of 271 (by decide +kernel) rfl
theorem we_Surf_loseToFields : Cond.selects R_Surf y_Surf_loseToFields y_Surf_loseToFields ∈ W0 := W0_of 272 (by decide +kernel) rfl
abbrev rt_Surf_isSlippery : Option FieldType := (some FieldType.boolean)
theorem wc_Surf_isSlippery : Cond.code y_Surf_isSlippery b_Surf_isSlippery 1 rt_Surf_isSlippery ∈ W0 := W0_of 277 (by decide +kernel) rfl
theorem wi_Surf_isSlippery : Cond.instanceMethod y_Surf_isSlippery ∈ W0 := W0_of 275 (by decide +kernel) rfl
theorem we_Surf_isSlippery : Cond.selects R_Surf y_Surf_isSlippery y_Surf_isSlippery ∈ W0 := W0_of 276 (by decide +kernel) rfl
abbrev rt_G_leastSalt : Option FieldType := (some FieldType.int)
theorem wc_G_leastSalt : Cond.code y_G_leastSalt b_G_leastSalt 4 rt_G_leastSalt ∈ W0 := W0_of 281 (by decide +kernel) rfl
theorem wi_G_leastSalt : Cond.instanceMethod y_G_leastSalt ∈ W0 := W0_of 280 (by decide +kernel) rfl
theorem we_G_leastSalt : Cond.selects R_G y_G_leastSalt y_G_leastSalt ∈ W0 := W0_sel 10 (by decide +kernel) rfl
abbrev rt_G_answerTo : Option FieldType := (some FieldType.int)
theorem wc_G_answerTo : Cond.code y_G_answerTo b_G_answerTo 4 rt_G_answerTo ∈ W0 := W0_of 285 (by decide +kernel) rfl
theorem wi_G_answerTo : Cond.instanceMethod y_G_answerTo ∈ W0 := W0_of 284 (by decide +kernel) rfl
theorem we_G_answerTo : Cond.selects R_G y_G_answerTo y_G_answerTo ∈ W0 := W0_sel 11 (by decide +kernel) rfl
abbrev rt_Road_wasTreatedWithin : Option FieldType := (some FieldType.boolean)
theorem wc_Road_wasTreatedWithin : Cond.code y_Road_wasTreatedWithin b_Road_wasTreatedWithin 5 rt_Road_wasTreatedWithin ∈ W0 := W0_of 289 (by decide +kernel) rfl
theorem wi_Road_wasTreatedWithin : Cond.instanceMethod y_Road_wasTreatedWithin ∈ W0 := W0_of 287 (by decide +kernel) rfl
theorem we_Road_wasTreatedWithin : Cond.selects R_Road y_Road_wasTreatedWithin y_Road_wasTreatedWithin ∈ W0 := W0_of 288 (by decide +kernel) rfl
abbrev rt_G_lastWarning : Option FieldType := (some (FieldType.object "GritWatch$Forecast"))
theorem wc_G_lastWarning : Cond.code y_G_lastWarning b_G_lastWarning 8 rt_G_lastWarning ∈ W0 := W0_of 295 (by decide +kernel) rfl
theorem wi_G_lastWarning : Cond.instanceMethod y_G_lastWarning ∈ W0 := W0_of 294 (by decide +kernel) rfl
theorem we_G_lastWarning : Cond.selects R_G y_G_lastWarning y_G_lastWarning ∈ W0 := W0_sel 12 (by decide +kernel) rfl
abbrev rt_G_isWithin : Option FieldType := (some FieldType.boolean)
theorem wc_G_isWithin : Cond.code y_G_isWithin b_G_isWithin 3 rt_G_isWithin ∈ W0 := W0_of 298 (by decide +kernel) rfl
theorem wi_G_isWithin : Cond.static y_G_isWithin ∈ W0 := W0_of 297 (by decide +kernel) rfl
theorem wz_G_isWithin : Cond.initialized y_G_isWithin.cls ∈ W0 := W0_of 1 (by decide +kernel) rfl
abbrev rt_Road_notice : Option FieldType := (some FieldType.int)
theorem wc_Road_notice : Cond.code y_Road_notice b_Road_notice 1 rt_Road_notice ∈ W0 := W0_of 302 (by decide +kernel) rfl
theorem wi_Road_notice : Cond.instanceMethod y_Road_notice ∈ W0 := W0_of 300 (by decide +kernel) rfl
theorem we_Road_notice : Cond.selects R_Road y_Road_notice y_Road_notice ∈ W0 := W0_of 301 (by decide +kernel) rfl
abbrev rt_Fc_foretells : Option FieldType := (some FieldType.boolean)
theorem wc_Fc_foretells : Cond.code y_Fc_foretells b_Fc_foretells 3 rt_Fc_foretells ∈ W0 := W0_of 306 (by decide +kernel) rfl
theorem wi_Fc_foretells : Cond.instanceMethod y_Fc_foretells ∈ W0 := W0_of 304 (by decide +kernel) rfl
theorem we_Fc_foretells : Cond.selects R_Fc y_Fc_foretells y_Fc_foretells ∈ W0 := W0_of 305 (by decide +kernel) rfl
abbrev rt_G_digestOfLorry : Option FieldType := (some FieldType.long)
theorem wc_G_digestOfLorry : Cond.code y_G_digestOfLorry b_G_digestOfLorry 6 rt_G_digestOfLorry ∈ W0 := W0_of 310 (by decide +kernel) rfl
theorem wi_G_digestOfLorry : Cond.static y_G_digestOfLorry ∈ W0 := W0_of 309 (by decide +kernel) rfl
theorem wz_G_digestOfLorry : Cond.initialized y_G_digestOfLorry.cls ∈ W0 := W0_of 1 (by decide +kernel) rfl
abbrev rt_Lor_fact : Option FieldType := (some FieldType.int)
theorem wc_Lor_fact : Cond.code y_Lor_fact b_Lor_fact 2 rt_Lor_fact ∈ W0 := W0_of 314 (by decide +kernel) rfl
theorem wi_Lor_fact : Cond.instanceMethod y_Lor_fact ∈ W0 := W0_of 312 (by decide +kernel) rfl
theorem we_Lor_fact : Cond.selects R_Lor y_Lor_fact y_Lor_fact ∈ W0 := W0_of 313 (by decide +kernel) rfl
abbrev rt_Lor_firstOrder : Option FieldType := (some FieldType.int)
theorem wc_Lor_firstOrder : Cond.code y_Lor_firstOrder b_Lor_firstOrder 1 rt_Lor_firstOrder ∈ W0 := W0_of 318 (by decide +kernel) rfl
theorem wi_Lor_firstOrder : Cond.instanceMethod y_Lor_firstOrder ∈ W0 := W0_of 316 (by decide +kernel) rfl
theorem we_Lor_firstOrder : Cond.selects R_Lor y_Lor_firstOrder y_Lor_firstOrder ∈ W0 := W0_of 317 (by decide +kernel) rfl
abbrev rt_G_shortestWay : Option FieldType := (some FieldType.int)
theorem wc_G_shortestWay : Cond.code y_G_shortestWay b_G_shortestWay 8 rt_G_shortestWay ∈ W0 := W0_of 322 (by decide +kernel) rfl
theorem wi_G_shortestWay : Cond.instanceMethod y_G_shortestWay ∈ W0 := W0_of 321 (by decide +kernel) rfl
theorem we_G_shortestWay : Cond.selects R_G y_G_shortestWay y_G_shortestWay ∈ W0 := W0_sel 13 (by decide +kernel) rfl
abbrev rt_Arrays_fill_53178 : Option FieldType := none
theorem wc_Arrays_fill_53178 : Cond.code y_Arrays_fill_53178 b_Arrays_fill_53178 4 rt_Arrays_fill_53178 ∈ W0 := W0_of 326 (by decide +kernel) rfl
theorem wi_Arrays_fill_53178 : Cond.static y_Arrays_fill_53178 ∈ W0 := W0_of 325 (by decide +kernel) rfl
theorem wz_Arrays_fill_53178 : Cond.initialized y_Arrays_fill_53178.cls ∈ W0 := W0_of 20 (by decide +kernel) rfl
abbrev rt_G_lower : Option FieldType := none
theorem wc_G_lower : Cond.code y_G_lower b_G_lower 3 rt_G_lower ∈ W0 := W0_of 329 (by decide +kernel) rfl
theorem wi_G_lower : Cond.static y_G_lower ∈ W0 := W0_of 328 (by decide +kernel) rfl
theorem wz_G_lower : Cond.initialized y_G_lower.cls ∈ W0 := W0_of 1 (by decide +kernel) rfl
abbrev rt_G_lowerWay : Option FieldType := none
theorem wc_G_lowerWay : Cond.code y_G_lowerWay b_G_lowerWay 5 rt_G_lowerWay ∈ W0 := W0_of 333 (by decide +kernel) rfl
theorem wi_G_lowerWay : Cond.instanceMethod y_G_lowerWay ∈ W0 := W0_of 332 (by decide +kernel) rfl
theorem we_G_lowerWay : Cond.selects R_G y_G_lowerWay y_G_lowerWay ∈ W0 := W0_sel 14 (by decide +kernel) rfl
abbrev rt_G_numberAt : Option FieldType := (some FieldType.int)
theorem wc_G_numberAt : Cond.code y_G_numberAt b_G_numberAt 2 rt_G_numberAt ∈ W0 := W0_of 336 (by decide +kernel) rfl
theorem wi_G_numberAt : Cond.static y_G_numberAt ∈ W0 := W0_of 335 (by decide +kernel) rfl
theorem wz_G_numberAt : Cond.initialized y_G_numberAt.cls ∈ W0 := W0_of 1 (by decide +kernel) rfl
abbrev rt_Rows_best : Option FieldType := (some FieldType.int)
theorem wc_Rows_best : Cond.code y_Rows_best b_Rows_best 8 rt_Rows_best ∈ W0 := W0_of 340 (by decide +kernel) rfl
theorem wi_Rows_best : Cond.instanceMethod y_Rows_best ∈ W0 := W0_of 338 (by decide +kernel) rfl
theorem we_Rows_best : Cond.selects R_Rows y_Rows_best y_Rows_best ∈ W0 := W0_of 339 (by decide +kernel) rfl
abbrev rt_Rows_bestWhole : Option FieldType := (some FieldType.int)
theorem wc_Rows_bestWhole : Cond.code y_Rows_bestWhole b_Rows_bestWhole 4 rt_Rows_bestWhole ∈ W0 := W0_of 347 (by decide +kernel) rfl
theorem wi_Rows_bestWhole : Cond.instanceMethod y_Rows_bestWhole ∈ W0 := W0_of 346 (by decide +kernel) rfl
theorem we_Rows_bestWhole : Cond.selects R_Rows y_Rows_bestWhole y_Rows_bestWhole ∈ W0 := W0_sel 15 (by decide +kernel) rfl
abbrev rt_Rows_lengthen : Option FieldType := none
theorem wc_Rows_lengthen : Cond.code y_Rows_lengthen b_Rows_lengthen 9 rt_Rows_lengthen ∈ W0 := W0_of 353 (by decide +kernel) rfl
theorem wi_Rows_lengthen : Cond.instanceMethod y_Rows_lengthen ∈ W0 := W0_of 352 (by decide +kernel) rfl
theorem we_Rows_lengthen : Cond.selects R_Rows y_Rows_lengthen y_Rows_lengthen ∈ W0 := W0_sel 16 (by decide +kernel) rfl
abbrev rt_Rows_goAlong : Option FieldType := none
theorem wc_Rows_goAlong : Cond.code y_Rows_goAlong b_Rows_goAlong 8 rt_Rows_goAlong ∈ W0 := W0_of 357 (by decide +kernel) rfl
theorem wi_Rows_goAlong : Cond.instanceMethod y_Rows_goAlong ∈ W0 := W0_of 356 (by decide +kernel) rfl
theorem we_Rows_goAlong : Cond.selects R_Rows y_Rows_goAlong y_Rows_goAlong ∈ W0 := W0_sel 17 (by decide +kernel) rfl
abbrev rt_G_road : Option FieldType := (some FieldType.int)
theorem wc_G_road : Cond.code y_G_road b_G_road 9 rt_G_road ∈ W0 := W0_of 368 (by decide +kernel) rfl
theorem wi_G_road : Cond.instanceMethod y_G_road ∈ W0 := W0_of 366 (by decide +kernel) rfl
theorem we_G_road : Cond.selects R_G y_G_road y_G_road ∈ W0 := W0_of 367 (by decide +kernel) rfl
abbrev rt_G_isNode : Option FieldType := (some FieldType.boolean)
theorem wc_G_isNode : Cond.code y_G_isNode b_G_isNode 1 rt_G_isNode ∈ W0 := W0_of 371 (by decide +kernel) rfl
theorem wi_G_isNode : Cond.static y_G_isNode ∈ W0 := W0_of 370 (by decide +kernel) rfl
theorem wz_G_isNode : Cond.initialized y_G_isNode.cls ∈ W0 := W0_of 1 (by decide +kernel) rfl
abbrev rt_Road_init : Option FieldType := none
theorem wc_Road_init : Cond.code y_Road_init b_Road_init 8 none ∈ W0 := W0_of 476 (by decide +kernel) rfl
theorem wi_Road_init : Cond.instanceMethod y_Road_init ∈ W0 := W0_of 475 (by decide +kernel) rfl
theorem wz_Road_init : Cond.initialized y_Road_init.cls ∈ W0 := W0_of 16 (by decide +kernel) rfl
abbrev rt_G_air : Option FieldType := (some FieldType.int)
theorem wc_G_air : Cond.code y_G_air b_G_air 4 rt_G_air ∈ W0 := W0_of 532 (by decide +kernel) rfl
theorem wi_G_air : Cond.instanceMethod y_G_air ∈ W0 := W0_of 530 (by decide +kernel) rfl
theorem we_G_air : Cond.selects R_G y_G_air y_G_air ∈ W0 := W0_of 531 (by decide +kernel) rfl
abbrev rt_G_isAir : Option FieldType := (some FieldType.boolean)
theorem wc_G_isAir : Cond.code y_G_isAir b_G_isAir 1 rt_G_isAir ∈ W0 := W0_of 535 (by decide +kernel) rfl
theorem wi_G_isAir : Cond.static y_G_isAir ∈ W0 := W0_of 534 (by decide +kernel) rfl
theorem wz_G_isAir : Cond.initialized y_G_isAir.cls ∈ W0 := W0_of 1 (by decide +kernel) rfl
abbrev rt_G_fall : Option FieldType := (some FieldType.int)
theorem wc_G_fall : Cond.code y_G_fall b_G_fall 5 rt_G_fall ∈ W0 := W0_of 543 (by decide +kernel) rfl
theorem wi_G_fall : Cond.instanceMethod y_G_fall ∈ W0 := W0_of 541 (by decide +kernel) rfl
theorem we_G_fall : Cond.selects R_G y_G_fall y_G_fall ∈ W0 := W0_of 542 (by decide +kernel) rfl
abbrev rt_G_forecast : Option FieldType := (some FieldType.int)
theorem wc_G_forecast : Cond.code y_G_forecast b_G_forecast 7 rt_G_forecast ∈ W0 := W0_of 551 (by decide +kernel) rfl
theorem wi_G_forecast : Cond.instanceMethod y_G_forecast ∈ W0 := W0_of 549 (by decide +kernel) rfl
theorem we_G_forecast : Cond.selects R_G y_G_forecast y_G_forecast ∈ W0 := W0_of 550 (by decide +kernel) rfl
abbrev rt_Fc_init : Option FieldType := none
theorem wc_Fc_init : Cond.code y_Fc_init b_Fc_init 4 none ∈ W0 := W0_of 558 (by decide +kernel) rfl
theorem wi_Fc_init : Cond.instanceMethod y_Fc_init ∈ W0 := W0_of 557 (by decide +kernel) rfl
theorem wz_Fc_init : Cond.initialized y_Fc_init.cls ∈ W0 := W0_of 22 (by decide +kernel) rfl
abbrev rt_Fc_tellMembers : Option FieldType := none
theorem wc_Fc_tellMembers : Cond.code y_Fc_tellMembers b_Fc_tellMembers 5 rt_Fc_tellMembers ∈ W0 := W0_of 588 (by decide +kernel) rfl
theorem wi_Fc_tellMembers : Cond.instanceMethod y_Fc_tellMembers ∈ W0 := W0_of 586 (by decide +kernel) rfl
theorem we_Fc_tellMembers : Cond.selects R_Fc y_Fc_tellMembers y_Fc_tellMembers ∈ W0 := W0_of 587 (by decide +kernel) rfl
abbrev rt_G_roadsForetold : Option FieldType := (some FieldType.int)
theorem wc_G_roadsForetold : Cond.code y_G_roadsForetold b_G_roadsForetold 7 rt_G_roadsForetold ∈ W0 := W0_of 592 (by decide +kernel) rfl
theorem wi_G_roadsForetold : Cond.instanceMethod y_G_roadsForetold ∈ W0 := W0_of 591 (by decide +kernel) rfl
theorem we_G_roadsForetold : Cond.selects R_G y_G_roadsForetold y_G_roadsForetold ∈ W0 := W0_sel 19 (by decide +kernel) rfl
abbrev rt_G_pass : Option FieldType := (some FieldType.int)
theorem wc_G_pass : Cond.code y_G_pass b_G_pass 4 rt_G_pass ∈ W0 := W0_of 599 (by decide +kernel) rfl
theorem wi_G_pass : Cond.instanceMethod y_G_pass ∈ W0 := W0_of 597 (by decide +kernel) rfl
theorem we_G_pass : Cond.selects R_G y_G_pass y_G_pass ∈ W0 := W0_of 598 (by decide +kernel) rfl
abbrev rt_G_passQuarter : Option FieldType := none
theorem wc_G_passQuarter : Cond.code y_G_passQuarter b_G_passQuarter 5 rt_G_passQuarter ∈ W0 := W0_of 605 (by decide +kernel) rfl
theorem wi_G_passQuarter : Cond.instanceMethod y_G_passQuarter ∈ W0 := W0_of 604 (by decide +kernel) rfl
theorem we_G_passQuarter : Cond.selects R_G y_G_passQuarter y_G_passQuarter ∈ W0 := W0_sel 20 (by decide +kernel) rfl
abbrev rt_Road_noteSlippery : Option FieldType := none
theorem wc_Road_noteSlippery : Cond.code y_Road_noteSlippery b_Road_noteSlippery 2 rt_Road_noteSlippery ∈ W0 := W0_of 609 (by decide +kernel) rfl
theorem wi_Road_noteSlippery : Cond.instanceMethod y_Road_noteSlippery ∈ W0 := W0_of 607 (by decide +kernel) rfl
theorem we_Road_noteSlippery : Cond.selects R_Road y_Road_noteSlippery y_Road_noteSlippery ∈ W0 := W0_of 608 (by decide +kernel) rfl
abbrev rt_G_work : Option FieldType := none
theorem wc_G_work : Cond.code y_G_work b_G_work 3 rt_G_work ∈ W0 := W0_of 614 (by decide +kernel) rfl
theorem wi_G_work : Cond.instanceMethod y_G_work ∈ W0 := W0_of 613 (by decide +kernel) rfl
theorem we_G_work : Cond.selects R_G y_G_work y_G_work ∈ W0 := W0_sel 21 (by decide +kernel) rfl
abbrev rt_G_roadAt : Option FieldType := (some (FieldType.object "GritWatch$Road"))
theorem wc_G_roadAt : Cond.code y_G_roadAt b_G_roadAt 2 rt_G_roadAt ∈ W0 := W0_of 619 (by decide +kernel) rfl
theorem wi_G_roadAt : Cond.instanceMethod y_G_roadAt ∈ W0 := W0_of 618 (by decide +kernel) rfl
theorem we_G_roadAt : Cond.selects R_G y_G_roadAt y_G_roadAt ∈ W0 := W0_sel 22 (by decide +kernel) rfl
abbrev rt_Road_joins : Option FieldType := (some FieldType.boolean)
theorem wc_Road_joins : Cond.code y_Road_joins b_Road_joins 2 rt_Road_joins ∈ W0 := W0_of 623 (by decide +kernel) rfl
theorem wi_Road_joins : Cond.instanceMethod y_Road_joins ∈ W0 := W0_of 621 (by decide +kernel) rfl
theorem we_Road_joins : Cond.selects R_Road y_Road_joins y_Road_joins ∈ W0 := W0_of 622 (by decide +kernel) rfl
abbrev rt_Lor_dropFirstOrder : Option FieldType := none
theorem wc_Lor_dropFirstOrder : Cond.code y_Lor_dropFirstOrder b_Lor_dropFirstOrder 2 rt_Lor_dropFirstOrder ∈ W0 := W0_of 627 (by decide +kernel) rfl
theorem wi_Lor_dropFirstOrder : Cond.instanceMethod y_Lor_dropFirstOrder ∈ W0 := W0_of 625 (by decide +kernel) rfl
theorem we_Lor_dropFirstOrder : Cond.selects R_Lor y_Lor_dropFirstOrder y_Lor_dropFirstOrder ∈ W0 := W0_of 626 (by decide +kernel) rfl
abbrev rt_Road_otherEnd : Option FieldType := (some FieldType.int)
theorem wc_Road_otherEnd : Cond.code y_Road_otherEnd b_Road_otherEnd 2 rt_Road_otherEnd ∈ W0 := W0_of 632 (by decide +kernel) rfl
theorem wi_Road_otherEnd : Cond.instanceMethod y_Road_otherEnd ∈ W0 := W0_of 630 (by decide +kernel) rfl
theorem we_Road_otherEnd : Cond.selects R_Road y_Road_otherEnd y_Road_otherEnd ∈ W0 := W0_of 631 (by decide +kernel) rfl
abbrev rt_Lor_arrive : Option FieldType := none
theorem wc_Lor_arrive : Cond.code y_Lor_arrive b_Lor_arrive 1 rt_Lor_arrive ∈ W0 := W0_of 636 (by decide +kernel) rfl
theorem wi_Lor_arrive : Cond.instanceMethod y_Lor_arrive ∈ W0 := W0_of 634 (by decide +kernel) rfl
theorem we_Lor_arrive : Cond.selects R_Lor y_Lor_arrive y_Lor_arrive ∈ W0 := W0_of 635 (by decide +kernel) rfl
abbrev rt_G_treat : Option FieldType := none
theorem wc_G_treat : Cond.code y_G_treat b_G_treat 4 rt_G_treat ∈ W0 := W0_of 641 (by decide +kernel) rfl
theorem wi_G_treat : Cond.instanceMethod y_G_treat ∈ W0 := W0_of 640 (by decide +kernel) rfl
theorem we_G_treat : Cond.selects R_G y_G_treat y_G_treat ∈ W0 := W0_sel 23 (by decide +kernel) rfl
abbrev rt_Road_noteTreated : Option FieldType := none
theorem wc_Road_noteTreated : Cond.code y_Road_noteTreated b_Road_noteTreated 2 rt_Road_noteTreated ∈ W0 := W0_of 646 (by decide +kernel) rfl
theorem wi_Road_noteTreated : Cond.instanceMethod y_Road_noteTreated ∈ W0 := W0_of 644 (by decide +kernel) rfl
theorem we_Road_noteTreated : Cond.selects R_Road y_Road_noteTreated y_Road_noteTreated ∈ W0 := W0_of 645 (by decide +kernel) rfl
abbrev rt_G_takeDeliveries : Option FieldType := none
theorem wc_G_takeDeliveries : Cond.code y_G_takeDeliveries b_G_takeDeliveries 4 rt_G_takeDeliveries ∈ W0 := W0_of 650 (by decide +kernel) rfl
theorem wi_G_takeDeliveries : Cond.instanceMethod y_G_takeDeliveries ∈ W0 := W0_of 649 (by decide +kernel) rfl
theorem we_G_takeDeliveries : Cond.selects R_G y_G_takeDeliveries y_G_takeDeliveries ∈ W0 := W0_sel 24 (by decide +kernel) rfl
abbrev rt_G_lorry : Option FieldType := (some FieldType.int)
theorem wc_G_lorry : Cond.code y_G_lorry b_G_lorry 3 rt_G_lorry ∈ W0 := W0_of 657 (by decide +kernel) rfl
theorem wi_G_lorry : Cond.instanceMethod y_G_lorry ∈ W0 := W0_of 655 (by decide +kernel) rfl
theorem we_G_lorry : Cond.selects R_G y_G_lorry y_G_lorry ∈ W0 := W0_of 656 (by decide +kernel) rfl
abbrev rt_Lor_init : Option FieldType := none
theorem wc_Lor_init : Cond.code y_Lor_init b_Lor_init 2 none ∈ W0 := W0_of 662 (by decide +kernel) rfl
theorem wi_Lor_init : Cond.instanceMethod y_Lor_init ∈ W0 := W0_of 661 (by decide +kernel) rfl
theorem wz_Lor_init : Cond.initialized y_Lor_init.cls ∈ W0 := W0_of 25 (by decide +kernel) rfl
abbrev rt_G_rate : Option FieldType := (some FieldType.int)
theorem wc_G_rate : Cond.code y_G_rate b_G_rate 5 rt_G_rate ∈ W0 := W0_of 710 (by decide +kernel) rfl
theorem wi_G_rate : Cond.instanceMethod y_G_rate ∈ W0 := W0_of 708 (by decide +kernel) rfl
theorem we_G_rate : Cond.selects R_G y_G_rate y_G_rate ∈ W0 := W0_of 709 (by decide +kernel) rfl
abbrev rt_G_lorryAt : Option FieldType := (some (FieldType.object "GritWatch$Lorry"))
theorem wc_G_lorryAt : Cond.code y_G_lorryAt b_G_lorryAt 2 rt_G_lorryAt ∈ W0 := W0_of 714 (by decide +kernel) rfl
theorem wi_G_lorryAt : Cond.instanceMethod y_G_lorryAt ∈ W0 := W0_of 713 (by decide +kernel) rfl
theorem we_G_lorryAt : Cond.selects R_G y_G_lorryAt y_G_lorryAt ∈ W0 := W0_sel 25 (by decide +kernel) rfl
abbrev rt_G_order : Option FieldType := (some FieldType.int)
theorem wc_G_order : Cond.code y_G_order b_G_order 4 rt_G_order ∈ W0 := W0_of 723 (by decide +kernel) rfl
theorem wi_G_order : Cond.instanceMethod y_G_order ∈ W0 := W0_of 721 (by decide +kernel) rfl
theorem we_G_order : Cond.selects R_G y_G_order y_G_order ∈ W0 := W0_of 722 (by decide +kernel) rfl
abbrev rt_Lor_addOrder : Option FieldType := none
theorem wc_Lor_addOrder : Cond.code y_Lor_addOrder b_Lor_addOrder 2 rt_Lor_addOrder ∈ W0 := W0_of 729 (by decide +kernel) rfl
theorem wi_Lor_addOrder : Cond.instanceMethod y_Lor_addOrder ∈ W0 := W0_of 727 (by decide +kernel) rfl
theorem we_Lor_addOrder : Cond.selects R_Lor y_Lor_addOrder y_Lor_addOrder ∈ W0 := W0_of 728 (by decide +kernel) rfl
abbrev rt_G_load : Option FieldType := (some FieldType.int)
theorem wc_G_load : Cond.code y_G_load b_G_load 4 rt_G_load ∈ W0 := W0_of 736 (by decide +kernel) rfl
theorem wi_G_load : Cond.instanceMethod y_G_load ∈ W0 := W0_of 734 (by decide +kernel) rfl
theorem we_G_load : Cond.selects R_G y_G_load y_G_load ∈ W0 := W0_of 735 (by decide +kernel) rfl
abbrev rt_G_rest : Option FieldType := (some FieldType.int)
theorem wc_G_rest : Cond.code y_G_rest b_G_rest 4 rt_G_rest ∈ W0 := W0_of 744 (by decide +kernel) rfl
theorem wi_G_rest : Cond.instanceMethod y_G_rest ∈ W0 := W0_of 742 (by decide +kernel) rfl
theorem we_G_rest : Cond.selects R_G y_G_rest y_G_rest ∈ W0 := W0_of 743 (by decide +kernel) rfl
abbrev rt_G_deliver : Option FieldType := (some FieldType.int)
theorem wc_G_deliver : Cond.code y_G_deliver b_G_deliver 3 rt_G_deliver ∈ W0 := W0_of 752 (by decide +kernel) rfl
theorem wi_G_deliver : Cond.instanceMethod y_G_deliver ∈ W0 := W0_of 750 (by decide +kernel) rfl
theorem we_G_deliver : Cond.selects R_G y_G_deliver y_G_deliver ∈ W0 := W0_of 751 (by decide +kernel) rfl
abbrev rt_Del_init : Option FieldType := none
theorem wc_Del_init : Cond.code y_Del_init b_Del_init 3 none ∈ W0 := W0_of 758 (by decide +kernel) rfl
theorem wi_Del_init : Cond.instanceMethod y_Del_init ∈ W0 := W0_of 757 (by decide +kernel) rfl
theorem wz_Del_init : Cond.initialized y_Del_init.cls ∈ W0 := W0_of 27 (by decide +kernel) rfl
abbrev rt_G_keepDelivery : Option FieldType := none
theorem wc_G_keepDelivery : Cond.code y_G_keepDelivery b_G_keepDelivery 3 rt_G_keepDelivery ∈ W0 := W0_of 772 (by decide +kernel) rfl
theorem wi_G_keepDelivery : Cond.instanceMethod y_G_keepDelivery ∈ W0 := W0_of 771 (by decide +kernel) rfl
theorem we_G_keepDelivery : Cond.selects R_G y_G_keepDelivery y_G_keepDelivery ∈ W0 := W0_sel 26 (by decide +kernel) rfl
abbrev rt_G_claim : Option FieldType := (some FieldType.int)
theorem wc_G_claim : Cond.code y_G_claim b_G_claim 4 rt_G_claim ∈ W0 := W0_of 779 (by decide +kernel) rfl
theorem wi_G_claim : Cond.instanceMethod y_G_claim ∈ W0 := W0_of 777 (by decide +kernel) rfl
theorem we_G_claim : Cond.selects R_G y_G_claim y_G_claim ∈ W0 := W0_of 778 (by decide +kernel) rfl
abbrev rt_G_ofRoad : Option FieldType := (some FieldType.int)
theorem wc_G_ofRoad : Cond.code y_G_ofRoad b_G_ofRoad 4 rt_G_ofRoad ∈ W0 := W0_of 788 (by decide +kernel) rfl
theorem wi_G_ofRoad : Cond.instanceMethod y_G_ofRoad ∈ W0 := W0_of 786 (by decide +kernel) rfl
theorem we_G_ofRoad : Cond.selects R_G y_G_ofRoad y_G_ofRoad ∈ W0 := W0_of 787 (by decide +kernel) rfl
abbrev rt_G_ofLorry : Option FieldType := (some FieldType.int)
theorem wc_G_ofLorry : Cond.code y_G_ofLorry b_G_ofLorry 4 rt_G_ofLorry ∈ W0 := W0_of 796 (by decide +kernel) rfl
theorem wi_G_ofLorry : Cond.instanceMethod y_G_ofLorry ∈ W0 := W0_of 794 (by decide +kernel) rfl
theorem we_G_ofLorry : Cond.selects R_G y_G_ofLorry y_G_ofLorry ∈ W0 := W0_of 795 (by decide +kernel) rfl
abbrev rt_G_many : Option FieldType := (some FieldType.int)
theorem wc_G_many : Cond.code y_G_many b_G_many 2 rt_G_many ∈ W0 := W0_of 804 (by decide +kernel) rfl
theorem wi_G_many : Cond.instanceMethod y_G_many ∈ W0 := W0_of 802 (by decide +kernel) rfl
theorem we_G_many : Cond.selects R_G y_G_many y_G_many ∈ W0 := W0_of 803 (by decide +kernel) rfl
abbrev rt_G_way : Option FieldType := (some FieldType.int)
theorem wc_G_way : Cond.code y_G_way b_G_way 3 rt_G_way ∈ W0 := W0_of 811 (by decide +kernel) rfl
theorem wi_G_way : Cond.instanceMethod y_G_way ∈ W0 := W0_of 809 (by decide +kernel) rfl
theorem we_G_way : Cond.selects R_G y_G_way y_G_way ∈ W0 := W0_of 810 (by decide +kernel) rfl
abbrev rt_G_slipperyIn : Option FieldType := (some FieldType.int)
theorem wc_G_slipperyIn : Cond.code y_G_slipperyIn b_G_slipperyIn 4 rt_G_slipperyIn ∈ W0 := W0_of 818 (by decide +kernel) rfl
theorem wi_G_slipperyIn : Cond.instanceMethod y_G_slipperyIn ∈ W0 := W0_of 816 (by decide +kernel) rfl
theorem we_G_slipperyIn : Cond.selects R_G y_G_slipperyIn y_G_slipperyIn ∈ W0 := W0_of 817 (by decide +kernel) rfl
abbrev rt_G_saltFor : Option FieldType := (some FieldType.int)
theorem wc_G_saltFor : Cond.code y_G_saltFor b_G_saltFor 4 rt_G_saltFor ∈ W0 := W0_of 826 (by decide +kernel) rfl
theorem wi_G_saltFor : Cond.instanceMethod y_G_saltFor ∈ W0 := W0_of 824 (by decide +kernel) rfl
theorem we_G_saltFor : Cond.selects R_G y_G_saltFor y_G_saltFor ∈ W0 := W0_of 825 (by decide +kernel) rfl
abbrev rt_G_bestOrders : Option FieldType := (some FieldType.int)
theorem wc_G_bestOrders : Cond.code y_G_bestOrders b_G_bestOrders 3 rt_G_bestOrders ∈ W0 := W0_of 833 (by decide +kernel) rfl
theorem wi_G_bestOrders : Cond.instanceMethod y_G_bestOrders ∈ W0 := W0_of 831 (by decide +kernel) rfl
theorem we_G_bestOrders : Cond.selects R_G y_G_bestOrders y_G_bestOrders ∈ W0 := W0_of 832 (by decide +kernel) rfl
abbrev rt_M_init : Option FieldType := none
theorem wc_M_init : Cond.code y_M_init b_M_init 1 none ∈ W0 := W0_of 839 (by decide +kernel) rfl
theorem wi_M_init : Cond.instanceMethod y_M_init ∈ W0 := W0_of 838 (by decide +kernel) rfl
theorem wz_M_init : Cond.initialized y_M_init.cls ∈ W0 := W0_of 5 (by decide +kernel) rfl
abbrev rt_AL_init_da8c8 : Option FieldType := none
theorem wc_AL_init_da8c8 : Cond.code y_AL_init_da8c8 b_AL_init_da8c8 1 none ∈ W0 := W0_of 845 (by decide +kernel) rfl
theorem wi_AL_init_da8c8 : Cond.instanceMethod y_AL_init_da8c8 ∈ W0 := W0_of 844 (by decide +kernel) rfl
theorem wz_AL_init_da8c8 : Cond.initialized y_AL_init_da8c8.cls ∈ W0 := W0_of 8 (by decide +kernel) rfl
abbrev rt_AbL_init_da8c8 : Option FieldType := none
theorem wc_AbL_init_da8c8 : Cond.code y_AbL_init_da8c8 b_AbL_init_da8c8 1 none ∈ W0 := W0_of 848 (by decide +kernel) rfl
theorem wi_AbL_init_da8c8 : Cond.instanceMethod y_AbL_init_da8c8 ∈ W0 := W0_of 847 (by decide +kernel) rfl
theorem wz_AbL_init_da8c8 : Cond.initialized y_AbL_init_da8c8.cls ∈ W0 := W0_of 7 (by decide +kernel) rfl
abbrev rt_AbC_init_da8c8 : Option FieldType := none
theorem wc_AbC_init_da8c8 : Cond.code y_AbC_init_da8c8 b_AbC_init_da8c8 1 none ∈ W0 := W0_of 851 (by decide +kernel) rfl
theorem wi_AbC_init_da8c8 : Cond.instanceMethod y_AbC_init_da8c8 ∈ W0 := W0_of 850 (by decide +kernel) rfl
theorem wz_AbC_init_da8c8 : Cond.initialized y_AbC_init_da8c8.cls ∈ W0 := W0_of 6 (by decide +kernel) rfl
abbrev rt_MWea_init : Option FieldType := none
theorem wc_MWea_init : Cond.code y_MWea_init b_MWea_init 1 none ∈ W0 := W0_of 873 (by decide +kernel) rfl
theorem wi_MWea_init : Cond.instanceMethod y_MWea_init ∈ W0 := W0_of 872 (by decide +kernel) rfl
theorem wz_MWea_init : Cond.initialized y_MWea_init.cls ∈ W0 := W0_of 9 (by decide +kernel) rfl
abbrev rt_M_thrown : Option FieldType := (some FieldType.int)
theorem wc_M_thrown : Cond.code y_M_thrown b_M_thrown 1 rt_M_thrown ∈ W0 := W0_of 949 (by decide +kernel) rfl
theorem wi_M_thrown : Cond.instanceMethod y_M_thrown ∈ W0 := W0_of 947 (by decide +kernel) rfl
theorem we_M_thrown : Cond.selects R_M y_M_thrown y_M_thrown ∈ W0 := W0_of 948 (by decide +kernel) rfl
abbrev rt_M_road : Option FieldType := (some FieldType.int)
theorem wc_M_road : Cond.code y_M_road b_M_road 8 rt_M_road ∈ W0 := W0_of 953 (by decide +kernel) rfl
theorem wi_M_road : Cond.instanceMethod y_M_road ∈ W0 := W0_of 951 (by decide +kernel) rfl
theorem we_M_road : Cond.selects R_M y_M_road y_M_road ∈ W0 := W0_of 952 (by decide +kernel) rfl
abbrev rt_M_isNode : Option FieldType := (some FieldType.boolean)
theorem wc_M_isNode : Cond.code y_M_isNode b_M_isNode 1 rt_M_isNode ∈ W0 := W0_of 956 (by decide +kernel) rfl
theorem wi_M_isNode : Cond.static y_M_isNode ∈ W0 := W0_of 955 (by decide +kernel) rfl
theorem wz_M_isNode : Cond.initialized y_M_isNode.cls ∈ W0 := W0_of 5 (by decide +kernel) rfl
abbrev rt_M_in : Option FieldType := (some FieldType.boolean)
theorem wc_M_in : Cond.code y_M_in b_M_in 3 rt_M_in ∈ W0 := W0_of 959 (by decide +kernel) rfl
theorem wi_M_in : Cond.static y_M_in ∈ W0 := W0_of 958 (by decide +kernel) rfl
theorem wz_M_in : Cond.initialized y_M_in.cls ∈ W0 := W0_of 5 (by decide +kernel) rfl
abbrev rt_M_no : Option FieldType := (some FieldType.int)
theorem wc_M_no : Cond.code y_M_no b_M_no 2 rt_M_no ∈ W0 := W0_of 963 (by decide +kernel) rfl
theorem wi_M_no : Cond.instanceMethod y_M_no ∈ W0 := W0_of 962 (by decide +kernel) rfl
theorem we_M_no : Cond.selects R_M y_M_no y_M_no ∈ W0 := W0_sel 27 (by decide +kernel) rfl
abbrev rt_AL_size_8abf5 : Option FieldType := (some FieldType.int)
abbrev rt_MRoad_init : Option FieldType := none
theorem wc_MRoad_init : Cond.code y_MRoad_init b_MRoad_init 8 none ∈ W0 := W0_of 978 (by decide +kernel) rfl
theorem wi_MRoad_init : Cond.instanceMethod y_MRoad_init ∈ W0 := W0_of 977 (by decide +kernel) rfl
theorem wz_MRoad_init : Cond.initialized y_MRoad_init.cls ∈ W0 := W0_of 17 (by decide +kernel) rfl
abbrev rt_AL_add_9ea2d : Option FieldType := (some FieldType.boolean)
abbrev rt_AL_add_72be8 : Option FieldType := none
theorem wc_AL_add_72be8 : Cond.code y_AL_add_72be8 b_AL_add_72be8 4 rt_AL_add_72be8 ∈ W0 := W0_of 1064 (by decide +kernel) rfl
theorem wi_AL_add_72be8 : Cond.instanceMethod y_AL_add_72be8 ∈ W0 := W0_of 1063 (by decide +kernel) rfl
theorem we_AL_add_72be8 : Cond.selects R_AL y_AL_add_72be8 y_AL_add_72be8 ∈ W0 := W0_sel 28 (by decide +kernel) rfl
abbrev rt_AL_grow_d5877 : Option FieldType := (some (FieldType.array (FieldType.object "java/lang/Object")))
theorem wc_AL_grow_d5877 : Cond.code y_AL_grow_d5877 b_AL_grow_d5877 1 rt_AL_grow_d5877 ∈ W0 := W0_of 1068 (by decide +kernel) rfl
theorem wi_AL_grow_d5877 : Cond.instanceMethod y_AL_grow_d5877 ∈ W0 := W0_of 1067 (by decide +kernel) rfl
theorem we_AL_grow_d5877 : Cond.selects R_AL y_AL_grow_d5877 y_AL_grow_d5877 ∈ W0 := W0_sel 29 (by decide +kernel) rfl
abbrev rt_AL_grow_92f84 : Option FieldType := (some (FieldType.array (FieldType.object "java/lang/Object")))
theorem wc_AL_grow_92f84 : Cond.code y_AL_grow_92f84 b_AL_grow_92f84 4 rt_AL_grow_92f84 ∈ W0 := W0_of 1072 (by decide +kernel) rfl
theorem wi_AL_grow_92f84 : Cond.instanceMethod y_AL_grow_92f84 ∈ W0 := W0_of 1071 (by decide +kernel) rfl
theorem we_AL_grow_92f84 : Cond.selects R_AL y_AL_grow_92f84 y_AL_grow_92f84 ∈ W0 := W0_sel 30 (by decide +kernel) rfl
abbrev rt_ArrS_newLength_cabcc : Option FieldType := (some FieldType.int)
theorem wc_ArrS_newLength_cabcc : Cond.code y_ArrS_newLength_cabcc b_ArrS_newLength_cabcc 4 rt_ArrS_newLength_cabcc ∈ W0 := W0_of 1075 (by decide +kernel) rfl
theorem wi_ArrS_newLength_cabcc : Cond.static y_ArrS_newLength_cabcc ∈ W0 := W0_of 1074 (by decide +kernel) rfl
theorem wz_ArrS_newLength_cabcc : Cond.initialized y_ArrS_newLength_cabcc.cls ∈ W0 := W0_of 18 (by decide +kernel) rfl
abbrev rt_ArrS_hugeLength_7cf53 : Option FieldType := (some FieldType.int)
theorem wc_ArrS_hugeLength_7cf53 : Cond.code y_ArrS_hugeLength_7cf53 b_ArrS_hugeLength_7cf53 3 rt_ArrS_hugeLength_7cf53 ∈ W0 := W0_of 1080 (by decide +kernel) rfl
theorem wi_ArrS_hugeLength_7cf53 : Cond.static y_ArrS_hugeLength_7cf53 ∈ W0 := W0_of 1079 (by decide +kernel) rfl
theorem wz_ArrS_hugeLength_7cf53 : Cond.initialized y_ArrS_hugeLength_7cf53.cls ∈ W0 := W0_of 18 (by decide +kernel) rfl
abbrev rt_Arrays_copyOf_1904c : Option FieldType := (some (FieldType.array (FieldType.object "java/lang/Object")))
theorem wc_Arrays_copyOf_1904c : Cond.code y_Arrays_copyOf_1904c b_Arrays_copyOf_1904c 2 rt_Arrays_copyOf_1904c ∈ W0 := W0_of 1083 (by decide +kernel) rfl
theorem wi_Arrays_copyOf_1904c : Cond.static y_Arrays_copyOf_1904c ∈ W0 := W0_of 1082 (by decide +kernel) rfl
theorem wz_Arrays_copyOf_1904c : Cond.initialized y_Arrays_copyOf_1904c.cls ∈ W0 := W0_of 20 (by decide +kernel) rfl
abbrev rt_Arrays_copyOf_6403c : Option FieldType := (some (FieldType.array (FieldType.object "java/lang/Object")))
theorem wc_Arrays_copyOf_6403c : Cond.code y_Arrays_copyOf_6403c b_Arrays_copyOf_6403c 4 rt_Arrays_copyOf_6403c ∈ W0 := W0_of 1106 (by decide +kernel) rfl
theorem wi_Arrays_copyOf_6403c : Cond.static y_Arrays_copyOf_6403c ∈ W0 := W0_of 1105 (by decide +kernel) rfl
theorem wz_Arrays_copyOf_6403c : Cond.initialized y_Arrays_copyOf_6403c.cls ∈ W0 := W0_of 20 (by decide +kernel) rfl
abbrev rt_M_air : Option FieldType := (some FieldType.int)
theorem wc_M_air : Cond.code y_M_air b_M_air 4 rt_M_air ∈ W0 := W0_of 1119 (by decide +kernel) rfl
theorem wi_M_air : Cond.instanceMethod y_M_air ∈ W0 := W0_of 1117 (by decide +kernel) rfl
theorem we_M_air : Cond.selects R_M y_M_air y_M_air ∈ W0 := W0_of 1118 (by decide +kernel) rfl
abbrev rt_M_fall : Option FieldType := (some FieldType.int)
theorem wc_M_fall : Cond.code y_M_fall b_M_fall 5 rt_M_fall ∈ W0 := W0_of 1123 (by decide +kernel) rfl
theorem wi_M_fall : Cond.instanceMethod y_M_fall ∈ W0 := W0_of 1121 (by decide +kernel) rfl
theorem we_M_fall : Cond.selects R_M y_M_fall y_M_fall ∈ W0 := W0_of 1122 (by decide +kernel) rfl
abbrev rt_M_forecast : Option FieldType := (some FieldType.int)
theorem wc_M_forecast : Cond.code y_M_forecast b_M_forecast 9 rt_M_forecast ∈ W0 := W0_of 1127 (by decide +kernel) rfl
theorem wi_M_forecast : Cond.instanceMethod y_M_forecast ∈ W0 := W0_of 1125 (by decide +kernel) rfl
theorem we_M_forecast : Cond.selects R_M y_M_forecast y_M_forecast ∈ W0 := W0_of 1126 (by decide +kernel) rfl
abbrev rt_M_inHoppers : Option FieldType := (some FieldType.int)
theorem wc_M_inHoppers : Cond.code y_M_inHoppers b_M_inHoppers 3 rt_M_inHoppers ∈ W0 := W0_of 1131 (by decide +kernel) rfl
theorem wi_M_inHoppers : Cond.instanceMethod y_M_inHoppers ∈ W0 := W0_of 1130 (by decide +kernel) rfl
theorem we_M_inHoppers : Cond.selects R_M y_M_inHoppers y_M_inHoppers ∈ W0 := W0_sel 31 (by decide +kernel) rfl
abbrev rt_AL_get_915e3 : Option FieldType := (some (FieldType.object "java/lang/Object"))
abbrev rt_Objs_checkIndex_7cf53 : Option FieldType := (some FieldType.int)
theorem wc_Objs_checkIndex_7cf53 : Cond.code y_Objs_checkIndex_7cf53 b_Objs_checkIndex_7cf53 2 rt_Objs_checkIndex_7cf53 ∈ W0 := W0_of 1143 (by decide +kernel) rfl
theorem wi_Objs_checkIndex_7cf53 : Cond.static y_Objs_checkIndex_7cf53 ∈ W0 := W0_of 1142 (by decide +kernel) rfl
theorem wz_Objs_checkIndex_7cf53 : Cond.initialized y_Objs_checkIndex_7cf53.cls ∈ W0 := W0_of 23 (by decide +kernel) rfl
abbrev rt_Prec_checkIndex_8e157 : Option FieldType := (some FieldType.int)
theorem wc_Prec_checkIndex_8e157 : Cond.code y_Prec_checkIndex_8e157 b_Prec_checkIndex_8e157 3 rt_Prec_checkIndex_8e157 ∈ W0 := W0_of 1146 (by decide +kernel) rfl
theorem wi_Prec_checkIndex_8e157 : Cond.static y_Prec_checkIndex_8e157 ∈ W0 := W0_of 1145 (by decide +kernel) rfl
theorem wz_Prec_checkIndex_8e157 : Cond.initialized y_Prec_checkIndex_8e157.cls ∈ W0 := W0_of 24 (by decide +kernel) rfl
abbrev rt_AL_elementData_915e3 : Option FieldType := (some (FieldType.object "java/lang/Object"))
theorem wc_AL_elementData_915e3 : Cond.code y_AL_elementData_915e3 b_AL_elementData_915e3 2 rt_AL_elementData_915e3 ∈ W0 := W0_of 1150 (by decide +kernel) rfl
theorem wi_AL_elementData_915e3 : Cond.instanceMethod y_AL_elementData_915e3 ∈ W0 := W0_of 1148 (by decide +kernel) rfl
theorem we_AL_elementData_915e3 : Cond.selects R_AL y_AL_elementData_915e3 y_AL_elementData_915e3 ∈ W0 := W0_of 1149 (by decide +kernel) rfl
abbrev rt_M_isForetold : Option FieldType := (some FieldType.boolean)
theorem wc_M_isForetold : Cond.code y_M_isForetold b_M_isForetold 4 rt_M_isForetold ∈ W0 := W0_of 1155 (by decide +kernel) rfl
theorem wi_M_isForetold : Cond.static y_M_isForetold ∈ W0 := W0_of 1154 (by decide +kernel) rfl
theorem wz_M_isForetold : Cond.initialized y_M_isForetold.cls ∈ W0 := W0_of 5 (by decide +kernel) rfl
abbrev rt_MRoad_goal : Option FieldType := (some FieldType.int)
theorem wc_MRoad_goal : Cond.code y_MRoad_goal b_MRoad_goal 3 rt_MRoad_goal ∈ W0 := W0_of 1159 (by decide +kernel) rfl
theorem wi_MRoad_goal : Cond.instanceMethod y_MRoad_goal ∈ W0 := W0_of 1157 (by decide +kernel) rfl
theorem we_MRoad_goal : Cond.selects R_MRoad y_MRoad_goal y_MRoad_goal ∈ W0 := W0_of 1158 (by decide +kernel) rfl
abbrev rt_M_pass : Option FieldType := (some FieldType.int)
theorem wc_M_pass : Cond.code y_M_pass b_M_pass 4 rt_M_pass ∈ W0 := W0_of 1163 (by decide +kernel) rfl
theorem wi_M_pass : Cond.instanceMethod y_M_pass ∈ W0 := W0_of 1161 (by decide +kernel) rfl
theorem we_M_pass : Cond.selects R_M y_M_pass y_M_pass ∈ W0 := W0_of 1162 (by decide +kernel) rfl
abbrev rt_M_quarter : Option FieldType := (some FieldType.int)
theorem wc_M_quarter : Cond.code y_M_quarter b_M_quarter 6 rt_M_quarter ∈ W0 := W0_of 1167 (by decide +kernel) rfl
theorem wi_M_quarter : Cond.instanceMethod y_M_quarter ∈ W0 := W0_of 1166 (by decide +kernel) rfl
theorem we_M_quarter : Cond.selects R_M y_M_quarter y_M_quarter ∈ W0 := W0_sel 32 (by decide +kernel) rfl
abbrev rt_MRoad_pass : Option FieldType := (some FieldType.boolean)
theorem wc_MRoad_pass : Cond.code y_MRoad_pass b_MRoad_pass 7 rt_MRoad_pass ∈ W0 := W0_of 1171 (by decide +kernel) rfl
theorem wi_MRoad_pass : Cond.instanceMethod y_MRoad_pass ∈ W0 := W0_of 1169 (by decide +kernel) rfl
theorem we_MRoad_pass : Cond.selects R_MRoad y_MRoad_pass y_MRoad_pass ∈ W0 := W0_of 1170 (by decide +kernel) rfl
abbrev rt_MRoad_point : Option FieldType := (some FieldType.int)
theorem wc_MRoad_point : Cond.code y_MRoad_point b_MRoad_point 2 rt_MRoad_point ∈ W0 := W0_of 1178 (by decide +kernel) rfl
theorem wi_MRoad_point : Cond.instanceMethod y_MRoad_point ∈ W0 := W0_of 1176 (by decide +kernel) rfl
theorem we_MRoad_point : Cond.selects R_MRoad y_MRoad_point y_MRoad_point ∈ W0 := W0_of 1177 (by decide +kernel) rfl
abbrev rt_M_work : Option FieldType := none
theorem wc_M_work : Cond.code y_M_work b_M_work 4 rt_M_work ∈ W0 := W0_of 1182 (by decide +kernel) rfl
theorem wi_M_work : Cond.instanceMethod y_M_work ∈ W0 := W0_of 1181 (by decide +kernel) rfl
theorem we_M_work : Cond.selects R_M y_M_work y_M_work ∈ W0 := W0_sel 33 (by decide +kernel) rfl
abbrev rt_MRoad_has : Option FieldType := (some FieldType.boolean)
theorem wc_MRoad_has : Cond.code y_MRoad_has b_MRoad_has 2 rt_MRoad_has ∈ W0 := W0_of 1186 (by decide +kernel) rfl
theorem wi_MRoad_has : Cond.instanceMethod y_MRoad_has ∈ W0 := W0_of 1184 (by decide +kernel) rfl
theorem we_MRoad_has : Cond.selects R_MRoad y_MRoad_has y_MRoad_has ∈ W0 := W0_of 1185 (by decide +kernel) rfl
abbrev rt_MLor_drop : Option FieldType := none
theorem wc_MLor_drop : Cond.code y_MLor_drop b_MLor_drop 1 rt_MLor_drop ∈ W0 := W0_of 1190 (by decide +kernel) rfl
theorem wi_MLor_drop : Cond.instanceMethod y_MLor_drop ∈ W0 := W0_of 1188 (by decide +kernel) rfl
theorem we_MLor_drop : Cond.selects R_MLor y_MLor_drop y_MLor_drop ∈ W0 := W0_of 1189 (by decide +kernel) rfl
abbrev rt_M_lorry : Option FieldType := (some FieldType.int)
theorem wc_M_lorry : Cond.code y_M_lorry b_M_lorry 2 rt_M_lorry ∈ W0 := W0_of 1196 (by decide +kernel) rfl
theorem wi_M_lorry : Cond.instanceMethod y_M_lorry ∈ W0 := W0_of 1194 (by decide +kernel) rfl
theorem we_M_lorry : Cond.selects R_M y_M_lorry y_M_lorry ∈ W0 := W0_of 1195 (by decide +kernel) rfl
abbrev rt_MLor_init : Option FieldType := none
theorem wc_MLor_init : Cond.code y_MLor_init b_MLor_init 2 none ∈ W0 := W0_of 1200 (by decide +kernel) rfl
theorem wi_MLor_init : Cond.instanceMethod y_MLor_init ∈ W0 := W0_of 1199 (by decide +kernel) rfl
theorem wz_MLor_init : Cond.initialized y_MLor_init.cls ∈ W0 := W0_of 26 (by decide +kernel) rfl
abbrev rt_M_rate : Option FieldType := (some FieldType.int)
theorem wc_M_rate : Cond.code y_M_rate b_M_rate 4 rt_M_rate ∈ W0 := W0_of 1246 (by decide +kernel) rfl
theorem wi_M_rate : Cond.instanceMethod y_M_rate ∈ W0 := W0_of 1244 (by decide +kernel) rfl
theorem we_M_rate : Cond.selects R_M y_M_rate y_M_rate ∈ W0 := W0_of 1245 (by decide +kernel) rfl
abbrev rt_M_isLorry : Option FieldType := (some FieldType.boolean)
theorem wc_M_isLorry : Cond.code y_M_isLorry b_M_isLorry 2 rt_M_isLorry ∈ W0 := W0_of 1250 (by decide +kernel) rfl
theorem wi_M_isLorry : Cond.instanceMethod y_M_isLorry ∈ W0 := W0_of 1249 (by decide +kernel) rfl
theorem we_M_isLorry : Cond.selects R_M y_M_isLorry y_M_isLorry ∈ W0 := W0_sel 34 (by decide +kernel) rfl
abbrev rt_M_order : Option FieldType := (some FieldType.int)
theorem wc_M_order : Cond.code y_M_order b_M_order 4 rt_M_order ∈ W0 := W0_of 1254 (by decide +kernel) rfl
theorem wi_M_order : Cond.instanceMethod y_M_order ∈ W0 := W0_of 1252 (by decide +kernel) rfl
theorem we_M_order : Cond.selects R_M y_M_order y_M_order ∈ W0 := W0_of 1253 (by decide +kernel) rfl
abbrev rt_M_isRoad : Option FieldType := (some FieldType.boolean)
theorem wc_M_isRoad : Cond.code y_M_isRoad b_M_isRoad 2 rt_M_isRoad ∈ W0 := W0_of 1258 (by decide +kernel) rfl
theorem wi_M_isRoad : Cond.instanceMethod y_M_isRoad ∈ W0 := W0_of 1257 (by decide +kernel) rfl
theorem we_M_isRoad : Cond.selects R_M y_M_isRoad y_M_isRoad ∈ W0 := W0_sel 35 (by decide +kernel) rfl
abbrev rt_M_load : Option FieldType := (some FieldType.int)
theorem wc_M_load : Cond.code y_M_load b_M_load 4 rt_M_load ∈ W0 := W0_of 1262 (by decide +kernel) rfl
theorem wi_M_load : Cond.instanceMethod y_M_load ∈ W0 := W0_of 1260 (by decide +kernel) rfl
theorem we_M_load : Cond.selects R_M y_M_load y_M_load ∈ W0 := W0_of 1261 (by decide +kernel) rfl
abbrev rt_M_rest : Option FieldType := (some FieldType.int)
theorem wc_M_rest : Cond.code y_M_rest b_M_rest 4 rt_M_rest ∈ W0 := W0_of 1266 (by decide +kernel) rfl
theorem wi_M_rest : Cond.instanceMethod y_M_rest ∈ W0 := W0_of 1264 (by decide +kernel) rfl
theorem we_M_rest : Cond.selects R_M y_M_rest y_M_rest ∈ W0 := W0_of 1265 (by decide +kernel) rfl
abbrev rt_M_deliver : Option FieldType := (some FieldType.int)
theorem wc_M_deliver : Cond.code y_M_deliver b_M_deliver 3 rt_M_deliver ∈ W0 := W0_of 1270 (by decide +kernel) rfl
theorem wi_M_deliver : Cond.instanceMethod y_M_deliver ∈ W0 := W0_of 1268 (by decide +kernel) rfl
theorem we_M_deliver : Cond.selects R_M y_M_deliver y_M_deliver ∈ W0 := W0_of 1269 (by decide +kernel) rfl
abbrev rt_M_claim : Option FieldType := (some FieldType.int)
theorem wc_M_claim : Cond.code y_M_claim b_M_claim 3 rt_M_claim ∈ W0 := W0_of 1274 (by decide +kernel) rfl
theorem wi_M_claim : Cond.instanceMethod y_M_claim ∈ W0 := W0_of 1272 (by decide +kernel) rfl
theorem we_M_claim : Cond.selects R_M y_M_claim y_M_claim ∈ W0 := W0_of 1273 (by decide +kernel) rfl
abbrev rt_M_claimNow : Option FieldType := (some FieldType.int)
theorem wc_M_claimNow : Cond.code y_M_claimNow b_M_claimNow 7 rt_M_claimNow ∈ W0 := W0_of 1278 (by decide +kernel) rfl
theorem wi_M_claimNow : Cond.instanceMethod y_M_claimNow ∈ W0 := W0_of 1277 (by decide +kernel) rfl
theorem we_M_claimNow : Cond.selects R_M y_M_claimNow y_M_claimNow ∈ W0 := W0_sel 36 (by decide +kernel) rfl
abbrev rt_M_ofRoad : Option FieldType := (some FieldType.int)
theorem wc_M_ofRoad : Cond.code y_M_ofRoad b_M_ofRoad 3 rt_M_ofRoad ∈ W0 := W0_of 1283 (by decide +kernel) rfl
theorem wi_M_ofRoad : Cond.instanceMethod y_M_ofRoad ∈ W0 := W0_of 1281 (by decide +kernel) rfl
theorem we_M_ofRoad : Cond.selects R_M y_M_ofRoad y_M_ofRoad ∈ W0 := W0_of 1282 (by decide +kernel) rfl
abbrev rt_MRoad_of : Option FieldType := (some FieldType.int)
theorem wc_MRoad_of : Cond.code y_MRoad_of b_MRoad_of 3 rt_MRoad_of ∈ W0 := W0_of 1287 (by decide +kernel) rfl
theorem wi_MRoad_of : Cond.instanceMethod y_MRoad_of ∈ W0 := W0_of 1285 (by decide +kernel) rfl
theorem we_MRoad_of : Cond.selects R_MRoad y_MRoad_of y_MRoad_of ∈ W0 := W0_of 1286 (by decide +kernel) rfl
abbrev rt_M_ofLorry : Option FieldType := (some FieldType.int)
theorem wc_M_ofLorry : Cond.code y_M_ofLorry b_M_ofLorry 3 rt_M_ofLorry ∈ W0 := W0_of 1291 (by decide +kernel) rfl
theorem wi_M_ofLorry : Cond.instanceMethod y_M_ofLorry ∈ W0 := W0_of 1289 (by decide +kernel) rfl
theorem we_M_ofLorry : Cond.selects R_M y_M_ofLorry y_M_ofLorry ∈ W0 := W0_of 1290 (by decide +kernel) rfl
abbrev rt_MLor_of : Option FieldType := (some FieldType.int)
theorem wc_MLor_of : Cond.code y_MLor_of b_MLor_of 3 rt_MLor_of ∈ W0 := W0_of 1295 (by decide +kernel) rfl
theorem wi_MLor_of : Cond.instanceMethod y_MLor_of ∈ W0 := W0_of 1293 (by decide +kernel) rfl
theorem we_MLor_of : Cond.selects R_MLor y_MLor_of y_MLor_of ∈ W0 := W0_of 1294 (by decide +kernel) rfl
abbrev rt_M_many : Option FieldType := (some FieldType.int)
theorem wc_M_many : Cond.code y_M_many b_M_many 2 rt_M_many ∈ W0 := W0_of 1299 (by decide +kernel) rfl
theorem wi_M_many : Cond.instanceMethod y_M_many ∈ W0 := W0_of 1297 (by decide +kernel) rfl
theorem we_M_many : Cond.selects R_M y_M_many y_M_many ∈ W0 := W0_of 1298 (by decide +kernel) rfl
abbrev rt_M_manyNow : Option FieldType := (some FieldType.int)
theorem wc_M_manyNow : Cond.code y_M_manyNow b_M_manyNow 5 rt_M_manyNow ∈ W0 := W0_of 1303 (by decide +kernel) rfl
theorem wi_M_manyNow : Cond.instanceMethod y_M_manyNow ∈ W0 := W0_of 1302 (by decide +kernel) rfl
theorem we_M_manyNow : Cond.selects R_M y_M_manyNow y_M_manyNow ∈ W0 := W0_sel 37 (by decide +kernel) rfl
abbrev rt_M_way : Option FieldType := (some FieldType.int)
theorem wc_M_way : Cond.code y_M_way b_M_way 3 rt_M_way ∈ W0 := W0_of 1307 (by decide +kernel) rfl
theorem wi_M_way : Cond.instanceMethod y_M_way ∈ W0 := W0_of 1305 (by decide +kernel) rfl
theorem we_M_way : Cond.selects R_M y_M_way y_M_way ∈ W0 := W0_of 1306 (by decide +kernel) rfl
abbrev rt_M_wayNow : Option FieldType := (some FieldType.int)
theorem wc_M_wayNow : Cond.code y_M_wayNow b_M_wayNow 7 rt_M_wayNow ∈ W0 := W0_of 1311 (by decide +kernel) rfl
theorem wi_M_wayNow : Cond.instanceMethod y_M_wayNow ∈ W0 := W0_of 1310 (by decide +kernel) rfl
theorem we_M_wayNow : Cond.selects R_M y_M_wayNow y_M_wayNow ∈ W0 := W0_sel 38 (by decide +kernel) rfl
abbrev rt_M_meanWarmth : Option FieldType := (some FieldType.double)
theorem wc_M_meanWarmth : Cond.code y_M_meanWarmth b_M_meanWarmth 3 rt_M_meanWarmth ∈ W0 := W0_of 1315 (by decide +kernel) rfl
theorem wi_M_meanWarmth : Cond.instanceMethod y_M_meanWarmth ∈ W0 := W0_of 1313 (by decide +kernel) rfl
theorem we_M_meanWarmth : Cond.selects R_M y_M_meanWarmth y_M_meanWarmth ∈ W0 := W0_of 1314 (by decide +kernel) rfl
abbrev rt_AL_isEmpty_aae02 : Option FieldType := (some FieldType.boolean)
abbrev rt_M_slipperyIn : Option FieldType := (some FieldType.int)
theorem wc_M_slipperyIn : Cond.code y_M_slipperyIn b_M_slipperyIn 3 rt_M_slipperyIn ∈ W0 := W0_of 1328 (by decide +kernel) rfl
theorem wi_M_slipperyIn : Cond.instanceMethod y_M_slipperyIn ∈ W0 := W0_of 1326 (by decide +kernel) rfl
theorem we_M_slipperyIn : Cond.selects R_M y_M_slipperyIn y_M_slipperyIn ∈ W0 := W0_of 1327 (by decide +kernel) rfl
abbrev rt_MRoad_bare : Option FieldType := (some (FieldType.object "GritWatchModel$Road"))
theorem wc_MRoad_bare : Cond.code y_MRoad_bare b_MRoad_bare 1 rt_MRoad_bare ∈ W0 := W0_of 1332 (by decide +kernel) rfl
theorem wi_MRoad_bare : Cond.instanceMethod y_MRoad_bare ∈ W0 := W0_of 1330 (by decide +kernel) rfl
theorem we_MRoad_bare : Cond.selects R_MRoad y_MRoad_bare y_MRoad_bare ∈ W0 := W0_of 1331 (by decide +kernel) rfl
abbrev rt_M_slipperyNow : Option FieldType := (some FieldType.int)
theorem wc_M_slipperyNow : Cond.code y_M_slipperyNow b_M_slipperyNow 6 rt_M_slipperyNow ∈ W0 := W0_of 1338 (by decide +kernel) rfl
theorem wi_M_slipperyNow : Cond.instanceMethod y_M_slipperyNow ∈ W0 := W0_of 1337 (by decide +kernel) rfl
theorem we_M_slipperyNow : Cond.selects R_M y_M_slipperyNow y_M_slipperyNow ∈ W0 := W0_sel 39 (by decide +kernel) rfl
abbrev rt_MRoad_copyTo : Option FieldType := none
theorem wc_MRoad_copyTo : Cond.code y_MRoad_copyTo b_MRoad_copyTo 2 rt_MRoad_copyTo ∈ W0 := W0_of 1342 (by decide +kernel) rfl
theorem wi_MRoad_copyTo : Cond.instanceMethod y_MRoad_copyTo ∈ W0 := W0_of 1340 (by decide +kernel) rfl
theorem we_MRoad_copyTo : Cond.selects R_MRoad y_MRoad_copyTo y_MRoad_copyTo ∈ W0 := W0_of 1341 (by decide +kernel) rfl
abbrev rt_M_saltFor : Option FieldType := (some FieldType.int)
theorem wc_M_saltFor : Cond.code y_M_saltFor b_M_saltFor 3 rt_M_saltFor ∈ W0 := W0_of 1346 (by decide +kernel) rfl
theorem wi_M_saltFor : Cond.instanceMethod y_M_saltFor ∈ W0 := W0_of 1344 (by decide +kernel) rfl
theorem we_M_saltFor : Cond.selects R_M y_M_saltFor y_M_saltFor ∈ W0 := W0_of 1345 (by decide +kernel) rfl
abbrev rt_M_saltNow : Option FieldType := (some FieldType.int)
theorem wc_M_saltNow : Cond.code y_M_saltNow b_M_saltNow 5 rt_M_saltNow ∈ W0 := W0_of 1350 (by decide +kernel) rfl
theorem wi_M_saltNow : Cond.instanceMethod y_M_saltNow ∈ W0 := W0_of 1349 (by decide +kernel) rfl
theorem we_M_saltNow : Cond.selects R_M y_M_saltNow y_M_saltNow ∈ W0 := W0_sel 40 (by decide +kernel) rfl
abbrev rt_M_bestOrders : Option FieldType := (some FieldType.int)
theorem wc_M_bestOrders : Cond.code y_M_bestOrders b_M_bestOrders 3 rt_M_bestOrders ∈ W0 := W0_of 1354 (by decide +kernel) rfl
theorem wi_M_bestOrders : Cond.instanceMethod y_M_bestOrders ∈ W0 := W0_of 1352 (by decide +kernel) rfl
theorem we_M_bestOrders : Cond.selects R_M y_M_bestOrders y_M_bestOrders ∈ W0 := W0_of 1353 (by decide +kernel) rfl
abbrev rt_M_bestNow : Option FieldType := (some FieldType.int)
theorem wc_M_bestNow : Cond.code y_M_bestNow b_M_bestNow 17 rt_M_bestNow ∈ W0 := W0_of 1358 (by decide +kernel) rfl
theorem wi_M_bestNow : Cond.instanceMethod y_M_bestNow ∈ W0 := W0_of 1357 (by decide +kernel) rfl
theorem we_M_bestNow : Cond.selects R_M y_M_bestNow y_M_bestNow ∈ W0 := W0_sel 41 (by decide +kernel) rfl
abbrev rt_M_digest : Option FieldType := (some FieldType.long)
theorem wc_M_digest : Cond.code y_M_digest b_M_digest 6 rt_M_digest ∈ W0 := W0_of 1362 (by decide +kernel) rfl
theorem wi_M_digest : Cond.instanceMethod y_M_digest ∈ W0 := W0_of 1360 (by decide +kernel) rfl
theorem we_M_digest : Cond.selects R_M y_M_digest y_M_digest ∈ W0 := W0_of 1361 (by decide +kernel) rfl
theorem s_min : Cond.static Lib.Math.min.name ∈ W0 := W0_of 256 (by decide +kernel) rfl
theorem cd_min : Cond.code Lib.Math.min.name Lib.Math.min.code 2 (some .int) ∈ W0 := W0_of 257 (by decide +kernel) rfl
theorem s_max : Cond.static Lib.Math.max.name ∈ W0 := W0_of 259 (by decide +kernel) rfl
theorem cd_max : Cond.code Lib.Math.max.name Lib.Math.max.code 2 (some .int) ∈ W0 := W0_of 260 (by decide +kernel) rfl
theorem s_obj : Cond.instanceMethod objectInit ∈ W0 := W0_of 34 (by decide +kernel) rfl
theorem cd_obj : Cond.code objectInit ⟨#[0xb1]⟩ 1 none ∈ W0 := W0_of 35 (by decide +kernel) rfl
end
section
/-! decode rows, by program -/
theorem d_Del_init_0 : decode b_Del_init 0 = .ok (.aload_n 0, 1) := by decide +kernel
theorem d_Del_init_1 : decode b_Del_init 1 = .ok (.invokespecial 1, 3) := by decide +kernel
theorem d_Del_init_4 : decode b_Del_init 4 = .ok (.aload_n 0, 1) := by decide +kernel
theorem d_Del_init_5 : decode b_Del_init 5 = .ok (.iload_n 1, 1) := by decide +kernel
theorem d_Del_init_6 : decode b_Del_init 6 = .ok (.putfield 7, 3) := by decide +kernel
theorem d_Del_init_9 : decode b_Del_init 9 = .ok (.aload_n 0, 1) := by decide +kernel
theorem d_Del_init_10 : decode b_Del_init 10 = .ok (.iload_n 2, 1) := by decide +kernel
theorem d_Del_init_11 : decode b_Del_init 11 = .ok (.putfield 13, 3) := by decide +kernel
theorem d_Del_init_14 : decode b_Del_init 14 = .ok (.return_, 1) := by decide +kernel
theorem d_Fc_init_0 : decode b_Fc_init 0 = .ok (.aload_n 0, 1) := by decide +kernel
theorem d_Fc_init_1 : decode b_Fc_init 1 = .ok (.invokespecial 1, 3) := by decide +kernel
theorem d_Fc_init_4 : decode b_Fc_init 4 = .ok (.aload_n 0, 1) := by decide +kernel
theorem d_Fc_init_5 : decode b_Fc_init 5 = .ok (.iload_n 1, 1) := by decide +kernel
theorem d_Fc_init_6 : decode b_Fc_init 6 = .ok (.putfield 7, 3) := by decide +kernel
theorem d_Fc_init_9 : decode b_Fc_init 9 = .ok (.aload_n 0, 1) := by decide +kernel
theorem d_Fc_init_10 : decode b_Fc_init 10 = .ok (.iload_n 2, 1) := by decide +kernel
theorem d_Fc_init_11 : decode b_Fc_init 11 = .ok (.putfield 13, 3) := by decide +kernel
theorem d_Fc_init_14 : decode b_Fc_init 14 = .ok (.aload_n 0, 1) := by decide +kernel
theorem d_Fc_init_15 : decode b_Fc_init 15 = .ok (.iload_n 3, 1) := by decide +kernel
theorem d_Fc_init_16 : decode b_Fc_init 16 = .ok (.putfield 16, 3) := by decide +kernel
theorem d_Fc_init_19 : decode b_Fc_init 19 = .ok (.return_, 1) := by decide +kernel
theorem d_Fc_tellMembers_0 : decode b_Fc_tellMembers 0 = .ok (.aload_n 0, 1) := by decide +kernel
theorem d_Fc_tellMembers_1 : decode b_Fc_tellMembers 1 = .ok (.iload_n 1, 1) := by decide +kernel
theorem d_Fc_tellMembers_2 : decode b_Fc_tellMembers 2 = .ok (.putfield 19, 3) := by decide +kernel
theorem d_Fc_tellMembers_5 : decode b_Fc_tellMembers 5 = .ok (.aload_n 0, 1) := by decide +kernel
theorem d_Fc_tellMembers_6 : decode b_Fc_tellMembers 6 = .ok (.iload_n 2, 1) := by decide +kernel
theorem d_Fc_tellMembers_7 : decode b_Fc_tellMembers 7 = .ok (.putfield 22, 3) := by decide +kernel
theorem d_Fc_tellMembers_10 : decode b_Fc_tellMembers 10 = .ok (.aload_n 0, 1) := by decide +kernel
theorem d_Fc_tellMembers_11 : decode b_Fc_tellMembers 11 = .ok (.iload_n 3, 1) := by decide +kernel
theorem d_Fc_tellMembers_12 : decode b_Fc_tellMembers 12 = .ok (.putfield 25, 3) := by decide +kernel
theorem d_Fc_tellMembers_15 : decode b_Fc_tellMembers 15 = .ok (.aload_n 0, 1) := by decide +kernel
theorem d_Fc_tellMembers_16 : decode b_Fc_tellMembers 16 = .ok (.iload 4, 2) := by decide +kernel
theorem d_Fc_tellMembers_18 : decode b_Fc_tellMembers 18 = .ok (.putfield 28, 3) := by decide +kernel
theorem d_Fc_tellMembers_21 : decode b_Fc_tellMembers 21 = .ok (.return_, 1) := by decide +kernel
theorem d_Fc_foretells_0 : decode b_Fc_foretells 0 = .ok (.aload_n 1, 1) := by decide +kernel
theorem d_Fc_foretells_1 : decode b_Fc_foretells 1 = .ok (.aload_n 0, 1) := by decide +kernel
theorem d_Fc_foretells_2 : decode b_Fc_foretells 2 = .ok (.getfield 19, 3) := by decide +kernel
theorem d_Fc_foretells_5 : decode b_Fc_foretells 5 = .ok (.aload_n 0, 1) := by decide +kernel
theorem d_Fc_foretells_6 : decode b_Fc_foretells 6 = .ok (.getfield 28, 3) := by decide +kernel
theorem d_Fc_foretells_9 : decode b_Fc_foretells 9 = .ok (.invokevirtual 32, 3) := by decide +kernel
theorem d_Fc_foretells_12 : decode b_Fc_foretells 12 = .ok (.ifCond .ge 7, 3) := by decide +kernel
theorem d_Fc_foretells_15 : decode b_Fc_foretells 15 = .ok (.iconst 1, 1) := by decide +kernel
theorem d_Fc_foretells_16 : decode b_Fc_foretells 16 = .ok (.goto 4, 3) := by decide +kernel
theorem d_Fc_foretells_19 : decode b_Fc_foretells 19 = .ok (.iconst 0, 1) := by decide +kernel
theorem d_Fc_foretells_20 : decode b_Fc_foretells 20 = .ok (.aload_n 1, 1) := by decide +kernel
theorem d_Fc_foretells_21 : decode b_Fc_foretells 21 = .ok (.aload_n 0, 1) := by decide +kernel
theorem d_Fc_foretells_22 : decode b_Fc_foretells 22 = .ok (.getfield 22, 3) := by decide +kernel
theorem d_Fc_foretells_25 : decode b_Fc_foretells 25 = .ok (.aload_n 0, 1) := by decide +kernel
theorem d_Fc_foretells_26 : decode b_Fc_foretells 26 = .ok (.getfield 28, 3) := by decide +kernel
theorem d_Fc_foretells_29 : decode b_Fc_foretells 29 = .ok (.invokevirtual 32, 3) := by decide +kernel
theorem d_Fc_foretells_32 : decode b_Fc_foretells 32 = .ok (.ifCond .ge 7, 3) := by decide +kernel
theorem d_Fc_foretells_35 : decode b_Fc_foretells 35 = .ok (.iconst 1, 1) := by decide +kernel
theorem d_Fc_foretells_36 : decode b_Fc_foretells 36 = .ok (.goto 4, 3) := by decide +kernel
theorem d_Fc_foretells_39 : decode b_Fc_foretells 39 = .ok (.iconst 0, 1) := by decide +kernel
theorem d_Fc_foretells_40 : decode b_Fc_foretells 40 = .ok (.iadd, 1) := by decide +kernel
theorem d_Fc_foretells_41 : decode b_Fc_foretells 41 = .ok (.aload_n 1, 1) := by decide +kernel
theorem d_Fc_foretells_42 : decode b_Fc_foretells 42 = .ok (.aload_n 0, 1) := by decide +kernel
theorem d_Fc_foretells_43 : decode b_Fc_foretells 43 = .ok (.getfield 25, 3) := by decide +kernel
theorem d_Fc_foretells_46 : decode b_Fc_foretells 46 = .ok (.aload_n 0, 1) := by decide +kernel
theorem d_Fc_foretells_47 : decode b_Fc_foretells 47 = .ok (.getfield 28, 3) := by decide +kernel
theorem d_Fc_foretells_50 : decode b_Fc_foretells 50 = .ok (.invokevirtual 32, 3) := by decide +kernel
theorem d_Fc_foretells_53 : decode b_Fc_foretells 53 = .ok (.ifCond .ge 7, 3) := by decide +kernel
theorem d_Fc_foretells_56 : decode b_Fc_foretells 56 = .ok (.iconst 1, 1) := by decide +kernel
theorem d_Fc_foretells_57 : decode b_Fc_foretells 57 = .ok (.goto 4, 3) := by decide +kernel
theorem d_Fc_foretells_60 : decode b_Fc_foretells 60 = .ok (.iconst 0, 1) := by decide +kernel
theorem d_Fc_foretells_61 : decode b_Fc_foretells 61 = .ok (.iadd, 1) := by decide +kernel
theorem d_Fc_foretells_62 : decode b_Fc_foretells 62 = .ok (.istore_n 2, 1) := by decide +kernel
theorem d_Fc_foretells_63 : decode b_Fc_foretells 63 = .ok (.iload_n 2, 1) := by decide +kernel
theorem d_Fc_foretells_64 : decode b_Fc_foretells 64 = .ok (.iconst 2, 1) := by decide +kernel
theorem d_Fc_foretells_65 : decode b_Fc_foretells 65 = .ok (.if_icmp .lt 7, 3) := by decide +kernel
theorem d_Fc_foretells_68 : decode b_Fc_foretells 68 = .ok (.iconst 1, 1) := by decide +kernel
theorem d_Fc_foretells_69 : decode b_Fc_foretells 69 = .ok (.goto 4, 3) := by decide +kernel
theorem d_Fc_foretells_72 : decode b_Fc_foretells 72 = .ok (.iconst 0, 1) := by decide +kernel
theorem d_Fc_foretells_73 : decode b_Fc_foretells 73 = .ok (.ireturn, 1) := by decide +kernel
theorem d_Lor_init_0 : decode b_Lor_init 0 = .ok (.aload_n 0, 1) := by decide +kernel
theorem d_Lor_init_1 : decode b_Lor_init 1 = .ok (.invokespecial 3, 3) := by decide +kernel
theorem d_Lor_init_4 : decode b_Lor_init 4 = .ok (.aload_n 0, 1) := by decide +kernel
theorem d_Lor_init_5 : decode b_Lor_init 5 = .ok (.bipush 8, 2) := by decide +kernel
theorem d_Lor_init_7 : decode b_Lor_init 7 = .ok (.newarray .int, 2) := by decide +kernel
theorem d_Lor_init_9 : decode b_Lor_init 9 = .ok (.putfield 9, 3) := by decide +kernel
theorem d_Lor_init_12 : decode b_Lor_init 12 = .ok (.aload_n 0, 1) := by decide +kernel
theorem d_Lor_init_13 : decode b_Lor_init 13 = .ok (.iconst 2, 1) := by decide +kernel
theorem d_Lor_init_14 : decode b_Lor_init 14 = .ok (.putfield 15, 3) := by decide +kernel
theorem d_Lor_init_17 : decode b_Lor_init 17 = .ok (.aload_n 0, 1) := by decide +kernel
theorem d_Lor_init_18 : decode b_Lor_init 18 = .ok (.iload_n 1, 1) := by decide +kernel
theorem d_Lor_init_19 : decode b_Lor_init 19 = .ok (.putfield 19, 3) := by decide +kernel
theorem d_Lor_init_22 : decode b_Lor_init 22 = .ok (.return_, 1) := by decide +kernel
theorem d_Lor_addOrder_0 : decode b_Lor_addOrder 0 = .ok (.aload_n 0, 1) := by decide +kernel
theorem d_Lor_addOrder_1 : decode b_Lor_addOrder 1 = .ok (.getfield 23, 3) := by decide +kernel
theorem d_Lor_addOrder_4 : decode b_Lor_addOrder 4 = .ok (.ifCond .lt 35, 3) := by decide +kernel
theorem d_Lor_addOrder_7 : decode b_Lor_addOrder 7 = .ok (.aload_n 0, 1) := by decide +kernel
theorem d_Lor_addOrder_8 : decode b_Lor_addOrder 8 = .ok (.getfield 23, 3) := by decide +kernel
theorem d_Lor_addOrder_11 : decode b_Lor_addOrder 11 = .ok (.aload_n 0, 1) := by decide +kernel
theorem d_Lor_addOrder_12 : decode b_Lor_addOrder 12 = .ok (.getfield 9, 3) := by decide +kernel
theorem d_Lor_addOrder_15 : decode b_Lor_addOrder 15 = .ok (.arraylength, 1) := by decide +kernel
theorem d_Lor_addOrder_16 : decode b_Lor_addOrder 16 = .ok (.if_icmp .ge 23, 3) := by decide +kernel
theorem d_Lor_addOrder_19 : decode b_Lor_addOrder 19 = .ok (.aload_n 0, 1) := by decide +kernel
theorem d_Lor_addOrder_20 : decode b_Lor_addOrder 20 = .ok (.getfield 9, 3) := by decide +kernel
theorem d_Lor_addOrder_23 : decode b_Lor_addOrder 23 = .ok (.aload_n 0, 1) := by decide +kernel
theorem d_Lor_addOrder_24 : decode b_Lor_addOrder 24 = .ok (.getfield 23, 3) := by decide +kernel
theorem d_Lor_addOrder_27 : decode b_Lor_addOrder 27 = .ok (.iload_n 1, 1) := by decide +kernel
theorem d_Lor_addOrder_28 : decode b_Lor_addOrder 28 = .ok (.iastore, 1) := by decide +kernel
theorem d_Lor_addOrder_29 : decode b_Lor_addOrder 29 = .ok (.aload_n 0, 1) := by decide +kernel
theorem d_Lor_addOrder_30 : decode b_Lor_addOrder 30 = .ok (.dup, 1) := by decide +kernel
theorem d_Lor_addOrder_31 : decode b_Lor_addOrder 31 = .ok (.getfield 23, 3) := by decide +kernel
theorem d_Lor_addOrder_34 : decode b_Lor_addOrder 34 = .ok (.iconst 1, 1) := by decide +kernel
theorem d_Lor_addOrder_35 : decode b_Lor_addOrder 35 = .ok (.iadd, 1) := by decide +kernel
theorem d_Lor_addOrder_36 : decode b_Lor_addOrder 36 = .ok (.putfield 23, 3) := by decide +kernel
theorem d_Lor_addOrder_39 : decode b_Lor_addOrder 39 = .ok (.return_, 1) := by decide +kernel
theorem d_Lor_firstOrder_0 : decode b_Lor_firstOrder 0 = .ok (.aload_n 0, 1) := by decide +kernel
theorem d_Lor_firstOrder_1 : decode b_Lor_firstOrder 1 = .ok (.getfield 23, 3) := by decide +kernel
theorem d_Lor_firstOrder_4 : decode b_Lor_firstOrder 4 = .ok (.ifCond .le 20, 3) := by decide +kernel
theorem d_Lor_firstOrder_7 : decode b_Lor_firstOrder 7 = .ok (.aload_n 0, 1) := by decide +kernel
theorem d_Lor_firstOrder_8 : decode b_Lor_firstOrder 8 = .ok (.getfield 9, 3) := by decide +kernel
theorem d_Lor_firstOrder_11 : decode b_Lor_firstOrder 11 = .ok (.arraylength, 1) := by decide +kernel
theorem d_Lor_firstOrder_12 : decode b_Lor_firstOrder 12 = .ok (.ifCond .le 12, 3) := by decide +kernel
theorem d_Lor_firstOrder_15 : decode b_Lor_firstOrder 15 = .ok (.aload_n 0, 1) := by decide +kernel
theorem d_Lor_firstOrder_16 : decode b_Lor_firstOrder 16 = .ok (.getfield 9, 3) := by decide +kernel
theorem d_Lor_firstOrder_19 : decode b_Lor_firstOrder 19 = .ok (.iconst 0, 1) := by decide +kernel
theorem d_Lor_firstOrder_20 : decode b_Lor_firstOrder 20 = .ok (.iaload, 1) := by decide +kernel
theorem d_Lor_firstOrder_21 : decode b_Lor_firstOrder 21 = .ok (.goto 4, 3) := by decide +kernel
theorem d_Lor_firstOrder_24 : decode b_Lor_firstOrder 24 = .ok (.iconst (-1), 1) := by decide +kernel
theorem d_Lor_firstOrder_25 : decode b_Lor_firstOrder 25 = .ok (.ireturn, 1) := by decide +kernel
theorem d_Lor_dropFirstOrder_0 : decode b_Lor_dropFirstOrder 0 = .ok (.iconst 1, 1) := by decide +kernel
theorem d_Lor_dropFirstOrder_1 : decode b_Lor_dropFirstOrder 1 = .ok (.istore_n 1, 1) := by decide +kernel
theorem d_Lor_dropFirstOrder_2 : decode b_Lor_dropFirstOrder 2 = .ok (.iload_n 1, 1) := by decide +kernel
theorem d_Lor_dropFirstOrder_3 : decode b_Lor_dropFirstOrder 3 = .ok (.aload_n 0, 1) := by decide +kernel
theorem d_Lor_dropFirstOrder_4 : decode b_Lor_dropFirstOrder 4 = .ok (.getfield 9, 3) := by decide +kernel
theorem d_Lor_dropFirstOrder_7 : decode b_Lor_dropFirstOrder 7 = .ok (.arraylength, 1) := by decide +kernel
theorem d_Lor_dropFirstOrder_8 : decode b_Lor_dropFirstOrder 8 = .ok (.if_icmp .ge 23, 3) := by decide +kernel
theorem d_Lor_dropFirstOrder_11 : decode b_Lor_dropFirstOrder 11 = .ok (.aload_n 0, 1) := by decide +kernel
theorem d_Lor_dropFirstOrder_12 : decode b_Lor_dropFirstOrder 12 = .ok (.getfield 9, 3) := by decide +kernel
theorem d_Lor_dropFirstOrder_15 : decode b_Lor_dropFirstOrder 15 = .ok (.iload_n 1, 1) := by decide +kernel
theorem d_Lor_dropFirstOrder_16 : decode b_Lor_dropFirstOrder 16 = .ok (.iconst 1, 1) := by decide +kernel
theorem d_Lor_dropFirstOrder_17 : decode b_Lor_dropFirstOrder 17 = .ok (.isub, 1) := by decide +kernel
theorem d_Lor_dropFirstOrder_18 : decode b_Lor_dropFirstOrder 18 = .ok (.aload_n 0, 1) := by decide +kernel
theorem d_Lor_dropFirstOrder_19 : decode b_Lor_dropFirstOrder 19 = .ok (.getfield 9, 3) := by decide +kernel
theorem d_Lor_dropFirstOrder_22 : decode b_Lor_dropFirstOrder 22 = .ok (.iload_n 1, 1) := by decide +kernel
theorem d_Lor_dropFirstOrder_23 : decode b_Lor_dropFirstOrder 23 = .ok (.iaload, 1) := by decide +kernel
theorem d_Lor_dropFirstOrder_24 : decode b_Lor_dropFirstOrder 24 = .ok (.iastore, 1) := by decide +kernel
theorem d_Lor_dropFirstOrder_25 : decode b_Lor_dropFirstOrder 25 = .ok (.iinc 1 1, 3) := by decide +kernel
theorem d_Lor_dropFirstOrder_28 : decode b_Lor_dropFirstOrder 28 = .ok (.goto (-26), 3) := by decide +kernel
theorem d_Lor_dropFirstOrder_31 : decode b_Lor_dropFirstOrder 31 = .ok (.aload_n 0, 1) := by decide +kernel
theorem d_Lor_dropFirstOrder_32 : decode b_Lor_dropFirstOrder 32 = .ok (.iconst 0, 1) := by decide +kernel
theorem d_Lor_dropFirstOrder_33 : decode b_Lor_dropFirstOrder 33 = .ok (.aload_n 0, 1) := by decide +kernel
theorem d_Lor_dropFirstOrder_34 : decode b_Lor_dropFirstOrder 34 = .ok (.getfield 23, 3) := by decide +kernel
theorem d_Lor_dropFirstOrder_37 : decode b_Lor_dropFirstOrder 37 = .ok (.iconst 1, 1) := by decide +kernel
theorem d_Lor_dropFirstOrder_38 : decode b_Lor_dropFirstOrder 38 = .ok (.isub, 1) := by decide +kernel
theorem d_Lor_dropFirstOrder_39 : decode b_Lor_dropFirstOrder 39 = .ok (.invokestatic 26, 3) := by decide +kernel
theorem d_Lor_dropFirstOrder_42 : decode b_Lor_dropFirstOrder 42 = .ok (.putfield 23, 3) := by decide +kernel
theorem d_Lor_dropFirstOrder_45 : decode b_Lor_dropFirstOrder 45 = .ok (.return_, 1) := by decide +kernel
theorem d_Lor_arrive_0 : decode b_Lor_arrive 0 = .ok (.aload_n 0, 1) := by decide +kernel
theorem d_Lor_arrive_1 : decode b_Lor_arrive 1 = .ok (.aload_n 0, 1) := by decide +kernel
theorem d_Lor_arrive_2 : decode b_Lor_arrive 2 = .ok (.getfield 32, 3) := by decide +kernel
theorem d_Lor_arrive_5 : decode b_Lor_arrive 5 = .ok (.putfield 35, 3) := by decide +kernel
theorem d_Lor_arrive_8 : decode b_Lor_arrive 8 = .ok (.aload_n 0, 1) := by decide +kernel
theorem d_Lor_arrive_9 : decode b_Lor_arrive 9 = .ok (.iconst 0, 1) := by decide +kernel
theorem d_Lor_arrive_10 : decode b_Lor_arrive 10 = .ok (.putfield 38, 3) := by decide +kernel
theorem d_Lor_arrive_13 : decode b_Lor_arrive 13 = .ok (.aload_n 0, 1) := by decide +kernel
theorem d_Lor_arrive_14 : decode b_Lor_arrive 14 = .ok (.invokevirtual 41, 3) := by decide +kernel
theorem d_Lor_arrive_17 : decode b_Lor_arrive 17 = .ok (.return_, 1) := by decide +kernel
theorem d_Lor_fact_0 : decode b_Lor_fact 0 = .ok (.iload_n 1, 1) := by decide +kernel
theorem d_Lor_fact_1 : decode b_Lor_fact 1 = .ok (.tableswitch 107 0 7 #[47, 52, 69, 74, 79, 84, 97, 102], 47) := by decide +kernel
theorem d_Lor_fact_48 : decode b_Lor_fact 48 = .ok (.aload_n 0, 1) := by decide +kernel
theorem d_Lor_fact_49 : decode b_Lor_fact 49 = .ok (.getfield 35, 3) := by decide +kernel
theorem d_Lor_fact_52 : decode b_Lor_fact 52 = .ok (.ireturn, 1) := by decide +kernel
theorem d_Lor_fact_53 : decode b_Lor_fact 53 = .ok (.aload_n 0, 1) := by decide +kernel
theorem d_Lor_fact_54 : decode b_Lor_fact 54 = .ok (.getfield 35, 3) := by decide +kernel
theorem d_Lor_fact_57 : decode b_Lor_fact 57 = .ok (.iconst (-1), 1) := by decide +kernel
theorem d_Lor_fact_58 : decode b_Lor_fact 58 = .ok (.if_icmp .ne 10, 3) := by decide +kernel
theorem d_Lor_fact_61 : decode b_Lor_fact 61 = .ok (.aload_n 0, 1) := by decide +kernel
theorem d_Lor_fact_62 : decode b_Lor_fact 62 = .ok (.invokevirtual 44, 3) := by decide +kernel
theorem d_Lor_fact_65 : decode b_Lor_fact 65 = .ok (.goto 4, 3) := by decide +kernel
theorem d_Lor_fact_68 : decode b_Lor_fact 68 = .ok (.iconst (-1), 1) := by decide +kernel
theorem d_Lor_fact_69 : decode b_Lor_fact 69 = .ok (.ireturn, 1) := by decide +kernel
theorem d_Lor_fact_70 : decode b_Lor_fact 70 = .ok (.aload_n 0, 1) := by decide +kernel
theorem d_Lor_fact_71 : decode b_Lor_fact 71 = .ok (.getfield 38, 3) := by decide +kernel
theorem d_Lor_fact_74 : decode b_Lor_fact 74 = .ok (.ireturn, 1) := by decide +kernel
theorem d_Lor_fact_75 : decode b_Lor_fact 75 = .ok (.aload_n 0, 1) := by decide +kernel
theorem d_Lor_fact_76 : decode b_Lor_fact 76 = .ok (.getfield 48, 3) := by decide +kernel
theorem d_Lor_fact_79 : decode b_Lor_fact 79 = .ok (.ireturn, 1) := by decide +kernel
theorem d_Lor_fact_80 : decode b_Lor_fact 80 = .ok (.aload_n 0, 1) := by decide +kernel
theorem d_Lor_fact_81 : decode b_Lor_fact 81 = .ok (.getfield 15, 3) := by decide +kernel
theorem d_Lor_fact_84 : decode b_Lor_fact 84 = .ok (.ireturn, 1) := by decide +kernel
theorem d_Lor_fact_85 : decode b_Lor_fact 85 = .ok (.aload_n 0, 1) := by decide +kernel
theorem d_Lor_fact_86 : decode b_Lor_fact 86 = .ok (.getfield 19, 3) := by decide +kernel
theorem d_Lor_fact_89 : decode b_Lor_fact 89 = .ok (.ifCond .eq 7, 3) := by decide +kernel
theorem d_Lor_fact_92 : decode b_Lor_fact 92 = .ok (.iconst 1, 1) := by decide +kernel
theorem d_Lor_fact_93 : decode b_Lor_fact 93 = .ok (.goto 4, 3) := by decide +kernel
theorem d_Lor_fact_96 : decode b_Lor_fact 96 = .ok (.iconst 0, 1) := by decide +kernel
theorem d_Lor_fact_97 : decode b_Lor_fact 97 = .ok (.ireturn, 1) := by decide +kernel
theorem d_Lor_fact_98 : decode b_Lor_fact 98 = .ok (.aload_n 0, 1) := by decide +kernel
theorem d_Lor_fact_99 : decode b_Lor_fact 99 = .ok (.getfield 51, 3) := by decide +kernel
theorem d_Lor_fact_102 : decode b_Lor_fact 102 = .ok (.ireturn, 1) := by decide +kernel
theorem d_Lor_fact_103 : decode b_Lor_fact 103 = .ok (.aload_n 0, 1) := by decide +kernel
theorem d_Lor_fact_104 : decode b_Lor_fact 104 = .ok (.getfield 23, 3) := by decide +kernel
theorem d_Lor_fact_107 : decode b_Lor_fact 107 = .ok (.ireturn, 1) := by decide +kernel
theorem d_Lor_fact_108 : decode b_Lor_fact 108 = .ok (.aload_n 0, 1) := by decide +kernel
theorem d_Lor_fact_109 : decode b_Lor_fact 109 = .ok (.getfield 54, 3) := by decide +kernel
theorem d_Lor_fact_112 : decode b_Lor_fact 112 = .ok (.ireturn, 1) := by decide +kernel
theorem d_Road_init_0 : decode b_Road_init 0 = .ok (.aload_n 0, 1) := by decide +kernel
theorem d_Road_init_1 : decode b_Road_init 1 = .ok (.invokespecial 3, 3) := by decide +kernel
theorem d_Road_init_4 : decode b_Road_init 4 = .ok (.aload_n 0, 1) := by decide +kernel
theorem d_Road_init_5 : decode b_Road_init 5 = .ok (.new 9, 3) := by decide +kernel
theorem d_Road_init_8 : decode b_Road_init 8 = .ok (.dup, 1) := by decide +kernel
theorem d_Road_init_9 : decode b_Road_init 9 = .ok (.invokespecial 11, 3) := by decide +kernel
theorem d_Road_init_12 : decode b_Road_init 12 = .ok (.putfield 12, 3) := by decide +kernel
theorem d_Road_init_15 : decode b_Road_init 15 = .ok (.aload_n 0, 1) := by decide +kernel
theorem d_Road_init_16 : decode b_Road_init 16 = .ok (.sipush 200, 3) := by decide +kernel
theorem d_Road_init_19 : decode b_Road_init 19 = .ok (.newarray .boolean, 2) := by decide +kernel
theorem d_Road_init_21 : decode b_Road_init 21 = .ok (.putfield 18, 3) := by decide +kernel
theorem d_Road_init_24 : decode b_Road_init 24 = .ok (.aload_n 0, 1) := by decide +kernel
theorem d_Road_init_25 : decode b_Road_init 25 = .ok (.sipush 200, 3) := by decide +kernel
theorem d_Road_init_28 : decode b_Road_init 28 = .ok (.newarray .boolean, 2) := by decide +kernel
theorem d_Road_init_30 : decode b_Road_init 30 = .ok (.putfield 22, 3) := by decide +kernel
theorem d_Road_init_33 : decode b_Road_init 33 = .ok (.aload_n 0, 1) := by decide +kernel
theorem d_Road_init_34 : decode b_Road_init 34 = .ok (.iconst (-1), 1) := by decide +kernel
theorem d_Road_init_35 : decode b_Road_init 35 = .ok (.putfield 25, 3) := by decide +kernel
theorem d_Road_init_38 : decode b_Road_init 38 = .ok (.aload_n 0, 1) := by decide +kernel
theorem d_Road_init_39 : decode b_Road_init 39 = .ok (.iload_n 1, 1) := by decide +kernel
theorem d_Road_init_40 : decode b_Road_init 40 = .ok (.putfield 29, 3) := by decide +kernel
theorem d_Road_init_43 : decode b_Road_init 43 = .ok (.aload_n 0, 1) := by decide +kernel
theorem d_Road_init_44 : decode b_Road_init 44 = .ok (.iload_n 2, 1) := by decide +kernel
theorem d_Road_init_45 : decode b_Road_init 45 = .ok (.putfield 32, 3) := by decide +kernel
theorem d_Road_init_48 : decode b_Road_init 48 = .ok (.aload_n 0, 1) := by decide +kernel
theorem d_Road_init_49 : decode b_Road_init 49 = .ok (.iload_n 3, 1) := by decide +kernel
theorem d_Road_init_50 : decode b_Road_init 50 = .ok (.putfield 35, 3) := by decide +kernel
theorem d_Road_init_53 : decode b_Road_init 53 = .ok (.aload_n 0, 1) := by decide +kernel
theorem d_Road_init_54 : decode b_Road_init 54 = .ok (.iload 4, 2) := by decide +kernel
theorem d_Road_init_56 : decode b_Road_init 56 = .ok (.putfield 38, 3) := by decide +kernel
theorem d_Road_init_59 : decode b_Road_init 59 = .ok (.aload_n 0, 1) := by decide +kernel
theorem d_Road_init_60 : decode b_Road_init 60 = .ok (.iload 5, 2) := by decide +kernel
theorem d_Road_init_62 : decode b_Road_init 62 = .ok (.putfield 41, 3) := by decide +kernel
theorem d_Road_init_65 : decode b_Road_init 65 = .ok (.aload_n 0, 1) := by decide +kernel
theorem d_Road_init_66 : decode b_Road_init 66 = .ok (.iload 6, 2) := by decide +kernel
theorem d_Road_init_68 : decode b_Road_init 68 = .ok (.putfield 44, 3) := by decide +kernel
theorem d_Road_init_71 : decode b_Road_init 71 = .ok (.aload_n 0, 1) := by decide +kernel
theorem d_Road_init_72 : decode b_Road_init 72 = .ok (.iload 7, 2) := by decide +kernel
theorem d_Road_init_74 : decode b_Road_init 74 = .ok (.putfield 47, 3) := by decide +kernel
theorem d_Road_init_77 : decode b_Road_init 77 = .ok (.return_, 1) := by decide +kernel
theorem d_Road_goal_0 : decode b_Road_goal 0 = .ok (.iload_n 1, 1) := by decide +kernel
theorem d_Road_goal_1 : decode b_Road_goal 1 = .ok (.aload_n 0, 1) := by decide +kernel
theorem d_Road_goal_2 : decode b_Road_goal 2 = .ok (.getfield 41, 3) := by decide +kernel
theorem d_Road_goal_5 : decode b_Road_goal 5 = .ok (.iconst 3, 1) := by decide +kernel
theorem d_Road_goal_6 : decode b_Road_goal 6 = .ok (.idiv, 1) := by decide +kernel
theorem d_Road_goal_7 : decode b_Road_goal 7 = .ok (.isub, 1) := by decide +kernel
theorem d_Road_goal_8 : decode b_Road_goal 8 = .ok (.aload_n 0, 1) := by decide +kernel
theorem d_Road_goal_9 : decode b_Road_goal 9 = .ok (.getfield 44, 3) := by decide +kernel
theorem d_Road_goal_12 : decode b_Road_goal 12 = .ok (.isub, 1) := by decide +kernel
theorem d_Road_goal_13 : decode b_Road_goal 13 = .ok (.iload_n 2, 1) := by decide +kernel
theorem d_Road_goal_14 : decode b_Road_goal 14 = .ok (.ifCond .eq 7, 3) := by decide +kernel
theorem d_Road_goal_17 : decode b_Road_goal 17 = .ok (.iconst 2, 1) := by decide +kernel
theorem d_Road_goal_18 : decode b_Road_goal 18 = .ok (.goto 4, 3) := by decide +kernel
theorem d_Road_goal_21 : decode b_Road_goal 21 = .ok (.iconst 0, 1) := by decide +kernel
theorem d_Road_goal_22 : decode b_Road_goal 22 = .ok (.isub, 1) := by decide +kernel
theorem d_Road_goal_23 : decode b_Road_goal 23 = .ok (.ireturn, 1) := by decide +kernel
theorem d_Road_notice_0 : decode b_Road_notice 0 = .ok (.aload_n 0, 1) := by decide +kernel
theorem d_Road_notice_1 : decode b_Road_notice 1 = .ok (.getfield 38, 3) := by decide +kernel
theorem d_Road_notice_4 : decode b_Road_notice 4 = .ok (.ifCond .ne 7, 3) := by decide +kernel
theorem d_Road_notice_7 : decode b_Road_notice 7 = .ok (.iconst 4, 1) := by decide +kernel
theorem d_Road_notice_8 : decode b_Road_notice 8 = .ok (.goto 18, 3) := by decide +kernel
theorem d_Road_notice_11 : decode b_Road_notice 11 = .ok (.aload_n 0, 1) := by decide +kernel
theorem d_Road_notice_12 : decode b_Road_notice 12 = .ok (.getfield 38, 3) := by decide +kernel
theorem d_Road_notice_15 : decode b_Road_notice 15 = .ok (.iconst 1, 1) := by decide +kernel
theorem d_Road_notice_16 : decode b_Road_notice 16 = .ok (.if_icmp .ne 8, 3) := by decide +kernel
theorem d_Road_notice_19 : decode b_Road_notice 19 = .ok (.bipush 8, 2) := by decide +kernel
theorem d_Road_notice_21 : decode b_Road_notice 21 = .ok (.goto 5, 3) := by decide +kernel
theorem d_Road_notice_24 : decode b_Road_notice 24 = .ok (.bipush 16, 2) := by decide +kernel
theorem d_Road_notice_26 : decode b_Road_notice 26 = .ok (.ireturn, 1) := by decide +kernel
theorem d_Road_joins_0 : decode b_Road_joins 0 = .ok (.iload_n 1, 1) := by decide +kernel
theorem d_Road_joins_1 : decode b_Road_joins 1 = .ok (.aload_n 0, 1) := by decide +kernel
theorem d_Road_joins_2 : decode b_Road_joins 2 = .ok (.getfield 29, 3) := by decide +kernel
theorem d_Road_joins_5 : decode b_Road_joins 5 = .ok (.if_icmp .eq 11, 3) := by decide +kernel
theorem d_Road_joins_8 : decode b_Road_joins 8 = .ok (.iload_n 1, 1) := by decide +kernel
theorem d_Road_joins_9 : decode b_Road_joins 9 = .ok (.aload_n 0, 1) := by decide +kernel
theorem d_Road_joins_10 : decode b_Road_joins 10 = .ok (.getfield 32, 3) := by decide +kernel
theorem d_Road_joins_13 : decode b_Road_joins 13 = .ok (.if_icmp .ne 7, 3) := by decide +kernel
theorem d_Road_joins_16 : decode b_Road_joins 16 = .ok (.iconst 1, 1) := by decide +kernel
theorem d_Road_joins_17 : decode b_Road_joins 17 = .ok (.goto 4, 3) := by decide +kernel
theorem d_Road_joins_20 : decode b_Road_joins 20 = .ok (.iconst 0, 1) := by decide +kernel
theorem d_Road_joins_21 : decode b_Road_joins 21 = .ok (.ireturn, 1) := by decide +kernel
theorem d_Road_otherEnd_0 : decode b_Road_otherEnd 0 = .ok (.iload_n 1, 1) := by decide +kernel
theorem d_Road_otherEnd_1 : decode b_Road_otherEnd 1 = .ok (.aload_n 0, 1) := by decide +kernel
theorem d_Road_otherEnd_2 : decode b_Road_otherEnd 2 = .ok (.getfield 29, 3) := by decide +kernel
theorem d_Road_otherEnd_5 : decode b_Road_otherEnd 5 = .ok (.if_icmp .ne 10, 3) := by decide +kernel
theorem d_Road_otherEnd_8 : decode b_Road_otherEnd 8 = .ok (.aload_n 0, 1) := by decide +kernel
theorem d_Road_otherEnd_9 : decode b_Road_otherEnd 9 = .ok (.getfield 32, 3) := by decide +kernel
theorem d_Road_otherEnd_12 : decode b_Road_otherEnd 12 = .ok (.goto 7, 3) := by decide +kernel
theorem d_Road_otherEnd_15 : decode b_Road_otherEnd 15 = .ok (.aload_n 0, 1) := by decide +kernel
theorem d_Road_otherEnd_16 : decode b_Road_otherEnd 16 = .ok (.getfield 29, 3) := by decide +kernel
theorem d_Road_otherEnd_19 : decode b_Road_otherEnd 19 = .ok (.ireturn, 1) := by decide +kernel
theorem d_Road_weatherQuarter_0 : decode b_Road_weatherQuarter 0 = .ok (.aload_n 1, 1) := by decide +kernel
theorem d_Road_weatherQuarter_1 : decode b_Road_weatherQuarter 1 = .ok (.aload_n 0, 1) := by decide +kernel
theorem d_Road_weatherQuarter_2 : decode b_Road_weatherQuarter 2 = .ok (.aload_n 2, 1) := by decide +kernel
theorem d_Road_weatherQuarter_3 : decode b_Road_weatherQuarter 3 = .ok (.getfield 51, 3) := by decide +kernel
theorem d_Road_weatherQuarter_6 : decode b_Road_weatherQuarter 6 = .ok (.aload_n 2, 1) := by decide +kernel
theorem d_Road_weatherQuarter_7 : decode b_Road_weatherQuarter 7 = .ok (.getfield 56, 3) := by decide +kernel
theorem d_Road_weatherQuarter_10 : decode b_Road_weatherQuarter 10 = .ok (.invokevirtual 59, 3) := by decide +kernel
theorem d_Road_weatherQuarter_13 : decode b_Road_weatherQuarter 13 = .ok (.aload_n 0, 1) := by decide +kernel
theorem d_Road_weatherQuarter_14 : decode b_Road_weatherQuarter 14 = .ok (.getfield 47, 3) := by decide +kernel
theorem d_Road_weatherQuarter_17 : decode b_Road_weatherQuarter 17 = .ok (.ifCond .eq 7, 3) := by decide +kernel
theorem d_Road_weatherQuarter_20 : decode b_Road_weatherQuarter 20 = .ok (.iconst 2, 1) := by decide +kernel
theorem d_Road_weatherQuarter_21 : decode b_Road_weatherQuarter 21 = .ok (.goto 4, 3) := by decide +kernel
theorem d_Road_weatherQuarter_24 : decode b_Road_weatherQuarter 24 = .ok (.iconst 1, 1) := by decide +kernel
theorem d_Road_weatherQuarter_25 : decode b_Road_weatherQuarter 25 = .ok (.invokevirtual 63, 3) := by decide +kernel
theorem d_Road_weatherQuarter_28 : decode b_Road_weatherQuarter 28 = .ok (.aload_n 1, 1) := by decide +kernel
theorem d_Road_weatherQuarter_29 : decode b_Road_weatherQuarter 29 = .ok (.dup, 1) := by decide +kernel
theorem d_Road_weatherQuarter_30 : decode b_Road_weatherQuarter 30 = .ok (.getfield 67, 3) := by decide +kernel
theorem d_Road_weatherQuarter_33 : decode b_Road_weatherQuarter 33 = .ok (.aload_n 2, 1) := by decide +kernel
theorem d_Road_weatherQuarter_34 : decode b_Road_weatherQuarter 34 = .ok (.getfield 70, 3) := by decide +kernel
theorem d_Road_weatherQuarter_37 : decode b_Road_weatherQuarter 37 = .ok (.iadd, 1) := by decide +kernel
theorem d_Road_weatherQuarter_38 : decode b_Road_weatherQuarter 38 = .ok (.putfield 67, 3) := by decide +kernel
theorem d_Road_weatherQuarter_41 : decode b_Road_weatherQuarter 41 = .ok (.aload_n 1, 1) := by decide +kernel
theorem d_Road_weatherQuarter_42 : decode b_Road_weatherQuarter 42 = .ok (.dup, 1) := by decide +kernel
theorem d_Road_weatherQuarter_43 : decode b_Road_weatherQuarter 43 = .ok (.getfield 73, 3) := by decide +kernel
theorem d_Road_weatherQuarter_46 : decode b_Road_weatherQuarter 46 = .ok (.aload_n 2, 1) := by decide +kernel
theorem d_Road_weatherQuarter_47 : decode b_Road_weatherQuarter 47 = .ok (.getfield 76, 3) := by decide +kernel
theorem d_Road_weatherQuarter_50 : decode b_Road_weatherQuarter 50 = .ok (.iadd, 1) := by decide +kernel
theorem d_Road_weatherQuarter_51 : decode b_Road_weatherQuarter 51 = .ok (.putfield 73, 3) := by decide +kernel
theorem d_Road_weatherQuarter_54 : decode b_Road_weatherQuarter 54 = .ok (.aload_n 1, 1) := by decide +kernel
theorem d_Road_weatherQuarter_55 : decode b_Road_weatherQuarter 55 = .ok (.invokevirtual 79, 3) := by decide +kernel
theorem d_Road_weatherQuarter_58 : decode b_Road_weatherQuarter 58 = .ok (.aload_n 1, 1) := by decide +kernel
theorem d_Road_weatherQuarter_59 : decode b_Road_weatherQuarter 59 = .ok (.invokevirtual 82, 3) := by decide +kernel
theorem d_Road_weatherQuarter_62 : decode b_Road_weatherQuarter 62 = .ok (.aload_n 0, 1) := by decide +kernel
theorem d_Road_weatherQuarter_63 : decode b_Road_weatherQuarter 63 = .ok (.getfield 38, 3) := by decide +kernel
theorem d_Road_weatherQuarter_66 : decode b_Road_weatherQuarter 66 = .ok (.ifCond .ne 15, 3) := by decide +kernel
theorem d_Road_weatherQuarter_69 : decode b_Road_weatherQuarter 69 = .ok (.aload_n 1, 1) := by decide +kernel
theorem d_Road_weatherQuarter_70 : decode b_Road_weatherQuarter 70 = .ok (.getfield 67, 3) := by decide +kernel
theorem d_Road_weatherQuarter_73 : decode b_Road_weatherQuarter 73 = .ok (.ifCond .le 8, 3) := by decide +kernel
theorem d_Road_weatherQuarter_76 : decode b_Road_weatherQuarter 76 = .ok (.aload_n 1, 1) := by decide +kernel
theorem d_Road_weatherQuarter_77 : decode b_Road_weatherQuarter 77 = .ok (.iconst 1, 1) := by decide +kernel
theorem d_Road_weatherQuarter_78 : decode b_Road_weatherQuarter 78 = .ok (.invokevirtual 85, 3) := by decide +kernel
theorem d_Road_weatherQuarter_81 : decode b_Road_weatherQuarter 81 = .ok (.aload_n 2, 1) := by decide +kernel
theorem d_Road_weatherQuarter_82 : decode b_Road_weatherQuarter 82 = .ok (.getfield 89, 3) := by decide +kernel
theorem d_Road_weatherQuarter_85 : decode b_Road_weatherQuarter 85 = .ok (.iconst 2, 1) := by decide +kernel
theorem d_Road_weatherQuarter_86 : decode b_Road_weatherQuarter 86 = .ok (.if_icmp .lt 15, 3) := by decide +kernel
theorem d_Road_weatherQuarter_89 : decode b_Road_weatherQuarter 89 = .ok (.aload_n 1, 1) := by decide +kernel
theorem d_Road_weatherQuarter_90 : decode b_Road_weatherQuarter 90 = .ok (.getfield 67, 3) := by decide +kernel
theorem d_Road_weatherQuarter_93 : decode b_Road_weatherQuarter 93 = .ok (.ifCond .ne 8, 3) := by decide +kernel
theorem d_Road_weatherQuarter_96 : decode b_Road_weatherQuarter 96 = .ok (.aload_n 1, 1) := by decide +kernel
theorem d_Road_weatherQuarter_97 : decode b_Road_weatherQuarter 97 = .ok (.iconst 2, 1) := by decide +kernel
theorem d_Road_weatherQuarter_98 : decode b_Road_weatherQuarter 98 = .ok (.invokevirtual 85, 3) := by decide +kernel
theorem d_Road_weatherQuarter_101 : decode b_Road_weatherQuarter 101 = .ok (.return_, 1) := by decide +kernel
theorem d_Road_noteSlippery_0 : decode b_Road_noteSlippery 0 = .ok (.aload_n 0, 1) := by decide +kernel
theorem d_Road_noteSlippery_1 : decode b_Road_noteSlippery 1 = .ok (.getfield 12, 3) := by decide +kernel
theorem d_Road_noteSlippery_4 : decode b_Road_noteSlippery 4 = .ok (.invokevirtual 92, 3) := by decide +kernel
theorem d_Road_noteSlippery_7 : decode b_Road_noteSlippery 7 = .ok (.ifCond .eq 33, 3) := by decide +kernel
theorem d_Road_noteSlippery_10 : decode b_Road_noteSlippery 10 = .ok (.iload_n 1, 1) := by decide +kernel
theorem d_Road_noteSlippery_11 : decode b_Road_noteSlippery 11 = .ok (.ifCond .lt 29, 3) := by decide +kernel
theorem d_Road_noteSlippery_14 : decode b_Road_noteSlippery 14 = .ok (.iload_n 1, 1) := by decide +kernel
theorem d_Road_noteSlippery_15 : decode b_Road_noteSlippery 15 = .ok (.aload_n 0, 1) := by decide +kernel
theorem d_Road_noteSlippery_16 : decode b_Road_noteSlippery 16 = .ok (.getfield 18, 3) := by decide +kernel
theorem d_Road_noteSlippery_19 : decode b_Road_noteSlippery 19 = .ok (.arraylength, 1) := by decide +kernel
theorem d_Road_noteSlippery_20 : decode b_Road_noteSlippery 20 = .ok (.if_icmp .ge 20, 3) := by decide +kernel
theorem d_Road_noteSlippery_23 : decode b_Road_noteSlippery 23 = .ok (.aload_n 0, 1) := by decide +kernel
theorem d_Road_noteSlippery_24 : decode b_Road_noteSlippery 24 = .ok (.getfield 18, 3) := by decide +kernel
theorem d_Road_noteSlippery_27 : decode b_Road_noteSlippery 27 = .ok (.iload_n 1, 1) := by decide +kernel
theorem d_Road_noteSlippery_28 : decode b_Road_noteSlippery 28 = .ok (.iconst 1, 1) := by decide +kernel
theorem d_Road_noteSlippery_29 : decode b_Road_noteSlippery 29 = .ok (.bastore, 1) := by decide +kernel
theorem d_Road_noteSlippery_30 : decode b_Road_noteSlippery 30 = .ok (.aload_n 0, 1) := by decide +kernel
theorem d_Road_noteSlippery_31 : decode b_Road_noteSlippery 31 = .ok (.dup, 1) := by decide +kernel
theorem d_Road_noteSlippery_32 : decode b_Road_noteSlippery 32 = .ok (.getfield 96, 3) := by decide +kernel
theorem d_Road_noteSlippery_35 : decode b_Road_noteSlippery 35 = .ok (.iconst 1, 1) := by decide +kernel
theorem d_Road_noteSlippery_36 : decode b_Road_noteSlippery 36 = .ok (.iadd, 1) := by decide +kernel
theorem d_Road_noteSlippery_37 : decode b_Road_noteSlippery 37 = .ok (.putfield 96, 3) := by decide +kernel
theorem d_Road_noteSlippery_40 : decode b_Road_noteSlippery 40 = .ok (.return_, 1) := by decide +kernel
theorem d_Road_noteTreated_0 : decode b_Road_noteTreated 0 = .ok (.iload_n 1, 1) := by decide +kernel
theorem d_Road_noteTreated_1 : decode b_Road_noteTreated 1 = .ok (.ifCond .lt 24, 3) := by decide +kernel
theorem d_Road_noteTreated_4 : decode b_Road_noteTreated 4 = .ok (.iload_n 1, 1) := by decide +kernel
theorem d_Road_noteTreated_5 : decode b_Road_noteTreated 5 = .ok (.aload_n 0, 1) := by decide +kernel
theorem d_Road_noteTreated_6 : decode b_Road_noteTreated 6 = .ok (.getfield 22, 3) := by decide +kernel
theorem d_Road_noteTreated_9 : decode b_Road_noteTreated 9 = .ok (.arraylength, 1) := by decide +kernel
theorem d_Road_noteTreated_10 : decode b_Road_noteTreated 10 = .ok (.if_icmp .ge 15, 3) := by decide +kernel
theorem d_Road_noteTreated_13 : decode b_Road_noteTreated 13 = .ok (.aload_n 0, 1) := by decide +kernel
theorem d_Road_noteTreated_14 : decode b_Road_noteTreated 14 = .ok (.getfield 22, 3) := by decide +kernel
theorem d_Road_noteTreated_17 : decode b_Road_noteTreated 17 = .ok (.iload_n 1, 1) := by decide +kernel
theorem d_Road_noteTreated_18 : decode b_Road_noteTreated 18 = .ok (.iconst 1, 1) := by decide +kernel
theorem d_Road_noteTreated_19 : decode b_Road_noteTreated 19 = .ok (.bastore, 1) := by decide +kernel
theorem d_Road_noteTreated_20 : decode b_Road_noteTreated 20 = .ok (.aload_n 0, 1) := by decide +kernel
theorem d_Road_noteTreated_21 : decode b_Road_noteTreated 21 = .ok (.iload_n 1, 1) := by decide +kernel
theorem d_Road_noteTreated_22 : decode b_Road_noteTreated 22 = .ok (.putfield 25, 3) := by decide +kernel
theorem d_Road_noteTreated_25 : decode b_Road_noteTreated 25 = .ok (.return_, 1) := by decide +kernel
theorem d_Road_wasSlippery_0 : decode b_Road_wasSlippery 0 = .ok (.iload_n 1, 1) := by decide +kernel
theorem d_Road_wasSlippery_1 : decode b_Road_wasSlippery 1 = .ok (.ifCond .lt 25, 3) := by decide +kernel
theorem d_Road_wasSlippery_4 : decode b_Road_wasSlippery 4 = .ok (.iload_n 1, 1) := by decide +kernel
theorem d_Road_wasSlippery_5 : decode b_Road_wasSlippery 5 = .ok (.aload_n 0, 1) := by decide +kernel
theorem d_Road_wasSlippery_6 : decode b_Road_wasSlippery 6 = .ok (.getfield 18, 3) := by decide +kernel
theorem d_Road_wasSlippery_9 : decode b_Road_wasSlippery 9 = .ok (.arraylength, 1) := by decide +kernel
theorem d_Road_wasSlippery_10 : decode b_Road_wasSlippery 10 = .ok (.if_icmp .ge 16, 3) := by decide +kernel
theorem d_Road_wasSlippery_13 : decode b_Road_wasSlippery 13 = .ok (.aload_n 0, 1) := by decide +kernel
theorem d_Road_wasSlippery_14 : decode b_Road_wasSlippery 14 = .ok (.getfield 18, 3) := by decide +kernel
theorem d_Road_wasSlippery_17 : decode b_Road_wasSlippery 17 = .ok (.iload_n 1, 1) := by decide +kernel
theorem d_Road_wasSlippery_18 : decode b_Road_wasSlippery 18 = .ok (.baload, 1) := by decide +kernel
theorem d_Road_wasSlippery_19 : decode b_Road_wasSlippery 19 = .ok (.ifCond .eq 7, 3) := by decide +kernel
theorem d_Road_wasSlippery_22 : decode b_Road_wasSlippery 22 = .ok (.iconst 1, 1) := by decide +kernel
theorem d_Road_wasSlippery_23 : decode b_Road_wasSlippery 23 = .ok (.goto 4, 3) := by decide +kernel
theorem d_Road_wasSlippery_26 : decode b_Road_wasSlippery 26 = .ok (.iconst 0, 1) := by decide +kernel
theorem d_Road_wasSlippery_27 : decode b_Road_wasSlippery 27 = .ok (.ireturn, 1) := by decide +kernel
theorem d_Road_wasTreatedWithin_0 : decode b_Road_wasTreatedWithin 0 = .ok (.iload_n 2, 1) := by decide +kernel
theorem d_Road_wasTreatedWithin_1 : decode b_Road_wasTreatedWithin 1 = .ok (.aload_n 0, 1) := by decide +kernel
theorem d_Road_wasTreatedWithin_2 : decode b_Road_wasTreatedWithin 2 = .ok (.getfield 22, 3) := by decide +kernel
theorem d_Road_wasTreatedWithin_5 : decode b_Road_wasTreatedWithin 5 = .ok (.arraylength, 1) := by decide +kernel
theorem d_Road_wasTreatedWithin_6 : decode b_Road_wasTreatedWithin 6 = .ok (.iconst 1, 1) := by decide +kernel
theorem d_Road_wasTreatedWithin_7 : decode b_Road_wasTreatedWithin 7 = .ok (.isub, 1) := by decide +kernel
theorem d_Road_wasTreatedWithin_8 : decode b_Road_wasTreatedWithin 8 = .ok (.invokestatic 99, 3) := by decide +kernel
theorem d_Road_wasTreatedWithin_11 : decode b_Road_wasTreatedWithin 11 = .ok (.istore_n 3, 1) := by decide +kernel
theorem d_Road_wasTreatedWithin_12 : decode b_Road_wasTreatedWithin 12 = .ok (.iload_n 1, 1) := by decide +kernel
theorem d_Road_wasTreatedWithin_13 : decode b_Road_wasTreatedWithin 13 = .ok (.iconst 0, 1) := by decide +kernel
theorem d_Road_wasTreatedWithin_14 : decode b_Road_wasTreatedWithin 14 = .ok (.invokestatic 105, 3) := by decide +kernel
theorem d_Road_wasTreatedWithin_17 : decode b_Road_wasTreatedWithin 17 = .ok (.istore 4, 2) := by decide +kernel
theorem d_Road_wasTreatedWithin_19 : decode b_Road_wasTreatedWithin 19 = .ok (.iload 4, 2) := by decide +kernel
theorem d_Road_wasTreatedWithin_21 : decode b_Road_wasTreatedWithin 21 = .ok (.iload_n 3, 1) := by decide +kernel
theorem d_Road_wasTreatedWithin_22 : decode b_Road_wasTreatedWithin 22 = .ok (.if_icmp .gt 21, 3) := by decide +kernel
theorem d_Road_wasTreatedWithin_25 : decode b_Road_wasTreatedWithin 25 = .ok (.aload_n 0, 1) := by decide +kernel
theorem d_Road_wasTreatedWithin_26 : decode b_Road_wasTreatedWithin 26 = .ok (.getfield 22, 3) := by decide +kernel
theorem d_Road_wasTreatedWithin_29 : decode b_Road_wasTreatedWithin 29 = .ok (.iload 4, 2) := by decide +kernel
theorem d_Road_wasTreatedWithin_31 : decode b_Road_wasTreatedWithin 31 = .ok (.baload, 1) := by decide +kernel
theorem d_Road_wasTreatedWithin_32 : decode b_Road_wasTreatedWithin 32 = .ok (.ifCond .eq 5, 3) := by decide +kernel
theorem d_Road_wasTreatedWithin_35 : decode b_Road_wasTreatedWithin 35 = .ok (.iconst 1, 1) := by decide +kernel
theorem d_Road_wasTreatedWithin_36 : decode b_Road_wasTreatedWithin 36 = .ok (.ireturn, 1) := by decide +kernel
theorem d_Road_wasTreatedWithin_37 : decode b_Road_wasTreatedWithin 37 = .ok (.iinc 4 1, 3) := by decide +kernel
theorem d_Road_wasTreatedWithin_40 : decode b_Road_wasTreatedWithin 40 = .ok (.goto (-21), 3) := by decide +kernel
theorem d_Road_wasTreatedWithin_43 : decode b_Road_wasTreatedWithin 43 = .ok (.iconst 0, 1) := by decide +kernel
theorem d_Road_wasTreatedWithin_44 : decode b_Road_wasTreatedWithin 44 = .ok (.ireturn, 1) := by decide +kernel
theorem d_Road_fact_0 : decode b_Road_fact 0 = .ok (.iload_n 1, 1) := by decide +kernel
theorem d_Road_fact_1 : decode b_Road_fact 1 = .ok (.tableswitch 167 0 13 #[71, 76, 81, 86, 91, 96, 101, 114, 122, 130, 138, 146, 154, 162], 71) := by decide +kernel
theorem d_Road_fact_72 : decode b_Road_fact 72 = .ok (.aload_n 0, 1) := by decide +kernel
theorem d_Road_fact_73 : decode b_Road_fact 73 = .ok (.getfield 29, 3) := by decide +kernel
theorem d_Road_fact_76 : decode b_Road_fact 76 = .ok (.ireturn, 1) := by decide +kernel
theorem d_Road_fact_77 : decode b_Road_fact 77 = .ok (.aload_n 0, 1) := by decide +kernel
theorem d_Road_fact_78 : decode b_Road_fact 78 = .ok (.getfield 32, 3) := by decide +kernel
theorem d_Road_fact_81 : decode b_Road_fact 81 = .ok (.ireturn, 1) := by decide +kernel
theorem d_Road_fact_82 : decode b_Road_fact 82 = .ok (.aload_n 0, 1) := by decide +kernel
theorem d_Road_fact_83 : decode b_Road_fact 83 = .ok (.getfield 35, 3) := by decide +kernel
theorem d_Road_fact_86 : decode b_Road_fact 86 = .ok (.ireturn, 1) := by decide +kernel
theorem d_Road_fact_87 : decode b_Road_fact 87 = .ok (.aload_n 0, 1) := by decide +kernel
theorem d_Road_fact_88 : decode b_Road_fact 88 = .ok (.getfield 38, 3) := by decide +kernel
theorem d_Road_fact_91 : decode b_Road_fact 91 = .ok (.ireturn, 1) := by decide +kernel
theorem d_Road_fact_92 : decode b_Road_fact 92 = .ok (.aload_n 0, 1) := by decide +kernel
theorem d_Road_fact_93 : decode b_Road_fact 93 = .ok (.getfield 41, 3) := by decide +kernel
theorem d_Road_fact_96 : decode b_Road_fact 96 = .ok (.ireturn, 1) := by decide +kernel
theorem d_Road_fact_97 : decode b_Road_fact 97 = .ok (.aload_n 0, 1) := by decide +kernel
theorem d_Road_fact_98 : decode b_Road_fact 98 = .ok (.getfield 44, 3) := by decide +kernel
theorem d_Road_fact_101 : decode b_Road_fact 101 = .ok (.ireturn, 1) := by decide +kernel
theorem d_Road_fact_102 : decode b_Road_fact 102 = .ok (.aload_n 0, 1) := by decide +kernel
theorem d_Road_fact_103 : decode b_Road_fact 103 = .ok (.getfield 47, 3) := by decide +kernel
theorem d_Road_fact_106 : decode b_Road_fact 106 = .ok (.ifCond .eq 7, 3) := by decide +kernel
theorem d_Road_fact_109 : decode b_Road_fact 109 = .ok (.iconst 1, 1) := by decide +kernel
theorem d_Road_fact_110 : decode b_Road_fact 110 = .ok (.goto 4, 3) := by decide +kernel
theorem d_Road_fact_113 : decode b_Road_fact 113 = .ok (.iconst 0, 1) := by decide +kernel
theorem d_Road_fact_114 : decode b_Road_fact 114 = .ok (.ireturn, 1) := by decide +kernel
theorem d_Road_fact_115 : decode b_Road_fact 115 = .ok (.aload_n 0, 1) := by decide +kernel
theorem d_Road_fact_116 : decode b_Road_fact 116 = .ok (.getfield 12, 3) := by decide +kernel
theorem d_Road_fact_119 : decode b_Road_fact 119 = .ok (.getfield 108, 3) := by decide +kernel
theorem d_Road_fact_122 : decode b_Road_fact 122 = .ok (.ireturn, 1) := by decide +kernel
theorem d_Road_fact_123 : decode b_Road_fact 123 = .ok (.aload_n 0, 1) := by decide +kernel
theorem d_Road_fact_124 : decode b_Road_fact 124 = .ok (.getfield 12, 3) := by decide +kernel
theorem d_Road_fact_127 : decode b_Road_fact 127 = .ok (.getfield 67, 3) := by decide +kernel
theorem d_Road_fact_130 : decode b_Road_fact 130 = .ok (.ireturn, 1) := by decide +kernel
theorem d_Road_fact_131 : decode b_Road_fact 131 = .ok (.aload_n 0, 1) := by decide +kernel
theorem d_Road_fact_132 : decode b_Road_fact 132 = .ok (.getfield 12, 3) := by decide +kernel
theorem d_Road_fact_135 : decode b_Road_fact 135 = .ok (.getfield 111, 3) := by decide +kernel
theorem d_Road_fact_138 : decode b_Road_fact 138 = .ok (.ireturn, 1) := by decide +kernel
theorem d_Road_fact_139 : decode b_Road_fact 139 = .ok (.aload_n 0, 1) := by decide +kernel
theorem d_Road_fact_140 : decode b_Road_fact 140 = .ok (.getfield 12, 3) := by decide +kernel
theorem d_Road_fact_143 : decode b_Road_fact 143 = .ok (.getfield 73, 3) := by decide +kernel
theorem d_Road_fact_146 : decode b_Road_fact 146 = .ok (.ireturn, 1) := by decide +kernel
theorem d_Road_fact_147 : decode b_Road_fact 147 = .ok (.aload_n 0, 1) := by decide +kernel
theorem d_Road_fact_148 : decode b_Road_fact 148 = .ok (.getfield 12, 3) := by decide +kernel
theorem d_Road_fact_151 : decode b_Road_fact 151 = .ok (.getfield 114, 3) := by decide +kernel
theorem d_Road_fact_154 : decode b_Road_fact 154 = .ok (.ireturn, 1) := by decide +kernel
theorem d_Road_fact_155 : decode b_Road_fact 155 = .ok (.aload_n 0, 1) := by decide +kernel
theorem d_Road_fact_156 : decode b_Road_fact 156 = .ok (.getfield 12, 3) := by decide +kernel
theorem d_Road_fact_159 : decode b_Road_fact 159 = .ok (.invokevirtual 117, 3) := by decide +kernel
theorem d_Road_fact_162 : decode b_Road_fact 162 = .ok (.ireturn, 1) := by decide +kernel
theorem d_Road_fact_163 : decode b_Road_fact 163 = .ok (.aload_n 0, 1) := by decide +kernel
theorem d_Road_fact_164 : decode b_Road_fact 164 = .ok (.getfield 96, 3) := by decide +kernel
theorem d_Road_fact_167 : decode b_Road_fact 167 = .ok (.ireturn, 1) := by decide +kernel
theorem d_Road_fact_168 : decode b_Road_fact 168 = .ok (.aload_n 0, 1) := by decide +kernel
theorem d_Road_fact_169 : decode b_Road_fact 169 = .ok (.getfield 25, 3) := by decide +kernel
theorem d_Road_fact_172 : decode b_Road_fact 172 = .ok (.ireturn, 1) := by decide +kernel
theorem d_Rows_init_0 : decode b_Rows_init 0 = .ok (.aload_n 0, 1) := by decide +kernel
theorem d_Rows_init_1 : decode b_Rows_init 1 = .ok (.invokespecial 3, 3) := by decide +kernel
theorem d_Rows_init_4 : decode b_Rows_init 4 = .ok (.aload_n 0, 1) := by decide +kernel
theorem d_Rows_init_5 : decode b_Rows_init 5 = .ok (.sipush 448, 3) := by decide +kernel
theorem d_Rows_init_8 : decode b_Rows_init 8 = .ok (.newarray .int, 2) := by decide +kernel
theorem d_Rows_init_10 : decode b_Rows_init 10 = .ok (.putfield 9, 3) := by decide +kernel
theorem d_Rows_init_13 : decode b_Rows_init 13 = .ok (.aload_n 0, 1) := by decide +kernel
theorem d_Rows_init_14 : decode b_Rows_init 14 = .ok (.sipush 448, 3) := by decide +kernel
theorem d_Rows_init_17 : decode b_Rows_init 17 = .ok (.newarray .int, 2) := by decide +kernel
theorem d_Rows_init_19 : decode b_Rows_init 19 = .ok (.putfield 15, 3) := by decide +kernel
theorem d_Rows_init_22 : decode b_Rows_init 22 = .ok (.return_, 1) := by decide +kernel
theorem d_Rows_best_0 : decode b_Rows_best 0 = .ok (.iconst 0, 1) := by decide +kernel
theorem d_Rows_best_1 : decode b_Rows_best 1 = .ok (.istore_n 3, 1) := by decide +kernel
theorem d_Rows_best_2 : decode b_Rows_best 2 = .ok (.aload_n 1, 1) := by decide +kernel
theorem d_Rows_best_3 : decode b_Rows_best 3 = .ok (.astore 4, 2) := by decide +kernel
theorem d_Rows_best_5 : decode b_Rows_best 5 = .ok (.aload 4, 2) := by decide +kernel
theorem d_Rows_best_7 : decode b_Rows_best 7 = .ok (.arraylength, 1) := by decide +kernel
theorem d_Rows_best_8 : decode b_Rows_best 8 = .ok (.istore 5, 2) := by decide +kernel
theorem d_Rows_best_10 : decode b_Rows_best 10 = .ok (.iconst 0, 1) := by decide +kernel
theorem d_Rows_best_11 : decode b_Rows_best 11 = .ok (.istore 6, 2) := by decide +kernel
theorem d_Rows_best_13 : decode b_Rows_best 13 = .ok (.iload 6, 2) := by decide +kernel
theorem d_Rows_best_15 : decode b_Rows_best 15 = .ok (.iload 5, 2) := by decide +kernel
theorem d_Rows_best_17 : decode b_Rows_best 17 = .ok (.if_icmp .ge 37, 3) := by decide +kernel
theorem d_Rows_best_20 : decode b_Rows_best 20 = .ok (.aload 4, 2) := by decide +kernel
theorem d_Rows_best_22 : decode b_Rows_best 22 = .ok (.iload 6, 2) := by decide +kernel
theorem d_Rows_best_24 : decode b_Rows_best 24 = .ok (.aaload, 1) := by decide +kernel
theorem d_Rows_best_25 : decode b_Rows_best 25 = .ok (.astore 7, 2) := by decide +kernel
theorem d_Rows_best_27 : decode b_Rows_best 27 = .ok (.iload_n 3, 1) := by decide +kernel
theorem d_Rows_best_28 : decode b_Rows_best 28 = .ok (.aload 7, 2) := by decide +kernel
theorem d_Rows_best_30 : decode b_Rows_best 30 = .ok (.ifnull 15, 3) := by decide +kernel
theorem d_Rows_best_33 : decode b_Rows_best 33 = .ok (.aload 7, 2) := by decide +kernel
theorem d_Rows_best_35 : decode b_Rows_best 35 = .ok (.getfield 18, 3) := by decide +kernel
theorem d_Rows_best_38 : decode b_Rows_best 38 = .ok (.ifCond .ne 7, 3) := by decide +kernel
theorem d_Rows_best_41 : decode b_Rows_best 41 = .ok (.iconst 1, 1) := by decide +kernel
theorem d_Rows_best_42 : decode b_Rows_best 42 = .ok (.goto 4, 3) := by decide +kernel
theorem d_Rows_best_45 : decode b_Rows_best 45 = .ok (.iconst 0, 1) := by decide +kernel
theorem d_Rows_best_46 : decode b_Rows_best 46 = .ok (.iadd, 1) := by decide +kernel
theorem d_Rows_best_47 : decode b_Rows_best 47 = .ok (.istore_n 3, 1) := by decide +kernel
theorem d_Rows_best_48 : decode b_Rows_best 48 = .ok (.iinc 6 1, 3) := by decide +kernel
theorem d_Rows_best_51 : decode b_Rows_best 51 = .ok (.goto (-38), 3) := by decide +kernel
theorem d_Rows_best_54 : decode b_Rows_best 54 = .ok (.iload_n 3, 1) := by decide +kernel
theorem d_Rows_best_55 : decode b_Rows_best 55 = .ok (.bipush 6, 2) := by decide +kernel
theorem d_Rows_best_57 : decode b_Rows_best 57 = .ok (.if_icmp .le 5, 3) := by decide +kernel
theorem d_Rows_best_60 : decode b_Rows_best 60 = .ok (.iconst 0, 1) := by decide +kernel
theorem d_Rows_best_61 : decode b_Rows_best 61 = .ok (.ireturn, 1) := by decide +kernel
theorem d_Rows_best_62 : decode b_Rows_best 62 = .ok (.iconst 1, 1) := by decide +kernel
theorem d_Rows_best_63 : decode b_Rows_best 63 = .ok (.iload_n 3, 1) := by decide +kernel
theorem d_Rows_best_64 : decode b_Rows_best 64 = .ok (.ishl, 1) := by decide +kernel
theorem d_Rows_best_65 : decode b_Rows_best 65 = .ok (.istore 4, 2) := by decide +kernel
theorem d_Rows_best_67 : decode b_Rows_best 67 = .ok (.aload_n 0, 1) := by decide +kernel
theorem d_Rows_best_68 : decode b_Rows_best 68 = .ok (.getfield 9, 3) := by decide +kernel
theorem d_Rows_best_71 : decode b_Rows_best 71 = .ok (.ldc 24, 2) := by decide +kernel
theorem d_Rows_best_73 : decode b_Rows_best 73 = .ok (.invokestatic 25, 3) := by decide +kernel
theorem d_Rows_best_76 : decode b_Rows_best 76 = .ok (.aload_n 0, 1) := by decide +kernel
theorem d_Rows_best_77 : decode b_Rows_best 77 = .ok (.getfield 9, 3) := by decide +kernel
theorem d_Rows_best_80 : decode b_Rows_best 80 = .ok (.iload_n 2, 1) := by decide +kernel
theorem d_Rows_best_81 : decode b_Rows_best 81 = .ok (.iconst 1, 1) := by decide +kernel
theorem d_Rows_best_82 : decode b_Rows_best 82 = .ok (.invokestatic 31, 3) := by decide +kernel
theorem d_Rows_best_85 : decode b_Rows_best 85 = .ok (.aload_n 0, 1) := by decide +kernel
theorem d_Rows_best_86 : decode b_Rows_best 86 = .ok (.iload 4, 2) := by decide +kernel
theorem d_Rows_best_88 : decode b_Rows_best 88 = .ok (.invokevirtual 35, 3) := by decide +kernel
theorem d_Rows_best_91 : decode b_Rows_best 91 = .ok (.istore 5, 2) := by decide +kernel
theorem d_Rows_best_93 : decode b_Rows_best 93 = .ok (.iconst 1, 1) := by decide +kernel
theorem d_Rows_best_94 : decode b_Rows_best 94 = .ok (.istore 6, 2) := by decide +kernel
theorem d_Rows_best_96 : decode b_Rows_best 96 = .ok (.iload 6, 2) := by decide +kernel
theorem d_Rows_best_98 : decode b_Rows_best 98 = .ok (.bipush 6, 2) := by decide +kernel
theorem d_Rows_best_100 : decode b_Rows_best 100 = .ok (.if_icmp .gt 41, 3) := by decide +kernel
theorem d_Rows_best_103 : decode b_Rows_best 103 = .ok (.aload_n 0, 1) := by decide +kernel
theorem d_Rows_best_104 : decode b_Rows_best 104 = .ok (.aload_n 1, 1) := by decide +kernel
theorem d_Rows_best_105 : decode b_Rows_best 105 = .ok (.iload 4, 2) := by decide +kernel
theorem d_Rows_best_107 : decode b_Rows_best 107 = .ok (.invokevirtual 39, 3) := by decide +kernel
theorem d_Rows_best_110 : decode b_Rows_best 110 = .ok (.aload_n 0, 1) := by decide +kernel
theorem d_Rows_best_111 : decode b_Rows_best 111 = .ok (.iload 4, 2) := by decide +kernel
theorem d_Rows_best_113 : decode b_Rows_best 113 = .ok (.invokevirtual 35, 3) := by decide +kernel
theorem d_Rows_best_116 : decode b_Rows_best 116 = .ok (.istore 7, 2) := by decide +kernel
theorem d_Rows_best_118 : decode b_Rows_best 118 = .ok (.iload 7, 2) := by decide +kernel
theorem d_Rows_best_120 : decode b_Rows_best 120 = .ok (.ldc 43, 2) := by decide +kernel
theorem d_Rows_best_122 : decode b_Rows_best 122 = .ok (.idiv, 1) := by decide +kernel
theorem d_Rows_best_123 : decode b_Rows_best 123 = .ok (.iload 5, 2) := by decide +kernel
theorem d_Rows_best_125 : decode b_Rows_best 125 = .ok (.ldc 43, 2) := by decide +kernel
theorem d_Rows_best_127 : decode b_Rows_best 127 = .ok (.idiv, 1) := by decide +kernel
theorem d_Rows_best_128 : decode b_Rows_best 128 = .ok (.if_icmp .ge 7, 3) := by decide +kernel
theorem d_Rows_best_131 : decode b_Rows_best 131 = .ok (.iload 7, 2) := by decide +kernel
theorem d_Rows_best_133 : decode b_Rows_best 133 = .ok (.istore 5, 2) := by decide +kernel
theorem d_Rows_best_135 : decode b_Rows_best 135 = .ok (.iinc 6 1, 3) := by decide +kernel
theorem d_Rows_best_138 : decode b_Rows_best 138 = .ok (.goto (-42), 3) := by decide +kernel
theorem d_Rows_best_141 : decode b_Rows_best 141 = .ok (.iload 5, 2) := by decide +kernel
theorem d_Rows_best_143 : decode b_Rows_best 143 = .ok (.ldc 24, 2) := by decide +kernel
theorem d_Rows_best_145 : decode b_Rows_best 145 = .ok (.if_icmp .ne 7, 3) := by decide +kernel
theorem d_Rows_best_148 : decode b_Rows_best 148 = .ok (.iconst 0, 1) := by decide +kernel
theorem d_Rows_best_149 : decode b_Rows_best 149 = .ok (.goto 8, 3) := by decide +kernel
theorem d_Rows_best_152 : decode b_Rows_best 152 = .ok (.iload 5, 2) := by decide +kernel
theorem d_Rows_best_154 : decode b_Rows_best 154 = .ok (.ldc 43, 2) := by decide +kernel
theorem d_Rows_best_156 : decode b_Rows_best 156 = .ok (.irem, 1) := by decide +kernel
theorem d_Rows_best_157 : decode b_Rows_best 157 = .ok (.ireturn, 1) := by decide +kernel
theorem d_Rows_bestWhole_0 : decode b_Rows_bestWhole 0 = .ok (.ldc 24, 2) := by decide +kernel
theorem d_Rows_bestWhole_2 : decode b_Rows_bestWhole 2 = .ok (.istore_n 2, 1) := by decide +kernel
theorem d_Rows_bestWhole_3 : decode b_Rows_bestWhole 3 = .ok (.iconst 0, 1) := by decide +kernel
theorem d_Rows_bestWhole_4 : decode b_Rows_bestWhole 4 = .ok (.istore_n 3, 1) := by decide +kernel
theorem d_Rows_bestWhole_5 : decode b_Rows_bestWhole 5 = .ok (.iload_n 3, 1) := by decide +kernel
theorem d_Rows_bestWhole_6 : decode b_Rows_bestWhole 6 = .ok (.bipush 7, 2) := by decide +kernel
theorem d_Rows_bestWhole_8 : decode b_Rows_bestWhole 8 = .ok (.if_icmp .ge 29, 3) := by decide +kernel
theorem d_Rows_bestWhole_11 : decode b_Rows_bestWhole 11 = .ok (.iload_n 2, 1) := by decide +kernel
theorem d_Rows_bestWhole_12 : decode b_Rows_bestWhole 12 = .ok (.aload_n 0, 1) := by decide +kernel
theorem d_Rows_bestWhole_13 : decode b_Rows_bestWhole 13 = .ok (.getfield 9, 3) := by decide +kernel
theorem d_Rows_bestWhole_16 : decode b_Rows_bestWhole 16 = .ok (.iload_n 1, 1) := by decide +kernel
theorem d_Rows_bestWhole_17 : decode b_Rows_bestWhole 17 = .ok (.iconst 1, 1) := by decide +kernel
theorem d_Rows_bestWhole_18 : decode b_Rows_bestWhole 18 = .ok (.isub, 1) := by decide +kernel
theorem d_Rows_bestWhole_19 : decode b_Rows_bestWhole 19 = .ok (.bipush 7, 2) := by decide +kernel
theorem d_Rows_bestWhole_21 : decode b_Rows_bestWhole 21 = .ok (.imul, 1) := by decide +kernel
theorem d_Rows_bestWhole_22 : decode b_Rows_bestWhole 22 = .ok (.iload_n 3, 1) := by decide +kernel
theorem d_Rows_bestWhole_23 : decode b_Rows_bestWhole 23 = .ok (.iadd, 1) := by decide +kernel
theorem d_Rows_bestWhole_24 : decode b_Rows_bestWhole 24 = .ok (.invokestatic 44, 3) := by decide +kernel
theorem d_Rows_bestWhole_27 : decode b_Rows_bestWhole 27 = .ok (.invokestatic 48, 3) := by decide +kernel
theorem d_Rows_bestWhole_30 : decode b_Rows_bestWhole 30 = .ok (.istore_n 2, 1) := by decide +kernel
theorem d_Rows_bestWhole_31 : decode b_Rows_bestWhole 31 = .ok (.iinc 3 1, 3) := by decide +kernel
theorem d_Rows_bestWhole_34 : decode b_Rows_bestWhole 34 = .ok (.goto (-29), 3) := by decide +kernel
theorem d_Rows_bestWhole_37 : decode b_Rows_bestWhole 37 = .ok (.iload_n 2, 1) := by decide +kernel
theorem d_Rows_bestWhole_38 : decode b_Rows_bestWhole 38 = .ok (.ireturn, 1) := by decide +kernel
theorem d_Rows_lengthen_0 : decode b_Rows_lengthen 0 = .ok (.aload_n 0, 1) := by decide +kernel
theorem d_Rows_lengthen_1 : decode b_Rows_lengthen 1 = .ok (.getfield 15, 3) := by decide +kernel
theorem d_Rows_lengthen_4 : decode b_Rows_lengthen 4 = .ok (.ldc 24, 2) := by decide +kernel
theorem d_Rows_lengthen_6 : decode b_Rows_lengthen 6 = .ok (.invokestatic 25, 3) := by decide +kernel
theorem d_Rows_lengthen_9 : decode b_Rows_lengthen 9 = .ok (.iconst 1, 1) := by decide +kernel
theorem d_Rows_lengthen_10 : decode b_Rows_lengthen 10 = .ok (.istore_n 3, 1) := by decide +kernel
theorem d_Rows_lengthen_11 : decode b_Rows_lengthen 11 = .ok (.iconst 0, 1) := by decide +kernel
theorem d_Rows_lengthen_12 : decode b_Rows_lengthen 12 = .ok (.istore 4, 2) := by decide +kernel
theorem d_Rows_lengthen_14 : decode b_Rows_lengthen 14 = .ok (.iload 4, 2) := by decide +kernel
theorem d_Rows_lengthen_16 : decode b_Rows_lengthen 16 = .ok (.aload_n 1, 1) := by decide +kernel
theorem d_Rows_lengthen_17 : decode b_Rows_lengthen 17 = .ok (.arraylength, 1) := by decide +kernel
theorem d_Rows_lengthen_18 : decode b_Rows_lengthen 18 = .ok (.if_icmp .ge 119, 3) := by decide +kernel
theorem d_Rows_lengthen_21 : decode b_Rows_lengthen 21 = .ok (.aload_n 1, 1) := by decide +kernel
theorem d_Rows_lengthen_22 : decode b_Rows_lengthen 22 = .ok (.iload 4, 2) := by decide +kernel
theorem d_Rows_lengthen_24 : decode b_Rows_lengthen 24 = .ok (.aaload, 1) := by decide +kernel
theorem d_Rows_lengthen_25 : decode b_Rows_lengthen 25 = .ok (.astore 5, 2) := by decide +kernel
theorem d_Rows_lengthen_27 : decode b_Rows_lengthen 27 = .ok (.aload 5, 2) := by decide +kernel
theorem d_Rows_lengthen_29 : decode b_Rows_lengthen 29 = .ok (.ifnull 102, 3) := by decide +kernel
theorem d_Rows_lengthen_32 : decode b_Rows_lengthen 32 = .ok (.aload 5, 2) := by decide +kernel
theorem d_Rows_lengthen_34 : decode b_Rows_lengthen 34 = .ok (.getfield 18, 3) := by decide +kernel
theorem d_Rows_lengthen_37 : decode b_Rows_lengthen 37 = .ok (.ifCond .ne 7, 3) := by decide +kernel
theorem d_Rows_lengthen_40 : decode b_Rows_lengthen 40 = .ok (.iload_n 3, 1) := by decide +kernel
theorem d_Rows_lengthen_41 : decode b_Rows_lengthen 41 = .ok (.goto 4, 3) := by decide +kernel
theorem d_Rows_lengthen_44 : decode b_Rows_lengthen 44 = .ok (.iconst 0, 1) := by decide +kernel
theorem d_Rows_lengthen_45 : decode b_Rows_lengthen 45 = .ok (.istore 6, 2) := by decide +kernel
theorem d_Rows_lengthen_47 : decode b_Rows_lengthen 47 = .ok (.iload_n 3, 1) := by decide +kernel
theorem d_Rows_lengthen_48 : decode b_Rows_lengthen 48 = .ok (.iload 6, 2) := by decide +kernel
theorem d_Rows_lengthen_50 : decode b_Rows_lengthen 50 = .ok (.iadd, 1) := by decide +kernel
theorem d_Rows_lengthen_51 : decode b_Rows_lengthen 51 = .ok (.istore_n 3, 1) := by decide +kernel
theorem d_Rows_lengthen_52 : decode b_Rows_lengthen 52 = .ok (.iconst 0, 1) := by decide +kernel
theorem d_Rows_lengthen_53 : decode b_Rows_lengthen 53 = .ok (.istore 7, 2) := by decide +kernel
theorem d_Rows_lengthen_55 : decode b_Rows_lengthen 55 = .ok (.iload 7, 2) := by decide +kernel
theorem d_Rows_lengthen_57 : decode b_Rows_lengthen 57 = .ok (.iload_n 2, 1) := by decide +kernel
theorem d_Rows_lengthen_58 : decode b_Rows_lengthen 58 = .ok (.if_icmp .ge 73, 3) := by decide +kernel
theorem d_Rows_lengthen_61 : decode b_Rows_lengthen 61 = .ok (.iload 7, 2) := by decide +kernel
theorem d_Rows_lengthen_63 : decode b_Rows_lengthen 63 = .ok (.iload 6, 2) := by decide +kernel
theorem d_Rows_lengthen_65 : decode b_Rows_lengthen 65 = .ok (.ior, 1) := by decide +kernel
theorem d_Rows_lengthen_66 : decode b_Rows_lengthen 66 = .ok (.bipush 7, 2) := by decide +kernel
theorem d_Rows_lengthen_68 : decode b_Rows_lengthen 68 = .ok (.imul, 1) := by decide +kernel
theorem d_Rows_lengthen_69 : decode b_Rows_lengthen 69 = .ok (.istore 8, 2) := by decide +kernel
theorem d_Rows_lengthen_71 : decode b_Rows_lengthen 71 = .ok (.aload_n 0, 1) := by decide +kernel
theorem d_Rows_lengthen_72 : decode b_Rows_lengthen 72 = .ok (.aload 5, 2) := by decide +kernel
theorem d_Rows_lengthen_74 : decode b_Rows_lengthen 74 = .ok (.iload 4, 2) := by decide +kernel
theorem d_Rows_lengthen_76 : decode b_Rows_lengthen 76 = .ok (.iload 7, 2) := by decide +kernel
theorem d_Rows_lengthen_78 : decode b_Rows_lengthen 78 = .ok (.bipush 7, 2) := by decide +kernel
theorem d_Rows_lengthen_80 : decode b_Rows_lengthen 80 = .ok (.imul, 1) := by decide +kernel
theorem d_Rows_lengthen_81 : decode b_Rows_lengthen 81 = .ok (.aload 5, 2) := by decide +kernel
theorem d_Rows_lengthen_83 : decode b_Rows_lengthen 83 = .ok (.getfield 54, 3) := by decide +kernel
theorem d_Rows_lengthen_86 : decode b_Rows_lengthen 86 = .ok (.iadd, 1) := by decide +kernel
theorem d_Rows_lengthen_87 : decode b_Rows_lengthen 87 = .ok (.iload 8, 2) := by decide +kernel
theorem d_Rows_lengthen_89 : decode b_Rows_lengthen 89 = .ok (.aload 5, 2) := by decide +kernel
theorem d_Rows_lengthen_91 : decode b_Rows_lengthen 91 = .ok (.getfield 57, 3) := by decide +kernel
theorem d_Rows_lengthen_94 : decode b_Rows_lengthen 94 = .ok (.iadd, 1) := by decide +kernel
theorem d_Rows_lengthen_95 : decode b_Rows_lengthen 95 = .ok (.invokevirtual 60, 3) := by decide +kernel
theorem d_Rows_lengthen_98 : decode b_Rows_lengthen 98 = .ok (.aload_n 0, 1) := by decide +kernel
theorem d_Rows_lengthen_99 : decode b_Rows_lengthen 99 = .ok (.aload 5, 2) := by decide +kernel
theorem d_Rows_lengthen_101 : decode b_Rows_lengthen 101 = .ok (.iload 4, 2) := by decide +kernel
theorem d_Rows_lengthen_103 : decode b_Rows_lengthen 103 = .ok (.iload 7, 2) := by decide +kernel
theorem d_Rows_lengthen_105 : decode b_Rows_lengthen 105 = .ok (.bipush 7, 2) := by decide +kernel
theorem d_Rows_lengthen_107 : decode b_Rows_lengthen 107 = .ok (.imul, 1) := by decide +kernel
theorem d_Rows_lengthen_108 : decode b_Rows_lengthen 108 = .ok (.aload 5, 2) := by decide +kernel
theorem d_Rows_lengthen_110 : decode b_Rows_lengthen 110 = .ok (.getfield 57, 3) := by decide +kernel
theorem d_Rows_lengthen_113 : decode b_Rows_lengthen 113 = .ok (.iadd, 1) := by decide +kernel
theorem d_Rows_lengthen_114 : decode b_Rows_lengthen 114 = .ok (.iload 8, 2) := by decide +kernel
theorem d_Rows_lengthen_116 : decode b_Rows_lengthen 116 = .ok (.aload 5, 2) := by decide +kernel
theorem d_Rows_lengthen_118 : decode b_Rows_lengthen 118 = .ok (.getfield 54, 3) := by decide +kernel
theorem d_Rows_lengthen_121 : decode b_Rows_lengthen 121 = .ok (.iadd, 1) := by decide +kernel
theorem d_Rows_lengthen_122 : decode b_Rows_lengthen 122 = .ok (.invokevirtual 60, 3) := by decide +kernel
theorem d_Rows_lengthen_125 : decode b_Rows_lengthen 125 = .ok (.iinc 7 1, 3) := by decide +kernel
theorem d_Rows_lengthen_128 : decode b_Rows_lengthen 128 = .ok (.goto (-73), 3) := by decide +kernel
theorem d_Rows_lengthen_131 : decode b_Rows_lengthen 131 = .ok (.iinc 4 1, 3) := by decide +kernel
theorem d_Rows_lengthen_134 : decode b_Rows_lengthen 134 = .ok (.goto (-120), 3) := by decide +kernel
theorem d_Rows_lengthen_137 : decode b_Rows_lengthen 137 = .ok (.aload_n 0, 1) := by decide +kernel
theorem d_Rows_lengthen_138 : decode b_Rows_lengthen 138 = .ok (.getfield 9, 3) := by decide +kernel
theorem d_Rows_lengthen_141 : decode b_Rows_lengthen 141 = .ok (.astore 4, 2) := by decide +kernel
theorem d_Rows_lengthen_143 : decode b_Rows_lengthen 143 = .ok (.aload_n 0, 1) := by decide +kernel
theorem d_Rows_lengthen_144 : decode b_Rows_lengthen 144 = .ok (.aload_n 0, 1) := by decide +kernel
theorem d_Rows_lengthen_145 : decode b_Rows_lengthen 145 = .ok (.getfield 15, 3) := by decide +kernel
theorem d_Rows_lengthen_148 : decode b_Rows_lengthen 148 = .ok (.putfield 9, 3) := by decide +kernel
theorem d_Rows_lengthen_151 : decode b_Rows_lengthen 151 = .ok (.aload_n 0, 1) := by decide +kernel
theorem d_Rows_lengthen_152 : decode b_Rows_lengthen 152 = .ok (.aload 4, 2) := by decide +kernel
theorem d_Rows_lengthen_154 : decode b_Rows_lengthen 154 = .ok (.putfield 15, 3) := by decide +kernel
theorem d_Rows_lengthen_157 : decode b_Rows_lengthen 157 = .ok (.return_, 1) := by decide +kernel
theorem d_Rows_goAlong_0 : decode b_Rows_goAlong 0 = .ok (.aload_n 0, 1) := by decide +kernel
theorem d_Rows_goAlong_1 : decode b_Rows_goAlong 1 = .ok (.getfield 9, 3) := by decide +kernel
theorem d_Rows_goAlong_4 : decode b_Rows_goAlong 4 = .ok (.iload_n 3, 1) := by decide +kernel
theorem d_Rows_goAlong_5 : decode b_Rows_goAlong 5 = .ok (.invokestatic 44, 3) := by decide +kernel
theorem d_Rows_goAlong_8 : decode b_Rows_goAlong 8 = .ok (.istore 5, 2) := by decide +kernel
theorem d_Rows_goAlong_10 : decode b_Rows_goAlong 10 = .ok (.iload 5, 2) := by decide +kernel
theorem d_Rows_goAlong_12 : decode b_Rows_goAlong 12 = .ok (.ldc 24, 2) := by decide +kernel
theorem d_Rows_goAlong_14 : decode b_Rows_goAlong 14 = .ok (.if_icmp .eq 44, 3) := by decide +kernel
theorem d_Rows_goAlong_17 : decode b_Rows_goAlong 17 = .ok (.iload 5, 2) := by decide +kernel
theorem d_Rows_goAlong_19 : decode b_Rows_goAlong 19 = .ok (.ldc 43, 2) := by decide +kernel
theorem d_Rows_goAlong_21 : decode b_Rows_goAlong 21 = .ok (.idiv, 1) := by decide +kernel
theorem d_Rows_goAlong_22 : decode b_Rows_goAlong 22 = .ok (.aload_n 1, 1) := by decide +kernel
theorem d_Rows_goAlong_23 : decode b_Rows_goAlong 23 = .ok (.getfield 64, 3) := by decide +kernel
theorem d_Rows_goAlong_26 : decode b_Rows_goAlong 26 = .ok (.iadd, 1) := by decide +kernel
theorem d_Rows_goAlong_27 : decode b_Rows_goAlong 27 = .ok (.istore 6, 2) := by decide +kernel
theorem d_Rows_goAlong_29 : decode b_Rows_goAlong 29 = .ok (.iload 5, 2) := by decide +kernel
theorem d_Rows_goAlong_31 : decode b_Rows_goAlong 31 = .ok (.ldc 43, 2) := by decide +kernel
theorem d_Rows_goAlong_33 : decode b_Rows_goAlong 33 = .ok (.irem, 1) := by decide +kernel
theorem d_Rows_goAlong_34 : decode b_Rows_goAlong 34 = .ok (.bipush 10, 2) := by decide +kernel
theorem d_Rows_goAlong_36 : decode b_Rows_goAlong 36 = .ok (.imul, 1) := by decide +kernel
theorem d_Rows_goAlong_37 : decode b_Rows_goAlong 37 = .ok (.iload_n 2, 1) := by decide +kernel
theorem d_Rows_goAlong_38 : decode b_Rows_goAlong 38 = .ok (.iadd, 1) := by decide +kernel
theorem d_Rows_goAlong_39 : decode b_Rows_goAlong 39 = .ok (.istore 7, 2) := by decide +kernel
theorem d_Rows_goAlong_41 : decode b_Rows_goAlong 41 = .ok (.aload_n 0, 1) := by decide +kernel
theorem d_Rows_goAlong_42 : decode b_Rows_goAlong 42 = .ok (.getfield 15, 3) := by decide +kernel
theorem d_Rows_goAlong_45 : decode b_Rows_goAlong 45 = .ok (.iload 4, 2) := by decide +kernel
theorem d_Rows_goAlong_47 : decode b_Rows_goAlong 47 = .ok (.iload 6, 2) := by decide +kernel
theorem d_Rows_goAlong_49 : decode b_Rows_goAlong 49 = .ok (.ldc 43, 2) := by decide +kernel
theorem d_Rows_goAlong_51 : decode b_Rows_goAlong 51 = .ok (.imul, 1) := by decide +kernel
theorem d_Rows_goAlong_52 : decode b_Rows_goAlong 52 = .ok (.iload 7, 2) := by decide +kernel
theorem d_Rows_goAlong_54 : decode b_Rows_goAlong 54 = .ok (.iadd, 1) := by decide +kernel
theorem d_Rows_goAlong_55 : decode b_Rows_goAlong 55 = .ok (.invokestatic 31, 3) := by decide +kernel
theorem d_Rows_goAlong_58 : decode b_Rows_goAlong 58 = .ok (.return_, 1) := by decide +kernel
theorem d_Surf_init_0 : decode b_Surf_init 0 = .ok (.aload_n 0, 1) := by decide +kernel
theorem d_Surf_init_1 : decode b_Surf_init 1 = .ok (.invokespecial 3, 3) := by decide +kernel
theorem d_Surf_init_4 : decode b_Surf_init 4 = .ok (.aload_n 0, 1) := by decide +kernel
theorem d_Surf_init_5 : decode b_Surf_init 5 = .ok (.iconst 3, 1) := by decide +kernel
theorem d_Surf_init_6 : decode b_Surf_init 6 = .ok (.putfield 9, 3) := by decide +kernel
theorem d_Surf_init_9 : decode b_Surf_init 9 = .ok (.return_, 1) := by decide +kernel
theorem d_Surf_becomeLike_0 : decode b_Surf_becomeLike 0 = .ok (.aload_n 0, 1) := by decide +kernel
theorem d_Surf_becomeLike_1 : decode b_Surf_becomeLike 1 = .ok (.aload_n 1, 1) := by decide +kernel
theorem d_Surf_becomeLike_2 : decode b_Surf_becomeLike 2 = .ok (.getfield 9, 3) := by decide +kernel
theorem d_Surf_becomeLike_5 : decode b_Surf_becomeLike 5 = .ok (.putfield 9, 3) := by decide +kernel
theorem d_Surf_becomeLike_8 : decode b_Surf_becomeLike 8 = .ok (.aload_n 0, 1) := by decide +kernel
theorem d_Surf_becomeLike_9 : decode b_Surf_becomeLike 9 = .ok (.aload_n 1, 1) := by decide +kernel
theorem d_Surf_becomeLike_10 : decode b_Surf_becomeLike 10 = .ok (.getfield 15, 3) := by decide +kernel
theorem d_Surf_becomeLike_13 : decode b_Surf_becomeLike 13 = .ok (.putfield 15, 3) := by decide +kernel
theorem d_Surf_becomeLike_16 : decode b_Surf_becomeLike 16 = .ok (.aload_n 0, 1) := by decide +kernel
theorem d_Surf_becomeLike_17 : decode b_Surf_becomeLike 17 = .ok (.aload_n 1, 1) := by decide +kernel
theorem d_Surf_becomeLike_18 : decode b_Surf_becomeLike 18 = .ok (.getfield 18, 3) := by decide +kernel
theorem d_Surf_becomeLike_21 : decode b_Surf_becomeLike 21 = .ok (.putfield 18, 3) := by decide +kernel
theorem d_Surf_becomeLike_24 : decode b_Surf_becomeLike 24 = .ok (.aload_n 0, 1) := by decide +kernel
theorem d_Surf_becomeLike_25 : decode b_Surf_becomeLike 25 = .ok (.aload_n 1, 1) := by decide +kernel
theorem d_Surf_becomeLike_26 : decode b_Surf_becomeLike 26 = .ok (.getfield 21, 3) := by decide +kernel
theorem d_Surf_becomeLike_29 : decode b_Surf_becomeLike 29 = .ok (.putfield 21, 3) := by decide +kernel
theorem d_Surf_becomeLike_32 : decode b_Surf_becomeLike 32 = .ok (.aload_n 0, 1) := by decide +kernel
theorem d_Surf_becomeLike_33 : decode b_Surf_becomeLike 33 = .ok (.aload_n 1, 1) := by decide +kernel
theorem d_Surf_becomeLike_34 : decode b_Surf_becomeLike 34 = .ok (.getfield 24, 3) := by decide +kernel
theorem d_Surf_becomeLike_37 : decode b_Surf_becomeLike 37 = .ok (.putfield 24, 3) := by decide +kernel
theorem d_Surf_becomeLike_40 : decode b_Surf_becomeLike 40 = .ok (.return_, 1) := by decide +kernel
theorem d_Surf_isSlippery_0 : decode b_Surf_isSlippery 0 = .ok (.aload_n 0, 1) := by decide +kernel
theorem d_Surf_isSlippery_1 : decode b_Surf_isSlippery 1 = .ok (.getfield 18, 3) := by decide +kernel
theorem d_Surf_isSlippery_4 : decode b_Surf_isSlippery 4 = .ok (.iconst 2, 1) := by decide +kernel
theorem d_Surf_isSlippery_5 : decode b_Surf_isSlippery 5 = .ok (.if_icmp .ge 11, 3) := by decide +kernel
theorem d_Surf_isSlippery_8 : decode b_Surf_isSlippery 8 = .ok (.aload_n 0, 1) := by decide +kernel
theorem d_Surf_isSlippery_9 : decode b_Surf_isSlippery 9 = .ok (.getfield 21, 3) := by decide +kernel
theorem d_Surf_isSlippery_12 : decode b_Surf_isSlippery 12 = .ok (.iconst 3, 1) := by decide +kernel
theorem d_Surf_isSlippery_13 : decode b_Surf_isSlippery 13 = .ok (.if_icmp .lt 7, 3) := by decide +kernel
theorem d_Surf_isSlippery_16 : decode b_Surf_isSlippery 16 = .ok (.iconst 1, 1) := by decide +kernel
theorem d_Surf_isSlippery_17 : decode b_Surf_isSlippery 17 = .ok (.goto 4, 3) := by decide +kernel
theorem d_Surf_isSlippery_20 : decode b_Surf_isSlippery 20 = .ok (.iconst 0, 1) := by decide +kernel
theorem d_Surf_isSlippery_21 : decode b_Surf_isSlippery 21 = .ok (.ireturn, 1) := by decide +kernel
theorem d_Surf_point_0 : decode b_Surf_point 0 = .ok (.aload_n 0, 1) := by decide +kernel
theorem d_Surf_point_1 : decode b_Surf_point 1 = .ok (.getfield 15, 3) := by decide +kernel
theorem d_Surf_point_4 : decode b_Surf_point 4 = .ok (.aload_n 0, 1) := by decide +kernel
theorem d_Surf_point_5 : decode b_Surf_point 5 = .ok (.getfield 18, 3) := by decide +kernel
theorem d_Surf_point_8 : decode b_Surf_point 8 = .ok (.iadd, 1) := by decide +kernel
theorem d_Surf_point_9 : decode b_Surf_point 9 = .ok (.aload_n 0, 1) := by decide +kernel
theorem d_Surf_point_10 : decode b_Surf_point 10 = .ok (.getfield 21, 3) := by decide +kernel
theorem d_Surf_point_13 : decode b_Surf_point 13 = .ok (.iadd, 1) := by decide +kernel
theorem d_Surf_point_14 : decode b_Surf_point 14 = .ok (.istore_n 1, 1) := by decide +kernel
theorem d_Surf_point_15 : decode b_Surf_point 15 = .ok (.iload_n 1, 1) := by decide +kernel
theorem d_Surf_point_16 : decode b_Surf_point 16 = .ok (.ifCond .gt 7, 3) := by decide +kernel
theorem d_Surf_point_19 : decode b_Surf_point 19 = .ok (.iconst 0, 1) := by decide +kernel
theorem d_Surf_point_20 : decode b_Surf_point 20 = .ok (.goto 12, 3) := by decide +kernel
theorem d_Surf_point_23 : decode b_Surf_point 23 = .ok (.bipush 6, 2) := by decide +kernel
theorem d_Surf_point_25 : decode b_Surf_point 25 = .ok (.aload_n 0, 1) := by decide +kernel
theorem d_Surf_point_26 : decode b_Surf_point 26 = .ok (.getfield 24, 3) := by decide +kernel
theorem d_Surf_point_29 : decode b_Surf_point 29 = .ok (.imul, 1) := by decide +kernel
theorem d_Surf_point_30 : decode b_Surf_point 30 = .ok (.iload_n 1, 1) := by decide +kernel
theorem d_Surf_point_31 : decode b_Surf_point 31 = .ok (.idiv, 1) := by decide +kernel
theorem d_Surf_point_32 : decode b_Surf_point 32 = .ok (.istore_n 2, 1) := by decide +kernel
theorem d_Surf_point_33 : decode b_Surf_point 33 = .ok (.iload_n 2, 1) := by decide +kernel
theorem d_Surf_point_34 : decode b_Surf_point 34 = .ok (.bipush 21, 2) := by decide +kernel
theorem d_Surf_point_36 : decode b_Surf_point 36 = .ok (.if_icmp .le 8, 3) := by decide +kernel
theorem d_Surf_point_39 : decode b_Surf_point 39 = .ok (.bipush (-21), 2) := by decide +kernel
theorem d_Surf_point_41 : decode b_Surf_point 41 = .ok (.goto 5, 3) := by decide +kernel
theorem d_Surf_point_44 : decode b_Surf_point 44 = .ok (.iload_n 2, 1) := by decide +kernel
theorem d_Surf_point_45 : decode b_Surf_point 45 = .ok (.ineg, 1) := by decide +kernel
theorem d_Surf_point_46 : decode b_Surf_point 46 = .ok (.ireturn, 1) := by decide +kernel
theorem d_Surf_comeNearer_0 : decode b_Surf_comeNearer 0 = .ok (.aload_n 0, 1) := by decide +kernel
theorem d_Surf_comeNearer_1 : decode b_Surf_comeNearer 1 = .ok (.getfield 9, 3) := by decide +kernel
theorem d_Surf_comeNearer_4 : decode b_Surf_comeNearer 4 = .ok (.iload_n 1, 1) := by decide +kernel
theorem d_Surf_comeNearer_5 : decode b_Surf_comeNearer 5 = .ok (.if_icmp .ge 20, 3) := by decide +kernel
theorem d_Surf_comeNearer_8 : decode b_Surf_comeNearer 8 = .ok (.aload_n 0, 1) := by decide +kernel
theorem d_Surf_comeNearer_9 : decode b_Surf_comeNearer 9 = .ok (.iload_n 1, 1) := by decide +kernel
theorem d_Surf_comeNearer_10 : decode b_Surf_comeNearer 10 = .ok (.aload_n 0, 1) := by decide +kernel
theorem d_Surf_comeNearer_11 : decode b_Surf_comeNearer 11 = .ok (.getfield 9, 3) := by decide +kernel
theorem d_Surf_comeNearer_14 : decode b_Surf_comeNearer 14 = .ok (.iload_n 2, 1) := by decide +kernel
theorem d_Surf_comeNearer_15 : decode b_Surf_comeNearer 15 = .ok (.iadd, 1) := by decide +kernel
theorem d_Surf_comeNearer_16 : decode b_Surf_comeNearer 16 = .ok (.invokestatic 27, 3) := by decide +kernel
theorem d_Surf_comeNearer_19 : decode b_Surf_comeNearer 19 = .ok (.putfield 9, 3) := by decide +kernel
theorem d_Surf_comeNearer_22 : decode b_Surf_comeNearer 22 = .ok (.goto 17, 3) := by decide +kernel
theorem d_Surf_comeNearer_25 : decode b_Surf_comeNearer 25 = .ok (.aload_n 0, 1) := by decide +kernel
theorem d_Surf_comeNearer_26 : decode b_Surf_comeNearer 26 = .ok (.iload_n 1, 1) := by decide +kernel
theorem d_Surf_comeNearer_27 : decode b_Surf_comeNearer 27 = .ok (.aload_n 0, 1) := by decide +kernel
theorem d_Surf_comeNearer_28 : decode b_Surf_comeNearer 28 = .ok (.getfield 9, 3) := by decide +kernel
theorem d_Surf_comeNearer_31 : decode b_Surf_comeNearer 31 = .ok (.iload_n 2, 1) := by decide +kernel
theorem d_Surf_comeNearer_32 : decode b_Surf_comeNearer 32 = .ok (.isub, 1) := by decide +kernel
theorem d_Surf_comeNearer_33 : decode b_Surf_comeNearer 33 = .ok (.invokestatic 33, 3) := by decide +kernel
theorem d_Surf_comeNearer_36 : decode b_Surf_comeNearer 36 = .ok (.putfield 9, 3) := by decide +kernel
theorem d_Surf_comeNearer_39 : decode b_Surf_comeNearer 39 = .ok (.return_, 1) := by decide +kernel
theorem d_Surf_freezeOrThaw_0 : decode b_Surf_freezeOrThaw 0 = .ok (.aload_n 0, 1) := by decide +kernel
theorem d_Surf_freezeOrThaw_1 : decode b_Surf_freezeOrThaw 1 = .ok (.getfield 9, 3) := by decide +kernel
theorem d_Surf_freezeOrThaw_4 : decode b_Surf_freezeOrThaw 4 = .ok (.aload_n 0, 1) := by decide +kernel
theorem d_Surf_freezeOrThaw_5 : decode b_Surf_freezeOrThaw 5 = .ok (.invokevirtual 36, 3) := by decide +kernel
theorem d_Surf_freezeOrThaw_8 : decode b_Surf_freezeOrThaw 8 = .ok (.if_icmp .ge 33, 3) := by decide +kernel
theorem d_Surf_freezeOrThaw_11 : decode b_Surf_freezeOrThaw 11 = .ok (.iconst 2, 1) := by decide +kernel
theorem d_Surf_freezeOrThaw_12 : decode b_Surf_freezeOrThaw 12 = .ok (.aload_n 0, 1) := by decide +kernel
theorem d_Surf_freezeOrThaw_13 : decode b_Surf_freezeOrThaw 13 = .ok (.getfield 15, 3) := by decide +kernel
theorem d_Surf_freezeOrThaw_16 : decode b_Surf_freezeOrThaw 16 = .ok (.invokestatic 27, 3) := by decide +kernel
theorem d_Surf_freezeOrThaw_19 : decode b_Surf_freezeOrThaw 19 = .ok (.istore_n 1, 1) := by decide +kernel
theorem d_Surf_freezeOrThaw_20 : decode b_Surf_freezeOrThaw 20 = .ok (.aload_n 0, 1) := by decide +kernel
theorem d_Surf_freezeOrThaw_21 : decode b_Surf_freezeOrThaw 21 = .ok (.dup, 1) := by decide +kernel
theorem d_Surf_freezeOrThaw_22 : decode b_Surf_freezeOrThaw 22 = .ok (.getfield 15, 3) := by decide +kernel
theorem d_Surf_freezeOrThaw_25 : decode b_Surf_freezeOrThaw 25 = .ok (.iload_n 1, 1) := by decide +kernel
theorem d_Surf_freezeOrThaw_26 : decode b_Surf_freezeOrThaw 26 = .ok (.isub, 1) := by decide +kernel
theorem d_Surf_freezeOrThaw_27 : decode b_Surf_freezeOrThaw 27 = .ok (.putfield 15, 3) := by decide +kernel
theorem d_Surf_freezeOrThaw_30 : decode b_Surf_freezeOrThaw 30 = .ok (.aload_n 0, 1) := by decide +kernel
theorem d_Surf_freezeOrThaw_31 : decode b_Surf_freezeOrThaw 31 = .ok (.dup, 1) := by decide +kernel
theorem d_Surf_freezeOrThaw_32 : decode b_Surf_freezeOrThaw 32 = .ok (.getfield 18, 3) := by decide +kernel
theorem d_Surf_freezeOrThaw_35 : decode b_Surf_freezeOrThaw 35 = .ok (.iload_n 1, 1) := by decide +kernel
theorem d_Surf_freezeOrThaw_36 : decode b_Surf_freezeOrThaw 36 = .ok (.iadd, 1) := by decide +kernel
theorem d_Surf_freezeOrThaw_37 : decode b_Surf_freezeOrThaw 37 = .ok (.putfield 18, 3) := by decide +kernel
theorem d_Surf_freezeOrThaw_40 : decode b_Surf_freezeOrThaw 40 = .ok (.return_, 1) := by decide +kernel
theorem d_Surf_freezeOrThaw_41 : decode b_Surf_freezeOrThaw 41 = .ok (.iconst 1, 1) := by decide +kernel
theorem d_Surf_freezeOrThaw_42 : decode b_Surf_freezeOrThaw 42 = .ok (.aload_n 0, 1) := by decide +kernel
theorem d_Surf_freezeOrThaw_43 : decode b_Surf_freezeOrThaw 43 = .ok (.getfield 24, 3) := by decide +kernel
theorem d_Surf_freezeOrThaw_46 : decode b_Surf_freezeOrThaw 46 = .ok (.iconst 4, 1) := by decide +kernel
theorem d_Surf_freezeOrThaw_47 : decode b_Surf_freezeOrThaw 47 = .ok (.idiv, 1) := by decide +kernel
theorem d_Surf_freezeOrThaw_48 : decode b_Surf_freezeOrThaw 48 = .ok (.iadd, 1) := by decide +kernel
theorem d_Surf_freezeOrThaw_49 : decode b_Surf_freezeOrThaw 49 = .ok (.istore_n 1, 1) := by decide +kernel
theorem d_Surf_freezeOrThaw_50 : decode b_Surf_freezeOrThaw 50 = .ok (.aload_n 0, 1) := by decide +kernel
theorem d_Surf_freezeOrThaw_51 : decode b_Surf_freezeOrThaw 51 = .ok (.getfield 18, 3) := by decide +kernel
theorem d_Surf_freezeOrThaw_54 : decode b_Surf_freezeOrThaw 54 = .ok (.iload_n 1, 1) := by decide +kernel
theorem d_Surf_freezeOrThaw_55 : decode b_Surf_freezeOrThaw 55 = .ok (.invokestatic 27, 3) := by decide +kernel
theorem d_Surf_freezeOrThaw_58 : decode b_Surf_freezeOrThaw 58 = .ok (.istore_n 2, 1) := by decide +kernel
theorem d_Surf_freezeOrThaw_59 : decode b_Surf_freezeOrThaw 59 = .ok (.aload_n 0, 1) := by decide +kernel
theorem d_Surf_freezeOrThaw_60 : decode b_Surf_freezeOrThaw 60 = .ok (.getfield 21, 3) := by decide +kernel
theorem d_Surf_freezeOrThaw_63 : decode b_Surf_freezeOrThaw 63 = .ok (.iload_n 1, 1) := by decide +kernel
theorem d_Surf_freezeOrThaw_64 : decode b_Surf_freezeOrThaw 64 = .ok (.iload_n 2, 1) := by decide +kernel
theorem d_Surf_freezeOrThaw_65 : decode b_Surf_freezeOrThaw 65 = .ok (.isub, 1) := by decide +kernel
theorem d_Surf_freezeOrThaw_66 : decode b_Surf_freezeOrThaw 66 = .ok (.invokestatic 27, 3) := by decide +kernel
theorem d_Surf_freezeOrThaw_69 : decode b_Surf_freezeOrThaw 69 = .ok (.istore_n 3, 1) := by decide +kernel
theorem d_Surf_freezeOrThaw_70 : decode b_Surf_freezeOrThaw 70 = .ok (.aload_n 0, 1) := by decide +kernel
theorem d_Surf_freezeOrThaw_71 : decode b_Surf_freezeOrThaw 71 = .ok (.dup, 1) := by decide +kernel
theorem d_Surf_freezeOrThaw_72 : decode b_Surf_freezeOrThaw 72 = .ok (.getfield 18, 3) := by decide +kernel
theorem d_Surf_freezeOrThaw_75 : decode b_Surf_freezeOrThaw 75 = .ok (.iload_n 2, 1) := by decide +kernel
theorem d_Surf_freezeOrThaw_76 : decode b_Surf_freezeOrThaw 76 = .ok (.isub, 1) := by decide +kernel
theorem d_Surf_freezeOrThaw_77 : decode b_Surf_freezeOrThaw 77 = .ok (.putfield 18, 3) := by decide +kernel
theorem d_Surf_freezeOrThaw_80 : decode b_Surf_freezeOrThaw 80 = .ok (.aload_n 0, 1) := by decide +kernel
theorem d_Surf_freezeOrThaw_81 : decode b_Surf_freezeOrThaw 81 = .ok (.dup, 1) := by decide +kernel
theorem d_Surf_freezeOrThaw_82 : decode b_Surf_freezeOrThaw 82 = .ok (.getfield 21, 3) := by decide +kernel
theorem d_Surf_freezeOrThaw_85 : decode b_Surf_freezeOrThaw 85 = .ok (.iload_n 3, 1) := by decide +kernel
theorem d_Surf_freezeOrThaw_86 : decode b_Surf_freezeOrThaw 86 = .ok (.isub, 1) := by decide +kernel
theorem d_Surf_freezeOrThaw_87 : decode b_Surf_freezeOrThaw 87 = .ok (.putfield 21, 3) := by decide +kernel
theorem d_Surf_freezeOrThaw_90 : decode b_Surf_freezeOrThaw 90 = .ok (.aload_n 0, 1) := by decide +kernel
theorem d_Surf_freezeOrThaw_91 : decode b_Surf_freezeOrThaw 91 = .ok (.dup, 1) := by decide +kernel
theorem d_Surf_freezeOrThaw_92 : decode b_Surf_freezeOrThaw 92 = .ok (.getfield 15, 3) := by decide +kernel
theorem d_Surf_freezeOrThaw_95 : decode b_Surf_freezeOrThaw 95 = .ok (.iload_n 2, 1) := by decide +kernel
theorem d_Surf_freezeOrThaw_96 : decode b_Surf_freezeOrThaw 96 = .ok (.iload_n 3, 1) := by decide +kernel
theorem d_Surf_freezeOrThaw_97 : decode b_Surf_freezeOrThaw 97 = .ok (.iadd, 1) := by decide +kernel
theorem d_Surf_freezeOrThaw_98 : decode b_Surf_freezeOrThaw 98 = .ok (.iadd, 1) := by decide +kernel
theorem d_Surf_freezeOrThaw_99 : decode b_Surf_freezeOrThaw 99 = .ok (.putfield 15, 3) := by decide +kernel
theorem d_Surf_freezeOrThaw_102 : decode b_Surf_freezeOrThaw 102 = .ok (.return_, 1) := by decide +kernel
theorem d_Surf_runOff_0 : decode b_Surf_runOff 0 = .ok (.aload_n 0, 1) := by decide +kernel
theorem d_Surf_runOff_1 : decode b_Surf_runOff 1 = .ok (.getfield 15, 3) := by decide +kernel
theorem d_Surf_runOff_4 : decode b_Surf_runOff 4 = .ok (.bipush 8, 2) := by decide +kernel
theorem d_Surf_runOff_6 : decode b_Surf_runOff 6 = .ok (.if_icmp .gt 4, 3) := by decide +kernel
theorem d_Surf_runOff_9 : decode b_Surf_runOff 9 = .ok (.return_, 1) := by decide +kernel
theorem d_Surf_runOff_10 : decode b_Surf_runOff 10 = .ok (.aload_n 0, 1) := by decide +kernel
theorem d_Surf_runOff_11 : decode b_Surf_runOff 11 = .ok (.getfield 15, 3) := by decide +kernel
theorem d_Surf_runOff_14 : decode b_Surf_runOff 14 = .ok (.bipush 8, 2) := by decide +kernel
theorem d_Surf_runOff_16 : decode b_Surf_runOff 16 = .ok (.isub, 1) := by decide +kernel
theorem d_Surf_runOff_17 : decode b_Surf_runOff 17 = .ok (.istore_n 1, 1) := by decide +kernel
theorem d_Surf_runOff_18 : decode b_Surf_runOff 18 = .ok (.iload_n 1, 1) := by decide +kernel
theorem d_Surf_runOff_19 : decode b_Surf_runOff 19 = .ok (.aload_n 0, 1) := by decide +kernel
theorem d_Surf_runOff_20 : decode b_Surf_runOff 20 = .ok (.getfield 24, 3) := by decide +kernel
theorem d_Surf_runOff_23 : decode b_Surf_runOff 23 = .ok (.imul, 1) := by decide +kernel
theorem d_Surf_runOff_24 : decode b_Surf_runOff 24 = .ok (.aload_n 0, 1) := by decide +kernel
theorem d_Surf_runOff_25 : decode b_Surf_runOff 25 = .ok (.getfield 15, 3) := by decide +kernel
theorem d_Surf_runOff_28 : decode b_Surf_runOff 28 = .ok (.idiv, 1) := by decide +kernel
theorem d_Surf_runOff_29 : decode b_Surf_runOff 29 = .ok (.istore_n 2, 1) := by decide +kernel
theorem d_Surf_runOff_30 : decode b_Surf_runOff 30 = .ok (.aload_n 0, 1) := by decide +kernel
theorem d_Surf_runOff_31 : decode b_Surf_runOff 31 = .ok (.bipush 8, 2) := by decide +kernel
theorem d_Surf_runOff_33 : decode b_Surf_runOff 33 = .ok (.putfield 15, 3) := by decide +kernel
theorem d_Surf_runOff_36 : decode b_Surf_runOff 36 = .ok (.aload_n 0, 1) := by decide +kernel
theorem d_Surf_runOff_37 : decode b_Surf_runOff 37 = .ok (.dup, 1) := by decide +kernel
theorem d_Surf_runOff_38 : decode b_Surf_runOff 38 = .ok (.getfield 40, 3) := by decide +kernel
theorem d_Surf_runOff_41 : decode b_Surf_runOff 41 = .ok (.iload_n 1, 1) := by decide +kernel
theorem d_Surf_runOff_42 : decode b_Surf_runOff 42 = .ok (.iadd, 1) := by decide +kernel
theorem d_Surf_runOff_43 : decode b_Surf_runOff 43 = .ok (.putfield 40, 3) := by decide +kernel
theorem d_Surf_runOff_46 : decode b_Surf_runOff 46 = .ok (.aload_n 0, 1) := by decide +kernel
theorem d_Surf_runOff_47 : decode b_Surf_runOff 47 = .ok (.dup, 1) := by decide +kernel
theorem d_Surf_runOff_48 : decode b_Surf_runOff 48 = .ok (.getfield 24, 3) := by decide +kernel
theorem d_Surf_runOff_51 : decode b_Surf_runOff 51 = .ok (.iload_n 2, 1) := by decide +kernel
theorem d_Surf_runOff_52 : decode b_Surf_runOff 52 = .ok (.isub, 1) := by decide +kernel
theorem d_Surf_runOff_53 : decode b_Surf_runOff 53 = .ok (.putfield 24, 3) := by decide +kernel
theorem d_Surf_runOff_56 : decode b_Surf_runOff 56 = .ok (.aload_n 0, 1) := by decide +kernel
theorem d_Surf_runOff_57 : decode b_Surf_runOff 57 = .ok (.dup, 1) := by decide +kernel
theorem d_Surf_runOff_58 : decode b_Surf_runOff 58 = .ok (.getfield 43, 3) := by decide +kernel
theorem d_Surf_runOff_61 : decode b_Surf_runOff 61 = .ok (.iload_n 2, 1) := by decide +kernel
theorem d_Surf_runOff_62 : decode b_Surf_runOff 62 = .ok (.iadd, 1) := by decide +kernel
theorem d_Surf_runOff_63 : decode b_Surf_runOff 63 = .ok (.putfield 43, 3) := by decide +kernel
theorem d_Surf_runOff_66 : decode b_Surf_runOff 66 = .ok (.return_, 1) := by decide +kernel
theorem d_Surf_loseToFields_0 : decode b_Surf_loseToFields 0 = .ok (.iload_n 1, 1) := by decide +kernel
theorem d_Surf_loseToFields_1 : decode b_Surf_loseToFields 1 = .ok (.aload_n 0, 1) := by decide +kernel
theorem d_Surf_loseToFields_2 : decode b_Surf_loseToFields 2 = .ok (.getfield 24, 3) := by decide +kernel
theorem d_Surf_loseToFields_5 : decode b_Surf_loseToFields 5 = .ok (.invokestatic 27, 3) := by decide +kernel
theorem d_Surf_loseToFields_8 : decode b_Surf_loseToFields 8 = .ok (.istore_n 2, 1) := by decide +kernel
theorem d_Surf_loseToFields_9 : decode b_Surf_loseToFields 9 = .ok (.aload_n 0, 1) := by decide +kernel
theorem d_Surf_loseToFields_10 : decode b_Surf_loseToFields 10 = .ok (.dup, 1) := by decide +kernel
theorem d_Surf_loseToFields_11 : decode b_Surf_loseToFields 11 = .ok (.getfield 24, 3) := by decide +kernel
theorem d_Surf_loseToFields_14 : decode b_Surf_loseToFields 14 = .ok (.iload_n 2, 1) := by decide +kernel
theorem d_Surf_loseToFields_15 : decode b_Surf_loseToFields 15 = .ok (.isub, 1) := by decide +kernel
theorem d_Surf_loseToFields_16 : decode b_Surf_loseToFields 16 = .ok (.putfield 24, 3) := by decide +kernel
theorem d_Surf_loseToFields_19 : decode b_Surf_loseToFields 19 = .ok (.aload_n 0, 1) := by decide +kernel
theorem d_Surf_loseToFields_20 : decode b_Surf_loseToFields 20 = .ok (.dup, 1) := by decide +kernel
theorem d_Surf_loseToFields_21 : decode b_Surf_loseToFields 21 = .ok (.getfield 46, 3) := by decide +kernel
theorem d_Surf_loseToFields_24 : decode b_Surf_loseToFields 24 = .ok (.iload_n 2, 1) := by decide +kernel
theorem d_Surf_loseToFields_25 : decode b_Surf_loseToFields 25 = .ok (.iadd, 1) := by decide +kernel
theorem d_Surf_loseToFields_26 : decode b_Surf_loseToFields 26 = .ok (.putfield 46, 3) := by decide +kernel
theorem d_Surf_loseToFields_29 : decode b_Surf_loseToFields 29 = .ok (.return_, 1) := by decide +kernel
theorem d_Wea_init_0 : decode b_Wea_init 0 = .ok (.aload_n 0, 1) := by decide +kernel
theorem d_Wea_init_1 : decode b_Wea_init 1 = .ok (.invokespecial 1, 3) := by decide +kernel
theorem d_Wea_init_4 : decode b_Wea_init 4 = .ok (.aload_n 0, 1) := by decide +kernel
theorem d_Wea_init_5 : decode b_Wea_init 5 = .ok (.iconst 5, 1) := by decide +kernel
theorem d_Wea_init_6 : decode b_Wea_init 6 = .ok (.putfield 7, 3) := by decide +kernel
theorem d_Wea_init_9 : decode b_Wea_init 9 = .ok (.return_, 1) := by decide +kernel
theorem d_G_init_0 : decode b_G_init 0 = .ok (.aload_n 0, 1) := by decide +kernel
theorem d_G_init_1 : decode b_G_init 1 = .ok (.invokespecial 1, 3) := by decide +kernel
theorem d_G_init_4 : decode b_G_init 4 = .ok (.aload_n 0, 1) := by decide +kernel
theorem d_G_init_5 : decode b_G_init 5 = .ok (.bipush 8, 2) := by decide +kernel
theorem d_G_init_7 : decode b_G_init 7 = .ok (.anewarray 9, 3) := by decide +kernel
theorem d_G_init_10 : decode b_G_init 10 = .ok (.putfield 11, 3) := by decide +kernel
theorem d_G_init_13 : decode b_G_init 13 = .ok (.aload_n 0, 1) := by decide +kernel
theorem d_G_init_14 : decode b_G_init 14 = .ok (.iconst 3, 1) := by decide +kernel
theorem d_G_init_15 : decode b_G_init 15 = .ok (.anewarray 15, 3) := by decide +kernel
theorem d_G_init_18 : decode b_G_init 18 = .ok (.putfield 17, 3) := by decide +kernel
theorem d_G_init_21 : decode b_G_init 21 = .ok (.aload_n 0, 1) := by decide +kernel
theorem d_G_init_22 : decode b_G_init 22 = .ok (.bipush 20, 2) := by decide +kernel
theorem d_G_init_24 : decode b_G_init 24 = .ok (.anewarray 21, 3) := by decide +kernel
theorem d_G_init_27 : decode b_G_init 27 = .ok (.putfield 23, 3) := by decide +kernel
theorem d_G_init_30 : decode b_G_init 30 = .ok (.aload_n 0, 1) := by decide +kernel
theorem d_G_init_31 : decode b_G_init 31 = .ok (.iconst 5, 1) := by decide +kernel
theorem d_G_init_32 : decode b_G_init 32 = .ok (.anewarray 27, 3) := by decide +kernel
theorem d_G_init_35 : decode b_G_init 35 = .ok (.putfield 29, 3) := by decide +kernel
theorem d_G_init_38 : decode b_G_init 38 = .ok (.aload_n 0, 1) := by decide +kernel
theorem d_G_init_39 : decode b_G_init 39 = .ok (.new 33, 3) := by decide +kernel
theorem d_G_init_42 : decode b_G_init 42 = .ok (.dup, 1) := by decide +kernel
theorem d_G_init_43 : decode b_G_init 43 = .ok (.invokespecial 35, 3) := by decide +kernel
theorem d_G_init_46 : decode b_G_init 46 = .ok (.putfield 36, 3) := by decide +kernel
theorem d_G_init_49 : decode b_G_init 49 = .ok (.aload_n 0, 1) := by decide +kernel
theorem d_G_init_50 : decode b_G_init 50 = .ok (.new 40, 3) := by decide +kernel
theorem d_G_init_53 : decode b_G_init 53 = .ok (.dup, 1) := by decide +kernel
theorem d_G_init_54 : decode b_G_init 54 = .ok (.invokespecial 42, 3) := by decide +kernel
theorem d_G_init_57 : decode b_G_init 57 = .ok (.putfield 43, 3) := by decide +kernel
theorem d_G_init_60 : decode b_G_init 60 = .ok (.aload_n 0, 1) := by decide +kernel
theorem d_G_init_61 : decode b_G_init 61 = .ok (.bipush 7, 2) := by decide +kernel
theorem d_G_init_63 : decode b_G_init 63 = .ok (.newarray .int, 2) := by decide +kernel
theorem d_G_init_65 : decode b_G_init 65 = .ok (.putfield 47, 3) := by decide +kernel
theorem d_G_init_68 : decode b_G_init 68 = .ok (.aload_n 0, 1) := by decide +kernel
theorem d_G_init_69 : decode b_G_init 69 = .ok (.new 51, 3) := by decide +kernel
theorem d_G_init_72 : decode b_G_init 72 = .ok (.dup, 1) := by decide +kernel
theorem d_G_init_73 : decode b_G_init 73 = .ok (.invokespecial 53, 3) := by decide +kernel
theorem d_G_init_76 : decode b_G_init 76 = .ok (.putfield 54, 3) := by decide +kernel
theorem d_G_init_79 : decode b_G_init 79 = .ok (.aload_n 0, 1) := by decide +kernel
theorem d_G_init_80 : decode b_G_init 80 = .ok (.bipush 100, 2) := by decide +kernel
theorem d_G_init_82 : decode b_G_init 82 = .ok (.putfield 58, 3) := by decide +kernel
theorem d_G_init_85 : decode b_G_init 85 = .ok (.return_, 1) := by decide +kernel
theorem d_G_road_0 : decode b_G_road 0 = .ok (.iload_n 1, 1) := by decide +kernel
theorem d_G_road_1 : decode b_G_road 1 = .ok (.invokestatic 62, 3) := by decide +kernel
theorem d_G_road_4 : decode b_G_road 4 = .ok (.ifCond .eq 10, 3) := by decide +kernel
theorem d_G_road_7 : decode b_G_road 7 = .ok (.iload_n 2, 1) := by decide +kernel
theorem d_G_road_8 : decode b_G_road 8 = .ok (.invokestatic 62, 3) := by decide +kernel
theorem d_G_road_11 : decode b_G_road 11 = .ok (.ifCond .ne 13, 3) := by decide +kernel
theorem d_G_road_14 : decode b_G_road 14 = .ok (.new 66, 3) := by decide +kernel
theorem d_G_road_17 : decode b_G_road 17 = .ok (.dup, 1) := by decide +kernel
theorem d_G_road_18 : decode b_G_road 18 = .ok (.ldc 68, 2) := by decide +kernel
theorem d_G_road_20 : decode b_G_road 20 = .ok (.invokespecial 70, 3) := by decide +kernel
theorem d_G_road_23 : decode b_G_road 23 = .ok (.athrow, 1) := by decide +kernel
theorem d_G_road_24 : decode b_G_road 24 = .ok (.iload_n 1, 1) := by decide +kernel
theorem d_G_road_25 : decode b_G_road 25 = .ok (.iload_n 2, 1) := by decide +kernel
theorem d_G_road_26 : decode b_G_road 26 = .ok (.if_icmp .ne 13, 3) := by decide +kernel
theorem d_G_road_29 : decode b_G_road 29 = .ok (.new 73, 3) := by decide +kernel
theorem d_G_road_32 : decode b_G_road 32 = .ok (.dup, 1) := by decide +kernel
theorem d_G_road_33 : decode b_G_road 33 = .ok (.ldc 75, 2) := by decide +kernel
theorem d_G_road_35 : decode b_G_road 35 = .ok (.invokespecial 77, 3) := by decide +kernel
theorem d_G_road_38 : decode b_G_road 38 = .ok (.athrow, 1) := by decide +kernel
theorem d_G_road_39 : decode b_G_road 39 = .ok (.iload_n 3, 1) := by decide +kernel
theorem d_G_road_40 : decode b_G_road 40 = .ok (.iconst 1, 1) := by decide +kernel
theorem d_G_road_41 : decode b_G_road 41 = .ok (.bipush 6, 2) := by decide +kernel
theorem d_G_road_43 : decode b_G_road 43 = .ok (.invokestatic 78, 3) := by decide +kernel
theorem d_G_road_46 : decode b_G_road 46 = .ok (.ifCond .eq 34, 3) := by decide +kernel
theorem d_G_road_49 : decode b_G_road 49 = .ok (.iload 4, 2) := by decide +kernel
theorem d_G_road_51 : decode b_G_road 51 = .ok (.iconst 0, 1) := by decide +kernel
theorem d_G_road_52 : decode b_G_road 52 = .ok (.iconst 2, 1) := by decide +kernel
theorem d_G_road_53 : decode b_G_road 53 = .ok (.invokestatic 78, 3) := by decide +kernel
theorem d_G_road_56 : decode b_G_road 56 = .ok (.ifCond .eq 24, 3) := by decide +kernel
theorem d_G_road_59 : decode b_G_road 59 = .ok (.iload 5, 2) := by decide +kernel
theorem d_G_road_61 : decode b_G_road 61 = .ok (.iconst 0, 1) := by decide +kernel
theorem d_G_road_62 : decode b_G_road 62 = .ok (.bipush 9, 2) := by decide +kernel
theorem d_G_road_64 : decode b_G_road 64 = .ok (.invokestatic 78, 3) := by decide +kernel
theorem d_G_road_67 : decode b_G_road 67 = .ok (.ifCond .eq 13, 3) := by decide +kernel
theorem d_G_road_70 : decode b_G_road 70 = .ok (.iload 6, 2) := by decide +kernel
theorem d_G_road_72 : decode b_G_road 72 = .ok (.iconst 0, 1) := by decide +kernel
theorem d_G_road_73 : decode b_G_road 73 = .ok (.iconst 2, 1) := by decide +kernel
theorem d_G_road_74 : decode b_G_road 74 = .ok (.invokestatic 78, 3) := by decide +kernel
theorem d_G_road_77 : decode b_G_road 77 = .ok (.ifCond .ne 13, 3) := by decide +kernel
theorem d_G_road_80 : decode b_G_road 80 = .ok (.new 73, 3) := by decide +kernel
theorem d_G_road_83 : decode b_G_road 83 = .ok (.dup, 1) := by decide +kernel
theorem d_G_road_84 : decode b_G_road 84 = .ok (.ldc 82, 2) := by decide +kernel
theorem d_G_road_86 : decode b_G_road 86 = .ok (.invokespecial 77, 3) := by decide +kernel
theorem d_G_road_89 : decode b_G_road 89 = .ok (.athrow, 1) := by decide +kernel
theorem d_G_road_90 : decode b_G_road 90 = .ok (.aload_n 0, 1) := by decide +kernel
theorem d_G_road_91 : decode b_G_road 91 = .ok (.getfield 84, 3) := by decide +kernel
theorem d_G_road_94 : decode b_G_road 94 = .ok (.istore 8, 2) := by decide +kernel
theorem d_G_road_96 : decode b_G_road 96 = .ok (.iload 8, 2) := by decide +kernel
theorem d_G_road_98 : decode b_G_road 98 = .ok (.aload_n 0, 1) := by decide +kernel
theorem d_G_road_99 : decode b_G_road 99 = .ok (.getfield 11, 3) := by decide +kernel
theorem d_G_road_102 : decode b_G_road 102 = .ok (.arraylength, 1) := by decide +kernel
theorem d_G_road_103 : decode b_G_road 103 = .ok (.if_icmp .lt 13, 3) := by decide +kernel
theorem d_G_road_106 : decode b_G_road 106 = .ok (.new 87, 3) := by decide +kernel
theorem d_G_road_109 : decode b_G_road 109 = .ok (.dup, 1) := by decide +kernel
theorem d_G_road_110 : decode b_G_road 110 = .ok (.ldc 89, 2) := by decide +kernel
theorem d_G_road_112 : decode b_G_road 112 = .ok (.invokespecial 91, 3) := by decide +kernel
theorem d_G_road_115 : decode b_G_road 115 = .ok (.athrow, 1) := by decide +kernel
theorem d_G_road_116 : decode b_G_road 116 = .ok (.aload_n 0, 1) := by decide +kernel
theorem d_G_road_117 : decode b_G_road 117 = .ok (.getfield 11, 3) := by decide +kernel
theorem d_G_road_120 : decode b_G_road 120 = .ok (.iload 8, 2) := by decide +kernel
theorem d_G_road_122 : decode b_G_road 122 = .ok (.new 9, 3) := by decide +kernel
theorem d_G_road_125 : decode b_G_road 125 = .ok (.dup, 1) := by decide +kernel
theorem d_G_road_126 : decode b_G_road 126 = .ok (.iload_n 1, 1) := by decide +kernel
theorem d_G_road_127 : decode b_G_road 127 = .ok (.iload_n 2, 1) := by decide +kernel
theorem d_G_road_128 : decode b_G_road 128 = .ok (.iload_n 3, 1) := by decide +kernel
theorem d_G_road_129 : decode b_G_road 129 = .ok (.iload 4, 2) := by decide +kernel
theorem d_G_road_131 : decode b_G_road 131 = .ok (.iload 5, 2) := by decide +kernel
theorem d_G_road_133 : decode b_G_road 133 = .ok (.iload 6, 2) := by decide +kernel
theorem d_G_road_135 : decode b_G_road 135 = .ok (.iload 7, 2) := by decide +kernel
theorem d_G_road_137 : decode b_G_road 137 = .ok (.invokespecial 92, 3) := by decide +kernel
theorem d_G_road_140 : decode b_G_road 140 = .ok (.aastore, 1) := by decide +kernel
theorem d_G_road_141 : decode b_G_road 141 = .ok (.aload_n 0, 1) := by decide +kernel
theorem d_G_road_142 : decode b_G_road 142 = .ok (.iload 8, 2) := by decide +kernel
theorem d_G_road_144 : decode b_G_road 144 = .ok (.iconst 1, 1) := by decide +kernel
theorem d_G_road_145 : decode b_G_road 145 = .ok (.iadd, 1) := by decide +kernel
theorem d_G_road_146 : decode b_G_road 146 = .ok (.putfield 84, 3) := by decide +kernel
theorem d_G_road_149 : decode b_G_road 149 = .ok (.iload 8, 2) := by decide +kernel
theorem d_G_road_151 : decode b_G_road 151 = .ok (.ireturn, 1) := by decide +kernel
theorem d_G_air_0 : decode b_G_air 0 = .ok (.iload_n 1, 1) := by decide +kernel
theorem d_G_air_1 : decode b_G_air 1 = .ok (.invokestatic 95, 3) := by decide +kernel
theorem d_G_air_4 : decode b_G_air 4 = .ok (.ifCond .ne 13, 3) := by decide +kernel
theorem d_G_air_7 : decode b_G_air 7 = .ok (.new 73, 3) := by decide +kernel
theorem d_G_air_10 : decode b_G_air 10 = .ok (.dup, 1) := by decide +kernel
theorem d_G_air_11 : decode b_G_air 11 = .ok (.ldc 98, 2) := by decide +kernel
theorem d_G_air_13 : decode b_G_air 13 = .ok (.invokespecial 77, 3) := by decide +kernel
theorem d_G_air_16 : decode b_G_air 16 = .ok (.athrow, 1) := by decide +kernel
theorem d_G_air_17 : decode b_G_air 17 = .ok (.aload_n 0, 1) := by decide +kernel
theorem d_G_air_18 : decode b_G_air 18 = .ok (.getfield 36, 3) := by decide +kernel
theorem d_G_air_21 : decode b_G_air 21 = .ok (.getfield 100, 3) := by decide +kernel
theorem d_G_air_24 : decode b_G_air 24 = .ok (.istore_n 3, 1) := by decide +kernel
theorem d_G_air_25 : decode b_G_air 25 = .ok (.aload_n 0, 1) := by decide +kernel
theorem d_G_air_26 : decode b_G_air 26 = .ok (.getfield 36, 3) := by decide +kernel
theorem d_G_air_29 : decode b_G_air 29 = .ok (.iload_n 1, 1) := by decide +kernel
theorem d_G_air_30 : decode b_G_air 30 = .ok (.putfield 100, 3) := by decide +kernel
theorem d_G_air_33 : decode b_G_air 33 = .ok (.aload_n 0, 1) := by decide +kernel
theorem d_G_air_34 : decode b_G_air 34 = .ok (.getfield 36, 3) := by decide +kernel
theorem d_G_air_37 : decode b_G_air 37 = .ok (.iload_n 2, 1) := by decide +kernel
theorem d_G_air_38 : decode b_G_air 38 = .ok (.putfield 103, 3) := by decide +kernel
theorem d_G_air_41 : decode b_G_air 41 = .ok (.iload_n 3, 1) := by decide +kernel
theorem d_G_air_42 : decode b_G_air 42 = .ok (.ireturn, 1) := by decide +kernel
theorem d_G_fall_0 : decode b_G_fall 0 = .ok (.iload_n 1, 1) := by decide +kernel
theorem d_G_fall_1 : decode b_G_fall 1 = .ok (.iconst 0, 1) := by decide +kernel
theorem d_G_fall_2 : decode b_G_fall 2 = .ok (.iconst 3, 1) := by decide +kernel
theorem d_G_fall_3 : decode b_G_fall 3 = .ok (.invokestatic 78, 3) := by decide +kernel
theorem d_G_fall_6 : decode b_G_fall 6 = .ok (.ifCond .eq 21, 3) := by decide +kernel
theorem d_G_fall_9 : decode b_G_fall 9 = .ok (.iload_n 2, 1) := by decide +kernel
theorem d_G_fall_10 : decode b_G_fall 10 = .ok (.iconst 0, 1) := by decide +kernel
theorem d_G_fall_11 : decode b_G_fall 11 = .ok (.iconst 3, 1) := by decide +kernel
theorem d_G_fall_12 : decode b_G_fall 12 = .ok (.invokestatic 78, 3) := by decide +kernel
theorem d_G_fall_15 : decode b_G_fall 15 = .ok (.ifCond .eq 12, 3) := by decide +kernel
theorem d_G_fall_18 : decode b_G_fall 18 = .ok (.iload_n 3, 1) := by decide +kernel
theorem d_G_fall_19 : decode b_G_fall 19 = .ok (.iconst 0, 1) := by decide +kernel
theorem d_G_fall_20 : decode b_G_fall 20 = .ok (.iconst 3, 1) := by decide +kernel
theorem d_G_fall_21 : decode b_G_fall 21 = .ok (.invokestatic 78, 3) := by decide +kernel
theorem d_G_fall_24 : decode b_G_fall 24 = .ok (.ifCond .ne 13, 3) := by decide +kernel
theorem d_G_fall_27 : decode b_G_fall 27 = .ok (.new 73, 3) := by decide +kernel
theorem d_G_fall_30 : decode b_G_fall 30 = .ok (.dup, 1) := by decide +kernel
theorem d_G_fall_31 : decode b_G_fall 31 = .ok (.ldc 107, 2) := by decide +kernel
theorem d_G_fall_33 : decode b_G_fall 33 = .ok (.invokespecial 77, 3) := by decide +kernel
theorem d_G_fall_36 : decode b_G_fall 36 = .ok (.athrow, 1) := by decide +kernel
theorem d_G_fall_37 : decode b_G_fall 37 = .ok (.aload_n 0, 1) := by decide +kernel
theorem d_G_fall_38 : decode b_G_fall 38 = .ok (.getfield 36, 3) := by decide +kernel
theorem d_G_fall_41 : decode b_G_fall 41 = .ok (.getfield 109, 3) := by decide +kernel
theorem d_G_fall_44 : decode b_G_fall 44 = .ok (.istore 4, 2) := by decide +kernel
theorem d_G_fall_46 : decode b_G_fall 46 = .ok (.aload_n 0, 1) := by decide +kernel
theorem d_G_fall_47 : decode b_G_fall 47 = .ok (.getfield 36, 3) := by decide +kernel
theorem d_G_fall_50 : decode b_G_fall 50 = .ok (.iload_n 1, 1) := by decide +kernel
theorem d_G_fall_51 : decode b_G_fall 51 = .ok (.putfield 112, 3) := by decide +kernel
theorem d_G_fall_54 : decode b_G_fall 54 = .ok (.aload_n 0, 1) := by decide +kernel
theorem d_G_fall_55 : decode b_G_fall 55 = .ok (.getfield 36, 3) := by decide +kernel
theorem d_G_fall_58 : decode b_G_fall 58 = .ok (.iload_n 2, 1) := by decide +kernel
theorem d_G_fall_59 : decode b_G_fall 59 = .ok (.putfield 115, 3) := by decide +kernel
theorem d_G_fall_62 : decode b_G_fall 62 = .ok (.aload_n 0, 1) := by decide +kernel
theorem d_G_fall_63 : decode b_G_fall 63 = .ok (.getfield 36, 3) := by decide +kernel
theorem d_G_fall_66 : decode b_G_fall 66 = .ok (.iload_n 3, 1) := by decide +kernel
theorem d_G_fall_67 : decode b_G_fall 67 = .ok (.putfield 109, 3) := by decide +kernel
theorem d_G_fall_70 : decode b_G_fall 70 = .ok (.iload 4, 2) := by decide +kernel
theorem d_G_fall_72 : decode b_G_fall 72 = .ok (.ireturn, 1) := by decide +kernel
theorem d_G_forecast_0 : decode b_G_forecast 0 = .ok (.iload_n 1, 1) := by decide +kernel
theorem d_G_forecast_1 : decode b_G_forecast 1 = .ok (.iconst 1, 1) := by decide +kernel
theorem d_G_forecast_2 : decode b_G_forecast 2 = .ok (.bipush 48, 2) := by decide +kernel
theorem d_G_forecast_4 : decode b_G_forecast 4 = .ok (.invokestatic 78, 3) := by decide +kernel
theorem d_G_forecast_7 : decode b_G_forecast 7 = .ok (.ifCond .ne 13, 3) := by decide +kernel
theorem d_G_forecast_10 : decode b_G_forecast 10 = .ok (.new 73, 3) := by decide +kernel
theorem d_G_forecast_13 : decode b_G_forecast 13 = .ok (.dup, 1) := by decide +kernel
theorem d_G_forecast_14 : decode b_G_forecast 14 = .ok (.ldc 118, 2) := by decide +kernel
theorem d_G_forecast_16 : decode b_G_forecast 16 = .ok (.invokespecial 77, 3) := by decide +kernel
theorem d_G_forecast_19 : decode b_G_forecast 19 = .ok (.athrow, 1) := by decide +kernel
theorem d_G_forecast_20 : decode b_G_forecast 20 = .ok (.iload_n 2, 1) := by decide +kernel
theorem d_G_forecast_21 : decode b_G_forecast 21 = .ok (.invokestatic 95, 3) := by decide +kernel
theorem d_G_forecast_24 : decode b_G_forecast 24 = .ok (.ifCond .eq 18, 3) := by decide +kernel
theorem d_G_forecast_27 : decode b_G_forecast 27 = .ok (.iload_n 3, 1) := by decide +kernel
theorem d_G_forecast_28 : decode b_G_forecast 28 = .ok (.invokestatic 95, 3) := by decide +kernel
theorem d_G_forecast_31 : decode b_G_forecast 31 = .ok (.ifCond .eq 11, 3) := by decide +kernel
theorem d_G_forecast_34 : decode b_G_forecast 34 = .ok (.iload 4, 2) := by decide +kernel
theorem d_G_forecast_36 : decode b_G_forecast 36 = .ok (.invokestatic 95, 3) := by decide +kernel
theorem d_G_forecast_39 : decode b_G_forecast 39 = .ok (.ifCond .ne 13, 3) := by decide +kernel
theorem d_G_forecast_42 : decode b_G_forecast 42 = .ok (.new 73, 3) := by decide +kernel
theorem d_G_forecast_45 : decode b_G_forecast 45 = .ok (.dup, 1) := by decide +kernel
theorem d_G_forecast_46 : decode b_G_forecast 46 = .ok (.ldc 120, 2) := by decide +kernel
theorem d_G_forecast_48 : decode b_G_forecast 48 = .ok (.invokespecial 77, 3) := by decide +kernel
theorem d_G_forecast_51 : decode b_G_forecast 51 = .ok (.athrow, 1) := by decide +kernel
theorem d_G_forecast_52 : decode b_G_forecast 52 = .ok (.aload_n 0, 1) := by decide +kernel
theorem d_G_forecast_53 : decode b_G_forecast 53 = .ok (.getfield 122, 3) := by decide +kernel
theorem d_G_forecast_56 : decode b_G_forecast 56 = .ok (.aload_n 0, 1) := by decide +kernel
theorem d_G_forecast_57 : decode b_G_forecast 57 = .ok (.getfield 23, 3) := by decide +kernel
theorem d_G_forecast_60 : decode b_G_forecast 60 = .ok (.arraylength, 1) := by decide +kernel
theorem d_G_forecast_61 : decode b_G_forecast 61 = .ok (.if_icmp .lt 13, 3) := by decide +kernel
theorem d_G_forecast_64 : decode b_G_forecast 64 = .ok (.new 87, 3) := by decide +kernel
theorem d_G_forecast_67 : decode b_G_forecast 67 = .ok (.dup, 1) := by decide +kernel
theorem d_G_forecast_68 : decode b_G_forecast 68 = .ok (.ldc 125, 2) := by decide +kernel
theorem d_G_forecast_70 : decode b_G_forecast 70 = .ok (.invokespecial 91, 3) := by decide +kernel
theorem d_G_forecast_73 : decode b_G_forecast 73 = .ok (.athrow, 1) := by decide +kernel
theorem d_G_forecast_74 : decode b_G_forecast 74 = .ok (.new 21, 3) := by decide +kernel
theorem d_G_forecast_77 : decode b_G_forecast 77 = .ok (.dup, 1) := by decide +kernel
theorem d_G_forecast_78 : decode b_G_forecast 78 = .ok (.aload_n 0, 1) := by decide +kernel
theorem d_G_forecast_79 : decode b_G_forecast 79 = .ok (.getfield 127, 3) := by decide +kernel
theorem d_G_forecast_82 : decode b_G_forecast 82 = .ok (.aload_n 0, 1) := by decide +kernel
theorem d_G_forecast_83 : decode b_G_forecast 83 = .ok (.getfield 127, 3) := by decide +kernel
theorem d_G_forecast_86 : decode b_G_forecast 86 = .ok (.iload_n 1, 1) := by decide +kernel
theorem d_G_forecast_87 : decode b_G_forecast 87 = .ok (.iadd, 1) := by decide +kernel
theorem d_G_forecast_88 : decode b_G_forecast 88 = .ok (.aload_n 0, 1) := by decide +kernel
theorem d_G_forecast_89 : decode b_G_forecast 89 = .ok (.getfield 58, 3) := by decide +kernel
theorem d_G_forecast_92 : decode b_G_forecast 92 = .ok (.aload_n 0, 1) := by decide +kernel
theorem d_G_forecast_93 : decode b_G_forecast 93 = .ok (.invokevirtual 130, 3) := by decide +kernel
theorem d_G_forecast_96 : decode b_G_forecast 96 = .ok (.iadd, 1) := by decide +kernel
theorem d_G_forecast_97 : decode b_G_forecast 97 = .ok (.invokespecial 134, 3) := by decide +kernel
theorem d_G_forecast_100 : decode b_G_forecast 100 = .ok (.astore 6, 2) := by decide +kernel
theorem d_G_forecast_102 : decode b_G_forecast 102 = .ok (.aload 6, 2) := by decide +kernel
theorem d_G_forecast_104 : decode b_G_forecast 104 = .ok (.iload_n 2, 1) := by decide +kernel
theorem d_G_forecast_105 : decode b_G_forecast 105 = .ok (.iload_n 3, 1) := by decide +kernel
theorem d_G_forecast_106 : decode b_G_forecast 106 = .ok (.iload 4, 2) := by decide +kernel
theorem d_G_forecast_108 : decode b_G_forecast 108 = .ok (.iload 5, 2) := by decide +kernel
theorem d_G_forecast_110 : decode b_G_forecast 110 = .ok (.invokevirtual 137, 3) := by decide +kernel
theorem d_G_forecast_113 : decode b_G_forecast 113 = .ok (.aload_n 0, 1) := by decide +kernel
theorem d_G_forecast_114 : decode b_G_forecast 114 = .ok (.getfield 23, 3) := by decide +kernel
theorem d_G_forecast_117 : decode b_G_forecast 117 = .ok (.aload_n 0, 1) := by decide +kernel
theorem d_G_forecast_118 : decode b_G_forecast 118 = .ok (.getfield 122, 3) := by decide +kernel
theorem d_G_forecast_121 : decode b_G_forecast 121 = .ok (.aload 6, 2) := by decide +kernel
theorem d_G_forecast_123 : decode b_G_forecast 123 = .ok (.aastore, 1) := by decide +kernel
theorem d_G_forecast_124 : decode b_G_forecast 124 = .ok (.aload_n 0, 1) := by decide +kernel
theorem d_G_forecast_125 : decode b_G_forecast 125 = .ok (.dup, 1) := by decide +kernel
theorem d_G_forecast_126 : decode b_G_forecast 126 = .ok (.getfield 122, 3) := by decide +kernel
theorem d_G_forecast_129 : decode b_G_forecast 129 = .ok (.iconst 1, 1) := by decide +kernel
theorem d_G_forecast_130 : decode b_G_forecast 130 = .ok (.iadd, 1) := by decide +kernel
theorem d_G_forecast_131 : decode b_G_forecast 131 = .ok (.putfield 122, 3) := by decide +kernel
theorem d_G_forecast_134 : decode b_G_forecast 134 = .ok (.aload_n 0, 1) := by decide +kernel
theorem d_G_forecast_135 : decode b_G_forecast 135 = .ok (.aload 6, 2) := by decide +kernel
theorem d_G_forecast_137 : decode b_G_forecast 137 = .ok (.invokevirtual 141, 3) := by decide +kernel
theorem d_G_forecast_140 : decode b_G_forecast 140 = .ok (.ireturn, 1) := by decide +kernel
theorem d_G_pass_0 : decode b_G_pass 0 = .ok (.iload_n 1, 1) := by decide +kernel
theorem d_G_pass_1 : decode b_G_pass 1 = .ok (.iconst 1, 1) := by decide +kernel
theorem d_G_pass_2 : decode b_G_pass 2 = .ok (.bipush 20, 2) := by decide +kernel
theorem d_G_pass_4 : decode b_G_pass 4 = .ok (.invokestatic 78, 3) := by decide +kernel
theorem d_G_pass_7 : decode b_G_pass 7 = .ok (.ifCond .ne 13, 3) := by decide +kernel
theorem d_G_pass_10 : decode b_G_pass 10 = .ok (.new 73, 3) := by decide +kernel
theorem d_G_pass_13 : decode b_G_pass 13 = .ok (.dup, 1) := by decide +kernel
theorem d_G_pass_14 : decode b_G_pass 14 = .ok (.ldc 145, 2) := by decide +kernel
theorem d_G_pass_16 : decode b_G_pass 16 = .ok (.invokespecial 77, 3) := by decide +kernel
theorem d_G_pass_19 : decode b_G_pass 19 = .ok (.athrow, 1) := by decide +kernel
theorem d_G_pass_20 : decode b_G_pass 20 = .ok (.aload_n 0, 1) := by decide +kernel
theorem d_G_pass_21 : decode b_G_pass 21 = .ok (.getfield 127, 3) := by decide +kernel
theorem d_G_pass_24 : decode b_G_pass 24 = .ok (.iload_n 1, 1) := by decide +kernel
theorem d_G_pass_25 : decode b_G_pass 25 = .ok (.iadd, 1) := by decide +kernel
theorem d_G_pass_26 : decode b_G_pass 26 = .ok (.sipush 199, 3) := by decide +kernel
theorem d_G_pass_29 : decode b_G_pass 29 = .ok (.if_icmp .le 13, 3) := by decide +kernel
theorem d_G_pass_32 : decode b_G_pass 32 = .ok (.new 87, 3) := by decide +kernel
theorem d_G_pass_35 : decode b_G_pass 35 = .ok (.dup, 1) := by decide +kernel
theorem d_G_pass_36 : decode b_G_pass 36 = .ok (.ldc 147, 2) := by decide +kernel
theorem d_G_pass_38 : decode b_G_pass 38 = .ok (.invokespecial 91, 3) := by decide +kernel
theorem d_G_pass_41 : decode b_G_pass 41 = .ok (.athrow, 1) := by decide +kernel
theorem d_G_pass_42 : decode b_G_pass 42 = .ok (.iconst 0, 1) := by decide +kernel
theorem d_G_pass_43 : decode b_G_pass 43 = .ok (.istore_n 2, 1) := by decide +kernel
theorem d_G_pass_44 : decode b_G_pass 44 = .ok (.iconst 0, 1) := by decide +kernel
theorem d_G_pass_45 : decode b_G_pass 45 = .ok (.istore_n 3, 1) := by decide +kernel
theorem d_G_pass_46 : decode b_G_pass 46 = .ok (.iload_n 3, 1) := by decide +kernel
theorem d_G_pass_47 : decode b_G_pass 47 = .ok (.iload_n 1, 1) := by decide +kernel
theorem d_G_pass_48 : decode b_G_pass 48 = .ok (.if_icmp .ge 20, 3) := by decide +kernel
theorem d_G_pass_51 : decode b_G_pass 51 = .ok (.aload_n 0, 1) := by decide +kernel
theorem d_G_pass_52 : decode b_G_pass 52 = .ok (.invokevirtual 149, 3) := by decide +kernel
theorem d_G_pass_55 : decode b_G_pass 55 = .ok (.iload_n 2, 1) := by decide +kernel
theorem d_G_pass_56 : decode b_G_pass 56 = .ok (.aload_n 0, 1) := by decide +kernel
theorem d_G_pass_57 : decode b_G_pass 57 = .ok (.invokevirtual 152, 3) := by decide +kernel
theorem d_G_pass_60 : decode b_G_pass 60 = .ok (.iadd, 1) := by decide +kernel
theorem d_G_pass_61 : decode b_G_pass 61 = .ok (.istore_n 2, 1) := by decide +kernel
theorem d_G_pass_62 : decode b_G_pass 62 = .ok (.iinc 3 1, 3) := by decide +kernel
theorem d_G_pass_65 : decode b_G_pass 65 = .ok (.goto (-19), 3) := by decide +kernel
theorem d_G_pass_68 : decode b_G_pass 68 = .ok (.iload_n 2, 1) := by decide +kernel
theorem d_G_pass_69 : decode b_G_pass 69 = .ok (.ireturn, 1) := by decide +kernel
theorem d_G_lorry_0 : decode b_G_lorry 0 = .ok (.aload_n 0, 1) := by decide +kernel
theorem d_G_lorry_1 : decode b_G_lorry 1 = .ok (.getfield 155, 3) := by decide +kernel
theorem d_G_lorry_4 : decode b_G_lorry 4 = .ok (.istore_n 2, 1) := by decide +kernel
theorem d_G_lorry_5 : decode b_G_lorry 5 = .ok (.iload_n 2, 1) := by decide +kernel
theorem d_G_lorry_6 : decode b_G_lorry 6 = .ok (.aload_n 0, 1) := by decide +kernel
theorem d_G_lorry_7 : decode b_G_lorry 7 = .ok (.getfield 17, 3) := by decide +kernel
theorem d_G_lorry_10 : decode b_G_lorry 10 = .ok (.arraylength, 1) := by decide +kernel
theorem d_G_lorry_11 : decode b_G_lorry 11 = .ok (.if_icmp .lt 13, 3) := by decide +kernel
theorem d_G_lorry_14 : decode b_G_lorry 14 = .ok (.new 87, 3) := by decide +kernel
theorem d_G_lorry_17 : decode b_G_lorry 17 = .ok (.dup, 1) := by decide +kernel
theorem d_G_lorry_18 : decode b_G_lorry 18 = .ok (.ldc 158, 2) := by decide +kernel
theorem d_G_lorry_20 : decode b_G_lorry 20 = .ok (.invokespecial 91, 3) := by decide +kernel
theorem d_G_lorry_23 : decode b_G_lorry 23 = .ok (.athrow, 1) := by decide +kernel
theorem d_G_lorry_24 : decode b_G_lorry 24 = .ok (.aload_n 0, 1) := by decide +kernel
theorem d_G_lorry_25 : decode b_G_lorry 25 = .ok (.getfield 17, 3) := by decide +kernel
theorem d_G_lorry_28 : decode b_G_lorry 28 = .ok (.iload_n 2, 1) := by decide +kernel
theorem d_G_lorry_29 : decode b_G_lorry 29 = .ok (.new 15, 3) := by decide +kernel
theorem d_G_lorry_32 : decode b_G_lorry 32 = .ok (.dup, 1) := by decide +kernel
theorem d_G_lorry_33 : decode b_G_lorry 33 = .ok (.iload_n 1, 1) := by decide +kernel
theorem d_G_lorry_34 : decode b_G_lorry 34 = .ok (.invokespecial 160, 3) := by decide +kernel
theorem d_G_lorry_37 : decode b_G_lorry 37 = .ok (.aastore, 1) := by decide +kernel
theorem d_G_lorry_38 : decode b_G_lorry 38 = .ok (.aload_n 0, 1) := by decide +kernel
theorem d_G_lorry_39 : decode b_G_lorry 39 = .ok (.iload_n 2, 1) := by decide +kernel
theorem d_G_lorry_40 : decode b_G_lorry 40 = .ok (.iconst 1, 1) := by decide +kernel
theorem d_G_lorry_41 : decode b_G_lorry 41 = .ok (.iadd, 1) := by decide +kernel
theorem d_G_lorry_42 : decode b_G_lorry 42 = .ok (.putfield 155, 3) := by decide +kernel
theorem d_G_lorry_45 : decode b_G_lorry 45 = .ok (.iload_n 2, 1) := by decide +kernel
theorem d_G_lorry_46 : decode b_G_lorry 46 = .ok (.ireturn, 1) := by decide +kernel
theorem d_G_rate_0 : decode b_G_rate 0 = .ok (.aload_n 0, 1) := by decide +kernel
theorem d_G_rate_1 : decode b_G_rate 1 = .ok (.iload_n 1, 1) := by decide +kernel
theorem d_G_rate_2 : decode b_G_rate 2 = .ok (.invokevirtual 163, 3) := by decide +kernel
theorem d_G_rate_5 : decode b_G_rate 5 = .ok (.astore_n 3, 1) := by decide +kernel
theorem d_G_rate_6 : decode b_G_rate 6 = .ok (.aload_n 3, 1) := by decide +kernel
theorem d_G_rate_7 : decode b_G_rate 7 = .ok (.ifnonnull 13, 3) := by decide +kernel
theorem d_G_rate_10 : decode b_G_rate 10 = .ok (.new 66, 3) := by decide +kernel
theorem d_G_rate_13 : decode b_G_rate 13 = .ok (.dup, 1) := by decide +kernel
theorem d_G_rate_14 : decode b_G_rate 14 = .ok (.ldc 167, 2) := by decide +kernel
theorem d_G_rate_16 : decode b_G_rate 16 = .ok (.invokespecial 70, 3) := by decide +kernel
theorem d_G_rate_19 : decode b_G_rate 19 = .ok (.athrow, 1) := by decide +kernel
theorem d_G_rate_20 : decode b_G_rate 20 = .ok (.iload_n 2, 1) := by decide +kernel
theorem d_G_rate_21 : decode b_G_rate 21 = .ok (.iconst 0, 1) := by decide +kernel
theorem d_G_rate_22 : decode b_G_rate 22 = .ok (.bipush 9, 2) := by decide +kernel
theorem d_G_rate_24 : decode b_G_rate 24 = .ok (.invokestatic 78, 3) := by decide +kernel
theorem d_G_rate_27 : decode b_G_rate 27 = .ok (.ifCond .ne 13, 3) := by decide +kernel
theorem d_G_rate_30 : decode b_G_rate 30 = .ok (.new 73, 3) := by decide +kernel
theorem d_G_rate_33 : decode b_G_rate 33 = .ok (.dup, 1) := by decide +kernel
theorem d_G_rate_34 : decode b_G_rate 34 = .ok (.ldc 169, 2) := by decide +kernel
theorem d_G_rate_36 : decode b_G_rate 36 = .ok (.invokespecial 77, 3) := by decide +kernel
theorem d_G_rate_39 : decode b_G_rate 39 = .ok (.athrow, 1) := by decide +kernel
theorem d_G_rate_40 : decode b_G_rate 40 = .ok (.aload_n 3, 1) := by decide +kernel
theorem d_G_rate_41 : decode b_G_rate 41 = .ok (.getfield 171, 3) := by decide +kernel
theorem d_G_rate_44 : decode b_G_rate 44 = .ok (.istore 4, 2) := by decide +kernel
theorem d_G_rate_46 : decode b_G_rate 46 = .ok (.aload_n 3, 1) := by decide +kernel
theorem d_G_rate_47 : decode b_G_rate 47 = .ok (.iload_n 2, 1) := by decide +kernel
theorem d_G_rate_48 : decode b_G_rate 48 = .ok (.putfield 171, 3) := by decide +kernel
theorem d_G_rate_51 : decode b_G_rate 51 = .ok (.iload 4, 2) := by decide +kernel
theorem d_G_rate_53 : decode b_G_rate 53 = .ok (.ireturn, 1) := by decide +kernel
theorem d_G_order_0 : decode b_G_order 0 = .ok (.aload_n 0, 1) := by decide +kernel
theorem d_G_order_1 : decode b_G_order 1 = .ok (.iload_n 1, 1) := by decide +kernel
theorem d_G_order_2 : decode b_G_order 2 = .ok (.invokevirtual 163, 3) := by decide +kernel
theorem d_G_order_5 : decode b_G_order 5 = .ok (.astore_n 3, 1) := by decide +kernel
theorem d_G_order_6 : decode b_G_order 6 = .ok (.aload_n 3, 1) := by decide +kernel
theorem d_G_order_7 : decode b_G_order 7 = .ok (.ifnull 11, 3) := by decide +kernel
theorem d_G_order_10 : decode b_G_order 10 = .ok (.aload_n 0, 1) := by decide +kernel
theorem d_G_order_11 : decode b_G_order 11 = .ok (.iload_n 2, 1) := by decide +kernel
theorem d_G_order_12 : decode b_G_order 12 = .ok (.invokevirtual 174, 3) := by decide +kernel
theorem d_G_order_15 : decode b_G_order 15 = .ok (.ifnonnull 13, 3) := by decide +kernel
theorem d_G_order_18 : decode b_G_order 18 = .ok (.new 66, 3) := by decide +kernel
theorem d_G_order_21 : decode b_G_order 21 = .ok (.dup, 1) := by decide +kernel
theorem d_G_order_22 : decode b_G_order 22 = .ok (.ldc 178, 2) := by decide +kernel
theorem d_G_order_24 : decode b_G_order 24 = .ok (.invokespecial 70, 3) := by decide +kernel
theorem d_G_order_27 : decode b_G_order 27 = .ok (.athrow, 1) := by decide +kernel
theorem d_G_order_28 : decode b_G_order 28 = .ok (.aload_n 3, 1) := by decide +kernel
theorem d_G_order_29 : decode b_G_order 29 = .ok (.getfield 180, 3) := by decide +kernel
theorem d_G_order_32 : decode b_G_order 32 = .ok (.bipush 8, 2) := by decide +kernel
theorem d_G_order_34 : decode b_G_order 34 = .ok (.if_icmp .lt 13, 3) := by decide +kernel
theorem d_G_order_37 : decode b_G_order 37 = .ok (.new 87, 3) := by decide +kernel
theorem d_G_order_40 : decode b_G_order 40 = .ok (.dup, 1) := by decide +kernel
theorem d_G_order_41 : decode b_G_order 41 = .ok (.ldc 183, 2) := by decide +kernel
theorem d_G_order_43 : decode b_G_order 43 = .ok (.invokespecial 91, 3) := by decide +kernel
theorem d_G_order_46 : decode b_G_order 46 = .ok (.athrow, 1) := by decide +kernel
theorem d_G_order_47 : decode b_G_order 47 = .ok (.aload_n 3, 1) := by decide +kernel
theorem d_G_order_48 : decode b_G_order 48 = .ok (.iload_n 2, 1) := by decide +kernel
theorem d_G_order_49 : decode b_G_order 49 = .ok (.invokevirtual 185, 3) := by decide +kernel
theorem d_G_order_52 : decode b_G_order 52 = .ok (.aload_n 3, 1) := by decide +kernel
theorem d_G_order_53 : decode b_G_order 53 = .ok (.getfield 180, 3) := by decide +kernel
theorem d_G_order_56 : decode b_G_order 56 = .ok (.ireturn, 1) := by decide +kernel
theorem d_G_load_0 : decode b_G_load 0 = .ok (.aload_n 0, 1) := by decide +kernel
theorem d_G_load_1 : decode b_G_load 1 = .ok (.iload_n 1, 1) := by decide +kernel
theorem d_G_load_2 : decode b_G_load 2 = .ok (.invokevirtual 163, 3) := by decide +kernel
theorem d_G_load_5 : decode b_G_load 5 = .ok (.astore_n 2, 1) := by decide +kernel
theorem d_G_load_6 : decode b_G_load 6 = .ok (.aload_n 2, 1) := by decide +kernel
theorem d_G_load_7 : decode b_G_load 7 = .ok (.ifnonnull 13, 3) := by decide +kernel
theorem d_G_load_10 : decode b_G_load 10 = .ok (.new 66, 3) := by decide +kernel
theorem d_G_load_13 : decode b_G_load 13 = .ok (.dup, 1) := by decide +kernel
theorem d_G_load_14 : decode b_G_load 14 = .ok (.ldc 167, 2) := by decide +kernel
theorem d_G_load_16 : decode b_G_load 16 = .ok (.invokespecial 70, 3) := by decide +kernel
theorem d_G_load_19 : decode b_G_load 19 = .ok (.athrow, 1) := by decide +kernel
theorem d_G_load_20 : decode b_G_load 20 = .ok (.aload_n 2, 1) := by decide +kernel
theorem d_G_load_21 : decode b_G_load 21 = .ok (.getfield 189, 3) := by decide +kernel
theorem d_G_load_24 : decode b_G_load 24 = .ok (.ifCond .eq 13, 3) := by decide +kernel
theorem d_G_load_27 : decode b_G_load 27 = .ok (.new 87, 3) := by decide +kernel
theorem d_G_load_30 : decode b_G_load 30 = .ok (.dup, 1) := by decide +kernel
theorem d_G_load_31 : decode b_G_load 31 = .ok (.ldc 192, 2) := by decide +kernel
theorem d_G_load_33 : decode b_G_load 33 = .ok (.invokespecial 91, 3) := by decide +kernel
theorem d_G_load_36 : decode b_G_load 36 = .ok (.athrow, 1) := by decide +kernel
theorem d_G_load_37 : decode b_G_load 37 = .ok (.bipush 90, 2) := by decide +kernel
theorem d_G_load_39 : decode b_G_load 39 = .ok (.aload_n 2, 1) := by decide +kernel
theorem d_G_load_40 : decode b_G_load 40 = .ok (.getfield 194, 3) := by decide +kernel
theorem d_G_load_43 : decode b_G_load 43 = .ok (.isub, 1) := by decide +kernel
theorem d_G_load_44 : decode b_G_load 44 = .ok (.aload_n 0, 1) := by decide +kernel
theorem d_G_load_45 : decode b_G_load 45 = .ok (.getfield 58, 3) := by decide +kernel
theorem d_G_load_48 : decode b_G_load 48 = .ok (.invokestatic 197, 3) := by decide +kernel
theorem d_G_load_51 : decode b_G_load 51 = .ok (.istore_n 3, 1) := by decide +kernel
theorem d_G_load_52 : decode b_G_load 52 = .ok (.aload_n 2, 1) := by decide +kernel
theorem d_G_load_53 : decode b_G_load 53 = .ok (.dup, 1) := by decide +kernel
theorem d_G_load_54 : decode b_G_load 54 = .ok (.getfield 194, 3) := by decide +kernel
theorem d_G_load_57 : decode b_G_load 57 = .ok (.iload_n 3, 1) := by decide +kernel
theorem d_G_load_58 : decode b_G_load 58 = .ok (.iadd, 1) := by decide +kernel
theorem d_G_load_59 : decode b_G_load 59 = .ok (.putfield 194, 3) := by decide +kernel
theorem d_G_load_62 : decode b_G_load 62 = .ok (.aload_n 0, 1) := by decide +kernel
theorem d_G_load_63 : decode b_G_load 63 = .ok (.dup, 1) := by decide +kernel
theorem d_G_load_64 : decode b_G_load 64 = .ok (.getfield 58, 3) := by decide +kernel
theorem d_G_load_67 : decode b_G_load 67 = .ok (.iload_n 3, 1) := by decide +kernel
theorem d_G_load_68 : decode b_G_load 68 = .ok (.isub, 1) := by decide +kernel
theorem d_G_load_69 : decode b_G_load 69 = .ok (.putfield 58, 3) := by decide +kernel
theorem d_G_load_72 : decode b_G_load 72 = .ok (.iload_n 3, 1) := by decide +kernel
theorem d_G_load_73 : decode b_G_load 73 = .ok (.ireturn, 1) := by decide +kernel
theorem d_G_rest_0 : decode b_G_rest 0 = .ok (.aload_n 0, 1) := by decide +kernel
theorem d_G_rest_1 : decode b_G_rest 1 = .ok (.iload_n 1, 1) := by decide +kernel
theorem d_G_rest_2 : decode b_G_rest 2 = .ok (.invokevirtual 163, 3) := by decide +kernel
theorem d_G_rest_5 : decode b_G_rest 5 = .ok (.astore_n 2, 1) := by decide +kernel
theorem d_G_rest_6 : decode b_G_rest 6 = .ok (.aload_n 2, 1) := by decide +kernel
theorem d_G_rest_7 : decode b_G_rest 7 = .ok (.ifnonnull 13, 3) := by decide +kernel
theorem d_G_rest_10 : decode b_G_rest 10 = .ok (.new 66, 3) := by decide +kernel
theorem d_G_rest_13 : decode b_G_rest 13 = .ok (.dup, 1) := by decide +kernel
theorem d_G_rest_14 : decode b_G_rest 14 = .ok (.ldc 167, 2) := by decide +kernel
theorem d_G_rest_16 : decode b_G_rest 16 = .ok (.invokespecial 70, 3) := by decide +kernel
theorem d_G_rest_19 : decode b_G_rest 19 = .ok (.athrow, 1) := by decide +kernel
theorem d_G_rest_20 : decode b_G_rest 20 = .ok (.aload_n 2, 1) := by decide +kernel
theorem d_G_rest_21 : decode b_G_rest 21 = .ok (.getfield 189, 3) := by decide +kernel
theorem d_G_rest_24 : decode b_G_rest 24 = .ok (.iconst (-1), 1) := by decide +kernel
theorem d_G_rest_25 : decode b_G_rest 25 = .ok (.if_icmp .ne 13, 3) := by decide +kernel
theorem d_G_rest_28 : decode b_G_rest 28 = .ok (.new 87, 3) := by decide +kernel
theorem d_G_rest_31 : decode b_G_rest 31 = .ok (.dup, 1) := by decide +kernel
theorem d_G_rest_32 : decode b_G_rest 32 = .ok (.ldc 203, 2) := by decide +kernel
theorem d_G_rest_34 : decode b_G_rest 34 = .ok (.invokespecial 91, 3) := by decide +kernel
theorem d_G_rest_37 : decode b_G_rest 37 = .ok (.athrow, 1) := by decide +kernel
theorem d_G_rest_38 : decode b_G_rest 38 = .ok (.aload_n 2, 1) := by decide +kernel
theorem d_G_rest_39 : decode b_G_rest 39 = .ok (.getfield 205, 3) := by decide +kernel
theorem d_G_rest_42 : decode b_G_rest 42 = .ok (.istore_n 3, 1) := by decide +kernel
theorem d_G_rest_43 : decode b_G_rest 43 = .ok (.aload_n 2, 1) := by decide +kernel
theorem d_G_rest_44 : decode b_G_rest 44 = .ok (.iconst 0, 1) := by decide +kernel
theorem d_G_rest_45 : decode b_G_rest 45 = .ok (.putfield 205, 3) := by decide +kernel
theorem d_G_rest_48 : decode b_G_rest 48 = .ok (.aload_n 2, 1) := by decide +kernel
theorem d_G_rest_49 : decode b_G_rest 49 = .ok (.iconst 0, 1) := by decide +kernel
theorem d_G_rest_50 : decode b_G_rest 50 = .ok (.putfield 180, 3) := by decide +kernel
theorem d_G_rest_53 : decode b_G_rest 53 = .ok (.iload_n 3, 1) := by decide +kernel
theorem d_G_rest_54 : decode b_G_rest 54 = .ok (.ireturn, 1) := by decide +kernel
theorem d_G_deliver_0 : decode b_G_deliver 0 = .ok (.iload_n 1, 1) := by decide +kernel
theorem d_G_deliver_1 : decode b_G_deliver 1 = .ok (.iconst 1, 1) := by decide +kernel
theorem d_G_deliver_2 : decode b_G_deliver 2 = .ok (.sipush 500, 3) := by decide +kernel
theorem d_G_deliver_5 : decode b_G_deliver 5 = .ok (.invokestatic 78, 3) := by decide +kernel
theorem d_G_deliver_8 : decode b_G_deliver 8 = .ok (.ifCond .eq 13, 3) := by decide +kernel
theorem d_G_deliver_11 : decode b_G_deliver 11 = .ok (.iload_n 2, 1) := by decide +kernel
theorem d_G_deliver_12 : decode b_G_deliver 12 = .ok (.iconst 1, 1) := by decide +kernel
theorem d_G_deliver_13 : decode b_G_deliver 13 = .ok (.bipush 96, 2) := by decide +kernel
theorem d_G_deliver_15 : decode b_G_deliver 15 = .ok (.invokestatic 78, 3) := by decide +kernel
theorem d_G_deliver_18 : decode b_G_deliver 18 = .ok (.ifCond .ne 13, 3) := by decide +kernel
theorem d_G_deliver_21 : decode b_G_deliver 21 = .ok (.new 73, 3) := by decide +kernel
theorem d_G_deliver_24 : decode b_G_deliver 24 = .ok (.dup, 1) := by decide +kernel
theorem d_G_deliver_25 : decode b_G_deliver 25 = .ok (.ldc 208, 2) := by decide +kernel
theorem d_G_deliver_27 : decode b_G_deliver 27 = .ok (.invokespecial 77, 3) := by decide +kernel
theorem d_G_deliver_30 : decode b_G_deliver 30 = .ok (.athrow, 1) := by decide +kernel
theorem d_G_deliver_31 : decode b_G_deliver 31 = .ok (.aload_n 0, 1) := by decide +kernel
theorem d_G_deliver_32 : decode b_G_deliver 32 = .ok (.invokevirtual 210, 3) := by decide +kernel
theorem d_G_deliver_35 : decode b_G_deliver 35 = .ok (.iconst 5, 1) := by decide +kernel
theorem d_G_deliver_36 : decode b_G_deliver 36 = .ok (.if_icmp .lt 13, 3) := by decide +kernel
theorem d_G_deliver_39 : decode b_G_deliver 39 = .ok (.new 87, 3) := by decide +kernel
theorem d_G_deliver_42 : decode b_G_deliver 42 = .ok (.dup, 1) := by decide +kernel
theorem d_G_deliver_43 : decode b_G_deliver 43 = .ok (.ldc 213, 2) := by decide +kernel
theorem d_G_deliver_45 : decode b_G_deliver 45 = .ok (.invokespecial 91, 3) := by decide +kernel
theorem d_G_deliver_48 : decode b_G_deliver 48 = .ok (.athrow, 1) := by decide +kernel
theorem d_G_deliver_49 : decode b_G_deliver 49 = .ok (.aload_n 0, 1) := by decide +kernel
theorem d_G_deliver_50 : decode b_G_deliver 50 = .ok (.new 27, 3) := by decide +kernel
theorem d_G_deliver_53 : decode b_G_deliver 53 = .ok (.dup, 1) := by decide +kernel
theorem d_G_deliver_54 : decode b_G_deliver 54 = .ok (.iload_n 1, 1) := by decide +kernel
theorem d_G_deliver_55 : decode b_G_deliver 55 = .ok (.aload_n 0, 1) := by decide +kernel
theorem d_G_deliver_56 : decode b_G_deliver 56 = .ok (.getfield 127, 3) := by decide +kernel
theorem d_G_deliver_59 : decode b_G_deliver 59 = .ok (.iload_n 2, 1) := by decide +kernel
theorem d_G_deliver_60 : decode b_G_deliver 60 = .ok (.iadd, 1) := by decide +kernel
theorem d_G_deliver_61 : decode b_G_deliver 61 = .ok (.invokespecial 215, 3) := by decide +kernel
theorem d_G_deliver_64 : decode b_G_deliver 64 = .ok (.invokevirtual 218, 3) := by decide +kernel
theorem d_G_deliver_67 : decode b_G_deliver 67 = .ok (.aload_n 0, 1) := by decide +kernel
theorem d_G_deliver_68 : decode b_G_deliver 68 = .ok (.invokevirtual 210, 3) := by decide +kernel
theorem d_G_deliver_71 : decode b_G_deliver 71 = .ok (.ireturn, 1) := by decide +kernel
theorem d_G_claim_0 : decode b_G_claim 0 = .ok (.aload_n 0, 1) := by decide +kernel
theorem d_G_claim_1 : decode b_G_claim 1 = .ok (.iload_n 1, 1) := by decide +kernel
theorem d_G_claim_2 : decode b_G_claim 2 = .ok (.invokevirtual 174, 3) := by decide +kernel
theorem d_G_claim_5 : decode b_G_claim 5 = .ok (.astore_n 3, 1) := by decide +kernel
theorem d_G_claim_6 : decode b_G_claim 6 = .ok (.aload_n 3, 1) := by decide +kernel
theorem d_G_claim_7 : decode b_G_claim 7 = .ok (.ifnonnull 13, 3) := by decide +kernel
theorem d_G_claim_10 : decode b_G_claim 10 = .ok (.new 66, 3) := by decide +kernel
theorem d_G_claim_13 : decode b_G_claim 13 = .ok (.dup, 1) := by decide +kernel
theorem d_G_claim_14 : decode b_G_claim 14 = .ok (.ldc 222, 2) := by decide +kernel
theorem d_G_claim_16 : decode b_G_claim 16 = .ok (.invokespecial 70, 3) := by decide +kernel
theorem d_G_claim_19 : decode b_G_claim 19 = .ok (.athrow, 1) := by decide +kernel
theorem d_G_claim_20 : decode b_G_claim 20 = .ok (.iload_n 2, 1) := by decide +kernel
theorem d_G_claim_21 : decode b_G_claim 21 = .ok (.iconst 1, 1) := by decide +kernel
theorem d_G_claim_22 : decode b_G_claim 22 = .ok (.aload_n 0, 1) := by decide +kernel
theorem d_G_claim_23 : decode b_G_claim 23 = .ok (.getfield 127, 3) := by decide +kernel
theorem d_G_claim_26 : decode b_G_claim 26 = .ok (.invokestatic 78, 3) := by decide +kernel
theorem d_G_claim_29 : decode b_G_claim 29 = .ok (.ifCond .ne 13, 3) := by decide +kernel
theorem d_G_claim_32 : decode b_G_claim 32 = .ok (.new 73, 3) := by decide +kernel
theorem d_G_claim_35 : decode b_G_claim 35 = .ok (.dup, 1) := by decide +kernel
theorem d_G_claim_36 : decode b_G_claim 36 = .ok (.ldc 224, 2) := by decide +kernel
theorem d_G_claim_38 : decode b_G_claim 38 = .ok (.invokespecial 77, 3) := by decide +kernel
theorem d_G_claim_41 : decode b_G_claim 41 = .ok (.athrow, 1) := by decide +kernel
theorem d_G_claim_42 : decode b_G_claim 42 = .ok (.aload_n 0, 1) := by decide +kernel
theorem d_G_claim_43 : decode b_G_claim 43 = .ok (.aload_n 3, 1) := by decide +kernel
theorem d_G_claim_44 : decode b_G_claim 44 = .ok (.iload_n 2, 1) := by decide +kernel
theorem d_G_claim_45 : decode b_G_claim 45 = .ok (.invokevirtual 226, 3) := by decide +kernel
theorem d_G_claim_48 : decode b_G_claim 48 = .ok (.ireturn, 1) := by decide +kernel
theorem d_G_ofRoad_0 : decode b_G_ofRoad 0 = .ok (.aload_n 0, 1) := by decide +kernel
theorem d_G_ofRoad_1 : decode b_G_ofRoad 1 = .ok (.iload_n 1, 1) := by decide +kernel
theorem d_G_ofRoad_2 : decode b_G_ofRoad 2 = .ok (.invokevirtual 174, 3) := by decide +kernel
theorem d_G_ofRoad_5 : decode b_G_ofRoad 5 = .ok (.astore_n 3, 1) := by decide +kernel
theorem d_G_ofRoad_6 : decode b_G_ofRoad 6 = .ok (.aload_n 3, 1) := by decide +kernel
theorem d_G_ofRoad_7 : decode b_G_ofRoad 7 = .ok (.ifnonnull 13, 3) := by decide +kernel
theorem d_G_ofRoad_10 : decode b_G_ofRoad 10 = .ok (.new 66, 3) := by decide +kernel
theorem d_G_ofRoad_13 : decode b_G_ofRoad 13 = .ok (.dup, 1) := by decide +kernel
theorem d_G_ofRoad_14 : decode b_G_ofRoad 14 = .ok (.ldc 222, 2) := by decide +kernel
theorem d_G_ofRoad_16 : decode b_G_ofRoad 16 = .ok (.invokespecial 70, 3) := by decide +kernel
theorem d_G_ofRoad_19 : decode b_G_ofRoad 19 = .ok (.athrow, 1) := by decide +kernel
theorem d_G_ofRoad_20 : decode b_G_ofRoad 20 = .ok (.iload_n 2, 1) := by decide +kernel
theorem d_G_ofRoad_21 : decode b_G_ofRoad 21 = .ok (.iconst 0, 1) := by decide +kernel
theorem d_G_ofRoad_22 : decode b_G_ofRoad 22 = .ok (.bipush 14, 2) := by decide +kernel
theorem d_G_ofRoad_24 : decode b_G_ofRoad 24 = .ok (.invokestatic 78, 3) := by decide +kernel
theorem d_G_ofRoad_27 : decode b_G_ofRoad 27 = .ok (.ifCond .ne 13, 3) := by decide +kernel
theorem d_G_ofRoad_30 : decode b_G_ofRoad 30 = .ok (.new 73, 3) := by decide +kernel
theorem d_G_ofRoad_33 : decode b_G_ofRoad 33 = .ok (.dup, 1) := by decide +kernel
theorem d_G_ofRoad_34 : decode b_G_ofRoad 34 = .ok (.ldc 230, 2) := by decide +kernel
theorem d_G_ofRoad_36 : decode b_G_ofRoad 36 = .ok (.invokespecial 77, 3) := by decide +kernel
theorem d_G_ofRoad_39 : decode b_G_ofRoad 39 = .ok (.athrow, 1) := by decide +kernel
theorem d_G_ofRoad_40 : decode b_G_ofRoad 40 = .ok (.aload_n 3, 1) := by decide +kernel
theorem d_G_ofRoad_41 : decode b_G_ofRoad 41 = .ok (.iload_n 2, 1) := by decide +kernel
theorem d_G_ofRoad_42 : decode b_G_ofRoad 42 = .ok (.invokevirtual 232, 3) := by decide +kernel
theorem d_G_ofRoad_45 : decode b_G_ofRoad 45 = .ok (.ireturn, 1) := by decide +kernel
theorem d_G_ofLorry_0 : decode b_G_ofLorry 0 = .ok (.aload_n 0, 1) := by decide +kernel
theorem d_G_ofLorry_1 : decode b_G_ofLorry 1 = .ok (.iload_n 1, 1) := by decide +kernel
theorem d_G_ofLorry_2 : decode b_G_ofLorry 2 = .ok (.invokevirtual 163, 3) := by decide +kernel
theorem d_G_ofLorry_5 : decode b_G_ofLorry 5 = .ok (.astore_n 3, 1) := by decide +kernel
theorem d_G_ofLorry_6 : decode b_G_ofLorry 6 = .ok (.aload_n 3, 1) := by decide +kernel
theorem d_G_ofLorry_7 : decode b_G_ofLorry 7 = .ok (.ifnonnull 13, 3) := by decide +kernel
theorem d_G_ofLorry_10 : decode b_G_ofLorry 10 = .ok (.new 66, 3) := by decide +kernel
theorem d_G_ofLorry_13 : decode b_G_ofLorry 13 = .ok (.dup, 1) := by decide +kernel
theorem d_G_ofLorry_14 : decode b_G_ofLorry 14 = .ok (.ldc 167, 2) := by decide +kernel
theorem d_G_ofLorry_16 : decode b_G_ofLorry 16 = .ok (.invokespecial 70, 3) := by decide +kernel
theorem d_G_ofLorry_19 : decode b_G_ofLorry 19 = .ok (.athrow, 1) := by decide +kernel
theorem d_G_ofLorry_20 : decode b_G_ofLorry 20 = .ok (.iload_n 2, 1) := by decide +kernel
theorem d_G_ofLorry_21 : decode b_G_ofLorry 21 = .ok (.iconst 0, 1) := by decide +kernel
theorem d_G_ofLorry_22 : decode b_G_ofLorry 22 = .ok (.bipush 8, 2) := by decide +kernel
theorem d_G_ofLorry_24 : decode b_G_ofLorry 24 = .ok (.invokestatic 78, 3) := by decide +kernel
theorem d_G_ofLorry_27 : decode b_G_ofLorry 27 = .ok (.ifCond .ne 13, 3) := by decide +kernel
theorem d_G_ofLorry_30 : decode b_G_ofLorry 30 = .ok (.new 73, 3) := by decide +kernel
theorem d_G_ofLorry_33 : decode b_G_ofLorry 33 = .ok (.dup, 1) := by decide +kernel
theorem d_G_ofLorry_34 : decode b_G_ofLorry 34 = .ok (.ldc 236, 2) := by decide +kernel
theorem d_G_ofLorry_36 : decode b_G_ofLorry 36 = .ok (.invokespecial 77, 3) := by decide +kernel
theorem d_G_ofLorry_39 : decode b_G_ofLorry 39 = .ok (.athrow, 1) := by decide +kernel
theorem d_G_ofLorry_40 : decode b_G_ofLorry 40 = .ok (.aload_n 3, 1) := by decide +kernel
theorem d_G_ofLorry_41 : decode b_G_ofLorry 41 = .ok (.iload_n 2, 1) := by decide +kernel
theorem d_G_ofLorry_42 : decode b_G_ofLorry 42 = .ok (.invokevirtual 238, 3) := by decide +kernel
theorem d_G_ofLorry_45 : decode b_G_ofLorry 45 = .ok (.ireturn, 1) := by decide +kernel
theorem d_G_many_0 : decode b_G_many 0 = .ok (.iload_n 1, 1) := by decide +kernel
theorem d_G_many_1 : decode b_G_many 1 = .ok (.iconst 0, 1) := by decide +kernel
theorem d_G_many_2 : decode b_G_many 2 = .ok (.bipush 14, 2) := by decide +kernel
theorem d_G_many_4 : decode b_G_many 4 = .ok (.invokestatic 78, 3) := by decide +kernel
theorem d_G_many_7 : decode b_G_many 7 = .ok (.ifCond .ne 13, 3) := by decide +kernel
theorem d_G_many_10 : decode b_G_many 10 = .ok (.new 73, 3) := by decide +kernel
theorem d_G_many_13 : decode b_G_many 13 = .ok (.dup, 1) := by decide +kernel
theorem d_G_many_14 : decode b_G_many 14 = .ok (.ldc 230, 2) := by decide +kernel
theorem d_G_many_16 : decode b_G_many 16 = .ok (.invokespecial 77, 3) := by decide +kernel
theorem d_G_many_19 : decode b_G_many 19 = .ok (.athrow, 1) := by decide +kernel
theorem d_G_many_20 : decode b_G_many 20 = .ok (.aload_n 0, 1) := by decide +kernel
theorem d_G_many_21 : decode b_G_many 21 = .ok (.iload_n 1, 1) := by decide +kernel
theorem d_G_many_22 : decode b_G_many 22 = .ok (.invokevirtual 239, 3) := by decide +kernel
theorem d_G_many_25 : decode b_G_many 25 = .ok (.ireturn, 1) := by decide +kernel
theorem d_G_way_0 : decode b_G_way 0 = .ok (.iload_n 1, 1) := by decide +kernel
theorem d_G_way_1 : decode b_G_way 1 = .ok (.invokestatic 62, 3) := by decide +kernel
theorem d_G_way_4 : decode b_G_way 4 = .ok (.ifCond .eq 10, 3) := by decide +kernel
theorem d_G_way_7 : decode b_G_way 7 = .ok (.iload_n 2, 1) := by decide +kernel
theorem d_G_way_8 : decode b_G_way 8 = .ok (.invokestatic 62, 3) := by decide +kernel
theorem d_G_way_11 : decode b_G_way 11 = .ok (.ifCond .ne 13, 3) := by decide +kernel
theorem d_G_way_14 : decode b_G_way 14 = .ok (.new 66, 3) := by decide +kernel
theorem d_G_way_17 : decode b_G_way 17 = .ok (.dup, 1) := by decide +kernel
theorem d_G_way_18 : decode b_G_way 18 = .ok (.ldc 68, 2) := by decide +kernel
theorem d_G_way_20 : decode b_G_way 20 = .ok (.invokespecial 70, 3) := by decide +kernel
theorem d_G_way_23 : decode b_G_way 23 = .ok (.athrow, 1) := by decide +kernel
theorem d_G_way_24 : decode b_G_way 24 = .ok (.aload_n 0, 1) := by decide +kernel
theorem d_G_way_25 : decode b_G_way 25 = .ok (.iload_n 1, 1) := by decide +kernel
theorem d_G_way_26 : decode b_G_way 26 = .ok (.iload_n 2, 1) := by decide +kernel
theorem d_G_way_27 : decode b_G_way 27 = .ok (.invokevirtual 242, 3) := by decide +kernel
theorem d_G_way_30 : decode b_G_way 30 = .ok (.ireturn, 1) := by decide +kernel
theorem d_G_meanWarmth_0 : decode b_G_meanWarmth 0 = .ok (.iconst 0, 1) := by decide +kernel
theorem d_G_meanWarmth_1 : decode b_G_meanWarmth 1 = .ok (.istore_n 1, 1) := by decide +kernel
theorem d_G_meanWarmth_2 : decode b_G_meanWarmth 2 = .ok (.iconst 0, 1) := by decide +kernel
theorem d_G_meanWarmth_3 : decode b_G_meanWarmth 3 = .ok (.istore_n 2, 1) := by decide +kernel
theorem d_G_meanWarmth_4 : decode b_G_meanWarmth 4 = .ok (.aload_n 0, 1) := by decide +kernel
theorem d_G_meanWarmth_5 : decode b_G_meanWarmth 5 = .ok (.getfield 11, 3) := by decide +kernel
theorem d_G_meanWarmth_8 : decode b_G_meanWarmth 8 = .ok (.astore_n 3, 1) := by decide +kernel
theorem d_G_meanWarmth_9 : decode b_G_meanWarmth 9 = .ok (.aload_n 3, 1) := by decide +kernel
theorem d_G_meanWarmth_10 : decode b_G_meanWarmth 10 = .ok (.arraylength, 1) := by decide +kernel
theorem d_G_meanWarmth_11 : decode b_G_meanWarmth 11 = .ok (.istore 4, 2) := by decide +kernel
theorem d_G_meanWarmth_13 : decode b_G_meanWarmth 13 = .ok (.iconst 0, 1) := by decide +kernel
theorem d_G_meanWarmth_14 : decode b_G_meanWarmth 14 = .ok (.istore 5, 2) := by decide +kernel
theorem d_G_meanWarmth_16 : decode b_G_meanWarmth 16 = .ok (.iload 5, 2) := by decide +kernel
theorem d_G_meanWarmth_18 : decode b_G_meanWarmth 18 = .ok (.iload 4, 2) := by decide +kernel
theorem d_G_meanWarmth_20 : decode b_G_meanWarmth 20 = .ok (.if_icmp .ge 34, 3) := by decide +kernel
theorem d_G_meanWarmth_23 : decode b_G_meanWarmth 23 = .ok (.aload_n 3, 1) := by decide +kernel
theorem d_G_meanWarmth_24 : decode b_G_meanWarmth 24 = .ok (.iload 5, 2) := by decide +kernel
theorem d_G_meanWarmth_26 : decode b_G_meanWarmth 26 = .ok (.aaload, 1) := by decide +kernel
theorem d_G_meanWarmth_27 : decode b_G_meanWarmth 27 = .ok (.astore 6, 2) := by decide +kernel
theorem d_G_meanWarmth_29 : decode b_G_meanWarmth 29 = .ok (.aload 6, 2) := by decide +kernel
theorem d_G_meanWarmth_31 : decode b_G_meanWarmth 31 = .ok (.ifnull 17, 3) := by decide +kernel
theorem d_G_meanWarmth_34 : decode b_G_meanWarmth 34 = .ok (.iload_n 1, 1) := by decide +kernel
theorem d_G_meanWarmth_35 : decode b_G_meanWarmth 35 = .ok (.aload 6, 2) := by decide +kernel
theorem d_G_meanWarmth_37 : decode b_G_meanWarmth 37 = .ok (.getfield 245, 3) := by decide +kernel
theorem d_G_meanWarmth_40 : decode b_G_meanWarmth 40 = .ok (.getfield 248, 3) := by decide +kernel
theorem d_G_meanWarmth_43 : decode b_G_meanWarmth 43 = .ok (.iadd, 1) := by decide +kernel
theorem d_G_meanWarmth_44 : decode b_G_meanWarmth 44 = .ok (.istore_n 1, 1) := by decide +kernel
theorem d_G_meanWarmth_45 : decode b_G_meanWarmth 45 = .ok (.iinc 2 1, 3) := by decide +kernel
theorem d_G_meanWarmth_48 : decode b_G_meanWarmth 48 = .ok (.iinc 5 1, 3) := by decide +kernel
theorem d_G_meanWarmth_51 : decode b_G_meanWarmth 51 = .ok (.goto (-35), 3) := by decide +kernel
theorem d_G_meanWarmth_54 : decode b_G_meanWarmth 54 = .ok (.iload_n 2, 1) := by decide +kernel
theorem d_G_meanWarmth_55 : decode b_G_meanWarmth 55 = .ok (.ifCond .ne 7, 3) := by decide +kernel
theorem d_G_meanWarmth_58 : decode b_G_meanWarmth 58 = .ok (.dconst 0, 1) := by decide +kernel
theorem d_G_meanWarmth_59 : decode b_G_meanWarmth 59 = .ok (.goto 8, 3) := by decide +kernel
theorem d_G_meanWarmth_62 : decode b_G_meanWarmth 62 = .ok (.iload_n 1, 1) := by decide +kernel
theorem d_G_meanWarmth_63 : decode b_G_meanWarmth 63 = .ok (.i2d, 1) := by decide +kernel
theorem d_G_meanWarmth_64 : decode b_G_meanWarmth 64 = .ok (.iload_n 2, 1) := by decide +kernel
theorem d_G_meanWarmth_65 : decode b_G_meanWarmth 65 = .ok (.i2d, 1) := by decide +kernel
theorem d_G_meanWarmth_66 : decode b_G_meanWarmth 66 = .ok (.ddiv, 1) := by decide +kernel
theorem d_G_meanWarmth_67 : decode b_G_meanWarmth 67 = .ok (.dreturn, 1) := by decide +kernel
theorem d_G_slipperyIn_0 : decode b_G_slipperyIn 0 = .ok (.aload_n 0, 1) := by decide +kernel
theorem d_G_slipperyIn_1 : decode b_G_slipperyIn 1 = .ok (.iload_n 1, 1) := by decide +kernel
theorem d_G_slipperyIn_2 : decode b_G_slipperyIn 2 = .ok (.invokevirtual 174, 3) := by decide +kernel
theorem d_G_slipperyIn_5 : decode b_G_slipperyIn 5 = .ok (.astore_n 3, 1) := by decide +kernel
theorem d_G_slipperyIn_6 : decode b_G_slipperyIn 6 = .ok (.aload_n 3, 1) := by decide +kernel
theorem d_G_slipperyIn_7 : decode b_G_slipperyIn 7 = .ok (.ifnonnull 13, 3) := by decide +kernel
theorem d_G_slipperyIn_10 : decode b_G_slipperyIn 10 = .ok (.new 66, 3) := by decide +kernel
theorem d_G_slipperyIn_13 : decode b_G_slipperyIn 13 = .ok (.dup, 1) := by decide +kernel
theorem d_G_slipperyIn_14 : decode b_G_slipperyIn 14 = .ok (.ldc 222, 2) := by decide +kernel
theorem d_G_slipperyIn_16 : decode b_G_slipperyIn 16 = .ok (.invokespecial 70, 3) := by decide +kernel
theorem d_G_slipperyIn_19 : decode b_G_slipperyIn 19 = .ok (.athrow, 1) := by decide +kernel
theorem d_G_slipperyIn_20 : decode b_G_slipperyIn 20 = .ok (.iload_n 2, 1) := by decide +kernel
theorem d_G_slipperyIn_21 : decode b_G_slipperyIn 21 = .ok (.iconst 1, 1) := by decide +kernel
theorem d_G_slipperyIn_22 : decode b_G_slipperyIn 22 = .ok (.bipush 24, 2) := by decide +kernel
theorem d_G_slipperyIn_24 : decode b_G_slipperyIn 24 = .ok (.invokestatic 78, 3) := by decide +kernel
theorem d_G_slipperyIn_27 : decode b_G_slipperyIn 27 = .ok (.ifCond .ne 13, 3) := by decide +kernel
theorem d_G_slipperyIn_30 : decode b_G_slipperyIn 30 = .ok (.new 73, 3) := by decide +kernel
theorem d_G_slipperyIn_33 : decode b_G_slipperyIn 33 = .ok (.dup, 1) := by decide +kernel
theorem d_G_slipperyIn_34 : decode b_G_slipperyIn 34 = .ok (.ldc 251, 2) := by decide +kernel
theorem d_G_slipperyIn_36 : decode b_G_slipperyIn 36 = .ok (.invokespecial 77, 3) := by decide +kernel
theorem d_G_slipperyIn_39 : decode b_G_slipperyIn 39 = .ok (.athrow, 1) := by decide +kernel
theorem d_G_slipperyIn_40 : decode b_G_slipperyIn 40 = .ok (.aload_n 0, 1) := by decide +kernel
theorem d_G_slipperyIn_41 : decode b_G_slipperyIn 41 = .ok (.aload_n 3, 1) := by decide +kernel
theorem d_G_slipperyIn_42 : decode b_G_slipperyIn 42 = .ok (.iconst 0, 1) := by decide +kernel
theorem d_G_slipperyIn_43 : decode b_G_slipperyIn 43 = .ok (.iload_n 2, 1) := by decide +kernel
theorem d_G_slipperyIn_44 : decode b_G_slipperyIn 44 = .ok (.invokevirtual 253, 3) := by decide +kernel
theorem d_G_slipperyIn_47 : decode b_G_slipperyIn 47 = .ok (.ireturn, 1) := by decide +kernel
theorem d_G_saltFor_0 : decode b_G_saltFor 0 = .ok (.aload_n 0, 1) := by decide +kernel
theorem d_G_saltFor_1 : decode b_G_saltFor 1 = .ok (.iload_n 1, 1) := by decide +kernel
theorem d_G_saltFor_2 : decode b_G_saltFor 2 = .ok (.invokevirtual 174, 3) := by decide +kernel
theorem d_G_saltFor_5 : decode b_G_saltFor 5 = .ok (.astore_n 3, 1) := by decide +kernel
theorem d_G_saltFor_6 : decode b_G_saltFor 6 = .ok (.aload_n 3, 1) := by decide +kernel
theorem d_G_saltFor_7 : decode b_G_saltFor 7 = .ok (.ifnonnull 13, 3) := by decide +kernel
theorem d_G_saltFor_10 : decode b_G_saltFor 10 = .ok (.new 66, 3) := by decide +kernel
theorem d_G_saltFor_13 : decode b_G_saltFor 13 = .ok (.dup, 1) := by decide +kernel
theorem d_G_saltFor_14 : decode b_G_saltFor 14 = .ok (.ldc 222, 2) := by decide +kernel
theorem d_G_saltFor_16 : decode b_G_saltFor 16 = .ok (.invokespecial 70, 3) := by decide +kernel
theorem d_G_saltFor_19 : decode b_G_saltFor 19 = .ok (.athrow, 1) := by decide +kernel
theorem d_G_saltFor_20 : decode b_G_saltFor 20 = .ok (.iload_n 2, 1) := by decide +kernel
theorem d_G_saltFor_21 : decode b_G_saltFor 21 = .ok (.iconst 1, 1) := by decide +kernel
theorem d_G_saltFor_22 : decode b_G_saltFor 22 = .ok (.bipush 24, 2) := by decide +kernel
theorem d_G_saltFor_24 : decode b_G_saltFor 24 = .ok (.invokestatic 78, 3) := by decide +kernel
theorem d_G_saltFor_27 : decode b_G_saltFor 27 = .ok (.ifCond .ne 13, 3) := by decide +kernel
theorem d_G_saltFor_30 : decode b_G_saltFor 30 = .ok (.new 73, 3) := by decide +kernel
theorem d_G_saltFor_33 : decode b_G_saltFor 33 = .ok (.dup, 1) := by decide +kernel
theorem d_G_saltFor_34 : decode b_G_saltFor 34 = .ok (.ldc 251, 2) := by decide +kernel
theorem d_G_saltFor_36 : decode b_G_saltFor 36 = .ok (.invokespecial 77, 3) := by decide +kernel
theorem d_G_saltFor_39 : decode b_G_saltFor 39 = .ok (.athrow, 1) := by decide +kernel
theorem d_G_saltFor_40 : decode b_G_saltFor 40 = .ok (.aload_n 0, 1) := by decide +kernel
theorem d_G_saltFor_41 : decode b_G_saltFor 41 = .ok (.aload_n 3, 1) := by decide +kernel
theorem d_G_saltFor_42 : decode b_G_saltFor 42 = .ok (.iload_n 2, 1) := by decide +kernel
theorem d_G_saltFor_43 : decode b_G_saltFor 43 = .ok (.invokevirtual 257, 3) := by decide +kernel
theorem d_G_saltFor_46 : decode b_G_saltFor 46 = .ok (.ireturn, 1) := by decide +kernel
theorem d_G_bestOrders_0 : decode b_G_bestOrders 0 = .ok (.aload_n 0, 1) := by decide +kernel
theorem d_G_bestOrders_1 : decode b_G_bestOrders 1 = .ok (.iload_n 1, 1) := by decide +kernel
theorem d_G_bestOrders_2 : decode b_G_bestOrders 2 = .ok (.invokevirtual 163, 3) := by decide +kernel
theorem d_G_bestOrders_5 : decode b_G_bestOrders 5 = .ok (.ifnull 10, 3) := by decide +kernel
theorem d_G_bestOrders_8 : decode b_G_bestOrders 8 = .ok (.iload_n 2, 1) := by decide +kernel
theorem d_G_bestOrders_9 : decode b_G_bestOrders 9 = .ok (.invokestatic 62, 3) := by decide +kernel
theorem d_G_bestOrders_12 : decode b_G_bestOrders 12 = .ok (.ifCond .ne 14, 3) := by decide +kernel
theorem d_G_bestOrders_15 : decode b_G_bestOrders 15 = .ok (.new 66, 3) := by decide +kernel
theorem d_G_bestOrders_18 : decode b_G_bestOrders 18 = .ok (.dup, 1) := by decide +kernel
theorem d_G_bestOrders_19 : decode b_G_bestOrders 19 = .ok (.ldc_w 260, 3) := by decide +kernel
theorem d_G_bestOrders_22 : decode b_G_bestOrders 22 = .ok (.invokespecial 70, 3) := by decide +kernel
theorem d_G_bestOrders_25 : decode b_G_bestOrders 25 = .ok (.athrow, 1) := by decide +kernel
theorem d_G_bestOrders_26 : decode b_G_bestOrders 26 = .ok (.aload_n 0, 1) := by decide +kernel
theorem d_G_bestOrders_27 : decode b_G_bestOrders 27 = .ok (.getfield 54, 3) := by decide +kernel
theorem d_G_bestOrders_30 : decode b_G_bestOrders 30 = .ok (.aload_n 0, 1) := by decide +kernel
theorem d_G_bestOrders_31 : decode b_G_bestOrders 31 = .ok (.getfield 11, 3) := by decide +kernel
theorem d_G_bestOrders_34 : decode b_G_bestOrders 34 = .ok (.iload_n 2, 1) := by decide +kernel
theorem d_G_bestOrders_35 : decode b_G_bestOrders 35 = .ok (.invokevirtual 262, 3) := by decide +kernel
theorem d_G_bestOrders_38 : decode b_G_bestOrders 38 = .ok (.ireturn, 1) := by decide +kernel
theorem d_G_digest_0 : decode b_G_digest 0 = .ok (.ldc2_w 266, 3) := by decide +kernel
theorem d_G_digest_3 : decode b_G_digest 3 = .ok (.lstore_n 1, 1) := by decide +kernel
theorem d_G_digest_4 : decode b_G_digest 4 = .ok (.iconst 0, 1) := by decide +kernel
theorem d_G_digest_5 : decode b_G_digest 5 = .ok (.istore_n 3, 1) := by decide +kernel
theorem d_G_digest_6 : decode b_G_digest 6 = .ok (.iload_n 3, 1) := by decide +kernel
theorem d_G_digest_7 : decode b_G_digest 7 = .ok (.bipush 14, 2) := by decide +kernel
theorem d_G_digest_9 : decode b_G_digest 9 = .ok (.if_icmp .gt 22, 3) := by decide +kernel
theorem d_G_digest_12 : decode b_G_digest 12 = .ok (.lload_n 1, 1) := by decide +kernel
theorem d_G_digest_13 : decode b_G_digest 13 = .ok (.ldc2_w 268, 3) := by decide +kernel
theorem d_G_digest_16 : decode b_G_digest 16 = .ok (.lmul, 1) := by decide +kernel
theorem d_G_digest_17 : decode b_G_digest 17 = .ok (.aload_n 0, 1) := by decide +kernel
theorem d_G_digest_18 : decode b_G_digest 18 = .ok (.iload_n 3, 1) := by decide +kernel
theorem d_G_digest_19 : decode b_G_digest 19 = .ok (.invokevirtual 239, 3) := by decide +kernel
theorem d_G_digest_22 : decode b_G_digest 22 = .ok (.i2l, 1) := by decide +kernel
theorem d_G_digest_23 : decode b_G_digest 23 = .ok (.ladd, 1) := by decide +kernel
theorem d_G_digest_24 : decode b_G_digest 24 = .ok (.lstore_n 1, 1) := by decide +kernel
theorem d_G_digest_25 : decode b_G_digest 25 = .ok (.iinc 3 1, 3) := by decide +kernel
theorem d_G_digest_28 : decode b_G_digest 28 = .ok (.goto (-22), 3) := by decide +kernel
theorem d_G_digest_31 : decode b_G_digest 31 = .ok (.aload_n 0, 1) := by decide +kernel
theorem d_G_digest_32 : decode b_G_digest 32 = .ok (.getfield 11, 3) := by decide +kernel
theorem d_G_digest_35 : decode b_G_digest 35 = .ok (.astore_n 3, 1) := by decide +kernel
theorem d_G_digest_36 : decode b_G_digest 36 = .ok (.aload_n 3, 1) := by decide +kernel
theorem d_G_digest_37 : decode b_G_digest 37 = .ok (.arraylength, 1) := by decide +kernel
theorem d_G_digest_38 : decode b_G_digest 38 = .ok (.istore 4, 2) := by decide +kernel
theorem d_G_digest_40 : decode b_G_digest 40 = .ok (.iconst 0, 1) := by decide +kernel
theorem d_G_digest_41 : decode b_G_digest 41 = .ok (.istore 5, 2) := by decide +kernel
theorem d_G_digest_43 : decode b_G_digest 43 = .ok (.iload 5, 2) := by decide +kernel
theorem d_G_digest_45 : decode b_G_digest 45 = .ok (.iload 4, 2) := by decide +kernel
theorem d_G_digest_47 : decode b_G_digest 47 = .ok (.if_icmp .ge 28, 3) := by decide +kernel
theorem d_G_digest_50 : decode b_G_digest 50 = .ok (.aload_n 3, 1) := by decide +kernel
theorem d_G_digest_51 : decode b_G_digest 51 = .ok (.iload 5, 2) := by decide +kernel
theorem d_G_digest_53 : decode b_G_digest 53 = .ok (.aaload, 1) := by decide +kernel
theorem d_G_digest_54 : decode b_G_digest 54 = .ok (.astore 6, 2) := by decide +kernel
theorem d_G_digest_56 : decode b_G_digest 56 = .ok (.aload 6, 2) := by decide +kernel
theorem d_G_digest_58 : decode b_G_digest 58 = .ok (.ifnull 11, 3) := by decide +kernel
theorem d_G_digest_61 : decode b_G_digest 61 = .ok (.aload_n 0, 1) := by decide +kernel
theorem d_G_digest_62 : decode b_G_digest 62 = .ok (.aload 6, 2) := by decide +kernel
theorem d_G_digest_64 : decode b_G_digest 64 = .ok (.lload_n 1, 1) := by decide +kernel
theorem d_G_digest_65 : decode b_G_digest 65 = .ok (.invokevirtual 270, 3) := by decide +kernel
theorem d_G_digest_68 : decode b_G_digest 68 = .ok (.lstore_n 1, 1) := by decide +kernel
theorem d_G_digest_69 : decode b_G_digest 69 = .ok (.iinc 5 1, 3) := by decide +kernel
theorem d_G_digest_72 : decode b_G_digest 72 = .ok (.goto (-29), 3) := by decide +kernel
theorem d_G_digest_75 : decode b_G_digest 75 = .ok (.aload_n 0, 1) := by decide +kernel
theorem d_G_digest_76 : decode b_G_digest 76 = .ok (.getfield 17, 3) := by decide +kernel
theorem d_G_digest_79 : decode b_G_digest 79 = .ok (.astore_n 3, 1) := by decide +kernel
theorem d_G_digest_80 : decode b_G_digest 80 = .ok (.aload_n 3, 1) := by decide +kernel
theorem d_G_digest_81 : decode b_G_digest 81 = .ok (.arraylength, 1) := by decide +kernel
theorem d_G_digest_82 : decode b_G_digest 82 = .ok (.istore 4, 2) := by decide +kernel
theorem d_G_digest_84 : decode b_G_digest 84 = .ok (.iconst 0, 1) := by decide +kernel
theorem d_G_digest_85 : decode b_G_digest 85 = .ok (.istore 5, 2) := by decide +kernel
theorem d_G_digest_87 : decode b_G_digest 87 = .ok (.iload 5, 2) := by decide +kernel
theorem d_G_digest_89 : decode b_G_digest 89 = .ok (.iload 4, 2) := by decide +kernel
theorem d_G_digest_91 : decode b_G_digest 91 = .ok (.if_icmp .ge 27, 3) := by decide +kernel
theorem d_G_digest_94 : decode b_G_digest 94 = .ok (.aload_n 3, 1) := by decide +kernel
theorem d_G_digest_95 : decode b_G_digest 95 = .ok (.iload 5, 2) := by decide +kernel
theorem d_G_digest_97 : decode b_G_digest 97 = .ok (.aaload, 1) := by decide +kernel
theorem d_G_digest_98 : decode b_G_digest 98 = .ok (.astore 6, 2) := by decide +kernel
theorem d_G_digest_100 : decode b_G_digest 100 = .ok (.aload 6, 2) := by decide +kernel
theorem d_G_digest_102 : decode b_G_digest 102 = .ok (.ifnull 10, 3) := by decide +kernel
theorem d_G_digest_105 : decode b_G_digest 105 = .ok (.aload 6, 2) := by decide +kernel
theorem d_G_digest_107 : decode b_G_digest 107 = .ok (.lload_n 1, 1) := by decide +kernel
theorem d_G_digest_108 : decode b_G_digest 108 = .ok (.invokestatic 274, 3) := by decide +kernel
theorem d_G_digest_111 : decode b_G_digest 111 = .ok (.lstore_n 1, 1) := by decide +kernel
theorem d_G_digest_112 : decode b_G_digest 112 = .ok (.iinc 5 1, 3) := by decide +kernel
theorem d_G_digest_115 : decode b_G_digest 115 = .ok (.goto (-28), 3) := by decide +kernel
theorem d_G_digest_118 : decode b_G_digest 118 = .ok (.iconst 0, 1) := by decide +kernel
theorem d_G_digest_119 : decode b_G_digest 119 = .ok (.istore_n 3, 1) := by decide +kernel
theorem d_G_digest_120 : decode b_G_digest 120 = .ok (.iload_n 3, 1) := by decide +kernel
theorem d_G_digest_121 : decode b_G_digest 121 = .ok (.bipush 7, 2) := by decide +kernel
theorem d_G_digest_123 : decode b_G_digest 123 = .ok (.if_icmp .ge 23, 3) := by decide +kernel
theorem d_G_digest_126 : decode b_G_digest 126 = .ok (.lload_n 1, 1) := by decide +kernel
theorem d_G_digest_127 : decode b_G_digest 127 = .ok (.ldc2_w 268, 3) := by decide +kernel
theorem d_G_digest_130 : decode b_G_digest 130 = .ok (.lmul, 1) := by decide +kernel
theorem d_G_digest_131 : decode b_G_digest 131 = .ok (.aload_n 0, 1) := by decide +kernel
theorem d_G_digest_132 : decode b_G_digest 132 = .ok (.iconst 0, 1) := by decide +kernel
theorem d_G_digest_133 : decode b_G_digest 133 = .ok (.iload_n 3, 1) := by decide +kernel
theorem d_G_digest_134 : decode b_G_digest 134 = .ok (.invokevirtual 242, 3) := by decide +kernel
theorem d_G_digest_137 : decode b_G_digest 137 = .ok (.i2l, 1) := by decide +kernel
theorem d_G_digest_138 : decode b_G_digest 138 = .ok (.ladd, 1) := by decide +kernel
theorem d_G_digest_139 : decode b_G_digest 139 = .ok (.lstore_n 1, 1) := by decide +kernel
theorem d_G_digest_140 : decode b_G_digest 140 = .ok (.iinc 3 1, 3) := by decide +kernel
theorem d_G_digest_143 : decode b_G_digest 143 = .ok (.goto (-23), 3) := by decide +kernel
theorem d_G_digest_146 : decode b_G_digest 146 = .ok (.aload_n 0, 1) := by decide +kernel
theorem d_G_digest_147 : decode b_G_digest 147 = .ok (.getfield 155, 3) := by decide +kernel
theorem d_G_digest_150 : decode b_G_digest 150 = .ok (.ifCond .ne 7, 3) := by decide +kernel
theorem d_G_digest_153 : decode b_G_digest 153 = .ok (.lload_n 1, 1) := by decide +kernel
theorem d_G_digest_154 : decode b_G_digest 154 = .ok (.goto 22, 3) := by decide +kernel
theorem d_G_digest_157 : decode b_G_digest 157 = .ok (.lload_n 1, 1) := by decide +kernel
theorem d_G_digest_158 : decode b_G_digest 158 = .ok (.ldc2_w 268, 3) := by decide +kernel
theorem d_G_digest_161 : decode b_G_digest 161 = .ok (.lmul, 1) := by decide +kernel
theorem d_G_digest_162 : decode b_G_digest 162 = .ok (.aload_n 0, 1) := by decide +kernel
theorem d_G_digest_163 : decode b_G_digest 163 = .ok (.getfield 54, 3) := by decide +kernel
theorem d_G_digest_166 : decode b_G_digest 166 = .ok (.aload_n 0, 1) := by decide +kernel
theorem d_G_digest_167 : decode b_G_digest 167 = .ok (.getfield 11, 3) := by decide +kernel
theorem d_G_digest_170 : decode b_G_digest 170 = .ok (.iconst 0, 1) := by decide +kernel
theorem d_G_digest_171 : decode b_G_digest 171 = .ok (.invokevirtual 262, 3) := by decide +kernel
theorem d_G_digest_174 : decode b_G_digest 174 = .ok (.i2l, 1) := by decide +kernel
theorem d_G_digest_175 : decode b_G_digest 175 = .ok (.ladd, 1) := by decide +kernel
theorem d_G_digest_176 : decode b_G_digest 176 = .ok (.lreturn, 1) := by decide +kernel
theorem d_G_digestOfRoad_0 : decode b_G_digestOfRoad 0 = .ok (.lload_n 2, 1) := by decide +kernel
theorem d_G_digestOfRoad_1 : decode b_G_digestOfRoad 1 = .ok (.lstore 4, 2) := by decide +kernel
theorem d_G_digestOfRoad_3 : decode b_G_digestOfRoad 3 = .ok (.iconst 0, 1) := by decide +kernel
theorem d_G_digestOfRoad_4 : decode b_G_digestOfRoad 4 = .ok (.istore 6, 2) := by decide +kernel
theorem d_G_digestOfRoad_6 : decode b_G_digestOfRoad 6 = .ok (.iload 6, 2) := by decide +kernel
theorem d_G_digestOfRoad_8 : decode b_G_digestOfRoad 8 = .ok (.bipush 14, 2) := by decide +kernel
theorem d_G_digestOfRoad_10 : decode b_G_digestOfRoad 10 = .ok (.if_icmp .gt 25, 3) := by decide +kernel
theorem d_G_digestOfRoad_13 : decode b_G_digestOfRoad 13 = .ok (.lload 4, 2) := by decide +kernel
theorem d_G_digestOfRoad_15 : decode b_G_digestOfRoad 15 = .ok (.ldc2_w 268, 3) := by decide +kernel
theorem d_G_digestOfRoad_18 : decode b_G_digestOfRoad 18 = .ok (.lmul, 1) := by decide +kernel
theorem d_G_digestOfRoad_19 : decode b_G_digestOfRoad 19 = .ok (.aload_n 1, 1) := by decide +kernel
theorem d_G_digestOfRoad_20 : decode b_G_digestOfRoad 20 = .ok (.iload 6, 2) := by decide +kernel
theorem d_G_digestOfRoad_22 : decode b_G_digestOfRoad 22 = .ok (.invokevirtual 232, 3) := by decide +kernel
theorem d_G_digestOfRoad_25 : decode b_G_digestOfRoad 25 = .ok (.i2l, 1) := by decide +kernel
theorem d_G_digestOfRoad_26 : decode b_G_digestOfRoad 26 = .ok (.ladd, 1) := by decide +kernel
theorem d_G_digestOfRoad_27 : decode b_G_digestOfRoad 27 = .ok (.lstore 4, 2) := by decide +kernel
theorem d_G_digestOfRoad_29 : decode b_G_digestOfRoad 29 = .ok (.iinc 6 1, 3) := by decide +kernel
theorem d_G_digestOfRoad_32 : decode b_G_digestOfRoad 32 = .ok (.goto (-26), 3) := by decide +kernel
theorem d_G_digestOfRoad_35 : decode b_G_digestOfRoad 35 = .ok (.lload 4, 2) := by decide +kernel
theorem d_G_digestOfRoad_37 : decode b_G_digestOfRoad 37 = .ok (.ldc2_w 268, 3) := by decide +kernel
theorem d_G_digestOfRoad_40 : decode b_G_digestOfRoad 40 = .ok (.lmul, 1) := by decide +kernel
theorem d_G_digestOfRoad_41 : decode b_G_digestOfRoad 41 = .ok (.aload_n 0, 1) := by decide +kernel
theorem d_G_digestOfRoad_42 : decode b_G_digestOfRoad 42 = .ok (.aload_n 1, 1) := by decide +kernel
theorem d_G_digestOfRoad_43 : decode b_G_digestOfRoad 43 = .ok (.iconst 0, 1) := by decide +kernel
theorem d_G_digestOfRoad_44 : decode b_G_digestOfRoad 44 = .ok (.bipush 8, 2) := by decide +kernel
theorem d_G_digestOfRoad_46 : decode b_G_digestOfRoad 46 = .ok (.invokevirtual 253, 3) := by decide +kernel
theorem d_G_digestOfRoad_49 : decode b_G_digestOfRoad 49 = .ok (.i2l, 1) := by decide +kernel
theorem d_G_digestOfRoad_50 : decode b_G_digestOfRoad 50 = .ok (.ladd, 1) := by decide +kernel
theorem d_G_digestOfRoad_51 : decode b_G_digestOfRoad 51 = .ok (.lstore 4, 2) := by decide +kernel
theorem d_G_digestOfRoad_53 : decode b_G_digestOfRoad 53 = .ok (.lload 4, 2) := by decide +kernel
theorem d_G_digestOfRoad_55 : decode b_G_digestOfRoad 55 = .ok (.ldc2_w 268, 3) := by decide +kernel
theorem d_G_digestOfRoad_58 : decode b_G_digestOfRoad 58 = .ok (.lmul, 1) := by decide +kernel
theorem d_G_digestOfRoad_59 : decode b_G_digestOfRoad 59 = .ok (.aload_n 0, 1) := by decide +kernel
theorem d_G_digestOfRoad_60 : decode b_G_digestOfRoad 60 = .ok (.aload_n 1, 1) := by decide +kernel
theorem d_G_digestOfRoad_61 : decode b_G_digestOfRoad 61 = .ok (.iconst 4, 1) := by decide +kernel
theorem d_G_digestOfRoad_62 : decode b_G_digestOfRoad 62 = .ok (.invokevirtual 257, 3) := by decide +kernel
theorem d_G_digestOfRoad_65 : decode b_G_digestOfRoad 65 = .ok (.i2l, 1) := by decide +kernel
theorem d_G_digestOfRoad_66 : decode b_G_digestOfRoad 66 = .ok (.ladd, 1) := by decide +kernel
theorem d_G_digestOfRoad_67 : decode b_G_digestOfRoad 67 = .ok (.lstore 4, 2) := by decide +kernel
theorem d_G_digestOfRoad_69 : decode b_G_digestOfRoad 69 = .ok (.aload_n 0, 1) := by decide +kernel
theorem d_G_digestOfRoad_70 : decode b_G_digestOfRoad 70 = .ok (.getfield 127, 3) := by decide +kernel
theorem d_G_digestOfRoad_73 : decode b_G_digestOfRoad 73 = .ok (.ifCond .ne 8, 3) := by decide +kernel
theorem d_G_digestOfRoad_76 : decode b_G_digestOfRoad 76 = .ok (.lload 4, 2) := by decide +kernel
theorem d_G_digestOfRoad_78 : decode b_G_digestOfRoad 78 = .ok (.goto 20, 3) := by decide +kernel
theorem d_G_digestOfRoad_81 : decode b_G_digestOfRoad 81 = .ok (.lload 4, 2) := by decide +kernel
theorem d_G_digestOfRoad_83 : decode b_G_digestOfRoad 83 = .ok (.ldc2_w 268, 3) := by decide +kernel
theorem d_G_digestOfRoad_86 : decode b_G_digestOfRoad 86 = .ok (.lmul, 1) := by decide +kernel
theorem d_G_digestOfRoad_87 : decode b_G_digestOfRoad 87 = .ok (.aload_n 0, 1) := by decide +kernel
theorem d_G_digestOfRoad_88 : decode b_G_digestOfRoad 88 = .ok (.aload_n 1, 1) := by decide +kernel
theorem d_G_digestOfRoad_89 : decode b_G_digestOfRoad 89 = .ok (.aload_n 0, 1) := by decide +kernel
theorem d_G_digestOfRoad_90 : decode b_G_digestOfRoad 90 = .ok (.getfield 127, 3) := by decide +kernel
theorem d_G_digestOfRoad_93 : decode b_G_digestOfRoad 93 = .ok (.invokevirtual 226, 3) := by decide +kernel
theorem d_G_digestOfRoad_96 : decode b_G_digestOfRoad 96 = .ok (.i2l, 1) := by decide +kernel
theorem d_G_digestOfRoad_97 : decode b_G_digestOfRoad 97 = .ok (.ladd, 1) := by decide +kernel
theorem d_G_digestOfRoad_98 : decode b_G_digestOfRoad 98 = .ok (.lreturn, 1) := by decide +kernel
theorem d_G_digestOfLorry_0 : decode b_G_digestOfLorry 0 = .ok (.lload_n 1, 1) := by decide +kernel
theorem d_G_digestOfLorry_1 : decode b_G_digestOfLorry 1 = .ok (.lstore_n 3, 1) := by decide +kernel
theorem d_G_digestOfLorry_2 : decode b_G_digestOfLorry 2 = .ok (.iconst 0, 1) := by decide +kernel
theorem d_G_digestOfLorry_3 : decode b_G_digestOfLorry 3 = .ok (.istore 5, 2) := by decide +kernel
theorem d_G_digestOfLorry_5 : decode b_G_digestOfLorry 5 = .ok (.iload 5, 2) := by decide +kernel
theorem d_G_digestOfLorry_7 : decode b_G_digestOfLorry 7 = .ok (.bipush 8, 2) := by decide +kernel
theorem d_G_digestOfLorry_9 : decode b_G_digestOfLorry 9 = .ok (.if_icmp .gt 23, 3) := by decide +kernel
theorem d_G_digestOfLorry_12 : decode b_G_digestOfLorry 12 = .ok (.lload_n 3, 1) := by decide +kernel
theorem d_G_digestOfLorry_13 : decode b_G_digestOfLorry 13 = .ok (.ldc2_w 268, 3) := by decide +kernel
theorem d_G_digestOfLorry_16 : decode b_G_digestOfLorry 16 = .ok (.lmul, 1) := by decide +kernel
theorem d_G_digestOfLorry_17 : decode b_G_digestOfLorry 17 = .ok (.aload_n 0, 1) := by decide +kernel
theorem d_G_digestOfLorry_18 : decode b_G_digestOfLorry 18 = .ok (.iload 5, 2) := by decide +kernel
theorem d_G_digestOfLorry_20 : decode b_G_digestOfLorry 20 = .ok (.invokevirtual 238, 3) := by decide +kernel
theorem d_G_digestOfLorry_23 : decode b_G_digestOfLorry 23 = .ok (.i2l, 1) := by decide +kernel
theorem d_G_digestOfLorry_24 : decode b_G_digestOfLorry 24 = .ok (.ladd, 1) := by decide +kernel
theorem d_G_digestOfLorry_25 : decode b_G_digestOfLorry 25 = .ok (.lstore_n 3, 1) := by decide +kernel
theorem d_G_digestOfLorry_26 : decode b_G_digestOfLorry 26 = .ok (.iinc 5 1, 3) := by decide +kernel
theorem d_G_digestOfLorry_29 : decode b_G_digestOfLorry 29 = .ok (.goto (-24), 3) := by decide +kernel
theorem d_G_digestOfLorry_32 : decode b_G_digestOfLorry 32 = .ok (.lload_n 3, 1) := by decide +kernel
theorem d_G_digestOfLorry_33 : decode b_G_digestOfLorry 33 = .ok (.lreturn, 1) := by decide +kernel
theorem d_G_isWithin_0 : decode b_G_isWithin 0 = .ok (.iload_n 0, 1) := by decide +kernel
theorem d_G_isWithin_1 : decode b_G_isWithin 1 = .ok (.iload_n 1, 1) := by decide +kernel
theorem d_G_isWithin_2 : decode b_G_isWithin 2 = .ok (.if_icmp .lt 12, 3) := by decide +kernel
theorem d_G_isWithin_5 : decode b_G_isWithin 5 = .ok (.iload_n 0, 1) := by decide +kernel
theorem d_G_isWithin_6 : decode b_G_isWithin 6 = .ok (.iload_n 2, 1) := by decide +kernel
theorem d_G_isWithin_7 : decode b_G_isWithin 7 = .ok (.if_icmp .gt 7, 3) := by decide +kernel
theorem d_G_isWithin_10 : decode b_G_isWithin 10 = .ok (.iconst 1, 1) := by decide +kernel
theorem d_G_isWithin_11 : decode b_G_isWithin 11 = .ok (.goto 4, 3) := by decide +kernel
theorem d_G_isWithin_14 : decode b_G_isWithin 14 = .ok (.iconst 0, 1) := by decide +kernel
theorem d_G_isWithin_15 : decode b_G_isWithin 15 = .ok (.ireturn, 1) := by decide +kernel
theorem d_G_isNode_0 : decode b_G_isNode 0 = .ok (.iload_n 0, 1) := by decide +kernel
theorem d_G_isNode_1 : decode b_G_isNode 1 = .ok (.iconst 0, 1) := by decide +kernel
theorem d_G_isNode_2 : decode b_G_isNode 2 = .ok (.bipush 6, 2) := by decide +kernel
theorem d_G_isNode_4 : decode b_G_isNode 4 = .ok (.invokestatic 78, 3) := by decide +kernel
theorem d_G_isNode_7 : decode b_G_isNode 7 = .ok (.ireturn, 1) := by decide +kernel
theorem d_G_isAir_0 : decode b_G_isAir 0 = .ok (.iload_n 0, 1) := by decide +kernel
theorem d_G_isAir_1 : decode b_G_isAir 1 = .ok (.bipush (-20), 2) := by decide +kernel
theorem d_G_isAir_3 : decode b_G_isAir 3 = .ok (.bipush 20, 2) := by decide +kernel
theorem d_G_isAir_5 : decode b_G_isAir 5 = .ok (.invokestatic 78, 3) := by decide +kernel
theorem d_G_isAir_8 : decode b_G_isAir 8 = .ok (.ireturn, 1) := by decide +kernel
theorem d_G_roadAt_0 : decode b_G_roadAt 0 = .ok (.iload_n 1, 1) := by decide +kernel
theorem d_G_roadAt_1 : decode b_G_roadAt 1 = .ok (.ifCond .lt 21, 3) := by decide +kernel
theorem d_G_roadAt_4 : decode b_G_roadAt 4 = .ok (.iload_n 1, 1) := by decide +kernel
theorem d_G_roadAt_5 : decode b_G_roadAt 5 = .ok (.aload_n 0, 1) := by decide +kernel
theorem d_G_roadAt_6 : decode b_G_roadAt 6 = .ok (.getfield 11, 3) := by decide +kernel
theorem d_G_roadAt_9 : decode b_G_roadAt 9 = .ok (.arraylength, 1) := by decide +kernel
theorem d_G_roadAt_10 : decode b_G_roadAt 10 = .ok (.if_icmp .ge 12, 3) := by decide +kernel
theorem d_G_roadAt_13 : decode b_G_roadAt 13 = .ok (.aload_n 0, 1) := by decide +kernel
theorem d_G_roadAt_14 : decode b_G_roadAt 14 = .ok (.getfield 11, 3) := by decide +kernel
theorem d_G_roadAt_17 : decode b_G_roadAt 17 = .ok (.iload_n 1, 1) := by decide +kernel
theorem d_G_roadAt_18 : decode b_G_roadAt 18 = .ok (.aaload, 1) := by decide +kernel
theorem d_G_roadAt_19 : decode b_G_roadAt 19 = .ok (.goto 4, 3) := by decide +kernel
theorem d_G_roadAt_22 : decode b_G_roadAt 22 = .ok (.aconst_null, 1) := by decide +kernel
theorem d_G_roadAt_23 : decode b_G_roadAt 23 = .ok (.areturn, 1) := by decide +kernel
theorem d_G_lorryAt_0 : decode b_G_lorryAt 0 = .ok (.iload_n 1, 1) := by decide +kernel
theorem d_G_lorryAt_1 : decode b_G_lorryAt 1 = .ok (.ifCond .lt 21, 3) := by decide +kernel
theorem d_G_lorryAt_4 : decode b_G_lorryAt 4 = .ok (.iload_n 1, 1) := by decide +kernel
theorem d_G_lorryAt_5 : decode b_G_lorryAt 5 = .ok (.aload_n 0, 1) := by decide +kernel
theorem d_G_lorryAt_6 : decode b_G_lorryAt 6 = .ok (.getfield 17, 3) := by decide +kernel
theorem d_G_lorryAt_9 : decode b_G_lorryAt 9 = .ok (.arraylength, 1) := by decide +kernel
theorem d_G_lorryAt_10 : decode b_G_lorryAt 10 = .ok (.if_icmp .ge 12, 3) := by decide +kernel
theorem d_G_lorryAt_13 : decode b_G_lorryAt 13 = .ok (.aload_n 0, 1) := by decide +kernel
theorem d_G_lorryAt_14 : decode b_G_lorryAt 14 = .ok (.getfield 17, 3) := by decide +kernel
theorem d_G_lorryAt_17 : decode b_G_lorryAt 17 = .ok (.iload_n 1, 1) := by decide +kernel
theorem d_G_lorryAt_18 : decode b_G_lorryAt 18 = .ok (.aaload, 1) := by decide +kernel
theorem d_G_lorryAt_19 : decode b_G_lorryAt 19 = .ok (.goto 4, 3) := by decide +kernel
theorem d_G_lorryAt_22 : decode b_G_lorryAt 22 = .ok (.aconst_null, 1) := by decide +kernel
theorem d_G_lorryAt_23 : decode b_G_lorryAt 23 = .ok (.areturn, 1) := by decide +kernel
theorem d_G_numberAt_0 : decode b_G_numberAt 0 = .ok (.iload_n 1, 1) := by decide +kernel
theorem d_G_numberAt_1 : decode b_G_numberAt 1 = .ok (.ifCond .lt 15, 3) := by decide +kernel
theorem d_G_numberAt_4 : decode b_G_numberAt 4 = .ok (.iload_n 1, 1) := by decide +kernel
theorem d_G_numberAt_5 : decode b_G_numberAt 5 = .ok (.aload_n 0, 1) := by decide +kernel
theorem d_G_numberAt_6 : decode b_G_numberAt 6 = .ok (.arraylength, 1) := by decide +kernel
theorem d_G_numberAt_7 : decode b_G_numberAt 7 = .ok (.if_icmp .ge 9, 3) := by decide +kernel
theorem d_G_numberAt_10 : decode b_G_numberAt 10 = .ok (.aload_n 0, 1) := by decide +kernel
theorem d_G_numberAt_11 : decode b_G_numberAt 11 = .ok (.iload_n 1, 1) := by decide +kernel
theorem d_G_numberAt_12 : decode b_G_numberAt 12 = .ok (.iaload, 1) := by decide +kernel
theorem d_G_numberAt_13 : decode b_G_numberAt 13 = .ok (.goto 6, 3) := by decide +kernel
theorem d_G_numberAt_16 : decode b_G_numberAt 16 = .ok (.ldc_w 278, 3) := by decide +kernel
theorem d_G_numberAt_19 : decode b_G_numberAt 19 = .ok (.ireturn, 1) := by decide +kernel
theorem d_G_lower_0 : decode b_G_lower 0 = .ok (.iload_n 1, 1) := by decide +kernel
theorem d_G_lower_1 : decode b_G_lower 1 = .ok (.ifCond .lt 20, 3) := by decide +kernel
theorem d_G_lower_4 : decode b_G_lower 4 = .ok (.iload_n 1, 1) := by decide +kernel
theorem d_G_lower_5 : decode b_G_lower 5 = .ok (.aload_n 0, 1) := by decide +kernel
theorem d_G_lower_6 : decode b_G_lower 6 = .ok (.arraylength, 1) := by decide +kernel
theorem d_G_lower_7 : decode b_G_lower 7 = .ok (.if_icmp .ge 14, 3) := by decide +kernel
theorem d_G_lower_10 : decode b_G_lower 10 = .ok (.iload_n 2, 1) := by decide +kernel
theorem d_G_lower_11 : decode b_G_lower 11 = .ok (.aload_n 0, 1) := by decide +kernel
theorem d_G_lower_12 : decode b_G_lower 12 = .ok (.iload_n 1, 1) := by decide +kernel
theorem d_G_lower_13 : decode b_G_lower 13 = .ok (.iaload, 1) := by decide +kernel
theorem d_G_lower_14 : decode b_G_lower 14 = .ok (.if_icmp .ge 7, 3) := by decide +kernel
theorem d_G_lower_17 : decode b_G_lower 17 = .ok (.aload_n 0, 1) := by decide +kernel
theorem d_G_lower_18 : decode b_G_lower 18 = .ok (.iload_n 1, 1) := by decide +kernel
theorem d_G_lower_19 : decode b_G_lower 19 = .ok (.iload_n 2, 1) := by decide +kernel
theorem d_G_lower_20 : decode b_G_lower 20 = .ok (.iastore, 1) := by decide +kernel
theorem d_G_lower_21 : decode b_G_lower 21 = .ok (.return_, 1) := by decide +kernel
theorem d_G_passQuarter_0 : decode b_G_passQuarter 0 = .ok (.aload_n 0, 1) := by decide +kernel
theorem d_G_passQuarter_1 : decode b_G_passQuarter 1 = .ok (.dup, 1) := by decide +kernel
theorem d_G_passQuarter_2 : decode b_G_passQuarter 2 = .ok (.getfield 127, 3) := by decide +kernel
theorem d_G_passQuarter_5 : decode b_G_passQuarter 5 = .ok (.iconst 1, 1) := by decide +kernel
theorem d_G_passQuarter_6 : decode b_G_passQuarter 6 = .ok (.iadd, 1) := by decide +kernel
theorem d_G_passQuarter_7 : decode b_G_passQuarter 7 = .ok (.putfield 127, 3) := by decide +kernel
theorem d_G_passQuarter_10 : decode b_G_passQuarter 10 = .ok (.aload_n 0, 1) := by decide +kernel
theorem d_G_passQuarter_11 : decode b_G_passQuarter 11 = .ok (.getfield 11, 3) := by decide +kernel
theorem d_G_passQuarter_14 : decode b_G_passQuarter 14 = .ok (.astore_n 1, 1) := by decide +kernel
theorem d_G_passQuarter_15 : decode b_G_passQuarter 15 = .ok (.aload_n 1, 1) := by decide +kernel
theorem d_G_passQuarter_16 : decode b_G_passQuarter 16 = .ok (.arraylength, 1) := by decide +kernel
theorem d_G_passQuarter_17 : decode b_G_passQuarter 17 = .ok (.istore_n 2, 1) := by decide +kernel
theorem d_G_passQuarter_18 : decode b_G_passQuarter 18 = .ok (.iconst 0, 1) := by decide +kernel
theorem d_G_passQuarter_19 : decode b_G_passQuarter 19 = .ok (.istore_n 3, 1) := by decide +kernel
theorem d_G_passQuarter_20 : decode b_G_passQuarter 20 = .ok (.iload_n 3, 1) := by decide +kernel
theorem d_G_passQuarter_21 : decode b_G_passQuarter 21 = .ok (.iload_n 2, 1) := by decide +kernel
theorem d_G_passQuarter_22 : decode b_G_passQuarter 22 = .ok (.if_icmp .ge 42, 3) := by decide +kernel
theorem d_G_passQuarter_25 : decode b_G_passQuarter 25 = .ok (.aload_n 1, 1) := by decide +kernel
theorem d_G_passQuarter_26 : decode b_G_passQuarter 26 = .ok (.iload_n 3, 1) := by decide +kernel
theorem d_G_passQuarter_27 : decode b_G_passQuarter 27 = .ok (.aaload, 1) := by decide +kernel
theorem d_G_passQuarter_28 : decode b_G_passQuarter 28 = .ok (.astore 4, 2) := by decide +kernel
theorem d_G_passQuarter_30 : decode b_G_passQuarter 30 = .ok (.aload 4, 2) := by decide +kernel
theorem d_G_passQuarter_32 : decode b_G_passQuarter 32 = .ok (.ifnull 26, 3) := by decide +kernel
theorem d_G_passQuarter_35 : decode b_G_passQuarter 35 = .ok (.aload 4, 2) := by decide +kernel
theorem d_G_passQuarter_37 : decode b_G_passQuarter 37 = .ok (.aload 4, 2) := by decide +kernel
theorem d_G_passQuarter_39 : decode b_G_passQuarter 39 = .ok (.getfield 245, 3) := by decide +kernel
theorem d_G_passQuarter_42 : decode b_G_passQuarter 42 = .ok (.aload_n 0, 1) := by decide +kernel
theorem d_G_passQuarter_43 : decode b_G_passQuarter 43 = .ok (.getfield 36, 3) := by decide +kernel
theorem d_G_passQuarter_46 : decode b_G_passQuarter 46 = .ok (.invokevirtual 279, 3) := by decide +kernel
theorem d_G_passQuarter_49 : decode b_G_passQuarter 49 = .ok (.aload 4, 2) := by decide +kernel
theorem d_G_passQuarter_51 : decode b_G_passQuarter 51 = .ok (.aload_n 0, 1) := by decide +kernel
theorem d_G_passQuarter_52 : decode b_G_passQuarter 52 = .ok (.getfield 127, 3) := by decide +kernel
theorem d_G_passQuarter_55 : decode b_G_passQuarter 55 = .ok (.invokevirtual 283, 3) := by decide +kernel
theorem d_G_passQuarter_58 : decode b_G_passQuarter 58 = .ok (.iinc 3 1, 3) := by decide +kernel
theorem d_G_passQuarter_61 : decode b_G_passQuarter 61 = .ok (.goto (-41), 3) := by decide +kernel
theorem d_G_passQuarter_64 : decode b_G_passQuarter 64 = .ok (.aload_n 0, 1) := by decide +kernel
theorem d_G_passQuarter_65 : decode b_G_passQuarter 65 = .ok (.getfield 17, 3) := by decide +kernel
theorem d_G_passQuarter_68 : decode b_G_passQuarter 68 = .ok (.astore_n 1, 1) := by decide +kernel
theorem d_G_passQuarter_69 : decode b_G_passQuarter 69 = .ok (.aload_n 1, 1) := by decide +kernel
theorem d_G_passQuarter_70 : decode b_G_passQuarter 70 = .ok (.arraylength, 1) := by decide +kernel
theorem d_G_passQuarter_71 : decode b_G_passQuarter 71 = .ok (.istore_n 2, 1) := by decide +kernel
theorem d_G_passQuarter_72 : decode b_G_passQuarter 72 = .ok (.iconst 0, 1) := by decide +kernel
theorem d_G_passQuarter_73 : decode b_G_passQuarter 73 = .ok (.istore_n 3, 1) := by decide +kernel
theorem d_G_passQuarter_74 : decode b_G_passQuarter 74 = .ok (.iload_n 3, 1) := by decide +kernel
theorem d_G_passQuarter_75 : decode b_G_passQuarter 75 = .ok (.iload_n 2, 1) := by decide +kernel
theorem d_G_passQuarter_76 : decode b_G_passQuarter 76 = .ok (.if_icmp .ge 25, 3) := by decide +kernel
theorem d_G_passQuarter_79 : decode b_G_passQuarter 79 = .ok (.aload_n 1, 1) := by decide +kernel
theorem d_G_passQuarter_80 : decode b_G_passQuarter 80 = .ok (.iload_n 3, 1) := by decide +kernel
theorem d_G_passQuarter_81 : decode b_G_passQuarter 81 = .ok (.aaload, 1) := by decide +kernel
theorem d_G_passQuarter_82 : decode b_G_passQuarter 82 = .ok (.astore 4, 2) := by decide +kernel
theorem d_G_passQuarter_84 : decode b_G_passQuarter 84 = .ok (.aload 4, 2) := by decide +kernel
theorem d_G_passQuarter_86 : decode b_G_passQuarter 86 = .ok (.ifnull 9, 3) := by decide +kernel
theorem d_G_passQuarter_89 : decode b_G_passQuarter 89 = .ok (.aload_n 0, 1) := by decide +kernel
theorem d_G_passQuarter_90 : decode b_G_passQuarter 90 = .ok (.aload 4, 2) := by decide +kernel
theorem d_G_passQuarter_92 : decode b_G_passQuarter 92 = .ok (.invokevirtual 286, 3) := by decide +kernel
theorem d_G_passQuarter_95 : decode b_G_passQuarter 95 = .ok (.iinc 3 1, 3) := by decide +kernel
theorem d_G_passQuarter_98 : decode b_G_passQuarter 98 = .ok (.goto (-24), 3) := by decide +kernel
theorem d_G_passQuarter_101 : decode b_G_passQuarter 101 = .ok (.aload_n 0, 1) := by decide +kernel
theorem d_G_passQuarter_102 : decode b_G_passQuarter 102 = .ok (.invokevirtual 290, 3) := by decide +kernel
theorem d_G_passQuarter_105 : decode b_G_passQuarter 105 = .ok (.return_, 1) := by decide +kernel
theorem d_G_work_0 : decode b_G_work 0 = .ok (.aload_n 1, 1) := by decide +kernel
theorem d_G_work_1 : decode b_G_work 1 = .ok (.getfield 180, 3) := by decide +kernel
theorem d_G_work_4 : decode b_G_work 4 = .ok (.ifCond .eq 12, 3) := by decide +kernel
theorem d_G_work_7 : decode b_G_work 7 = .ok (.aload_n 1, 1) := by decide +kernel
theorem d_G_work_8 : decode b_G_work 8 = .ok (.getfield 205, 3) := by decide +kernel
theorem d_G_work_11 : decode b_G_work 11 = .ok (.bipush 40, 2) := by decide +kernel
theorem d_G_work_13 : decode b_G_work 13 = .ok (.if_icmp .lt 4, 3) := by decide +kernel
theorem d_G_work_16 : decode b_G_work 16 = .ok (.return_, 1) := by decide +kernel
theorem d_G_work_17 : decode b_G_work 17 = .ok (.aload_n 1, 1) := by decide +kernel
theorem d_G_work_18 : decode b_G_work 18 = .ok (.dup, 1) := by decide +kernel
theorem d_G_work_19 : decode b_G_work 19 = .ok (.getfield 205, 3) := by decide +kernel
theorem d_G_work_22 : decode b_G_work 22 = .ok (.iconst 1, 1) := by decide +kernel
theorem d_G_work_23 : decode b_G_work 23 = .ok (.iadd, 1) := by decide +kernel
theorem d_G_work_24 : decode b_G_work 24 = .ok (.putfield 205, 3) := by decide +kernel
theorem d_G_work_27 : decode b_G_work 27 = .ok (.aload_n 0, 1) := by decide +kernel
theorem d_G_work_28 : decode b_G_work 28 = .ok (.aload_n 1, 1) := by decide +kernel
theorem d_G_work_29 : decode b_G_work 29 = .ok (.invokevirtual 293, 3) := by decide +kernel
theorem d_G_work_32 : decode b_G_work 32 = .ok (.invokevirtual 174, 3) := by decide +kernel
theorem d_G_work_35 : decode b_G_work 35 = .ok (.astore_n 2, 1) := by decide +kernel
theorem d_G_work_36 : decode b_G_work 36 = .ok (.aload_n 2, 1) := by decide +kernel
theorem d_G_work_37 : decode b_G_work 37 = .ok (.ifnull 22, 3) := by decide +kernel
theorem d_G_work_40 : decode b_G_work 40 = .ok (.aload_n 1, 1) := by decide +kernel
theorem d_G_work_41 : decode b_G_work 41 = .ok (.getfield 189, 3) := by decide +kernel
theorem d_G_work_44 : decode b_G_work 44 = .ok (.iconst (-1), 1) := by decide +kernel
theorem d_G_work_45 : decode b_G_work 45 = .ok (.if_icmp .eq 19, 3) := by decide +kernel
theorem d_G_work_48 : decode b_G_work 48 = .ok (.aload_n 2, 1) := by decide +kernel
theorem d_G_work_49 : decode b_G_work 49 = .ok (.aload_n 1, 1) := by decide +kernel
theorem d_G_work_50 : decode b_G_work 50 = .ok (.getfield 189, 3) := by decide +kernel
theorem d_G_work_53 : decode b_G_work 53 = .ok (.invokevirtual 296, 3) := by decide +kernel
theorem d_G_work_56 : decode b_G_work 56 = .ok (.ifCond .ne 8, 3) := by decide +kernel
theorem d_G_work_59 : decode b_G_work 59 = .ok (.aload_n 1, 1) := by decide +kernel
theorem d_G_work_60 : decode b_G_work 60 = .ok (.invokevirtual 299, 3) := by decide +kernel
theorem d_G_work_63 : decode b_G_work 63 = .ok (.return_, 1) := by decide +kernel
theorem d_G_work_64 : decode b_G_work 64 = .ok (.aload_n 1, 1) := by decide +kernel
theorem d_G_work_65 : decode b_G_work 65 = .ok (.getfield 189, 3) := by decide +kernel
theorem d_G_work_68 : decode b_G_work 68 = .ok (.iconst (-1), 1) := by decide +kernel
theorem d_G_work_69 : decode b_G_work 69 = .ok (.if_icmp .eq 20, 3) := by decide +kernel
theorem d_G_work_72 : decode b_G_work 72 = .ok (.aload_n 1, 1) := by decide +kernel
theorem d_G_work_73 : decode b_G_work 73 = .ok (.aload_n 2, 1) := by decide +kernel
theorem d_G_work_74 : decode b_G_work 74 = .ok (.aload_n 1, 1) := by decide +kernel
theorem d_G_work_75 : decode b_G_work 75 = .ok (.getfield 189, 3) := by decide +kernel
theorem d_G_work_78 : decode b_G_work 78 = .ok (.invokevirtual 302, 3) := by decide +kernel
theorem d_G_work_81 : decode b_G_work 81 = .ok (.putfield 305, 3) := by decide +kernel
theorem d_G_work_84 : decode b_G_work 84 = .ok (.aload_n 1, 1) := by decide +kernel
theorem d_G_work_85 : decode b_G_work 85 = .ok (.iconst (-1), 1) := by decide +kernel
theorem d_G_work_86 : decode b_G_work 86 = .ok (.putfield 189, 3) := by decide +kernel
theorem d_G_work_89 : decode b_G_work 89 = .ok (.aload_n 1, 1) := by decide +kernel
theorem d_G_work_90 : decode b_G_work 90 = .ok (.dup, 1) := by decide +kernel
theorem d_G_work_91 : decode b_G_work 91 = .ok (.getfield 308, 3) := by decide +kernel
theorem d_G_work_94 : decode b_G_work 94 = .ok (.iconst 1, 1) := by decide +kernel
theorem d_G_work_95 : decode b_G_work 95 = .ok (.iadd, 1) := by decide +kernel
theorem d_G_work_96 : decode b_G_work 96 = .ok (.putfield 308, 3) := by decide +kernel
theorem d_G_work_99 : decode b_G_work 99 = .ok (.aload_n 1, 1) := by decide +kernel
theorem d_G_work_100 : decode b_G_work 100 = .ok (.getfield 308, 3) := by decide +kernel
theorem d_G_work_103 : decode b_G_work 103 = .ok (.aload_n 2, 1) := by decide +kernel
theorem d_G_work_104 : decode b_G_work 104 = .ok (.getfield 311, 3) := by decide +kernel
theorem d_G_work_107 : decode b_G_work 107 = .ok (.if_icmp .lt 13, 3) := by decide +kernel
theorem d_G_work_110 : decode b_G_work 110 = .ok (.aload_n 1, 1) := by decide +kernel
theorem d_G_work_111 : decode b_G_work 111 = .ok (.invokevirtual 314, 3) := by decide +kernel
theorem d_G_work_114 : decode b_G_work 114 = .ok (.aload_n 0, 1) := by decide +kernel
theorem d_G_work_115 : decode b_G_work 115 = .ok (.aload_n 2, 1) := by decide +kernel
theorem d_G_work_116 : decode b_G_work 116 = .ok (.aload_n 1, 1) := by decide +kernel
theorem d_G_work_117 : decode b_G_work 117 = .ok (.invokevirtual 317, 3) := by decide +kernel
theorem d_G_work_120 : decode b_G_work 120 = .ok (.return_, 1) := by decide +kernel
theorem d_G_treat_0 : decode b_G_treat 0 = .ok (.aload_n 2, 1) := by decide +kernel
theorem d_G_treat_1 : decode b_G_treat 1 = .ok (.getfield 171, 3) := by decide +kernel
theorem d_G_treat_4 : decode b_G_treat 4 = .ok (.aload_n 1, 1) := by decide +kernel
theorem d_G_treat_5 : decode b_G_treat 5 = .ok (.getfield 311, 3) := by decide +kernel
theorem d_G_treat_8 : decode b_G_treat 8 = .ok (.imul, 1) := by decide +kernel
theorem d_G_treat_9 : decode b_G_treat 9 = .ok (.aload_n 2, 1) := by decide +kernel
theorem d_G_treat_10 : decode b_G_treat 10 = .ok (.getfield 194, 3) := by decide +kernel
theorem d_G_treat_13 : decode b_G_treat 13 = .ok (.invokestatic 197, 3) := by decide +kernel
theorem d_G_treat_16 : decode b_G_treat 16 = .ok (.istore_n 3, 1) := by decide +kernel
theorem d_G_treat_17 : decode b_G_treat 17 = .ok (.aload_n 2, 1) := by decide +kernel
theorem d_G_treat_18 : decode b_G_treat 18 = .ok (.dup, 1) := by decide +kernel
theorem d_G_treat_19 : decode b_G_treat 19 = .ok (.getfield 194, 3) := by decide +kernel
theorem d_G_treat_22 : decode b_G_treat 22 = .ok (.iload_n 3, 1) := by decide +kernel
theorem d_G_treat_23 : decode b_G_treat 23 = .ok (.isub, 1) := by decide +kernel
theorem d_G_treat_24 : decode b_G_treat 24 = .ok (.putfield 194, 3) := by decide +kernel
theorem d_G_treat_27 : decode b_G_treat 27 = .ok (.aload_n 2, 1) := by decide +kernel
theorem d_G_treat_28 : decode b_G_treat 28 = .ok (.dup, 1) := by decide +kernel
theorem d_G_treat_29 : decode b_G_treat 29 = .ok (.getfield 321, 3) := by decide +kernel
theorem d_G_treat_32 : decode b_G_treat 32 = .ok (.iload_n 3, 1) := by decide +kernel
theorem d_G_treat_33 : decode b_G_treat 33 = .ok (.iadd, 1) := by decide +kernel
theorem d_G_treat_34 : decode b_G_treat 34 = .ok (.putfield 321, 3) := by decide +kernel
theorem d_G_treat_37 : decode b_G_treat 37 = .ok (.aload_n 1, 1) := by decide +kernel
theorem d_G_treat_38 : decode b_G_treat 38 = .ok (.getfield 245, 3) := by decide +kernel
theorem d_G_treat_41 : decode b_G_treat 41 = .ok (.dup, 1) := by decide +kernel
theorem d_G_treat_42 : decode b_G_treat 42 = .ok (.getfield 324, 3) := by decide +kernel
theorem d_G_treat_45 : decode b_G_treat 45 = .ok (.iload_n 3, 1) := by decide +kernel
theorem d_G_treat_46 : decode b_G_treat 46 = .ok (.iadd, 1) := by decide +kernel
theorem d_G_treat_47 : decode b_G_treat 47 = .ok (.putfield 324, 3) := by decide +kernel
theorem d_G_treat_50 : decode b_G_treat 50 = .ok (.aload_n 2, 1) := by decide +kernel
theorem d_G_treat_51 : decode b_G_treat 51 = .ok (.getfield 327, 3) := by decide +kernel
theorem d_G_treat_54 : decode b_G_treat 54 = .ok (.ifCond .eq 27, 3) := by decide +kernel
theorem d_G_treat_57 : decode b_G_treat 57 = .ok (.aload_n 0, 1) := by decide +kernel
theorem d_G_treat_58 : decode b_G_treat 58 = .ok (.dup, 1) := by decide +kernel
theorem d_G_treat_59 : decode b_G_treat 59 = .ok (.getfield 330, 3) := by decide +kernel
theorem d_G_treat_62 : decode b_G_treat 62 = .ok (.aload_n 1, 1) := by decide +kernel
theorem d_G_treat_63 : decode b_G_treat 63 = .ok (.getfield 245, 3) := by decide +kernel
theorem d_G_treat_66 : decode b_G_treat 66 = .ok (.getfield 333, 3) := by decide +kernel
theorem d_G_treat_69 : decode b_G_treat 69 = .ok (.iadd, 1) := by decide +kernel
theorem d_G_treat_70 : decode b_G_treat 70 = .ok (.putfield 330, 3) := by decide +kernel
theorem d_G_treat_73 : decode b_G_treat 73 = .ok (.aload_n 1, 1) := by decide +kernel
theorem d_G_treat_74 : decode b_G_treat 74 = .ok (.getfield 245, 3) := by decide +kernel
theorem d_G_treat_77 : decode b_G_treat 77 = .ok (.iconst 0, 1) := by decide +kernel
theorem d_G_treat_78 : decode b_G_treat 78 = .ok (.putfield 333, 3) := by decide +kernel
theorem d_G_treat_81 : decode b_G_treat 81 = .ok (.iload_n 3, 1) := by decide +kernel
theorem d_G_treat_82 : decode b_G_treat 82 = .ok (.ifCond .gt 10, 3) := by decide +kernel
theorem d_G_treat_85 : decode b_G_treat 85 = .ok (.aload_n 2, 1) := by decide +kernel
theorem d_G_treat_86 : decode b_G_treat 86 = .ok (.getfield 327, 3) := by decide +kernel
theorem d_G_treat_89 : decode b_G_treat 89 = .ok (.ifCond .eq 11, 3) := by decide +kernel
theorem d_G_treat_92 : decode b_G_treat 92 = .ok (.aload_n 1, 1) := by decide +kernel
theorem d_G_treat_93 : decode b_G_treat 93 = .ok (.aload_n 0, 1) := by decide +kernel
theorem d_G_treat_94 : decode b_G_treat 94 = .ok (.getfield 127, 3) := by decide +kernel
theorem d_G_treat_97 : decode b_G_treat 97 = .ok (.invokevirtual 336, 3) := by decide +kernel
theorem d_G_treat_100 : decode b_G_treat 100 = .ok (.return_, 1) := by decide +kernel
theorem d_G_takeDeliveries_0 : decode b_G_takeDeliveries 0 = .ok (.iconst 0, 1) := by decide +kernel
theorem d_G_takeDeliveries_1 : decode b_G_takeDeliveries 1 = .ok (.istore_n 1, 1) := by decide +kernel
theorem d_G_takeDeliveries_2 : decode b_G_takeDeliveries 2 = .ok (.iload_n 1, 1) := by decide +kernel
theorem d_G_takeDeliveries_3 : decode b_G_takeDeliveries 3 = .ok (.aload_n 0, 1) := by decide +kernel
theorem d_G_takeDeliveries_4 : decode b_G_takeDeliveries 4 = .ok (.getfield 29, 3) := by decide +kernel
theorem d_G_takeDeliveries_7 : decode b_G_takeDeliveries 7 = .ok (.arraylength, 1) := by decide +kernel
theorem d_G_takeDeliveries_8 : decode b_G_takeDeliveries 8 = .ok (.if_icmp .ge 89, 3) := by decide +kernel
theorem d_G_takeDeliveries_11 : decode b_G_takeDeliveries 11 = .ok (.aload_n 0, 1) := by decide +kernel
theorem d_G_takeDeliveries_12 : decode b_G_takeDeliveries 12 = .ok (.getfield 29, 3) := by decide +kernel
theorem d_G_takeDeliveries_15 : decode b_G_takeDeliveries 15 = .ok (.iload_n 1, 1) := by decide +kernel
theorem d_G_takeDeliveries_16 : decode b_G_takeDeliveries 16 = .ok (.aaload, 1) := by decide +kernel
theorem d_G_takeDeliveries_17 : decode b_G_takeDeliveries 17 = .ok (.astore_n 2, 1) := by decide +kernel
theorem d_G_takeDeliveries_18 : decode b_G_takeDeliveries 18 = .ok (.aload_n 2, 1) := by decide +kernel
theorem d_G_takeDeliveries_19 : decode b_G_takeDeliveries 19 = .ok (.ifnull 72, 3) := by decide +kernel
theorem d_G_takeDeliveries_22 : decode b_G_takeDeliveries 22 = .ok (.aload_n 2, 1) := by decide +kernel
theorem d_G_takeDeliveries_23 : decode b_G_takeDeliveries 23 = .ok (.getfield 339, 3) := by decide +kernel
theorem d_G_takeDeliveries_26 : decode b_G_takeDeliveries 26 = .ok (.aload_n 0, 1) := by decide +kernel
theorem d_G_takeDeliveries_27 : decode b_G_takeDeliveries 27 = .ok (.getfield 127, 3) := by decide +kernel
theorem d_G_takeDeliveries_30 : decode b_G_takeDeliveries 30 = .ok (.if_icmp .ne 61, 3) := by decide +kernel
theorem d_G_takeDeliveries_33 : decode b_G_takeDeliveries 33 = .ok (.aload_n 2, 1) := by decide +kernel
theorem d_G_takeDeliveries_34 : decode b_G_takeDeliveries 34 = .ok (.getfield 342, 3) := by decide +kernel
theorem d_G_takeDeliveries_37 : decode b_G_takeDeliveries 37 = .ok (.sipush 999, 3) := by decide +kernel
theorem d_G_takeDeliveries_40 : decode b_G_takeDeliveries 40 = .ok (.aload_n 0, 1) := by decide +kernel
theorem d_G_takeDeliveries_41 : decode b_G_takeDeliveries 41 = .ok (.getfield 58, 3) := by decide +kernel
theorem d_G_takeDeliveries_44 : decode b_G_takeDeliveries 44 = .ok (.isub, 1) := by decide +kernel
theorem d_G_takeDeliveries_45 : decode b_G_takeDeliveries 45 = .ok (.invokestatic 197, 3) := by decide +kernel
theorem d_G_takeDeliveries_48 : decode b_G_takeDeliveries 48 = .ok (.istore_n 3, 1) := by decide +kernel
theorem d_G_takeDeliveries_49 : decode b_G_takeDeliveries 49 = .ok (.aload_n 0, 1) := by decide +kernel
theorem d_G_takeDeliveries_50 : decode b_G_takeDeliveries 50 = .ok (.dup, 1) := by decide +kernel
theorem d_G_takeDeliveries_51 : decode b_G_takeDeliveries 51 = .ok (.getfield 58, 3) := by decide +kernel
theorem d_G_takeDeliveries_54 : decode b_G_takeDeliveries 54 = .ok (.iload_n 3, 1) := by decide +kernel
theorem d_G_takeDeliveries_55 : decode b_G_takeDeliveries 55 = .ok (.iadd, 1) := by decide +kernel
theorem d_G_takeDeliveries_56 : decode b_G_takeDeliveries 56 = .ok (.putfield 58, 3) := by decide +kernel
theorem d_G_takeDeliveries_59 : decode b_G_takeDeliveries 59 = .ok (.aload_n 0, 1) := by decide +kernel
theorem d_G_takeDeliveries_60 : decode b_G_takeDeliveries 60 = .ok (.dup, 1) := by decide +kernel
theorem d_G_takeDeliveries_61 : decode b_G_takeDeliveries 61 = .ok (.getfield 345, 3) := by decide +kernel
theorem d_G_takeDeliveries_64 : decode b_G_takeDeliveries 64 = .ok (.iload_n 3, 1) := by decide +kernel
theorem d_G_takeDeliveries_65 : decode b_G_takeDeliveries 65 = .ok (.iadd, 1) := by decide +kernel
theorem d_G_takeDeliveries_66 : decode b_G_takeDeliveries 66 = .ok (.putfield 345, 3) := by decide +kernel
theorem d_G_takeDeliveries_69 : decode b_G_takeDeliveries 69 = .ok (.aload_n 0, 1) := by decide +kernel
theorem d_G_takeDeliveries_70 : decode b_G_takeDeliveries 70 = .ok (.dup, 1) := by decide +kernel
theorem d_G_takeDeliveries_71 : decode b_G_takeDeliveries 71 = .ok (.getfield 348, 3) := by decide +kernel
theorem d_G_takeDeliveries_74 : decode b_G_takeDeliveries 74 = .ok (.aload_n 2, 1) := by decide +kernel
theorem d_G_takeDeliveries_75 : decode b_G_takeDeliveries 75 = .ok (.getfield 342, 3) := by decide +kernel
theorem d_G_takeDeliveries_78 : decode b_G_takeDeliveries 78 = .ok (.iload_n 3, 1) := by decide +kernel
theorem d_G_takeDeliveries_79 : decode b_G_takeDeliveries 79 = .ok (.isub, 1) := by decide +kernel
theorem d_G_takeDeliveries_80 : decode b_G_takeDeliveries 80 = .ok (.iadd, 1) := by decide +kernel
theorem d_G_takeDeliveries_81 : decode b_G_takeDeliveries 81 = .ok (.putfield 348, 3) := by decide +kernel
theorem d_G_takeDeliveries_84 : decode b_G_takeDeliveries 84 = .ok (.aload_n 0, 1) := by decide +kernel
theorem d_G_takeDeliveries_85 : decode b_G_takeDeliveries 85 = .ok (.getfield 29, 3) := by decide +kernel
theorem d_G_takeDeliveries_88 : decode b_G_takeDeliveries 88 = .ok (.iload_n 1, 1) := by decide +kernel
theorem d_G_takeDeliveries_89 : decode b_G_takeDeliveries 89 = .ok (.aconst_null, 1) := by decide +kernel
theorem d_G_takeDeliveries_90 : decode b_G_takeDeliveries 90 = .ok (.aastore, 1) := by decide +kernel
theorem d_G_takeDeliveries_91 : decode b_G_takeDeliveries 91 = .ok (.iinc 1 1, 3) := by decide +kernel
theorem d_G_takeDeliveries_94 : decode b_G_takeDeliveries 94 = .ok (.goto (-92), 3) := by decide +kernel
theorem d_G_takeDeliveries_97 : decode b_G_takeDeliveries 97 = .ok (.return_, 1) := by decide +kernel
theorem d_G_keepDelivery_0 : decode b_G_keepDelivery 0 = .ok (.iconst 0, 1) := by decide +kernel
theorem d_G_keepDelivery_1 : decode b_G_keepDelivery 1 = .ok (.istore_n 2, 1) := by decide +kernel
theorem d_G_keepDelivery_2 : decode b_G_keepDelivery 2 = .ok (.iload_n 2, 1) := by decide +kernel
theorem d_G_keepDelivery_3 : decode b_G_keepDelivery 3 = .ok (.aload_n 0, 1) := by decide +kernel
theorem d_G_keepDelivery_4 : decode b_G_keepDelivery 4 = .ok (.getfield 29, 3) := by decide +kernel
theorem d_G_keepDelivery_7 : decode b_G_keepDelivery 7 = .ok (.arraylength, 1) := by decide +kernel
theorem d_G_keepDelivery_8 : decode b_G_keepDelivery 8 = .ok (.if_icmp .ge 26, 3) := by decide +kernel
theorem d_G_keepDelivery_11 : decode b_G_keepDelivery 11 = .ok (.aload_n 0, 1) := by decide +kernel
theorem d_G_keepDelivery_12 : decode b_G_keepDelivery 12 = .ok (.getfield 29, 3) := by decide +kernel
theorem d_G_keepDelivery_15 : decode b_G_keepDelivery 15 = .ok (.iload_n 2, 1) := by decide +kernel
theorem d_G_keepDelivery_16 : decode b_G_keepDelivery 16 = .ok (.aaload, 1) := by decide +kernel
theorem d_G_keepDelivery_17 : decode b_G_keepDelivery 17 = .ok (.ifnonnull 11, 3) := by decide +kernel
theorem d_G_keepDelivery_20 : decode b_G_keepDelivery 20 = .ok (.aload_n 0, 1) := by decide +kernel
theorem d_G_keepDelivery_21 : decode b_G_keepDelivery 21 = .ok (.getfield 29, 3) := by decide +kernel
theorem d_G_keepDelivery_24 : decode b_G_keepDelivery 24 = .ok (.iload_n 2, 1) := by decide +kernel
theorem d_G_keepDelivery_25 : decode b_G_keepDelivery 25 = .ok (.aload_n 1, 1) := by decide +kernel
theorem d_G_keepDelivery_26 : decode b_G_keepDelivery 26 = .ok (.aastore, 1) := by decide +kernel
theorem d_G_keepDelivery_27 : decode b_G_keepDelivery 27 = .ok (.return_, 1) := by decide +kernel
theorem d_G_keepDelivery_28 : decode b_G_keepDelivery 28 = .ok (.iinc 2 1, 3) := by decide +kernel
theorem d_G_keepDelivery_31 : decode b_G_keepDelivery 31 = .ok (.goto (-29), 3) := by decide +kernel
theorem d_G_keepDelivery_34 : decode b_G_keepDelivery 34 = .ok (.return_, 1) := by decide +kernel
theorem d_G_roadsForetold_0 : decode b_G_roadsForetold 0 = .ok (.iconst 0, 1) := by decide +kernel
theorem d_G_roadsForetold_1 : decode b_G_roadsForetold 1 = .ok (.istore_n 2, 1) := by decide +kernel
theorem d_G_roadsForetold_2 : decode b_G_roadsForetold 2 = .ok (.aload_n 0, 1) := by decide +kernel
theorem d_G_roadsForetold_3 : decode b_G_roadsForetold 3 = .ok (.getfield 11, 3) := by decide +kernel
theorem d_G_roadsForetold_6 : decode b_G_roadsForetold 6 = .ok (.astore_n 3, 1) := by decide +kernel
theorem d_G_roadsForetold_7 : decode b_G_roadsForetold 7 = .ok (.aload_n 3, 1) := by decide +kernel
theorem d_G_roadsForetold_8 : decode b_G_roadsForetold 8 = .ok (.arraylength, 1) := by decide +kernel
theorem d_G_roadsForetold_9 : decode b_G_roadsForetold 9 = .ok (.istore 4, 2) := by decide +kernel
theorem d_G_roadsForetold_11 : decode b_G_roadsForetold 11 = .ok (.iconst 0, 1) := by decide +kernel
theorem d_G_roadsForetold_12 : decode b_G_roadsForetold 12 = .ok (.istore 5, 2) := by decide +kernel
theorem d_G_roadsForetold_14 : decode b_G_roadsForetold 14 = .ok (.iload 5, 2) := by decide +kernel
theorem d_G_roadsForetold_16 : decode b_G_roadsForetold 16 = .ok (.iload 4, 2) := by decide +kernel
theorem d_G_roadsForetold_18 : decode b_G_roadsForetold 18 = .ok (.if_icmp .ge 32, 3) := by decide +kernel
theorem d_G_roadsForetold_21 : decode b_G_roadsForetold 21 = .ok (.aload_n 3, 1) := by decide +kernel
theorem d_G_roadsForetold_22 : decode b_G_roadsForetold 22 = .ok (.iload 5, 2) := by decide +kernel
theorem d_G_roadsForetold_24 : decode b_G_roadsForetold 24 = .ok (.aaload, 1) := by decide +kernel
theorem d_G_roadsForetold_25 : decode b_G_roadsForetold 25 = .ok (.astore 6, 2) := by decide +kernel
theorem d_G_roadsForetold_27 : decode b_G_roadsForetold 27 = .ok (.aload 6, 2) := by decide +kernel
theorem d_G_roadsForetold_29 : decode b_G_roadsForetold 29 = .ok (.ifnull 15, 3) := by decide +kernel
theorem d_G_roadsForetold_32 : decode b_G_roadsForetold 32 = .ok (.aload_n 1, 1) := by decide +kernel
theorem d_G_roadsForetold_33 : decode b_G_roadsForetold 33 = .ok (.aload 6, 2) := by decide +kernel
theorem d_G_roadsForetold_35 : decode b_G_roadsForetold 35 = .ok (.invokevirtual 351, 3) := by decide +kernel
theorem d_G_roadsForetold_38 : decode b_G_roadsForetold 38 = .ok (.ifCond .eq 6, 3) := by decide +kernel
theorem d_G_roadsForetold_41 : decode b_G_roadsForetold 41 = .ok (.iinc 2 1, 3) := by decide +kernel
theorem d_G_roadsForetold_44 : decode b_G_roadsForetold 44 = .ok (.iinc 5 1, 3) := by decide +kernel
theorem d_G_roadsForetold_47 : decode b_G_roadsForetold 47 = .ok (.goto (-33), 3) := by decide +kernel
theorem d_G_roadsForetold_50 : decode b_G_roadsForetold 50 = .ok (.iload_n 2, 1) := by decide +kernel
theorem d_G_roadsForetold_51 : decode b_G_roadsForetold 51 = .ok (.ireturn, 1) := by decide +kernel
theorem d_G_answerTo_0 : decode b_G_answerTo 0 = .ok (.aload_n 1, 1) := by decide +kernel
theorem d_G_answerTo_1 : decode b_G_answerTo 1 = .ok (.iload_n 2, 1) := by decide +kernel
theorem d_G_answerTo_2 : decode b_G_answerTo 2 = .ok (.invokevirtual 355, 3) := by decide +kernel
theorem d_G_answerTo_5 : decode b_G_answerTo 5 = .ok (.ifCond .ne 5, 3) := by decide +kernel
theorem d_G_answerTo_8 : decode b_G_answerTo 8 = .ok (.iconst 0, 1) := by decide +kernel
theorem d_G_answerTo_9 : decode b_G_answerTo 9 = .ok (.ireturn, 1) := by decide +kernel
theorem d_G_answerTo_10 : decode b_G_answerTo 10 = .ok (.aload_n 1, 1) := by decide +kernel
theorem d_G_answerTo_11 : decode b_G_answerTo 11 = .ok (.iload_n 2, 1) := by decide +kernel
theorem d_G_answerTo_12 : decode b_G_answerTo 12 = .ok (.bipush 12, 2) := by decide +kernel
theorem d_G_answerTo_14 : decode b_G_answerTo 14 = .ok (.isub, 1) := by decide +kernel
theorem d_G_answerTo_15 : decode b_G_answerTo 15 = .ok (.iload_n 2, 1) := by decide +kernel
theorem d_G_answerTo_16 : decode b_G_answerTo 16 = .ok (.invokevirtual 358, 3) := by decide +kernel
theorem d_G_answerTo_19 : decode b_G_answerTo 19 = .ok (.ifCond .eq 5, 3) := by decide +kernel
theorem d_G_answerTo_22 : decode b_G_answerTo 22 = .ok (.iconst 1, 1) := by decide +kernel
theorem d_G_answerTo_23 : decode b_G_answerTo 23 = .ok (.ireturn, 1) := by decide +kernel
theorem d_G_answerTo_24 : decode b_G_answerTo 24 = .ok (.aload_n 0, 1) := by decide +kernel
theorem d_G_answerTo_25 : decode b_G_answerTo 25 = .ok (.aload_n 1, 1) := by decide +kernel
theorem d_G_answerTo_26 : decode b_G_answerTo 26 = .ok (.iload_n 2, 1) := by decide +kernel
theorem d_G_answerTo_27 : decode b_G_answerTo 27 = .ok (.invokevirtual 362, 3) := by decide +kernel
theorem d_G_answerTo_30 : decode b_G_answerTo 30 = .ok (.astore_n 3, 1) := by decide +kernel
theorem d_G_answerTo_31 : decode b_G_answerTo 31 = .ok (.aload_n 3, 1) := by decide +kernel
theorem d_G_answerTo_32 : decode b_G_answerTo 32 = .ok (.ifnonnull 5, 3) := by decide +kernel
theorem d_G_answerTo_35 : decode b_G_answerTo 35 = .ok (.iconst 2, 1) := by decide +kernel
theorem d_G_answerTo_36 : decode b_G_answerTo 36 = .ok (.ireturn, 1) := by decide +kernel
theorem d_G_answerTo_37 : decode b_G_answerTo 37 = .ok (.aload_n 3, 1) := by decide +kernel
theorem d_G_answerTo_38 : decode b_G_answerTo 38 = .ok (.getfield 366, 3) := by decide +kernel
theorem d_G_answerTo_41 : decode b_G_answerTo 41 = .ok (.ifCond .ne 7, 3) := by decide +kernel
theorem d_G_answerTo_44 : decode b_G_answerTo 44 = .ok (.iconst 3, 1) := by decide +kernel
theorem d_G_answerTo_45 : decode b_G_answerTo 45 = .ok (.goto 4, 3) := by decide +kernel
theorem d_G_answerTo_48 : decode b_G_answerTo 48 = .ok (.iconst 4, 1) := by decide +kernel
theorem d_G_answerTo_49 : decode b_G_answerTo 49 = .ok (.ireturn, 1) := by decide +kernel
theorem d_G_lastWarning_0 : decode b_G_lastWarning 0 = .ok (.aconst_null, 1) := by decide +kernel
theorem d_G_lastWarning_1 : decode b_G_lastWarning 1 = .ok (.astore_n 3, 1) := by decide +kernel
theorem d_G_lastWarning_2 : decode b_G_lastWarning 2 = .ok (.aload_n 0, 1) := by decide +kernel
theorem d_G_lastWarning_3 : decode b_G_lastWarning 3 = .ok (.getfield 23, 3) := by decide +kernel
theorem d_G_lastWarning_6 : decode b_G_lastWarning 6 = .ok (.astore 4, 2) := by decide +kernel
theorem d_G_lastWarning_8 : decode b_G_lastWarning 8 = .ok (.aload 4, 2) := by decide +kernel
theorem d_G_lastWarning_10 : decode b_G_lastWarning 10 = .ok (.arraylength, 1) := by decide +kernel
theorem d_G_lastWarning_11 : decode b_G_lastWarning 11 = .ok (.istore 5, 2) := by decide +kernel
theorem d_G_lastWarning_13 : decode b_G_lastWarning 13 = .ok (.iconst 0, 1) := by decide +kernel
theorem d_G_lastWarning_14 : decode b_G_lastWarning 14 = .ok (.istore 6, 2) := by decide +kernel
theorem d_G_lastWarning_16 : decode b_G_lastWarning 16 = .ok (.iload 6, 2) := by decide +kernel
theorem d_G_lastWarning_18 : decode b_G_lastWarning 18 = .ok (.iload 5, 2) := by decide +kernel
theorem d_G_lastWarning_20 : decode b_G_lastWarning 20 = .ok (.if_icmp .ge 62, 3) := by decide +kernel
theorem d_G_lastWarning_23 : decode b_G_lastWarning 23 = .ok (.aload 4, 2) := by decide +kernel
theorem d_G_lastWarning_25 : decode b_G_lastWarning 25 = .ok (.iload 6, 2) := by decide +kernel
theorem d_G_lastWarning_27 : decode b_G_lastWarning 27 = .ok (.aaload, 1) := by decide +kernel
theorem d_G_lastWarning_28 : decode b_G_lastWarning 28 = .ok (.astore 7, 2) := by decide +kernel
theorem d_G_lastWarning_30 : decode b_G_lastWarning 30 = .ok (.aload 7, 2) := by decide +kernel
theorem d_G_lastWarning_32 : decode b_G_lastWarning 32 = .ok (.ifnull 44, 3) := by decide +kernel
theorem d_G_lastWarning_35 : decode b_G_lastWarning 35 = .ok (.aload 7, 2) := by decide +kernel
theorem d_G_lastWarning_37 : decode b_G_lastWarning 37 = .ok (.getfield 367, 3) := by decide +kernel
theorem d_G_lastWarning_40 : decode b_G_lastWarning 40 = .ok (.iload_n 2, 1) := by decide +kernel
theorem d_G_lastWarning_41 : decode b_G_lastWarning 41 = .ok (.iconst 4, 1) := by decide +kernel
theorem d_G_lastWarning_42 : decode b_G_lastWarning 42 = .ok (.isub, 1) := by decide +kernel
theorem d_G_lastWarning_43 : decode b_G_lastWarning 43 = .ok (.iload_n 2, 1) := by decide +kernel
theorem d_G_lastWarning_44 : decode b_G_lastWarning 44 = .ok (.invokestatic 78, 3) := by decide +kernel
theorem d_G_lastWarning_47 : decode b_G_lastWarning 47 = .ok (.ifCond .eq 29, 3) := by decide +kernel
theorem d_G_lastWarning_50 : decode b_G_lastWarning 50 = .ok (.iload_n 2, 1) := by decide +kernel
theorem d_G_lastWarning_51 : decode b_G_lastWarning 51 = .ok (.aload 7, 2) := by decide +kernel
theorem d_G_lastWarning_53 : decode b_G_lastWarning 53 = .ok (.getfield 368, 3) := by decide +kernel
theorem d_G_lastWarning_56 : decode b_G_lastWarning 56 = .ok (.isub, 1) := by decide +kernel
theorem d_G_lastWarning_57 : decode b_G_lastWarning 57 = .ok (.aload_n 1, 1) := by decide +kernel
theorem d_G_lastWarning_58 : decode b_G_lastWarning 58 = .ok (.invokevirtual 371, 3) := by decide +kernel
theorem d_G_lastWarning_61 : decode b_G_lastWarning 61 = .ok (.if_icmp .lt 15, 3) := by decide +kernel
theorem d_G_lastWarning_64 : decode b_G_lastWarning 64 = .ok (.aload 7, 2) := by decide +kernel
theorem d_G_lastWarning_66 : decode b_G_lastWarning 66 = .ok (.aload_n 1, 1) := by decide +kernel
theorem d_G_lastWarning_67 : decode b_G_lastWarning 67 = .ok (.invokevirtual 351, 3) := by decide +kernel
theorem d_G_lastWarning_70 : decode b_G_lastWarning 70 = .ok (.ifCond .eq 6, 3) := by decide +kernel
theorem d_G_lastWarning_73 : decode b_G_lastWarning 73 = .ok (.aload 7, 2) := by decide +kernel
theorem d_G_lastWarning_75 : decode b_G_lastWarning 75 = .ok (.astore_n 3, 1) := by decide +kernel
theorem d_G_lastWarning_76 : decode b_G_lastWarning 76 = .ok (.iinc 6 1, 3) := by decide +kernel
theorem d_G_lastWarning_79 : decode b_G_lastWarning 79 = .ok (.goto (-63), 3) := by decide +kernel
theorem d_G_lastWarning_82 : decode b_G_lastWarning 82 = .ok (.aload_n 3, 1) := by decide +kernel
theorem d_G_lastWarning_83 : decode b_G_lastWarning 83 = .ok (.areturn, 1) := by decide +kernel
theorem d_G_countOf_0 : decode b_G_countOf 0 = .ok (.iload_n 1, 1) := by decide +kernel
theorem d_G_countOf_1 : decode b_G_countOf 1 = .ok (.tableswitch 141 0 13 #[71, 76, 81, 86, 91, 96, 101, 106, 111, 116, 121, 126, 131, 136], 71) := by decide +kernel
theorem d_G_countOf_72 : decode b_G_countOf 72 = .ok (.aload_n 0, 1) := by decide +kernel
theorem d_G_countOf_73 : decode b_G_countOf 73 = .ok (.getfield 84, 3) := by decide +kernel
theorem d_G_countOf_76 : decode b_G_countOf 76 = .ok (.ireturn, 1) := by decide +kernel
theorem d_G_countOf_77 : decode b_G_countOf 77 = .ok (.aload_n 0, 1) := by decide +kernel
theorem d_G_countOf_78 : decode b_G_countOf 78 = .ok (.getfield 127, 3) := by decide +kernel
theorem d_G_countOf_81 : decode b_G_countOf 81 = .ok (.ireturn, 1) := by decide +kernel
theorem d_G_countOf_82 : decode b_G_countOf 82 = .ok (.aload_n 0, 1) := by decide +kernel
theorem d_G_countOf_83 : decode b_G_countOf 83 = .ok (.getfield 155, 3) := by decide +kernel
theorem d_G_countOf_86 : decode b_G_countOf 86 = .ok (.ireturn, 1) := by decide +kernel
theorem d_G_countOf_87 : decode b_G_countOf 87 = .ok (.aload_n 0, 1) := by decide +kernel
theorem d_G_countOf_88 : decode b_G_countOf 88 = .ok (.getfield 58, 3) := by decide +kernel
theorem d_G_countOf_91 : decode b_G_countOf 91 = .ok (.ireturn, 1) := by decide +kernel
theorem d_G_countOf_92 : decode b_G_countOf 92 = .ok (.aload_n 0, 1) := by decide +kernel
theorem d_G_countOf_93 : decode b_G_countOf 93 = .ok (.invokevirtual 130, 3) := by decide +kernel
theorem d_G_countOf_96 : decode b_G_countOf 96 = .ok (.ireturn, 1) := by decide +kernel
theorem d_G_countOf_97 : decode b_G_countOf 97 = .ok (.aload_n 0, 1) := by decide +kernel
theorem d_G_countOf_98 : decode b_G_countOf 98 = .ok (.invokevirtual 374, 3) := by decide +kernel
theorem d_G_countOf_101 : decode b_G_countOf 101 = .ok (.ireturn, 1) := by decide +kernel
theorem d_G_countOf_102 : decode b_G_countOf 102 = .ok (.aload_n 0, 1) := by decide +kernel
theorem d_G_countOf_103 : decode b_G_countOf 103 = .ok (.invokevirtual 377, 3) := by decide +kernel
theorem d_G_countOf_106 : decode b_G_countOf 106 = .ok (.ireturn, 1) := by decide +kernel
theorem d_G_countOf_107 : decode b_G_countOf 107 = .ok (.aload_n 0, 1) := by decide +kernel
theorem d_G_countOf_108 : decode b_G_countOf 108 = .ok (.invokevirtual 380, 3) := by decide +kernel
theorem d_G_countOf_111 : decode b_G_countOf 111 = .ok (.ireturn, 1) := by decide +kernel
theorem d_G_countOf_112 : decode b_G_countOf 112 = .ok (.aload_n 0, 1) := by decide +kernel
theorem d_G_countOf_113 : decode b_G_countOf 113 = .ok (.getfield 348, 3) := by decide +kernel
theorem d_G_countOf_116 : decode b_G_countOf 116 = .ok (.ireturn, 1) := by decide +kernel
theorem d_G_countOf_117 : decode b_G_countOf 117 = .ok (.aload_n 0, 1) := by decide +kernel
theorem d_G_countOf_118 : decode b_G_countOf 118 = .ok (.invokevirtual 383, 3) := by decide +kernel
theorem d_G_countOf_121 : decode b_G_countOf 121 = .ok (.ireturn, 1) := by decide +kernel
theorem d_G_countOf_122 : decode b_G_countOf 122 = .ok (.aload_n 0, 1) := by decide +kernel
theorem d_G_countOf_123 : decode b_G_countOf 123 = .ok (.getfield 330, 3) := by decide +kernel
theorem d_G_countOf_126 : decode b_G_countOf 126 = .ok (.ireturn, 1) := by decide +kernel
theorem d_G_countOf_127 : decode b_G_countOf 127 = .ok (.aload_n 0, 1) := by decide +kernel
theorem d_G_countOf_128 : decode b_G_countOf 128 = .ok (.getfield 122, 3) := by decide +kernel
theorem d_G_countOf_131 : decode b_G_countOf 131 = .ok (.ireturn, 1) := by decide +kernel
theorem d_G_countOf_132 : decode b_G_countOf 132 = .ok (.aload_n 0, 1) := by decide +kernel
theorem d_G_countOf_133 : decode b_G_countOf 133 = .ok (.invokevirtual 210, 3) := by decide +kernel
theorem d_G_countOf_136 : decode b_G_countOf 136 = .ok (.ireturn, 1) := by decide +kernel
theorem d_G_countOf_137 : decode b_G_countOf 137 = .ok (.aload_n 0, 1) := by decide +kernel
theorem d_G_countOf_138 : decode b_G_countOf 138 = .ok (.getfield 345, 3) := by decide +kernel
theorem d_G_countOf_141 : decode b_G_countOf 141 = .ok (.ireturn, 1) := by decide +kernel
theorem d_G_countOf_142 : decode b_G_countOf 142 = .ok (.aload_n 0, 1) := by decide +kernel
theorem d_G_countOf_143 : decode b_G_countOf 143 = .ok (.invokevirtual 152, 3) := by decide +kernel
theorem d_G_countOf_146 : decode b_G_countOf 146 = .ok (.ireturn, 1) := by decide +kernel
theorem d_G_saltInHoppers_0 : decode b_G_saltInHoppers 0 = .ok (.iconst 0, 1) := by decide +kernel
theorem d_G_saltInHoppers_1 : decode b_G_saltInHoppers 1 = .ok (.istore_n 1, 1) := by decide +kernel
theorem d_G_saltInHoppers_2 : decode b_G_saltInHoppers 2 = .ok (.aload_n 0, 1) := by decide +kernel
theorem d_G_saltInHoppers_3 : decode b_G_saltInHoppers 3 = .ok (.getfield 17, 3) := by decide +kernel
theorem d_G_saltInHoppers_6 : decode b_G_saltInHoppers 6 = .ok (.astore_n 2, 1) := by decide +kernel
theorem d_G_saltInHoppers_7 : decode b_G_saltInHoppers 7 = .ok (.aload_n 2, 1) := by decide +kernel
theorem d_G_saltInHoppers_8 : decode b_G_saltInHoppers 8 = .ok (.arraylength, 1) := by decide +kernel
theorem d_G_saltInHoppers_9 : decode b_G_saltInHoppers 9 = .ok (.istore_n 3, 1) := by decide +kernel
theorem d_G_saltInHoppers_10 : decode b_G_saltInHoppers 10 = .ok (.iconst 0, 1) := by decide +kernel
theorem d_G_saltInHoppers_11 : decode b_G_saltInHoppers 11 = .ok (.istore 4, 2) := by decide +kernel
theorem d_G_saltInHoppers_13 : decode b_G_saltInHoppers 13 = .ok (.iload 4, 2) := by decide +kernel
theorem d_G_saltInHoppers_15 : decode b_G_saltInHoppers 15 = .ok (.iload_n 3, 1) := by decide +kernel
theorem d_G_saltInHoppers_16 : decode b_G_saltInHoppers 16 = .ok (.if_icmp .ge 32, 3) := by decide +kernel
theorem d_G_saltInHoppers_19 : decode b_G_saltInHoppers 19 = .ok (.aload_n 2, 1) := by decide +kernel
theorem d_G_saltInHoppers_20 : decode b_G_saltInHoppers 20 = .ok (.iload 4, 2) := by decide +kernel
theorem d_G_saltInHoppers_22 : decode b_G_saltInHoppers 22 = .ok (.aaload, 1) := by decide +kernel
theorem d_G_saltInHoppers_23 : decode b_G_saltInHoppers 23 = .ok (.astore 5, 2) := by decide +kernel
theorem d_G_saltInHoppers_25 : decode b_G_saltInHoppers 25 = .ok (.iload_n 1, 1) := by decide +kernel
theorem d_G_saltInHoppers_26 : decode b_G_saltInHoppers 26 = .ok (.aload 5, 2) := by decide +kernel
theorem d_G_saltInHoppers_28 : decode b_G_saltInHoppers 28 = .ok (.ifnonnull 7, 3) := by decide +kernel
theorem d_G_saltInHoppers_31 : decode b_G_saltInHoppers 31 = .ok (.iconst 0, 1) := by decide +kernel
theorem d_G_saltInHoppers_32 : decode b_G_saltInHoppers 32 = .ok (.goto 8, 3) := by decide +kernel
theorem d_G_saltInHoppers_35 : decode b_G_saltInHoppers 35 = .ok (.aload 5, 2) := by decide +kernel
theorem d_G_saltInHoppers_37 : decode b_G_saltInHoppers 37 = .ok (.getfield 194, 3) := by decide +kernel
theorem d_G_saltInHoppers_40 : decode b_G_saltInHoppers 40 = .ok (.iadd, 1) := by decide +kernel
theorem d_G_saltInHoppers_41 : decode b_G_saltInHoppers 41 = .ok (.istore_n 1, 1) := by decide +kernel
theorem d_G_saltInHoppers_42 : decode b_G_saltInHoppers 42 = .ok (.iinc 4 1, 3) := by decide +kernel
theorem d_G_saltInHoppers_45 : decode b_G_saltInHoppers 45 = .ok (.goto (-32), 3) := by decide +kernel
theorem d_G_saltInHoppers_48 : decode b_G_saltInHoppers 48 = .ok (.iload_n 1, 1) := by decide +kernel
theorem d_G_saltInHoppers_49 : decode b_G_saltInHoppers 49 = .ok (.ireturn, 1) := by decide +kernel
theorem d_G_saltOnRoads_0 : decode b_G_saltOnRoads 0 = .ok (.iconst 0, 1) := by decide +kernel
theorem d_G_saltOnRoads_1 : decode b_G_saltOnRoads 1 = .ok (.istore_n 1, 1) := by decide +kernel
theorem d_G_saltOnRoads_2 : decode b_G_saltOnRoads 2 = .ok (.aload_n 0, 1) := by decide +kernel
theorem d_G_saltOnRoads_3 : decode b_G_saltOnRoads 3 = .ok (.getfield 11, 3) := by decide +kernel
theorem d_G_saltOnRoads_6 : decode b_G_saltOnRoads 6 = .ok (.astore_n 2, 1) := by decide +kernel
theorem d_G_saltOnRoads_7 : decode b_G_saltOnRoads 7 = .ok (.aload_n 2, 1) := by decide +kernel
theorem d_G_saltOnRoads_8 : decode b_G_saltOnRoads 8 = .ok (.arraylength, 1) := by decide +kernel
theorem d_G_saltOnRoads_9 : decode b_G_saltOnRoads 9 = .ok (.istore_n 3, 1) := by decide +kernel
theorem d_G_saltOnRoads_10 : decode b_G_saltOnRoads 10 = .ok (.iconst 0, 1) := by decide +kernel
theorem d_G_saltOnRoads_11 : decode b_G_saltOnRoads 11 = .ok (.istore 4, 2) := by decide +kernel
theorem d_G_saltOnRoads_13 : decode b_G_saltOnRoads 13 = .ok (.iload 4, 2) := by decide +kernel
theorem d_G_saltOnRoads_15 : decode b_G_saltOnRoads 15 = .ok (.iload_n 3, 1) := by decide +kernel
theorem d_G_saltOnRoads_16 : decode b_G_saltOnRoads 16 = .ok (.if_icmp .ge 35, 3) := by decide +kernel
theorem d_G_saltOnRoads_19 : decode b_G_saltOnRoads 19 = .ok (.aload_n 2, 1) := by decide +kernel
theorem d_G_saltOnRoads_20 : decode b_G_saltOnRoads 20 = .ok (.iload 4, 2) := by decide +kernel
theorem d_G_saltOnRoads_22 : decode b_G_saltOnRoads 22 = .ok (.aaload, 1) := by decide +kernel
theorem d_G_saltOnRoads_23 : decode b_G_saltOnRoads 23 = .ok (.astore 5, 2) := by decide +kernel
theorem d_G_saltOnRoads_25 : decode b_G_saltOnRoads 25 = .ok (.iload_n 1, 1) := by decide +kernel
theorem d_G_saltOnRoads_26 : decode b_G_saltOnRoads 26 = .ok (.aload 5, 2) := by decide +kernel
theorem d_G_saltOnRoads_28 : decode b_G_saltOnRoads 28 = .ok (.ifnonnull 7, 3) := by decide +kernel
theorem d_G_saltOnRoads_31 : decode b_G_saltOnRoads 31 = .ok (.iconst 0, 1) := by decide +kernel
theorem d_G_saltOnRoads_32 : decode b_G_saltOnRoads 32 = .ok (.goto 11, 3) := by decide +kernel
theorem d_G_saltOnRoads_35 : decode b_G_saltOnRoads 35 = .ok (.aload 5, 2) := by decide +kernel
theorem d_G_saltOnRoads_37 : decode b_G_saltOnRoads 37 = .ok (.getfield 245, 3) := by decide +kernel
theorem d_G_saltOnRoads_40 : decode b_G_saltOnRoads 40 = .ok (.getfield 324, 3) := by decide +kernel
theorem d_G_saltOnRoads_43 : decode b_G_saltOnRoads 43 = .ok (.iadd, 1) := by decide +kernel
theorem d_G_saltOnRoads_44 : decode b_G_saltOnRoads 44 = .ok (.istore_n 1, 1) := by decide +kernel
theorem d_G_saltOnRoads_45 : decode b_G_saltOnRoads 45 = .ok (.iinc 4 1, 3) := by decide +kernel
theorem d_G_saltOnRoads_48 : decode b_G_saltOnRoads 48 = .ok (.goto (-35), 3) := by decide +kernel
theorem d_G_saltOnRoads_51 : decode b_G_saltOnRoads 51 = .ok (.iload_n 1, 1) := by decide +kernel
theorem d_G_saltOnRoads_52 : decode b_G_saltOnRoads 52 = .ok (.ireturn, 1) := by decide +kernel
theorem d_G_saltInRiver_0 : decode b_G_saltInRiver 0 = .ok (.iconst 0, 1) := by decide +kernel
theorem d_G_saltInRiver_1 : decode b_G_saltInRiver 1 = .ok (.istore_n 1, 1) := by decide +kernel
theorem d_G_saltInRiver_2 : decode b_G_saltInRiver 2 = .ok (.aload_n 0, 1) := by decide +kernel
theorem d_G_saltInRiver_3 : decode b_G_saltInRiver 3 = .ok (.getfield 11, 3) := by decide +kernel
theorem d_G_saltInRiver_6 : decode b_G_saltInRiver 6 = .ok (.astore_n 2, 1) := by decide +kernel
theorem d_G_saltInRiver_7 : decode b_G_saltInRiver 7 = .ok (.aload_n 2, 1) := by decide +kernel
theorem d_G_saltInRiver_8 : decode b_G_saltInRiver 8 = .ok (.arraylength, 1) := by decide +kernel
theorem d_G_saltInRiver_9 : decode b_G_saltInRiver 9 = .ok (.istore_n 3, 1) := by decide +kernel
theorem d_G_saltInRiver_10 : decode b_G_saltInRiver 10 = .ok (.iconst 0, 1) := by decide +kernel
theorem d_G_saltInRiver_11 : decode b_G_saltInRiver 11 = .ok (.istore 4, 2) := by decide +kernel
theorem d_G_saltInRiver_13 : decode b_G_saltInRiver 13 = .ok (.iload 4, 2) := by decide +kernel
theorem d_G_saltInRiver_15 : decode b_G_saltInRiver 15 = .ok (.iload_n 3, 1) := by decide +kernel
theorem d_G_saltInRiver_16 : decode b_G_saltInRiver 16 = .ok (.if_icmp .ge 35, 3) := by decide +kernel
theorem d_G_saltInRiver_19 : decode b_G_saltInRiver 19 = .ok (.aload_n 2, 1) := by decide +kernel
theorem d_G_saltInRiver_20 : decode b_G_saltInRiver 20 = .ok (.iload 4, 2) := by decide +kernel
theorem d_G_saltInRiver_22 : decode b_G_saltInRiver 22 = .ok (.aaload, 1) := by decide +kernel
theorem d_G_saltInRiver_23 : decode b_G_saltInRiver 23 = .ok (.astore 5, 2) := by decide +kernel
theorem d_G_saltInRiver_25 : decode b_G_saltInRiver 25 = .ok (.iload_n 1, 1) := by decide +kernel
theorem d_G_saltInRiver_26 : decode b_G_saltInRiver 26 = .ok (.aload 5, 2) := by decide +kernel
theorem d_G_saltInRiver_28 : decode b_G_saltInRiver 28 = .ok (.ifnonnull 7, 3) := by decide +kernel
theorem d_G_saltInRiver_31 : decode b_G_saltInRiver 31 = .ok (.iconst 0, 1) := by decide +kernel
theorem d_G_saltInRiver_32 : decode b_G_saltInRiver 32 = .ok (.goto 11, 3) := by decide +kernel
theorem d_G_saltInRiver_35 : decode b_G_saltInRiver 35 = .ok (.aload 5, 2) := by decide +kernel
theorem d_G_saltInRiver_37 : decode b_G_saltInRiver 37 = .ok (.getfield 245, 3) := by decide +kernel
theorem d_G_saltInRiver_40 : decode b_G_saltInRiver 40 = .ok (.getfield 386, 3) := by decide +kernel
theorem d_G_saltInRiver_43 : decode b_G_saltInRiver 43 = .ok (.iadd, 1) := by decide +kernel
theorem d_G_saltInRiver_44 : decode b_G_saltInRiver 44 = .ok (.istore_n 1, 1) := by decide +kernel
theorem d_G_saltInRiver_45 : decode b_G_saltInRiver 45 = .ok (.iinc 4 1, 3) := by decide +kernel
theorem d_G_saltInRiver_48 : decode b_G_saltInRiver 48 = .ok (.goto (-35), 3) := by decide +kernel
theorem d_G_saltInRiver_51 : decode b_G_saltInRiver 51 = .ok (.iload_n 1, 1) := by decide +kernel
theorem d_G_saltInRiver_52 : decode b_G_saltInRiver 52 = .ok (.ireturn, 1) := by decide +kernel
theorem d_G_saltOnFields_0 : decode b_G_saltOnFields 0 = .ok (.iconst 0, 1) := by decide +kernel
theorem d_G_saltOnFields_1 : decode b_G_saltOnFields 1 = .ok (.istore_n 1, 1) := by decide +kernel
theorem d_G_saltOnFields_2 : decode b_G_saltOnFields 2 = .ok (.aload_n 0, 1) := by decide +kernel
theorem d_G_saltOnFields_3 : decode b_G_saltOnFields 3 = .ok (.getfield 11, 3) := by decide +kernel
theorem d_G_saltOnFields_6 : decode b_G_saltOnFields 6 = .ok (.astore_n 2, 1) := by decide +kernel
theorem d_G_saltOnFields_7 : decode b_G_saltOnFields 7 = .ok (.aload_n 2, 1) := by decide +kernel
theorem d_G_saltOnFields_8 : decode b_G_saltOnFields 8 = .ok (.arraylength, 1) := by decide +kernel
theorem d_G_saltOnFields_9 : decode b_G_saltOnFields 9 = .ok (.istore_n 3, 1) := by decide +kernel
theorem d_G_saltOnFields_10 : decode b_G_saltOnFields 10 = .ok (.iconst 0, 1) := by decide +kernel
theorem d_G_saltOnFields_11 : decode b_G_saltOnFields 11 = .ok (.istore 4, 2) := by decide +kernel
theorem d_G_saltOnFields_13 : decode b_G_saltOnFields 13 = .ok (.iload 4, 2) := by decide +kernel
theorem d_G_saltOnFields_15 : decode b_G_saltOnFields 15 = .ok (.iload_n 3, 1) := by decide +kernel
theorem d_G_saltOnFields_16 : decode b_G_saltOnFields 16 = .ok (.if_icmp .ge 35, 3) := by decide +kernel
theorem d_G_saltOnFields_19 : decode b_G_saltOnFields 19 = .ok (.aload_n 2, 1) := by decide +kernel
theorem d_G_saltOnFields_20 : decode b_G_saltOnFields 20 = .ok (.iload 4, 2) := by decide +kernel
theorem d_G_saltOnFields_22 : decode b_G_saltOnFields 22 = .ok (.aaload, 1) := by decide +kernel
theorem d_G_saltOnFields_23 : decode b_G_saltOnFields 23 = .ok (.astore 5, 2) := by decide +kernel
theorem d_G_saltOnFields_25 : decode b_G_saltOnFields 25 = .ok (.iload_n 1, 1) := by decide +kernel
theorem d_G_saltOnFields_26 : decode b_G_saltOnFields 26 = .ok (.aload 5, 2) := by decide +kernel
theorem d_G_saltOnFields_28 : decode b_G_saltOnFields 28 = .ok (.ifnonnull 7, 3) := by decide +kernel
theorem d_G_saltOnFields_31 : decode b_G_saltOnFields 31 = .ok (.iconst 0, 1) := by decide +kernel
theorem d_G_saltOnFields_32 : decode b_G_saltOnFields 32 = .ok (.goto 11, 3) := by decide +kernel
theorem d_G_saltOnFields_35 : decode b_G_saltOnFields 35 = .ok (.aload 5, 2) := by decide +kernel
theorem d_G_saltOnFields_37 : decode b_G_saltOnFields 37 = .ok (.getfield 245, 3) := by decide +kernel
theorem d_G_saltOnFields_40 : decode b_G_saltOnFields 40 = .ok (.getfield 389, 3) := by decide +kernel
theorem d_G_saltOnFields_43 : decode b_G_saltOnFields 43 = .ok (.iadd, 1) := by decide +kernel
theorem d_G_saltOnFields_44 : decode b_G_saltOnFields 44 = .ok (.istore_n 1, 1) := by decide +kernel
theorem d_G_saltOnFields_45 : decode b_G_saltOnFields 45 = .ok (.iinc 4 1, 3) := by decide +kernel
theorem d_G_saltOnFields_48 : decode b_G_saltOnFields 48 = .ok (.goto (-35), 3) := by decide +kernel
theorem d_G_saltOnFields_51 : decode b_G_saltOnFields 51 = .ok (.iload_n 1, 1) := by decide +kernel
theorem d_G_saltOnFields_52 : decode b_G_saltOnFields 52 = .ok (.ireturn, 1) := by decide +kernel
theorem d_G_waterRunOff_0 : decode b_G_waterRunOff 0 = .ok (.iconst 0, 1) := by decide +kernel
theorem d_G_waterRunOff_1 : decode b_G_waterRunOff 1 = .ok (.istore_n 1, 1) := by decide +kernel
theorem d_G_waterRunOff_2 : decode b_G_waterRunOff 2 = .ok (.aload_n 0, 1) := by decide +kernel
theorem d_G_waterRunOff_3 : decode b_G_waterRunOff 3 = .ok (.getfield 11, 3) := by decide +kernel
theorem d_G_waterRunOff_6 : decode b_G_waterRunOff 6 = .ok (.astore_n 2, 1) := by decide +kernel
theorem d_G_waterRunOff_7 : decode b_G_waterRunOff 7 = .ok (.aload_n 2, 1) := by decide +kernel
theorem d_G_waterRunOff_8 : decode b_G_waterRunOff 8 = .ok (.arraylength, 1) := by decide +kernel
theorem d_G_waterRunOff_9 : decode b_G_waterRunOff 9 = .ok (.istore_n 3, 1) := by decide +kernel
theorem d_G_waterRunOff_10 : decode b_G_waterRunOff 10 = .ok (.iconst 0, 1) := by decide +kernel
theorem d_G_waterRunOff_11 : decode b_G_waterRunOff 11 = .ok (.istore 4, 2) := by decide +kernel
theorem d_G_waterRunOff_13 : decode b_G_waterRunOff 13 = .ok (.iload 4, 2) := by decide +kernel
theorem d_G_waterRunOff_15 : decode b_G_waterRunOff 15 = .ok (.iload_n 3, 1) := by decide +kernel
theorem d_G_waterRunOff_16 : decode b_G_waterRunOff 16 = .ok (.if_icmp .ge 35, 3) := by decide +kernel
theorem d_G_waterRunOff_19 : decode b_G_waterRunOff 19 = .ok (.aload_n 2, 1) := by decide +kernel
theorem d_G_waterRunOff_20 : decode b_G_waterRunOff 20 = .ok (.iload 4, 2) := by decide +kernel
theorem d_G_waterRunOff_22 : decode b_G_waterRunOff 22 = .ok (.aaload, 1) := by decide +kernel
theorem d_G_waterRunOff_23 : decode b_G_waterRunOff 23 = .ok (.astore 5, 2) := by decide +kernel
theorem d_G_waterRunOff_25 : decode b_G_waterRunOff 25 = .ok (.iload_n 1, 1) := by decide +kernel
theorem d_G_waterRunOff_26 : decode b_G_waterRunOff 26 = .ok (.aload 5, 2) := by decide +kernel
theorem d_G_waterRunOff_28 : decode b_G_waterRunOff 28 = .ok (.ifnonnull 7, 3) := by decide +kernel
theorem d_G_waterRunOff_31 : decode b_G_waterRunOff 31 = .ok (.iconst 0, 1) := by decide +kernel
theorem d_G_waterRunOff_32 : decode b_G_waterRunOff 32 = .ok (.goto 11, 3) := by decide +kernel
theorem d_G_waterRunOff_35 : decode b_G_waterRunOff 35 = .ok (.aload 5, 2) := by decide +kernel
theorem d_G_waterRunOff_37 : decode b_G_waterRunOff 37 = .ok (.getfield 245, 3) := by decide +kernel
theorem d_G_waterRunOff_40 : decode b_G_waterRunOff 40 = .ok (.getfield 392, 3) := by decide +kernel
theorem d_G_waterRunOff_43 : decode b_G_waterRunOff 43 = .ok (.iadd, 1) := by decide +kernel
theorem d_G_waterRunOff_44 : decode b_G_waterRunOff 44 = .ok (.istore_n 1, 1) := by decide +kernel
theorem d_G_waterRunOff_45 : decode b_G_waterRunOff 45 = .ok (.iinc 4 1, 3) := by decide +kernel
theorem d_G_waterRunOff_48 : decode b_G_waterRunOff 48 = .ok (.goto (-35), 3) := by decide +kernel
theorem d_G_waterRunOff_51 : decode b_G_waterRunOff 51 = .ok (.iload_n 1, 1) := by decide +kernel
theorem d_G_waterRunOff_52 : decode b_G_waterRunOff 52 = .ok (.ireturn, 1) := by decide +kernel
theorem d_G_deliveriesOnTheirWay_0 : decode b_G_deliveriesOnTheirWay 0 = .ok (.iconst 0, 1) := by decide +kernel
theorem d_G_deliveriesOnTheirWay_1 : decode b_G_deliveriesOnTheirWay 1 = .ok (.istore_n 1, 1) := by decide +kernel
theorem d_G_deliveriesOnTheirWay_2 : decode b_G_deliveriesOnTheirWay 2 = .ok (.aload_n 0, 1) := by decide +kernel
theorem d_G_deliveriesOnTheirWay_3 : decode b_G_deliveriesOnTheirWay 3 = .ok (.getfield 29, 3) := by decide +kernel
theorem d_G_deliveriesOnTheirWay_6 : decode b_G_deliveriesOnTheirWay 6 = .ok (.astore_n 2, 1) := by decide +kernel
theorem d_G_deliveriesOnTheirWay_7 : decode b_G_deliveriesOnTheirWay 7 = .ok (.aload_n 2, 1) := by decide +kernel
theorem d_G_deliveriesOnTheirWay_8 : decode b_G_deliveriesOnTheirWay 8 = .ok (.arraylength, 1) := by decide +kernel
theorem d_G_deliveriesOnTheirWay_9 : decode b_G_deliveriesOnTheirWay 9 = .ok (.istore_n 3, 1) := by decide +kernel
theorem d_G_deliveriesOnTheirWay_10 : decode b_G_deliveriesOnTheirWay 10 = .ok (.iconst 0, 1) := by decide +kernel
theorem d_G_deliveriesOnTheirWay_11 : decode b_G_deliveriesOnTheirWay 11 = .ok (.istore 4, 2) := by decide +kernel
theorem d_G_deliveriesOnTheirWay_13 : decode b_G_deliveriesOnTheirWay 13 = .ok (.iload 4, 2) := by decide +kernel
theorem d_G_deliveriesOnTheirWay_15 : decode b_G_deliveriesOnTheirWay 15 = .ok (.iload_n 3, 1) := by decide +kernel
theorem d_G_deliveriesOnTheirWay_16 : decode b_G_deliveriesOnTheirWay 16 = .ok (.if_icmp .ge 28, 3) := by decide +kernel
theorem d_G_deliveriesOnTheirWay_19 : decode b_G_deliveriesOnTheirWay 19 = .ok (.aload_n 2, 1) := by decide +kernel
theorem d_G_deliveriesOnTheirWay_20 : decode b_G_deliveriesOnTheirWay 20 = .ok (.iload 4, 2) := by decide +kernel
theorem d_G_deliveriesOnTheirWay_22 : decode b_G_deliveriesOnTheirWay 22 = .ok (.aaload, 1) := by decide +kernel
theorem d_G_deliveriesOnTheirWay_23 : decode b_G_deliveriesOnTheirWay 23 = .ok (.astore 5, 2) := by decide +kernel
theorem d_G_deliveriesOnTheirWay_25 : decode b_G_deliveriesOnTheirWay 25 = .ok (.iload_n 1, 1) := by decide +kernel
theorem d_G_deliveriesOnTheirWay_26 : decode b_G_deliveriesOnTheirWay 26 = .ok (.aload 5, 2) := by decide +kernel
theorem d_G_deliveriesOnTheirWay_28 : decode b_G_deliveriesOnTheirWay 28 = .ok (.ifnonnull 7, 3) := by decide +kernel
theorem d_G_deliveriesOnTheirWay_31 : decode b_G_deliveriesOnTheirWay 31 = .ok (.iconst 0, 1) := by decide +kernel
theorem d_G_deliveriesOnTheirWay_32 : decode b_G_deliveriesOnTheirWay 32 = .ok (.goto 4, 3) := by decide +kernel
theorem d_G_deliveriesOnTheirWay_35 : decode b_G_deliveriesOnTheirWay 35 = .ok (.iconst 1, 1) := by decide +kernel
theorem d_G_deliveriesOnTheirWay_36 : decode b_G_deliveriesOnTheirWay 36 = .ok (.iadd, 1) := by decide +kernel
theorem d_G_deliveriesOnTheirWay_37 : decode b_G_deliveriesOnTheirWay 37 = .ok (.istore_n 1, 1) := by decide +kernel
theorem d_G_deliveriesOnTheirWay_38 : decode b_G_deliveriesOnTheirWay 38 = .ok (.iinc 4 1, 3) := by decide +kernel
theorem d_G_deliveriesOnTheirWay_41 : decode b_G_deliveriesOnTheirWay 41 = .ok (.goto (-28), 3) := by decide +kernel
theorem d_G_deliveriesOnTheirWay_44 : decode b_G_deliveriesOnTheirWay 44 = .ok (.iload_n 1, 1) := by decide +kernel
theorem d_G_deliveriesOnTheirWay_45 : decode b_G_deliveriesOnTheirWay 45 = .ok (.ireturn, 1) := by decide +kernel
theorem d_G_slipperyNow_0 : decode b_G_slipperyNow 0 = .ok (.iconst 0, 1) := by decide +kernel
theorem d_G_slipperyNow_1 : decode b_G_slipperyNow 1 = .ok (.istore_n 1, 1) := by decide +kernel
theorem d_G_slipperyNow_2 : decode b_G_slipperyNow 2 = .ok (.aload_n 0, 1) := by decide +kernel
theorem d_G_slipperyNow_3 : decode b_G_slipperyNow 3 = .ok (.getfield 11, 3) := by decide +kernel
theorem d_G_slipperyNow_6 : decode b_G_slipperyNow 6 = .ok (.astore_n 2, 1) := by decide +kernel
theorem d_G_slipperyNow_7 : decode b_G_slipperyNow 7 = .ok (.aload_n 2, 1) := by decide +kernel
theorem d_G_slipperyNow_8 : decode b_G_slipperyNow 8 = .ok (.arraylength, 1) := by decide +kernel
theorem d_G_slipperyNow_9 : decode b_G_slipperyNow 9 = .ok (.istore_n 3, 1) := by decide +kernel
theorem d_G_slipperyNow_10 : decode b_G_slipperyNow 10 = .ok (.iconst 0, 1) := by decide +kernel
theorem d_G_slipperyNow_11 : decode b_G_slipperyNow 11 = .ok (.istore 4, 2) := by decide +kernel
theorem d_G_slipperyNow_13 : decode b_G_slipperyNow 13 = .ok (.iload 4, 2) := by decide +kernel
theorem d_G_slipperyNow_15 : decode b_G_slipperyNow 15 = .ok (.iload_n 3, 1) := by decide +kernel
theorem d_G_slipperyNow_16 : decode b_G_slipperyNow 16 = .ok (.if_icmp .ge 40, 3) := by decide +kernel
theorem d_G_slipperyNow_19 : decode b_G_slipperyNow 19 = .ok (.aload_n 2, 1) := by decide +kernel
theorem d_G_slipperyNow_20 : decode b_G_slipperyNow 20 = .ok (.iload 4, 2) := by decide +kernel
theorem d_G_slipperyNow_22 : decode b_G_slipperyNow 22 = .ok (.aaload, 1) := by decide +kernel
theorem d_G_slipperyNow_23 : decode b_G_slipperyNow 23 = .ok (.astore 5, 2) := by decide +kernel
theorem d_G_slipperyNow_25 : decode b_G_slipperyNow 25 = .ok (.iload_n 1, 1) := by decide +kernel
theorem d_G_slipperyNow_26 : decode b_G_slipperyNow 26 = .ok (.aload 5, 2) := by decide +kernel
theorem d_G_slipperyNow_28 : decode b_G_slipperyNow 28 = .ok (.ifnull 19, 3) := by decide +kernel
theorem d_G_slipperyNow_31 : decode b_G_slipperyNow 31 = .ok (.aload 5, 2) := by decide +kernel
theorem d_G_slipperyNow_33 : decode b_G_slipperyNow 33 = .ok (.aload_n 0, 1) := by decide +kernel
theorem d_G_slipperyNow_34 : decode b_G_slipperyNow 34 = .ok (.getfield 127, 3) := by decide +kernel
theorem d_G_slipperyNow_37 : decode b_G_slipperyNow 37 = .ok (.invokevirtual 355, 3) := by decide +kernel
theorem d_G_slipperyNow_40 : decode b_G_slipperyNow 40 = .ok (.ifCond .eq 7, 3) := by decide +kernel
theorem d_G_slipperyNow_43 : decode b_G_slipperyNow 43 = .ok (.iconst 1, 1) := by decide +kernel
theorem d_G_slipperyNow_44 : decode b_G_slipperyNow 44 = .ok (.goto 4, 3) := by decide +kernel
theorem d_G_slipperyNow_47 : decode b_G_slipperyNow 47 = .ok (.iconst 0, 1) := by decide +kernel
theorem d_G_slipperyNow_48 : decode b_G_slipperyNow 48 = .ok (.iadd, 1) := by decide +kernel
theorem d_G_slipperyNow_49 : decode b_G_slipperyNow 49 = .ok (.istore_n 1, 1) := by decide +kernel
theorem d_G_slipperyNow_50 : decode b_G_slipperyNow 50 = .ok (.iinc 4 1, 3) := by decide +kernel
theorem d_G_slipperyNow_53 : decode b_G_slipperyNow 53 = .ok (.goto (-40), 3) := by decide +kernel
theorem d_G_slipperyNow_56 : decode b_G_slipperyNow 56 = .ok (.iload_n 1, 1) := by decide +kernel
theorem d_G_slipperyNow_57 : decode b_G_slipperyNow 57 = .ok (.ireturn, 1) := by decide +kernel
theorem d_G_shortestWay_0 : decode b_G_shortestWay 0 = .ok (.aload_n 0, 1) := by decide +kernel
theorem d_G_shortestWay_1 : decode b_G_shortestWay 1 = .ok (.getfield 47, 3) := by decide +kernel
theorem d_G_shortestWay_4 : decode b_G_shortestWay 4 = .ok (.ldc_w 278, 3) := by decide +kernel
theorem d_G_shortestWay_7 : decode b_G_shortestWay 7 = .ok (.invokestatic 394, 3) := by decide +kernel
theorem d_G_shortestWay_10 : decode b_G_shortestWay 10 = .ok (.aload_n 0, 1) := by decide +kernel
theorem d_G_shortestWay_11 : decode b_G_shortestWay 11 = .ok (.getfield 47, 3) := by decide +kernel
theorem d_G_shortestWay_14 : decode b_G_shortestWay 14 = .ok (.iload_n 1, 1) := by decide +kernel
theorem d_G_shortestWay_15 : decode b_G_shortestWay 15 = .ok (.iconst 0, 1) := by decide +kernel
theorem d_G_shortestWay_16 : decode b_G_shortestWay 16 = .ok (.invokestatic 400, 3) := by decide +kernel
theorem d_G_shortestWay_19 : decode b_G_shortestWay 19 = .ok (.iconst 1, 1) := by decide +kernel
theorem d_G_shortestWay_20 : decode b_G_shortestWay 20 = .ok (.istore_n 3, 1) := by decide +kernel
theorem d_G_shortestWay_21 : decode b_G_shortestWay 21 = .ok (.iload_n 3, 1) := by decide +kernel
theorem d_G_shortestWay_22 : decode b_G_shortestWay 22 = .ok (.bipush 7, 2) := by decide +kernel
theorem d_G_shortestWay_24 : decode b_G_shortestWay 24 = .ok (.if_icmp .ge 86, 3) := by decide +kernel
theorem d_G_shortestWay_27 : decode b_G_shortestWay 27 = .ok (.aload_n 0, 1) := by decide +kernel
theorem d_G_shortestWay_28 : decode b_G_shortestWay 28 = .ok (.getfield 11, 3) := by decide +kernel
theorem d_G_shortestWay_31 : decode b_G_shortestWay 31 = .ok (.astore 4, 2) := by decide +kernel
theorem d_G_shortestWay_33 : decode b_G_shortestWay 33 = .ok (.aload 4, 2) := by decide +kernel
theorem d_G_shortestWay_35 : decode b_G_shortestWay 35 = .ok (.arraylength, 1) := by decide +kernel
theorem d_G_shortestWay_36 : decode b_G_shortestWay 36 = .ok (.istore 5, 2) := by decide +kernel
theorem d_G_shortestWay_38 : decode b_G_shortestWay 38 = .ok (.iconst 0, 1) := by decide +kernel
theorem d_G_shortestWay_39 : decode b_G_shortestWay 39 = .ok (.istore 6, 2) := by decide +kernel
theorem d_G_shortestWay_41 : decode b_G_shortestWay 41 = .ok (.iload 6, 2) := by decide +kernel
theorem d_G_shortestWay_43 : decode b_G_shortestWay 43 = .ok (.iload 5, 2) := by decide +kernel
theorem d_G_shortestWay_45 : decode b_G_shortestWay 45 = .ok (.if_icmp .ge 59, 3) := by decide +kernel
theorem d_G_shortestWay_48 : decode b_G_shortestWay 48 = .ok (.aload 4, 2) := by decide +kernel
theorem d_G_shortestWay_50 : decode b_G_shortestWay 50 = .ok (.iload 6, 2) := by decide +kernel
theorem d_G_shortestWay_52 : decode b_G_shortestWay 52 = .ok (.aaload, 1) := by decide +kernel
theorem d_G_shortestWay_53 : decode b_G_shortestWay 53 = .ok (.astore 7, 2) := by decide +kernel
theorem d_G_shortestWay_55 : decode b_G_shortestWay 55 = .ok (.aload 7, 2) := by decide +kernel
theorem d_G_shortestWay_57 : decode b_G_shortestWay 57 = .ok (.ifnull 41, 3) := by decide +kernel
theorem d_G_shortestWay_60 : decode b_G_shortestWay 60 = .ok (.aload_n 0, 1) := by decide +kernel
theorem d_G_shortestWay_61 : decode b_G_shortestWay 61 = .ok (.aload 7, 2) := by decide +kernel
theorem d_G_shortestWay_63 : decode b_G_shortestWay 63 = .ok (.getfield 404, 3) := by decide +kernel
theorem d_G_shortestWay_66 : decode b_G_shortestWay 66 = .ok (.aload 7, 2) := by decide +kernel
theorem d_G_shortestWay_68 : decode b_G_shortestWay 68 = .ok (.getfield 407, 3) := by decide +kernel
theorem d_G_shortestWay_71 : decode b_G_shortestWay 71 = .ok (.aload 7, 2) := by decide +kernel
theorem d_G_shortestWay_73 : decode b_G_shortestWay 73 = .ok (.getfield 311, 3) := by decide +kernel
theorem d_G_shortestWay_76 : decode b_G_shortestWay 76 = .ok (.invokevirtual 410, 3) := by decide +kernel
theorem d_G_shortestWay_79 : decode b_G_shortestWay 79 = .ok (.aload_n 0, 1) := by decide +kernel
theorem d_G_shortestWay_80 : decode b_G_shortestWay 80 = .ok (.aload 7, 2) := by decide +kernel
theorem d_G_shortestWay_82 : decode b_G_shortestWay 82 = .ok (.getfield 407, 3) := by decide +kernel
theorem d_G_shortestWay_85 : decode b_G_shortestWay 85 = .ok (.aload 7, 2) := by decide +kernel
theorem d_G_shortestWay_87 : decode b_G_shortestWay 87 = .ok (.getfield 404, 3) := by decide +kernel
theorem d_G_shortestWay_90 : decode b_G_shortestWay 90 = .ok (.aload 7, 2) := by decide +kernel
theorem d_G_shortestWay_92 : decode b_G_shortestWay 92 = .ok (.getfield 311, 3) := by decide +kernel
theorem d_G_shortestWay_95 : decode b_G_shortestWay 95 = .ok (.invokevirtual 410, 3) := by decide +kernel
theorem d_G_shortestWay_98 : decode b_G_shortestWay 98 = .ok (.iinc 6 1, 3) := by decide +kernel
theorem d_G_shortestWay_101 : decode b_G_shortestWay 101 = .ok (.goto (-60), 3) := by decide +kernel
theorem d_G_shortestWay_104 : decode b_G_shortestWay 104 = .ok (.iinc 3 1, 3) := by decide +kernel
theorem d_G_shortestWay_107 : decode b_G_shortestWay 107 = .ok (.goto (-86), 3) := by decide +kernel
theorem d_G_shortestWay_110 : decode b_G_shortestWay 110 = .ok (.aload_n 0, 1) := by decide +kernel
theorem d_G_shortestWay_111 : decode b_G_shortestWay 111 = .ok (.getfield 47, 3) := by decide +kernel
theorem d_G_shortestWay_114 : decode b_G_shortestWay 114 = .ok (.iload_n 2, 1) := by decide +kernel
theorem d_G_shortestWay_115 : decode b_G_shortestWay 115 = .ok (.invokestatic 413, 3) := by decide +kernel
theorem d_G_shortestWay_118 : decode b_G_shortestWay 118 = .ok (.istore_n 3, 1) := by decide +kernel
theorem d_G_shortestWay_119 : decode b_G_shortestWay 119 = .ok (.iload_n 3, 1) := by decide +kernel
theorem d_G_shortestWay_120 : decode b_G_shortestWay 120 = .ok (.ldc_w 278, 3) := by decide +kernel
theorem d_G_shortestWay_123 : decode b_G_shortestWay 123 = .ok (.if_icmp .ne 7, 3) := by decide +kernel
theorem d_G_shortestWay_126 : decode b_G_shortestWay 126 = .ok (.iconst (-1), 1) := by decide +kernel
theorem d_G_shortestWay_127 : decode b_G_shortestWay 127 = .ok (.goto 4, 3) := by decide +kernel
theorem d_G_shortestWay_130 : decode b_G_shortestWay 130 = .ok (.iload_n 3, 1) := by decide +kernel
theorem d_G_shortestWay_131 : decode b_G_shortestWay 131 = .ok (.ireturn, 1) := by decide +kernel
theorem d_G_lowerWay_0 : decode b_G_lowerWay 0 = .ok (.aload_n 0, 1) := by decide +kernel
theorem d_G_lowerWay_1 : decode b_G_lowerWay 1 = .ok (.getfield 47, 3) := by decide +kernel
theorem d_G_lowerWay_4 : decode b_G_lowerWay 4 = .ok (.iload_n 1, 1) := by decide +kernel
theorem d_G_lowerWay_5 : decode b_G_lowerWay 5 = .ok (.invokestatic 413, 3) := by decide +kernel
theorem d_G_lowerWay_8 : decode b_G_lowerWay 8 = .ok (.istore 4, 2) := by decide +kernel
theorem d_G_lowerWay_10 : decode b_G_lowerWay 10 = .ok (.iload 4, 2) := by decide +kernel
theorem d_G_lowerWay_12 : decode b_G_lowerWay 12 = .ok (.ldc_w 278, 3) := by decide +kernel
theorem d_G_lowerWay_15 : decode b_G_lowerWay 15 = .ok (.if_icmp .eq 15, 3) := by decide +kernel
theorem d_G_lowerWay_18 : decode b_G_lowerWay 18 = .ok (.aload_n 0, 1) := by decide +kernel
theorem d_G_lowerWay_19 : decode b_G_lowerWay 19 = .ok (.getfield 47, 3) := by decide +kernel
theorem d_G_lowerWay_22 : decode b_G_lowerWay 22 = .ok (.iload_n 2, 1) := by decide +kernel
theorem d_G_lowerWay_23 : decode b_G_lowerWay 23 = .ok (.iload 4, 2) := by decide +kernel
theorem d_G_lowerWay_25 : decode b_G_lowerWay 25 = .ok (.iload_n 3, 1) := by decide +kernel
theorem d_G_lowerWay_26 : decode b_G_lowerWay 26 = .ok (.iadd, 1) := by decide +kernel
theorem d_G_lowerWay_27 : decode b_G_lowerWay 27 = .ok (.invokestatic 400, 3) := by decide +kernel
theorem d_G_lowerWay_30 : decode b_G_lowerWay 30 = .ok (.return_, 1) := by decide +kernel
theorem d_G_firstSlippery_0 : decode b_G_firstSlippery 0 = .ok (.aload_n 0, 1) := by decide +kernel
theorem d_G_firstSlippery_1 : decode b_G_firstSlippery 1 = .ok (.getfield 43, 3) := by decide +kernel
theorem d_G_firstSlippery_4 : decode b_G_firstSlippery 4 = .ok (.aload_n 1, 1) := by decide +kernel
theorem d_G_firstSlippery_5 : decode b_G_firstSlippery 5 = .ok (.getfield 245, 3) := by decide +kernel
theorem d_G_firstSlippery_8 : decode b_G_firstSlippery 8 = .ok (.invokevirtual 417, 3) := by decide +kernel
theorem d_G_firstSlippery_11 : decode b_G_firstSlippery 11 = .ok (.aload_n 0, 1) := by decide +kernel
theorem d_G_firstSlippery_12 : decode b_G_firstSlippery 12 = .ok (.getfield 43, 3) := by decide +kernel
theorem d_G_firstSlippery_15 : decode b_G_firstSlippery 15 = .ok (.dup, 1) := by decide +kernel
theorem d_G_firstSlippery_16 : decode b_G_firstSlippery 16 = .ok (.getfield 324, 3) := by decide +kernel
theorem d_G_firstSlippery_19 : decode b_G_firstSlippery 19 = .ok (.iload_n 2, 1) := by decide +kernel
theorem d_G_firstSlippery_20 : decode b_G_firstSlippery 20 = .ok (.iadd, 1) := by decide +kernel
theorem d_G_firstSlippery_21 : decode b_G_firstSlippery 21 = .ok (.putfield 324, 3) := by decide +kernel
theorem d_G_firstSlippery_24 : decode b_G_firstSlippery 24 = .ok (.iconst 1, 1) := by decide +kernel
theorem d_G_firstSlippery_25 : decode b_G_firstSlippery 25 = .ok (.istore 4, 2) := by decide +kernel
theorem d_G_firstSlippery_27 : decode b_G_firstSlippery 27 = .ok (.iload 4, 2) := by decide +kernel
theorem d_G_firstSlippery_29 : decode b_G_firstSlippery 29 = .ok (.iload_n 3, 1) := by decide +kernel
theorem d_G_firstSlippery_30 : decode b_G_firstSlippery 30 = .ok (.if_icmp .gt 34, 3) := by decide +kernel
theorem d_G_firstSlippery_33 : decode b_G_firstSlippery 33 = .ok (.aload_n 1, 1) := by decide +kernel
theorem d_G_firstSlippery_34 : decode b_G_firstSlippery 34 = .ok (.aload_n 0, 1) := by decide +kernel
theorem d_G_firstSlippery_35 : decode b_G_firstSlippery 35 = .ok (.getfield 43, 3) := by decide +kernel
theorem d_G_firstSlippery_38 : decode b_G_firstSlippery 38 = .ok (.aload_n 0, 1) := by decide +kernel
theorem d_G_firstSlippery_39 : decode b_G_firstSlippery 39 = .ok (.getfield 36, 3) := by decide +kernel
theorem d_G_firstSlippery_42 : decode b_G_firstSlippery 42 = .ok (.invokevirtual 279, 3) := by decide +kernel
theorem d_G_firstSlippery_45 : decode b_G_firstSlippery 45 = .ok (.aload_n 0, 1) := by decide +kernel
theorem d_G_firstSlippery_46 : decode b_G_firstSlippery 46 = .ok (.getfield 43, 3) := by decide +kernel
theorem d_G_firstSlippery_49 : decode b_G_firstSlippery 49 = .ok (.invokevirtual 421, 3) := by decide +kernel
theorem d_G_firstSlippery_52 : decode b_G_firstSlippery 52 = .ok (.ifCond .eq 6, 3) := by decide +kernel
theorem d_G_firstSlippery_55 : decode b_G_firstSlippery 55 = .ok (.iload 4, 2) := by decide +kernel
theorem d_G_firstSlippery_57 : decode b_G_firstSlippery 57 = .ok (.ireturn, 1) := by decide +kernel
theorem d_G_firstSlippery_58 : decode b_G_firstSlippery 58 = .ok (.iinc 4 1, 3) := by decide +kernel
theorem d_G_firstSlippery_61 : decode b_G_firstSlippery 61 = .ok (.goto (-34), 3) := by decide +kernel
theorem d_G_firstSlippery_64 : decode b_G_firstSlippery 64 = .ok (.iconst (-1), 1) := by decide +kernel
theorem d_G_firstSlippery_65 : decode b_G_firstSlippery 65 = .ok (.ireturn, 1) := by decide +kernel
theorem d_G_leastSalt_0 : decode b_G_leastSalt 0 = .ok (.iconst 0, 1) := by decide +kernel
theorem d_G_leastSalt_1 : decode b_G_leastSalt 1 = .ok (.istore_n 3, 1) := by decide +kernel
theorem d_G_leastSalt_2 : decode b_G_leastSalt 2 = .ok (.iload_n 3, 1) := by decide +kernel
theorem d_G_leastSalt_3 : decode b_G_leastSalt 3 = .ok (.bipush 60, 2) := by decide +kernel
theorem d_G_leastSalt_5 : decode b_G_leastSalt 5 = .ok (.if_icmp .gt 22, 3) := by decide +kernel
theorem d_G_leastSalt_8 : decode b_G_leastSalt 8 = .ok (.aload_n 0, 1) := by decide +kernel
theorem d_G_leastSalt_9 : decode b_G_leastSalt 9 = .ok (.aload_n 1, 1) := by decide +kernel
theorem d_G_leastSalt_10 : decode b_G_leastSalt 10 = .ok (.iload_n 3, 1) := by decide +kernel
theorem d_G_leastSalt_11 : decode b_G_leastSalt 11 = .ok (.iload_n 2, 1) := by decide +kernel
theorem d_G_leastSalt_12 : decode b_G_leastSalt 12 = .ok (.invokevirtual 253, 3) := by decide +kernel
theorem d_G_leastSalt_15 : decode b_G_leastSalt 15 = .ok (.iconst (-1), 1) := by decide +kernel
theorem d_G_leastSalt_16 : decode b_G_leastSalt 16 = .ok (.if_icmp .ne 5, 3) := by decide +kernel
theorem d_G_leastSalt_19 : decode b_G_leastSalt 19 = .ok (.iload_n 3, 1) := by decide +kernel
theorem d_G_leastSalt_20 : decode b_G_leastSalt 20 = .ok (.ireturn, 1) := by decide +kernel
theorem d_G_leastSalt_21 : decode b_G_leastSalt 21 = .ok (.iinc 3 1, 3) := by decide +kernel
theorem d_G_leastSalt_24 : decode b_G_leastSalt 24 = .ok (.goto (-22), 3) := by decide +kernel
theorem d_G_leastSalt_27 : decode b_G_leastSalt 27 = .ok (.iconst (-1), 1) := by decide +kernel
theorem d_G_leastSalt_28 : decode b_G_leastSalt 28 = .ok (.ireturn, 1) := by decide +kernel
theorem d_MLor_init_0 : decode b_MLor_init 0 = .ok (.aload_n 0, 1) := by decide +kernel
theorem d_MLor_init_1 : decode b_MLor_init 1 = .ok (.invokespecial 3, 3) := by decide +kernel
theorem d_MLor_init_4 : decode b_MLor_init 4 = .ok (.aload_n 0, 1) := by decide +kernel
theorem d_MLor_init_5 : decode b_MLor_init 5 = .ok (.iconst (-1), 1) := by decide +kernel
theorem d_MLor_init_6 : decode b_MLor_init 6 = .ok (.putfield 9, 3) := by decide +kernel
theorem d_MLor_init_9 : decode b_MLor_init 9 = .ok (.aload_n 0, 1) := by decide +kernel
theorem d_MLor_init_10 : decode b_MLor_init 10 = .ok (.iconst 2, 1) := by decide +kernel
theorem d_MLor_init_11 : decode b_MLor_init 11 = .ok (.putfield 15, 3) := by decide +kernel
theorem d_MLor_init_14 : decode b_MLor_init 14 = .ok (.aload_n 0, 1) := by decide +kernel
theorem d_MLor_init_15 : decode b_MLor_init 15 = .ok (.bipush 8, 2) := by decide +kernel
theorem d_MLor_init_17 : decode b_MLor_init 17 = .ok (.newarray .int, 2) := by decide +kernel
theorem d_MLor_init_19 : decode b_MLor_init 19 = .ok (.putfield 18, 3) := by decide +kernel
theorem d_MLor_init_22 : decode b_MLor_init 22 = .ok (.aload_n 0, 1) := by decide +kernel
theorem d_MLor_init_23 : decode b_MLor_init 23 = .ok (.iload_n 1, 1) := by decide +kernel
theorem d_MLor_init_24 : decode b_MLor_init 24 = .ok (.putfield 22, 3) := by decide +kernel
theorem d_MLor_init_27 : decode b_MLor_init 27 = .ok (.return_, 1) := by decide +kernel
theorem d_MLor_drop_0 : decode b_MLor_drop 0 = .ok (.aload_n 0, 1) := by decide +kernel
theorem d_MLor_drop_1 : decode b_MLor_drop 1 = .ok (.dup, 1) := by decide +kernel
theorem d_MLor_drop_2 : decode b_MLor_drop 2 = .ok (.getfield 26, 3) := by decide +kernel
theorem d_MLor_drop_5 : decode b_MLor_drop 5 = .ok (.iconst 1, 1) := by decide +kernel
theorem d_MLor_drop_6 : decode b_MLor_drop 6 = .ok (.isub, 1) := by decide +kernel
theorem d_MLor_drop_7 : decode b_MLor_drop 7 = .ok (.putfield 26, 3) := by decide +kernel
theorem d_MLor_drop_10 : decode b_MLor_drop 10 = .ok (.aload_n 0, 1) := by decide +kernel
theorem d_MLor_drop_11 : decode b_MLor_drop 11 = .ok (.getfield 18, 3) := by decide +kernel
theorem d_MLor_drop_14 : decode b_MLor_drop 14 = .ok (.iconst 1, 1) := by decide +kernel
theorem d_MLor_drop_15 : decode b_MLor_drop 15 = .ok (.aload_n 0, 1) := by decide +kernel
theorem d_MLor_drop_16 : decode b_MLor_drop 16 = .ok (.getfield 18, 3) := by decide +kernel
theorem d_MLor_drop_19 : decode b_MLor_drop 19 = .ok (.iconst 0, 1) := by decide +kernel
theorem d_MLor_drop_20 : decode b_MLor_drop 20 = .ok (.aload_n 0, 1) := by decide +kernel
theorem d_MLor_drop_21 : decode b_MLor_drop 21 = .ok (.getfield 26, 3) := by decide +kernel
theorem d_MLor_drop_24 : decode b_MLor_drop 24 = .ok (.invokestatic 29, 3) := by decide +kernel
theorem d_MLor_drop_27 : decode b_MLor_drop 27 = .ok (.return_, 1) := by decide +kernel
theorem d_MLor_of_0 : decode b_MLor_of 0 = .ok (.bipush 9, 2) := by decide +kernel
theorem d_MLor_of_2 : decode b_MLor_of 2 = .ok (.newarray .int, 2) := by decide +kernel
theorem d_MLor_of_4 : decode b_MLor_of 4 = .ok (.dup, 1) := by decide +kernel
theorem d_MLor_of_5 : decode b_MLor_of 5 = .ok (.iconst 0, 1) := by decide +kernel
theorem d_MLor_of_6 : decode b_MLor_of 6 = .ok (.aload_n 0, 1) := by decide +kernel
theorem d_MLor_of_7 : decode b_MLor_of 7 = .ok (.getfield 9, 3) := by decide +kernel
theorem d_MLor_of_10 : decode b_MLor_of 10 = .ok (.iconst (-1), 1) := by decide +kernel
theorem d_MLor_of_11 : decode b_MLor_of 11 = .ok (.if_icmp .ne 10, 3) := by decide +kernel
theorem d_MLor_of_14 : decode b_MLor_of 14 = .ok (.aload_n 0, 1) := by decide +kernel
theorem d_MLor_of_15 : decode b_MLor_of 15 = .ok (.getfield 35, 3) := by decide +kernel
theorem d_MLor_of_18 : decode b_MLor_of 18 = .ok (.goto 4, 3) := by decide +kernel
theorem d_MLor_of_21 : decode b_MLor_of 21 = .ok (.iconst (-1), 1) := by decide +kernel
theorem d_MLor_of_22 : decode b_MLor_of 22 = .ok (.iastore, 1) := by decide +kernel
theorem d_MLor_of_23 : decode b_MLor_of 23 = .ok (.dup, 1) := by decide +kernel
theorem d_MLor_of_24 : decode b_MLor_of 24 = .ok (.iconst 1, 1) := by decide +kernel
theorem d_MLor_of_25 : decode b_MLor_of 25 = .ok (.aload_n 0, 1) := by decide +kernel
theorem d_MLor_of_26 : decode b_MLor_of 26 = .ok (.getfield 9, 3) := by decide +kernel
theorem d_MLor_of_29 : decode b_MLor_of 29 = .ok (.iastore, 1) := by decide +kernel
theorem d_MLor_of_30 : decode b_MLor_of 30 = .ok (.dup, 1) := by decide +kernel
theorem d_MLor_of_31 : decode b_MLor_of 31 = .ok (.iconst 2, 1) := by decide +kernel
theorem d_MLor_of_32 : decode b_MLor_of 32 = .ok (.aload_n 0, 1) := by decide +kernel
theorem d_MLor_of_33 : decode b_MLor_of 33 = .ok (.getfield 38, 3) := by decide +kernel
theorem d_MLor_of_36 : decode b_MLor_of 36 = .ok (.iastore, 1) := by decide +kernel
theorem d_MLor_of_37 : decode b_MLor_of 37 = .ok (.dup, 1) := by decide +kernel
theorem d_MLor_of_38 : decode b_MLor_of 38 = .ok (.iconst 3, 1) := by decide +kernel
theorem d_MLor_of_39 : decode b_MLor_of 39 = .ok (.aload_n 0, 1) := by decide +kernel
theorem d_MLor_of_40 : decode b_MLor_of 40 = .ok (.getfield 41, 3) := by decide +kernel
theorem d_MLor_of_43 : decode b_MLor_of 43 = .ok (.iastore, 1) := by decide +kernel
theorem d_MLor_of_44 : decode b_MLor_of 44 = .ok (.dup, 1) := by decide +kernel
theorem d_MLor_of_45 : decode b_MLor_of 45 = .ok (.iconst 4, 1) := by decide +kernel
theorem d_MLor_of_46 : decode b_MLor_of 46 = .ok (.aload_n 0, 1) := by decide +kernel
theorem d_MLor_of_47 : decode b_MLor_of 47 = .ok (.getfield 15, 3) := by decide +kernel
theorem d_MLor_of_50 : decode b_MLor_of 50 = .ok (.iastore, 1) := by decide +kernel
theorem d_MLor_of_51 : decode b_MLor_of 51 = .ok (.dup, 1) := by decide +kernel
theorem d_MLor_of_52 : decode b_MLor_of 52 = .ok (.iconst 5, 1) := by decide +kernel
theorem d_MLor_of_53 : decode b_MLor_of 53 = .ok (.aload_n 0, 1) := by decide +kernel
theorem d_MLor_of_54 : decode b_MLor_of 54 = .ok (.getfield 22, 3) := by decide +kernel
theorem d_MLor_of_57 : decode b_MLor_of 57 = .ok (.ifCond .eq 7, 3) := by decide +kernel
theorem d_MLor_of_60 : decode b_MLor_of 60 = .ok (.iconst 1, 1) := by decide +kernel
theorem d_MLor_of_61 : decode b_MLor_of 61 = .ok (.goto 4, 3) := by decide +kernel
theorem d_MLor_of_64 : decode b_MLor_of 64 = .ok (.iconst 0, 1) := by decide +kernel
theorem d_MLor_of_65 : decode b_MLor_of 65 = .ok (.iastore, 1) := by decide +kernel
theorem d_MLor_of_66 : decode b_MLor_of 66 = .ok (.dup, 1) := by decide +kernel
theorem d_MLor_of_67 : decode b_MLor_of 67 = .ok (.bipush 6, 2) := by decide +kernel
theorem d_MLor_of_69 : decode b_MLor_of 69 = .ok (.aload_n 0, 1) := by decide +kernel
theorem d_MLor_of_70 : decode b_MLor_of 70 = .ok (.getfield 44, 3) := by decide +kernel
theorem d_MLor_of_73 : decode b_MLor_of 73 = .ok (.iastore, 1) := by decide +kernel
theorem d_MLor_of_74 : decode b_MLor_of 74 = .ok (.dup, 1) := by decide +kernel
theorem d_MLor_of_75 : decode b_MLor_of 75 = .ok (.bipush 7, 2) := by decide +kernel
theorem d_MLor_of_77 : decode b_MLor_of 77 = .ok (.aload_n 0, 1) := by decide +kernel
theorem d_MLor_of_78 : decode b_MLor_of 78 = .ok (.getfield 26, 3) := by decide +kernel
theorem d_MLor_of_81 : decode b_MLor_of 81 = .ok (.iastore, 1) := by decide +kernel
theorem d_MLor_of_82 : decode b_MLor_of 82 = .ok (.dup, 1) := by decide +kernel
theorem d_MLor_of_83 : decode b_MLor_of 83 = .ok (.bipush 8, 2) := by decide +kernel
theorem d_MLor_of_85 : decode b_MLor_of 85 = .ok (.aload_n 0, 1) := by decide +kernel
theorem d_MLor_of_86 : decode b_MLor_of 86 = .ok (.getfield 47, 3) := by decide +kernel
theorem d_MLor_of_89 : decode b_MLor_of 89 = .ok (.iastore, 1) := by decide +kernel
theorem d_MLor_of_90 : decode b_MLor_of 90 = .ok (.astore_n 2, 1) := by decide +kernel
theorem d_MLor_of_91 : decode b_MLor_of 91 = .ok (.aload_n 2, 1) := by decide +kernel
theorem d_MLor_of_92 : decode b_MLor_of 92 = .ok (.iload_n 1, 1) := by decide +kernel
theorem d_MLor_of_93 : decode b_MLor_of 93 = .ok (.iaload, 1) := by decide +kernel
theorem d_MLor_of_94 : decode b_MLor_of 94 = .ok (.ireturn, 1) := by decide +kernel
theorem d_MRoad_init_0 : decode b_MRoad_init 0 = .ok (.aload_n 0, 1) := by decide +kernel
theorem d_MRoad_init_1 : decode b_MRoad_init 1 = .ok (.invokespecial 3, 3) := by decide +kernel
theorem d_MRoad_init_4 : decode b_MRoad_init 4 = .ok (.aload_n 0, 1) := by decide +kernel
theorem d_MRoad_init_5 : decode b_MRoad_init 5 = .ok (.iconst 3, 1) := by decide +kernel
theorem d_MRoad_init_6 : decode b_MRoad_init 6 = .ok (.putfield 9, 3) := by decide +kernel
theorem d_MRoad_init_9 : decode b_MRoad_init 9 = .ok (.aload_n 0, 1) := by decide +kernel
theorem d_MRoad_init_10 : decode b_MRoad_init 10 = .ok (.iconst (-1), 1) := by decide +kernel
theorem d_MRoad_init_11 : decode b_MRoad_init 11 = .ok (.putfield 15, 3) := by decide +kernel
theorem d_MRoad_init_14 : decode b_MRoad_init 14 = .ok (.aload_n 0, 1) := by decide +kernel
theorem d_MRoad_init_15 : decode b_MRoad_init 15 = .ok (.sipush 200, 3) := by decide +kernel
theorem d_MRoad_init_18 : decode b_MRoad_init 18 = .ok (.newarray .boolean, 2) := by decide +kernel
theorem d_MRoad_init_20 : decode b_MRoad_init 20 = .ok (.putfield 18, 3) := by decide +kernel
theorem d_MRoad_init_23 : decode b_MRoad_init 23 = .ok (.aload_n 0, 1) := by decide +kernel
theorem d_MRoad_init_24 : decode b_MRoad_init 24 = .ok (.sipush 200, 3) := by decide +kernel
theorem d_MRoad_init_27 : decode b_MRoad_init 27 = .ok (.newarray .boolean, 2) := by decide +kernel
theorem d_MRoad_init_29 : decode b_MRoad_init 29 = .ok (.putfield 22, 3) := by decide +kernel
theorem d_MRoad_init_32 : decode b_MRoad_init 32 = .ok (.aload_n 0, 1) := by decide +kernel
theorem d_MRoad_init_33 : decode b_MRoad_init 33 = .ok (.iload_n 1, 1) := by decide +kernel
theorem d_MRoad_init_34 : decode b_MRoad_init 34 = .ok (.putfield 25, 3) := by decide +kernel
theorem d_MRoad_init_37 : decode b_MRoad_init 37 = .ok (.aload_n 0, 1) := by decide +kernel
theorem d_MRoad_init_38 : decode b_MRoad_init 38 = .ok (.iload_n 2, 1) := by decide +kernel
theorem d_MRoad_init_39 : decode b_MRoad_init 39 = .ok (.putfield 28, 3) := by decide +kernel
theorem d_MRoad_init_42 : decode b_MRoad_init 42 = .ok (.aload_n 0, 1) := by decide +kernel
theorem d_MRoad_init_43 : decode b_MRoad_init 43 = .ok (.iload_n 3, 1) := by decide +kernel
theorem d_MRoad_init_44 : decode b_MRoad_init 44 = .ok (.putfield 31, 3) := by decide +kernel
theorem d_MRoad_init_47 : decode b_MRoad_init 47 = .ok (.aload_n 0, 1) := by decide +kernel
theorem d_MRoad_init_48 : decode b_MRoad_init 48 = .ok (.iload 4, 2) := by decide +kernel
theorem d_MRoad_init_50 : decode b_MRoad_init 50 = .ok (.putfield 34, 3) := by decide +kernel
theorem d_MRoad_init_53 : decode b_MRoad_init 53 = .ok (.aload_n 0, 1) := by decide +kernel
theorem d_MRoad_init_54 : decode b_MRoad_init 54 = .ok (.iload 5, 2) := by decide +kernel
theorem d_MRoad_init_56 : decode b_MRoad_init 56 = .ok (.putfield 37, 3) := by decide +kernel
theorem d_MRoad_init_59 : decode b_MRoad_init 59 = .ok (.aload_n 0, 1) := by decide +kernel
theorem d_MRoad_init_60 : decode b_MRoad_init 60 = .ok (.iload 6, 2) := by decide +kernel
theorem d_MRoad_init_62 : decode b_MRoad_init 62 = .ok (.putfield 40, 3) := by decide +kernel
theorem d_MRoad_init_65 : decode b_MRoad_init 65 = .ok (.aload_n 0, 1) := by decide +kernel
theorem d_MRoad_init_66 : decode b_MRoad_init 66 = .ok (.iload 7, 2) := by decide +kernel
theorem d_MRoad_init_68 : decode b_MRoad_init 68 = .ok (.putfield 43, 3) := by decide +kernel
theorem d_MRoad_init_71 : decode b_MRoad_init 71 = .ok (.return_, 1) := by decide +kernel
theorem d_MRoad_copyTo_0 : decode b_MRoad_copyTo 0 = .ok (.aload_n 1, 1) := by decide +kernel
theorem d_MRoad_copyTo_1 : decode b_MRoad_copyTo 1 = .ok (.aload_n 0, 1) := by decide +kernel
theorem d_MRoad_copyTo_2 : decode b_MRoad_copyTo 2 = .ok (.getfield 9, 3) := by decide +kernel
theorem d_MRoad_copyTo_5 : decode b_MRoad_copyTo 5 = .ok (.putfield 9, 3) := by decide +kernel
theorem d_MRoad_copyTo_8 : decode b_MRoad_copyTo 8 = .ok (.aload_n 1, 1) := by decide +kernel
theorem d_MRoad_copyTo_9 : decode b_MRoad_copyTo 9 = .ok (.aload_n 0, 1) := by decide +kernel
theorem d_MRoad_copyTo_10 : decode b_MRoad_copyTo 10 = .ok (.getfield 47, 3) := by decide +kernel
theorem d_MRoad_copyTo_13 : decode b_MRoad_copyTo 13 = .ok (.putfield 47, 3) := by decide +kernel
theorem d_MRoad_copyTo_16 : decode b_MRoad_copyTo 16 = .ok (.aload_n 1, 1) := by decide +kernel
theorem d_MRoad_copyTo_17 : decode b_MRoad_copyTo 17 = .ok (.aload_n 0, 1) := by decide +kernel
theorem d_MRoad_copyTo_18 : decode b_MRoad_copyTo 18 = .ok (.getfield 50, 3) := by decide +kernel
theorem d_MRoad_copyTo_21 : decode b_MRoad_copyTo 21 = .ok (.putfield 50, 3) := by decide +kernel
theorem d_MRoad_copyTo_24 : decode b_MRoad_copyTo 24 = .ok (.aload_n 1, 1) := by decide +kernel
theorem d_MRoad_copyTo_25 : decode b_MRoad_copyTo 25 = .ok (.aload_n 0, 1) := by decide +kernel
theorem d_MRoad_copyTo_26 : decode b_MRoad_copyTo 26 = .ok (.getfield 53, 3) := by decide +kernel
theorem d_MRoad_copyTo_29 : decode b_MRoad_copyTo 29 = .ok (.putfield 53, 3) := by decide +kernel
theorem d_MRoad_copyTo_32 : decode b_MRoad_copyTo 32 = .ok (.aload_n 1, 1) := by decide +kernel
theorem d_MRoad_copyTo_33 : decode b_MRoad_copyTo 33 = .ok (.aload_n 0, 1) := by decide +kernel
theorem d_MRoad_copyTo_34 : decode b_MRoad_copyTo 34 = .ok (.getfield 56, 3) := by decide +kernel
theorem d_MRoad_copyTo_37 : decode b_MRoad_copyTo 37 = .ok (.putfield 56, 3) := by decide +kernel
theorem d_MRoad_copyTo_40 : decode b_MRoad_copyTo 40 = .ok (.return_, 1) := by decide +kernel
theorem d_MRoad_bare_0 : decode b_MRoad_bare 0 = .ok (.new 10, 3) := by decide +kernel
theorem d_MRoad_bare_3 : decode b_MRoad_bare 3 = .ok (.dup, 1) := by decide +kernel
theorem d_MRoad_bare_4 : decode b_MRoad_bare 4 = .ok (.aload_n 0, 1) := by decide +kernel
theorem d_MRoad_bare_5 : decode b_MRoad_bare 5 = .ok (.getfield 25, 3) := by decide +kernel
theorem d_MRoad_bare_8 : decode b_MRoad_bare 8 = .ok (.aload_n 0, 1) := by decide +kernel
theorem d_MRoad_bare_9 : decode b_MRoad_bare 9 = .ok (.getfield 28, 3) := by decide +kernel
theorem d_MRoad_bare_12 : decode b_MRoad_bare 12 = .ok (.aload_n 0, 1) := by decide +kernel
theorem d_MRoad_bare_13 : decode b_MRoad_bare 13 = .ok (.getfield 31, 3) := by decide +kernel
theorem d_MRoad_bare_16 : decode b_MRoad_bare 16 = .ok (.aload_n 0, 1) := by decide +kernel
theorem d_MRoad_bare_17 : decode b_MRoad_bare 17 = .ok (.getfield 34, 3) := by decide +kernel
theorem d_MRoad_bare_20 : decode b_MRoad_bare 20 = .ok (.aload_n 0, 1) := by decide +kernel
theorem d_MRoad_bare_21 : decode b_MRoad_bare 21 = .ok (.getfield 37, 3) := by decide +kernel
theorem d_MRoad_bare_24 : decode b_MRoad_bare 24 = .ok (.aload_n 0, 1) := by decide +kernel
theorem d_MRoad_bare_25 : decode b_MRoad_bare 25 = .ok (.getfield 40, 3) := by decide +kernel
theorem d_MRoad_bare_28 : decode b_MRoad_bare 28 = .ok (.aload_n 0, 1) := by decide +kernel
theorem d_MRoad_bare_29 : decode b_MRoad_bare 29 = .ok (.getfield 43, 3) := by decide +kernel
theorem d_MRoad_bare_32 : decode b_MRoad_bare 32 = .ok (.invokespecial 59, 3) := by decide +kernel
theorem d_MRoad_bare_35 : decode b_MRoad_bare 35 = .ok (.areturn, 1) := by decide +kernel
theorem d_MRoad_goal_0 : decode b_MRoad_goal 0 = .ok (.iload_n 1, 1) := by decide +kernel
theorem d_MRoad_goal_1 : decode b_MRoad_goal 1 = .ok (.aload_n 0, 1) := by decide +kernel
theorem d_MRoad_goal_2 : decode b_MRoad_goal 2 = .ok (.getfield 37, 3) := by decide +kernel
theorem d_MRoad_goal_5 : decode b_MRoad_goal 5 = .ok (.iconst 3, 1) := by decide +kernel
theorem d_MRoad_goal_6 : decode b_MRoad_goal 6 = .ok (.idiv, 1) := by decide +kernel
theorem d_MRoad_goal_7 : decode b_MRoad_goal 7 = .ok (.isub, 1) := by decide +kernel
theorem d_MRoad_goal_8 : decode b_MRoad_goal 8 = .ok (.aload_n 0, 1) := by decide +kernel
theorem d_MRoad_goal_9 : decode b_MRoad_goal 9 = .ok (.getfield 40, 3) := by decide +kernel
theorem d_MRoad_goal_12 : decode b_MRoad_goal 12 = .ok (.isub, 1) := by decide +kernel
theorem d_MRoad_goal_13 : decode b_MRoad_goal 13 = .ok (.iload_n 2, 1) := by decide +kernel
theorem d_MRoad_goal_14 : decode b_MRoad_goal 14 = .ok (.ifCond .eq 7, 3) := by decide +kernel
theorem d_MRoad_goal_17 : decode b_MRoad_goal 17 = .ok (.iconst 2, 1) := by decide +kernel
theorem d_MRoad_goal_18 : decode b_MRoad_goal 18 = .ok (.goto 4, 3) := by decide +kernel
theorem d_MRoad_goal_21 : decode b_MRoad_goal 21 = .ok (.iconst 0, 1) := by decide +kernel
theorem d_MRoad_goal_22 : decode b_MRoad_goal 22 = .ok (.isub, 1) := by decide +kernel
theorem d_MRoad_goal_23 : decode b_MRoad_goal 23 = .ok (.ireturn, 1) := by decide +kernel
theorem d_MRoad_point_0 : decode b_MRoad_point 0 = .ok (.aload_n 0, 1) := by decide +kernel
theorem d_MRoad_point_1 : decode b_MRoad_point 1 = .ok (.getfield 47, 3) := by decide +kernel
theorem d_MRoad_point_4 : decode b_MRoad_point 4 = .ok (.aload_n 0, 1) := by decide +kernel
theorem d_MRoad_point_5 : decode b_MRoad_point 5 = .ok (.getfield 50, 3) := by decide +kernel
theorem d_MRoad_point_8 : decode b_MRoad_point 8 = .ok (.iadd, 1) := by decide +kernel
theorem d_MRoad_point_9 : decode b_MRoad_point 9 = .ok (.aload_n 0, 1) := by decide +kernel
theorem d_MRoad_point_10 : decode b_MRoad_point 10 = .ok (.getfield 53, 3) := by decide +kernel
theorem d_MRoad_point_13 : decode b_MRoad_point 13 = .ok (.iadd, 1) := by decide +kernel
theorem d_MRoad_point_14 : decode b_MRoad_point 14 = .ok (.istore_n 1, 1) := by decide +kernel
theorem d_MRoad_point_15 : decode b_MRoad_point 15 = .ok (.iload_n 1, 1) := by decide +kernel
theorem d_MRoad_point_16 : decode b_MRoad_point 16 = .ok (.ifCond .ne 7, 3) := by decide +kernel
theorem d_MRoad_point_19 : decode b_MRoad_point 19 = .ok (.iconst 0, 1) := by decide +kernel
theorem d_MRoad_point_20 : decode b_MRoad_point 20 = .ok (.goto 18, 3) := by decide +kernel
theorem d_MRoad_point_23 : decode b_MRoad_point 23 = .ok (.bipush (-21), 2) := by decide +kernel
theorem d_MRoad_point_25 : decode b_MRoad_point 25 = .ok (.bipush 6, 2) := by decide +kernel
theorem d_MRoad_point_27 : decode b_MRoad_point 27 = .ok (.aload_n 0, 1) := by decide +kernel
theorem d_MRoad_point_28 : decode b_MRoad_point 28 = .ok (.getfield 56, 3) := by decide +kernel
theorem d_MRoad_point_31 : decode b_MRoad_point 31 = .ok (.imul, 1) := by decide +kernel
theorem d_MRoad_point_32 : decode b_MRoad_point 32 = .ok (.iload_n 1, 1) := by decide +kernel
theorem d_MRoad_point_33 : decode b_MRoad_point 33 = .ok (.idiv, 1) := by decide +kernel
theorem d_MRoad_point_34 : decode b_MRoad_point 34 = .ok (.ineg, 1) := by decide +kernel
theorem d_MRoad_point_35 : decode b_MRoad_point 35 = .ok (.invokestatic 62, 3) := by decide +kernel
theorem d_MRoad_point_38 : decode b_MRoad_point 38 = .ok (.ireturn, 1) := by decide +kernel
theorem d_MRoad_pass_0 : decode b_MRoad_pass 0 = .ok (.aload_n 0, 1) := by decide +kernel
theorem d_MRoad_pass_1 : decode b_MRoad_pass 1 = .ok (.aload_n 1, 1) := by decide +kernel
theorem d_MRoad_pass_2 : decode b_MRoad_pass 2 = .ok (.getfield 68, 3) := by decide +kernel
theorem d_MRoad_pass_5 : decode b_MRoad_pass 5 = .ok (.aload_n 1, 1) := by decide +kernel
theorem d_MRoad_pass_6 : decode b_MRoad_pass 6 = .ok (.getfield 73, 3) := by decide +kernel
theorem d_MRoad_pass_9 : decode b_MRoad_pass 9 = .ok (.invokevirtual 76, 3) := by decide +kernel
theorem d_MRoad_pass_12 : decode b_MRoad_pass 12 = .ok (.istore_n 2, 1) := by decide +kernel
theorem d_MRoad_pass_13 : decode b_MRoad_pass 13 = .ok (.aload_n 0, 1) := by decide +kernel
theorem d_MRoad_pass_14 : decode b_MRoad_pass 14 = .ok (.getfield 43, 3) := by decide +kernel
theorem d_MRoad_pass_17 : decode b_MRoad_pass 17 = .ok (.ifCond .eq 7, 3) := by decide +kernel
theorem d_MRoad_pass_20 : decode b_MRoad_pass 20 = .ok (.iconst 2, 1) := by decide +kernel
theorem d_MRoad_pass_21 : decode b_MRoad_pass 21 = .ok (.goto 4, 3) := by decide +kernel
theorem d_MRoad_pass_24 : decode b_MRoad_pass 24 = .ok (.iconst 1, 1) := by decide +kernel
theorem d_MRoad_pass_25 : decode b_MRoad_pass 25 = .ok (.istore_n 3, 1) := by decide +kernel
theorem d_MRoad_pass_26 : decode b_MRoad_pass 26 = .ok (.aload_n 0, 1) := by decide +kernel
theorem d_MRoad_pass_27 : decode b_MRoad_pass 27 = .ok (.aload_n 0, 1) := by decide +kernel
theorem d_MRoad_pass_28 : decode b_MRoad_pass 28 = .ok (.getfield 9, 3) := by decide +kernel
theorem d_MRoad_pass_31 : decode b_MRoad_pass 31 = .ok (.iload_n 2, 1) := by decide +kernel
theorem d_MRoad_pass_32 : decode b_MRoad_pass 32 = .ok (.if_icmp .ge 16, 3) := by decide +kernel
theorem d_MRoad_pass_35 : decode b_MRoad_pass 35 = .ok (.iload_n 2, 1) := by decide +kernel
theorem d_MRoad_pass_36 : decode b_MRoad_pass 36 = .ok (.aload_n 0, 1) := by decide +kernel
theorem d_MRoad_pass_37 : decode b_MRoad_pass 37 = .ok (.getfield 9, 3) := by decide +kernel
theorem d_MRoad_pass_40 : decode b_MRoad_pass 40 = .ok (.iload_n 3, 1) := by decide +kernel
theorem d_MRoad_pass_41 : decode b_MRoad_pass 41 = .ok (.iadd, 1) := by decide +kernel
theorem d_MRoad_pass_42 : decode b_MRoad_pass 42 = .ok (.invokestatic 80, 3) := by decide +kernel
theorem d_MRoad_pass_45 : decode b_MRoad_pass 45 = .ok (.goto 13, 3) := by decide +kernel
theorem d_MRoad_pass_48 : decode b_MRoad_pass 48 = .ok (.iload_n 2, 1) := by decide +kernel
theorem d_MRoad_pass_49 : decode b_MRoad_pass 49 = .ok (.aload_n 0, 1) := by decide +kernel
theorem d_MRoad_pass_50 : decode b_MRoad_pass 50 = .ok (.getfield 9, 3) := by decide +kernel
theorem d_MRoad_pass_53 : decode b_MRoad_pass 53 = .ok (.iload_n 3, 1) := by decide +kernel
theorem d_MRoad_pass_54 : decode b_MRoad_pass 54 = .ok (.isub, 1) := by decide +kernel
theorem d_MRoad_pass_55 : decode b_MRoad_pass 55 = .ok (.invokestatic 62, 3) := by decide +kernel
theorem d_MRoad_pass_58 : decode b_MRoad_pass 58 = .ok (.putfield 9, 3) := by decide +kernel
theorem d_MRoad_pass_61 : decode b_MRoad_pass 61 = .ok (.aload_n 0, 1) := by decide +kernel
theorem d_MRoad_pass_62 : decode b_MRoad_pass 62 = .ok (.dup, 1) := by decide +kernel
theorem d_MRoad_pass_63 : decode b_MRoad_pass 63 = .ok (.getfield 47, 3) := by decide +kernel
theorem d_MRoad_pass_66 : decode b_MRoad_pass 66 = .ok (.aload_n 1, 1) := by decide +kernel
theorem d_MRoad_pass_67 : decode b_MRoad_pass 67 = .ok (.getfield 83, 3) := by decide +kernel
theorem d_MRoad_pass_70 : decode b_MRoad_pass 70 = .ok (.iadd, 1) := by decide +kernel
theorem d_MRoad_pass_71 : decode b_MRoad_pass 71 = .ok (.putfield 47, 3) := by decide +kernel
theorem d_MRoad_pass_74 : decode b_MRoad_pass 74 = .ok (.aload_n 0, 1) := by decide +kernel
theorem d_MRoad_pass_75 : decode b_MRoad_pass 75 = .ok (.dup, 1) := by decide +kernel
theorem d_MRoad_pass_76 : decode b_MRoad_pass 76 = .ok (.getfield 53, 3) := by decide +kernel
theorem d_MRoad_pass_79 : decode b_MRoad_pass 79 = .ok (.aload_n 1, 1) := by decide +kernel
theorem d_MRoad_pass_80 : decode b_MRoad_pass 80 = .ok (.getfield 86, 3) := by decide +kernel
theorem d_MRoad_pass_83 : decode b_MRoad_pass 83 = .ok (.iadd, 1) := by decide +kernel
theorem d_MRoad_pass_84 : decode b_MRoad_pass 84 = .ok (.putfield 53, 3) := by decide +kernel
theorem d_MRoad_pass_87 : decode b_MRoad_pass 87 = .ok (.aload_n 0, 1) := by decide +kernel
theorem d_MRoad_pass_88 : decode b_MRoad_pass 88 = .ok (.getfield 9, 3) := by decide +kernel
theorem d_MRoad_pass_91 : decode b_MRoad_pass 91 = .ok (.aload_n 0, 1) := by decide +kernel
theorem d_MRoad_pass_92 : decode b_MRoad_pass 92 = .ok (.invokevirtual 89, 3) := by decide +kernel
theorem d_MRoad_pass_95 : decode b_MRoad_pass 95 = .ok (.if_icmp .ge 38, 3) := by decide +kernel
theorem d_MRoad_pass_98 : decode b_MRoad_pass 98 = .ok (.iconst 2, 1) := by decide +kernel
theorem d_MRoad_pass_99 : decode b_MRoad_pass 99 = .ok (.aload_n 0, 1) := by decide +kernel
theorem d_MRoad_pass_100 : decode b_MRoad_pass 100 = .ok (.getfield 47, 3) := by decide +kernel
theorem d_MRoad_pass_103 : decode b_MRoad_pass 103 = .ok (.invokestatic 80, 3) := by decide +kernel
theorem d_MRoad_pass_106 : decode b_MRoad_pass 106 = .ok (.istore 4, 2) := by decide +kernel
theorem d_MRoad_pass_108 : decode b_MRoad_pass 108 = .ok (.aload_n 0, 1) := by decide +kernel
theorem d_MRoad_pass_109 : decode b_MRoad_pass 109 = .ok (.dup, 1) := by decide +kernel
theorem d_MRoad_pass_110 : decode b_MRoad_pass 110 = .ok (.getfield 47, 3) := by decide +kernel
theorem d_MRoad_pass_113 : decode b_MRoad_pass 113 = .ok (.iload 4, 2) := by decide +kernel
theorem d_MRoad_pass_115 : decode b_MRoad_pass 115 = .ok (.isub, 1) := by decide +kernel
theorem d_MRoad_pass_116 : decode b_MRoad_pass 116 = .ok (.putfield 47, 3) := by decide +kernel
theorem d_MRoad_pass_119 : decode b_MRoad_pass 119 = .ok (.aload_n 0, 1) := by decide +kernel
theorem d_MRoad_pass_120 : decode b_MRoad_pass 120 = .ok (.dup, 1) := by decide +kernel
theorem d_MRoad_pass_121 : decode b_MRoad_pass 121 = .ok (.getfield 50, 3) := by decide +kernel
theorem d_MRoad_pass_124 : decode b_MRoad_pass 124 = .ok (.iload 4, 2) := by decide +kernel
theorem d_MRoad_pass_126 : decode b_MRoad_pass 126 = .ok (.iadd, 1) := by decide +kernel
theorem d_MRoad_pass_127 : decode b_MRoad_pass 127 = .ok (.putfield 50, 3) := by decide +kernel
theorem d_MRoad_pass_130 : decode b_MRoad_pass 130 = .ok (.goto 74, 3) := by decide +kernel
theorem d_MRoad_pass_133 : decode b_MRoad_pass 133 = .ok (.iconst 1, 1) := by decide +kernel
theorem d_MRoad_pass_134 : decode b_MRoad_pass 134 = .ok (.aload_n 0, 1) := by decide +kernel
theorem d_MRoad_pass_135 : decode b_MRoad_pass 135 = .ok (.getfield 56, 3) := by decide +kernel
theorem d_MRoad_pass_138 : decode b_MRoad_pass 138 = .ok (.iconst 4, 1) := by decide +kernel
theorem d_MRoad_pass_139 : decode b_MRoad_pass 139 = .ok (.idiv, 1) := by decide +kernel
theorem d_MRoad_pass_140 : decode b_MRoad_pass 140 = .ok (.iadd, 1) := by decide +kernel
theorem d_MRoad_pass_141 : decode b_MRoad_pass 141 = .ok (.istore 4, 2) := by decide +kernel
theorem d_MRoad_pass_143 : decode b_MRoad_pass 143 = .ok (.iload 4, 2) := by decide +kernel
theorem d_MRoad_pass_145 : decode b_MRoad_pass 145 = .ok (.aload_n 0, 1) := by decide +kernel
theorem d_MRoad_pass_146 : decode b_MRoad_pass 146 = .ok (.getfield 50, 3) := by decide +kernel
theorem d_MRoad_pass_149 : decode b_MRoad_pass 149 = .ok (.invokestatic 80, 3) := by decide +kernel
theorem d_MRoad_pass_152 : decode b_MRoad_pass 152 = .ok (.istore 5, 2) := by decide +kernel
theorem d_MRoad_pass_154 : decode b_MRoad_pass 154 = .ok (.iload 4, 2) := by decide +kernel
theorem d_MRoad_pass_156 : decode b_MRoad_pass 156 = .ok (.iload 5, 2) := by decide +kernel
theorem d_MRoad_pass_158 : decode b_MRoad_pass 158 = .ok (.isub, 1) := by decide +kernel
theorem d_MRoad_pass_159 : decode b_MRoad_pass 159 = .ok (.aload_n 0, 1) := by decide +kernel
theorem d_MRoad_pass_160 : decode b_MRoad_pass 160 = .ok (.getfield 53, 3) := by decide +kernel
theorem d_MRoad_pass_163 : decode b_MRoad_pass 163 = .ok (.invokestatic 80, 3) := by decide +kernel
theorem d_MRoad_pass_166 : decode b_MRoad_pass 166 = .ok (.istore 6, 2) := by decide +kernel
theorem d_MRoad_pass_168 : decode b_MRoad_pass 168 = .ok (.aload_n 0, 1) := by decide +kernel
theorem d_MRoad_pass_169 : decode b_MRoad_pass 169 = .ok (.dup, 1) := by decide +kernel
theorem d_MRoad_pass_170 : decode b_MRoad_pass 170 = .ok (.getfield 50, 3) := by decide +kernel
theorem d_MRoad_pass_173 : decode b_MRoad_pass 173 = .ok (.iload 5, 2) := by decide +kernel
theorem d_MRoad_pass_175 : decode b_MRoad_pass 175 = .ok (.isub, 1) := by decide +kernel
theorem d_MRoad_pass_176 : decode b_MRoad_pass 176 = .ok (.putfield 50, 3) := by decide +kernel
theorem d_MRoad_pass_179 : decode b_MRoad_pass 179 = .ok (.aload_n 0, 1) := by decide +kernel
theorem d_MRoad_pass_180 : decode b_MRoad_pass 180 = .ok (.dup, 1) := by decide +kernel
theorem d_MRoad_pass_181 : decode b_MRoad_pass 181 = .ok (.getfield 53, 3) := by decide +kernel
theorem d_MRoad_pass_184 : decode b_MRoad_pass 184 = .ok (.iload 6, 2) := by decide +kernel
theorem d_MRoad_pass_186 : decode b_MRoad_pass 186 = .ok (.isub, 1) := by decide +kernel
theorem d_MRoad_pass_187 : decode b_MRoad_pass 187 = .ok (.putfield 53, 3) := by decide +kernel
theorem d_MRoad_pass_190 : decode b_MRoad_pass 190 = .ok (.aload_n 0, 1) := by decide +kernel
theorem d_MRoad_pass_191 : decode b_MRoad_pass 191 = .ok (.dup, 1) := by decide +kernel
theorem d_MRoad_pass_192 : decode b_MRoad_pass 192 = .ok (.getfield 47, 3) := by decide +kernel
theorem d_MRoad_pass_195 : decode b_MRoad_pass 195 = .ok (.iload 5, 2) := by decide +kernel
theorem d_MRoad_pass_197 : decode b_MRoad_pass 197 = .ok (.iload 6, 2) := by decide +kernel
theorem d_MRoad_pass_199 : decode b_MRoad_pass 199 = .ok (.iadd, 1) := by decide +kernel
theorem d_MRoad_pass_200 : decode b_MRoad_pass 200 = .ok (.iadd, 1) := by decide +kernel
theorem d_MRoad_pass_201 : decode b_MRoad_pass 201 = .ok (.putfield 47, 3) := by decide +kernel
theorem d_MRoad_pass_204 : decode b_MRoad_pass 204 = .ok (.aload_n 0, 1) := by decide +kernel
theorem d_MRoad_pass_205 : decode b_MRoad_pass 205 = .ok (.iconst 0, 1) := by decide +kernel
theorem d_MRoad_pass_206 : decode b_MRoad_pass 206 = .ok (.aload_n 0, 1) := by decide +kernel
theorem d_MRoad_pass_207 : decode b_MRoad_pass 207 = .ok (.getfield 47, 3) := by decide +kernel
theorem d_MRoad_pass_210 : decode b_MRoad_pass 210 = .ok (.bipush 8, 2) := by decide +kernel
theorem d_MRoad_pass_212 : decode b_MRoad_pass 212 = .ok (.isub, 1) := by decide +kernel
theorem d_MRoad_pass_213 : decode b_MRoad_pass 213 = .ok (.invokestatic 62, 3) := by decide +kernel
theorem d_MRoad_pass_216 : decode b_MRoad_pass 216 = .ok (.putfield 93, 3) := by decide +kernel
theorem d_MRoad_pass_219 : decode b_MRoad_pass 219 = .ok (.aload_n 0, 1) := by decide +kernel
theorem d_MRoad_pass_220 : decode b_MRoad_pass 220 = .ok (.aload_n 0, 1) := by decide +kernel
theorem d_MRoad_pass_221 : decode b_MRoad_pass 221 = .ok (.getfield 93, 3) := by decide +kernel
theorem d_MRoad_pass_224 : decode b_MRoad_pass 224 = .ok (.ifCond .ne 7, 3) := by decide +kernel
theorem d_MRoad_pass_227 : decode b_MRoad_pass 227 = .ok (.iconst 0, 1) := by decide +kernel
theorem d_MRoad_pass_228 : decode b_MRoad_pass 228 = .ok (.goto 17, 3) := by decide +kernel
theorem d_MRoad_pass_231 : decode b_MRoad_pass 231 = .ok (.aload_n 0, 1) := by decide +kernel
theorem d_MRoad_pass_232 : decode b_MRoad_pass 232 = .ok (.getfield 93, 3) := by decide +kernel
theorem d_MRoad_pass_235 : decode b_MRoad_pass 235 = .ok (.aload_n 0, 1) := by decide +kernel
theorem d_MRoad_pass_236 : decode b_MRoad_pass 236 = .ok (.getfield 56, 3) := by decide +kernel
theorem d_MRoad_pass_239 : decode b_MRoad_pass 239 = .ok (.imul, 1) := by decide +kernel
theorem d_MRoad_pass_240 : decode b_MRoad_pass 240 = .ok (.aload_n 0, 1) := by decide +kernel
theorem d_MRoad_pass_241 : decode b_MRoad_pass 241 = .ok (.getfield 47, 3) := by decide +kernel
theorem d_MRoad_pass_244 : decode b_MRoad_pass 244 = .ok (.idiv, 1) := by decide +kernel
theorem d_MRoad_pass_245 : decode b_MRoad_pass 245 = .ok (.putfield 96, 3) := by decide +kernel
theorem d_MRoad_pass_248 : decode b_MRoad_pass 248 = .ok (.aload_n 0, 1) := by decide +kernel
theorem d_MRoad_pass_249 : decode b_MRoad_pass 249 = .ok (.dup, 1) := by decide +kernel
theorem d_MRoad_pass_250 : decode b_MRoad_pass 250 = .ok (.getfield 47, 3) := by decide +kernel
theorem d_MRoad_pass_253 : decode b_MRoad_pass 253 = .ok (.aload_n 0, 1) := by decide +kernel
theorem d_MRoad_pass_254 : decode b_MRoad_pass 254 = .ok (.getfield 93, 3) := by decide +kernel
theorem d_MRoad_pass_257 : decode b_MRoad_pass 257 = .ok (.isub, 1) := by decide +kernel
theorem d_MRoad_pass_258 : decode b_MRoad_pass 258 = .ok (.putfield 47, 3) := by decide +kernel
theorem d_MRoad_pass_261 : decode b_MRoad_pass 261 = .ok (.aload_n 0, 1) := by decide +kernel
theorem d_MRoad_pass_262 : decode b_MRoad_pass 262 = .ok (.dup, 1) := by decide +kernel
theorem d_MRoad_pass_263 : decode b_MRoad_pass 263 = .ok (.getfield 56, 3) := by decide +kernel
theorem d_MRoad_pass_266 : decode b_MRoad_pass 266 = .ok (.aload_n 0, 1) := by decide +kernel
theorem d_MRoad_pass_267 : decode b_MRoad_pass 267 = .ok (.getfield 96, 3) := by decide +kernel
theorem d_MRoad_pass_270 : decode b_MRoad_pass 270 = .ok (.isub, 1) := by decide +kernel
theorem d_MRoad_pass_271 : decode b_MRoad_pass 271 = .ok (.putfield 56, 3) := by decide +kernel
theorem d_MRoad_pass_274 : decode b_MRoad_pass 274 = .ok (.aload_n 0, 1) := by decide +kernel
theorem d_MRoad_pass_275 : decode b_MRoad_pass 275 = .ok (.aload_n 0, 1) := by decide +kernel
theorem d_MRoad_pass_276 : decode b_MRoad_pass 276 = .ok (.getfield 47, 3) := by decide +kernel
theorem d_MRoad_pass_279 : decode b_MRoad_pass 279 = .ok (.ifCond .le 25, 3) := by decide +kernel
theorem d_MRoad_pass_282 : decode b_MRoad_pass 282 = .ok (.aload_n 0, 1) := by decide +kernel
theorem d_MRoad_pass_283 : decode b_MRoad_pass 283 = .ok (.getfield 34, 3) := by decide +kernel
theorem d_MRoad_pass_286 : decode b_MRoad_pass 286 = .ok (.ifCond .ne 14, 3) := by decide +kernel
theorem d_MRoad_pass_289 : decode b_MRoad_pass 289 = .ok (.iconst 1, 1) := by decide +kernel
theorem d_MRoad_pass_290 : decode b_MRoad_pass 290 = .ok (.aload_n 0, 1) := by decide +kernel
theorem d_MRoad_pass_291 : decode b_MRoad_pass 291 = .ok (.getfield 56, 3) := by decide +kernel
theorem d_MRoad_pass_294 : decode b_MRoad_pass 294 = .ok (.invokestatic 80, 3) := by decide +kernel
theorem d_MRoad_pass_297 : decode b_MRoad_pass 297 = .ok (.goto 27, 3) := by decide +kernel
theorem d_MRoad_pass_300 : decode b_MRoad_pass 300 = .ok (.iconst 0, 1) := by decide +kernel
theorem d_MRoad_pass_301 : decode b_MRoad_pass 301 = .ok (.goto 23, 3) := by decide +kernel
theorem d_MRoad_pass_304 : decode b_MRoad_pass 304 = .ok (.aload_n 1, 1) := by decide +kernel
theorem d_MRoad_pass_305 : decode b_MRoad_pass 305 = .ok (.getfield 99, 3) := by decide +kernel
theorem d_MRoad_pass_308 : decode b_MRoad_pass 308 = .ok (.iconst 2, 1) := by decide +kernel
theorem d_MRoad_pass_309 : decode b_MRoad_pass 309 = .ok (.if_icmp .lt 14, 3) := by decide +kernel
theorem d_MRoad_pass_312 : decode b_MRoad_pass 312 = .ok (.iconst 2, 1) := by decide +kernel
theorem d_MRoad_pass_313 : decode b_MRoad_pass 313 = .ok (.aload_n 0, 1) := by decide +kernel
theorem d_MRoad_pass_314 : decode b_MRoad_pass 314 = .ok (.getfield 56, 3) := by decide +kernel
theorem d_MRoad_pass_317 : decode b_MRoad_pass 317 = .ok (.invokestatic 80, 3) := by decide +kernel
theorem d_MRoad_pass_320 : decode b_MRoad_pass 320 = .ok (.goto 4, 3) := by decide +kernel
theorem d_MRoad_pass_323 : decode b_MRoad_pass 323 = .ok (.iconst 0, 1) := by decide +kernel
theorem d_MRoad_pass_324 : decode b_MRoad_pass 324 = .ok (.putfield 102, 3) := by decide +kernel
theorem d_MRoad_pass_327 : decode b_MRoad_pass 327 = .ok (.aload_n 0, 1) := by decide +kernel
theorem d_MRoad_pass_328 : decode b_MRoad_pass 328 = .ok (.dup, 1) := by decide +kernel
theorem d_MRoad_pass_329 : decode b_MRoad_pass 329 = .ok (.getfield 56, 3) := by decide +kernel
theorem d_MRoad_pass_332 : decode b_MRoad_pass 332 = .ok (.aload_n 0, 1) := by decide +kernel
theorem d_MRoad_pass_333 : decode b_MRoad_pass 333 = .ok (.getfield 102, 3) := by decide +kernel
theorem d_MRoad_pass_336 : decode b_MRoad_pass 336 = .ok (.isub, 1) := by decide +kernel
theorem d_MRoad_pass_337 : decode b_MRoad_pass 337 = .ok (.putfield 56, 3) := by decide +kernel
theorem d_MRoad_pass_340 : decode b_MRoad_pass 340 = .ok (.aload_n 0, 1) := by decide +kernel
theorem d_MRoad_pass_341 : decode b_MRoad_pass 341 = .ok (.getfield 50, 3) := by decide +kernel
theorem d_MRoad_pass_344 : decode b_MRoad_pass 344 = .ok (.iconst 2, 1) := by decide +kernel
theorem d_MRoad_pass_345 : decode b_MRoad_pass 345 = .ok (.if_icmp .ge 11, 3) := by decide +kernel
theorem d_MRoad_pass_348 : decode b_MRoad_pass 348 = .ok (.aload_n 0, 1) := by decide +kernel
theorem d_MRoad_pass_349 : decode b_MRoad_pass 349 = .ok (.getfield 53, 3) := by decide +kernel
theorem d_MRoad_pass_352 : decode b_MRoad_pass 352 = .ok (.iconst 3, 1) := by decide +kernel
theorem d_MRoad_pass_353 : decode b_MRoad_pass 353 = .ok (.if_icmp .lt 7, 3) := by decide +kernel
theorem d_MRoad_pass_356 : decode b_MRoad_pass 356 = .ok (.iconst 1, 1) := by decide +kernel
theorem d_MRoad_pass_357 : decode b_MRoad_pass 357 = .ok (.goto 4, 3) := by decide +kernel
theorem d_MRoad_pass_360 : decode b_MRoad_pass 360 = .ok (.iconst 0, 1) := by decide +kernel
theorem d_MRoad_pass_361 : decode b_MRoad_pass 361 = .ok (.ireturn, 1) := by decide +kernel
theorem d_MRoad_has_0 : decode b_MRoad_has 0 = .ok (.aload_n 0, 1) := by decide +kernel
theorem d_MRoad_has_1 : decode b_MRoad_has 1 = .ok (.getfield 25, 3) := by decide +kernel
theorem d_MRoad_has_4 : decode b_MRoad_has 4 = .ok (.iload_n 1, 1) := by decide +kernel
theorem d_MRoad_has_5 : decode b_MRoad_has 5 = .ok (.if_icmp .eq 11, 3) := by decide +kernel
theorem d_MRoad_has_8 : decode b_MRoad_has 8 = .ok (.aload_n 0, 1) := by decide +kernel
theorem d_MRoad_has_9 : decode b_MRoad_has 9 = .ok (.getfield 28, 3) := by decide +kernel
theorem d_MRoad_has_12 : decode b_MRoad_has 12 = .ok (.iload_n 1, 1) := by decide +kernel
theorem d_MRoad_has_13 : decode b_MRoad_has 13 = .ok (.if_icmp .ne 7, 3) := by decide +kernel
theorem d_MRoad_has_16 : decode b_MRoad_has 16 = .ok (.iconst 1, 1) := by decide +kernel
theorem d_MRoad_has_17 : decode b_MRoad_has 17 = .ok (.goto 4, 3) := by decide +kernel
theorem d_MRoad_has_20 : decode b_MRoad_has 20 = .ok (.iconst 0, 1) := by decide +kernel
theorem d_MRoad_has_21 : decode b_MRoad_has 21 = .ok (.ireturn, 1) := by decide +kernel
theorem d_MRoad_of_0 : decode b_MRoad_of 0 = .ok (.bipush 15, 2) := by decide +kernel
theorem d_MRoad_of_2 : decode b_MRoad_of 2 = .ok (.newarray .int, 2) := by decide +kernel
theorem d_MRoad_of_4 : decode b_MRoad_of 4 = .ok (.dup, 1) := by decide +kernel
theorem d_MRoad_of_5 : decode b_MRoad_of 5 = .ok (.iconst 0, 1) := by decide +kernel
theorem d_MRoad_of_6 : decode b_MRoad_of 6 = .ok (.aload_n 0, 1) := by decide +kernel
theorem d_MRoad_of_7 : decode b_MRoad_of 7 = .ok (.getfield 25, 3) := by decide +kernel
theorem d_MRoad_of_10 : decode b_MRoad_of 10 = .ok (.iastore, 1) := by decide +kernel
theorem d_MRoad_of_11 : decode b_MRoad_of 11 = .ok (.dup, 1) := by decide +kernel
theorem d_MRoad_of_12 : decode b_MRoad_of 12 = .ok (.iconst 1, 1) := by decide +kernel
theorem d_MRoad_of_13 : decode b_MRoad_of 13 = .ok (.aload_n 0, 1) := by decide +kernel
theorem d_MRoad_of_14 : decode b_MRoad_of 14 = .ok (.getfield 28, 3) := by decide +kernel
theorem d_MRoad_of_17 : decode b_MRoad_of 17 = .ok (.iastore, 1) := by decide +kernel
theorem d_MRoad_of_18 : decode b_MRoad_of 18 = .ok (.dup, 1) := by decide +kernel
theorem d_MRoad_of_19 : decode b_MRoad_of 19 = .ok (.iconst 2, 1) := by decide +kernel
theorem d_MRoad_of_20 : decode b_MRoad_of 20 = .ok (.aload_n 0, 1) := by decide +kernel
theorem d_MRoad_of_21 : decode b_MRoad_of 21 = .ok (.getfield 31, 3) := by decide +kernel
theorem d_MRoad_of_24 : decode b_MRoad_of 24 = .ok (.iastore, 1) := by decide +kernel
theorem d_MRoad_of_25 : decode b_MRoad_of 25 = .ok (.dup, 1) := by decide +kernel
theorem d_MRoad_of_26 : decode b_MRoad_of 26 = .ok (.iconst 3, 1) := by decide +kernel
theorem d_MRoad_of_27 : decode b_MRoad_of 27 = .ok (.aload_n 0, 1) := by decide +kernel
theorem d_MRoad_of_28 : decode b_MRoad_of 28 = .ok (.getfield 34, 3) := by decide +kernel
theorem d_MRoad_of_31 : decode b_MRoad_of 31 = .ok (.iastore, 1) := by decide +kernel
theorem d_MRoad_of_32 : decode b_MRoad_of 32 = .ok (.dup, 1) := by decide +kernel
theorem d_MRoad_of_33 : decode b_MRoad_of 33 = .ok (.iconst 4, 1) := by decide +kernel
theorem d_MRoad_of_34 : decode b_MRoad_of 34 = .ok (.aload_n 0, 1) := by decide +kernel
theorem d_MRoad_of_35 : decode b_MRoad_of 35 = .ok (.getfield 37, 3) := by decide +kernel
theorem d_MRoad_of_38 : decode b_MRoad_of 38 = .ok (.iastore, 1) := by decide +kernel
theorem d_MRoad_of_39 : decode b_MRoad_of 39 = .ok (.dup, 1) := by decide +kernel
theorem d_MRoad_of_40 : decode b_MRoad_of 40 = .ok (.iconst 5, 1) := by decide +kernel
theorem d_MRoad_of_41 : decode b_MRoad_of 41 = .ok (.aload_n 0, 1) := by decide +kernel
theorem d_MRoad_of_42 : decode b_MRoad_of 42 = .ok (.getfield 40, 3) := by decide +kernel
theorem d_MRoad_of_45 : decode b_MRoad_of 45 = .ok (.iastore, 1) := by decide +kernel
theorem d_MRoad_of_46 : decode b_MRoad_of 46 = .ok (.dup, 1) := by decide +kernel
theorem d_MRoad_of_47 : decode b_MRoad_of 47 = .ok (.bipush 6, 2) := by decide +kernel
theorem d_MRoad_of_49 : decode b_MRoad_of 49 = .ok (.aload_n 0, 1) := by decide +kernel
theorem d_MRoad_of_50 : decode b_MRoad_of 50 = .ok (.getfield 43, 3) := by decide +kernel
theorem d_MRoad_of_53 : decode b_MRoad_of 53 = .ok (.ifCond .eq 7, 3) := by decide +kernel
theorem d_MRoad_of_56 : decode b_MRoad_of 56 = .ok (.iconst 1, 1) := by decide +kernel
theorem d_MRoad_of_57 : decode b_MRoad_of 57 = .ok (.goto 4, 3) := by decide +kernel
theorem d_MRoad_of_60 : decode b_MRoad_of 60 = .ok (.iconst 0, 1) := by decide +kernel
theorem d_MRoad_of_61 : decode b_MRoad_of 61 = .ok (.iastore, 1) := by decide +kernel
theorem d_MRoad_of_62 : decode b_MRoad_of 62 = .ok (.dup, 1) := by decide +kernel
theorem d_MRoad_of_63 : decode b_MRoad_of 63 = .ok (.bipush 7, 2) := by decide +kernel
theorem d_MRoad_of_65 : decode b_MRoad_of 65 = .ok (.aload_n 0, 1) := by decide +kernel
theorem d_MRoad_of_66 : decode b_MRoad_of 66 = .ok (.getfield 9, 3) := by decide +kernel
theorem d_MRoad_of_69 : decode b_MRoad_of 69 = .ok (.iastore, 1) := by decide +kernel
theorem d_MRoad_of_70 : decode b_MRoad_of 70 = .ok (.dup, 1) := by decide +kernel
theorem d_MRoad_of_71 : decode b_MRoad_of 71 = .ok (.bipush 8, 2) := by decide +kernel
theorem d_MRoad_of_73 : decode b_MRoad_of 73 = .ok (.aload_n 0, 1) := by decide +kernel
theorem d_MRoad_of_74 : decode b_MRoad_of 74 = .ok (.getfield 47, 3) := by decide +kernel
theorem d_MRoad_of_77 : decode b_MRoad_of 77 = .ok (.iastore, 1) := by decide +kernel
theorem d_MRoad_of_78 : decode b_MRoad_of 78 = .ok (.dup, 1) := by decide +kernel
theorem d_MRoad_of_79 : decode b_MRoad_of 79 = .ok (.bipush 9, 2) := by decide +kernel
theorem d_MRoad_of_81 : decode b_MRoad_of 81 = .ok (.aload_n 0, 1) := by decide +kernel
theorem d_MRoad_of_82 : decode b_MRoad_of 82 = .ok (.getfield 50, 3) := by decide +kernel
theorem d_MRoad_of_85 : decode b_MRoad_of 85 = .ok (.iastore, 1) := by decide +kernel
theorem d_MRoad_of_86 : decode b_MRoad_of 86 = .ok (.dup, 1) := by decide +kernel
theorem d_MRoad_of_87 : decode b_MRoad_of 87 = .ok (.bipush 10, 2) := by decide +kernel
theorem d_MRoad_of_89 : decode b_MRoad_of 89 = .ok (.aload_n 0, 1) := by decide +kernel
theorem d_MRoad_of_90 : decode b_MRoad_of 90 = .ok (.getfield 53, 3) := by decide +kernel
theorem d_MRoad_of_93 : decode b_MRoad_of 93 = .ok (.iastore, 1) := by decide +kernel
theorem d_MRoad_of_94 : decode b_MRoad_of 94 = .ok (.dup, 1) := by decide +kernel
theorem d_MRoad_of_95 : decode b_MRoad_of 95 = .ok (.bipush 11, 2) := by decide +kernel
theorem d_MRoad_of_97 : decode b_MRoad_of 97 = .ok (.aload_n 0, 1) := by decide +kernel
theorem d_MRoad_of_98 : decode b_MRoad_of 98 = .ok (.getfield 56, 3) := by decide +kernel
theorem d_MRoad_of_101 : decode b_MRoad_of 101 = .ok (.iastore, 1) := by decide +kernel
theorem d_MRoad_of_102 : decode b_MRoad_of 102 = .ok (.dup, 1) := by decide +kernel
theorem d_MRoad_of_103 : decode b_MRoad_of 103 = .ok (.bipush 12, 2) := by decide +kernel
theorem d_MRoad_of_105 : decode b_MRoad_of 105 = .ok (.aload_n 0, 1) := by decide +kernel
theorem d_MRoad_of_106 : decode b_MRoad_of 106 = .ok (.invokevirtual 89, 3) := by decide +kernel
theorem d_MRoad_of_109 : decode b_MRoad_of 109 = .ok (.iastore, 1) := by decide +kernel
theorem d_MRoad_of_110 : decode b_MRoad_of 110 = .ok (.dup, 1) := by decide +kernel
theorem d_MRoad_of_111 : decode b_MRoad_of 111 = .ok (.bipush 13, 2) := by decide +kernel
theorem d_MRoad_of_113 : decode b_MRoad_of 113 = .ok (.aload_n 0, 1) := by decide +kernel
theorem d_MRoad_of_114 : decode b_MRoad_of 114 = .ok (.getfield 105, 3) := by decide +kernel
theorem d_MRoad_of_117 : decode b_MRoad_of 117 = .ok (.iastore, 1) := by decide +kernel
theorem d_MRoad_of_118 : decode b_MRoad_of 118 = .ok (.dup, 1) := by decide +kernel
theorem d_MRoad_of_119 : decode b_MRoad_of 119 = .ok (.bipush 14, 2) := by decide +kernel
theorem d_MRoad_of_121 : decode b_MRoad_of 121 = .ok (.aload_n 0, 1) := by decide +kernel
theorem d_MRoad_of_122 : decode b_MRoad_of 122 = .ok (.getfield 15, 3) := by decide +kernel
theorem d_MRoad_of_125 : decode b_MRoad_of 125 = .ok (.iastore, 1) := by decide +kernel
theorem d_MRoad_of_126 : decode b_MRoad_of 126 = .ok (.astore_n 2, 1) := by decide +kernel
theorem d_MRoad_of_127 : decode b_MRoad_of 127 = .ok (.aload_n 2, 1) := by decide +kernel
theorem d_MRoad_of_128 : decode b_MRoad_of 128 = .ok (.iload_n 1, 1) := by decide +kernel
theorem d_MRoad_of_129 : decode b_MRoad_of 129 = .ok (.iaload, 1) := by decide +kernel
theorem d_MRoad_of_130 : decode b_MRoad_of 130 = .ok (.ireturn, 1) := by decide +kernel
theorem d_MWea_init_0 : decode b_MWea_init 0 = .ok (.aload_n 0, 1) := by decide +kernel
theorem d_MWea_init_1 : decode b_MWea_init 1 = .ok (.invokespecial 1, 3) := by decide +kernel
theorem d_MWea_init_4 : decode b_MWea_init 4 = .ok (.aload_n 0, 1) := by decide +kernel
theorem d_MWea_init_5 : decode b_MWea_init 5 = .ok (.iconst 5, 1) := by decide +kernel
theorem d_MWea_init_6 : decode b_MWea_init 6 = .ok (.putfield 7, 3) := by decide +kernel
theorem d_MWea_init_9 : decode b_MWea_init 9 = .ok (.return_, 1) := by decide +kernel
theorem d_M_init_0 : decode b_M_init 0 = .ok (.aload_n 0, 1) := by decide +kernel
theorem d_M_init_1 : decode b_M_init 1 = .ok (.invokespecial 1, 3) := by decide +kernel
theorem d_M_init_4 : decode b_M_init 4 = .ok (.aload_n 0, 1) := by decide +kernel
theorem d_M_init_5 : decode b_M_init 5 = .ok (.new 7, 3) := by decide +kernel
theorem d_M_init_8 : decode b_M_init 8 = .ok (.dup, 1) := by decide +kernel
theorem d_M_init_9 : decode b_M_init 9 = .ok (.invokespecial 9, 3) := by decide +kernel
theorem d_M_init_12 : decode b_M_init 12 = .ok (.putfield 10, 3) := by decide +kernel
theorem d_M_init_15 : decode b_M_init 15 = .ok (.aload_n 0, 1) := by decide +kernel
theorem d_M_init_16 : decode b_M_init 16 = .ok (.new 7, 3) := by decide +kernel
theorem d_M_init_19 : decode b_M_init 19 = .ok (.dup, 1) := by decide +kernel
theorem d_M_init_20 : decode b_M_init 20 = .ok (.invokespecial 9, 3) := by decide +kernel
theorem d_M_init_23 : decode b_M_init 23 = .ok (.putfield 16, 3) := by decide +kernel
theorem d_M_init_26 : decode b_M_init 26 = .ok (.aload_n 0, 1) := by decide +kernel
theorem d_M_init_27 : decode b_M_init 27 = .ok (.bipush 20, 2) := by decide +kernel
theorem d_M_init_29 : decode b_M_init 29 = .ok (.bipush 7, 2) := by decide +kernel
theorem d_M_init_31 : decode b_M_init 31 = .ok (.multianewarray 19 2, 4) := by decide +kernel
theorem d_M_init_35 : decode b_M_init 35 = .ok (.putfield 21, 3) := by decide +kernel
theorem d_M_init_38 : decode b_M_init 38 = .ok (.aload_n 0, 1) := by decide +kernel
theorem d_M_init_39 : decode b_M_init 39 = .ok (.iconst 5, 1) := by decide +kernel
theorem d_M_init_40 : decode b_M_init 40 = .ok (.iconst 2, 1) := by decide +kernel
theorem d_M_init_41 : decode b_M_init 41 = .ok (.multianewarray 19 2, 4) := by decide +kernel
theorem d_M_init_45 : decode b_M_init 45 = .ok (.putfield 24, 3) := by decide +kernel
theorem d_M_init_48 : decode b_M_init 48 = .ok (.aload_n 0, 1) := by decide +kernel
theorem d_M_init_49 : decode b_M_init 49 = .ok (.new 27, 3) := by decide +kernel
theorem d_M_init_52 : decode b_M_init 52 = .ok (.dup, 1) := by decide +kernel
theorem d_M_init_53 : decode b_M_init 53 = .ok (.invokespecial 29, 3) := by decide +kernel
theorem d_M_init_56 : decode b_M_init 56 = .ok (.putfield 30, 3) := by decide +kernel
theorem d_M_init_59 : decode b_M_init 59 = .ok (.aload_n 0, 1) := by decide +kernel
theorem d_M_init_60 : decode b_M_init 60 = .ok (.bipush 100, 2) := by decide +kernel
theorem d_M_init_62 : decode b_M_init 62 = .ok (.putfield 34, 3) := by decide +kernel
theorem d_M_init_65 : decode b_M_init 65 = .ok (.return_, 1) := by decide +kernel
theorem d_M_thrown_0 : decode b_M_thrown 0 = .ok (.aload_n 0, 1) := by decide +kernel
theorem d_M_thrown_1 : decode b_M_thrown 1 = .ok (.getfield 38, 3) := by decide +kernel
theorem d_M_thrown_4 : decode b_M_thrown 4 = .ok (.ireturn, 1) := by decide +kernel
theorem d_M_no_0 : decode b_M_no 0 = .ok (.aload_n 0, 1) := by decide +kernel
theorem d_M_no_1 : decode b_M_no 1 = .ok (.iload_n 1, 1) := by decide +kernel
theorem d_M_no_2 : decode b_M_no 2 = .ok (.putfield 38, 3) := by decide +kernel
theorem d_M_no_5 : decode b_M_no 5 = .ok (.iconst 0, 1) := by decide +kernel
theorem d_M_no_6 : decode b_M_no 6 = .ok (.ireturn, 1) := by decide +kernel
theorem d_M_in_0 : decode b_M_in 0 = .ok (.iload_n 0, 1) := by decide +kernel
theorem d_M_in_1 : decode b_M_in 1 = .ok (.iload_n 1, 1) := by decide +kernel
theorem d_M_in_2 : decode b_M_in 2 = .ok (.if_icmp .lt 12, 3) := by decide +kernel
theorem d_M_in_5 : decode b_M_in 5 = .ok (.iload_n 0, 1) := by decide +kernel
theorem d_M_in_6 : decode b_M_in 6 = .ok (.iload_n 2, 1) := by decide +kernel
theorem d_M_in_7 : decode b_M_in 7 = .ok (.if_icmp .gt 7, 3) := by decide +kernel
theorem d_M_in_10 : decode b_M_in 10 = .ok (.iconst 1, 1) := by decide +kernel
theorem d_M_in_11 : decode b_M_in 11 = .ok (.goto 4, 3) := by decide +kernel
theorem d_M_in_14 : decode b_M_in 14 = .ok (.iconst 0, 1) := by decide +kernel
theorem d_M_in_15 : decode b_M_in 15 = .ok (.ireturn, 1) := by decide +kernel
theorem d_M_work_0 : decode b_M_work 0 = .ok (.aload_n 1, 1) := by decide +kernel
theorem d_M_work_1 : decode b_M_work 1 = .ok (.getfield 41, 3) := by decide +kernel
theorem d_M_work_4 : decode b_M_work 4 = .ok (.ifCond .eq 12, 3) := by decide +kernel
theorem d_M_work_7 : decode b_M_work 7 = .ok (.aload_n 1, 1) := by decide +kernel
theorem d_M_work_8 : decode b_M_work 8 = .ok (.getfield 46, 3) := by decide +kernel
theorem d_M_work_11 : decode b_M_work 11 = .ok (.bipush 40, 2) := by decide +kernel
theorem d_M_work_13 : decode b_M_work 13 = .ok (.if_icmp .lt 4, 3) := by decide +kernel
theorem d_M_work_16 : decode b_M_work 16 = .ok (.return_, 1) := by decide +kernel
theorem d_M_work_17 : decode b_M_work 17 = .ok (.aload_n 1, 1) := by decide +kernel
theorem d_M_work_18 : decode b_M_work 18 = .ok (.dup, 1) := by decide +kernel
theorem d_M_work_19 : decode b_M_work 19 = .ok (.getfield 46, 3) := by decide +kernel
theorem d_M_work_22 : decode b_M_work 22 = .ok (.iconst 1, 1) := by decide +kernel
theorem d_M_work_23 : decode b_M_work 23 = .ok (.iadd, 1) := by decide +kernel
theorem d_M_work_24 : decode b_M_work 24 = .ok (.putfield 46, 3) := by decide +kernel
theorem d_M_work_27 : decode b_M_work 27 = .ok (.aload_n 0, 1) := by decide +kernel
theorem d_M_work_28 : decode b_M_work 28 = .ok (.getfield 10, 3) := by decide +kernel
theorem d_M_work_31 : decode b_M_work 31 = .ok (.aload_n 1, 1) := by decide +kernel
theorem d_M_work_32 : decode b_M_work 32 = .ok (.getfield 49, 3) := by decide +kernel
theorem d_M_work_35 : decode b_M_work 35 = .ok (.iconst 0, 1) := by decide +kernel
theorem d_M_work_36 : decode b_M_work 36 = .ok (.iaload, 1) := by decide +kernel
theorem d_M_work_37 : decode b_M_work 37 = .ok (.invokeinterface 53 2, 5) := by decide +kernel
theorem d_M_work_42 : decode b_M_work 42 = .ok (.checkcast 59, 3) := by decide +kernel
theorem d_M_work_45 : decode b_M_work 45 = .ok (.astore_n 2, 1) := by decide +kernel
theorem d_M_work_46 : decode b_M_work 46 = .ok (.aload_n 1, 1) := by decide +kernel
theorem d_M_work_47 : decode b_M_work 47 = .ok (.getfield 61, 3) := by decide +kernel
theorem d_M_work_50 : decode b_M_work 50 = .ok (.iconst (-1), 1) := by decide +kernel
theorem d_M_work_51 : decode b_M_work 51 = .ok (.if_icmp .ne 19, 3) := by decide +kernel
theorem d_M_work_54 : decode b_M_work 54 = .ok (.aload_n 2, 1) := by decide +kernel
theorem d_M_work_55 : decode b_M_work 55 = .ok (.aload_n 1, 1) := by decide +kernel
theorem d_M_work_56 : decode b_M_work 56 = .ok (.getfield 64, 3) := by decide +kernel
theorem d_M_work_59 : decode b_M_work 59 = .ok (.invokevirtual 67, 3) := by decide +kernel
theorem d_M_work_62 : decode b_M_work 62 = .ok (.ifCond .ne 8, 3) := by decide +kernel
theorem d_M_work_65 : decode b_M_work 65 = .ok (.aload_n 1, 1) := by decide +kernel
theorem d_M_work_66 : decode b_M_work 66 = .ok (.invokevirtual 71, 3) := by decide +kernel
theorem d_M_work_69 : decode b_M_work 69 = .ok (.return_, 1) := by decide +kernel
theorem d_M_work_70 : decode b_M_work 70 = .ok (.aload_n 1, 1) := by decide +kernel
theorem d_M_work_71 : decode b_M_work 71 = .ok (.aload_n 1, 1) := by decide +kernel
theorem d_M_work_72 : decode b_M_work 72 = .ok (.getfield 49, 3) := by decide +kernel
theorem d_M_work_75 : decode b_M_work 75 = .ok (.iconst 0, 1) := by decide +kernel
theorem d_M_work_76 : decode b_M_work 76 = .ok (.iaload, 1) := by decide +kernel
theorem d_M_work_77 : decode b_M_work 77 = .ok (.putfield 61, 3) := by decide +kernel
theorem d_M_work_80 : decode b_M_work 80 = .ok (.aload_n 1, 1) := by decide +kernel
theorem d_M_work_81 : decode b_M_work 81 = .ok (.dup, 1) := by decide +kernel
theorem d_M_work_82 : decode b_M_work 82 = .ok (.getfield 74, 3) := by decide +kernel
theorem d_M_work_85 : decode b_M_work 85 = .ok (.iconst 1, 1) := by decide +kernel
theorem d_M_work_86 : decode b_M_work 86 = .ok (.iadd, 1) := by decide +kernel
theorem d_M_work_87 : decode b_M_work 87 = .ok (.putfield 74, 3) := by decide +kernel
theorem d_M_work_90 : decode b_M_work 90 = .ok (.aload_n 1, 1) := by decide +kernel
theorem d_M_work_91 : decode b_M_work 91 = .ok (.getfield 74, 3) := by decide +kernel
theorem d_M_work_94 : decode b_M_work 94 = .ok (.aload_n 2, 1) := by decide +kernel
theorem d_M_work_95 : decode b_M_work 95 = .ok (.getfield 77, 3) := by decide +kernel
theorem d_M_work_98 : decode b_M_work 98 = .ok (.if_icmp .ge 4, 3) := by decide +kernel
theorem d_M_work_101 : decode b_M_work 101 = .ok (.return_, 1) := by decide +kernel
theorem d_M_work_102 : decode b_M_work 102 = .ok (.aload_n 1, 1) := by decide +kernel
theorem d_M_work_103 : decode b_M_work 103 = .ok (.aload_n 2, 1) := by decide +kernel
theorem d_M_work_104 : decode b_M_work 104 = .ok (.getfield 80, 3) := by decide +kernel
theorem d_M_work_107 : decode b_M_work 107 = .ok (.aload_n 2, 1) := by decide +kernel
theorem d_M_work_108 : decode b_M_work 108 = .ok (.getfield 83, 3) := by decide +kernel
theorem d_M_work_111 : decode b_M_work 111 = .ok (.iadd, 1) := by decide +kernel
theorem d_M_work_112 : decode b_M_work 112 = .ok (.aload_n 1, 1) := by decide +kernel
theorem d_M_work_113 : decode b_M_work 113 = .ok (.getfield 64, 3) := by decide +kernel
theorem d_M_work_116 : decode b_M_work 116 = .ok (.isub, 1) := by decide +kernel
theorem d_M_work_117 : decode b_M_work 117 = .ok (.putfield 64, 3) := by decide +kernel
theorem d_M_work_120 : decode b_M_work 120 = .ok (.aload_n 1, 1) := by decide +kernel
theorem d_M_work_121 : decode b_M_work 121 = .ok (.iconst (-1), 1) := by decide +kernel
theorem d_M_work_122 : decode b_M_work 122 = .ok (.putfield 61, 3) := by decide +kernel
theorem d_M_work_125 : decode b_M_work 125 = .ok (.aload_n 1, 1) := by decide +kernel
theorem d_M_work_126 : decode b_M_work 126 = .ok (.iconst 0, 1) := by decide +kernel
theorem d_M_work_127 : decode b_M_work 127 = .ok (.putfield 74, 3) := by decide +kernel
theorem d_M_work_130 : decode b_M_work 130 = .ok (.aload_n 1, 1) := by decide +kernel
theorem d_M_work_131 : decode b_M_work 131 = .ok (.invokevirtual 71, 3) := by decide +kernel
theorem d_M_work_134 : decode b_M_work 134 = .ok (.aload_n 1, 1) := by decide +kernel
theorem d_M_work_135 : decode b_M_work 135 = .ok (.getfield 86, 3) := by decide +kernel
theorem d_M_work_138 : decode b_M_work 138 = .ok (.aload_n 1, 1) := by decide +kernel
theorem d_M_work_139 : decode b_M_work 139 = .ok (.getfield 89, 3) := by decide +kernel
theorem d_M_work_142 : decode b_M_work 142 = .ok (.aload_n 2, 1) := by decide +kernel
theorem d_M_work_143 : decode b_M_work 143 = .ok (.getfield 77, 3) := by decide +kernel
theorem d_M_work_146 : decode b_M_work 146 = .ok (.imul, 1) := by decide +kernel
theorem d_M_work_147 : decode b_M_work 147 = .ok (.invokestatic 92, 3) := by decide +kernel
theorem d_M_work_150 : decode b_M_work 150 = .ok (.istore_n 3, 1) := by decide +kernel
theorem d_M_work_151 : decode b_M_work 151 = .ok (.aload_n 1, 1) := by decide +kernel
theorem d_M_work_152 : decode b_M_work 152 = .ok (.dup, 1) := by decide +kernel
theorem d_M_work_153 : decode b_M_work 153 = .ok (.getfield 86, 3) := by decide +kernel
theorem d_M_work_156 : decode b_M_work 156 = .ok (.iload_n 3, 1) := by decide +kernel
theorem d_M_work_157 : decode b_M_work 157 = .ok (.isub, 1) := by decide +kernel
theorem d_M_work_158 : decode b_M_work 158 = .ok (.putfield 86, 3) := by decide +kernel
theorem d_M_work_161 : decode b_M_work 161 = .ok (.aload_n 1, 1) := by decide +kernel
theorem d_M_work_162 : decode b_M_work 162 = .ok (.dup, 1) := by decide +kernel
theorem d_M_work_163 : decode b_M_work 163 = .ok (.getfield 98, 3) := by decide +kernel
theorem d_M_work_166 : decode b_M_work 166 = .ok (.iload_n 3, 1) := by decide +kernel
theorem d_M_work_167 : decode b_M_work 167 = .ok (.iadd, 1) := by decide +kernel
theorem d_M_work_168 : decode b_M_work 168 = .ok (.putfield 98, 3) := by decide +kernel
theorem d_M_work_171 : decode b_M_work 171 = .ok (.aload_n 2, 1) := by decide +kernel
theorem d_M_work_172 : decode b_M_work 172 = .ok (.dup, 1) := by decide +kernel
theorem d_M_work_173 : decode b_M_work 173 = .ok (.getfield 101, 3) := by decide +kernel
theorem d_M_work_176 : decode b_M_work 176 = .ok (.iload_n 3, 1) := by decide +kernel
theorem d_M_work_177 : decode b_M_work 177 = .ok (.iadd, 1) := by decide +kernel
theorem d_M_work_178 : decode b_M_work 178 = .ok (.putfield 101, 3) := by decide +kernel
theorem d_M_work_181 : decode b_M_work 181 = .ok (.aload_n 1, 1) := by decide +kernel
theorem d_M_work_182 : decode b_M_work 182 = .ok (.getfield 104, 3) := by decide +kernel
theorem d_M_work_185 : decode b_M_work 185 = .ok (.ifCond .eq 21, 3) := by decide +kernel
theorem d_M_work_188 : decode b_M_work 188 = .ok (.aload_n 0, 1) := by decide +kernel
theorem d_M_work_189 : decode b_M_work 189 = .ok (.dup, 1) := by decide +kernel
theorem d_M_work_190 : decode b_M_work 190 = .ok (.getfield 108, 3) := by decide +kernel
theorem d_M_work_193 : decode b_M_work 193 = .ok (.aload_n 2, 1) := by decide +kernel
theorem d_M_work_194 : decode b_M_work 194 = .ok (.getfield 111, 3) := by decide +kernel
theorem d_M_work_197 : decode b_M_work 197 = .ok (.iadd, 1) := by decide +kernel
theorem d_M_work_198 : decode b_M_work 198 = .ok (.putfield 108, 3) := by decide +kernel
theorem d_M_work_201 : decode b_M_work 201 = .ok (.aload_n 2, 1) := by decide +kernel
theorem d_M_work_202 : decode b_M_work 202 = .ok (.iconst 0, 1) := by decide +kernel
theorem d_M_work_203 : decode b_M_work 203 = .ok (.putfield 111, 3) := by decide +kernel
theorem d_M_work_206 : decode b_M_work 206 = .ok (.iload_n 3, 1) := by decide +kernel
theorem d_M_work_207 : decode b_M_work 207 = .ok (.ifCond .ne 11, 3) := by decide +kernel
theorem d_M_work_210 : decode b_M_work 210 = .ok (.aload_n 1, 1) := by decide +kernel
theorem d_M_work_211 : decode b_M_work 211 = .ok (.getfield 104, 3) := by decide +kernel
theorem d_M_work_214 : decode b_M_work 214 = .ok (.ifCond .ne 4, 3) := by decide +kernel
theorem d_M_work_217 : decode b_M_work 217 = .ok (.return_, 1) := by decide +kernel
theorem d_M_work_218 : decode b_M_work 218 = .ok (.aload_n 2, 1) := by decide +kernel
theorem d_M_work_219 : decode b_M_work 219 = .ok (.aload_n 0, 1) := by decide +kernel
theorem d_M_work_220 : decode b_M_work 220 = .ok (.getfield 114, 3) := by decide +kernel
theorem d_M_work_223 : decode b_M_work 223 = .ok (.putfield 117, 3) := by decide +kernel
theorem d_M_work_226 : decode b_M_work 226 = .ok (.aload_n 2, 1) := by decide +kernel
theorem d_M_work_227 : decode b_M_work 227 = .ok (.getfield 120, 3) := by decide +kernel
theorem d_M_work_230 : decode b_M_work 230 = .ok (.aload_n 0, 1) := by decide +kernel
theorem d_M_work_231 : decode b_M_work 231 = .ok (.getfield 114, 3) := by decide +kernel
theorem d_M_work_234 : decode b_M_work 234 = .ok (.iconst 1, 1) := by decide +kernel
theorem d_M_work_235 : decode b_M_work 235 = .ok (.bastore, 1) := by decide +kernel
theorem d_M_work_236 : decode b_M_work 236 = .ok (.return_, 1) := by decide +kernel
theorem d_M_quarter_0 : decode b_M_quarter 0 = .ok (.aload_n 0, 1) := by decide +kernel
theorem d_M_quarter_1 : decode b_M_quarter 1 = .ok (.dup, 1) := by decide +kernel
theorem d_M_quarter_2 : decode b_M_quarter 2 = .ok (.getfield 114, 3) := by decide +kernel
theorem d_M_quarter_5 : decode b_M_quarter 5 = .ok (.iconst 1, 1) := by decide +kernel
theorem d_M_quarter_6 : decode b_M_quarter 6 = .ok (.iadd, 1) := by decide +kernel
theorem d_M_quarter_7 : decode b_M_quarter 7 = .ok (.putfield 114, 3) := by decide +kernel
theorem d_M_quarter_10 : decode b_M_quarter 10 = .ok (.iconst 0, 1) := by decide +kernel
theorem d_M_quarter_11 : decode b_M_quarter 11 = .ok (.istore_n 1, 1) := by decide +kernel
theorem d_M_quarter_12 : decode b_M_quarter 12 = .ok (.iconst 0, 1) := by decide +kernel
theorem d_M_quarter_13 : decode b_M_quarter 13 = .ok (.istore_n 2, 1) := by decide +kernel
theorem d_M_quarter_14 : decode b_M_quarter 14 = .ok (.iload_n 2, 1) := by decide +kernel
theorem d_M_quarter_15 : decode b_M_quarter 15 = .ok (.aload_n 0, 1) := by decide +kernel
theorem d_M_quarter_16 : decode b_M_quarter 16 = .ok (.getfield 10, 3) := by decide +kernel
theorem d_M_quarter_19 : decode b_M_quarter 19 = .ok (.invokeinterface 124 1, 5) := by decide +kernel
theorem d_M_quarter_24 : decode b_M_quarter 24 = .ok (.if_icmp .ge 115, 3) := by decide +kernel
theorem d_M_quarter_27 : decode b_M_quarter 27 = .ok (.aload_n 0, 1) := by decide +kernel
theorem d_M_quarter_28 : decode b_M_quarter 28 = .ok (.getfield 10, 3) := by decide +kernel
theorem d_M_quarter_31 : decode b_M_quarter 31 = .ok (.iload_n 2, 1) := by decide +kernel
theorem d_M_quarter_32 : decode b_M_quarter 32 = .ok (.invokeinterface 53 2, 5) := by decide +kernel
theorem d_M_quarter_37 : decode b_M_quarter 37 = .ok (.checkcast 59, 3) := by decide +kernel
theorem d_M_quarter_40 : decode b_M_quarter 40 = .ok (.astore_n 3, 1) := by decide +kernel
theorem d_M_quarter_41 : decode b_M_quarter 41 = .ok (.aload_n 3, 1) := by decide +kernel
theorem d_M_quarter_42 : decode b_M_quarter 42 = .ok (.aload_n 0, 1) := by decide +kernel
theorem d_M_quarter_43 : decode b_M_quarter 43 = .ok (.getfield 30, 3) := by decide +kernel
theorem d_M_quarter_46 : decode b_M_quarter 46 = .ok (.invokevirtual 128, 3) := by decide +kernel
theorem d_M_quarter_49 : decode b_M_quarter 49 = .ok (.istore 4, 2) := by decide +kernel
theorem d_M_quarter_51 : decode b_M_quarter 51 = .ok (.aload_n 3, 1) := by decide +kernel
theorem d_M_quarter_52 : decode b_M_quarter 52 = .ok (.getfield 132, 3) := by decide +kernel
theorem d_M_quarter_55 : decode b_M_quarter 55 = .ok (.aload_n 0, 1) := by decide +kernel
theorem d_M_quarter_56 : decode b_M_quarter 56 = .ok (.getfield 114, 3) := by decide +kernel
theorem d_M_quarter_59 : decode b_M_quarter 59 = .ok (.iload 4, 2) := by decide +kernel
theorem d_M_quarter_61 : decode b_M_quarter 61 = .ok (.bastore, 1) := by decide +kernel
theorem d_M_quarter_62 : decode b_M_quarter 62 = .ok (.aload_n 3, 1) := by decide +kernel
theorem d_M_quarter_63 : decode b_M_quarter 63 = .ok (.dup, 1) := by decide +kernel
theorem d_M_quarter_64 : decode b_M_quarter 64 = .ok (.getfield 135, 3) := by decide +kernel
theorem d_M_quarter_67 : decode b_M_quarter 67 = .ok (.iload 4, 2) := by decide +kernel
theorem d_M_quarter_69 : decode b_M_quarter 69 = .ok (.ifCond .eq 7, 3) := by decide +kernel
theorem d_M_quarter_72 : decode b_M_quarter 72 = .ok (.iconst 1, 1) := by decide +kernel
theorem d_M_quarter_73 : decode b_M_quarter 73 = .ok (.goto 4, 3) := by decide +kernel
theorem d_M_quarter_76 : decode b_M_quarter 76 = .ok (.iconst 0, 1) := by decide +kernel
theorem d_M_quarter_77 : decode b_M_quarter 77 = .ok (.iadd, 1) := by decide +kernel
theorem d_M_quarter_78 : decode b_M_quarter 78 = .ok (.putfield 135, 3) := by decide +kernel
theorem d_M_quarter_81 : decode b_M_quarter 81 = .ok (.iload_n 1, 1) := by decide +kernel
theorem d_M_quarter_82 : decode b_M_quarter 82 = .ok (.iload 4, 2) := by decide +kernel
theorem d_M_quarter_84 : decode b_M_quarter 84 = .ok (.ifCond .eq 7, 3) := by decide +kernel
theorem d_M_quarter_87 : decode b_M_quarter 87 = .ok (.iconst 1, 1) := by decide +kernel
theorem d_M_quarter_88 : decode b_M_quarter 88 = .ok (.goto 4, 3) := by decide +kernel
theorem d_M_quarter_91 : decode b_M_quarter 91 = .ok (.iconst 0, 1) := by decide +kernel
theorem d_M_quarter_92 : decode b_M_quarter 92 = .ok (.iadd, 1) := by decide +kernel
theorem d_M_quarter_93 : decode b_M_quarter 93 = .ok (.istore_n 1, 1) := by decide +kernel
theorem d_M_quarter_94 : decode b_M_quarter 94 = .ok (.aload_n 0, 1) := by decide +kernel
theorem d_M_quarter_95 : decode b_M_quarter 95 = .ok (.dup, 1) := by decide +kernel
theorem d_M_quarter_96 : decode b_M_quarter 96 = .ok (.getfield 138, 3) := by decide +kernel
theorem d_M_quarter_99 : decode b_M_quarter 99 = .ok (.aload_n 3, 1) := by decide +kernel
theorem d_M_quarter_100 : decode b_M_quarter 100 = .ok (.getfield 141, 3) := by decide +kernel
theorem d_M_quarter_103 : decode b_M_quarter 103 = .ok (.iadd, 1) := by decide +kernel
theorem d_M_quarter_104 : decode b_M_quarter 104 = .ok (.putfield 138, 3) := by decide +kernel
theorem d_M_quarter_107 : decode b_M_quarter 107 = .ok (.aload_n 0, 1) := by decide +kernel
theorem d_M_quarter_108 : decode b_M_quarter 108 = .ok (.dup, 1) := by decide +kernel
theorem d_M_quarter_109 : decode b_M_quarter 109 = .ok (.getfield 144, 3) := by decide +kernel
theorem d_M_quarter_112 : decode b_M_quarter 112 = .ok (.aload_n 3, 1) := by decide +kernel
theorem d_M_quarter_113 : decode b_M_quarter 113 = .ok (.getfield 147, 3) := by decide +kernel
theorem d_M_quarter_116 : decode b_M_quarter 116 = .ok (.iadd, 1) := by decide +kernel
theorem d_M_quarter_117 : decode b_M_quarter 117 = .ok (.putfield 144, 3) := by decide +kernel
theorem d_M_quarter_120 : decode b_M_quarter 120 = .ok (.aload_n 0, 1) := by decide +kernel
theorem d_M_quarter_121 : decode b_M_quarter 121 = .ok (.dup, 1) := by decide +kernel
theorem d_M_quarter_122 : decode b_M_quarter 122 = .ok (.getfield 150, 3) := by decide +kernel
theorem d_M_quarter_125 : decode b_M_quarter 125 = .ok (.aload_n 3, 1) := by decide +kernel
theorem d_M_quarter_126 : decode b_M_quarter 126 = .ok (.getfield 153, 3) := by decide +kernel
theorem d_M_quarter_129 : decode b_M_quarter 129 = .ok (.iadd, 1) := by decide +kernel
theorem d_M_quarter_130 : decode b_M_quarter 130 = .ok (.putfield 150, 3) := by decide +kernel
theorem d_M_quarter_133 : decode b_M_quarter 133 = .ok (.iinc 2 1, 3) := by decide +kernel
theorem d_M_quarter_136 : decode b_M_quarter 136 = .ok (.goto (-122), 3) := by decide +kernel
theorem d_M_quarter_139 : decode b_M_quarter 139 = .ok (.iconst 0, 1) := by decide +kernel
theorem d_M_quarter_140 : decode b_M_quarter 140 = .ok (.istore_n 2, 1) := by decide +kernel
theorem d_M_quarter_141 : decode b_M_quarter 141 = .ok (.iload_n 2, 1) := by decide +kernel
theorem d_M_quarter_142 : decode b_M_quarter 142 = .ok (.aload_n 0, 1) := by decide +kernel
theorem d_M_quarter_143 : decode b_M_quarter 143 = .ok (.getfield 16, 3) := by decide +kernel
theorem d_M_quarter_146 : decode b_M_quarter 146 = .ok (.invokeinterface 124 1, 5) := by decide +kernel
theorem d_M_quarter_151 : decode b_M_quarter 151 = .ok (.if_icmp .ge 26, 3) := by decide +kernel
theorem d_M_quarter_154 : decode b_M_quarter 154 = .ok (.aload_n 0, 1) := by decide +kernel
theorem d_M_quarter_155 : decode b_M_quarter 155 = .ok (.aload_n 0, 1) := by decide +kernel
theorem d_M_quarter_156 : decode b_M_quarter 156 = .ok (.getfield 16, 3) := by decide +kernel
theorem d_M_quarter_159 : decode b_M_quarter 159 = .ok (.iload_n 2, 1) := by decide +kernel
theorem d_M_quarter_160 : decode b_M_quarter 160 = .ok (.invokeinterface 53 2, 5) := by decide +kernel
theorem d_M_quarter_165 : decode b_M_quarter 165 = .ok (.checkcast 42, 3) := by decide +kernel
theorem d_M_quarter_168 : decode b_M_quarter 168 = .ok (.invokevirtual 154, 3) := by decide +kernel
theorem d_M_quarter_171 : decode b_M_quarter 171 = .ok (.iinc 2 1, 3) := by decide +kernel
theorem d_M_quarter_174 : decode b_M_quarter 174 = .ok (.goto (-33), 3) := by decide +kernel
theorem d_M_quarter_177 : decode b_M_quarter 177 = .ok (.iconst 0, 1) := by decide +kernel
theorem d_M_quarter_178 : decode b_M_quarter 178 = .ok (.istore_n 2, 1) := by decide +kernel
theorem d_M_quarter_179 : decode b_M_quarter 179 = .ok (.iconst 0, 1) := by decide +kernel
theorem d_M_quarter_180 : decode b_M_quarter 180 = .ok (.istore_n 3, 1) := by decide +kernel
theorem d_M_quarter_181 : decode b_M_quarter 181 = .ok (.iload_n 3, 1) := by decide +kernel
theorem d_M_quarter_182 : decode b_M_quarter 182 = .ok (.aload_n 0, 1) := by decide +kernel
theorem d_M_quarter_183 : decode b_M_quarter 183 = .ok (.getfield 158, 3) := by decide +kernel
theorem d_M_quarter_186 : decode b_M_quarter 186 = .ok (.if_icmp .ge 113, 3) := by decide +kernel
theorem d_M_quarter_189 : decode b_M_quarter 189 = .ok (.aload_n 0, 1) := by decide +kernel
theorem d_M_quarter_190 : decode b_M_quarter 190 = .ok (.getfield 24, 3) := by decide +kernel
theorem d_M_quarter_193 : decode b_M_quarter 193 = .ok (.iload_n 3, 1) := by decide +kernel
theorem d_M_quarter_194 : decode b_M_quarter 194 = .ok (.aaload, 1) := by decide +kernel
theorem d_M_quarter_195 : decode b_M_quarter 195 = .ok (.astore 4, 2) := by decide +kernel
theorem d_M_quarter_197 : decode b_M_quarter 197 = .ok (.aload 4, 2) := by decide +kernel
theorem d_M_quarter_199 : decode b_M_quarter 199 = .ok (.iconst 0, 1) := by decide +kernel
theorem d_M_quarter_200 : decode b_M_quarter 200 = .ok (.iaload, 1) := by decide +kernel
theorem d_M_quarter_201 : decode b_M_quarter 201 = .ok (.aload_n 0, 1) := by decide +kernel
theorem d_M_quarter_202 : decode b_M_quarter 202 = .ok (.getfield 114, 3) := by decide +kernel
theorem d_M_quarter_205 : decode b_M_quarter 205 = .ok (.if_icmp .le 33, 3) := by decide +kernel
theorem d_M_quarter_208 : decode b_M_quarter 208 = .ok (.aload_n 0, 1) := by decide +kernel
theorem d_M_quarter_209 : decode b_M_quarter 209 = .ok (.getfield 24, 3) := by decide +kernel
theorem d_M_quarter_212 : decode b_M_quarter 212 = .ok (.iload_n 2, 1) := by decide +kernel
theorem d_M_quarter_213 : decode b_M_quarter 213 = .ok (.aaload, 1) := by decide +kernel
theorem d_M_quarter_214 : decode b_M_quarter 214 = .ok (.iconst 0, 1) := by decide +kernel
theorem d_M_quarter_215 : decode b_M_quarter 215 = .ok (.aload 4, 2) := by decide +kernel
theorem d_M_quarter_217 : decode b_M_quarter 217 = .ok (.iconst 0, 1) := by decide +kernel
theorem d_M_quarter_218 : decode b_M_quarter 218 = .ok (.iaload, 1) := by decide +kernel
theorem d_M_quarter_219 : decode b_M_quarter 219 = .ok (.iastore, 1) := by decide +kernel
theorem d_M_quarter_220 : decode b_M_quarter 220 = .ok (.aload_n 0, 1) := by decide +kernel
theorem d_M_quarter_221 : decode b_M_quarter 221 = .ok (.getfield 24, 3) := by decide +kernel
theorem d_M_quarter_224 : decode b_M_quarter 224 = .ok (.iload_n 2, 1) := by decide +kernel
theorem d_M_quarter_225 : decode b_M_quarter 225 = .ok (.iinc 2 1, 3) := by decide +kernel
theorem d_M_quarter_228 : decode b_M_quarter 228 = .ok (.aaload, 1) := by decide +kernel
theorem d_M_quarter_229 : decode b_M_quarter 229 = .ok (.iconst 1, 1) := by decide +kernel
theorem d_M_quarter_230 : decode b_M_quarter 230 = .ok (.aload 4, 2) := by decide +kernel
theorem d_M_quarter_232 : decode b_M_quarter 232 = .ok (.iconst 1, 1) := by decide +kernel
theorem d_M_quarter_233 : decode b_M_quarter 233 = .ok (.iaload, 1) := by decide +kernel
theorem d_M_quarter_234 : decode b_M_quarter 234 = .ok (.iastore, 1) := by decide +kernel
theorem d_M_quarter_235 : decode b_M_quarter 235 = .ok (.goto 58, 3) := by decide +kernel
theorem d_M_quarter_238 : decode b_M_quarter 238 = .ok (.aload 4, 2) := by decide +kernel
theorem d_M_quarter_240 : decode b_M_quarter 240 = .ok (.iconst 1, 1) := by decide +kernel
theorem d_M_quarter_241 : decode b_M_quarter 241 = .ok (.iaload, 1) := by decide +kernel
theorem d_M_quarter_242 : decode b_M_quarter 242 = .ok (.sipush 999, 3) := by decide +kernel
theorem d_M_quarter_245 : decode b_M_quarter 245 = .ok (.aload_n 0, 1) := by decide +kernel
theorem d_M_quarter_246 : decode b_M_quarter 246 = .ok (.getfield 34, 3) := by decide +kernel
theorem d_M_quarter_249 : decode b_M_quarter 249 = .ok (.isub, 1) := by decide +kernel
theorem d_M_quarter_250 : decode b_M_quarter 250 = .ok (.invokestatic 92, 3) := by decide +kernel
theorem d_M_quarter_253 : decode b_M_quarter 253 = .ok (.istore 5, 2) := by decide +kernel
theorem d_M_quarter_255 : decode b_M_quarter 255 = .ok (.aload_n 0, 1) := by decide +kernel
theorem d_M_quarter_256 : decode b_M_quarter 256 = .ok (.dup, 1) := by decide +kernel
theorem d_M_quarter_257 : decode b_M_quarter 257 = .ok (.getfield 34, 3) := by decide +kernel
theorem d_M_quarter_260 : decode b_M_quarter 260 = .ok (.iload 5, 2) := by decide +kernel
theorem d_M_quarter_262 : decode b_M_quarter 262 = .ok (.iadd, 1) := by decide +kernel
theorem d_M_quarter_263 : decode b_M_quarter 263 = .ok (.putfield 34, 3) := by decide +kernel
theorem d_M_quarter_266 : decode b_M_quarter 266 = .ok (.aload_n 0, 1) := by decide +kernel
theorem d_M_quarter_267 : decode b_M_quarter 267 = .ok (.dup, 1) := by decide +kernel
theorem d_M_quarter_268 : decode b_M_quarter 268 = .ok (.getfield 161, 3) := by decide +kernel
theorem d_M_quarter_271 : decode b_M_quarter 271 = .ok (.iload 5, 2) := by decide +kernel
theorem d_M_quarter_273 : decode b_M_quarter 273 = .ok (.iadd, 1) := by decide +kernel
theorem d_M_quarter_274 : decode b_M_quarter 274 = .ok (.putfield 161, 3) := by decide +kernel
theorem d_M_quarter_277 : decode b_M_quarter 277 = .ok (.aload_n 0, 1) := by decide +kernel
theorem d_M_quarter_278 : decode b_M_quarter 278 = .ok (.dup, 1) := by decide +kernel
theorem d_M_quarter_279 : decode b_M_quarter 279 = .ok (.getfield 164, 3) := by decide +kernel
theorem d_M_quarter_282 : decode b_M_quarter 282 = .ok (.aload 4, 2) := by decide +kernel
theorem d_M_quarter_284 : decode b_M_quarter 284 = .ok (.iconst 1, 1) := by decide +kernel
theorem d_M_quarter_285 : decode b_M_quarter 285 = .ok (.iaload, 1) := by decide +kernel
theorem d_M_quarter_286 : decode b_M_quarter 286 = .ok (.iload 5, 2) := by decide +kernel
theorem d_M_quarter_288 : decode b_M_quarter 288 = .ok (.isub, 1) := by decide +kernel
theorem d_M_quarter_289 : decode b_M_quarter 289 = .ok (.iadd, 1) := by decide +kernel
theorem d_M_quarter_290 : decode b_M_quarter 290 = .ok (.putfield 164, 3) := by decide +kernel
theorem d_M_quarter_293 : decode b_M_quarter 293 = .ok (.iinc 3 1, 3) := by decide +kernel
theorem d_M_quarter_296 : decode b_M_quarter 296 = .ok (.goto (-115), 3) := by decide +kernel
theorem d_M_quarter_299 : decode b_M_quarter 299 = .ok (.aload_n 0, 1) := by decide +kernel
theorem d_M_quarter_300 : decode b_M_quarter 300 = .ok (.iload_n 2, 1) := by decide +kernel
theorem d_M_quarter_301 : decode b_M_quarter 301 = .ok (.putfield 158, 3) := by decide +kernel
theorem d_M_quarter_304 : decode b_M_quarter 304 = .ok (.iload_n 1, 1) := by decide +kernel
theorem d_M_quarter_305 : decode b_M_quarter 305 = .ok (.ireturn, 1) := by decide +kernel
theorem d_M_isNode_0 : decode b_M_isNode 0 = .ok (.iload_n 0, 1) := by decide +kernel
theorem d_M_isNode_1 : decode b_M_isNode 1 = .ok (.iconst 0, 1) := by decide +kernel
theorem d_M_isNode_2 : decode b_M_isNode 2 = .ok (.bipush 6, 2) := by decide +kernel
theorem d_M_isNode_4 : decode b_M_isNode 4 = .ok (.invokestatic 167, 3) := by decide +kernel
theorem d_M_isNode_7 : decode b_M_isNode 7 = .ok (.ireturn, 1) := by decide +kernel
theorem d_M_isRoad_0 : decode b_M_isRoad 0 = .ok (.iload_n 1, 1) := by decide +kernel
theorem d_M_isRoad_1 : decode b_M_isRoad 1 = .ok (.iconst 0, 1) := by decide +kernel
theorem d_M_isRoad_2 : decode b_M_isRoad 2 = .ok (.aload_n 0, 1) := by decide +kernel
theorem d_M_isRoad_3 : decode b_M_isRoad 3 = .ok (.getfield 10, 3) := by decide +kernel
theorem d_M_isRoad_6 : decode b_M_isRoad 6 = .ok (.invokeinterface 124 1, 5) := by decide +kernel
theorem d_M_isRoad_11 : decode b_M_isRoad 11 = .ok (.iconst 1, 1) := by decide +kernel
theorem d_M_isRoad_12 : decode b_M_isRoad 12 = .ok (.isub, 1) := by decide +kernel
theorem d_M_isRoad_13 : decode b_M_isRoad 13 = .ok (.invokestatic 167, 3) := by decide +kernel
theorem d_M_isRoad_16 : decode b_M_isRoad 16 = .ok (.ireturn, 1) := by decide +kernel
theorem d_M_isLorry_0 : decode b_M_isLorry 0 = .ok (.iload_n 1, 1) := by decide +kernel
theorem d_M_isLorry_1 : decode b_M_isLorry 1 = .ok (.iconst 0, 1) := by decide +kernel
theorem d_M_isLorry_2 : decode b_M_isLorry 2 = .ok (.aload_n 0, 1) := by decide +kernel
theorem d_M_isLorry_3 : decode b_M_isLorry 3 = .ok (.getfield 16, 3) := by decide +kernel
theorem d_M_isLorry_6 : decode b_M_isLorry 6 = .ok (.invokeinterface 124 1, 5) := by decide +kernel
theorem d_M_isLorry_11 : decode b_M_isLorry 11 = .ok (.iconst 1, 1) := by decide +kernel
theorem d_M_isLorry_12 : decode b_M_isLorry 12 = .ok (.isub, 1) := by decide +kernel
theorem d_M_isLorry_13 : decode b_M_isLorry 13 = .ok (.invokestatic 167, 3) := by decide +kernel
theorem d_M_isLorry_16 : decode b_M_isLorry 16 = .ok (.ireturn, 1) := by decide +kernel
theorem d_M_road_0 : decode b_M_road 0 = .ok (.aload_n 0, 1) := by decide +kernel
theorem d_M_road_1 : decode b_M_road 1 = .ok (.iconst 0, 1) := by decide +kernel
theorem d_M_road_2 : decode b_M_road 2 = .ok (.putfield 38, 3) := by decide +kernel
theorem d_M_road_5 : decode b_M_road 5 = .ok (.iload_n 1, 1) := by decide +kernel
theorem d_M_road_6 : decode b_M_road 6 = .ok (.invokestatic 171, 3) := by decide +kernel
theorem d_M_road_9 : decode b_M_road 9 = .ok (.ifCond .eq 10, 3) := by decide +kernel
theorem d_M_road_12 : decode b_M_road 12 = .ok (.iload_n 2, 1) := by decide +kernel
theorem d_M_road_13 : decode b_M_road 13 = .ok (.invokestatic 171, 3) := by decide +kernel
theorem d_M_road_16 : decode b_M_road 16 = .ok (.ifCond .ne 9, 3) := by decide +kernel
theorem d_M_road_19 : decode b_M_road 19 = .ok (.aload_n 0, 1) := by decide +kernel
theorem d_M_road_20 : decode b_M_road 20 = .ok (.iconst 1, 1) := by decide +kernel
theorem d_M_road_21 : decode b_M_road 21 = .ok (.invokevirtual 174, 3) := by decide +kernel
theorem d_M_road_24 : decode b_M_road 24 = .ok (.ireturn, 1) := by decide +kernel
theorem d_M_road_25 : decode b_M_road 25 = .ok (.iload_n 1, 1) := by decide +kernel
theorem d_M_road_26 : decode b_M_road 26 = .ok (.iload_n 2, 1) := by decide +kernel
theorem d_M_road_27 : decode b_M_road 27 = .ok (.if_icmp .eq 44, 3) := by decide +kernel
theorem d_M_road_30 : decode b_M_road 30 = .ok (.iload_n 3, 1) := by decide +kernel
theorem d_M_road_31 : decode b_M_road 31 = .ok (.iconst 1, 1) := by decide +kernel
theorem d_M_road_32 : decode b_M_road 32 = .ok (.bipush 6, 2) := by decide +kernel
theorem d_M_road_34 : decode b_M_road 34 = .ok (.invokestatic 167, 3) := by decide +kernel
theorem d_M_road_37 : decode b_M_road 37 = .ok (.ifCond .eq 34, 3) := by decide +kernel
theorem d_M_road_40 : decode b_M_road 40 = .ok (.iload 4, 2) := by decide +kernel
theorem d_M_road_42 : decode b_M_road 42 = .ok (.iconst 0, 1) := by decide +kernel
theorem d_M_road_43 : decode b_M_road 43 = .ok (.iconst 2, 1) := by decide +kernel
theorem d_M_road_44 : decode b_M_road 44 = .ok (.invokestatic 167, 3) := by decide +kernel
theorem d_M_road_47 : decode b_M_road 47 = .ok (.ifCond .eq 24, 3) := by decide +kernel
theorem d_M_road_50 : decode b_M_road 50 = .ok (.iload 5, 2) := by decide +kernel
theorem d_M_road_52 : decode b_M_road 52 = .ok (.iconst 0, 1) := by decide +kernel
theorem d_M_road_53 : decode b_M_road 53 = .ok (.bipush 9, 2) := by decide +kernel
theorem d_M_road_55 : decode b_M_road 55 = .ok (.invokestatic 167, 3) := by decide +kernel
theorem d_M_road_58 : decode b_M_road 58 = .ok (.ifCond .eq 13, 3) := by decide +kernel
theorem d_M_road_61 : decode b_M_road 61 = .ok (.iload 6, 2) := by decide +kernel
theorem d_M_road_63 : decode b_M_road 63 = .ok (.iconst 0, 1) := by decide +kernel
theorem d_M_road_64 : decode b_M_road 64 = .ok (.iconst 2, 1) := by decide +kernel
theorem d_M_road_65 : decode b_M_road 65 = .ok (.invokestatic 167, 3) := by decide +kernel
theorem d_M_road_68 : decode b_M_road 68 = .ok (.ifCond .ne 9, 3) := by decide +kernel
theorem d_M_road_71 : decode b_M_road 71 = .ok (.aload_n 0, 1) := by decide +kernel
theorem d_M_road_72 : decode b_M_road 72 = .ok (.iconst 2, 1) := by decide +kernel
theorem d_M_road_73 : decode b_M_road 73 = .ok (.invokevirtual 174, 3) := by decide +kernel
theorem d_M_road_76 : decode b_M_road 76 = .ok (.ireturn, 1) := by decide +kernel
theorem d_M_road_77 : decode b_M_road 77 = .ok (.aload_n 0, 1) := by decide +kernel
theorem d_M_road_78 : decode b_M_road 78 = .ok (.getfield 10, 3) := by decide +kernel
theorem d_M_road_81 : decode b_M_road 81 = .ok (.invokeinterface 124 1, 5) := by decide +kernel
theorem d_M_road_86 : decode b_M_road 86 = .ok (.bipush 8, 2) := by decide +kernel
theorem d_M_road_88 : decode b_M_road 88 = .ok (.if_icmp .ne 9, 3) := by decide +kernel
theorem d_M_road_91 : decode b_M_road 91 = .ok (.aload_n 0, 1) := by decide +kernel
theorem d_M_road_92 : decode b_M_road 92 = .ok (.iconst 3, 1) := by decide +kernel
theorem d_M_road_93 : decode b_M_road 93 = .ok (.invokevirtual 174, 3) := by decide +kernel
theorem d_M_road_96 : decode b_M_road 96 = .ok (.ireturn, 1) := by decide +kernel
theorem d_M_road_97 : decode b_M_road 97 = .ok (.aload_n 0, 1) := by decide +kernel
theorem d_M_road_98 : decode b_M_road 98 = .ok (.getfield 10, 3) := by decide +kernel
theorem d_M_road_101 : decode b_M_road 101 = .ok (.new 59, 3) := by decide +kernel
theorem d_M_road_104 : decode b_M_road 104 = .ok (.dup, 1) := by decide +kernel
theorem d_M_road_105 : decode b_M_road 105 = .ok (.iload_n 1, 1) := by decide +kernel
theorem d_M_road_106 : decode b_M_road 106 = .ok (.iload_n 2, 1) := by decide +kernel
theorem d_M_road_107 : decode b_M_road 107 = .ok (.iload_n 3, 1) := by decide +kernel
theorem d_M_road_108 : decode b_M_road 108 = .ok (.iload 4, 2) := by decide +kernel
theorem d_M_road_110 : decode b_M_road 110 = .ok (.iload 5, 2) := by decide +kernel
theorem d_M_road_112 : decode b_M_road 112 = .ok (.iload 6, 2) := by decide +kernel
theorem d_M_road_114 : decode b_M_road 114 = .ok (.iload 7, 2) := by decide +kernel
theorem d_M_road_116 : decode b_M_road 116 = .ok (.invokespecial 178, 3) := by decide +kernel
theorem d_M_road_119 : decode b_M_road 119 = .ok (.invokeinterface 181 2, 5) := by decide +kernel
theorem d_M_road_124 : decode b_M_road 124 = .ok (.pop, 1) := by decide +kernel
theorem d_M_road_125 : decode b_M_road 125 = .ok (.aload_n 0, 1) := by decide +kernel
theorem d_M_road_126 : decode b_M_road 126 = .ok (.getfield 10, 3) := by decide +kernel
theorem d_M_road_129 : decode b_M_road 129 = .ok (.invokeinterface 124 1, 5) := by decide +kernel
theorem d_M_road_134 : decode b_M_road 134 = .ok (.iconst 1, 1) := by decide +kernel
theorem d_M_road_135 : decode b_M_road 135 = .ok (.isub, 1) := by decide +kernel
theorem d_M_road_136 : decode b_M_road 136 = .ok (.ireturn, 1) := by decide +kernel
theorem d_M_air_0 : decode b_M_air 0 = .ok (.aload_n 0, 1) := by decide +kernel
theorem d_M_air_1 : decode b_M_air 1 = .ok (.iconst 0, 1) := by decide +kernel
theorem d_M_air_2 : decode b_M_air 2 = .ok (.putfield 38, 3) := by decide +kernel
theorem d_M_air_5 : decode b_M_air 5 = .ok (.iload_n 1, 1) := by decide +kernel
theorem d_M_air_6 : decode b_M_air 6 = .ok (.bipush (-20), 2) := by decide +kernel
theorem d_M_air_8 : decode b_M_air 8 = .ok (.bipush 20, 2) := by decide +kernel
theorem d_M_air_10 : decode b_M_air 10 = .ok (.invokestatic 167, 3) := by decide +kernel
theorem d_M_air_13 : decode b_M_air 13 = .ok (.ifCond .ne 9, 3) := by decide +kernel
theorem d_M_air_16 : decode b_M_air 16 = .ok (.aload_n 0, 1) := by decide +kernel
theorem d_M_air_17 : decode b_M_air 17 = .ok (.iconst 1, 1) := by decide +kernel
theorem d_M_air_18 : decode b_M_air 18 = .ok (.invokevirtual 174, 3) := by decide +kernel
theorem d_M_air_21 : decode b_M_air 21 = .ok (.ireturn, 1) := by decide +kernel
theorem d_M_air_22 : decode b_M_air 22 = .ok (.aload_n 0, 1) := by decide +kernel
theorem d_M_air_23 : decode b_M_air 23 = .ok (.getfield 30, 3) := by decide +kernel
theorem d_M_air_26 : decode b_M_air 26 = .ok (.getfield 185, 3) := by decide +kernel
theorem d_M_air_29 : decode b_M_air 29 = .ok (.istore_n 3, 1) := by decide +kernel
theorem d_M_air_30 : decode b_M_air 30 = .ok (.aload_n 0, 1) := by decide +kernel
theorem d_M_air_31 : decode b_M_air 31 = .ok (.getfield 30, 3) := by decide +kernel
theorem d_M_air_34 : decode b_M_air 34 = .ok (.iload_n 1, 1) := by decide +kernel
theorem d_M_air_35 : decode b_M_air 35 = .ok (.putfield 185, 3) := by decide +kernel
theorem d_M_air_38 : decode b_M_air 38 = .ok (.aload_n 0, 1) := by decide +kernel
theorem d_M_air_39 : decode b_M_air 39 = .ok (.getfield 30, 3) := by decide +kernel
theorem d_M_air_42 : decode b_M_air 42 = .ok (.iload_n 2, 1) := by decide +kernel
theorem d_M_air_43 : decode b_M_air 43 = .ok (.putfield 188, 3) := by decide +kernel
theorem d_M_air_46 : decode b_M_air 46 = .ok (.iload_n 3, 1) := by decide +kernel
theorem d_M_air_47 : decode b_M_air 47 = .ok (.ireturn, 1) := by decide +kernel
theorem d_M_fall_0 : decode b_M_fall 0 = .ok (.aload_n 0, 1) := by decide +kernel
theorem d_M_fall_1 : decode b_M_fall 1 = .ok (.iconst 0, 1) := by decide +kernel
theorem d_M_fall_2 : decode b_M_fall 2 = .ok (.putfield 38, 3) := by decide +kernel
theorem d_M_fall_5 : decode b_M_fall 5 = .ok (.iload_n 1, 1) := by decide +kernel
theorem d_M_fall_6 : decode b_M_fall 6 = .ok (.iconst 0, 1) := by decide +kernel
theorem d_M_fall_7 : decode b_M_fall 7 = .ok (.iconst 3, 1) := by decide +kernel
theorem d_M_fall_8 : decode b_M_fall 8 = .ok (.invokestatic 167, 3) := by decide +kernel
theorem d_M_fall_11 : decode b_M_fall 11 = .ok (.ifCond .eq 21, 3) := by decide +kernel
theorem d_M_fall_14 : decode b_M_fall 14 = .ok (.iload_n 2, 1) := by decide +kernel
theorem d_M_fall_15 : decode b_M_fall 15 = .ok (.iconst 0, 1) := by decide +kernel
theorem d_M_fall_16 : decode b_M_fall 16 = .ok (.iconst 3, 1) := by decide +kernel
theorem d_M_fall_17 : decode b_M_fall 17 = .ok (.invokestatic 167, 3) := by decide +kernel
theorem d_M_fall_20 : decode b_M_fall 20 = .ok (.ifCond .eq 12, 3) := by decide +kernel
theorem d_M_fall_23 : decode b_M_fall 23 = .ok (.iload_n 3, 1) := by decide +kernel
theorem d_M_fall_24 : decode b_M_fall 24 = .ok (.iconst 0, 1) := by decide +kernel
theorem d_M_fall_25 : decode b_M_fall 25 = .ok (.iconst 3, 1) := by decide +kernel
theorem d_M_fall_26 : decode b_M_fall 26 = .ok (.invokestatic 167, 3) := by decide +kernel
theorem d_M_fall_29 : decode b_M_fall 29 = .ok (.ifCond .ne 9, 3) := by decide +kernel
theorem d_M_fall_32 : decode b_M_fall 32 = .ok (.aload_n 0, 1) := by decide +kernel
theorem d_M_fall_33 : decode b_M_fall 33 = .ok (.iconst 1, 1) := by decide +kernel
theorem d_M_fall_34 : decode b_M_fall 34 = .ok (.invokevirtual 174, 3) := by decide +kernel
theorem d_M_fall_37 : decode b_M_fall 37 = .ok (.ireturn, 1) := by decide +kernel
theorem d_M_fall_38 : decode b_M_fall 38 = .ok (.aload_n 0, 1) := by decide +kernel
theorem d_M_fall_39 : decode b_M_fall 39 = .ok (.getfield 30, 3) := by decide +kernel
theorem d_M_fall_42 : decode b_M_fall 42 = .ok (.getfield 191, 3) := by decide +kernel
theorem d_M_fall_45 : decode b_M_fall 45 = .ok (.istore 4, 2) := by decide +kernel
theorem d_M_fall_47 : decode b_M_fall 47 = .ok (.aload_n 0, 1) := by decide +kernel
theorem d_M_fall_48 : decode b_M_fall 48 = .ok (.getfield 30, 3) := by decide +kernel
theorem d_M_fall_51 : decode b_M_fall 51 = .ok (.iload_n 1, 1) := by decide +kernel
theorem d_M_fall_52 : decode b_M_fall 52 = .ok (.putfield 194, 3) := by decide +kernel
theorem d_M_fall_55 : decode b_M_fall 55 = .ok (.aload_n 0, 1) := by decide +kernel
theorem d_M_fall_56 : decode b_M_fall 56 = .ok (.getfield 30, 3) := by decide +kernel
theorem d_M_fall_59 : decode b_M_fall 59 = .ok (.iload_n 2, 1) := by decide +kernel
theorem d_M_fall_60 : decode b_M_fall 60 = .ok (.putfield 197, 3) := by decide +kernel
theorem d_M_fall_63 : decode b_M_fall 63 = .ok (.aload_n 0, 1) := by decide +kernel
theorem d_M_fall_64 : decode b_M_fall 64 = .ok (.getfield 30, 3) := by decide +kernel
theorem d_M_fall_67 : decode b_M_fall 67 = .ok (.iload_n 3, 1) := by decide +kernel
theorem d_M_fall_68 : decode b_M_fall 68 = .ok (.putfield 191, 3) := by decide +kernel
theorem d_M_fall_71 : decode b_M_fall 71 = .ok (.iload 4, 2) := by decide +kernel
theorem d_M_fall_73 : decode b_M_fall 73 = .ok (.ireturn, 1) := by decide +kernel
theorem d_M_inHoppers_0 : decode b_M_inHoppers 0 = .ok (.iconst 0, 1) := by decide +kernel
theorem d_M_inHoppers_1 : decode b_M_inHoppers 1 = .ok (.istore_n 1, 1) := by decide +kernel
theorem d_M_inHoppers_2 : decode b_M_inHoppers 2 = .ok (.iconst 0, 1) := by decide +kernel
theorem d_M_inHoppers_3 : decode b_M_inHoppers 3 = .ok (.istore_n 2, 1) := by decide +kernel
theorem d_M_inHoppers_4 : decode b_M_inHoppers 4 = .ok (.iload_n 2, 1) := by decide +kernel
theorem d_M_inHoppers_5 : decode b_M_inHoppers 5 = .ok (.aload_n 0, 1) := by decide +kernel
theorem d_M_inHoppers_6 : decode b_M_inHoppers 6 = .ok (.getfield 16, 3) := by decide +kernel
theorem d_M_inHoppers_9 : decode b_M_inHoppers 9 = .ok (.invokeinterface 124 1, 5) := by decide +kernel
theorem d_M_inHoppers_14 : decode b_M_inHoppers 14 = .ok (.if_icmp .ge 28, 3) := by decide +kernel
theorem d_M_inHoppers_17 : decode b_M_inHoppers 17 = .ok (.iload_n 1, 1) := by decide +kernel
theorem d_M_inHoppers_18 : decode b_M_inHoppers 18 = .ok (.aload_n 0, 1) := by decide +kernel
theorem d_M_inHoppers_19 : decode b_M_inHoppers 19 = .ok (.getfield 16, 3) := by decide +kernel
theorem d_M_inHoppers_22 : decode b_M_inHoppers 22 = .ok (.iload_n 2, 1) := by decide +kernel
theorem d_M_inHoppers_23 : decode b_M_inHoppers 23 = .ok (.invokeinterface 53 2, 5) := by decide +kernel
theorem d_M_inHoppers_28 : decode b_M_inHoppers 28 = .ok (.checkcast 42, 3) := by decide +kernel
theorem d_M_inHoppers_31 : decode b_M_inHoppers 31 = .ok (.getfield 86, 3) := by decide +kernel
theorem d_M_inHoppers_34 : decode b_M_inHoppers 34 = .ok (.iadd, 1) := by decide +kernel
theorem d_M_inHoppers_35 : decode b_M_inHoppers 35 = .ok (.istore_n 1, 1) := by decide +kernel
theorem d_M_inHoppers_36 : decode b_M_inHoppers 36 = .ok (.iinc 2 1, 3) := by decide +kernel
theorem d_M_inHoppers_39 : decode b_M_inHoppers 39 = .ok (.goto (-35), 3) := by decide +kernel
theorem d_M_inHoppers_42 : decode b_M_inHoppers 42 = .ok (.iload_n 1, 1) := by decide +kernel
theorem d_M_inHoppers_43 : decode b_M_inHoppers 43 = .ok (.ireturn, 1) := by decide +kernel
theorem d_M_isForetold_0 : decode b_M_isForetold 0 = .ok (.iconst 0, 1) := by decide +kernel
theorem d_M_isForetold_1 : decode b_M_isForetold 1 = .ok (.istore_n 2, 1) := by decide +kernel
theorem d_M_isForetold_2 : decode b_M_isForetold 2 = .ok (.iconst 2, 1) := by decide +kernel
theorem d_M_isForetold_3 : decode b_M_isForetold 3 = .ok (.istore_n 3, 1) := by decide +kernel
theorem d_M_isForetold_4 : decode b_M_isForetold 4 = .ok (.iload_n 3, 1) := by decide +kernel
theorem d_M_isForetold_5 : decode b_M_isForetold 5 = .ok (.iconst 5, 1) := by decide +kernel
theorem d_M_isForetold_6 : decode b_M_isForetold 6 = .ok (.if_icmp .ge 39, 3) := by decide +kernel
theorem d_M_isForetold_9 : decode b_M_isForetold 9 = .ok (.iload_n 2, 1) := by decide +kernel
theorem d_M_isForetold_10 : decode b_M_isForetold 10 = .ok (.aload_n 0, 1) := by decide +kernel
theorem d_M_isForetold_11 : decode b_M_isForetold 11 = .ok (.aload_n 1, 1) := by decide +kernel
theorem d_M_isForetold_12 : decode b_M_isForetold 12 = .ok (.iload_n 3, 1) := by decide +kernel
theorem d_M_isForetold_13 : decode b_M_isForetold 13 = .ok (.iaload, 1) := by decide +kernel
theorem d_M_isForetold_14 : decode b_M_isForetold 14 = .ok (.aload_n 1, 1) := by decide +kernel
theorem d_M_isForetold_15 : decode b_M_isForetold 15 = .ok (.iconst 5, 1) := by decide +kernel
theorem d_M_isForetold_16 : decode b_M_isForetold 16 = .ok (.iaload, 1) := by decide +kernel
theorem d_M_isForetold_17 : decode b_M_isForetold 17 = .ok (.iconst 1, 1) := by decide +kernel
theorem d_M_isForetold_18 : decode b_M_isForetold 18 = .ok (.if_icmp .ne 7, 3) := by decide +kernel
theorem d_M_isForetold_21 : decode b_M_isForetold 21 = .ok (.iconst 1, 1) := by decide +kernel
theorem d_M_isForetold_22 : decode b_M_isForetold 22 = .ok (.goto 4, 3) := by decide +kernel
theorem d_M_isForetold_25 : decode b_M_isForetold 25 = .ok (.iconst 0, 1) := by decide +kernel
theorem d_M_isForetold_26 : decode b_M_isForetold 26 = .ok (.invokevirtual 200, 3) := by decide +kernel
theorem d_M_isForetold_29 : decode b_M_isForetold 29 = .ok (.ifCond .ge 7, 3) := by decide +kernel
theorem d_M_isForetold_32 : decode b_M_isForetold 32 = .ok (.iconst 1, 1) := by decide +kernel
theorem d_M_isForetold_33 : decode b_M_isForetold 33 = .ok (.goto 4, 3) := by decide +kernel
theorem d_M_isForetold_36 : decode b_M_isForetold 36 = .ok (.iconst 0, 1) := by decide +kernel
theorem d_M_isForetold_37 : decode b_M_isForetold 37 = .ok (.iadd, 1) := by decide +kernel
theorem d_M_isForetold_38 : decode b_M_isForetold 38 = .ok (.istore_n 2, 1) := by decide +kernel
theorem d_M_isForetold_39 : decode b_M_isForetold 39 = .ok (.iinc 3 1, 3) := by decide +kernel
theorem d_M_isForetold_42 : decode b_M_isForetold 42 = .ok (.goto (-38), 3) := by decide +kernel
theorem d_M_isForetold_45 : decode b_M_isForetold 45 = .ok (.iload_n 2, 1) := by decide +kernel
theorem d_M_isForetold_46 : decode b_M_isForetold 46 = .ok (.iconst 1, 1) := by decide +kernel
theorem d_M_isForetold_47 : decode b_M_isForetold 47 = .ok (.if_icmp .le 7, 3) := by decide +kernel
theorem d_M_isForetold_50 : decode b_M_isForetold 50 = .ok (.iconst 1, 1) := by decide +kernel
theorem d_M_isForetold_51 : decode b_M_isForetold 51 = .ok (.goto 4, 3) := by decide +kernel
theorem d_M_isForetold_54 : decode b_M_isForetold 54 = .ok (.iconst 0, 1) := by decide +kernel
theorem d_M_isForetold_55 : decode b_M_isForetold 55 = .ok (.ireturn, 1) := by decide +kernel
theorem d_M_forecast_0 : decode b_M_forecast 0 = .ok (.aload_n 0, 1) := by decide +kernel
theorem d_M_forecast_1 : decode b_M_forecast 1 = .ok (.iconst 0, 1) := by decide +kernel
theorem d_M_forecast_2 : decode b_M_forecast 2 = .ok (.putfield 38, 3) := by decide +kernel
theorem d_M_forecast_5 : decode b_M_forecast 5 = .ok (.iload_n 1, 1) := by decide +kernel
theorem d_M_forecast_6 : decode b_M_forecast 6 = .ok (.iconst 1, 1) := by decide +kernel
theorem d_M_forecast_7 : decode b_M_forecast 7 = .ok (.bipush 48, 2) := by decide +kernel
theorem d_M_forecast_9 : decode b_M_forecast 9 = .ok (.invokestatic 167, 3) := by decide +kernel
theorem d_M_forecast_12 : decode b_M_forecast 12 = .ok (.ifCond .eq 37, 3) := by decide +kernel
theorem d_M_forecast_15 : decode b_M_forecast 15 = .ok (.iload_n 2, 1) := by decide +kernel
theorem d_M_forecast_16 : decode b_M_forecast 16 = .ok (.bipush (-20), 2) := by decide +kernel
theorem d_M_forecast_18 : decode b_M_forecast 18 = .ok (.bipush 20, 2) := by decide +kernel
theorem d_M_forecast_20 : decode b_M_forecast 20 = .ok (.invokestatic 167, 3) := by decide +kernel
theorem d_M_forecast_23 : decode b_M_forecast 23 = .ok (.ifCond .eq 26, 3) := by decide +kernel
theorem d_M_forecast_26 : decode b_M_forecast 26 = .ok (.iload_n 3, 1) := by decide +kernel
theorem d_M_forecast_27 : decode b_M_forecast 27 = .ok (.bipush (-20), 2) := by decide +kernel
theorem d_M_forecast_29 : decode b_M_forecast 29 = .ok (.bipush 20, 2) := by decide +kernel
theorem d_M_forecast_31 : decode b_M_forecast 31 = .ok (.invokestatic 167, 3) := by decide +kernel
theorem d_M_forecast_34 : decode b_M_forecast 34 = .ok (.ifCond .eq 15, 3) := by decide +kernel
theorem d_M_forecast_37 : decode b_M_forecast 37 = .ok (.iload 4, 2) := by decide +kernel
theorem d_M_forecast_39 : decode b_M_forecast 39 = .ok (.bipush (-20), 2) := by decide +kernel
theorem d_M_forecast_41 : decode b_M_forecast 41 = .ok (.bipush 20, 2) := by decide +kernel
theorem d_M_forecast_43 : decode b_M_forecast 43 = .ok (.invokestatic 167, 3) := by decide +kernel
theorem d_M_forecast_46 : decode b_M_forecast 46 = .ok (.ifCond .ne 9, 3) := by decide +kernel
theorem d_M_forecast_49 : decode b_M_forecast 49 = .ok (.aload_n 0, 1) := by decide +kernel
theorem d_M_forecast_50 : decode b_M_forecast 50 = .ok (.iconst 1, 1) := by decide +kernel
theorem d_M_forecast_51 : decode b_M_forecast 51 = .ok (.invokevirtual 174, 3) := by decide +kernel
theorem d_M_forecast_54 : decode b_M_forecast 54 = .ok (.ireturn, 1) := by decide +kernel
theorem d_M_forecast_55 : decode b_M_forecast 55 = .ok (.aload_n 0, 1) := by decide +kernel
theorem d_M_forecast_56 : decode b_M_forecast 56 = .ok (.getfield 204, 3) := by decide +kernel
theorem d_M_forecast_59 : decode b_M_forecast 59 = .ok (.bipush 20, 2) := by decide +kernel
theorem d_M_forecast_61 : decode b_M_forecast 61 = .ok (.if_icmp .ne 9, 3) := by decide +kernel
theorem d_M_forecast_64 : decode b_M_forecast 64 = .ok (.aload_n 0, 1) := by decide +kernel
theorem d_M_forecast_65 : decode b_M_forecast 65 = .ok (.iconst 2, 1) := by decide +kernel
theorem d_M_forecast_66 : decode b_M_forecast 66 = .ok (.invokevirtual 174, 3) := by decide +kernel
theorem d_M_forecast_69 : decode b_M_forecast 69 = .ok (.ireturn, 1) := by decide +kernel
theorem d_M_forecast_70 : decode b_M_forecast 70 = .ok (.bipush 7, 2) := by decide +kernel
theorem d_M_forecast_72 : decode b_M_forecast 72 = .ok (.newarray .int, 2) := by decide +kernel
theorem d_M_forecast_74 : decode b_M_forecast 74 = .ok (.dup, 1) := by decide +kernel
theorem d_M_forecast_75 : decode b_M_forecast 75 = .ok (.iconst 0, 1) := by decide +kernel
theorem d_M_forecast_76 : decode b_M_forecast 76 = .ok (.aload_n 0, 1) := by decide +kernel
theorem d_M_forecast_77 : decode b_M_forecast 77 = .ok (.getfield 114, 3) := by decide +kernel
theorem d_M_forecast_80 : decode b_M_forecast 80 = .ok (.iastore, 1) := by decide +kernel
theorem d_M_forecast_81 : decode b_M_forecast 81 = .ok (.dup, 1) := by decide +kernel
theorem d_M_forecast_82 : decode b_M_forecast 82 = .ok (.iconst 1, 1) := by decide +kernel
theorem d_M_forecast_83 : decode b_M_forecast 83 = .ok (.aload_n 0, 1) := by decide +kernel
theorem d_M_forecast_84 : decode b_M_forecast 84 = .ok (.getfield 114, 3) := by decide +kernel
theorem d_M_forecast_87 : decode b_M_forecast 87 = .ok (.iload_n 1, 1) := by decide +kernel
theorem d_M_forecast_88 : decode b_M_forecast 88 = .ok (.iadd, 1) := by decide +kernel
theorem d_M_forecast_89 : decode b_M_forecast 89 = .ok (.iastore, 1) := by decide +kernel
theorem d_M_forecast_90 : decode b_M_forecast 90 = .ok (.dup, 1) := by decide +kernel
theorem d_M_forecast_91 : decode b_M_forecast 91 = .ok (.iconst 2, 1) := by decide +kernel
theorem d_M_forecast_92 : decode b_M_forecast 92 = .ok (.iload_n 2, 1) := by decide +kernel
theorem d_M_forecast_93 : decode b_M_forecast 93 = .ok (.iastore, 1) := by decide +kernel
theorem d_M_forecast_94 : decode b_M_forecast 94 = .ok (.dup, 1) := by decide +kernel
theorem d_M_forecast_95 : decode b_M_forecast 95 = .ok (.iconst 3, 1) := by decide +kernel
theorem d_M_forecast_96 : decode b_M_forecast 96 = .ok (.iload_n 3, 1) := by decide +kernel
theorem d_M_forecast_97 : decode b_M_forecast 97 = .ok (.iastore, 1) := by decide +kernel
theorem d_M_forecast_98 : decode b_M_forecast 98 = .ok (.dup, 1) := by decide +kernel
theorem d_M_forecast_99 : decode b_M_forecast 99 = .ok (.iconst 4, 1) := by decide +kernel
theorem d_M_forecast_100 : decode b_M_forecast 100 = .ok (.iload 4, 2) := by decide +kernel
theorem d_M_forecast_102 : decode b_M_forecast 102 = .ok (.iastore, 1) := by decide +kernel
theorem d_M_forecast_103 : decode b_M_forecast 103 = .ok (.dup, 1) := by decide +kernel
theorem d_M_forecast_104 : decode b_M_forecast 104 = .ok (.iconst 5, 1) := by decide +kernel
theorem d_M_forecast_105 : decode b_M_forecast 105 = .ok (.iload 5, 2) := by decide +kernel
theorem d_M_forecast_107 : decode b_M_forecast 107 = .ok (.ifCond .eq 7, 3) := by decide +kernel
theorem d_M_forecast_110 : decode b_M_forecast 110 = .ok (.iconst 1, 1) := by decide +kernel
theorem d_M_forecast_111 : decode b_M_forecast 111 = .ok (.goto 4, 3) := by decide +kernel
theorem d_M_forecast_114 : decode b_M_forecast 114 = .ok (.iconst 0, 1) := by decide +kernel
theorem d_M_forecast_115 : decode b_M_forecast 115 = .ok (.iastore, 1) := by decide +kernel
theorem d_M_forecast_116 : decode b_M_forecast 116 = .ok (.dup, 1) := by decide +kernel
theorem d_M_forecast_117 : decode b_M_forecast 117 = .ok (.bipush 6, 2) := by decide +kernel
theorem d_M_forecast_119 : decode b_M_forecast 119 = .ok (.aload_n 0, 1) := by decide +kernel
theorem d_M_forecast_120 : decode b_M_forecast 120 = .ok (.getfield 34, 3) := by decide +kernel
theorem d_M_forecast_123 : decode b_M_forecast 123 = .ok (.aload_n 0, 1) := by decide +kernel
theorem d_M_forecast_124 : decode b_M_forecast 124 = .ok (.invokevirtual 207, 3) := by decide +kernel
theorem d_M_forecast_127 : decode b_M_forecast 127 = .ok (.iadd, 1) := by decide +kernel
theorem d_M_forecast_128 : decode b_M_forecast 128 = .ok (.iastore, 1) := by decide +kernel
theorem d_M_forecast_129 : decode b_M_forecast 129 = .ok (.astore 6, 2) := by decide +kernel
theorem d_M_forecast_131 : decode b_M_forecast 131 = .ok (.aload 6, 2) := by decide +kernel
theorem d_M_forecast_133 : decode b_M_forecast 133 = .ok (.iconst 0, 1) := by decide +kernel
theorem d_M_forecast_134 : decode b_M_forecast 134 = .ok (.aload_n 0, 1) := by decide +kernel
theorem d_M_forecast_135 : decode b_M_forecast 135 = .ok (.getfield 21, 3) := by decide +kernel
theorem d_M_forecast_138 : decode b_M_forecast 138 = .ok (.aload_n 0, 1) := by decide +kernel
theorem d_M_forecast_139 : decode b_M_forecast 139 = .ok (.dup, 1) := by decide +kernel
theorem d_M_forecast_140 : decode b_M_forecast 140 = .ok (.getfield 204, 3) := by decide +kernel
theorem d_M_forecast_143 : decode b_M_forecast 143 = .ok (.dup_x1, 1) := by decide +kernel
theorem d_M_forecast_144 : decode b_M_forecast 144 = .ok (.iconst 1, 1) := by decide +kernel
theorem d_M_forecast_145 : decode b_M_forecast 145 = .ok (.iadd, 1) := by decide +kernel
theorem d_M_forecast_146 : decode b_M_forecast 146 = .ok (.putfield 204, 3) := by decide +kernel
theorem d_M_forecast_149 : decode b_M_forecast 149 = .ok (.aaload, 1) := by decide +kernel
theorem d_M_forecast_150 : decode b_M_forecast 150 = .ok (.iconst 0, 1) := by decide +kernel
theorem d_M_forecast_151 : decode b_M_forecast 151 = .ok (.bipush 7, 2) := by decide +kernel
theorem d_M_forecast_153 : decode b_M_forecast 153 = .ok (.invokestatic 210, 3) := by decide +kernel
theorem d_M_forecast_156 : decode b_M_forecast 156 = .ok (.iconst 0, 1) := by decide +kernel
theorem d_M_forecast_157 : decode b_M_forecast 157 = .ok (.istore 7, 2) := by decide +kernel
theorem d_M_forecast_159 : decode b_M_forecast 159 = .ok (.iconst 0, 1) := by decide +kernel
theorem d_M_forecast_160 : decode b_M_forecast 160 = .ok (.istore 8, 2) := by decide +kernel
theorem d_M_forecast_162 : decode b_M_forecast 162 = .ok (.iload 8, 2) := by decide +kernel
theorem d_M_forecast_164 : decode b_M_forecast 164 = .ok (.aload_n 0, 1) := by decide +kernel
theorem d_M_forecast_165 : decode b_M_forecast 165 = .ok (.getfield 10, 3) := by decide +kernel
theorem d_M_forecast_168 : decode b_M_forecast 168 = .ok (.invokeinterface 124 1, 5) := by decide +kernel
theorem d_M_forecast_173 : decode b_M_forecast 173 = .ok (.if_icmp .ge 41, 3) := by decide +kernel
theorem d_M_forecast_176 : decode b_M_forecast 176 = .ok (.iload 7, 2) := by decide +kernel
theorem d_M_forecast_178 : decode b_M_forecast 178 = .ok (.aload_n 0, 1) := by decide +kernel
theorem d_M_forecast_179 : decode b_M_forecast 179 = .ok (.getfield 10, 3) := by decide +kernel
theorem d_M_forecast_182 : decode b_M_forecast 182 = .ok (.iload 8, 2) := by decide +kernel
theorem d_M_forecast_184 : decode b_M_forecast 184 = .ok (.invokeinterface 53 2, 5) := by decide +kernel
theorem d_M_forecast_189 : decode b_M_forecast 189 = .ok (.checkcast 59, 3) := by decide +kernel
theorem d_M_forecast_192 : decode b_M_forecast 192 = .ok (.aload 6, 2) := by decide +kernel
theorem d_M_forecast_194 : decode b_M_forecast 194 = .ok (.invokestatic 216, 3) := by decide +kernel
theorem d_M_forecast_197 : decode b_M_forecast 197 = .ok (.ifCond .eq 7, 3) := by decide +kernel
theorem d_M_forecast_200 : decode b_M_forecast 200 = .ok (.iconst 1, 1) := by decide +kernel
theorem d_M_forecast_201 : decode b_M_forecast 201 = .ok (.goto 4, 3) := by decide +kernel
theorem d_M_forecast_204 : decode b_M_forecast 204 = .ok (.iconst 0, 1) := by decide +kernel
theorem d_M_forecast_205 : decode b_M_forecast 205 = .ok (.iadd, 1) := by decide +kernel
theorem d_M_forecast_206 : decode b_M_forecast 206 = .ok (.istore 7, 2) := by decide +kernel
theorem d_M_forecast_208 : decode b_M_forecast 208 = .ok (.iinc 8 1, 3) := by decide +kernel
theorem d_M_forecast_211 : decode b_M_forecast 211 = .ok (.goto (-49), 3) := by decide +kernel
theorem d_M_forecast_214 : decode b_M_forecast 214 = .ok (.iload 7, 2) := by decide +kernel
theorem d_M_forecast_216 : decode b_M_forecast 216 = .ok (.ireturn, 1) := by decide +kernel
theorem d_M_pass_0 : decode b_M_pass 0 = .ok (.aload_n 0, 1) := by decide +kernel
theorem d_M_pass_1 : decode b_M_pass 1 = .ok (.iconst 0, 1) := by decide +kernel
theorem d_M_pass_2 : decode b_M_pass 2 = .ok (.putfield 38, 3) := by decide +kernel
theorem d_M_pass_5 : decode b_M_pass 5 = .ok (.iload_n 1, 1) := by decide +kernel
theorem d_M_pass_6 : decode b_M_pass 6 = .ok (.iconst 1, 1) := by decide +kernel
theorem d_M_pass_7 : decode b_M_pass 7 = .ok (.bipush 20, 2) := by decide +kernel
theorem d_M_pass_9 : decode b_M_pass 9 = .ok (.invokestatic 167, 3) := by decide +kernel
theorem d_M_pass_12 : decode b_M_pass 12 = .ok (.ifCond .ne 9, 3) := by decide +kernel
theorem d_M_pass_15 : decode b_M_pass 15 = .ok (.aload_n 0, 1) := by decide +kernel
theorem d_M_pass_16 : decode b_M_pass 16 = .ok (.iconst 1, 1) := by decide +kernel
theorem d_M_pass_17 : decode b_M_pass 17 = .ok (.invokevirtual 174, 3) := by decide +kernel
theorem d_M_pass_20 : decode b_M_pass 20 = .ok (.ireturn, 1) := by decide +kernel
theorem d_M_pass_21 : decode b_M_pass 21 = .ok (.aload_n 0, 1) := by decide +kernel
theorem d_M_pass_22 : decode b_M_pass 22 = .ok (.getfield 114, 3) := by decide +kernel
theorem d_M_pass_25 : decode b_M_pass 25 = .ok (.iload_n 1, 1) := by decide +kernel
theorem d_M_pass_26 : decode b_M_pass 26 = .ok (.iadd, 1) := by decide +kernel
theorem d_M_pass_27 : decode b_M_pass 27 = .ok (.sipush 199, 3) := by decide +kernel
theorem d_M_pass_30 : decode b_M_pass 30 = .ok (.if_icmp .le 9, 3) := by decide +kernel
theorem d_M_pass_33 : decode b_M_pass 33 = .ok (.aload_n 0, 1) := by decide +kernel
theorem d_M_pass_34 : decode b_M_pass 34 = .ok (.iconst 2, 1) := by decide +kernel
theorem d_M_pass_35 : decode b_M_pass 35 = .ok (.invokevirtual 174, 3) := by decide +kernel
theorem d_M_pass_38 : decode b_M_pass 38 = .ok (.ireturn, 1) := by decide +kernel
theorem d_M_pass_39 : decode b_M_pass 39 = .ok (.iconst 0, 1) := by decide +kernel
theorem d_M_pass_40 : decode b_M_pass 40 = .ok (.istore_n 2, 1) := by decide +kernel
theorem d_M_pass_41 : decode b_M_pass 41 = .ok (.iconst 0, 1) := by decide +kernel
theorem d_M_pass_42 : decode b_M_pass 42 = .ok (.istore_n 3, 1) := by decide +kernel
theorem d_M_pass_43 : decode b_M_pass 43 = .ok (.iload_n 3, 1) := by decide +kernel
theorem d_M_pass_44 : decode b_M_pass 44 = .ok (.iload_n 1, 1) := by decide +kernel
theorem d_M_pass_45 : decode b_M_pass 45 = .ok (.if_icmp .ge 16, 3) := by decide +kernel
theorem d_M_pass_48 : decode b_M_pass 48 = .ok (.iload_n 2, 1) := by decide +kernel
theorem d_M_pass_49 : decode b_M_pass 49 = .ok (.aload_n 0, 1) := by decide +kernel
theorem d_M_pass_50 : decode b_M_pass 50 = .ok (.invokevirtual 220, 3) := by decide +kernel
theorem d_M_pass_53 : decode b_M_pass 53 = .ok (.iadd, 1) := by decide +kernel
theorem d_M_pass_54 : decode b_M_pass 54 = .ok (.istore_n 2, 1) := by decide +kernel
theorem d_M_pass_55 : decode b_M_pass 55 = .ok (.iinc 3 1, 3) := by decide +kernel
theorem d_M_pass_58 : decode b_M_pass 58 = .ok (.goto (-15), 3) := by decide +kernel
theorem d_M_pass_61 : decode b_M_pass 61 = .ok (.iload_n 2, 1) := by decide +kernel
theorem d_M_pass_62 : decode b_M_pass 62 = .ok (.ireturn, 1) := by decide +kernel
theorem d_M_lorry_0 : decode b_M_lorry 0 = .ok (.aload_n 0, 1) := by decide +kernel
theorem d_M_lorry_1 : decode b_M_lorry 1 = .ok (.iconst 0, 1) := by decide +kernel
theorem d_M_lorry_2 : decode b_M_lorry 2 = .ok (.putfield 38, 3) := by decide +kernel
theorem d_M_lorry_5 : decode b_M_lorry 5 = .ok (.aload_n 0, 1) := by decide +kernel
theorem d_M_lorry_6 : decode b_M_lorry 6 = .ok (.getfield 16, 3) := by decide +kernel
theorem d_M_lorry_9 : decode b_M_lorry 9 = .ok (.invokeinterface 124 1, 5) := by decide +kernel
theorem d_M_lorry_14 : decode b_M_lorry 14 = .ok (.iconst 3, 1) := by decide +kernel
theorem d_M_lorry_15 : decode b_M_lorry 15 = .ok (.if_icmp .ne 9, 3) := by decide +kernel
theorem d_M_lorry_18 : decode b_M_lorry 18 = .ok (.aload_n 0, 1) := by decide +kernel
theorem d_M_lorry_19 : decode b_M_lorry 19 = .ok (.iconst 1, 1) := by decide +kernel
theorem d_M_lorry_20 : decode b_M_lorry 20 = .ok (.invokevirtual 174, 3) := by decide +kernel
theorem d_M_lorry_23 : decode b_M_lorry 23 = .ok (.ireturn, 1) := by decide +kernel
theorem d_M_lorry_24 : decode b_M_lorry 24 = .ok (.aload_n 0, 1) := by decide +kernel
theorem d_M_lorry_25 : decode b_M_lorry 25 = .ok (.getfield 16, 3) := by decide +kernel
theorem d_M_lorry_28 : decode b_M_lorry 28 = .ok (.new 42, 3) := by decide +kernel
theorem d_M_lorry_31 : decode b_M_lorry 31 = .ok (.dup, 1) := by decide +kernel
theorem d_M_lorry_32 : decode b_M_lorry 32 = .ok (.iload_n 1, 1) := by decide +kernel
theorem d_M_lorry_33 : decode b_M_lorry 33 = .ok (.invokespecial 223, 3) := by decide +kernel
theorem d_M_lorry_36 : decode b_M_lorry 36 = .ok (.invokeinterface 181 2, 5) := by decide +kernel
theorem d_M_lorry_41 : decode b_M_lorry 41 = .ok (.pop, 1) := by decide +kernel
theorem d_M_lorry_42 : decode b_M_lorry 42 = .ok (.aload_n 0, 1) := by decide +kernel
theorem d_M_lorry_43 : decode b_M_lorry 43 = .ok (.getfield 16, 3) := by decide +kernel
theorem d_M_lorry_46 : decode b_M_lorry 46 = .ok (.invokeinterface 124 1, 5) := by decide +kernel
theorem d_M_lorry_51 : decode b_M_lorry 51 = .ok (.iconst 1, 1) := by decide +kernel
theorem d_M_lorry_52 : decode b_M_lorry 52 = .ok (.isub, 1) := by decide +kernel
theorem d_M_lorry_53 : decode b_M_lorry 53 = .ok (.ireturn, 1) := by decide +kernel
theorem d_M_rate_0 : decode b_M_rate 0 = .ok (.aload_n 0, 1) := by decide +kernel
theorem d_M_rate_1 : decode b_M_rate 1 = .ok (.iconst 0, 1) := by decide +kernel
theorem d_M_rate_2 : decode b_M_rate 2 = .ok (.putfield 38, 3) := by decide +kernel
theorem d_M_rate_5 : decode b_M_rate 5 = .ok (.aload_n 0, 1) := by decide +kernel
theorem d_M_rate_6 : decode b_M_rate 6 = .ok (.iload_n 1, 1) := by decide +kernel
theorem d_M_rate_7 : decode b_M_rate 7 = .ok (.invokevirtual 226, 3) := by decide +kernel
theorem d_M_rate_10 : decode b_M_rate 10 = .ok (.ifCond .ne 9, 3) := by decide +kernel
theorem d_M_rate_13 : decode b_M_rate 13 = .ok (.aload_n 0, 1) := by decide +kernel
theorem d_M_rate_14 : decode b_M_rate 14 = .ok (.iconst 1, 1) := by decide +kernel
theorem d_M_rate_15 : decode b_M_rate 15 = .ok (.invokevirtual 174, 3) := by decide +kernel
theorem d_M_rate_18 : decode b_M_rate 18 = .ok (.ireturn, 1) := by decide +kernel
theorem d_M_rate_19 : decode b_M_rate 19 = .ok (.iload_n 2, 1) := by decide +kernel
theorem d_M_rate_20 : decode b_M_rate 20 = .ok (.iconst 0, 1) := by decide +kernel
theorem d_M_rate_21 : decode b_M_rate 21 = .ok (.bipush 9, 2) := by decide +kernel
theorem d_M_rate_23 : decode b_M_rate 23 = .ok (.invokestatic 167, 3) := by decide +kernel
theorem d_M_rate_26 : decode b_M_rate 26 = .ok (.ifCond .ne 9, 3) := by decide +kernel
theorem d_M_rate_29 : decode b_M_rate 29 = .ok (.aload_n 0, 1) := by decide +kernel
theorem d_M_rate_30 : decode b_M_rate 30 = .ok (.iconst 2, 1) := by decide +kernel
theorem d_M_rate_31 : decode b_M_rate 31 = .ok (.invokevirtual 174, 3) := by decide +kernel
theorem d_M_rate_34 : decode b_M_rate 34 = .ok (.ireturn, 1) := by decide +kernel
theorem d_M_rate_35 : decode b_M_rate 35 = .ok (.aload_n 0, 1) := by decide +kernel
theorem d_M_rate_36 : decode b_M_rate 36 = .ok (.getfield 16, 3) := by decide +kernel
theorem d_M_rate_39 : decode b_M_rate 39 = .ok (.iload_n 1, 1) := by decide +kernel
theorem d_M_rate_40 : decode b_M_rate 40 = .ok (.invokeinterface 53 2, 5) := by decide +kernel
theorem d_M_rate_45 : decode b_M_rate 45 = .ok (.checkcast 42, 3) := by decide +kernel
theorem d_M_rate_48 : decode b_M_rate 48 = .ok (.getfield 89, 3) := by decide +kernel
theorem d_M_rate_51 : decode b_M_rate 51 = .ok (.istore_n 3, 1) := by decide +kernel
theorem d_M_rate_52 : decode b_M_rate 52 = .ok (.aload_n 0, 1) := by decide +kernel
theorem d_M_rate_53 : decode b_M_rate 53 = .ok (.getfield 16, 3) := by decide +kernel
theorem d_M_rate_56 : decode b_M_rate 56 = .ok (.iload_n 1, 1) := by decide +kernel
theorem d_M_rate_57 : decode b_M_rate 57 = .ok (.invokeinterface 53 2, 5) := by decide +kernel
theorem d_M_rate_62 : decode b_M_rate 62 = .ok (.checkcast 42, 3) := by decide +kernel
theorem d_M_rate_65 : decode b_M_rate 65 = .ok (.iload_n 2, 1) := by decide +kernel
theorem d_M_rate_66 : decode b_M_rate 66 = .ok (.putfield 89, 3) := by decide +kernel
theorem d_M_rate_69 : decode b_M_rate 69 = .ok (.iload_n 3, 1) := by decide +kernel
theorem d_M_rate_70 : decode b_M_rate 70 = .ok (.ireturn, 1) := by decide +kernel
theorem d_M_order_0 : decode b_M_order 0 = .ok (.aload_n 0, 1) := by decide +kernel
theorem d_M_order_1 : decode b_M_order 1 = .ok (.iconst 0, 1) := by decide +kernel
theorem d_M_order_2 : decode b_M_order 2 = .ok (.putfield 38, 3) := by decide +kernel
theorem d_M_order_5 : decode b_M_order 5 = .ok (.aload_n 0, 1) := by decide +kernel
theorem d_M_order_6 : decode b_M_order 6 = .ok (.iload_n 1, 1) := by decide +kernel
theorem d_M_order_7 : decode b_M_order 7 = .ok (.invokevirtual 226, 3) := by decide +kernel
theorem d_M_order_10 : decode b_M_order 10 = .ok (.ifCond .eq 11, 3) := by decide +kernel
theorem d_M_order_13 : decode b_M_order 13 = .ok (.aload_n 0, 1) := by decide +kernel
theorem d_M_order_14 : decode b_M_order 14 = .ok (.iload_n 2, 1) := by decide +kernel
theorem d_M_order_15 : decode b_M_order 15 = .ok (.invokevirtual 229, 3) := by decide +kernel
theorem d_M_order_18 : decode b_M_order 18 = .ok (.ifCond .ne 9, 3) := by decide +kernel
theorem d_M_order_21 : decode b_M_order 21 = .ok (.aload_n 0, 1) := by decide +kernel
theorem d_M_order_22 : decode b_M_order 22 = .ok (.iconst 1, 1) := by decide +kernel
theorem d_M_order_23 : decode b_M_order 23 = .ok (.invokevirtual 174, 3) := by decide +kernel
theorem d_M_order_26 : decode b_M_order 26 = .ok (.ireturn, 1) := by decide +kernel
theorem d_M_order_27 : decode b_M_order 27 = .ok (.aload_n 0, 1) := by decide +kernel
theorem d_M_order_28 : decode b_M_order 28 = .ok (.getfield 16, 3) := by decide +kernel
theorem d_M_order_31 : decode b_M_order 31 = .ok (.iload_n 1, 1) := by decide +kernel
theorem d_M_order_32 : decode b_M_order 32 = .ok (.invokeinterface 53 2, 5) := by decide +kernel
theorem d_M_order_37 : decode b_M_order 37 = .ok (.checkcast 42, 3) := by decide +kernel
theorem d_M_order_40 : decode b_M_order 40 = .ok (.astore_n 3, 1) := by decide +kernel
theorem d_M_order_41 : decode b_M_order 41 = .ok (.aload_n 3, 1) := by decide +kernel
theorem d_M_order_42 : decode b_M_order 42 = .ok (.getfield 41, 3) := by decide +kernel
theorem d_M_order_45 : decode b_M_order 45 = .ok (.bipush 8, 2) := by decide +kernel
theorem d_M_order_47 : decode b_M_order 47 = .ok (.if_icmp .ne 9, 3) := by decide +kernel
theorem d_M_order_50 : decode b_M_order 50 = .ok (.aload_n 0, 1) := by decide +kernel
theorem d_M_order_51 : decode b_M_order 51 = .ok (.iconst 2, 1) := by decide +kernel
theorem d_M_order_52 : decode b_M_order 52 = .ok (.invokevirtual 174, 3) := by decide +kernel
theorem d_M_order_55 : decode b_M_order 55 = .ok (.ireturn, 1) := by decide +kernel
theorem d_M_order_56 : decode b_M_order 56 = .ok (.aload_n 3, 1) := by decide +kernel
theorem d_M_order_57 : decode b_M_order 57 = .ok (.getfield 49, 3) := by decide +kernel
theorem d_M_order_60 : decode b_M_order 60 = .ok (.aload_n 3, 1) := by decide +kernel
theorem d_M_order_61 : decode b_M_order 61 = .ok (.dup, 1) := by decide +kernel
theorem d_M_order_62 : decode b_M_order 62 = .ok (.getfield 41, 3) := by decide +kernel
theorem d_M_order_65 : decode b_M_order 65 = .ok (.dup_x1, 1) := by decide +kernel
theorem d_M_order_66 : decode b_M_order 66 = .ok (.iconst 1, 1) := by decide +kernel
theorem d_M_order_67 : decode b_M_order 67 = .ok (.iadd, 1) := by decide +kernel
theorem d_M_order_68 : decode b_M_order 68 = .ok (.putfield 41, 3) := by decide +kernel
theorem d_M_order_71 : decode b_M_order 71 = .ok (.iload_n 2, 1) := by decide +kernel
theorem d_M_order_72 : decode b_M_order 72 = .ok (.iastore, 1) := by decide +kernel
theorem d_M_order_73 : decode b_M_order 73 = .ok (.aload_n 3, 1) := by decide +kernel
theorem d_M_order_74 : decode b_M_order 74 = .ok (.getfield 41, 3) := by decide +kernel
theorem d_M_order_77 : decode b_M_order 77 = .ok (.ireturn, 1) := by decide +kernel
theorem d_M_load_0 : decode b_M_load 0 = .ok (.aload_n 0, 1) := by decide +kernel
theorem d_M_load_1 : decode b_M_load 1 = .ok (.iconst 0, 1) := by decide +kernel
theorem d_M_load_2 : decode b_M_load 2 = .ok (.putfield 38, 3) := by decide +kernel
theorem d_M_load_5 : decode b_M_load 5 = .ok (.aload_n 0, 1) := by decide +kernel
theorem d_M_load_6 : decode b_M_load 6 = .ok (.iload_n 1, 1) := by decide +kernel
theorem d_M_load_7 : decode b_M_load 7 = .ok (.invokevirtual 226, 3) := by decide +kernel
theorem d_M_load_10 : decode b_M_load 10 = .ok (.ifCond .ne 9, 3) := by decide +kernel
theorem d_M_load_13 : decode b_M_load 13 = .ok (.aload_n 0, 1) := by decide +kernel
theorem d_M_load_14 : decode b_M_load 14 = .ok (.iconst 1, 1) := by decide +kernel
theorem d_M_load_15 : decode b_M_load 15 = .ok (.invokevirtual 174, 3) := by decide +kernel
theorem d_M_load_18 : decode b_M_load 18 = .ok (.ireturn, 1) := by decide +kernel
theorem d_M_load_19 : decode b_M_load 19 = .ok (.aload_n 0, 1) := by decide +kernel
theorem d_M_load_20 : decode b_M_load 20 = .ok (.getfield 16, 3) := by decide +kernel
theorem d_M_load_23 : decode b_M_load 23 = .ok (.iload_n 1, 1) := by decide +kernel
theorem d_M_load_24 : decode b_M_load 24 = .ok (.invokeinterface 53 2, 5) := by decide +kernel
theorem d_M_load_29 : decode b_M_load 29 = .ok (.checkcast 42, 3) := by decide +kernel
theorem d_M_load_32 : decode b_M_load 32 = .ok (.astore_n 2, 1) := by decide +kernel
theorem d_M_load_33 : decode b_M_load 33 = .ok (.aload_n 2, 1) := by decide +kernel
theorem d_M_load_34 : decode b_M_load 34 = .ok (.getfield 61, 3) := by decide +kernel
theorem d_M_load_37 : decode b_M_load 37 = .ok (.iconst (-1), 1) := by decide +kernel
theorem d_M_load_38 : decode b_M_load 38 = .ok (.if_icmp .ne 10, 3) := by decide +kernel
theorem d_M_load_41 : decode b_M_load 41 = .ok (.aload_n 2, 1) := by decide +kernel
theorem d_M_load_42 : decode b_M_load 42 = .ok (.getfield 64, 3) := by decide +kernel
theorem d_M_load_45 : decode b_M_load 45 = .ok (.ifCond .eq 9, 3) := by decide +kernel
theorem d_M_load_48 : decode b_M_load 48 = .ok (.aload_n 0, 1) := by decide +kernel
theorem d_M_load_49 : decode b_M_load 49 = .ok (.iconst 2, 1) := by decide +kernel
theorem d_M_load_50 : decode b_M_load 50 = .ok (.invokevirtual 174, 3) := by decide +kernel
theorem d_M_load_53 : decode b_M_load 53 = .ok (.ireturn, 1) := by decide +kernel
theorem d_M_load_54 : decode b_M_load 54 = .ok (.aload_n 0, 1) := by decide +kernel
theorem d_M_load_55 : decode b_M_load 55 = .ok (.getfield 34, 3) := by decide +kernel
theorem d_M_load_58 : decode b_M_load 58 = .ok (.bipush 90, 2) := by decide +kernel
theorem d_M_load_60 : decode b_M_load 60 = .ok (.aload_n 2, 1) := by decide +kernel
theorem d_M_load_61 : decode b_M_load 61 = .ok (.getfield 86, 3) := by decide +kernel
theorem d_M_load_64 : decode b_M_load 64 = .ok (.isub, 1) := by decide +kernel
theorem d_M_load_65 : decode b_M_load 65 = .ok (.invokestatic 92, 3) := by decide +kernel
theorem d_M_load_68 : decode b_M_load 68 = .ok (.istore_n 3, 1) := by decide +kernel
theorem d_M_load_69 : decode b_M_load 69 = .ok (.aload_n 2, 1) := by decide +kernel
theorem d_M_load_70 : decode b_M_load 70 = .ok (.dup, 1) := by decide +kernel
theorem d_M_load_71 : decode b_M_load 71 = .ok (.getfield 86, 3) := by decide +kernel
theorem d_M_load_74 : decode b_M_load 74 = .ok (.iload_n 3, 1) := by decide +kernel
theorem d_M_load_75 : decode b_M_load 75 = .ok (.iadd, 1) := by decide +kernel
theorem d_M_load_76 : decode b_M_load 76 = .ok (.putfield 86, 3) := by decide +kernel
theorem d_M_load_79 : decode b_M_load 79 = .ok (.aload_n 0, 1) := by decide +kernel
theorem d_M_load_80 : decode b_M_load 80 = .ok (.dup, 1) := by decide +kernel
theorem d_M_load_81 : decode b_M_load 81 = .ok (.getfield 34, 3) := by decide +kernel
theorem d_M_load_84 : decode b_M_load 84 = .ok (.iload_n 3, 1) := by decide +kernel
theorem d_M_load_85 : decode b_M_load 85 = .ok (.isub, 1) := by decide +kernel
theorem d_M_load_86 : decode b_M_load 86 = .ok (.putfield 34, 3) := by decide +kernel
theorem d_M_load_89 : decode b_M_load 89 = .ok (.iload_n 3, 1) := by decide +kernel
theorem d_M_load_90 : decode b_M_load 90 = .ok (.ireturn, 1) := by decide +kernel
theorem d_M_rest_0 : decode b_M_rest 0 = .ok (.aload_n 0, 1) := by decide +kernel
theorem d_M_rest_1 : decode b_M_rest 1 = .ok (.iconst 0, 1) := by decide +kernel
theorem d_M_rest_2 : decode b_M_rest 2 = .ok (.putfield 38, 3) := by decide +kernel
theorem d_M_rest_5 : decode b_M_rest 5 = .ok (.aload_n 0, 1) := by decide +kernel
theorem d_M_rest_6 : decode b_M_rest 6 = .ok (.iload_n 1, 1) := by decide +kernel
theorem d_M_rest_7 : decode b_M_rest 7 = .ok (.invokevirtual 226, 3) := by decide +kernel
theorem d_M_rest_10 : decode b_M_rest 10 = .ok (.ifCond .ne 9, 3) := by decide +kernel
theorem d_M_rest_13 : decode b_M_rest 13 = .ok (.aload_n 0, 1) := by decide +kernel
theorem d_M_rest_14 : decode b_M_rest 14 = .ok (.iconst 1, 1) := by decide +kernel
theorem d_M_rest_15 : decode b_M_rest 15 = .ok (.invokevirtual 174, 3) := by decide +kernel
theorem d_M_rest_18 : decode b_M_rest 18 = .ok (.ireturn, 1) := by decide +kernel
theorem d_M_rest_19 : decode b_M_rest 19 = .ok (.aload_n 0, 1) := by decide +kernel
theorem d_M_rest_20 : decode b_M_rest 20 = .ok (.getfield 16, 3) := by decide +kernel
theorem d_M_rest_23 : decode b_M_rest 23 = .ok (.iload_n 1, 1) := by decide +kernel
theorem d_M_rest_24 : decode b_M_rest 24 = .ok (.invokeinterface 53 2, 5) := by decide +kernel
theorem d_M_rest_29 : decode b_M_rest 29 = .ok (.checkcast 42, 3) := by decide +kernel
theorem d_M_rest_32 : decode b_M_rest 32 = .ok (.astore_n 2, 1) := by decide +kernel
theorem d_M_rest_33 : decode b_M_rest 33 = .ok (.aload_n 2, 1) := by decide +kernel
theorem d_M_rest_34 : decode b_M_rest 34 = .ok (.getfield 61, 3) := by decide +kernel
theorem d_M_rest_37 : decode b_M_rest 37 = .ok (.iconst (-1), 1) := by decide +kernel
theorem d_M_rest_38 : decode b_M_rest 38 = .ok (.if_icmp .eq 9, 3) := by decide +kernel
theorem d_M_rest_41 : decode b_M_rest 41 = .ok (.aload_n 0, 1) := by decide +kernel
theorem d_M_rest_42 : decode b_M_rest 42 = .ok (.iconst 2, 1) := by decide +kernel
theorem d_M_rest_43 : decode b_M_rest 43 = .ok (.invokevirtual 174, 3) := by decide +kernel
theorem d_M_rest_46 : decode b_M_rest 46 = .ok (.ireturn, 1) := by decide +kernel
theorem d_M_rest_47 : decode b_M_rest 47 = .ok (.aload_n 2, 1) := by decide +kernel
theorem d_M_rest_48 : decode b_M_rest 48 = .ok (.getfield 46, 3) := by decide +kernel
theorem d_M_rest_51 : decode b_M_rest 51 = .ok (.istore_n 3, 1) := by decide +kernel
theorem d_M_rest_52 : decode b_M_rest 52 = .ok (.aload_n 2, 1) := by decide +kernel
theorem d_M_rest_53 : decode b_M_rest 53 = .ok (.iconst 0, 1) := by decide +kernel
theorem d_M_rest_54 : decode b_M_rest 54 = .ok (.putfield 46, 3) := by decide +kernel
theorem d_M_rest_57 : decode b_M_rest 57 = .ok (.aload_n 2, 1) := by decide +kernel
theorem d_M_rest_58 : decode b_M_rest 58 = .ok (.iconst 0, 1) := by decide +kernel
theorem d_M_rest_59 : decode b_M_rest 59 = .ok (.putfield 41, 3) := by decide +kernel
theorem d_M_rest_62 : decode b_M_rest 62 = .ok (.iload_n 3, 1) := by decide +kernel
theorem d_M_rest_63 : decode b_M_rest 63 = .ok (.ireturn, 1) := by decide +kernel
theorem d_M_deliver_0 : decode b_M_deliver 0 = .ok (.aload_n 0, 1) := by decide +kernel
theorem d_M_deliver_1 : decode b_M_deliver 1 = .ok (.iconst 0, 1) := by decide +kernel
theorem d_M_deliver_2 : decode b_M_deliver 2 = .ok (.putfield 38, 3) := by decide +kernel
theorem d_M_deliver_5 : decode b_M_deliver 5 = .ok (.iload_n 1, 1) := by decide +kernel
theorem d_M_deliver_6 : decode b_M_deliver 6 = .ok (.iconst 1, 1) := by decide +kernel
theorem d_M_deliver_7 : decode b_M_deliver 7 = .ok (.sipush 500, 3) := by decide +kernel
theorem d_M_deliver_10 : decode b_M_deliver 10 = .ok (.invokestatic 167, 3) := by decide +kernel
theorem d_M_deliver_13 : decode b_M_deliver 13 = .ok (.ifCond .eq 13, 3) := by decide +kernel
theorem d_M_deliver_16 : decode b_M_deliver 16 = .ok (.iload_n 2, 1) := by decide +kernel
theorem d_M_deliver_17 : decode b_M_deliver 17 = .ok (.iconst 1, 1) := by decide +kernel
theorem d_M_deliver_18 : decode b_M_deliver 18 = .ok (.bipush 96, 2) := by decide +kernel
theorem d_M_deliver_20 : decode b_M_deliver 20 = .ok (.invokestatic 167, 3) := by decide +kernel
theorem d_M_deliver_23 : decode b_M_deliver 23 = .ok (.ifCond .ne 9, 3) := by decide +kernel
theorem d_M_deliver_26 : decode b_M_deliver 26 = .ok (.aload_n 0, 1) := by decide +kernel
theorem d_M_deliver_27 : decode b_M_deliver 27 = .ok (.iconst 1, 1) := by decide +kernel
theorem d_M_deliver_28 : decode b_M_deliver 28 = .ok (.invokevirtual 174, 3) := by decide +kernel
theorem d_M_deliver_31 : decode b_M_deliver 31 = .ok (.ireturn, 1) := by decide +kernel
theorem d_M_deliver_32 : decode b_M_deliver 32 = .ok (.aload_n 0, 1) := by decide +kernel
theorem d_M_deliver_33 : decode b_M_deliver 33 = .ok (.getfield 158, 3) := by decide +kernel
theorem d_M_deliver_36 : decode b_M_deliver 36 = .ok (.iconst 5, 1) := by decide +kernel
theorem d_M_deliver_37 : decode b_M_deliver 37 = .ok (.if_icmp .ne 9, 3) := by decide +kernel
theorem d_M_deliver_40 : decode b_M_deliver 40 = .ok (.aload_n 0, 1) := by decide +kernel
theorem d_M_deliver_41 : decode b_M_deliver 41 = .ok (.iconst 2, 1) := by decide +kernel
theorem d_M_deliver_42 : decode b_M_deliver 42 = .ok (.invokevirtual 174, 3) := by decide +kernel
theorem d_M_deliver_45 : decode b_M_deliver 45 = .ok (.ireturn, 1) := by decide +kernel
theorem d_M_deliver_46 : decode b_M_deliver 46 = .ok (.aload_n 0, 1) := by decide +kernel
theorem d_M_deliver_47 : decode b_M_deliver 47 = .ok (.getfield 24, 3) := by decide +kernel
theorem d_M_deliver_50 : decode b_M_deliver 50 = .ok (.aload_n 0, 1) := by decide +kernel
theorem d_M_deliver_51 : decode b_M_deliver 51 = .ok (.getfield 158, 3) := by decide +kernel
theorem d_M_deliver_54 : decode b_M_deliver 54 = .ok (.aaload, 1) := by decide +kernel
theorem d_M_deliver_55 : decode b_M_deliver 55 = .ok (.iconst 0, 1) := by decide +kernel
theorem d_M_deliver_56 : decode b_M_deliver 56 = .ok (.aload_n 0, 1) := by decide +kernel
theorem d_M_deliver_57 : decode b_M_deliver 57 = .ok (.getfield 114, 3) := by decide +kernel
theorem d_M_deliver_60 : decode b_M_deliver 60 = .ok (.iload_n 2, 1) := by decide +kernel
theorem d_M_deliver_61 : decode b_M_deliver 61 = .ok (.iadd, 1) := by decide +kernel
theorem d_M_deliver_62 : decode b_M_deliver 62 = .ok (.iastore, 1) := by decide +kernel
theorem d_M_deliver_63 : decode b_M_deliver 63 = .ok (.aload_n 0, 1) := by decide +kernel
theorem d_M_deliver_64 : decode b_M_deliver 64 = .ok (.getfield 24, 3) := by decide +kernel
theorem d_M_deliver_67 : decode b_M_deliver 67 = .ok (.aload_n 0, 1) := by decide +kernel
theorem d_M_deliver_68 : decode b_M_deliver 68 = .ok (.dup, 1) := by decide +kernel
theorem d_M_deliver_69 : decode b_M_deliver 69 = .ok (.getfield 158, 3) := by decide +kernel
theorem d_M_deliver_72 : decode b_M_deliver 72 = .ok (.dup_x1, 1) := by decide +kernel
theorem d_M_deliver_73 : decode b_M_deliver 73 = .ok (.iconst 1, 1) := by decide +kernel
theorem d_M_deliver_74 : decode b_M_deliver 74 = .ok (.iadd, 1) := by decide +kernel
theorem d_M_deliver_75 : decode b_M_deliver 75 = .ok (.putfield 158, 3) := by decide +kernel
theorem d_M_deliver_78 : decode b_M_deliver 78 = .ok (.aaload, 1) := by decide +kernel
theorem d_M_deliver_79 : decode b_M_deliver 79 = .ok (.iconst 1, 1) := by decide +kernel
theorem d_M_deliver_80 : decode b_M_deliver 80 = .ok (.iload_n 1, 1) := by decide +kernel
theorem d_M_deliver_81 : decode b_M_deliver 81 = .ok (.iastore, 1) := by decide +kernel
theorem d_M_deliver_82 : decode b_M_deliver 82 = .ok (.aload_n 0, 1) := by decide +kernel
theorem d_M_deliver_83 : decode b_M_deliver 83 = .ok (.getfield 158, 3) := by decide +kernel
theorem d_M_deliver_86 : decode b_M_deliver 86 = .ok (.ireturn, 1) := by decide +kernel
theorem d_M_claimNow_0 : decode b_M_claimNow 0 = .ok (.aload_n 1, 1) := by decide +kernel
theorem d_M_claimNow_1 : decode b_M_claimNow 1 = .ok (.getfield 132, 3) := by decide +kernel
theorem d_M_claimNow_4 : decode b_M_claimNow 4 = .ok (.iload_n 2, 1) := by decide +kernel
theorem d_M_claimNow_5 : decode b_M_claimNow 5 = .ok (.baload, 1) := by decide +kernel
theorem d_M_claimNow_6 : decode b_M_claimNow 6 = .ok (.ifCond .ne 5, 3) := by decide +kernel
theorem d_M_claimNow_9 : decode b_M_claimNow 9 = .ok (.iconst 0, 1) := by decide +kernel
theorem d_M_claimNow_10 : decode b_M_claimNow 10 = .ok (.ireturn, 1) := by decide +kernel
theorem d_M_claimNow_11 : decode b_M_claimNow 11 = .ok (.iconst 0, 1) := by decide +kernel
theorem d_M_claimNow_12 : decode b_M_claimNow 12 = .ok (.iload_n 2, 1) := by decide +kernel
theorem d_M_claimNow_13 : decode b_M_claimNow 13 = .ok (.bipush 12, 2) := by decide +kernel
theorem d_M_claimNow_15 : decode b_M_claimNow 15 = .ok (.isub, 1) := by decide +kernel
theorem d_M_claimNow_16 : decode b_M_claimNow 16 = .ok (.invokestatic 232, 3) := by decide +kernel
theorem d_M_claimNow_19 : decode b_M_claimNow 19 = .ok (.istore_n 3, 1) := by decide +kernel
theorem d_M_claimNow_20 : decode b_M_claimNow 20 = .ok (.iload_n 3, 1) := by decide +kernel
theorem d_M_claimNow_21 : decode b_M_claimNow 21 = .ok (.iload_n 2, 1) := by decide +kernel
theorem d_M_claimNow_22 : decode b_M_claimNow 22 = .ok (.if_icmp .gt 20, 3) := by decide +kernel
theorem d_M_claimNow_25 : decode b_M_claimNow 25 = .ok (.aload_n 1, 1) := by decide +kernel
theorem d_M_claimNow_26 : decode b_M_claimNow 26 = .ok (.getfield 120, 3) := by decide +kernel
theorem d_M_claimNow_29 : decode b_M_claimNow 29 = .ok (.iload_n 3, 1) := by decide +kernel
theorem d_M_claimNow_30 : decode b_M_claimNow 30 = .ok (.baload, 1) := by decide +kernel
theorem d_M_claimNow_31 : decode b_M_claimNow 31 = .ok (.ifCond .eq 5, 3) := by decide +kernel
theorem d_M_claimNow_34 : decode b_M_claimNow 34 = .ok (.iconst 1, 1) := by decide +kernel
theorem d_M_claimNow_35 : decode b_M_claimNow 35 = .ok (.ireturn, 1) := by decide +kernel
theorem d_M_claimNow_36 : decode b_M_claimNow 36 = .ok (.iinc 3 1, 3) := by decide +kernel
theorem d_M_claimNow_39 : decode b_M_claimNow 39 = .ok (.goto (-19), 3) := by decide +kernel
theorem d_M_claimNow_42 : decode b_M_claimNow 42 = .ok (.aload_n 1, 1) := by decide +kernel
theorem d_M_claimNow_43 : decode b_M_claimNow 43 = .ok (.getfield 235, 3) := by decide +kernel
theorem d_M_claimNow_46 : decode b_M_claimNow 46 = .ok (.ifCond .ne 7, 3) := by decide +kernel
theorem d_M_claimNow_49 : decode b_M_claimNow 49 = .ok (.iconst 4, 1) := by decide +kernel
theorem d_M_claimNow_50 : decode b_M_claimNow 50 = .ok (.goto 18, 3) := by decide +kernel
theorem d_M_claimNow_53 : decode b_M_claimNow 53 = .ok (.aload_n 1, 1) := by decide +kernel
theorem d_M_claimNow_54 : decode b_M_claimNow 54 = .ok (.getfield 235, 3) := by decide +kernel
theorem d_M_claimNow_57 : decode b_M_claimNow 57 = .ok (.iconst 1, 1) := by decide +kernel
theorem d_M_claimNow_58 : decode b_M_claimNow 58 = .ok (.if_icmp .ne 8, 3) := by decide +kernel
theorem d_M_claimNow_61 : decode b_M_claimNow 61 = .ok (.bipush 8, 2) := by decide +kernel
theorem d_M_claimNow_63 : decode b_M_claimNow 63 = .ok (.goto 5, 3) := by decide +kernel
theorem d_M_claimNow_66 : decode b_M_claimNow 66 = .ok (.bipush 16, 2) := by decide +kernel
theorem d_M_claimNow_68 : decode b_M_claimNow 68 = .ok (.istore_n 3, 1) := by decide +kernel
theorem d_M_claimNow_69 : decode b_M_claimNow 69 = .ok (.iconst (-1), 1) := by decide +kernel
theorem d_M_claimNow_70 : decode b_M_claimNow 70 = .ok (.istore 4, 2) := by decide +kernel
theorem d_M_claimNow_72 : decode b_M_claimNow 72 = .ok (.iconst 0, 1) := by decide +kernel
theorem d_M_claimNow_73 : decode b_M_claimNow 73 = .ok (.istore 5, 2) := by decide +kernel
theorem d_M_claimNow_75 : decode b_M_claimNow 75 = .ok (.iload 5, 2) := by decide +kernel
theorem d_M_claimNow_77 : decode b_M_claimNow 77 = .ok (.aload_n 0, 1) := by decide +kernel
theorem d_M_claimNow_78 : decode b_M_claimNow 78 = .ok (.getfield 204, 3) := by decide +kernel
theorem d_M_claimNow_81 : decode b_M_claimNow 81 = .ok (.if_icmp .ge 55, 3) := by decide +kernel
theorem d_M_claimNow_84 : decode b_M_claimNow 84 = .ok (.aload_n 0, 1) := by decide +kernel
theorem d_M_claimNow_85 : decode b_M_claimNow 85 = .ok (.getfield 21, 3) := by decide +kernel
theorem d_M_claimNow_88 : decode b_M_claimNow 88 = .ok (.iload 5, 2) := by decide +kernel
theorem d_M_claimNow_90 : decode b_M_claimNow 90 = .ok (.aaload, 1) := by decide +kernel
theorem d_M_claimNow_91 : decode b_M_claimNow 91 = .ok (.astore 6, 2) := by decide +kernel
theorem d_M_claimNow_93 : decode b_M_claimNow 93 = .ok (.aload 6, 2) := by decide +kernel
theorem d_M_claimNow_95 : decode b_M_claimNow 95 = .ok (.iconst 1, 1) := by decide +kernel
theorem d_M_claimNow_96 : decode b_M_claimNow 96 = .ok (.iaload, 1) := by decide +kernel
theorem d_M_claimNow_97 : decode b_M_claimNow 97 = .ok (.iload_n 2, 1) := by decide +kernel
theorem d_M_claimNow_98 : decode b_M_claimNow 98 = .ok (.iconst 4, 1) := by decide +kernel
theorem d_M_claimNow_99 : decode b_M_claimNow 99 = .ok (.isub, 1) := by decide +kernel
theorem d_M_claimNow_100 : decode b_M_claimNow 100 = .ok (.iload_n 2, 1) := by decide +kernel
theorem d_M_claimNow_101 : decode b_M_claimNow 101 = .ok (.invokestatic 167, 3) := by decide +kernel
theorem d_M_claimNow_104 : decode b_M_claimNow 104 = .ok (.ifCond .eq 26, 3) := by decide +kernel
theorem d_M_claimNow_107 : decode b_M_claimNow 107 = .ok (.aload 6, 2) := by decide +kernel
theorem d_M_claimNow_109 : decode b_M_claimNow 109 = .ok (.iconst 0, 1) := by decide +kernel
theorem d_M_claimNow_110 : decode b_M_claimNow 110 = .ok (.iaload, 1) := by decide +kernel
theorem d_M_claimNow_111 : decode b_M_claimNow 111 = .ok (.iload_n 2, 1) := by decide +kernel
theorem d_M_claimNow_112 : decode b_M_claimNow 112 = .ok (.iload_n 3, 1) := by decide +kernel
theorem d_M_claimNow_113 : decode b_M_claimNow 113 = .ok (.isub, 1) := by decide +kernel
theorem d_M_claimNow_114 : decode b_M_claimNow 114 = .ok (.if_icmp .gt 16, 3) := by decide +kernel
theorem d_M_claimNow_117 : decode b_M_claimNow 117 = .ok (.aload_n 1, 1) := by decide +kernel
theorem d_M_claimNow_118 : decode b_M_claimNow 118 = .ok (.aload 6, 2) := by decide +kernel
theorem d_M_claimNow_120 : decode b_M_claimNow 120 = .ok (.invokestatic 216, 3) := by decide +kernel
theorem d_M_claimNow_123 : decode b_M_claimNow 123 = .ok (.ifCond .eq 7, 3) := by decide +kernel
theorem d_M_claimNow_126 : decode b_M_claimNow 126 = .ok (.iload 5, 2) := by decide +kernel
theorem d_M_claimNow_128 : decode b_M_claimNow 128 = .ok (.istore 4, 2) := by decide +kernel
theorem d_M_claimNow_130 : decode b_M_claimNow 130 = .ok (.iinc 5 1, 3) := by decide +kernel
theorem d_M_claimNow_133 : decode b_M_claimNow 133 = .ok (.goto (-58), 3) := by decide +kernel
theorem d_M_claimNow_136 : decode b_M_claimNow 136 = .ok (.iload 4, 2) := by decide +kernel
theorem d_M_claimNow_138 : decode b_M_claimNow 138 = .ok (.iconst (-1), 1) := by decide +kernel
theorem d_M_claimNow_139 : decode b_M_claimNow 139 = .ok (.if_icmp .ne 7, 3) := by decide +kernel
theorem d_M_claimNow_142 : decode b_M_claimNow 142 = .ok (.iconst 2, 1) := by decide +kernel
theorem d_M_claimNow_143 : decode b_M_claimNow 143 = .ok (.goto 21, 3) := by decide +kernel
theorem d_M_claimNow_146 : decode b_M_claimNow 146 = .ok (.aload_n 0, 1) := by decide +kernel
theorem d_M_claimNow_147 : decode b_M_claimNow 147 = .ok (.getfield 21, 3) := by decide +kernel
theorem d_M_claimNow_150 : decode b_M_claimNow 150 = .ok (.iload 4, 2) := by decide +kernel
theorem d_M_claimNow_152 : decode b_M_claimNow 152 = .ok (.aaload, 1) := by decide +kernel
theorem d_M_claimNow_153 : decode b_M_claimNow 153 = .ok (.bipush 6, 2) := by decide +kernel
theorem d_M_claimNow_155 : decode b_M_claimNow 155 = .ok (.iaload, 1) := by decide +kernel
theorem d_M_claimNow_156 : decode b_M_claimNow 156 = .ok (.ifCond .ne 7, 3) := by decide +kernel
theorem d_M_claimNow_159 : decode b_M_claimNow 159 = .ok (.iconst 3, 1) := by decide +kernel
theorem d_M_claimNow_160 : decode b_M_claimNow 160 = .ok (.goto 4, 3) := by decide +kernel
theorem d_M_claimNow_163 : decode b_M_claimNow 163 = .ok (.iconst 4, 1) := by decide +kernel
theorem d_M_claimNow_164 : decode b_M_claimNow 164 = .ok (.ireturn, 1) := by decide +kernel
theorem d_M_claim_0 : decode b_M_claim 0 = .ok (.aload_n 0, 1) := by decide +kernel
theorem d_M_claim_1 : decode b_M_claim 1 = .ok (.iconst 0, 1) := by decide +kernel
theorem d_M_claim_2 : decode b_M_claim 2 = .ok (.putfield 38, 3) := by decide +kernel
theorem d_M_claim_5 : decode b_M_claim 5 = .ok (.aload_n 0, 1) := by decide +kernel
theorem d_M_claim_6 : decode b_M_claim 6 = .ok (.iload_n 1, 1) := by decide +kernel
theorem d_M_claim_7 : decode b_M_claim 7 = .ok (.invokevirtual 229, 3) := by decide +kernel
theorem d_M_claim_10 : decode b_M_claim 10 = .ok (.ifCond .ne 9, 3) := by decide +kernel
theorem d_M_claim_13 : decode b_M_claim 13 = .ok (.aload_n 0, 1) := by decide +kernel
theorem d_M_claim_14 : decode b_M_claim 14 = .ok (.iconst 1, 1) := by decide +kernel
theorem d_M_claim_15 : decode b_M_claim 15 = .ok (.invokevirtual 174, 3) := by decide +kernel
theorem d_M_claim_18 : decode b_M_claim 18 = .ok (.ireturn, 1) := by decide +kernel
theorem d_M_claim_19 : decode b_M_claim 19 = .ok (.iload_n 2, 1) := by decide +kernel
theorem d_M_claim_20 : decode b_M_claim 20 = .ok (.iconst 1, 1) := by decide +kernel
theorem d_M_claim_21 : decode b_M_claim 21 = .ok (.aload_n 0, 1) := by decide +kernel
theorem d_M_claim_22 : decode b_M_claim 22 = .ok (.getfield 114, 3) := by decide +kernel
theorem d_M_claim_25 : decode b_M_claim 25 = .ok (.invokestatic 167, 3) := by decide +kernel
theorem d_M_claim_28 : decode b_M_claim 28 = .ok (.ifCond .ne 9, 3) := by decide +kernel
theorem d_M_claim_31 : decode b_M_claim 31 = .ok (.aload_n 0, 1) := by decide +kernel
theorem d_M_claim_32 : decode b_M_claim 32 = .ok (.iconst 2, 1) := by decide +kernel
theorem d_M_claim_33 : decode b_M_claim 33 = .ok (.invokevirtual 174, 3) := by decide +kernel
theorem d_M_claim_36 : decode b_M_claim 36 = .ok (.ireturn, 1) := by decide +kernel
theorem d_M_claim_37 : decode b_M_claim 37 = .ok (.aload_n 0, 1) := by decide +kernel
theorem d_M_claim_38 : decode b_M_claim 38 = .ok (.aload_n 0, 1) := by decide +kernel
theorem d_M_claim_39 : decode b_M_claim 39 = .ok (.getfield 10, 3) := by decide +kernel
theorem d_M_claim_42 : decode b_M_claim 42 = .ok (.iload_n 1, 1) := by decide +kernel
theorem d_M_claim_43 : decode b_M_claim 43 = .ok (.invokeinterface 53 2, 5) := by decide +kernel
theorem d_M_claim_48 : decode b_M_claim 48 = .ok (.checkcast 59, 3) := by decide +kernel
theorem d_M_claim_51 : decode b_M_claim 51 = .ok (.iload_n 2, 1) := by decide +kernel
theorem d_M_claim_52 : decode b_M_claim 52 = .ok (.invokevirtual 238, 3) := by decide +kernel
theorem d_M_claim_55 : decode b_M_claim 55 = .ok (.ireturn, 1) := by decide +kernel
theorem d_M_ofRoad_0 : decode b_M_ofRoad 0 = .ok (.aload_n 0, 1) := by decide +kernel
theorem d_M_ofRoad_1 : decode b_M_ofRoad 1 = .ok (.iconst 0, 1) := by decide +kernel
theorem d_M_ofRoad_2 : decode b_M_ofRoad 2 = .ok (.putfield 38, 3) := by decide +kernel
theorem d_M_ofRoad_5 : decode b_M_ofRoad 5 = .ok (.aload_n 0, 1) := by decide +kernel
theorem d_M_ofRoad_6 : decode b_M_ofRoad 6 = .ok (.iload_n 1, 1) := by decide +kernel
theorem d_M_ofRoad_7 : decode b_M_ofRoad 7 = .ok (.invokevirtual 229, 3) := by decide +kernel
theorem d_M_ofRoad_10 : decode b_M_ofRoad 10 = .ok (.ifCond .ne 9, 3) := by decide +kernel
theorem d_M_ofRoad_13 : decode b_M_ofRoad 13 = .ok (.aload_n 0, 1) := by decide +kernel
theorem d_M_ofRoad_14 : decode b_M_ofRoad 14 = .ok (.iconst 1, 1) := by decide +kernel
theorem d_M_ofRoad_15 : decode b_M_ofRoad 15 = .ok (.invokevirtual 174, 3) := by decide +kernel
theorem d_M_ofRoad_18 : decode b_M_ofRoad 18 = .ok (.ireturn, 1) := by decide +kernel
theorem d_M_ofRoad_19 : decode b_M_ofRoad 19 = .ok (.iload_n 2, 1) := by decide +kernel
theorem d_M_ofRoad_20 : decode b_M_ofRoad 20 = .ok (.iconst 0, 1) := by decide +kernel
theorem d_M_ofRoad_21 : decode b_M_ofRoad 21 = .ok (.bipush 14, 2) := by decide +kernel
theorem d_M_ofRoad_23 : decode b_M_ofRoad 23 = .ok (.invokestatic 167, 3) := by decide +kernel
theorem d_M_ofRoad_26 : decode b_M_ofRoad 26 = .ok (.ifCond .ne 9, 3) := by decide +kernel
theorem d_M_ofRoad_29 : decode b_M_ofRoad 29 = .ok (.aload_n 0, 1) := by decide +kernel
theorem d_M_ofRoad_30 : decode b_M_ofRoad 30 = .ok (.iconst 2, 1) := by decide +kernel
theorem d_M_ofRoad_31 : decode b_M_ofRoad 31 = .ok (.invokevirtual 174, 3) := by decide +kernel
theorem d_M_ofRoad_34 : decode b_M_ofRoad 34 = .ok (.ireturn, 1) := by decide +kernel
theorem d_M_ofRoad_35 : decode b_M_ofRoad 35 = .ok (.aload_n 0, 1) := by decide +kernel
theorem d_M_ofRoad_36 : decode b_M_ofRoad 36 = .ok (.getfield 10, 3) := by decide +kernel
theorem d_M_ofRoad_39 : decode b_M_ofRoad 39 = .ok (.iload_n 1, 1) := by decide +kernel
theorem d_M_ofRoad_40 : decode b_M_ofRoad 40 = .ok (.invokeinterface 53 2, 5) := by decide +kernel
theorem d_M_ofRoad_45 : decode b_M_ofRoad 45 = .ok (.checkcast 59, 3) := by decide +kernel
theorem d_M_ofRoad_48 : decode b_M_ofRoad 48 = .ok (.iload_n 2, 1) := by decide +kernel
theorem d_M_ofRoad_49 : decode b_M_ofRoad 49 = .ok (.invokevirtual 242, 3) := by decide +kernel
theorem d_M_ofRoad_52 : decode b_M_ofRoad 52 = .ok (.ireturn, 1) := by decide +kernel
theorem d_M_ofLorry_0 : decode b_M_ofLorry 0 = .ok (.aload_n 0, 1) := by decide +kernel
theorem d_M_ofLorry_1 : decode b_M_ofLorry 1 = .ok (.iconst 0, 1) := by decide +kernel
theorem d_M_ofLorry_2 : decode b_M_ofLorry 2 = .ok (.putfield 38, 3) := by decide +kernel
theorem d_M_ofLorry_5 : decode b_M_ofLorry 5 = .ok (.aload_n 0, 1) := by decide +kernel
theorem d_M_ofLorry_6 : decode b_M_ofLorry 6 = .ok (.iload_n 1, 1) := by decide +kernel
theorem d_M_ofLorry_7 : decode b_M_ofLorry 7 = .ok (.invokevirtual 226, 3) := by decide +kernel
theorem d_M_ofLorry_10 : decode b_M_ofLorry 10 = .ok (.ifCond .ne 9, 3) := by decide +kernel
theorem d_M_ofLorry_13 : decode b_M_ofLorry 13 = .ok (.aload_n 0, 1) := by decide +kernel
theorem d_M_ofLorry_14 : decode b_M_ofLorry 14 = .ok (.iconst 1, 1) := by decide +kernel
theorem d_M_ofLorry_15 : decode b_M_ofLorry 15 = .ok (.invokevirtual 174, 3) := by decide +kernel
theorem d_M_ofLorry_18 : decode b_M_ofLorry 18 = .ok (.ireturn, 1) := by decide +kernel
theorem d_M_ofLorry_19 : decode b_M_ofLorry 19 = .ok (.iload_n 2, 1) := by decide +kernel
theorem d_M_ofLorry_20 : decode b_M_ofLorry 20 = .ok (.iconst 0, 1) := by decide +kernel
theorem d_M_ofLorry_21 : decode b_M_ofLorry 21 = .ok (.bipush 8, 2) := by decide +kernel
theorem d_M_ofLorry_23 : decode b_M_ofLorry 23 = .ok (.invokestatic 167, 3) := by decide +kernel
theorem d_M_ofLorry_26 : decode b_M_ofLorry 26 = .ok (.ifCond .ne 9, 3) := by decide +kernel
theorem d_M_ofLorry_29 : decode b_M_ofLorry 29 = .ok (.aload_n 0, 1) := by decide +kernel
theorem d_M_ofLorry_30 : decode b_M_ofLorry 30 = .ok (.iconst 2, 1) := by decide +kernel
theorem d_M_ofLorry_31 : decode b_M_ofLorry 31 = .ok (.invokevirtual 174, 3) := by decide +kernel
theorem d_M_ofLorry_34 : decode b_M_ofLorry 34 = .ok (.ireturn, 1) := by decide +kernel
theorem d_M_ofLorry_35 : decode b_M_ofLorry 35 = .ok (.aload_n 0, 1) := by decide +kernel
theorem d_M_ofLorry_36 : decode b_M_ofLorry 36 = .ok (.getfield 16, 3) := by decide +kernel
theorem d_M_ofLorry_39 : decode b_M_ofLorry 39 = .ok (.iload_n 1, 1) := by decide +kernel
theorem d_M_ofLorry_40 : decode b_M_ofLorry 40 = .ok (.invokeinterface 53 2, 5) := by decide +kernel
theorem d_M_ofLorry_45 : decode b_M_ofLorry 45 = .ok (.checkcast 42, 3) := by decide +kernel
theorem d_M_ofLorry_48 : decode b_M_ofLorry 48 = .ok (.iload_n 2, 1) := by decide +kernel
theorem d_M_ofLorry_49 : decode b_M_ofLorry 49 = .ok (.invokevirtual 245, 3) := by decide +kernel
theorem d_M_ofLorry_52 : decode b_M_ofLorry 52 = .ok (.ireturn, 1) := by decide +kernel
theorem d_M_manyNow_0 : decode b_M_manyNow 0 = .ok (.iconst 0, 1) := by decide +kernel
theorem d_M_manyNow_1 : decode b_M_manyNow 1 = .ok (.istore_n 2, 1) := by decide +kernel
theorem d_M_manyNow_2 : decode b_M_manyNow 2 = .ok (.iconst 0, 1) := by decide +kernel
theorem d_M_manyNow_3 : decode b_M_manyNow 3 = .ok (.istore_n 3, 1) := by decide +kernel
theorem d_M_manyNow_4 : decode b_M_manyNow 4 = .ok (.iconst 0, 1) := by decide +kernel
theorem d_M_manyNow_5 : decode b_M_manyNow 5 = .ok (.istore 4, 2) := by decide +kernel
theorem d_M_manyNow_7 : decode b_M_manyNow 7 = .ok (.iload 4, 2) := by decide +kernel
theorem d_M_manyNow_9 : decode b_M_manyNow 9 = .ok (.aload_n 0, 1) := by decide +kernel
theorem d_M_manyNow_10 : decode b_M_manyNow 10 = .ok (.getfield 10, 3) := by decide +kernel
theorem d_M_manyNow_13 : decode b_M_manyNow 13 = .ok (.invokeinterface 124 1, 5) := by decide +kernel
theorem d_M_manyNow_18 : decode b_M_manyNow 18 = .ok (.if_icmp .ge 62, 3) := by decide +kernel
theorem d_M_manyNow_21 : decode b_M_manyNow 21 = .ok (.iload_n 2, 1) := by decide +kernel
theorem d_M_manyNow_22 : decode b_M_manyNow 22 = .ok (.aload_n 0, 1) := by decide +kernel
theorem d_M_manyNow_23 : decode b_M_manyNow 23 = .ok (.getfield 10, 3) := by decide +kernel
theorem d_M_manyNow_26 : decode b_M_manyNow 26 = .ok (.iload 4, 2) := by decide +kernel
theorem d_M_manyNow_28 : decode b_M_manyNow 28 = .ok (.invokeinterface 53 2, 5) := by decide +kernel
theorem d_M_manyNow_33 : decode b_M_manyNow 33 = .ok (.checkcast 59, 3) := by decide +kernel
theorem d_M_manyNow_36 : decode b_M_manyNow 36 = .ok (.getfield 101, 3) := by decide +kernel
theorem d_M_manyNow_39 : decode b_M_manyNow 39 = .ok (.iadd, 1) := by decide +kernel
theorem d_M_manyNow_40 : decode b_M_manyNow 40 = .ok (.istore_n 2, 1) := by decide +kernel
theorem d_M_manyNow_41 : decode b_M_manyNow 41 = .ok (.iload_n 3, 1) := by decide +kernel
theorem d_M_manyNow_42 : decode b_M_manyNow 42 = .ok (.aload_n 0, 1) := by decide +kernel
theorem d_M_manyNow_43 : decode b_M_manyNow 43 = .ok (.getfield 10, 3) := by decide +kernel
theorem d_M_manyNow_46 : decode b_M_manyNow 46 = .ok (.iload 4, 2) := by decide +kernel
theorem d_M_manyNow_48 : decode b_M_manyNow 48 = .ok (.invokeinterface 53 2, 5) := by decide +kernel
theorem d_M_manyNow_53 : decode b_M_manyNow 53 = .ok (.checkcast 59, 3) := by decide +kernel
theorem d_M_manyNow_56 : decode b_M_manyNow 56 = .ok (.getfield 132, 3) := by decide +kernel
theorem d_M_manyNow_59 : decode b_M_manyNow 59 = .ok (.aload_n 0, 1) := by decide +kernel
theorem d_M_manyNow_60 : decode b_M_manyNow 60 = .ok (.getfield 114, 3) := by decide +kernel
theorem d_M_manyNow_63 : decode b_M_manyNow 63 = .ok (.baload, 1) := by decide +kernel
theorem d_M_manyNow_64 : decode b_M_manyNow 64 = .ok (.ifCond .eq 7, 3) := by decide +kernel
theorem d_M_manyNow_67 : decode b_M_manyNow 67 = .ok (.iconst 1, 1) := by decide +kernel
theorem d_M_manyNow_68 : decode b_M_manyNow 68 = .ok (.goto 4, 3) := by decide +kernel
theorem d_M_manyNow_71 : decode b_M_manyNow 71 = .ok (.iconst 0, 1) := by decide +kernel
theorem d_M_manyNow_72 : decode b_M_manyNow 72 = .ok (.iadd, 1) := by decide +kernel
theorem d_M_manyNow_73 : decode b_M_manyNow 73 = .ok (.istore_n 3, 1) := by decide +kernel
theorem d_M_manyNow_74 : decode b_M_manyNow 74 = .ok (.iinc 4 1, 3) := by decide +kernel
theorem d_M_manyNow_77 : decode b_M_manyNow 77 = .ok (.goto (-70), 3) := by decide +kernel
theorem d_M_manyNow_80 : decode b_M_manyNow 80 = .ok (.bipush 15, 2) := by decide +kernel
theorem d_M_manyNow_82 : decode b_M_manyNow 82 = .ok (.newarray .int, 2) := by decide +kernel
theorem d_M_manyNow_84 : decode b_M_manyNow 84 = .ok (.dup, 1) := by decide +kernel
theorem d_M_manyNow_85 : decode b_M_manyNow 85 = .ok (.iconst 0, 1) := by decide +kernel
theorem d_M_manyNow_86 : decode b_M_manyNow 86 = .ok (.aload_n 0, 1) := by decide +kernel
theorem d_M_manyNow_87 : decode b_M_manyNow 87 = .ok (.getfield 10, 3) := by decide +kernel
theorem d_M_manyNow_90 : decode b_M_manyNow 90 = .ok (.invokeinterface 124 1, 5) := by decide +kernel
theorem d_M_manyNow_95 : decode b_M_manyNow 95 = .ok (.iastore, 1) := by decide +kernel
theorem d_M_manyNow_96 : decode b_M_manyNow 96 = .ok (.dup, 1) := by decide +kernel
theorem d_M_manyNow_97 : decode b_M_manyNow 97 = .ok (.iconst 1, 1) := by decide +kernel
theorem d_M_manyNow_98 : decode b_M_manyNow 98 = .ok (.aload_n 0, 1) := by decide +kernel
theorem d_M_manyNow_99 : decode b_M_manyNow 99 = .ok (.getfield 114, 3) := by decide +kernel
theorem d_M_manyNow_102 : decode b_M_manyNow 102 = .ok (.iastore, 1) := by decide +kernel
theorem d_M_manyNow_103 : decode b_M_manyNow 103 = .ok (.dup, 1) := by decide +kernel
theorem d_M_manyNow_104 : decode b_M_manyNow 104 = .ok (.iconst 2, 1) := by decide +kernel
theorem d_M_manyNow_105 : decode b_M_manyNow 105 = .ok (.aload_n 0, 1) := by decide +kernel
theorem d_M_manyNow_106 : decode b_M_manyNow 106 = .ok (.getfield 16, 3) := by decide +kernel
theorem d_M_manyNow_109 : decode b_M_manyNow 109 = .ok (.invokeinterface 124 1, 5) := by decide +kernel
theorem d_M_manyNow_114 : decode b_M_manyNow 114 = .ok (.iastore, 1) := by decide +kernel
theorem d_M_manyNow_115 : decode b_M_manyNow 115 = .ok (.dup, 1) := by decide +kernel
theorem d_M_manyNow_116 : decode b_M_manyNow 116 = .ok (.iconst 3, 1) := by decide +kernel
theorem d_M_manyNow_117 : decode b_M_manyNow 117 = .ok (.aload_n 0, 1) := by decide +kernel
theorem d_M_manyNow_118 : decode b_M_manyNow 118 = .ok (.getfield 34, 3) := by decide +kernel
theorem d_M_manyNow_121 : decode b_M_manyNow 121 = .ok (.iastore, 1) := by decide +kernel
theorem d_M_manyNow_122 : decode b_M_manyNow 122 = .ok (.dup, 1) := by decide +kernel
theorem d_M_manyNow_123 : decode b_M_manyNow 123 = .ok (.iconst 4, 1) := by decide +kernel
theorem d_M_manyNow_124 : decode b_M_manyNow 124 = .ok (.aload_n 0, 1) := by decide +kernel
theorem d_M_manyNow_125 : decode b_M_manyNow 125 = .ok (.invokevirtual 207, 3) := by decide +kernel
theorem d_M_manyNow_128 : decode b_M_manyNow 128 = .ok (.iastore, 1) := by decide +kernel
theorem d_M_manyNow_129 : decode b_M_manyNow 129 = .ok (.dup, 1) := by decide +kernel
theorem d_M_manyNow_130 : decode b_M_manyNow 130 = .ok (.iconst 5, 1) := by decide +kernel
theorem d_M_manyNow_131 : decode b_M_manyNow 131 = .ok (.iload_n 2, 1) := by decide +kernel
theorem d_M_manyNow_132 : decode b_M_manyNow 132 = .ok (.iastore, 1) := by decide +kernel
theorem d_M_manyNow_133 : decode b_M_manyNow 133 = .ok (.dup, 1) := by decide +kernel
theorem d_M_manyNow_134 : decode b_M_manyNow 134 = .ok (.bipush 6, 2) := by decide +kernel
theorem d_M_manyNow_136 : decode b_M_manyNow 136 = .ok (.aload_n 0, 1) := by decide +kernel
theorem d_M_manyNow_137 : decode b_M_manyNow 137 = .ok (.getfield 138, 3) := by decide +kernel
theorem d_M_manyNow_140 : decode b_M_manyNow 140 = .ok (.iastore, 1) := by decide +kernel
theorem d_M_manyNow_141 : decode b_M_manyNow 141 = .ok (.dup, 1) := by decide +kernel
theorem d_M_manyNow_142 : decode b_M_manyNow 142 = .ok (.bipush 7, 2) := by decide +kernel
theorem d_M_manyNow_144 : decode b_M_manyNow 144 = .ok (.aload_n 0, 1) := by decide +kernel
theorem d_M_manyNow_145 : decode b_M_manyNow 145 = .ok (.getfield 144, 3) := by decide +kernel
theorem d_M_manyNow_148 : decode b_M_manyNow 148 = .ok (.iastore, 1) := by decide +kernel
theorem d_M_manyNow_149 : decode b_M_manyNow 149 = .ok (.dup, 1) := by decide +kernel
theorem d_M_manyNow_150 : decode b_M_manyNow 150 = .ok (.bipush 8, 2) := by decide +kernel
theorem d_M_manyNow_152 : decode b_M_manyNow 152 = .ok (.aload_n 0, 1) := by decide +kernel
theorem d_M_manyNow_153 : decode b_M_manyNow 153 = .ok (.getfield 164, 3) := by decide +kernel
theorem d_M_manyNow_156 : decode b_M_manyNow 156 = .ok (.iastore, 1) := by decide +kernel
theorem d_M_manyNow_157 : decode b_M_manyNow 157 = .ok (.dup, 1) := by decide +kernel
theorem d_M_manyNow_158 : decode b_M_manyNow 158 = .ok (.bipush 9, 2) := by decide +kernel
theorem d_M_manyNow_160 : decode b_M_manyNow 160 = .ok (.aload_n 0, 1) := by decide +kernel
theorem d_M_manyNow_161 : decode b_M_manyNow 161 = .ok (.getfield 150, 3) := by decide +kernel
theorem d_M_manyNow_164 : decode b_M_manyNow 164 = .ok (.iastore, 1) := by decide +kernel
theorem d_M_manyNow_165 : decode b_M_manyNow 165 = .ok (.dup, 1) := by decide +kernel
theorem d_M_manyNow_166 : decode b_M_manyNow 166 = .ok (.bipush 10, 2) := by decide +kernel
theorem d_M_manyNow_168 : decode b_M_manyNow 168 = .ok (.aload_n 0, 1) := by decide +kernel
theorem d_M_manyNow_169 : decode b_M_manyNow 169 = .ok (.getfield 108, 3) := by decide +kernel
theorem d_M_manyNow_172 : decode b_M_manyNow 172 = .ok (.iastore, 1) := by decide +kernel
theorem d_M_manyNow_173 : decode b_M_manyNow 173 = .ok (.dup, 1) := by decide +kernel
theorem d_M_manyNow_174 : decode b_M_manyNow 174 = .ok (.bipush 11, 2) := by decide +kernel
theorem d_M_manyNow_176 : decode b_M_manyNow 176 = .ok (.aload_n 0, 1) := by decide +kernel
theorem d_M_manyNow_177 : decode b_M_manyNow 177 = .ok (.getfield 204, 3) := by decide +kernel
theorem d_M_manyNow_180 : decode b_M_manyNow 180 = .ok (.iastore, 1) := by decide +kernel
theorem d_M_manyNow_181 : decode b_M_manyNow 181 = .ok (.dup, 1) := by decide +kernel
theorem d_M_manyNow_182 : decode b_M_manyNow 182 = .ok (.bipush 12, 2) := by decide +kernel
theorem d_M_manyNow_184 : decode b_M_manyNow 184 = .ok (.aload_n 0, 1) := by decide +kernel
theorem d_M_manyNow_185 : decode b_M_manyNow 185 = .ok (.getfield 158, 3) := by decide +kernel
theorem d_M_manyNow_188 : decode b_M_manyNow 188 = .ok (.iastore, 1) := by decide +kernel
theorem d_M_manyNow_189 : decode b_M_manyNow 189 = .ok (.dup, 1) := by decide +kernel
theorem d_M_manyNow_190 : decode b_M_manyNow 190 = .ok (.bipush 13, 2) := by decide +kernel
theorem d_M_manyNow_192 : decode b_M_manyNow 192 = .ok (.aload_n 0, 1) := by decide +kernel
theorem d_M_manyNow_193 : decode b_M_manyNow 193 = .ok (.getfield 161, 3) := by decide +kernel
theorem d_M_manyNow_196 : decode b_M_manyNow 196 = .ok (.iastore, 1) := by decide +kernel
theorem d_M_manyNow_197 : decode b_M_manyNow 197 = .ok (.dup, 1) := by decide +kernel
theorem d_M_manyNow_198 : decode b_M_manyNow 198 = .ok (.bipush 14, 2) := by decide +kernel
theorem d_M_manyNow_200 : decode b_M_manyNow 200 = .ok (.iload_n 3, 1) := by decide +kernel
theorem d_M_manyNow_201 : decode b_M_manyNow 201 = .ok (.iastore, 1) := by decide +kernel
theorem d_M_manyNow_202 : decode b_M_manyNow 202 = .ok (.astore 4, 2) := by decide +kernel
theorem d_M_manyNow_204 : decode b_M_manyNow 204 = .ok (.aload 4, 2) := by decide +kernel
theorem d_M_manyNow_206 : decode b_M_manyNow 206 = .ok (.iload_n 1, 1) := by decide +kernel
theorem d_M_manyNow_207 : decode b_M_manyNow 207 = .ok (.iaload, 1) := by decide +kernel
theorem d_M_manyNow_208 : decode b_M_manyNow 208 = .ok (.ireturn, 1) := by decide +kernel
theorem d_M_many_0 : decode b_M_many 0 = .ok (.aload_n 0, 1) := by decide +kernel
theorem d_M_many_1 : decode b_M_many 1 = .ok (.iconst 0, 1) := by decide +kernel
theorem d_M_many_2 : decode b_M_many 2 = .ok (.putfield 38, 3) := by decide +kernel
theorem d_M_many_5 : decode b_M_many 5 = .ok (.iload_n 1, 1) := by decide +kernel
theorem d_M_many_6 : decode b_M_many 6 = .ok (.iconst 0, 1) := by decide +kernel
theorem d_M_many_7 : decode b_M_many 7 = .ok (.bipush 14, 2) := by decide +kernel
theorem d_M_many_9 : decode b_M_many 9 = .ok (.invokestatic 167, 3) := by decide +kernel
theorem d_M_many_12 : decode b_M_many 12 = .ok (.ifCond .ne 9, 3) := by decide +kernel
theorem d_M_many_15 : decode b_M_many 15 = .ok (.aload_n 0, 1) := by decide +kernel
theorem d_M_many_16 : decode b_M_many 16 = .ok (.iconst 1, 1) := by decide +kernel
theorem d_M_many_17 : decode b_M_many 17 = .ok (.invokevirtual 174, 3) := by decide +kernel
theorem d_M_many_20 : decode b_M_many 20 = .ok (.ireturn, 1) := by decide +kernel
theorem d_M_many_21 : decode b_M_many 21 = .ok (.aload_n 0, 1) := by decide +kernel
theorem d_M_many_22 : decode b_M_many 22 = .ok (.iload_n 1, 1) := by decide +kernel
theorem d_M_many_23 : decode b_M_many 23 = .ok (.invokevirtual 246, 3) := by decide +kernel
theorem d_M_many_26 : decode b_M_many 26 = .ok (.ireturn, 1) := by decide +kernel
theorem d_M_wayNow_0 : decode b_M_wayNow 0 = .ok (.bipush 7, 2) := by decide +kernel
theorem d_M_wayNow_2 : decode b_M_wayNow 2 = .ok (.newarray .int, 2) := by decide +kernel
theorem d_M_wayNow_4 : decode b_M_wayNow 4 = .ok (.astore_n 3, 1) := by decide +kernel
theorem d_M_wayNow_5 : decode b_M_wayNow 5 = .ok (.iconst 0, 1) := by decide +kernel
theorem d_M_wayNow_6 : decode b_M_wayNow 6 = .ok (.istore 4, 2) := by decide +kernel
theorem d_M_wayNow_8 : decode b_M_wayNow 8 = .ok (.iload 4, 2) := by decide +kernel
theorem d_M_wayNow_10 : decode b_M_wayNow 10 = .ok (.bipush 7, 2) := by decide +kernel
theorem d_M_wayNow_12 : decode b_M_wayNow 12 = .ok (.if_icmp .ge 26, 3) := by decide +kernel
theorem d_M_wayNow_15 : decode b_M_wayNow 15 = .ok (.aload_n 3, 1) := by decide +kernel
theorem d_M_wayNow_16 : decode b_M_wayNow 16 = .ok (.iload 4, 2) := by decide +kernel
theorem d_M_wayNow_18 : decode b_M_wayNow 18 = .ok (.iload 4, 2) := by decide +kernel
theorem d_M_wayNow_20 : decode b_M_wayNow 20 = .ok (.iload_n 1, 1) := by decide +kernel
theorem d_M_wayNow_21 : decode b_M_wayNow 21 = .ok (.if_icmp .ne 7, 3) := by decide +kernel
theorem d_M_wayNow_24 : decode b_M_wayNow 24 = .ok (.iconst 0, 1) := by decide +kernel
theorem d_M_wayNow_25 : decode b_M_wayNow 25 = .ok (.goto 6, 3) := by decide +kernel
theorem d_M_wayNow_28 : decode b_M_wayNow 28 = .ok (.sipush 999, 3) := by decide +kernel
theorem d_M_wayNow_31 : decode b_M_wayNow 31 = .ok (.iastore, 1) := by decide +kernel
theorem d_M_wayNow_32 : decode b_M_wayNow 32 = .ok (.iinc 4 1, 3) := by decide +kernel
theorem d_M_wayNow_35 : decode b_M_wayNow 35 = .ok (.goto (-27), 3) := by decide +kernel
theorem d_M_wayNow_38 : decode b_M_wayNow 38 = .ok (.iconst 0, 1) := by decide +kernel
theorem d_M_wayNow_39 : decode b_M_wayNow 39 = .ok (.istore 4, 2) := by decide +kernel
theorem d_M_wayNow_41 : decode b_M_wayNow 41 = .ok (.iload 4, 2) := by decide +kernel
theorem d_M_wayNow_43 : decode b_M_wayNow 43 = .ok (.bipush 7, 2) := by decide +kernel
theorem d_M_wayNow_45 : decode b_M_wayNow 45 = .ok (.if_icmp .ge 108, 3) := by decide +kernel
theorem d_M_wayNow_48 : decode b_M_wayNow 48 = .ok (.iconst 0, 1) := by decide +kernel
theorem d_M_wayNow_49 : decode b_M_wayNow 49 = .ok (.istore 5, 2) := by decide +kernel
theorem d_M_wayNow_51 : decode b_M_wayNow 51 = .ok (.iload 5, 2) := by decide +kernel
theorem d_M_wayNow_53 : decode b_M_wayNow 53 = .ok (.aload_n 0, 1) := by decide +kernel
theorem d_M_wayNow_54 : decode b_M_wayNow 54 = .ok (.getfield 10, 3) := by decide +kernel
theorem d_M_wayNow_57 : decode b_M_wayNow 57 = .ok (.invokeinterface 124 1, 5) := by decide +kernel
theorem d_M_wayNow_62 : decode b_M_wayNow 62 = .ok (.if_icmp .ge 85, 3) := by decide +kernel
theorem d_M_wayNow_65 : decode b_M_wayNow 65 = .ok (.aload_n 0, 1) := by decide +kernel
theorem d_M_wayNow_66 : decode b_M_wayNow 66 = .ok (.getfield 10, 3) := by decide +kernel
theorem d_M_wayNow_69 : decode b_M_wayNow 69 = .ok (.iload 5, 2) := by decide +kernel
theorem d_M_wayNow_71 : decode b_M_wayNow 71 = .ok (.invokeinterface 53 2, 5) := by decide +kernel
theorem d_M_wayNow_76 : decode b_M_wayNow 76 = .ok (.checkcast 59, 3) := by decide +kernel
theorem d_M_wayNow_79 : decode b_M_wayNow 79 = .ok (.astore 6, 2) := by decide +kernel
theorem d_M_wayNow_81 : decode b_M_wayNow 81 = .ok (.aload_n 3, 1) := by decide +kernel
theorem d_M_wayNow_82 : decode b_M_wayNow 82 = .ok (.aload 6, 2) := by decide +kernel
theorem d_M_wayNow_84 : decode b_M_wayNow 84 = .ok (.getfield 80, 3) := by decide +kernel
theorem d_M_wayNow_87 : decode b_M_wayNow 87 = .ok (.aload_n 3, 1) := by decide +kernel
theorem d_M_wayNow_88 : decode b_M_wayNow 88 = .ok (.aload 6, 2) := by decide +kernel
theorem d_M_wayNow_90 : decode b_M_wayNow 90 = .ok (.getfield 80, 3) := by decide +kernel
theorem d_M_wayNow_93 : decode b_M_wayNow 93 = .ok (.iaload, 1) := by decide +kernel
theorem d_M_wayNow_94 : decode b_M_wayNow 94 = .ok (.aload_n 3, 1) := by decide +kernel
theorem d_M_wayNow_95 : decode b_M_wayNow 95 = .ok (.aload 6, 2) := by decide +kernel
theorem d_M_wayNow_97 : decode b_M_wayNow 97 = .ok (.getfield 83, 3) := by decide +kernel
theorem d_M_wayNow_100 : decode b_M_wayNow 100 = .ok (.iaload, 1) := by decide +kernel
theorem d_M_wayNow_101 : decode b_M_wayNow 101 = .ok (.aload 6, 2) := by decide +kernel
theorem d_M_wayNow_103 : decode b_M_wayNow 103 = .ok (.getfield 77, 3) := by decide +kernel
theorem d_M_wayNow_106 : decode b_M_wayNow 106 = .ok (.iadd, 1) := by decide +kernel
theorem d_M_wayNow_107 : decode b_M_wayNow 107 = .ok (.invokestatic 92, 3) := by decide +kernel
theorem d_M_wayNow_110 : decode b_M_wayNow 110 = .ok (.iastore, 1) := by decide +kernel
theorem d_M_wayNow_111 : decode b_M_wayNow 111 = .ok (.aload_n 3, 1) := by decide +kernel
theorem d_M_wayNow_112 : decode b_M_wayNow 112 = .ok (.aload 6, 2) := by decide +kernel
theorem d_M_wayNow_114 : decode b_M_wayNow 114 = .ok (.getfield 83, 3) := by decide +kernel
theorem d_M_wayNow_117 : decode b_M_wayNow 117 = .ok (.aload_n 3, 1) := by decide +kernel
theorem d_M_wayNow_118 : decode b_M_wayNow 118 = .ok (.aload 6, 2) := by decide +kernel
theorem d_M_wayNow_120 : decode b_M_wayNow 120 = .ok (.getfield 83, 3) := by decide +kernel
theorem d_M_wayNow_123 : decode b_M_wayNow 123 = .ok (.iaload, 1) := by decide +kernel
theorem d_M_wayNow_124 : decode b_M_wayNow 124 = .ok (.aload_n 3, 1) := by decide +kernel
theorem d_M_wayNow_125 : decode b_M_wayNow 125 = .ok (.aload 6, 2) := by decide +kernel
theorem d_M_wayNow_127 : decode b_M_wayNow 127 = .ok (.getfield 80, 3) := by decide +kernel
theorem d_M_wayNow_130 : decode b_M_wayNow 130 = .ok (.iaload, 1) := by decide +kernel
theorem d_M_wayNow_131 : decode b_M_wayNow 131 = .ok (.aload 6, 2) := by decide +kernel
theorem d_M_wayNow_133 : decode b_M_wayNow 133 = .ok (.getfield 77, 3) := by decide +kernel
theorem d_M_wayNow_136 : decode b_M_wayNow 136 = .ok (.iadd, 1) := by decide +kernel
theorem d_M_wayNow_137 : decode b_M_wayNow 137 = .ok (.invokestatic 92, 3) := by decide +kernel
theorem d_M_wayNow_140 : decode b_M_wayNow 140 = .ok (.iastore, 1) := by decide +kernel
theorem d_M_wayNow_141 : decode b_M_wayNow 141 = .ok (.iinc 5 1, 3) := by decide +kernel
theorem d_M_wayNow_144 : decode b_M_wayNow 144 = .ok (.goto (-93), 3) := by decide +kernel
theorem d_M_wayNow_147 : decode b_M_wayNow 147 = .ok (.iinc 4 1, 3) := by decide +kernel
theorem d_M_wayNow_150 : decode b_M_wayNow 150 = .ok (.goto (-109), 3) := by decide +kernel
theorem d_M_wayNow_153 : decode b_M_wayNow 153 = .ok (.aload_n 3, 1) := by decide +kernel
theorem d_M_wayNow_154 : decode b_M_wayNow 154 = .ok (.iload_n 2, 1) := by decide +kernel
theorem d_M_wayNow_155 : decode b_M_wayNow 155 = .ok (.iaload, 1) := by decide +kernel
theorem d_M_wayNow_156 : decode b_M_wayNow 156 = .ok (.sipush 999, 3) := by decide +kernel
theorem d_M_wayNow_159 : decode b_M_wayNow 159 = .ok (.if_icmp .ge 9, 3) := by decide +kernel
theorem d_M_wayNow_162 : decode b_M_wayNow 162 = .ok (.aload_n 3, 1) := by decide +kernel
theorem d_M_wayNow_163 : decode b_M_wayNow 163 = .ok (.iload_n 2, 1) := by decide +kernel
theorem d_M_wayNow_164 : decode b_M_wayNow 164 = .ok (.iaload, 1) := by decide +kernel
theorem d_M_wayNow_165 : decode b_M_wayNow 165 = .ok (.goto 4, 3) := by decide +kernel
theorem d_M_wayNow_168 : decode b_M_wayNow 168 = .ok (.iconst (-1), 1) := by decide +kernel
theorem d_M_wayNow_169 : decode b_M_wayNow 169 = .ok (.ireturn, 1) := by decide +kernel
theorem d_M_way_0 : decode b_M_way 0 = .ok (.aload_n 0, 1) := by decide +kernel
theorem d_M_way_1 : decode b_M_way 1 = .ok (.iconst 0, 1) := by decide +kernel
theorem d_M_way_2 : decode b_M_way 2 = .ok (.putfield 38, 3) := by decide +kernel
theorem d_M_way_5 : decode b_M_way 5 = .ok (.iload_n 1, 1) := by decide +kernel
theorem d_M_way_6 : decode b_M_way 6 = .ok (.invokestatic 171, 3) := by decide +kernel
theorem d_M_way_9 : decode b_M_way 9 = .ok (.ifCond .eq 10, 3) := by decide +kernel
theorem d_M_way_12 : decode b_M_way 12 = .ok (.iload_n 2, 1) := by decide +kernel
theorem d_M_way_13 : decode b_M_way 13 = .ok (.invokestatic 171, 3) := by decide +kernel
theorem d_M_way_16 : decode b_M_way 16 = .ok (.ifCond .ne 9, 3) := by decide +kernel
theorem d_M_way_19 : decode b_M_way 19 = .ok (.aload_n 0, 1) := by decide +kernel
theorem d_M_way_20 : decode b_M_way 20 = .ok (.iconst 1, 1) := by decide +kernel
theorem d_M_way_21 : decode b_M_way 21 = .ok (.invokevirtual 174, 3) := by decide +kernel
theorem d_M_way_24 : decode b_M_way 24 = .ok (.ireturn, 1) := by decide +kernel
theorem d_M_way_25 : decode b_M_way 25 = .ok (.aload_n 0, 1) := by decide +kernel
theorem d_M_way_26 : decode b_M_way 26 = .ok (.iload_n 1, 1) := by decide +kernel
theorem d_M_way_27 : decode b_M_way 27 = .ok (.iload_n 2, 1) := by decide +kernel
theorem d_M_way_28 : decode b_M_way 28 = .ok (.invokevirtual 249, 3) := by decide +kernel
theorem d_M_way_31 : decode b_M_way 31 = .ok (.ireturn, 1) := by decide +kernel
theorem d_M_meanWarmth_0 : decode b_M_meanWarmth 0 = .ok (.aload_n 0, 1) := by decide +kernel
theorem d_M_meanWarmth_1 : decode b_M_meanWarmth 1 = .ok (.iconst 0, 1) := by decide +kernel
theorem d_M_meanWarmth_2 : decode b_M_meanWarmth 2 = .ok (.putfield 38, 3) := by decide +kernel
theorem d_M_meanWarmth_5 : decode b_M_meanWarmth 5 = .ok (.iconst 0, 1) := by decide +kernel
theorem d_M_meanWarmth_6 : decode b_M_meanWarmth 6 = .ok (.istore_n 1, 1) := by decide +kernel
theorem d_M_meanWarmth_7 : decode b_M_meanWarmth 7 = .ok (.iconst 0, 1) := by decide +kernel
theorem d_M_meanWarmth_8 : decode b_M_meanWarmth 8 = .ok (.istore_n 2, 1) := by decide +kernel
theorem d_M_meanWarmth_9 : decode b_M_meanWarmth 9 = .ok (.iload_n 2, 1) := by decide +kernel
theorem d_M_meanWarmth_10 : decode b_M_meanWarmth 10 = .ok (.aload_n 0, 1) := by decide +kernel
theorem d_M_meanWarmth_11 : decode b_M_meanWarmth 11 = .ok (.getfield 10, 3) := by decide +kernel
theorem d_M_meanWarmth_14 : decode b_M_meanWarmth 14 = .ok (.invokeinterface 124 1, 5) := by decide +kernel
theorem d_M_meanWarmth_19 : decode b_M_meanWarmth 19 = .ok (.if_icmp .ge 28, 3) := by decide +kernel
theorem d_M_meanWarmth_22 : decode b_M_meanWarmth 22 = .ok (.iload_n 1, 1) := by decide +kernel
theorem d_M_meanWarmth_23 : decode b_M_meanWarmth 23 = .ok (.aload_n 0, 1) := by decide +kernel
theorem d_M_meanWarmth_24 : decode b_M_meanWarmth 24 = .ok (.getfield 10, 3) := by decide +kernel
theorem d_M_meanWarmth_27 : decode b_M_meanWarmth 27 = .ok (.iload_n 2, 1) := by decide +kernel
theorem d_M_meanWarmth_28 : decode b_M_meanWarmth 28 = .ok (.invokeinterface 53 2, 5) := by decide +kernel
theorem d_M_meanWarmth_33 : decode b_M_meanWarmth 33 = .ok (.checkcast 59, 3) := by decide +kernel
theorem d_M_meanWarmth_36 : decode b_M_meanWarmth 36 = .ok (.getfield 252, 3) := by decide +kernel
theorem d_M_meanWarmth_39 : decode b_M_meanWarmth 39 = .ok (.iadd, 1) := by decide +kernel
theorem d_M_meanWarmth_40 : decode b_M_meanWarmth 40 = .ok (.istore_n 1, 1) := by decide +kernel
theorem d_M_meanWarmth_41 : decode b_M_meanWarmth 41 = .ok (.iinc 2 1, 3) := by decide +kernel
theorem d_M_meanWarmth_44 : decode b_M_meanWarmth 44 = .ok (.goto (-35), 3) := by decide +kernel
theorem d_M_meanWarmth_47 : decode b_M_meanWarmth 47 = .ok (.aload_n 0, 1) := by decide +kernel
theorem d_M_meanWarmth_48 : decode b_M_meanWarmth 48 = .ok (.getfield 10, 3) := by decide +kernel
theorem d_M_meanWarmth_51 : decode b_M_meanWarmth 51 = .ok (.invokeinterface 255 1, 5) := by decide +kernel
theorem d_M_meanWarmth_56 : decode b_M_meanWarmth 56 = .ok (.ifCond .eq 7, 3) := by decide +kernel
theorem d_M_meanWarmth_59 : decode b_M_meanWarmth 59 = .ok (.dconst 0, 1) := by decide +kernel
theorem d_M_meanWarmth_60 : decode b_M_meanWarmth 60 = .ok (.goto 16, 3) := by decide +kernel
theorem d_M_meanWarmth_63 : decode b_M_meanWarmth 63 = .ok (.iload_n 1, 1) := by decide +kernel
theorem d_M_meanWarmth_64 : decode b_M_meanWarmth 64 = .ok (.i2d, 1) := by decide +kernel
theorem d_M_meanWarmth_65 : decode b_M_meanWarmth 65 = .ok (.aload_n 0, 1) := by decide +kernel
theorem d_M_meanWarmth_66 : decode b_M_meanWarmth 66 = .ok (.getfield 10, 3) := by decide +kernel
theorem d_M_meanWarmth_69 : decode b_M_meanWarmth 69 = .ok (.invokeinterface 124 1, 5) := by decide +kernel
theorem d_M_meanWarmth_74 : decode b_M_meanWarmth 74 = .ok (.i2d, 1) := by decide +kernel
theorem d_M_meanWarmth_75 : decode b_M_meanWarmth 75 = .ok (.ddiv, 1) := by decide +kernel
theorem d_M_meanWarmth_76 : decode b_M_meanWarmth 76 = .ok (.dreturn, 1) := by decide +kernel
theorem d_M_slipperyNow_0 : decode b_M_slipperyNow 0 = .ok (.aload_n 1, 1) := by decide +kernel
theorem d_M_slipperyNow_1 : decode b_M_slipperyNow 1 = .ok (.aload_n 2, 1) := by decide +kernel
theorem d_M_slipperyNow_2 : decode b_M_slipperyNow 2 = .ok (.invokevirtual 259, 3) := by decide +kernel
theorem d_M_slipperyNow_5 : decode b_M_slipperyNow 5 = .ok (.aload_n 2, 1) := by decide +kernel
theorem d_M_slipperyNow_6 : decode b_M_slipperyNow 6 = .ok (.dup, 1) := by decide +kernel
theorem d_M_slipperyNow_7 : decode b_M_slipperyNow 7 = .ok (.getfield 101, 3) := by decide +kernel
theorem d_M_slipperyNow_10 : decode b_M_slipperyNow 10 = .ok (.iload_n 3, 1) := by decide +kernel
theorem d_M_slipperyNow_11 : decode b_M_slipperyNow 11 = .ok (.iadd, 1) := by decide +kernel
theorem d_M_slipperyNow_12 : decode b_M_slipperyNow 12 = .ok (.putfield 101, 3) := by decide +kernel
theorem d_M_slipperyNow_15 : decode b_M_slipperyNow 15 = .ok (.iconst 1, 1) := by decide +kernel
theorem d_M_slipperyNow_16 : decode b_M_slipperyNow 16 = .ok (.istore 5, 2) := by decide +kernel
theorem d_M_slipperyNow_18 : decode b_M_slipperyNow 18 = .ok (.iload 5, 2) := by decide +kernel
theorem d_M_slipperyNow_20 : decode b_M_slipperyNow 20 = .ok (.iload 4, 2) := by decide +kernel
theorem d_M_slipperyNow_22 : decode b_M_slipperyNow 22 = .ok (.if_icmp .gt 23, 3) := by decide +kernel
theorem d_M_slipperyNow_25 : decode b_M_slipperyNow 25 = .ok (.aload_n 2, 1) := by decide +kernel
theorem d_M_slipperyNow_26 : decode b_M_slipperyNow 26 = .ok (.aload_n 0, 1) := by decide +kernel
theorem d_M_slipperyNow_27 : decode b_M_slipperyNow 27 = .ok (.getfield 30, 3) := by decide +kernel
theorem d_M_slipperyNow_30 : decode b_M_slipperyNow 30 = .ok (.invokevirtual 128, 3) := by decide +kernel
theorem d_M_slipperyNow_33 : decode b_M_slipperyNow 33 = .ok (.ifCond .eq 6, 3) := by decide +kernel
theorem d_M_slipperyNow_36 : decode b_M_slipperyNow 36 = .ok (.iload 5, 2) := by decide +kernel
theorem d_M_slipperyNow_38 : decode b_M_slipperyNow 38 = .ok (.ireturn, 1) := by decide +kernel
theorem d_M_slipperyNow_39 : decode b_M_slipperyNow 39 = .ok (.iinc 5 1, 3) := by decide +kernel
theorem d_M_slipperyNow_42 : decode b_M_slipperyNow 42 = .ok (.goto (-24), 3) := by decide +kernel
theorem d_M_slipperyNow_45 : decode b_M_slipperyNow 45 = .ok (.iconst (-1), 1) := by decide +kernel
theorem d_M_slipperyNow_46 : decode b_M_slipperyNow 46 = .ok (.ireturn, 1) := by decide +kernel
theorem d_M_slipperyIn_0 : decode b_M_slipperyIn 0 = .ok (.aload_n 0, 1) := by decide +kernel
theorem d_M_slipperyIn_1 : decode b_M_slipperyIn 1 = .ok (.iconst 0, 1) := by decide +kernel
theorem d_M_slipperyIn_2 : decode b_M_slipperyIn 2 = .ok (.putfield 38, 3) := by decide +kernel
theorem d_M_slipperyIn_5 : decode b_M_slipperyIn 5 = .ok (.aload_n 0, 1) := by decide +kernel
theorem d_M_slipperyIn_6 : decode b_M_slipperyIn 6 = .ok (.iload_n 1, 1) := by decide +kernel
theorem d_M_slipperyIn_7 : decode b_M_slipperyIn 7 = .ok (.invokevirtual 229, 3) := by decide +kernel
theorem d_M_slipperyIn_10 : decode b_M_slipperyIn 10 = .ok (.ifCond .ne 9, 3) := by decide +kernel
theorem d_M_slipperyIn_13 : decode b_M_slipperyIn 13 = .ok (.aload_n 0, 1) := by decide +kernel
theorem d_M_slipperyIn_14 : decode b_M_slipperyIn 14 = .ok (.iconst 1, 1) := by decide +kernel
theorem d_M_slipperyIn_15 : decode b_M_slipperyIn 15 = .ok (.invokevirtual 174, 3) := by decide +kernel
theorem d_M_slipperyIn_18 : decode b_M_slipperyIn 18 = .ok (.ireturn, 1) := by decide +kernel
theorem d_M_slipperyIn_19 : decode b_M_slipperyIn 19 = .ok (.iload_n 2, 1) := by decide +kernel
theorem d_M_slipperyIn_20 : decode b_M_slipperyIn 20 = .ok (.iconst 1, 1) := by decide +kernel
theorem d_M_slipperyIn_21 : decode b_M_slipperyIn 21 = .ok (.bipush 24, 2) := by decide +kernel
theorem d_M_slipperyIn_23 : decode b_M_slipperyIn 23 = .ok (.invokestatic 167, 3) := by decide +kernel
theorem d_M_slipperyIn_26 : decode b_M_slipperyIn 26 = .ok (.ifCond .ne 9, 3) := by decide +kernel
theorem d_M_slipperyIn_29 : decode b_M_slipperyIn 29 = .ok (.aload_n 0, 1) := by decide +kernel
theorem d_M_slipperyIn_30 : decode b_M_slipperyIn 30 = .ok (.iconst 2, 1) := by decide +kernel
theorem d_M_slipperyIn_31 : decode b_M_slipperyIn 31 = .ok (.invokevirtual 174, 3) := by decide +kernel
theorem d_M_slipperyIn_34 : decode b_M_slipperyIn 34 = .ok (.ireturn, 1) := by decide +kernel
theorem d_M_slipperyIn_35 : decode b_M_slipperyIn 35 = .ok (.aload_n 0, 1) := by decide +kernel
theorem d_M_slipperyIn_36 : decode b_M_slipperyIn 36 = .ok (.aload_n 0, 1) := by decide +kernel
theorem d_M_slipperyIn_37 : decode b_M_slipperyIn 37 = .ok (.getfield 10, 3) := by decide +kernel
theorem d_M_slipperyIn_40 : decode b_M_slipperyIn 40 = .ok (.iload_n 1, 1) := by decide +kernel
theorem d_M_slipperyIn_41 : decode b_M_slipperyIn 41 = .ok (.invokeinterface 53 2, 5) := by decide +kernel
theorem d_M_slipperyIn_46 : decode b_M_slipperyIn 46 = .ok (.checkcast 59, 3) := by decide +kernel
theorem d_M_slipperyIn_49 : decode b_M_slipperyIn 49 = .ok (.aload_n 0, 1) := by decide +kernel
theorem d_M_slipperyIn_50 : decode b_M_slipperyIn 50 = .ok (.getfield 10, 3) := by decide +kernel
theorem d_M_slipperyIn_53 : decode b_M_slipperyIn 53 = .ok (.iload_n 1, 1) := by decide +kernel
theorem d_M_slipperyIn_54 : decode b_M_slipperyIn 54 = .ok (.invokeinterface 53 2, 5) := by decide +kernel
theorem d_M_slipperyIn_59 : decode b_M_slipperyIn 59 = .ok (.checkcast 59, 3) := by decide +kernel
theorem d_M_slipperyIn_62 : decode b_M_slipperyIn 62 = .ok (.invokevirtual 263, 3) := by decide +kernel
theorem d_M_slipperyIn_65 : decode b_M_slipperyIn 65 = .ok (.iconst 0, 1) := by decide +kernel
theorem d_M_slipperyIn_66 : decode b_M_slipperyIn 66 = .ok (.iload_n 2, 1) := by decide +kernel
theorem d_M_slipperyIn_67 : decode b_M_slipperyIn 67 = .ok (.invokevirtual 267, 3) := by decide +kernel
theorem d_M_slipperyIn_70 : decode b_M_slipperyIn 70 = .ok (.ireturn, 1) := by decide +kernel
theorem d_M_saltNow_0 : decode b_M_saltNow 0 = .ok (.aload_n 1, 1) := by decide +kernel
theorem d_M_saltNow_1 : decode b_M_saltNow 1 = .ok (.invokevirtual 263, 3) := by decide +kernel
theorem d_M_saltNow_4 : decode b_M_saltNow 4 = .ok (.astore_n 3, 1) := by decide +kernel
theorem d_M_saltNow_5 : decode b_M_saltNow 5 = .ok (.iconst 0, 1) := by decide +kernel
theorem d_M_saltNow_6 : decode b_M_saltNow 6 = .ok (.istore 4, 2) := by decide +kernel
theorem d_M_saltNow_8 : decode b_M_saltNow 8 = .ok (.iload 4, 2) := by decide +kernel
theorem d_M_saltNow_10 : decode b_M_saltNow 10 = .ok (.bipush 60, 2) := by decide +kernel
theorem d_M_saltNow_12 : decode b_M_saltNow 12 = .ok (.if_icmp .gt 25, 3) := by decide +kernel
theorem d_M_saltNow_15 : decode b_M_saltNow 15 = .ok (.aload_n 0, 1) := by decide +kernel
theorem d_M_saltNow_16 : decode b_M_saltNow 16 = .ok (.aload_n 1, 1) := by decide +kernel
theorem d_M_saltNow_17 : decode b_M_saltNow 17 = .ok (.aload_n 3, 1) := by decide +kernel
theorem d_M_saltNow_18 : decode b_M_saltNow 18 = .ok (.iload 4, 2) := by decide +kernel
theorem d_M_saltNow_20 : decode b_M_saltNow 20 = .ok (.iload_n 2, 1) := by decide +kernel
theorem d_M_saltNow_21 : decode b_M_saltNow 21 = .ok (.invokevirtual 267, 3) := by decide +kernel
theorem d_M_saltNow_24 : decode b_M_saltNow 24 = .ok (.iconst (-1), 1) := by decide +kernel
theorem d_M_saltNow_25 : decode b_M_saltNow 25 = .ok (.if_icmp .ne 6, 3) := by decide +kernel
theorem d_M_saltNow_28 : decode b_M_saltNow 28 = .ok (.iload 4, 2) := by decide +kernel
theorem d_M_saltNow_30 : decode b_M_saltNow 30 = .ok (.ireturn, 1) := by decide +kernel
theorem d_M_saltNow_31 : decode b_M_saltNow 31 = .ok (.iinc 4 1, 3) := by decide +kernel
theorem d_M_saltNow_34 : decode b_M_saltNow 34 = .ok (.goto (-26), 3) := by decide +kernel
theorem d_M_saltNow_37 : decode b_M_saltNow 37 = .ok (.iconst (-1), 1) := by decide +kernel
theorem d_M_saltNow_38 : decode b_M_saltNow 38 = .ok (.ireturn, 1) := by decide +kernel
theorem d_M_saltFor_0 : decode b_M_saltFor 0 = .ok (.aload_n 0, 1) := by decide +kernel
theorem d_M_saltFor_1 : decode b_M_saltFor 1 = .ok (.iconst 0, 1) := by decide +kernel
theorem d_M_saltFor_2 : decode b_M_saltFor 2 = .ok (.putfield 38, 3) := by decide +kernel
theorem d_M_saltFor_5 : decode b_M_saltFor 5 = .ok (.aload_n 0, 1) := by decide +kernel
theorem d_M_saltFor_6 : decode b_M_saltFor 6 = .ok (.iload_n 1, 1) := by decide +kernel
theorem d_M_saltFor_7 : decode b_M_saltFor 7 = .ok (.invokevirtual 229, 3) := by decide +kernel
theorem d_M_saltFor_10 : decode b_M_saltFor 10 = .ok (.ifCond .ne 9, 3) := by decide +kernel
theorem d_M_saltFor_13 : decode b_M_saltFor 13 = .ok (.aload_n 0, 1) := by decide +kernel
theorem d_M_saltFor_14 : decode b_M_saltFor 14 = .ok (.iconst 1, 1) := by decide +kernel
theorem d_M_saltFor_15 : decode b_M_saltFor 15 = .ok (.invokevirtual 174, 3) := by decide +kernel
theorem d_M_saltFor_18 : decode b_M_saltFor 18 = .ok (.ireturn, 1) := by decide +kernel
theorem d_M_saltFor_19 : decode b_M_saltFor 19 = .ok (.iload_n 2, 1) := by decide +kernel
theorem d_M_saltFor_20 : decode b_M_saltFor 20 = .ok (.iconst 1, 1) := by decide +kernel
theorem d_M_saltFor_21 : decode b_M_saltFor 21 = .ok (.bipush 24, 2) := by decide +kernel
theorem d_M_saltFor_23 : decode b_M_saltFor 23 = .ok (.invokestatic 167, 3) := by decide +kernel
theorem d_M_saltFor_26 : decode b_M_saltFor 26 = .ok (.ifCond .ne 9, 3) := by decide +kernel
theorem d_M_saltFor_29 : decode b_M_saltFor 29 = .ok (.aload_n 0, 1) := by decide +kernel
theorem d_M_saltFor_30 : decode b_M_saltFor 30 = .ok (.iconst 2, 1) := by decide +kernel
theorem d_M_saltFor_31 : decode b_M_saltFor 31 = .ok (.invokevirtual 174, 3) := by decide +kernel
theorem d_M_saltFor_34 : decode b_M_saltFor 34 = .ok (.ireturn, 1) := by decide +kernel
theorem d_M_saltFor_35 : decode b_M_saltFor 35 = .ok (.aload_n 0, 1) := by decide +kernel
theorem d_M_saltFor_36 : decode b_M_saltFor 36 = .ok (.aload_n 0, 1) := by decide +kernel
theorem d_M_saltFor_37 : decode b_M_saltFor 37 = .ok (.getfield 10, 3) := by decide +kernel
theorem d_M_saltFor_40 : decode b_M_saltFor 40 = .ok (.iload_n 1, 1) := by decide +kernel
theorem d_M_saltFor_41 : decode b_M_saltFor 41 = .ok (.invokeinterface 53 2, 5) := by decide +kernel
theorem d_M_saltFor_46 : decode b_M_saltFor 46 = .ok (.checkcast 59, 3) := by decide +kernel
theorem d_M_saltFor_49 : decode b_M_saltFor 49 = .ok (.iload_n 2, 1) := by decide +kernel
theorem d_M_saltFor_50 : decode b_M_saltFor 50 = .ok (.invokevirtual 271, 3) := by decide +kernel
theorem d_M_saltFor_53 : decode b_M_saltFor 53 = .ok (.ireturn, 1) := by decide +kernel
theorem d_M_bestNow_0 : decode b_M_bestNow 0 = .ok (.bipush 8, 2) := by decide +kernel
theorem d_M_bestNow_2 : decode b_M_bestNow 2 = .ok (.newarray .int, 2) := by decide +kernel
theorem d_M_bestNow_4 : decode b_M_bestNow 4 = .ok (.astore_n 2, 1) := by decide +kernel
theorem d_M_bestNow_5 : decode b_M_bestNow 5 = .ok (.iconst 0, 1) := by decide +kernel
theorem d_M_bestNow_6 : decode b_M_bestNow 6 = .ok (.istore_n 3, 1) := by decide +kernel
theorem d_M_bestNow_7 : decode b_M_bestNow 7 = .ok (.iconst 0, 1) := by decide +kernel
theorem d_M_bestNow_8 : decode b_M_bestNow 8 = .ok (.istore 4, 2) := by decide +kernel
theorem d_M_bestNow_10 : decode b_M_bestNow 10 = .ok (.iload 4, 2) := by decide +kernel
theorem d_M_bestNow_12 : decode b_M_bestNow 12 = .ok (.aload_n 0, 1) := by decide +kernel
theorem d_M_bestNow_13 : decode b_M_bestNow 13 = .ok (.getfield 10, 3) := by decide +kernel
theorem d_M_bestNow_16 : decode b_M_bestNow 16 = .ok (.invokeinterface 124 1, 5) := by decide +kernel
theorem d_M_bestNow_21 : decode b_M_bestNow 21 = .ok (.if_icmp .ge 48, 3) := by decide +kernel
theorem d_M_bestNow_24 : decode b_M_bestNow 24 = .ok (.aload_n 2, 1) := by decide +kernel
theorem d_M_bestNow_25 : decode b_M_bestNow 25 = .ok (.iload 4, 2) := by decide +kernel
theorem d_M_bestNow_27 : decode b_M_bestNow 27 = .ok (.aload_n 0, 1) := by decide +kernel
theorem d_M_bestNow_28 : decode b_M_bestNow 28 = .ok (.getfield 10, 3) := by decide +kernel
theorem d_M_bestNow_31 : decode b_M_bestNow 31 = .ok (.iload 4, 2) := by decide +kernel
theorem d_M_bestNow_33 : decode b_M_bestNow 33 = .ok (.invokeinterface 53 2, 5) := by decide +kernel
theorem d_M_bestNow_38 : decode b_M_bestNow 38 = .ok (.checkcast 59, 3) := by decide +kernel
theorem d_M_bestNow_41 : decode b_M_bestNow 41 = .ok (.getfield 235, 3) := by decide +kernel
theorem d_M_bestNow_44 : decode b_M_bestNow 44 = .ok (.ifCond .ne 10, 3) := by decide +kernel
theorem d_M_bestNow_47 : decode b_M_bestNow 47 = .ok (.iconst 1, 1) := by decide +kernel
theorem d_M_bestNow_48 : decode b_M_bestNow 48 = .ok (.iload 4, 2) := by decide +kernel
theorem d_M_bestNow_50 : decode b_M_bestNow 50 = .ok (.ishl, 1) := by decide +kernel
theorem d_M_bestNow_51 : decode b_M_bestNow 51 = .ok (.goto 4, 3) := by decide +kernel
theorem d_M_bestNow_54 : decode b_M_bestNow 54 = .ok (.iconst 0, 1) := by decide +kernel
theorem d_M_bestNow_55 : decode b_M_bestNow 55 = .ok (.iastore, 1) := by decide +kernel
theorem d_M_bestNow_56 : decode b_M_bestNow 56 = .ok (.iload_n 3, 1) := by decide +kernel
theorem d_M_bestNow_57 : decode b_M_bestNow 57 = .ok (.aload_n 2, 1) := by decide +kernel
theorem d_M_bestNow_58 : decode b_M_bestNow 58 = .ok (.iload 4, 2) := by decide +kernel
theorem d_M_bestNow_60 : decode b_M_bestNow 60 = .ok (.iaload, 1) := by decide +kernel
theorem d_M_bestNow_61 : decode b_M_bestNow 61 = .ok (.ior, 1) := by decide +kernel
theorem d_M_bestNow_62 : decode b_M_bestNow 62 = .ok (.istore_n 3, 1) := by decide +kernel
theorem d_M_bestNow_63 : decode b_M_bestNow 63 = .ok (.iinc 4 1, 3) := by decide +kernel
theorem d_M_bestNow_66 : decode b_M_bestNow 66 = .ok (.goto (-56), 3) := by decide +kernel
theorem d_M_bestNow_69 : decode b_M_bestNow 69 = .ok (.iload_n 3, 1) := by decide +kernel
theorem d_M_bestNow_70 : decode b_M_bestNow 70 = .ok (.ifCond .ne 5, 3) := by decide +kernel
theorem d_M_bestNow_73 : decode b_M_bestNow 73 = .ok (.iconst 1, 1) := by decide +kernel
theorem d_M_bestNow_74 : decode b_M_bestNow 74 = .ok (.ireturn, 1) := by decide +kernel
theorem d_M_bestNow_75 : decode b_M_bestNow 75 = .ok (.sipush 1792, 3) := by decide +kernel
theorem d_M_bestNow_78 : decode b_M_bestNow 78 = .ok (.newarray .int, 2) := by decide +kernel
theorem d_M_bestNow_80 : decode b_M_bestNow 80 = .ok (.astore 4, 2) := by decide +kernel
theorem d_M_bestNow_82 : decode b_M_bestNow 82 = .ok (.sipush 1792, 3) := by decide +kernel
theorem d_M_bestNow_85 : decode b_M_bestNow 85 = .ok (.newarray .int, 2) := by decide +kernel
theorem d_M_bestNow_87 : decode b_M_bestNow 87 = .ok (.astore 5, 2) := by decide +kernel
theorem d_M_bestNow_89 : decode b_M_bestNow 89 = .ok (.iconst 0, 1) := by decide +kernel
theorem d_M_bestNow_90 : decode b_M_bestNow 90 = .ok (.istore 6, 2) := by decide +kernel
theorem d_M_bestNow_92 : decode b_M_bestNow 92 = .ok (.iload 6, 2) := by decide +kernel
theorem d_M_bestNow_94 : decode b_M_bestNow 94 = .ok (.aload 4, 2) := by decide +kernel
theorem d_M_bestNow_96 : decode b_M_bestNow 96 = .ok (.arraylength, 1) := by decide +kernel
theorem d_M_bestNow_97 : decode b_M_bestNow 97 = .ok (.if_icmp .ge 17, 3) := by decide +kernel
theorem d_M_bestNow_100 : decode b_M_bestNow 100 = .ok (.aload 4, 2) := by decide +kernel
theorem d_M_bestNow_102 : decode b_M_bestNow 102 = .ok (.iload 6, 2) := by decide +kernel
theorem d_M_bestNow_104 : decode b_M_bestNow 104 = .ok (.sipush 999, 3) := by decide +kernel
theorem d_M_bestNow_107 : decode b_M_bestNow 107 = .ok (.iastore, 1) := by decide +kernel
theorem d_M_bestNow_108 : decode b_M_bestNow 108 = .ok (.iinc 6 1, 3) := by decide +kernel
theorem d_M_bestNow_111 : decode b_M_bestNow 111 = .ok (.goto (-19), 3) := by decide +kernel
theorem d_M_bestNow_114 : decode b_M_bestNow 114 = .ok (.aload 4, 2) := by decide +kernel
theorem d_M_bestNow_116 : decode b_M_bestNow 116 = .ok (.sipush 256, 3) := by decide +kernel
theorem d_M_bestNow_119 : decode b_M_bestNow 119 = .ok (.iload_n 1, 1) := by decide +kernel
theorem d_M_bestNow_120 : decode b_M_bestNow 120 = .ok (.imul, 1) := by decide +kernel
theorem d_M_bestNow_121 : decode b_M_bestNow 121 = .ok (.iconst 0, 1) := by decide +kernel
theorem d_M_bestNow_122 : decode b_M_bestNow 122 = .ok (.iastore, 1) := by decide +kernel
theorem d_M_bestNow_123 : decode b_M_bestNow 123 = .ok (.aload 5, 2) := by decide +kernel
theorem d_M_bestNow_125 : decode b_M_bestNow 125 = .ok (.sipush 256, 3) := by decide +kernel
theorem d_M_bestNow_128 : decode b_M_bestNow 128 = .ok (.iload_n 1, 1) := by decide +kernel
theorem d_M_bestNow_129 : decode b_M_bestNow 129 = .ok (.imul, 1) := by decide +kernel
theorem d_M_bestNow_130 : decode b_M_bestNow 130 = .ok (.iconst 1, 1) := by decide +kernel
theorem d_M_bestNow_131 : decode b_M_bestNow 131 = .ok (.iastore, 1) := by decide +kernel
theorem d_M_bestNow_132 : decode b_M_bestNow 132 = .ok (.iconst 0, 1) := by decide +kernel
theorem d_M_bestNow_133 : decode b_M_bestNow 133 = .ok (.istore 6, 2) := by decide +kernel
theorem d_M_bestNow_135 : decode b_M_bestNow 135 = .ok (.sipush 999, 3) := by decide +kernel
theorem d_M_bestNow_138 : decode b_M_bestNow 138 = .ok (.istore 7, 2) := by decide +kernel
theorem d_M_bestNow_140 : decode b_M_bestNow 140 = .ok (.iconst 0, 1) := by decide +kernel
theorem d_M_bestNow_141 : decode b_M_bestNow 141 = .ok (.istore 8, 2) := by decide +kernel
theorem d_M_bestNow_143 : decode b_M_bestNow 143 = .ok (.iload 8, 2) := by decide +kernel
theorem d_M_bestNow_145 : decode b_M_bestNow 145 = .ok (.bipush 6, 2) := by decide +kernel
theorem d_M_bestNow_147 : decode b_M_bestNow 147 = .ok (.if_icmp .ge 333, 3) := by decide +kernel
theorem d_M_bestNow_150 : decode b_M_bestNow 150 = .ok (.sipush 1792, 3) := by decide +kernel
theorem d_M_bestNow_153 : decode b_M_bestNow 153 = .ok (.newarray .int, 2) := by decide +kernel
theorem d_M_bestNow_155 : decode b_M_bestNow 155 = .ok (.astore 9, 2) := by decide +kernel
theorem d_M_bestNow_157 : decode b_M_bestNow 157 = .ok (.sipush 1792, 3) := by decide +kernel
theorem d_M_bestNow_160 : decode b_M_bestNow 160 = .ok (.newarray .int, 2) := by decide +kernel
theorem d_M_bestNow_162 : decode b_M_bestNow 162 = .ok (.astore 10, 2) := by decide +kernel
theorem d_M_bestNow_164 : decode b_M_bestNow 164 = .ok (.iconst 0, 1) := by decide +kernel
theorem d_M_bestNow_165 : decode b_M_bestNow 165 = .ok (.istore 11, 2) := by decide +kernel
theorem d_M_bestNow_167 : decode b_M_bestNow 167 = .ok (.iload 11, 2) := by decide +kernel
theorem d_M_bestNow_169 : decode b_M_bestNow 169 = .ok (.aload 4, 2) := by decide +kernel
theorem d_M_bestNow_171 : decode b_M_bestNow 171 = .ok (.arraylength, 1) := by decide +kernel
theorem d_M_bestNow_172 : decode b_M_bestNow 172 = .ok (.if_icmp .ge 17, 3) := by decide +kernel
theorem d_M_bestNow_175 : decode b_M_bestNow 175 = .ok (.aload 9, 2) := by decide +kernel
theorem d_M_bestNow_177 : decode b_M_bestNow 177 = .ok (.iload 11, 2) := by decide +kernel
theorem d_M_bestNow_179 : decode b_M_bestNow 179 = .ok (.sipush 999, 3) := by decide +kernel
theorem d_M_bestNow_182 : decode b_M_bestNow 182 = .ok (.iastore, 1) := by decide +kernel
theorem d_M_bestNow_183 : decode b_M_bestNow 183 = .ok (.iinc 11 1, 3) := by decide +kernel
theorem d_M_bestNow_186 : decode b_M_bestNow 186 = .ok (.goto (-19), 3) := by decide +kernel
theorem d_M_bestNow_189 : decode b_M_bestNow 189 = .ok (.iconst 0, 1) := by decide +kernel
theorem d_M_bestNow_190 : decode b_M_bestNow 190 = .ok (.istore 11, 2) := by decide +kernel
theorem d_M_bestNow_192 : decode b_M_bestNow 192 = .ok (.iload 11, 2) := by decide +kernel
theorem d_M_bestNow_194 : decode b_M_bestNow 194 = .ok (.aload 4, 2) := by decide +kernel
theorem d_M_bestNow_196 : decode b_M_bestNow 196 = .ok (.arraylength, 1) := by decide +kernel
theorem d_M_bestNow_197 : decode b_M_bestNow 197 = .ok (.if_icmp .ge 185, 3) := by decide +kernel
theorem d_M_bestNow_200 : decode b_M_bestNow 200 = .ok (.iconst 0, 1) := by decide +kernel
theorem d_M_bestNow_201 : decode b_M_bestNow 201 = .ok (.istore 12, 2) := by decide +kernel
theorem d_M_bestNow_203 : decode b_M_bestNow 203 = .ok (.iload 12, 2) := by decide +kernel
theorem d_M_bestNow_205 : decode b_M_bestNow 205 = .ok (.aload_n 0, 1) := by decide +kernel
theorem d_M_bestNow_206 : decode b_M_bestNow 206 = .ok (.getfield 10, 3) := by decide +kernel
theorem d_M_bestNow_209 : decode b_M_bestNow 209 = .ok (.invokeinterface 124 1, 5) := by decide +kernel
theorem d_M_bestNow_214 : decode b_M_bestNow 214 = .ok (.if_icmp .ge 162, 3) := by decide +kernel
theorem d_M_bestNow_217 : decode b_M_bestNow 217 = .ok (.aload 4, 2) := by decide +kernel
theorem d_M_bestNow_219 : decode b_M_bestNow 219 = .ok (.iload 11, 2) := by decide +kernel
theorem d_M_bestNow_221 : decode b_M_bestNow 221 = .ok (.iaload, 1) := by decide +kernel
theorem d_M_bestNow_222 : decode b_M_bestNow 222 = .ok (.sipush 999, 3) := by decide +kernel
theorem d_M_bestNow_225 : decode b_M_bestNow 225 = .ok (.if_icmp .ge 151, 3) := by decide +kernel
theorem d_M_bestNow_228 : decode b_M_bestNow 228 = .ok (.aload_n 0, 1) := by decide +kernel
theorem d_M_bestNow_229 : decode b_M_bestNow 229 = .ok (.getfield 10, 3) := by decide +kernel
theorem d_M_bestNow_232 : decode b_M_bestNow 232 = .ok (.iload 12, 2) := by decide +kernel
theorem d_M_bestNow_234 : decode b_M_bestNow 234 = .ok (.invokeinterface 53 2, 5) := by decide +kernel
theorem d_M_bestNow_239 : decode b_M_bestNow 239 = .ok (.checkcast 59, 3) := by decide +kernel
theorem d_M_bestNow_242 : decode b_M_bestNow 242 = .ok (.astore 13, 2) := by decide +kernel
theorem d_M_bestNow_244 : decode b_M_bestNow 244 = .ok (.aload 13, 2) := by decide +kernel
theorem d_M_bestNow_246 : decode b_M_bestNow 246 = .ok (.iload 11, 2) := by decide +kernel
theorem d_M_bestNow_248 : decode b_M_bestNow 248 = .ok (.sipush 256, 3) := by decide +kernel
theorem d_M_bestNow_251 : decode b_M_bestNow 251 = .ok (.idiv, 1) := by decide +kernel
theorem d_M_bestNow_252 : decode b_M_bestNow 252 = .ok (.invokevirtual 67, 3) := by decide +kernel
theorem d_M_bestNow_255 : decode b_M_bestNow 255 = .ok (.ifCond .ne 6, 3) := by decide +kernel
theorem d_M_bestNow_258 : decode b_M_bestNow 258 = .ok (.goto 112, 3) := by decide +kernel
theorem d_M_bestNow_261 : decode b_M_bestNow 261 = .ok (.sipush 256, 3) := by decide +kernel
theorem d_M_bestNow_264 : decode b_M_bestNow 264 = .ok (.aload 13, 2) := by decide +kernel
theorem d_M_bestNow_266 : decode b_M_bestNow 266 = .ok (.getfield 80, 3) := by decide +kernel
theorem d_M_bestNow_269 : decode b_M_bestNow 269 = .ok (.aload 13, 2) := by decide +kernel
theorem d_M_bestNow_271 : decode b_M_bestNow 271 = .ok (.getfield 83, 3) := by decide +kernel
theorem d_M_bestNow_274 : decode b_M_bestNow 274 = .ok (.iadd, 1) := by decide +kernel
theorem d_M_bestNow_275 : decode b_M_bestNow 275 = .ok (.iload 11, 2) := by decide +kernel
theorem d_M_bestNow_277 : decode b_M_bestNow 277 = .ok (.sipush 256, 3) := by decide +kernel
theorem d_M_bestNow_280 : decode b_M_bestNow 280 = .ok (.idiv, 1) := by decide +kernel
theorem d_M_bestNow_281 : decode b_M_bestNow 281 = .ok (.isub, 1) := by decide +kernel
theorem d_M_bestNow_282 : decode b_M_bestNow 282 = .ok (.imul, 1) := by decide +kernel
theorem d_M_bestNow_283 : decode b_M_bestNow 283 = .ok (.iload 11, 2) := by decide +kernel
theorem d_M_bestNow_285 : decode b_M_bestNow 285 = .ok (.sipush 256, 3) := by decide +kernel
theorem d_M_bestNow_288 : decode b_M_bestNow 288 = .ok (.irem, 1) := by decide +kernel
theorem d_M_bestNow_289 : decode b_M_bestNow 289 = .ok (.aload_n 2, 1) := by decide +kernel
theorem d_M_bestNow_290 : decode b_M_bestNow 290 = .ok (.iload 12, 2) := by decide +kernel
theorem d_M_bestNow_292 : decode b_M_bestNow 292 = .ok (.iaload, 1) := by decide +kernel
theorem d_M_bestNow_293 : decode b_M_bestNow 293 = .ok (.ior, 1) := by decide +kernel
theorem d_M_bestNow_294 : decode b_M_bestNow 294 = .ok (.iadd, 1) := by decide +kernel
theorem d_M_bestNow_295 : decode b_M_bestNow 295 = .ok (.istore 14, 2) := by decide +kernel
theorem d_M_bestNow_297 : decode b_M_bestNow 297 = .ok (.aload 4, 2) := by decide +kernel
theorem d_M_bestNow_299 : decode b_M_bestNow 299 = .ok (.iload 11, 2) := by decide +kernel
theorem d_M_bestNow_301 : decode b_M_bestNow 301 = .ok (.iaload, 1) := by decide +kernel
theorem d_M_bestNow_302 : decode b_M_bestNow 302 = .ok (.aload 13, 2) := by decide +kernel
theorem d_M_bestNow_304 : decode b_M_bestNow 304 = .ok (.getfield 77, 3) := by decide +kernel
theorem d_M_bestNow_307 : decode b_M_bestNow 307 = .ok (.iadd, 1) := by decide +kernel
theorem d_M_bestNow_308 : decode b_M_bestNow 308 = .ok (.istore 15, 2) := by decide +kernel
theorem d_M_bestNow_310 : decode b_M_bestNow 310 = .ok (.bipush 10, 2) := by decide +kernel
theorem d_M_bestNow_312 : decode b_M_bestNow 312 = .ok (.aload 5, 2) := by decide +kernel
theorem d_M_bestNow_314 : decode b_M_bestNow 314 = .ok (.iload 11, 2) := by decide +kernel
theorem d_M_bestNow_316 : decode b_M_bestNow 316 = .ok (.iaload, 1) := by decide +kernel
theorem d_M_bestNow_317 : decode b_M_bestNow 317 = .ok (.imul, 1) := by decide +kernel
theorem d_M_bestNow_318 : decode b_M_bestNow 318 = .ok (.iload 12, 2) := by decide +kernel
theorem d_M_bestNow_320 : decode b_M_bestNow 320 = .ok (.iadd, 1) := by decide +kernel
theorem d_M_bestNow_321 : decode b_M_bestNow 321 = .ok (.istore 16, 2) := by decide +kernel
theorem d_M_bestNow_323 : decode b_M_bestNow 323 = .ok (.iload 15, 2) := by decide +kernel
theorem d_M_bestNow_325 : decode b_M_bestNow 325 = .ok (.aload 9, 2) := by decide +kernel
theorem d_M_bestNow_327 : decode b_M_bestNow 327 = .ok (.iload 14, 2) := by decide +kernel
theorem d_M_bestNow_329 : decode b_M_bestNow 329 = .ok (.iaload, 1) := by decide +kernel
theorem d_M_bestNow_330 : decode b_M_bestNow 330 = .ok (.if_icmp .gt 40, 3) := by decide +kernel
theorem d_M_bestNow_333 : decode b_M_bestNow 333 = .ok (.iload 15, 2) := by decide +kernel
theorem d_M_bestNow_335 : decode b_M_bestNow 335 = .ok (.aload 9, 2) := by decide +kernel
theorem d_M_bestNow_337 : decode b_M_bestNow 337 = .ok (.iload 14, 2) := by decide +kernel
theorem d_M_bestNow_339 : decode b_M_bestNow 339 = .ok (.iaload, 1) := by decide +kernel
theorem d_M_bestNow_340 : decode b_M_bestNow 340 = .ok (.if_icmp .ne 16, 3) := by decide +kernel
theorem d_M_bestNow_343 : decode b_M_bestNow 343 = .ok (.iload 16, 2) := by decide +kernel
theorem d_M_bestNow_345 : decode b_M_bestNow 345 = .ok (.aload 10, 2) := by decide +kernel
theorem d_M_bestNow_347 : decode b_M_bestNow 347 = .ok (.iload 14, 2) := by decide +kernel
theorem d_M_bestNow_349 : decode b_M_bestNow 349 = .ok (.iaload, 1) := by decide +kernel
theorem d_M_bestNow_350 : decode b_M_bestNow 350 = .ok (.if_icmp .le 6, 3) := by decide +kernel
theorem d_M_bestNow_353 : decode b_M_bestNow 353 = .ok (.goto 17, 3) := by decide +kernel
theorem d_M_bestNow_356 : decode b_M_bestNow 356 = .ok (.aload 9, 2) := by decide +kernel
theorem d_M_bestNow_358 : decode b_M_bestNow 358 = .ok (.iload 14, 2) := by decide +kernel
theorem d_M_bestNow_360 : decode b_M_bestNow 360 = .ok (.iload 15, 2) := by decide +kernel
theorem d_M_bestNow_362 : decode b_M_bestNow 362 = .ok (.iastore, 1) := by decide +kernel
theorem d_M_bestNow_363 : decode b_M_bestNow 363 = .ok (.aload 10, 2) := by decide +kernel
theorem d_M_bestNow_365 : decode b_M_bestNow 365 = .ok (.iload 14, 2) := by decide +kernel
theorem d_M_bestNow_367 : decode b_M_bestNow 367 = .ok (.iload 16, 2) := by decide +kernel
theorem d_M_bestNow_369 : decode b_M_bestNow 369 = .ok (.iastore, 1) := by decide +kernel
theorem d_M_bestNow_370 : decode b_M_bestNow 370 = .ok (.iinc 12 1, 3) := by decide +kernel
theorem d_M_bestNow_373 : decode b_M_bestNow 373 = .ok (.goto (-170), 3) := by decide +kernel
theorem d_M_bestNow_376 : decode b_M_bestNow 376 = .ok (.iinc 11 1, 3) := by decide +kernel
theorem d_M_bestNow_379 : decode b_M_bestNow 379 = .ok (.goto (-187), 3) := by decide +kernel
theorem d_M_bestNow_382 : decode b_M_bestNow 382 = .ok (.aload 9, 2) := by decide +kernel
theorem d_M_bestNow_384 : decode b_M_bestNow 384 = .ok (.astore 4, 2) := by decide +kernel
theorem d_M_bestNow_386 : decode b_M_bestNow 386 = .ok (.aload 10, 2) := by decide +kernel
theorem d_M_bestNow_388 : decode b_M_bestNow 388 = .ok (.astore 5, 2) := by decide +kernel
theorem d_M_bestNow_390 : decode b_M_bestNow 390 = .ok (.iconst 0, 1) := by decide +kernel
theorem d_M_bestNow_391 : decode b_M_bestNow 391 = .ok (.istore 11, 2) := by decide +kernel
theorem d_M_bestNow_393 : decode b_M_bestNow 393 = .ok (.iload 11, 2) := by decide +kernel
theorem d_M_bestNow_395 : decode b_M_bestNow 395 = .ok (.bipush 7, 2) := by decide +kernel
theorem d_M_bestNow_397 : decode b_M_bestNow 397 = .ok (.if_icmp .ge 77, 3) := by decide +kernel
theorem d_M_bestNow_400 : decode b_M_bestNow 400 = .ok (.sipush 256, 3) := by decide +kernel
theorem d_M_bestNow_403 : decode b_M_bestNow 403 = .ok (.iload 11, 2) := by decide +kernel
theorem d_M_bestNow_405 : decode b_M_bestNow 405 = .ok (.imul, 1) := by decide +kernel
theorem d_M_bestNow_406 : decode b_M_bestNow 406 = .ok (.iload_n 3, 1) := by decide +kernel
theorem d_M_bestNow_407 : decode b_M_bestNow 407 = .ok (.iadd, 1) := by decide +kernel
theorem d_M_bestNow_408 : decode b_M_bestNow 408 = .ok (.istore 12, 2) := by decide +kernel
theorem d_M_bestNow_410 : decode b_M_bestNow 410 = .ok (.aload 4, 2) := by decide +kernel
theorem d_M_bestNow_412 : decode b_M_bestNow 412 = .ok (.iload 12, 2) := by decide +kernel
theorem d_M_bestNow_414 : decode b_M_bestNow 414 = .ok (.iaload, 1) := by decide +kernel
theorem d_M_bestNow_415 : decode b_M_bestNow 415 = .ok (.iload 7, 2) := by decide +kernel
theorem d_M_bestNow_417 : decode b_M_bestNow 417 = .ok (.if_icmp .gt 51, 3) := by decide +kernel
theorem d_M_bestNow_420 : decode b_M_bestNow 420 = .ok (.aload 4, 2) := by decide +kernel
theorem d_M_bestNow_422 : decode b_M_bestNow 422 = .ok (.iload 12, 2) := by decide +kernel
theorem d_M_bestNow_424 : decode b_M_bestNow 424 = .ok (.iaload, 1) := by decide +kernel
theorem d_M_bestNow_425 : decode b_M_bestNow 425 = .ok (.sipush 999, 3) := by decide +kernel
theorem d_M_bestNow_428 : decode b_M_bestNow 428 = .ok (.if_icmp .eq 40, 3) := by decide +kernel
theorem d_M_bestNow_431 : decode b_M_bestNow 431 = .ok (.aload 4, 2) := by decide +kernel
theorem d_M_bestNow_433 : decode b_M_bestNow 433 = .ok (.iload 12, 2) := by decide +kernel
theorem d_M_bestNow_435 : decode b_M_bestNow 435 = .ok (.iaload, 1) := by decide +kernel
theorem d_M_bestNow_436 : decode b_M_bestNow 436 = .ok (.iload 7, 2) := by decide +kernel
theorem d_M_bestNow_438 : decode b_M_bestNow 438 = .ok (.if_icmp .ne 16, 3) := by decide +kernel
theorem d_M_bestNow_441 : decode b_M_bestNow 441 = .ok (.aload 5, 2) := by decide +kernel
theorem d_M_bestNow_443 : decode b_M_bestNow 443 = .ok (.iload 12, 2) := by decide +kernel
theorem d_M_bestNow_445 : decode b_M_bestNow 445 = .ok (.iaload, 1) := by decide +kernel
theorem d_M_bestNow_446 : decode b_M_bestNow 446 = .ok (.iload 6, 2) := by decide +kernel
theorem d_M_bestNow_448 : decode b_M_bestNow 448 = .ok (.if_icmp .le 6, 3) := by decide +kernel
theorem d_M_bestNow_451 : decode b_M_bestNow 451 = .ok (.goto 17, 3) := by decide +kernel
theorem d_M_bestNow_454 : decode b_M_bestNow 454 = .ok (.aload 4, 2) := by decide +kernel
theorem d_M_bestNow_456 : decode b_M_bestNow 456 = .ok (.iload 12, 2) := by decide +kernel
theorem d_M_bestNow_458 : decode b_M_bestNow 458 = .ok (.iaload, 1) := by decide +kernel
theorem d_M_bestNow_459 : decode b_M_bestNow 459 = .ok (.istore 7, 2) := by decide +kernel
theorem d_M_bestNow_461 : decode b_M_bestNow 461 = .ok (.aload 5, 2) := by decide +kernel
theorem d_M_bestNow_463 : decode b_M_bestNow 463 = .ok (.iload 12, 2) := by decide +kernel
theorem d_M_bestNow_465 : decode b_M_bestNow 465 = .ok (.iaload, 1) := by decide +kernel
theorem d_M_bestNow_466 : decode b_M_bestNow 466 = .ok (.istore 6, 2) := by decide +kernel
theorem d_M_bestNow_468 : decode b_M_bestNow 468 = .ok (.iinc 11 1, 3) := by decide +kernel
theorem d_M_bestNow_471 : decode b_M_bestNow 471 = .ok (.goto (-78), 3) := by decide +kernel
theorem d_M_bestNow_474 : decode b_M_bestNow 474 = .ok (.iinc 8 1, 3) := by decide +kernel
theorem d_M_bestNow_477 : decode b_M_bestNow 477 = .ok (.goto (-334), 3) := by decide +kernel
theorem d_M_bestNow_480 : decode b_M_bestNow 480 = .ok (.iload 6, 2) := by decide +kernel
theorem d_M_bestNow_482 : decode b_M_bestNow 482 = .ok (.ireturn, 1) := by decide +kernel
theorem d_M_bestOrders_0 : decode b_M_bestOrders 0 = .ok (.aload_n 0, 1) := by decide +kernel
theorem d_M_bestOrders_1 : decode b_M_bestOrders 1 = .ok (.iconst 0, 1) := by decide +kernel
theorem d_M_bestOrders_2 : decode b_M_bestOrders 2 = .ok (.putfield 38, 3) := by decide +kernel
theorem d_M_bestOrders_5 : decode b_M_bestOrders 5 = .ok (.aload_n 0, 1) := by decide +kernel
theorem d_M_bestOrders_6 : decode b_M_bestOrders 6 = .ok (.iload_n 1, 1) := by decide +kernel
theorem d_M_bestOrders_7 : decode b_M_bestOrders 7 = .ok (.invokevirtual 226, 3) := by decide +kernel
theorem d_M_bestOrders_10 : decode b_M_bestOrders 10 = .ok (.ifCond .eq 10, 3) := by decide +kernel
theorem d_M_bestOrders_13 : decode b_M_bestOrders 13 = .ok (.iload_n 2, 1) := by decide +kernel
theorem d_M_bestOrders_14 : decode b_M_bestOrders 14 = .ok (.invokestatic 171, 3) := by decide +kernel
theorem d_M_bestOrders_17 : decode b_M_bestOrders 17 = .ok (.ifCond .ne 9, 3) := by decide +kernel
theorem d_M_bestOrders_20 : decode b_M_bestOrders 20 = .ok (.aload_n 0, 1) := by decide +kernel
theorem d_M_bestOrders_21 : decode b_M_bestOrders 21 = .ok (.iconst 1, 1) := by decide +kernel
theorem d_M_bestOrders_22 : decode b_M_bestOrders 22 = .ok (.invokevirtual 174, 3) := by decide +kernel
theorem d_M_bestOrders_25 : decode b_M_bestOrders 25 = .ok (.ireturn, 1) := by decide +kernel
theorem d_M_bestOrders_26 : decode b_M_bestOrders 26 = .ok (.aload_n 0, 1) := by decide +kernel
theorem d_M_bestOrders_27 : decode b_M_bestOrders 27 = .ok (.iload_n 2, 1) := by decide +kernel
theorem d_M_bestOrders_28 : decode b_M_bestOrders 28 = .ok (.invokevirtual 274, 3) := by decide +kernel
theorem d_M_bestOrders_31 : decode b_M_bestOrders 31 = .ok (.ireturn, 1) := by decide +kernel
theorem d_M_digest_0 : decode b_M_digest 0 = .ok (.aload_n 0, 1) := by decide +kernel
theorem d_M_digest_1 : decode b_M_digest 1 = .ok (.iconst 0, 1) := by decide +kernel
theorem d_M_digest_2 : decode b_M_digest 2 = .ok (.putfield 38, 3) := by decide +kernel
theorem d_M_digest_5 : decode b_M_digest 5 = .ok (.ldc2_w 277, 3) := by decide +kernel
theorem d_M_digest_8 : decode b_M_digest 8 = .ok (.lstore_n 1, 1) := by decide +kernel
theorem d_M_digest_9 : decode b_M_digest 9 = .ok (.iconst 0, 1) := by decide +kernel
theorem d_M_digest_10 : decode b_M_digest 10 = .ok (.istore_n 3, 1) := by decide +kernel
theorem d_M_digest_11 : decode b_M_digest 11 = .ok (.iload_n 3, 1) := by decide +kernel
theorem d_M_digest_12 : decode b_M_digest 12 = .ok (.bipush 14, 2) := by decide +kernel
theorem d_M_digest_14 : decode b_M_digest 14 = .ok (.if_icmp .gt 22, 3) := by decide +kernel
theorem d_M_digest_17 : decode b_M_digest 17 = .ok (.lload_n 1, 1) := by decide +kernel
theorem d_M_digest_18 : decode b_M_digest 18 = .ok (.ldc2_w 279, 3) := by decide +kernel
theorem d_M_digest_21 : decode b_M_digest 21 = .ok (.lmul, 1) := by decide +kernel
theorem d_M_digest_22 : decode b_M_digest 22 = .ok (.aload_n 0, 1) := by decide +kernel
theorem d_M_digest_23 : decode b_M_digest 23 = .ok (.iload_n 3, 1) := by decide +kernel
theorem d_M_digest_24 : decode b_M_digest 24 = .ok (.invokevirtual 246, 3) := by decide +kernel
theorem d_M_digest_27 : decode b_M_digest 27 = .ok (.i2l, 1) := by decide +kernel
theorem d_M_digest_28 : decode b_M_digest 28 = .ok (.ladd, 1) := by decide +kernel
theorem d_M_digest_29 : decode b_M_digest 29 = .ok (.lstore_n 1, 1) := by decide +kernel
theorem d_M_digest_30 : decode b_M_digest 30 = .ok (.iinc 3 1, 3) := by decide +kernel
theorem d_M_digest_33 : decode b_M_digest 33 = .ok (.goto (-22), 3) := by decide +kernel
theorem d_M_digest_36 : decode b_M_digest 36 = .ok (.iconst 0, 1) := by decide +kernel
theorem d_M_digest_37 : decode b_M_digest 37 = .ok (.istore_n 3, 1) := by decide +kernel
theorem d_M_digest_38 : decode b_M_digest 38 = .ok (.iload_n 3, 1) := by decide +kernel
theorem d_M_digest_39 : decode b_M_digest 39 = .ok (.aload_n 0, 1) := by decide +kernel
theorem d_M_digest_40 : decode b_M_digest 40 = .ok (.getfield 10, 3) := by decide +kernel
theorem d_M_digest_43 : decode b_M_digest 43 = .ok (.invokeinterface 124 1, 5) := by decide +kernel
theorem d_M_digest_48 : decode b_M_digest 48 = .ok (.if_icmp .ge 117, 3) := by decide +kernel
theorem d_M_digest_51 : decode b_M_digest 51 = .ok (.aload_n 0, 1) := by decide +kernel
theorem d_M_digest_52 : decode b_M_digest 52 = .ok (.getfield 10, 3) := by decide +kernel
theorem d_M_digest_55 : decode b_M_digest 55 = .ok (.iload_n 3, 1) := by decide +kernel
theorem d_M_digest_56 : decode b_M_digest 56 = .ok (.invokeinterface 53 2, 5) := by decide +kernel
theorem d_M_digest_61 : decode b_M_digest 61 = .ok (.checkcast 59, 3) := by decide +kernel
theorem d_M_digest_64 : decode b_M_digest 64 = .ok (.astore 4, 2) := by decide +kernel
theorem d_M_digest_66 : decode b_M_digest 66 = .ok (.iconst 0, 1) := by decide +kernel
theorem d_M_digest_67 : decode b_M_digest 67 = .ok (.istore 5, 2) := by decide +kernel
theorem d_M_digest_69 : decode b_M_digest 69 = .ok (.iload 5, 2) := by decide +kernel
theorem d_M_digest_71 : decode b_M_digest 71 = .ok (.bipush 14, 2) := by decide +kernel
theorem d_M_digest_73 : decode b_M_digest 73 = .ok (.if_icmp .gt 24, 3) := by decide +kernel
theorem d_M_digest_76 : decode b_M_digest 76 = .ok (.lload_n 1, 1) := by decide +kernel
theorem d_M_digest_77 : decode b_M_digest 77 = .ok (.ldc2_w 279, 3) := by decide +kernel
theorem d_M_digest_80 : decode b_M_digest 80 = .ok (.lmul, 1) := by decide +kernel
theorem d_M_digest_81 : decode b_M_digest 81 = .ok (.aload 4, 2) := by decide +kernel
theorem d_M_digest_83 : decode b_M_digest 83 = .ok (.iload 5, 2) := by decide +kernel
theorem d_M_digest_85 : decode b_M_digest 85 = .ok (.invokevirtual 242, 3) := by decide +kernel
theorem d_M_digest_88 : decode b_M_digest 88 = .ok (.i2l, 1) := by decide +kernel
theorem d_M_digest_89 : decode b_M_digest 89 = .ok (.ladd, 1) := by decide +kernel
theorem d_M_digest_90 : decode b_M_digest 90 = .ok (.lstore_n 1, 1) := by decide +kernel
theorem d_M_digest_91 : decode b_M_digest 91 = .ok (.iinc 5 1, 3) := by decide +kernel
theorem d_M_digest_94 : decode b_M_digest 94 = .ok (.goto (-25), 3) := by decide +kernel
theorem d_M_digest_97 : decode b_M_digest 97 = .ok (.lload_n 1, 1) := by decide +kernel
theorem d_M_digest_98 : decode b_M_digest 98 = .ok (.ldc2_w 279, 3) := by decide +kernel
theorem d_M_digest_101 : decode b_M_digest 101 = .ok (.lmul, 1) := by decide +kernel
theorem d_M_digest_102 : decode b_M_digest 102 = .ok (.aload_n 0, 1) := by decide +kernel
theorem d_M_digest_103 : decode b_M_digest 103 = .ok (.aload 4, 2) := by decide +kernel
theorem d_M_digest_105 : decode b_M_digest 105 = .ok (.aload 4, 2) := by decide +kernel
theorem d_M_digest_107 : decode b_M_digest 107 = .ok (.invokevirtual 263, 3) := by decide +kernel
theorem d_M_digest_110 : decode b_M_digest 110 = .ok (.iconst 0, 1) := by decide +kernel
theorem d_M_digest_111 : decode b_M_digest 111 = .ok (.bipush 8, 2) := by decide +kernel
theorem d_M_digest_113 : decode b_M_digest 113 = .ok (.invokevirtual 267, 3) := by decide +kernel
theorem d_M_digest_116 : decode b_M_digest 116 = .ok (.i2l, 1) := by decide +kernel
theorem d_M_digest_117 : decode b_M_digest 117 = .ok (.ladd, 1) := by decide +kernel
theorem d_M_digest_118 : decode b_M_digest 118 = .ok (.lstore_n 1, 1) := by decide +kernel
theorem d_M_digest_119 : decode b_M_digest 119 = .ok (.lload_n 1, 1) := by decide +kernel
theorem d_M_digest_120 : decode b_M_digest 120 = .ok (.ldc2_w 279, 3) := by decide +kernel
theorem d_M_digest_123 : decode b_M_digest 123 = .ok (.lmul, 1) := by decide +kernel
theorem d_M_digest_124 : decode b_M_digest 124 = .ok (.aload_n 0, 1) := by decide +kernel
theorem d_M_digest_125 : decode b_M_digest 125 = .ok (.aload 4, 2) := by decide +kernel
theorem d_M_digest_127 : decode b_M_digest 127 = .ok (.iconst 4, 1) := by decide +kernel
theorem d_M_digest_128 : decode b_M_digest 128 = .ok (.invokevirtual 271, 3) := by decide +kernel
theorem d_M_digest_131 : decode b_M_digest 131 = .ok (.i2l, 1) := by decide +kernel
theorem d_M_digest_132 : decode b_M_digest 132 = .ok (.ladd, 1) := by decide +kernel
theorem d_M_digest_133 : decode b_M_digest 133 = .ok (.lstore_n 1, 1) := by decide +kernel
theorem d_M_digest_134 : decode b_M_digest 134 = .ok (.aload_n 0, 1) := by decide +kernel
theorem d_M_digest_135 : decode b_M_digest 135 = .ok (.getfield 114, 3) := by decide +kernel
theorem d_M_digest_138 : decode b_M_digest 138 = .ok (.ifCond .le 21, 3) := by decide +kernel
theorem d_M_digest_141 : decode b_M_digest 141 = .ok (.lload_n 1, 1) := by decide +kernel
theorem d_M_digest_142 : decode b_M_digest 142 = .ok (.ldc2_w 279, 3) := by decide +kernel
theorem d_M_digest_145 : decode b_M_digest 145 = .ok (.lmul, 1) := by decide +kernel
theorem d_M_digest_146 : decode b_M_digest 146 = .ok (.aload_n 0, 1) := by decide +kernel
theorem d_M_digest_147 : decode b_M_digest 147 = .ok (.aload 4, 2) := by decide +kernel
theorem d_M_digest_149 : decode b_M_digest 149 = .ok (.aload_n 0, 1) := by decide +kernel
theorem d_M_digest_150 : decode b_M_digest 150 = .ok (.getfield 114, 3) := by decide +kernel
theorem d_M_digest_153 : decode b_M_digest 153 = .ok (.invokevirtual 238, 3) := by decide +kernel
theorem d_M_digest_156 : decode b_M_digest 156 = .ok (.i2l, 1) := by decide +kernel
theorem d_M_digest_157 : decode b_M_digest 157 = .ok (.ladd, 1) := by decide +kernel
theorem d_M_digest_158 : decode b_M_digest 158 = .ok (.lstore_n 1, 1) := by decide +kernel
theorem d_M_digest_159 : decode b_M_digest 159 = .ok (.iinc 3 1, 3) := by decide +kernel
theorem d_M_digest_162 : decode b_M_digest 162 = .ok (.goto (-124), 3) := by decide +kernel
theorem d_M_digest_165 : decode b_M_digest 165 = .ok (.iconst 0, 1) := by decide +kernel
theorem d_M_digest_166 : decode b_M_digest 166 = .ok (.istore_n 3, 1) := by decide +kernel
theorem d_M_digest_167 : decode b_M_digest 167 = .ok (.iload_n 3, 1) := by decide +kernel
theorem d_M_digest_168 : decode b_M_digest 168 = .ok (.aload_n 0, 1) := by decide +kernel
theorem d_M_digest_169 : decode b_M_digest 169 = .ok (.getfield 16, 3) := by decide +kernel
theorem d_M_digest_172 : decode b_M_digest 172 = .ok (.invokeinterface 124 1, 5) := by decide +kernel
theorem d_M_digest_177 : decode b_M_digest 177 = .ok (.if_icmp .ge 51, 3) := by decide +kernel
theorem d_M_digest_180 : decode b_M_digest 180 = .ok (.iconst 0, 1) := by decide +kernel
theorem d_M_digest_181 : decode b_M_digest 181 = .ok (.istore 4, 2) := by decide +kernel
theorem d_M_digest_183 : decode b_M_digest 183 = .ok (.iload 4, 2) := by decide +kernel
theorem d_M_digest_185 : decode b_M_digest 185 = .ok (.bipush 8, 2) := by decide +kernel
theorem d_M_digest_187 : decode b_M_digest 187 = .ok (.if_icmp .gt 35, 3) := by decide +kernel
theorem d_M_digest_190 : decode b_M_digest 190 = .ok (.lload_n 1, 1) := by decide +kernel
theorem d_M_digest_191 : decode b_M_digest 191 = .ok (.ldc2_w 279, 3) := by decide +kernel
theorem d_M_digest_194 : decode b_M_digest 194 = .ok (.lmul, 1) := by decide +kernel
theorem d_M_digest_195 : decode b_M_digest 195 = .ok (.aload_n 0, 1) := by decide +kernel
theorem d_M_digest_196 : decode b_M_digest 196 = .ok (.getfield 16, 3) := by decide +kernel
theorem d_M_digest_199 : decode b_M_digest 199 = .ok (.iload_n 3, 1) := by decide +kernel
theorem d_M_digest_200 : decode b_M_digest 200 = .ok (.invokeinterface 53 2, 5) := by decide +kernel
theorem d_M_digest_205 : decode b_M_digest 205 = .ok (.checkcast 42, 3) := by decide +kernel
theorem d_M_digest_208 : decode b_M_digest 208 = .ok (.iload 4, 2) := by decide +kernel
theorem d_M_digest_210 : decode b_M_digest 210 = .ok (.invokevirtual 245, 3) := by decide +kernel
theorem d_M_digest_213 : decode b_M_digest 213 = .ok (.i2l, 1) := by decide +kernel
theorem d_M_digest_214 : decode b_M_digest 214 = .ok (.ladd, 1) := by decide +kernel
theorem d_M_digest_215 : decode b_M_digest 215 = .ok (.lstore_n 1, 1) := by decide +kernel
theorem d_M_digest_216 : decode b_M_digest 216 = .ok (.iinc 4 1, 3) := by decide +kernel
theorem d_M_digest_219 : decode b_M_digest 219 = .ok (.goto (-36), 3) := by decide +kernel
theorem d_M_digest_222 : decode b_M_digest 222 = .ok (.iinc 3 1, 3) := by decide +kernel
theorem d_M_digest_225 : decode b_M_digest 225 = .ok (.goto (-58), 3) := by decide +kernel
theorem d_M_digest_228 : decode b_M_digest 228 = .ok (.iconst 0, 1) := by decide +kernel
theorem d_M_digest_229 : decode b_M_digest 229 = .ok (.istore_n 3, 1) := by decide +kernel
theorem d_M_digest_230 : decode b_M_digest 230 = .ok (.iload_n 3, 1) := by decide +kernel
theorem d_M_digest_231 : decode b_M_digest 231 = .ok (.bipush 7, 2) := by decide +kernel
theorem d_M_digest_233 : decode b_M_digest 233 = .ok (.if_icmp .ge 23, 3) := by decide +kernel
theorem d_M_digest_236 : decode b_M_digest 236 = .ok (.lload_n 1, 1) := by decide +kernel
theorem d_M_digest_237 : decode b_M_digest 237 = .ok (.ldc2_w 279, 3) := by decide +kernel
theorem d_M_digest_240 : decode b_M_digest 240 = .ok (.lmul, 1) := by decide +kernel
theorem d_M_digest_241 : decode b_M_digest 241 = .ok (.aload_n 0, 1) := by decide +kernel
theorem d_M_digest_242 : decode b_M_digest 242 = .ok (.iconst 0, 1) := by decide +kernel
theorem d_M_digest_243 : decode b_M_digest 243 = .ok (.iload_n 3, 1) := by decide +kernel
theorem d_M_digest_244 : decode b_M_digest 244 = .ok (.invokevirtual 249, 3) := by decide +kernel
theorem d_M_digest_247 : decode b_M_digest 247 = .ok (.i2l, 1) := by decide +kernel
theorem d_M_digest_248 : decode b_M_digest 248 = .ok (.ladd, 1) := by decide +kernel
theorem d_M_digest_249 : decode b_M_digest 249 = .ok (.lstore_n 1, 1) := by decide +kernel
theorem d_M_digest_250 : decode b_M_digest 250 = .ok (.iinc 3 1, 3) := by decide +kernel
theorem d_M_digest_253 : decode b_M_digest 253 = .ok (.goto (-23), 3) := by decide +kernel
theorem d_M_digest_256 : decode b_M_digest 256 = .ok (.aload_n 0, 1) := by decide +kernel
theorem d_M_digest_257 : decode b_M_digest 257 = .ok (.getfield 16, 3) := by decide +kernel
theorem d_M_digest_260 : decode b_M_digest 260 = .ok (.invokeinterface 255 1, 5) := by decide +kernel
theorem d_M_digest_265 : decode b_M_digest 265 = .ok (.ifCond .eq 7, 3) := by decide +kernel
theorem d_M_digest_268 : decode b_M_digest 268 = .ok (.lload_n 1, 1) := by decide +kernel
theorem d_M_digest_269 : decode b_M_digest 269 = .ok (.goto 15, 3) := by decide +kernel
theorem d_M_digest_272 : decode b_M_digest 272 = .ok (.lload_n 1, 1) := by decide +kernel
theorem d_M_digest_273 : decode b_M_digest 273 = .ok (.ldc2_w 279, 3) := by decide +kernel
theorem d_M_digest_276 : decode b_M_digest 276 = .ok (.lmul, 1) := by decide +kernel
theorem d_M_digest_277 : decode b_M_digest 277 = .ok (.aload_n 0, 1) := by decide +kernel
theorem d_M_digest_278 : decode b_M_digest 278 = .ok (.iconst 0, 1) := by decide +kernel
theorem d_M_digest_279 : decode b_M_digest 279 = .ok (.invokevirtual 274, 3) := by decide +kernel
theorem d_M_digest_282 : decode b_M_digest 282 = .ok (.i2l, 1) := by decide +kernel
theorem d_M_digest_283 : decode b_M_digest 283 = .ok (.ladd, 1) := by decide +kernel
theorem d_M_digest_284 : decode b_M_digest 284 = .ok (.lreturn, 1) := by decide +kernel
theorem d_Math_max_7cf53_0 : decode b_Math_max_7cf53 0 = .ok (.iload_n 0, 1) := by decide +kernel
theorem d_Math_max_7cf53_1 : decode b_Math_max_7cf53 1 = .ok (.iload_n 1, 1) := by decide +kernel
theorem d_Math_max_7cf53_2 : decode b_Math_max_7cf53 2 = .ok (.if_icmp .lt 7, 3) := by decide +kernel
theorem d_Math_max_7cf53_5 : decode b_Math_max_7cf53 5 = .ok (.iload_n 0, 1) := by decide +kernel
theorem d_Math_max_7cf53_6 : decode b_Math_max_7cf53 6 = .ok (.goto 4, 3) := by decide +kernel
theorem d_Math_max_7cf53_9 : decode b_Math_max_7cf53 9 = .ok (.iload_n 1, 1) := by decide +kernel
theorem d_Math_max_7cf53_10 : decode b_Math_max_7cf53 10 = .ok (.ireturn, 1) := by decide +kernel
theorem d_Math_min_7cf53_0 : decode b_Math_min_7cf53 0 = .ok (.iload_n 0, 1) := by decide +kernel
theorem d_Math_min_7cf53_1 : decode b_Math_min_7cf53 1 = .ok (.iload_n 1, 1) := by decide +kernel
theorem d_Math_min_7cf53_2 : decode b_Math_min_7cf53 2 = .ok (.if_icmp .gt 7, 3) := by decide +kernel
theorem d_Math_min_7cf53_5 : decode b_Math_min_7cf53 5 = .ok (.iload_n 0, 1) := by decide +kernel
theorem d_Math_min_7cf53_6 : decode b_Math_min_7cf53 6 = .ok (.goto 4, 3) := by decide +kernel
theorem d_Math_min_7cf53_9 : decode b_Math_min_7cf53 9 = .ok (.iload_n 1, 1) := by decide +kernel
theorem d_Math_min_7cf53_10 : decode b_Math_min_7cf53 10 = .ok (.ireturn, 1) := by decide +kernel
theorem d_AbC_init_da8c8_0 : decode b_AbC_init_da8c8 0 = .ok (.aload_n 0, 1) := by decide +kernel
theorem d_AbC_init_da8c8_1 : decode b_AbC_init_da8c8 1 = .ok (.invokespecial 1, 3) := by decide +kernel
theorem d_AbC_init_da8c8_4 : decode b_AbC_init_da8c8 4 = .ok (.return_, 1) := by decide +kernel
theorem d_AbL_init_da8c8_0 : decode b_AbL_init_da8c8 0 = .ok (.aload_n 0, 1) := by decide +kernel
theorem d_AbL_init_da8c8_1 : decode b_AbL_init_da8c8 1 = .ok (.invokespecial 1, 3) := by decide +kernel
theorem d_AbL_init_da8c8_4 : decode b_AbL_init_da8c8 4 = .ok (.aload_n 0, 1) := by decide +kernel
theorem d_AbL_init_da8c8_5 : decode b_AbL_init_da8c8 5 = .ok (.iconst 0, 1) := by decide +kernel
theorem d_AbL_init_da8c8_6 : decode b_AbL_init_da8c8 6 = .ok (.putfield 7, 3) := by decide +kernel
theorem d_AbL_init_da8c8_9 : decode b_AbL_init_da8c8 9 = .ok (.return_, 1) := by decide +kernel
theorem d_AL_init_da8c8_0 : decode b_AL_init_da8c8 0 = .ok (.aload_n 0, 1) := by decide +kernel
theorem d_AL_init_da8c8_1 : decode b_AL_init_da8c8 1 = .ok (.invokespecial 1, 3) := by decide +kernel
theorem d_AL_init_da8c8_4 : decode b_AL_init_da8c8 4 = .ok (.aload_n 0, 1) := by decide +kernel
theorem d_AL_init_da8c8_5 : decode b_AL_init_da8c8 5 = .ok (.getstatic 39, 3) := by decide +kernel
theorem d_AL_init_da8c8_8 : decode b_AL_init_da8c8 8 = .ok (.putfield 9, 3) := by decide +kernel
theorem d_AL_init_da8c8_11 : decode b_AL_init_da8c8 11 = .ok (.return_, 1) := by decide +kernel
theorem d_AL_grow_92f84_0 : decode b_AL_grow_92f84 0 = .ok (.aload_n 0, 1) := by decide +kernel
theorem d_AL_grow_92f84_1 : decode b_AL_grow_92f84 1 = .ok (.getfield 9, 3) := by decide +kernel
theorem d_AL_grow_92f84_4 : decode b_AL_grow_92f84 4 = .ok (.arraylength, 1) := by decide +kernel
theorem d_AL_grow_92f84_5 : decode b_AL_grow_92f84 5 = .ok (.istore_n 2, 1) := by decide +kernel
theorem d_AL_grow_92f84_6 : decode b_AL_grow_92f84 6 = .ok (.iload_n 2, 1) := by decide +kernel
theorem d_AL_grow_92f84_7 : decode b_AL_grow_92f84 7 = .ok (.ifCond .gt 13, 3) := by decide +kernel
theorem d_AL_grow_92f84_10 : decode b_AL_grow_92f84 10 = .ok (.aload_n 0, 1) := by decide +kernel
theorem d_AL_grow_92f84_11 : decode b_AL_grow_92f84 11 = .ok (.getfield 9, 3) := by decide +kernel
theorem d_AL_grow_92f84_14 : decode b_AL_grow_92f84 14 = .ok (.getstatic 39, 3) := by decide +kernel
theorem d_AL_grow_92f84_17 : decode b_AL_grow_92f84 17 = .ok (.if_acmp .eq 28, 3) := by decide +kernel
theorem d_AL_grow_92f84_20 : decode b_AL_grow_92f84 20 = .ok (.iload_n 2, 1) := by decide +kernel
theorem d_AL_grow_92f84_21 : decode b_AL_grow_92f84 21 = .ok (.iload_n 1, 1) := by decide +kernel
theorem d_AL_grow_92f84_22 : decode b_AL_grow_92f84 22 = .ok (.iload_n 2, 1) := by decide +kernel
theorem d_AL_grow_92f84_23 : decode b_AL_grow_92f84 23 = .ok (.isub, 1) := by decide +kernel
theorem d_AL_grow_92f84_24 : decode b_AL_grow_92f84 24 = .ok (.iload_n 2, 1) := by decide +kernel
theorem d_AL_grow_92f84_25 : decode b_AL_grow_92f84 25 = .ok (.iconst 1, 1) := by decide +kernel
theorem d_AL_grow_92f84_26 : decode b_AL_grow_92f84 26 = .ok (.ishr, 1) := by decide +kernel
theorem d_AL_grow_92f84_27 : decode b_AL_grow_92f84 27 = .ok (.invokestatic 73, 3) := by decide +kernel
theorem d_AL_grow_92f84_30 : decode b_AL_grow_92f84 30 = .ok (.istore_n 3, 1) := by decide +kernel
theorem d_AL_grow_92f84_31 : decode b_AL_grow_92f84 31 = .ok (.aload_n 0, 1) := by decide +kernel
theorem d_AL_grow_92f84_32 : decode b_AL_grow_92f84 32 = .ok (.aload_n 0, 1) := by decide +kernel
theorem d_AL_grow_92f84_33 : decode b_AL_grow_92f84 33 = .ok (.getfield 9, 3) := by decide +kernel
theorem d_AL_grow_92f84_36 : decode b_AL_grow_92f84 36 = .ok (.iload_n 3, 1) := by decide +kernel
theorem d_AL_grow_92f84_37 : decode b_AL_grow_92f84 37 = .ok (.invokestatic 66, 3) := by decide +kernel
theorem d_AL_grow_92f84_40 : decode b_AL_grow_92f84 40 = .ok (.dup_x1, 1) := by decide +kernel
theorem d_AL_grow_92f84_41 : decode b_AL_grow_92f84 41 = .ok (.putfield 9, 3) := by decide +kernel
theorem d_AL_grow_92f84_44 : decode b_AL_grow_92f84 44 = .ok (.areturn, 1) := by decide +kernel
theorem d_AL_grow_92f84_45 : decode b_AL_grow_92f84 45 = .ok (.aload_n 0, 1) := by decide +kernel
theorem d_AL_grow_92f84_46 : decode b_AL_grow_92f84 46 = .ok (.bipush 10, 2) := by decide +kernel
theorem d_AL_grow_92f84_48 : decode b_AL_grow_92f84 48 = .ok (.iload_n 1, 1) := by decide +kernel
theorem d_AL_grow_92f84_49 : decode b_AL_grow_92f84 49 = .ok (.invokestatic 79, 3) := by decide +kernel
theorem d_AL_grow_92f84_52 : decode b_AL_grow_92f84 52 = .ok (.anewarray 7, 3) := by decide +kernel
theorem d_AL_grow_92f84_55 : decode b_AL_grow_92f84 55 = .ok (.dup_x1, 1) := by decide +kernel
theorem d_AL_grow_92f84_56 : decode b_AL_grow_92f84 56 = .ok (.putfield 9, 3) := by decide +kernel
theorem d_AL_grow_92f84_59 : decode b_AL_grow_92f84 59 = .ok (.areturn, 1) := by decide +kernel
theorem d_AL_grow_d5877_0 : decode b_AL_grow_d5877 0 = .ok (.aload_n 0, 1) := by decide +kernel
theorem d_AL_grow_d5877_1 : decode b_AL_grow_d5877 1 = .ok (.aload_n 0, 1) := by decide +kernel
theorem d_AL_grow_d5877_2 : decode b_AL_grow_d5877 2 = .ok (.getfield 48, 3) := by decide +kernel
theorem d_AL_grow_d5877_5 : decode b_AL_grow_d5877 5 = .ok (.iconst 1, 1) := by decide +kernel
theorem d_AL_grow_d5877_6 : decode b_AL_grow_d5877 6 = .ok (.iadd, 1) := by decide +kernel
theorem d_AL_grow_d5877_7 : decode b_AL_grow_d5877 7 = .ok (.invokevirtual 69, 3) := by decide +kernel
theorem d_AL_grow_d5877_10 : decode b_AL_grow_d5877 10 = .ok (.areturn, 1) := by decide +kernel
theorem d_AL_size_8abf5_0 : decode b_AL_size_8abf5 0 = .ok (.aload_n 0, 1) := by decide +kernel
theorem d_AL_size_8abf5_1 : decode b_AL_size_8abf5 1 = .ok (.getfield 48, 3) := by decide +kernel
theorem d_AL_size_8abf5_4 : decode b_AL_size_8abf5 4 = .ok (.ireturn, 1) := by decide +kernel
theorem d_AL_isEmpty_aae02_0 : decode b_AL_isEmpty_aae02 0 = .ok (.aload_n 0, 1) := by decide +kernel
theorem d_AL_isEmpty_aae02_1 : decode b_AL_isEmpty_aae02 1 = .ok (.getfield 48, 3) := by decide +kernel
theorem d_AL_isEmpty_aae02_4 : decode b_AL_isEmpty_aae02 4 = .ok (.ifCond .ne 7, 3) := by decide +kernel
theorem d_AL_isEmpty_aae02_7 : decode b_AL_isEmpty_aae02 7 = .ok (.iconst 1, 1) := by decide +kernel
theorem d_AL_isEmpty_aae02_8 : decode b_AL_isEmpty_aae02 8 = .ok (.goto 4, 3) := by decide +kernel
theorem d_AL_isEmpty_aae02_11 : decode b_AL_isEmpty_aae02 11 = .ok (.iconst 0, 1) := by decide +kernel
theorem d_AL_isEmpty_aae02_12 : decode b_AL_isEmpty_aae02 12 = .ok (.ireturn, 1) := by decide +kernel
theorem d_AL_elementData_915e3_0 : decode b_AL_elementData_915e3 0 = .ok (.aload_n 0, 1) := by decide +kernel
theorem d_AL_elementData_915e3_1 : decode b_AL_elementData_915e3 1 = .ok (.getfield 9, 3) := by decide +kernel
theorem d_AL_elementData_915e3_4 : decode b_AL_elementData_915e3 4 = .ok (.iload_n 1, 1) := by decide +kernel
theorem d_AL_elementData_915e3_5 : decode b_AL_elementData_915e3 5 = .ok (.aaload, 1) := by decide +kernel
theorem d_AL_elementData_915e3_6 : decode b_AL_elementData_915e3 6 = .ok (.areturn, 1) := by decide +kernel
theorem d_AL_get_915e3_0 : decode b_AL_get_915e3 0 = .ok (.iload_n 1, 1) := by decide +kernel
theorem d_AL_get_915e3_1 : decode b_AL_get_915e3 1 = .ok (.aload_n 0, 1) := by decide +kernel
theorem d_AL_get_915e3_2 : decode b_AL_get_915e3 2 = .ok (.getfield 48, 3) := by decide +kernel
theorem d_AL_get_915e3_5 : decode b_AL_get_915e3 5 = .ok (.invokestatic 118, 3) := by decide +kernel
theorem d_AL_get_915e3_8 : decode b_AL_get_915e3 8 = .ok (.pop, 1) := by decide +kernel
theorem d_AL_get_915e3_9 : decode b_AL_get_915e3 9 = .ok (.aload_n 0, 1) := by decide +kernel
theorem d_AL_get_915e3_10 : decode b_AL_get_915e3 10 = .ok (.iload_n 1, 1) := by decide +kernel
theorem d_AL_get_915e3_11 : decode b_AL_get_915e3 11 = .ok (.invokevirtual 123, 3) := by decide +kernel
theorem d_AL_get_915e3_14 : decode b_AL_get_915e3 14 = .ok (.areturn, 1) := by decide +kernel
theorem d_AL_add_72be8_0 : decode b_AL_add_72be8 0 = .ok (.iload_n 3, 1) := by decide +kernel
theorem d_AL_add_72be8_1 : decode b_AL_add_72be8 1 = .ok (.aload_n 2, 1) := by decide +kernel
theorem d_AL_add_72be8_2 : decode b_AL_add_72be8 2 = .ok (.arraylength, 1) := by decide +kernel
theorem d_AL_add_72be8_3 : decode b_AL_add_72be8 3 = .ok (.if_icmp .ne 8, 3) := by decide +kernel
theorem d_AL_add_72be8_6 : decode b_AL_add_72be8 6 = .ok (.aload_n 0, 1) := by decide +kernel
theorem d_AL_add_72be8_7 : decode b_AL_add_72be8 7 = .ok (.invokevirtual 129, 3) := by decide +kernel
theorem d_AL_add_72be8_10 : decode b_AL_add_72be8 10 = .ok (.astore_n 2, 1) := by decide +kernel
theorem d_AL_add_72be8_11 : decode b_AL_add_72be8 11 = .ok (.aload_n 2, 1) := by decide +kernel
theorem d_AL_add_72be8_12 : decode b_AL_add_72be8 12 = .ok (.iload_n 3, 1) := by decide +kernel
theorem d_AL_add_72be8_13 : decode b_AL_add_72be8 13 = .ok (.aload_n 1, 1) := by decide +kernel
theorem d_AL_add_72be8_14 : decode b_AL_add_72be8 14 = .ok (.aastore, 1) := by decide +kernel
theorem d_AL_add_72be8_15 : decode b_AL_add_72be8 15 = .ok (.aload_n 0, 1) := by decide +kernel
theorem d_AL_add_72be8_16 : decode b_AL_add_72be8 16 = .ok (.iload_n 3, 1) := by decide +kernel
theorem d_AL_add_72be8_17 : decode b_AL_add_72be8 17 = .ok (.iconst 1, 1) := by decide +kernel
theorem d_AL_add_72be8_18 : decode b_AL_add_72be8 18 = .ok (.iadd, 1) := by decide +kernel
theorem d_AL_add_72be8_19 : decode b_AL_add_72be8 19 = .ok (.putfield 48, 3) := by decide +kernel
theorem d_AL_add_72be8_22 : decode b_AL_add_72be8 22 = .ok (.return_, 1) := by decide +kernel
theorem d_AL_add_9ea2d_0 : decode b_AL_add_9ea2d 0 = .ok (.aload_n 0, 1) := by decide +kernel
theorem d_AL_add_9ea2d_1 : decode b_AL_add_9ea2d 1 = .ok (.dup, 1) := by decide +kernel
theorem d_AL_add_9ea2d_2 : decode b_AL_add_9ea2d 2 = .ok (.getfield 63, 3) := by decide +kernel
theorem d_AL_add_9ea2d_5 : decode b_AL_add_9ea2d 5 = .ok (.iconst 1, 1) := by decide +kernel
theorem d_AL_add_9ea2d_6 : decode b_AL_add_9ea2d 6 = .ok (.iadd, 1) := by decide +kernel
theorem d_AL_add_9ea2d_7 : decode b_AL_add_9ea2d 7 = .ok (.putfield 63, 3) := by decide +kernel
theorem d_AL_add_9ea2d_10 : decode b_AL_add_9ea2d 10 = .ok (.aload_n 0, 1) := by decide +kernel
theorem d_AL_add_9ea2d_11 : decode b_AL_add_9ea2d 11 = .ok (.aload_n 1, 1) := by decide +kernel
theorem d_AL_add_9ea2d_12 : decode b_AL_add_9ea2d 12 = .ok (.aload_n 0, 1) := by decide +kernel
theorem d_AL_add_9ea2d_13 : decode b_AL_add_9ea2d 13 = .ok (.getfield 9, 3) := by decide +kernel
theorem d_AL_add_9ea2d_16 : decode b_AL_add_9ea2d 16 = .ok (.aload_n 0, 1) := by decide +kernel
theorem d_AL_add_9ea2d_17 : decode b_AL_add_9ea2d 17 = .ok (.getfield 48, 3) := by decide +kernel
theorem d_AL_add_9ea2d_20 : decode b_AL_add_9ea2d 20 = .ok (.invokevirtual 131, 3) := by decide +kernel
theorem d_AL_add_9ea2d_23 : decode b_AL_add_9ea2d 23 = .ok (.iconst 1, 1) := by decide +kernel
theorem d_AL_add_9ea2d_24 : decode b_AL_add_9ea2d 24 = .ok (.ireturn, 1) := by decide +kernel
theorem d_Arrays_fill_53178_0 : decode b_Arrays_fill_53178 0 = .ok (.iconst 0, 1) := by decide +kernel
theorem d_Arrays_fill_53178_1 : decode b_Arrays_fill_53178 1 = .ok (.istore_n 2, 1) := by decide +kernel
theorem d_Arrays_fill_53178_2 : decode b_Arrays_fill_53178 2 = .ok (.aload_n 0, 1) := by decide +kernel
theorem d_Arrays_fill_53178_3 : decode b_Arrays_fill_53178 3 = .ok (.arraylength, 1) := by decide +kernel
theorem d_Arrays_fill_53178_4 : decode b_Arrays_fill_53178 4 = .ok (.istore_n 3, 1) := by decide +kernel
theorem d_Arrays_fill_53178_5 : decode b_Arrays_fill_53178 5 = .ok (.iload_n 2, 1) := by decide +kernel
theorem d_Arrays_fill_53178_6 : decode b_Arrays_fill_53178 6 = .ok (.iload_n 3, 1) := by decide +kernel
theorem d_Arrays_fill_53178_7 : decode b_Arrays_fill_53178 7 = .ok (.if_icmp .ge 13, 3) := by decide +kernel
theorem d_Arrays_fill_53178_10 : decode b_Arrays_fill_53178 10 = .ok (.aload_n 0, 1) := by decide +kernel
theorem d_Arrays_fill_53178_11 : decode b_Arrays_fill_53178 11 = .ok (.iload_n 2, 1) := by decide +kernel
theorem d_Arrays_fill_53178_12 : decode b_Arrays_fill_53178 12 = .ok (.iload_n 1, 1) := by decide +kernel
theorem d_Arrays_fill_53178_13 : decode b_Arrays_fill_53178 13 = .ok (.iastore, 1) := by decide +kernel
theorem d_Arrays_fill_53178_14 : decode b_Arrays_fill_53178 14 = .ok (.iinc 2 1, 3) := by decide +kernel
theorem d_Arrays_fill_53178_17 : decode b_Arrays_fill_53178 17 = .ok (.goto (-12), 3) := by decide +kernel
theorem d_Arrays_fill_53178_20 : decode b_Arrays_fill_53178 20 = .ok (.return_, 1) := by decide +kernel
theorem d_Arrays_copyOf_1904c_0 : decode b_Arrays_copyOf_1904c 0 = .ok (.aload_n 0, 1) := by decide +kernel
theorem d_Arrays_copyOf_1904c_1 : decode b_Arrays_copyOf_1904c 1 = .ok (.iload_n 1, 1) := by decide +kernel
theorem d_Arrays_copyOf_1904c_2 : decode b_Arrays_copyOf_1904c 2 = .ok (.aload_n 0, 1) := by decide +kernel
theorem d_Arrays_copyOf_1904c_3 : decode b_Arrays_copyOf_1904c 3 = .ok (.invokevirtual 86, 3) := by decide +kernel
theorem d_Arrays_copyOf_1904c_6 : decode b_Arrays_copyOf_1904c 6 = .ok (.invokestatic 300, 3) := by decide +kernel
theorem d_Arrays_copyOf_1904c_9 : decode b_Arrays_copyOf_1904c 9 = .ok (.areturn, 1) := by decide +kernel
theorem d_Arrays_copyOf_6403c_0 : decode b_Arrays_copyOf_6403c 0 = .ok (.aload_n 2, 1) := by decide +kernel
theorem d_Arrays_copyOf_6403c_1 : decode b_Arrays_copyOf_6403c 1 = .ok (.ldc 110, 2) := by decide +kernel
theorem d_Arrays_copyOf_6403c_3 : decode b_Arrays_copyOf_6403c 3 = .ok (.if_acmp .ne 10, 3) := by decide +kernel
theorem d_Arrays_copyOf_6403c_6 : decode b_Arrays_copyOf_6403c 6 = .ok (.iload_n 1, 1) := by decide +kernel
theorem d_Arrays_copyOf_6403c_7 : decode b_Arrays_copyOf_6403c 7 = .ok (.anewarray 2, 3) := by decide +kernel
theorem d_Arrays_copyOf_6403c_10 : decode b_Arrays_copyOf_6403c 10 = .ok (.goto 14, 3) := by decide +kernel
theorem d_Arrays_copyOf_6403c_13 : decode b_Arrays_copyOf_6403c 13 = .ok (.aload_n 2, 1) := by decide +kernel
theorem d_Arrays_copyOf_6403c_14 : decode b_Arrays_copyOf_6403c 14 = .ok (.invokevirtual 90, 3) := by decide +kernel
theorem d_Arrays_copyOf_6403c_17 : decode b_Arrays_copyOf_6403c 17 = .ok (.iload_n 1, 1) := by decide +kernel
theorem d_Arrays_copyOf_6403c_18 : decode b_Arrays_copyOf_6403c 18 = .ok (.invokestatic 95, 3) := by decide +kernel
theorem d_Arrays_copyOf_6403c_21 : decode b_Arrays_copyOf_6403c 21 = .ok (.checkcast 110, 3) := by decide +kernel
theorem d_Arrays_copyOf_6403c_24 : decode b_Arrays_copyOf_6403c 24 = .ok (.astore_n 3, 1) := by decide +kernel
theorem d_Arrays_copyOf_6403c_25 : decode b_Arrays_copyOf_6403c 25 = .ok (.aload_n 0, 1) := by decide +kernel
theorem d_Arrays_copyOf_6403c_26 : decode b_Arrays_copyOf_6403c 26 = .ok (.iconst 0, 1) := by decide +kernel
theorem d_Arrays_copyOf_6403c_27 : decode b_Arrays_copyOf_6403c 27 = .ok (.aload_n 3, 1) := by decide +kernel
theorem d_Arrays_copyOf_6403c_28 : decode b_Arrays_copyOf_6403c 28 = .ok (.iconst 0, 1) := by decide +kernel
theorem d_Arrays_copyOf_6403c_29 : decode b_Arrays_copyOf_6403c 29 = .ok (.aload_n 0, 1) := by decide +kernel
theorem d_Arrays_copyOf_6403c_30 : decode b_Arrays_copyOf_6403c 30 = .ok (.arraylength, 1) := by decide +kernel
theorem d_Arrays_copyOf_6403c_31 : decode b_Arrays_copyOf_6403c 31 = .ok (.iload_n 1, 1) := by decide +kernel
theorem d_Arrays_copyOf_6403c_32 : decode b_Arrays_copyOf_6403c 32 = .ok (.invokestatic 304, 3) := by decide +kernel
theorem d_Arrays_copyOf_6403c_35 : decode b_Arrays_copyOf_6403c 35 = .ok (.invokestatic 150, 3) := by decide +kernel
theorem d_Arrays_copyOf_6403c_38 : decode b_Arrays_copyOf_6403c 38 = .ok (.aload_n 3, 1) := by decide +kernel
theorem d_Arrays_copyOf_6403c_39 : decode b_Arrays_copyOf_6403c 39 = .ok (.areturn, 1) := by decide +kernel
theorem d_Objs_checkIndex_7cf53_0 : decode b_Objs_checkIndex_7cf53 0 = .ok (.iload_n 0, 1) := by decide +kernel
theorem d_Objs_checkIndex_7cf53_1 : decode b_Objs_checkIndex_7cf53 1 = .ok (.iload_n 1, 1) := by decide +kernel
theorem d_Objs_checkIndex_7cf53_2 : decode b_Objs_checkIndex_7cf53 2 = .ok (.aconst_null, 1) := by decide +kernel
theorem d_Objs_checkIndex_7cf53_3 : decode b_Objs_checkIndex_7cf53 3 = .ok (.invokestatic 105, 3) := by decide +kernel
theorem d_Objs_checkIndex_7cf53_6 : decode b_Objs_checkIndex_7cf53 6 = .ok (.ireturn, 1) := by decide +kernel
theorem d_ArrS_newLength_cabcc_0 : decode b_ArrS_newLength_cabcc 0 = .ok (.iload_n 0, 1) := by decide +kernel
theorem d_ArrS_newLength_cabcc_1 : decode b_ArrS_newLength_cabcc 1 = .ok (.iload_n 1, 1) := by decide +kernel
theorem d_ArrS_newLength_cabcc_2 : decode b_ArrS_newLength_cabcc 2 = .ok (.iload_n 2, 1) := by decide +kernel
theorem d_ArrS_newLength_cabcc_3 : decode b_ArrS_newLength_cabcc 3 = .ok (.invokestatic 194, 3) := by decide +kernel
theorem d_ArrS_newLength_cabcc_6 : decode b_ArrS_newLength_cabcc 6 = .ok (.iadd, 1) := by decide +kernel
theorem d_ArrS_newLength_cabcc_7 : decode b_ArrS_newLength_cabcc 7 = .ok (.istore_n 3, 1) := by decide +kernel
theorem d_ArrS_newLength_cabcc_8 : decode b_ArrS_newLength_cabcc 8 = .ok (.iconst 0, 1) := by decide +kernel
theorem d_ArrS_newLength_cabcc_9 : decode b_ArrS_newLength_cabcc 9 = .ok (.iload_n 3, 1) := by decide +kernel
theorem d_ArrS_newLength_cabcc_10 : decode b_ArrS_newLength_cabcc 10 = .ok (.if_icmp .ge 11, 3) := by decide +kernel
theorem d_ArrS_newLength_cabcc_13 : decode b_ArrS_newLength_cabcc 13 = .ok (.iload_n 3, 1) := by decide +kernel
theorem d_ArrS_newLength_cabcc_14 : decode b_ArrS_newLength_cabcc 14 = .ok (.ldc 200, 2) := by decide +kernel
theorem d_ArrS_newLength_cabcc_16 : decode b_ArrS_newLength_cabcc 16 = .ok (.if_icmp .gt 5, 3) := by decide +kernel
theorem d_ArrS_newLength_cabcc_19 : decode b_ArrS_newLength_cabcc 19 = .ok (.iload_n 3, 1) := by decide +kernel
theorem d_ArrS_newLength_cabcc_20 : decode b_ArrS_newLength_cabcc 20 = .ok (.ireturn, 1) := by decide +kernel
theorem d_ArrS_newLength_cabcc_21 : decode b_ArrS_newLength_cabcc 21 = .ok (.iload_n 0, 1) := by decide +kernel
theorem d_ArrS_newLength_cabcc_22 : decode b_ArrS_newLength_cabcc 22 = .ok (.iload_n 1, 1) := by decide +kernel
theorem d_ArrS_newLength_cabcc_23 : decode b_ArrS_newLength_cabcc 23 = .ok (.invokestatic 201, 3) := by decide +kernel
theorem d_ArrS_newLength_cabcc_26 : decode b_ArrS_newLength_cabcc 26 = .ok (.ireturn, 1) := by decide +kernel
theorem d_ArrS_hugeLength_7cf53_0 : decode b_ArrS_hugeLength_7cf53 0 = .ok (.iload_n 0, 1) := by decide +kernel
theorem d_ArrS_hugeLength_7cf53_1 : decode b_ArrS_hugeLength_7cf53 1 = .ok (.iload_n 1, 1) := by decide +kernel
theorem d_ArrS_hugeLength_7cf53_2 : decode b_ArrS_hugeLength_7cf53 2 = .ok (.iadd, 1) := by decide +kernel
theorem d_ArrS_hugeLength_7cf53_3 : decode b_ArrS_hugeLength_7cf53 3 = .ok (.istore_n 2, 1) := by decide +kernel
theorem d_ArrS_hugeLength_7cf53_4 : decode b_ArrS_hugeLength_7cf53 4 = .ok (.iload_n 2, 1) := by decide +kernel
theorem d_ArrS_hugeLength_7cf53_5 : decode b_ArrS_hugeLength_7cf53 5 = .ok (.ifCond .ge 44, 3) := by decide +kernel
theorem d_ArrS_hugeLength_7cf53_8 : decode b_ArrS_hugeLength_7cf53 8 = .ok (.new 204, 3) := by decide +kernel
theorem d_ArrS_hugeLength_7cf53_11 : decode b_ArrS_hugeLength_7cf53 11 = .ok (.dup, 1) := by decide +kernel
theorem d_ArrS_hugeLength_7cf53_12 : decode b_ArrS_hugeLength_7cf53 12 = .ok (.new 89, 3) := by decide +kernel
theorem d_ArrS_hugeLength_7cf53_15 : decode b_ArrS_hugeLength_7cf53 15 = .ok (.dup, 1) := by decide +kernel
theorem d_ArrS_hugeLength_7cf53_16 : decode b_ArrS_hugeLength_7cf53 16 = .ok (.invokespecial 91, 3) := by decide +kernel
theorem d_ArrS_hugeLength_7cf53_19 : decode b_ArrS_hugeLength_7cf53 19 = .ok (.ldc 206, 2) := by decide +kernel
theorem d_ArrS_hugeLength_7cf53_21 : decode b_ArrS_hugeLength_7cf53 21 = .ok (.invokevirtual 94, 3) := by decide +kernel
theorem d_ArrS_hugeLength_7cf53_24 : decode b_ArrS_hugeLength_7cf53 24 = .ok (.iload_n 0, 1) := by decide +kernel
theorem d_ArrS_hugeLength_7cf53_25 : decode b_ArrS_hugeLength_7cf53 25 = .ok (.invokevirtual 98, 3) := by decide +kernel
theorem d_ArrS_hugeLength_7cf53_28 : decode b_ArrS_hugeLength_7cf53 28 = .ok (.ldc 208, 2) := by decide +kernel
theorem d_ArrS_hugeLength_7cf53_30 : decode b_ArrS_hugeLength_7cf53 30 = .ok (.invokevirtual 94, 3) := by decide +kernel
theorem d_ArrS_hugeLength_7cf53_33 : decode b_ArrS_hugeLength_7cf53 33 = .ok (.iload_n 1, 1) := by decide +kernel
theorem d_ArrS_hugeLength_7cf53_34 : decode b_ArrS_hugeLength_7cf53 34 = .ok (.invokevirtual 98, 3) := by decide +kernel
theorem d_ArrS_hugeLength_7cf53_37 : decode b_ArrS_hugeLength_7cf53 37 = .ok (.ldc 210, 2) := by decide +kernel
theorem d_ArrS_hugeLength_7cf53_39 : decode b_ArrS_hugeLength_7cf53 39 = .ok (.invokevirtual 94, 3) := by decide +kernel
theorem d_ArrS_hugeLength_7cf53_42 : decode b_ArrS_hugeLength_7cf53 42 = .ok (.invokevirtual 101, 3) := by decide +kernel
theorem d_ArrS_hugeLength_7cf53_45 : decode b_ArrS_hugeLength_7cf53 45 = .ok (.invokespecial 212, 3) := by decide +kernel
theorem d_ArrS_hugeLength_7cf53_48 : decode b_ArrS_hugeLength_7cf53 48 = .ok (.athrow, 1) := by decide +kernel
theorem d_ArrS_hugeLength_7cf53_49 : decode b_ArrS_hugeLength_7cf53 49 = .ok (.iload_n 2, 1) := by decide +kernel
theorem d_ArrS_hugeLength_7cf53_50 : decode b_ArrS_hugeLength_7cf53 50 = .ok (.ldc 200, 2) := by decide +kernel
theorem d_ArrS_hugeLength_7cf53_52 : decode b_ArrS_hugeLength_7cf53 52 = .ok (.if_icmp .gt 6, 3) := by decide +kernel
theorem d_ArrS_hugeLength_7cf53_55 : decode b_ArrS_hugeLength_7cf53 55 = .ok (.ldc 200, 2) := by decide +kernel
theorem d_ArrS_hugeLength_7cf53_57 : decode b_ArrS_hugeLength_7cf53 57 = .ok (.ireturn, 1) := by decide +kernel
theorem d_ArrS_hugeLength_7cf53_58 : decode b_ArrS_hugeLength_7cf53 58 = .ok (.iload_n 2, 1) := by decide +kernel
theorem d_ArrS_hugeLength_7cf53_59 : decode b_ArrS_hugeLength_7cf53 59 = .ok (.ireturn, 1) := by decide +kernel
theorem d_Prec_checkIndex_8e157_0 : decode b_Prec_checkIndex_8e157 0 = .ok (.iload_n 0, 1) := by decide +kernel
theorem d_Prec_checkIndex_8e157_1 : decode b_Prec_checkIndex_8e157 1 = .ok (.ifCond .lt 8, 3) := by decide +kernel
theorem d_Prec_checkIndex_8e157_4 : decode b_Prec_checkIndex_8e157 4 = .ok (.iload_n 0, 1) := by decide +kernel
theorem d_Prec_checkIndex_8e157_5 : decode b_Prec_checkIndex_8e157 5 = .ok (.iload_n 1, 1) := by decide +kernel
theorem d_Prec_checkIndex_8e157_6 : decode b_Prec_checkIndex_8e157 6 = .ok (.if_icmp .lt 10, 3) := by decide +kernel
theorem d_Prec_checkIndex_8e157_9 : decode b_Prec_checkIndex_8e157 9 = .ok (.aload_n 2, 1) := by decide +kernel
theorem d_Prec_checkIndex_8e157_10 : decode b_Prec_checkIndex_8e157 10 = .ok (.iload_n 0, 1) := by decide +kernel
theorem d_Prec_checkIndex_8e157_11 : decode b_Prec_checkIndex_8e157 11 = .ok (.iload_n 1, 1) := by decide +kernel
theorem d_Prec_checkIndex_8e157_12 : decode b_Prec_checkIndex_8e157 12 = .ok (.invokestatic 95, 3) := by decide +kernel
theorem d_Prec_checkIndex_8e157_15 : decode b_Prec_checkIndex_8e157 15 = .ok (.athrow, 1) := by decide +kernel
theorem d_Prec_checkIndex_8e157_16 : decode b_Prec_checkIndex_8e157 16 = .ok (.iload_n 0, 1) := by decide +kernel
theorem d_Prec_checkIndex_8e157_17 : decode b_Prec_checkIndex_8e157 17 = .ok (.ireturn, 1) := by decide +kernel
theorem d_Law_road_0 : decode b_Law_road 0 = .ok (.aload 8, 2) := by decide +kernel
theorem d_Law_road_2 : decode b_Law_road 2 = .ok (.iconst 0, 1) := by decide +kernel
theorem d_Law_road_3 : decode b_Law_road 3 = .ok (.aload_n 0, 1) := by decide +kernel
theorem d_Law_road_4 : decode b_Law_road 4 = .ok (.iload_n 1, 1) := by decide +kernel
theorem d_Law_road_5 : decode b_Law_road 5 = .ok (.iload_n 2, 1) := by decide +kernel
theorem d_Law_road_6 : decode b_Law_road 6 = .ok (.iload_n 3, 1) := by decide +kernel
theorem d_Law_road_7 : decode b_Law_road 7 = .ok (.iload 4, 2) := by decide +kernel
theorem d_Law_road_9 : decode b_Law_road 9 = .ok (.iload 5, 2) := by decide +kernel
theorem d_Law_road_11 : decode b_Law_road 11 = .ok (.iload 6, 2) := by decide +kernel
theorem d_Law_road_13 : decode b_Law_road 13 = .ok (.iload 7, 2) := by decide +kernel
theorem d_Law_road_15 : decode b_Law_road 15 = .ok (.invokevirtual 7, 3) := by decide +kernel
theorem d_Law_road_18 : decode b_Law_road 18 = .ok (.i2l, 1) := by decide +kernel
theorem d_Law_road_19 : decode b_Law_road 19 = .ok (.lastore, 1) := by decide +kernel
theorem d_Law_road_20 : decode b_Law_road 20 = .ok (.goto 15, 3) := by decide +kernel
theorem d_Law_road_23 : decode b_Law_road 23 = .ok (.astore 9, 2) := by decide +kernel
theorem d_Law_road_25 : decode b_Law_road 25 = .ok (.iconst 1, 1) := by decide +kernel
theorem d_Law_road_26 : decode b_Law_road 26 = .ok (.ireturn, 1) := by decide +kernel
theorem d_Law_road_27 : decode b_Law_road 27 = .ok (.astore 9, 2) := by decide +kernel
theorem d_Law_road_29 : decode b_Law_road 29 = .ok (.iconst 2, 1) := by decide +kernel
theorem d_Law_road_30 : decode b_Law_road 30 = .ok (.ireturn, 1) := by decide +kernel
theorem d_Law_road_31 : decode b_Law_road 31 = .ok (.astore 9, 2) := by decide +kernel
theorem d_Law_road_33 : decode b_Law_road 33 = .ok (.iconst 3, 1) := by decide +kernel
theorem d_Law_road_34 : decode b_Law_road 34 = .ok (.ireturn, 1) := by decide +kernel
theorem d_Law_road_35 : decode b_Law_road 35 = .ok (.iconst 0, 1) := by decide +kernel
theorem d_Law_road_36 : decode b_Law_road 36 = .ok (.ireturn, 1) := by decide +kernel
theorem d_Law_air_0 : decode b_Law_air 0 = .ok (.aload_n 3, 1) := by decide +kernel
theorem d_Law_air_1 : decode b_Law_air 1 = .ok (.iconst 0, 1) := by decide +kernel
theorem d_Law_air_2 : decode b_Law_air 2 = .ok (.aload_n 0, 1) := by decide +kernel
theorem d_Law_air_3 : decode b_Law_air 3 = .ok (.iload_n 1, 1) := by decide +kernel
theorem d_Law_air_4 : decode b_Law_air 4 = .ok (.iload_n 2, 1) := by decide +kernel
theorem d_Law_air_5 : decode b_Law_air 5 = .ok (.invokevirtual 19, 3) := by decide +kernel
theorem d_Law_air_8 : decode b_Law_air 8 = .ok (.i2l, 1) := by decide +kernel
theorem d_Law_air_9 : decode b_Law_air 9 = .ok (.lastore, 1) := by decide +kernel
theorem d_Law_air_10 : decode b_Law_air 10 = .ok (.goto 7, 3) := by decide +kernel
theorem d_Law_air_13 : decode b_Law_air 13 = .ok (.astore 4, 2) := by decide +kernel
theorem d_Law_air_15 : decode b_Law_air 15 = .ok (.iconst 1, 1) := by decide +kernel
theorem d_Law_air_16 : decode b_Law_air 16 = .ok (.ireturn, 1) := by decide +kernel
theorem d_Law_air_17 : decode b_Law_air 17 = .ok (.iconst 0, 1) := by decide +kernel
theorem d_Law_air_18 : decode b_Law_air 18 = .ok (.ireturn, 1) := by decide +kernel
theorem d_Law_fall_0 : decode b_Law_fall 0 = .ok (.aload 4, 2) := by decide +kernel
theorem d_Law_fall_2 : decode b_Law_fall 2 = .ok (.iconst 0, 1) := by decide +kernel
theorem d_Law_fall_3 : decode b_Law_fall 3 = .ok (.aload_n 0, 1) := by decide +kernel
theorem d_Law_fall_4 : decode b_Law_fall 4 = .ok (.iload_n 1, 1) := by decide +kernel
theorem d_Law_fall_5 : decode b_Law_fall 5 = .ok (.iload_n 2, 1) := by decide +kernel
theorem d_Law_fall_6 : decode b_Law_fall 6 = .ok (.iload_n 3, 1) := by decide +kernel
theorem d_Law_fall_7 : decode b_Law_fall 7 = .ok (.invokevirtual 23, 3) := by decide +kernel
theorem d_Law_fall_10 : decode b_Law_fall 10 = .ok (.i2l, 1) := by decide +kernel
theorem d_Law_fall_11 : decode b_Law_fall 11 = .ok (.lastore, 1) := by decide +kernel
theorem d_Law_fall_12 : decode b_Law_fall 12 = .ok (.goto 7, 3) := by decide +kernel
theorem d_Law_fall_15 : decode b_Law_fall 15 = .ok (.astore 5, 2) := by decide +kernel
theorem d_Law_fall_17 : decode b_Law_fall 17 = .ok (.iconst 1, 1) := by decide +kernel
theorem d_Law_fall_18 : decode b_Law_fall 18 = .ok (.ireturn, 1) := by decide +kernel
theorem d_Law_fall_19 : decode b_Law_fall 19 = .ok (.iconst 0, 1) := by decide +kernel
theorem d_Law_fall_20 : decode b_Law_fall 20 = .ok (.ireturn, 1) := by decide +kernel
theorem d_Law_forecast_0 : decode b_Law_forecast 0 = .ok (.aload 6, 2) := by decide +kernel
theorem d_Law_forecast_2 : decode b_Law_forecast 2 = .ok (.iconst 0, 1) := by decide +kernel
theorem d_Law_forecast_3 : decode b_Law_forecast 3 = .ok (.aload_n 0, 1) := by decide +kernel
theorem d_Law_forecast_4 : decode b_Law_forecast 4 = .ok (.iload_n 1, 1) := by decide +kernel
theorem d_Law_forecast_5 : decode b_Law_forecast 5 = .ok (.iload_n 2, 1) := by decide +kernel
theorem d_Law_forecast_6 : decode b_Law_forecast 6 = .ok (.iload_n 3, 1) := by decide +kernel
theorem d_Law_forecast_7 : decode b_Law_forecast 7 = .ok (.iload 4, 2) := by decide +kernel
theorem d_Law_forecast_9 : decode b_Law_forecast 9 = .ok (.iload 5, 2) := by decide +kernel
theorem d_Law_forecast_11 : decode b_Law_forecast 11 = .ok (.invokevirtual 27, 3) := by decide +kernel
theorem d_Law_forecast_14 : decode b_Law_forecast 14 = .ok (.i2l, 1) := by decide +kernel
theorem d_Law_forecast_15 : decode b_Law_forecast 15 = .ok (.lastore, 1) := by decide +kernel
theorem d_Law_forecast_16 : decode b_Law_forecast 16 = .ok (.goto 11, 3) := by decide +kernel
theorem d_Law_forecast_19 : decode b_Law_forecast 19 = .ok (.astore 7, 2) := by decide +kernel
theorem d_Law_forecast_21 : decode b_Law_forecast 21 = .ok (.iconst 1, 1) := by decide +kernel
theorem d_Law_forecast_22 : decode b_Law_forecast 22 = .ok (.ireturn, 1) := by decide +kernel
theorem d_Law_forecast_23 : decode b_Law_forecast 23 = .ok (.astore 7, 2) := by decide +kernel
theorem d_Law_forecast_25 : decode b_Law_forecast 25 = .ok (.iconst 2, 1) := by decide +kernel
theorem d_Law_forecast_26 : decode b_Law_forecast 26 = .ok (.ireturn, 1) := by decide +kernel
theorem d_Law_forecast_27 : decode b_Law_forecast 27 = .ok (.iconst 0, 1) := by decide +kernel
theorem d_Law_forecast_28 : decode b_Law_forecast 28 = .ok (.ireturn, 1) := by decide +kernel
theorem d_Law_pass_0 : decode b_Law_pass 0 = .ok (.aload_n 2, 1) := by decide +kernel
theorem d_Law_pass_1 : decode b_Law_pass 1 = .ok (.iconst 0, 1) := by decide +kernel
theorem d_Law_pass_2 : decode b_Law_pass 2 = .ok (.aload_n 0, 1) := by decide +kernel
theorem d_Law_pass_3 : decode b_Law_pass 3 = .ok (.iload_n 1, 1) := by decide +kernel
theorem d_Law_pass_4 : decode b_Law_pass 4 = .ok (.invokevirtual 31, 3) := by decide +kernel
theorem d_Law_pass_7 : decode b_Law_pass 7 = .ok (.i2l, 1) := by decide +kernel
theorem d_Law_pass_8 : decode b_Law_pass 8 = .ok (.lastore, 1) := by decide +kernel
theorem d_Law_pass_9 : decode b_Law_pass 9 = .ok (.goto 9, 3) := by decide +kernel
theorem d_Law_pass_12 : decode b_Law_pass 12 = .ok (.astore_n 3, 1) := by decide +kernel
theorem d_Law_pass_13 : decode b_Law_pass 13 = .ok (.iconst 1, 1) := by decide +kernel
theorem d_Law_pass_14 : decode b_Law_pass 14 = .ok (.ireturn, 1) := by decide +kernel
theorem d_Law_pass_15 : decode b_Law_pass 15 = .ok (.astore_n 3, 1) := by decide +kernel
theorem d_Law_pass_16 : decode b_Law_pass 16 = .ok (.iconst 2, 1) := by decide +kernel
theorem d_Law_pass_17 : decode b_Law_pass 17 = .ok (.ireturn, 1) := by decide +kernel
theorem d_Law_pass_18 : decode b_Law_pass 18 = .ok (.iconst 0, 1) := by decide +kernel
theorem d_Law_pass_19 : decode b_Law_pass 19 = .ok (.ireturn, 1) := by decide +kernel
theorem d_Law_lorry_0 : decode b_Law_lorry 0 = .ok (.aload_n 2, 1) := by decide +kernel
theorem d_Law_lorry_1 : decode b_Law_lorry 1 = .ok (.iconst 0, 1) := by decide +kernel
theorem d_Law_lorry_2 : decode b_Law_lorry 2 = .ok (.aload_n 0, 1) := by decide +kernel
theorem d_Law_lorry_3 : decode b_Law_lorry 3 = .ok (.iload_n 1, 1) := by decide +kernel
theorem d_Law_lorry_4 : decode b_Law_lorry 4 = .ok (.invokevirtual 35, 3) := by decide +kernel
theorem d_Law_lorry_7 : decode b_Law_lorry 7 = .ok (.i2l, 1) := by decide +kernel
theorem d_Law_lorry_8 : decode b_Law_lorry 8 = .ok (.lastore, 1) := by decide +kernel
theorem d_Law_lorry_9 : decode b_Law_lorry 9 = .ok (.goto 6, 3) := by decide +kernel
theorem d_Law_lorry_12 : decode b_Law_lorry 12 = .ok (.astore_n 3, 1) := by decide +kernel
theorem d_Law_lorry_13 : decode b_Law_lorry 13 = .ok (.iconst 1, 1) := by decide +kernel
theorem d_Law_lorry_14 : decode b_Law_lorry 14 = .ok (.ireturn, 1) := by decide +kernel
theorem d_Law_lorry_15 : decode b_Law_lorry 15 = .ok (.iconst 0, 1) := by decide +kernel
theorem d_Law_lorry_16 : decode b_Law_lorry 16 = .ok (.ireturn, 1) := by decide +kernel
theorem d_Law_rate_0 : decode b_Law_rate 0 = .ok (.aload_n 3, 1) := by decide +kernel
theorem d_Law_rate_1 : decode b_Law_rate 1 = .ok (.iconst 0, 1) := by decide +kernel
theorem d_Law_rate_2 : decode b_Law_rate 2 = .ok (.aload_n 0, 1) := by decide +kernel
theorem d_Law_rate_3 : decode b_Law_rate 3 = .ok (.iload_n 1, 1) := by decide +kernel
theorem d_Law_rate_4 : decode b_Law_rate 4 = .ok (.iload_n 2, 1) := by decide +kernel
theorem d_Law_rate_5 : decode b_Law_rate 5 = .ok (.invokevirtual 39, 3) := by decide +kernel
theorem d_Law_rate_8 : decode b_Law_rate 8 = .ok (.i2l, 1) := by decide +kernel
theorem d_Law_rate_9 : decode b_Law_rate 9 = .ok (.lastore, 1) := by decide +kernel
theorem d_Law_rate_10 : decode b_Law_rate 10 = .ok (.goto 11, 3) := by decide +kernel
theorem d_Law_rate_13 : decode b_Law_rate 13 = .ok (.astore 4, 2) := by decide +kernel
theorem d_Law_rate_15 : decode b_Law_rate 15 = .ok (.iconst 1, 1) := by decide +kernel
theorem d_Law_rate_16 : decode b_Law_rate 16 = .ok (.ireturn, 1) := by decide +kernel
theorem d_Law_rate_17 : decode b_Law_rate 17 = .ok (.astore 4, 2) := by decide +kernel
theorem d_Law_rate_19 : decode b_Law_rate 19 = .ok (.iconst 2, 1) := by decide +kernel
theorem d_Law_rate_20 : decode b_Law_rate 20 = .ok (.ireturn, 1) := by decide +kernel
theorem d_Law_rate_21 : decode b_Law_rate 21 = .ok (.iconst 0, 1) := by decide +kernel
theorem d_Law_rate_22 : decode b_Law_rate 22 = .ok (.ireturn, 1) := by decide +kernel
theorem d_Law_order_0 : decode b_Law_order 0 = .ok (.aload_n 3, 1) := by decide +kernel
theorem d_Law_order_1 : decode b_Law_order 1 = .ok (.iconst 0, 1) := by decide +kernel
theorem d_Law_order_2 : decode b_Law_order 2 = .ok (.aload_n 0, 1) := by decide +kernel
theorem d_Law_order_3 : decode b_Law_order 3 = .ok (.iload_n 1, 1) := by decide +kernel
theorem d_Law_order_4 : decode b_Law_order 4 = .ok (.iload_n 2, 1) := by decide +kernel
theorem d_Law_order_5 : decode b_Law_order 5 = .ok (.invokevirtual 43, 3) := by decide +kernel
theorem d_Law_order_8 : decode b_Law_order 8 = .ok (.i2l, 1) := by decide +kernel
theorem d_Law_order_9 : decode b_Law_order 9 = .ok (.lastore, 1) := by decide +kernel
theorem d_Law_order_10 : decode b_Law_order 10 = .ok (.goto 11, 3) := by decide +kernel
theorem d_Law_order_13 : decode b_Law_order 13 = .ok (.astore 4, 2) := by decide +kernel
theorem d_Law_order_15 : decode b_Law_order 15 = .ok (.iconst 1, 1) := by decide +kernel
theorem d_Law_order_16 : decode b_Law_order 16 = .ok (.ireturn, 1) := by decide +kernel
theorem d_Law_order_17 : decode b_Law_order 17 = .ok (.astore 4, 2) := by decide +kernel
theorem d_Law_order_19 : decode b_Law_order 19 = .ok (.iconst 2, 1) := by decide +kernel
theorem d_Law_order_20 : decode b_Law_order 20 = .ok (.ireturn, 1) := by decide +kernel
theorem d_Law_order_21 : decode b_Law_order 21 = .ok (.iconst 0, 1) := by decide +kernel
theorem d_Law_order_22 : decode b_Law_order 22 = .ok (.ireturn, 1) := by decide +kernel
theorem d_Law_load_0 : decode b_Law_load 0 = .ok (.aload_n 2, 1) := by decide +kernel
theorem d_Law_load_1 : decode b_Law_load 1 = .ok (.iconst 0, 1) := by decide +kernel
theorem d_Law_load_2 : decode b_Law_load 2 = .ok (.aload_n 0, 1) := by decide +kernel
theorem d_Law_load_3 : decode b_Law_load 3 = .ok (.iload_n 1, 1) := by decide +kernel
theorem d_Law_load_4 : decode b_Law_load 4 = .ok (.invokevirtual 46, 3) := by decide +kernel
theorem d_Law_load_7 : decode b_Law_load 7 = .ok (.i2l, 1) := by decide +kernel
theorem d_Law_load_8 : decode b_Law_load 8 = .ok (.lastore, 1) := by decide +kernel
theorem d_Law_load_9 : decode b_Law_load 9 = .ok (.goto 9, 3) := by decide +kernel
theorem d_Law_load_12 : decode b_Law_load 12 = .ok (.astore_n 3, 1) := by decide +kernel
theorem d_Law_load_13 : decode b_Law_load 13 = .ok (.iconst 1, 1) := by decide +kernel
theorem d_Law_load_14 : decode b_Law_load 14 = .ok (.ireturn, 1) := by decide +kernel
theorem d_Law_load_15 : decode b_Law_load 15 = .ok (.astore_n 3, 1) := by decide +kernel
theorem d_Law_load_16 : decode b_Law_load 16 = .ok (.iconst 2, 1) := by decide +kernel
theorem d_Law_load_17 : decode b_Law_load 17 = .ok (.ireturn, 1) := by decide +kernel
theorem d_Law_load_18 : decode b_Law_load 18 = .ok (.iconst 0, 1) := by decide +kernel
theorem d_Law_load_19 : decode b_Law_load 19 = .ok (.ireturn, 1) := by decide +kernel
theorem d_Law_rest_0 : decode b_Law_rest 0 = .ok (.aload_n 2, 1) := by decide +kernel
theorem d_Law_rest_1 : decode b_Law_rest 1 = .ok (.iconst 0, 1) := by decide +kernel
theorem d_Law_rest_2 : decode b_Law_rest 2 = .ok (.aload_n 0, 1) := by decide +kernel
theorem d_Law_rest_3 : decode b_Law_rest 3 = .ok (.iload_n 1, 1) := by decide +kernel
theorem d_Law_rest_4 : decode b_Law_rest 4 = .ok (.invokevirtual 49, 3) := by decide +kernel
theorem d_Law_rest_7 : decode b_Law_rest 7 = .ok (.i2l, 1) := by decide +kernel
theorem d_Law_rest_8 : decode b_Law_rest 8 = .ok (.lastore, 1) := by decide +kernel
theorem d_Law_rest_9 : decode b_Law_rest 9 = .ok (.goto 9, 3) := by decide +kernel
theorem d_Law_rest_12 : decode b_Law_rest 12 = .ok (.astore_n 3, 1) := by decide +kernel
theorem d_Law_rest_13 : decode b_Law_rest 13 = .ok (.iconst 1, 1) := by decide +kernel
theorem d_Law_rest_14 : decode b_Law_rest 14 = .ok (.ireturn, 1) := by decide +kernel
theorem d_Law_rest_15 : decode b_Law_rest 15 = .ok (.astore_n 3, 1) := by decide +kernel
theorem d_Law_rest_16 : decode b_Law_rest 16 = .ok (.iconst 2, 1) := by decide +kernel
theorem d_Law_rest_17 : decode b_Law_rest 17 = .ok (.ireturn, 1) := by decide +kernel
theorem d_Law_rest_18 : decode b_Law_rest 18 = .ok (.iconst 0, 1) := by decide +kernel
theorem d_Law_rest_19 : decode b_Law_rest 19 = .ok (.ireturn, 1) := by decide +kernel
theorem d_Law_deliver_0 : decode b_Law_deliver 0 = .ok (.aload_n 3, 1) := by decide +kernel
theorem d_Law_deliver_1 : decode b_Law_deliver 1 = .ok (.iconst 0, 1) := by decide +kernel
theorem d_Law_deliver_2 : decode b_Law_deliver 2 = .ok (.aload_n 0, 1) := by decide +kernel
theorem d_Law_deliver_3 : decode b_Law_deliver 3 = .ok (.iload_n 1, 1) := by decide +kernel
theorem d_Law_deliver_4 : decode b_Law_deliver 4 = .ok (.iload_n 2, 1) := by decide +kernel
theorem d_Law_deliver_5 : decode b_Law_deliver 5 = .ok (.invokevirtual 52, 3) := by decide +kernel
theorem d_Law_deliver_8 : decode b_Law_deliver 8 = .ok (.i2l, 1) := by decide +kernel
theorem d_Law_deliver_9 : decode b_Law_deliver 9 = .ok (.lastore, 1) := by decide +kernel
theorem d_Law_deliver_10 : decode b_Law_deliver 10 = .ok (.goto 11, 3) := by decide +kernel
theorem d_Law_deliver_13 : decode b_Law_deliver 13 = .ok (.astore 4, 2) := by decide +kernel
theorem d_Law_deliver_15 : decode b_Law_deliver 15 = .ok (.iconst 1, 1) := by decide +kernel
theorem d_Law_deliver_16 : decode b_Law_deliver 16 = .ok (.ireturn, 1) := by decide +kernel
theorem d_Law_deliver_17 : decode b_Law_deliver 17 = .ok (.astore 4, 2) := by decide +kernel
theorem d_Law_deliver_19 : decode b_Law_deliver 19 = .ok (.iconst 2, 1) := by decide +kernel
theorem d_Law_deliver_20 : decode b_Law_deliver 20 = .ok (.ireturn, 1) := by decide +kernel
theorem d_Law_deliver_21 : decode b_Law_deliver 21 = .ok (.iconst 0, 1) := by decide +kernel
theorem d_Law_deliver_22 : decode b_Law_deliver 22 = .ok (.ireturn, 1) := by decide +kernel
theorem d_Law_claim_0 : decode b_Law_claim 0 = .ok (.aload_n 3, 1) := by decide +kernel
theorem d_Law_claim_1 : decode b_Law_claim 1 = .ok (.iconst 0, 1) := by decide +kernel
theorem d_Law_claim_2 : decode b_Law_claim 2 = .ok (.aload_n 0, 1) := by decide +kernel
theorem d_Law_claim_3 : decode b_Law_claim 3 = .ok (.iload_n 1, 1) := by decide +kernel
theorem d_Law_claim_4 : decode b_Law_claim 4 = .ok (.iload_n 2, 1) := by decide +kernel
theorem d_Law_claim_5 : decode b_Law_claim 5 = .ok (.invokevirtual 55, 3) := by decide +kernel
theorem d_Law_claim_8 : decode b_Law_claim 8 = .ok (.i2l, 1) := by decide +kernel
theorem d_Law_claim_9 : decode b_Law_claim 9 = .ok (.lastore, 1) := by decide +kernel
theorem d_Law_claim_10 : decode b_Law_claim 10 = .ok (.goto 11, 3) := by decide +kernel
theorem d_Law_claim_13 : decode b_Law_claim 13 = .ok (.astore 4, 2) := by decide +kernel
theorem d_Law_claim_15 : decode b_Law_claim 15 = .ok (.iconst 1, 1) := by decide +kernel
theorem d_Law_claim_16 : decode b_Law_claim 16 = .ok (.ireturn, 1) := by decide +kernel
theorem d_Law_claim_17 : decode b_Law_claim 17 = .ok (.astore 4, 2) := by decide +kernel
theorem d_Law_claim_19 : decode b_Law_claim 19 = .ok (.iconst 2, 1) := by decide +kernel
theorem d_Law_claim_20 : decode b_Law_claim 20 = .ok (.ireturn, 1) := by decide +kernel
theorem d_Law_claim_21 : decode b_Law_claim 21 = .ok (.iconst 0, 1) := by decide +kernel
theorem d_Law_claim_22 : decode b_Law_claim 22 = .ok (.ireturn, 1) := by decide +kernel
theorem d_Law_ofRoad_0 : decode b_Law_ofRoad 0 = .ok (.aload_n 3, 1) := by decide +kernel
theorem d_Law_ofRoad_1 : decode b_Law_ofRoad 1 = .ok (.iconst 0, 1) := by decide +kernel
theorem d_Law_ofRoad_2 : decode b_Law_ofRoad 2 = .ok (.aload_n 0, 1) := by decide +kernel
theorem d_Law_ofRoad_3 : decode b_Law_ofRoad 3 = .ok (.iload_n 1, 1) := by decide +kernel
theorem d_Law_ofRoad_4 : decode b_Law_ofRoad 4 = .ok (.iload_n 2, 1) := by decide +kernel
theorem d_Law_ofRoad_5 : decode b_Law_ofRoad 5 = .ok (.invokevirtual 58, 3) := by decide +kernel
theorem d_Law_ofRoad_8 : decode b_Law_ofRoad 8 = .ok (.i2l, 1) := by decide +kernel
theorem d_Law_ofRoad_9 : decode b_Law_ofRoad 9 = .ok (.lastore, 1) := by decide +kernel
theorem d_Law_ofRoad_10 : decode b_Law_ofRoad 10 = .ok (.goto 11, 3) := by decide +kernel
theorem d_Law_ofRoad_13 : decode b_Law_ofRoad 13 = .ok (.astore 4, 2) := by decide +kernel
theorem d_Law_ofRoad_15 : decode b_Law_ofRoad 15 = .ok (.iconst 1, 1) := by decide +kernel
theorem d_Law_ofRoad_16 : decode b_Law_ofRoad 16 = .ok (.ireturn, 1) := by decide +kernel
theorem d_Law_ofRoad_17 : decode b_Law_ofRoad 17 = .ok (.astore 4, 2) := by decide +kernel
theorem d_Law_ofRoad_19 : decode b_Law_ofRoad 19 = .ok (.iconst 2, 1) := by decide +kernel
theorem d_Law_ofRoad_20 : decode b_Law_ofRoad 20 = .ok (.ireturn, 1) := by decide +kernel
theorem d_Law_ofRoad_21 : decode b_Law_ofRoad 21 = .ok (.iconst 0, 1) := by decide +kernel
theorem d_Law_ofRoad_22 : decode b_Law_ofRoad 22 = .ok (.ireturn, 1) := by decide +kernel
theorem d_Law_ofLorry_0 : decode b_Law_ofLorry 0 = .ok (.aload_n 3, 1) := by decide +kernel
theorem d_Law_ofLorry_1 : decode b_Law_ofLorry 1 = .ok (.iconst 0, 1) := by decide +kernel
theorem d_Law_ofLorry_2 : decode b_Law_ofLorry 2 = .ok (.aload_n 0, 1) := by decide +kernel
theorem d_Law_ofLorry_3 : decode b_Law_ofLorry 3 = .ok (.iload_n 1, 1) := by decide +kernel
theorem d_Law_ofLorry_4 : decode b_Law_ofLorry 4 = .ok (.iload_n 2, 1) := by decide +kernel
theorem d_Law_ofLorry_5 : decode b_Law_ofLorry 5 = .ok (.invokevirtual 61, 3) := by decide +kernel
theorem d_Law_ofLorry_8 : decode b_Law_ofLorry 8 = .ok (.i2l, 1) := by decide +kernel
theorem d_Law_ofLorry_9 : decode b_Law_ofLorry 9 = .ok (.lastore, 1) := by decide +kernel
theorem d_Law_ofLorry_10 : decode b_Law_ofLorry 10 = .ok (.goto 11, 3) := by decide +kernel
theorem d_Law_ofLorry_13 : decode b_Law_ofLorry 13 = .ok (.astore 4, 2) := by decide +kernel
theorem d_Law_ofLorry_15 : decode b_Law_ofLorry 15 = .ok (.iconst 1, 1) := by decide +kernel
theorem d_Law_ofLorry_16 : decode b_Law_ofLorry 16 = .ok (.ireturn, 1) := by decide +kernel
theorem d_Law_ofLorry_17 : decode b_Law_ofLorry 17 = .ok (.astore 4, 2) := by decide +kernel
theorem d_Law_ofLorry_19 : decode b_Law_ofLorry 19 = .ok (.iconst 2, 1) := by decide +kernel
theorem d_Law_ofLorry_20 : decode b_Law_ofLorry 20 = .ok (.ireturn, 1) := by decide +kernel
theorem d_Law_ofLorry_21 : decode b_Law_ofLorry 21 = .ok (.iconst 0, 1) := by decide +kernel
theorem d_Law_ofLorry_22 : decode b_Law_ofLorry 22 = .ok (.ireturn, 1) := by decide +kernel
theorem d_Law_many_0 : decode b_Law_many 0 = .ok (.aload_n 2, 1) := by decide +kernel
theorem d_Law_many_1 : decode b_Law_many 1 = .ok (.iconst 0, 1) := by decide +kernel
theorem d_Law_many_2 : decode b_Law_many 2 = .ok (.aload_n 0, 1) := by decide +kernel
theorem d_Law_many_3 : decode b_Law_many 3 = .ok (.iload_n 1, 1) := by decide +kernel
theorem d_Law_many_4 : decode b_Law_many 4 = .ok (.invokevirtual 64, 3) := by decide +kernel
theorem d_Law_many_7 : decode b_Law_many 7 = .ok (.i2l, 1) := by decide +kernel
theorem d_Law_many_8 : decode b_Law_many 8 = .ok (.lastore, 1) := by decide +kernel
theorem d_Law_many_9 : decode b_Law_many 9 = .ok (.goto 6, 3) := by decide +kernel
theorem d_Law_many_12 : decode b_Law_many 12 = .ok (.astore_n 3, 1) := by decide +kernel
theorem d_Law_many_13 : decode b_Law_many 13 = .ok (.iconst 1, 1) := by decide +kernel
theorem d_Law_many_14 : decode b_Law_many 14 = .ok (.ireturn, 1) := by decide +kernel
theorem d_Law_many_15 : decode b_Law_many 15 = .ok (.iconst 0, 1) := by decide +kernel
theorem d_Law_many_16 : decode b_Law_many 16 = .ok (.ireturn, 1) := by decide +kernel
theorem d_Law_way_0 : decode b_Law_way 0 = .ok (.aload_n 3, 1) := by decide +kernel
theorem d_Law_way_1 : decode b_Law_way 1 = .ok (.iconst 0, 1) := by decide +kernel
theorem d_Law_way_2 : decode b_Law_way 2 = .ok (.aload_n 0, 1) := by decide +kernel
theorem d_Law_way_3 : decode b_Law_way 3 = .ok (.iload_n 1, 1) := by decide +kernel
theorem d_Law_way_4 : decode b_Law_way 4 = .ok (.iload_n 2, 1) := by decide +kernel
theorem d_Law_way_5 : decode b_Law_way 5 = .ok (.invokevirtual 67, 3) := by decide +kernel
theorem d_Law_way_8 : decode b_Law_way 8 = .ok (.i2l, 1) := by decide +kernel
theorem d_Law_way_9 : decode b_Law_way 9 = .ok (.lastore, 1) := by decide +kernel
theorem d_Law_way_10 : decode b_Law_way 10 = .ok (.goto 7, 3) := by decide +kernel
theorem d_Law_way_13 : decode b_Law_way 13 = .ok (.astore 4, 2) := by decide +kernel
theorem d_Law_way_15 : decode b_Law_way 15 = .ok (.iconst 1, 1) := by decide +kernel
theorem d_Law_way_16 : decode b_Law_way 16 = .ok (.ireturn, 1) := by decide +kernel
theorem d_Law_way_17 : decode b_Law_way 17 = .ok (.iconst 0, 1) := by decide +kernel
theorem d_Law_way_18 : decode b_Law_way 18 = .ok (.ireturn, 1) := by decide +kernel
theorem d_Law_slipperyIn_0 : decode b_Law_slipperyIn 0 = .ok (.aload_n 3, 1) := by decide +kernel
theorem d_Law_slipperyIn_1 : decode b_Law_slipperyIn 1 = .ok (.iconst 0, 1) := by decide +kernel
theorem d_Law_slipperyIn_2 : decode b_Law_slipperyIn 2 = .ok (.aload_n 0, 1) := by decide +kernel
theorem d_Law_slipperyIn_3 : decode b_Law_slipperyIn 3 = .ok (.iload_n 1, 1) := by decide +kernel
theorem d_Law_slipperyIn_4 : decode b_Law_slipperyIn 4 = .ok (.iload_n 2, 1) := by decide +kernel
theorem d_Law_slipperyIn_5 : decode b_Law_slipperyIn 5 = .ok (.invokevirtual 70, 3) := by decide +kernel
theorem d_Law_slipperyIn_8 : decode b_Law_slipperyIn 8 = .ok (.i2l, 1) := by decide +kernel
theorem d_Law_slipperyIn_9 : decode b_Law_slipperyIn 9 = .ok (.lastore, 1) := by decide +kernel
theorem d_Law_slipperyIn_10 : decode b_Law_slipperyIn 10 = .ok (.goto 11, 3) := by decide +kernel
theorem d_Law_slipperyIn_13 : decode b_Law_slipperyIn 13 = .ok (.astore 4, 2) := by decide +kernel
theorem d_Law_slipperyIn_15 : decode b_Law_slipperyIn 15 = .ok (.iconst 1, 1) := by decide +kernel
theorem d_Law_slipperyIn_16 : decode b_Law_slipperyIn 16 = .ok (.ireturn, 1) := by decide +kernel
theorem d_Law_slipperyIn_17 : decode b_Law_slipperyIn 17 = .ok (.astore 4, 2) := by decide +kernel
theorem d_Law_slipperyIn_19 : decode b_Law_slipperyIn 19 = .ok (.iconst 2, 1) := by decide +kernel
theorem d_Law_slipperyIn_20 : decode b_Law_slipperyIn 20 = .ok (.ireturn, 1) := by decide +kernel
theorem d_Law_slipperyIn_21 : decode b_Law_slipperyIn 21 = .ok (.iconst 0, 1) := by decide +kernel
theorem d_Law_slipperyIn_22 : decode b_Law_slipperyIn 22 = .ok (.ireturn, 1) := by decide +kernel
theorem d_Law_saltFor_0 : decode b_Law_saltFor 0 = .ok (.aload_n 3, 1) := by decide +kernel
theorem d_Law_saltFor_1 : decode b_Law_saltFor 1 = .ok (.iconst 0, 1) := by decide +kernel
theorem d_Law_saltFor_2 : decode b_Law_saltFor 2 = .ok (.aload_n 0, 1) := by decide +kernel
theorem d_Law_saltFor_3 : decode b_Law_saltFor 3 = .ok (.iload_n 1, 1) := by decide +kernel
theorem d_Law_saltFor_4 : decode b_Law_saltFor 4 = .ok (.iload_n 2, 1) := by decide +kernel
theorem d_Law_saltFor_5 : decode b_Law_saltFor 5 = .ok (.invokevirtual 73, 3) := by decide +kernel
theorem d_Law_saltFor_8 : decode b_Law_saltFor 8 = .ok (.i2l, 1) := by decide +kernel
theorem d_Law_saltFor_9 : decode b_Law_saltFor 9 = .ok (.lastore, 1) := by decide +kernel
theorem d_Law_saltFor_10 : decode b_Law_saltFor 10 = .ok (.goto 11, 3) := by decide +kernel
theorem d_Law_saltFor_13 : decode b_Law_saltFor 13 = .ok (.astore 4, 2) := by decide +kernel
theorem d_Law_saltFor_15 : decode b_Law_saltFor 15 = .ok (.iconst 1, 1) := by decide +kernel
theorem d_Law_saltFor_16 : decode b_Law_saltFor 16 = .ok (.ireturn, 1) := by decide +kernel
theorem d_Law_saltFor_17 : decode b_Law_saltFor 17 = .ok (.astore 4, 2) := by decide +kernel
theorem d_Law_saltFor_19 : decode b_Law_saltFor 19 = .ok (.iconst 2, 1) := by decide +kernel
theorem d_Law_saltFor_20 : decode b_Law_saltFor 20 = .ok (.ireturn, 1) := by decide +kernel
theorem d_Law_saltFor_21 : decode b_Law_saltFor 21 = .ok (.iconst 0, 1) := by decide +kernel
theorem d_Law_saltFor_22 : decode b_Law_saltFor 22 = .ok (.ireturn, 1) := by decide +kernel
theorem d_Law_bestOrders_0 : decode b_Law_bestOrders 0 = .ok (.aload_n 3, 1) := by decide +kernel
theorem d_Law_bestOrders_1 : decode b_Law_bestOrders 1 = .ok (.iconst 0, 1) := by decide +kernel
theorem d_Law_bestOrders_2 : decode b_Law_bestOrders 2 = .ok (.aload_n 0, 1) := by decide +kernel
theorem d_Law_bestOrders_3 : decode b_Law_bestOrders 3 = .ok (.iload_n 1, 1) := by decide +kernel
theorem d_Law_bestOrders_4 : decode b_Law_bestOrders 4 = .ok (.iload_n 2, 1) := by decide +kernel
theorem d_Law_bestOrders_5 : decode b_Law_bestOrders 5 = .ok (.invokevirtual 76, 3) := by decide +kernel
theorem d_Law_bestOrders_8 : decode b_Law_bestOrders 8 = .ok (.i2l, 1) := by decide +kernel
theorem d_Law_bestOrders_9 : decode b_Law_bestOrders 9 = .ok (.lastore, 1) := by decide +kernel
theorem d_Law_bestOrders_10 : decode b_Law_bestOrders 10 = .ok (.goto 7, 3) := by decide +kernel
theorem d_Law_bestOrders_13 : decode b_Law_bestOrders 13 = .ok (.astore 4, 2) := by decide +kernel
theorem d_Law_bestOrders_15 : decode b_Law_bestOrders 15 = .ok (.iconst 1, 1) := by decide +kernel
theorem d_Law_bestOrders_16 : decode b_Law_bestOrders 16 = .ok (.ireturn, 1) := by decide +kernel
theorem d_Law_bestOrders_17 : decode b_Law_bestOrders 17 = .ok (.iconst 0, 1) := by decide +kernel
theorem d_Law_bestOrders_18 : decode b_Law_bestOrders 18 = .ok (.ireturn, 1) := by decide +kernel
theorem d_Law_law_0 : decode b_Law_law 0 = .ok (.new 8, 3) := by decide +kernel
theorem d_Law_law_3 : decode b_Law_law 3 = .ok (.dup, 1) := by decide +kernel
theorem d_Law_law_4 : decode b_Law_law 4 = .ok (.invokespecial 79, 3) := by decide +kernel
theorem d_Law_law_7 : decode b_Law_law 7 = .ok (.astore_n 1, 1) := by decide +kernel
theorem d_Law_law_8 : decode b_Law_law 8 = .ok (.new 80, 3) := by decide +kernel
theorem d_Law_law_11 : decode b_Law_law 11 = .ok (.dup, 1) := by decide +kernel
theorem d_Law_law_12 : decode b_Law_law 12 = .ok (.invokespecial 82, 3) := by decide +kernel
theorem d_Law_law_15 : decode b_Law_law 15 = .ok (.astore_n 2, 1) := by decide +kernel
theorem d_Law_law_16 : decode b_Law_law 16 = .ok (.iconst 1, 1) := by decide +kernel
theorem d_Law_law_17 : decode b_Law_law 17 = .ok (.newarray .long, 2) := by decide +kernel
theorem d_Law_law_19 : decode b_Law_law 19 = .ok (.astore_n 3, 1) := by decide +kernel
theorem d_Law_law_20 : decode b_Law_law 20 = .ok (.iconst 0, 1) := by decide +kernel
theorem d_Law_law_21 : decode b_Law_law 21 = .ok (.istore 4, 2) := by decide +kernel
theorem d_Law_law_23 : decode b_Law_law 23 = .ok (.iload 4, 2) := by decide +kernel
theorem d_Law_law_25 : decode b_Law_law 25 = .ok (.aload_n 0, 1) := by decide +kernel
theorem d_Law_law_26 : decode b_Law_law 26 = .ok (.arraylength, 1) := by decide +kernel
theorem d_Law_law_27 : decode b_Law_law 27 = .ok (.bipush 8, 2) := by decide +kernel
theorem d_Law_law_29 : decode b_Law_law 29 = .ok (.isub, 1) := by decide +kernel
theorem d_Law_law_30 : decode b_Law_law 30 = .ok (.if_icmp .gt 1579, 3) := by decide +kernel
theorem d_Law_law_33 : decode b_Law_law 33 = .ok (.aload_n 0, 1) := by decide +kernel
theorem d_Law_law_34 : decode b_Law_law 34 = .ok (.iload 4, 2) := by decide +kernel
theorem d_Law_law_36 : decode b_Law_law 36 = .ok (.iaload, 1) := by decide +kernel
theorem d_Law_law_37 : decode b_Law_law 37 = .ok (.bipush 31, 2) := by decide +kernel
theorem d_Law_law_39 : decode b_Law_law 39 = .ok (.iand, 1) := by decide +kernel
theorem d_Law_law_40 : decode b_Law_law 40 = .ok (.tableswitch 1563 0 20 #[100, 248, 332, 412, 532, 588, 660, 728, 796, 852, 908, 976, 1044, 1112, 1180, 1236, 1304, 1345, 1413, 1481, 1549], 100) := by decide +kernel
theorem d_Law_law_140 : decode b_Law_law 140 = .ok (.aload_n 1, 1) := by decide +kernel
theorem d_Law_law_141 : decode b_Law_law 141 = .ok (.aload_n 0, 1) := by decide +kernel
theorem d_Law_law_142 : decode b_Law_law 142 = .ok (.iload 4, 2) := by decide +kernel
theorem d_Law_law_144 : decode b_Law_law 144 = .ok (.iconst 1, 1) := by decide +kernel
theorem d_Law_law_145 : decode b_Law_law 145 = .ok (.iadd, 1) := by decide +kernel
theorem d_Law_law_146 : decode b_Law_law 146 = .ok (.iaload, 1) := by decide +kernel
theorem d_Law_law_147 : decode b_Law_law 147 = .ok (.aload_n 0, 1) := by decide +kernel
theorem d_Law_law_148 : decode b_Law_law 148 = .ok (.iload 4, 2) := by decide +kernel
theorem d_Law_law_150 : decode b_Law_law 150 = .ok (.iconst 2, 1) := by decide +kernel
theorem d_Law_law_151 : decode b_Law_law 151 = .ok (.iadd, 1) := by decide +kernel
theorem d_Law_law_152 : decode b_Law_law 152 = .ok (.iaload, 1) := by decide +kernel
theorem d_Law_law_153 : decode b_Law_law 153 = .ok (.aload_n 0, 1) := by decide +kernel
theorem d_Law_law_154 : decode b_Law_law 154 = .ok (.iload 4, 2) := by decide +kernel
theorem d_Law_law_156 : decode b_Law_law 156 = .ok (.iconst 3, 1) := by decide +kernel
theorem d_Law_law_157 : decode b_Law_law 157 = .ok (.iadd, 1) := by decide +kernel
theorem d_Law_law_158 : decode b_Law_law 158 = .ok (.iaload, 1) := by decide +kernel
theorem d_Law_law_159 : decode b_Law_law 159 = .ok (.aload_n 0, 1) := by decide +kernel
theorem d_Law_law_160 : decode b_Law_law 160 = .ok (.iload 4, 2) := by decide +kernel
theorem d_Law_law_162 : decode b_Law_law 162 = .ok (.iconst 4, 1) := by decide +kernel
theorem d_Law_law_163 : decode b_Law_law 163 = .ok (.iadd, 1) := by decide +kernel
theorem d_Law_law_164 : decode b_Law_law 164 = .ok (.iaload, 1) := by decide +kernel
theorem d_Law_law_165 : decode b_Law_law 165 = .ok (.aload_n 0, 1) := by decide +kernel
theorem d_Law_law_166 : decode b_Law_law 166 = .ok (.iload 4, 2) := by decide +kernel
theorem d_Law_law_168 : decode b_Law_law 168 = .ok (.iconst 5, 1) := by decide +kernel
theorem d_Law_law_169 : decode b_Law_law 169 = .ok (.iadd, 1) := by decide +kernel
theorem d_Law_law_170 : decode b_Law_law 170 = .ok (.iaload, 1) := by decide +kernel
theorem d_Law_law_171 : decode b_Law_law 171 = .ok (.aload_n 0, 1) := by decide +kernel
theorem d_Law_law_172 : decode b_Law_law 172 = .ok (.iload 4, 2) := by decide +kernel
theorem d_Law_law_174 : decode b_Law_law 174 = .ok (.bipush 6, 2) := by decide +kernel
theorem d_Law_law_176 : decode b_Law_law 176 = .ok (.iadd, 1) := by decide +kernel
theorem d_Law_law_177 : decode b_Law_law 177 = .ok (.iaload, 1) := by decide +kernel
theorem d_Law_law_178 : decode b_Law_law 178 = .ok (.aload_n 0, 1) := by decide +kernel
theorem d_Law_law_179 : decode b_Law_law 179 = .ok (.iload 4, 2) := by decide +kernel
theorem d_Law_law_181 : decode b_Law_law 181 = .ok (.bipush 7, 2) := by decide +kernel
theorem d_Law_law_183 : decode b_Law_law 183 = .ok (.iadd, 1) := by decide +kernel
theorem d_Law_law_184 : decode b_Law_law 184 = .ok (.iaload, 1) := by decide +kernel
theorem d_Law_law_185 : decode b_Law_law 185 = .ok (.ifCond .eq 7, 3) := by decide +kernel
theorem d_Law_law_188 : decode b_Law_law 188 = .ok (.iconst 1, 1) := by decide +kernel
theorem d_Law_law_189 : decode b_Law_law 189 = .ok (.goto 4, 3) := by decide +kernel
theorem d_Law_law_192 : decode b_Law_law 192 = .ok (.iconst 0, 1) := by decide +kernel
theorem d_Law_law_193 : decode b_Law_law 193 = .ok (.aload_n 3, 1) := by decide +kernel
theorem d_Law_law_194 : decode b_Law_law 194 = .ok (.invokestatic 83, 3) := by decide +kernel
theorem d_Law_law_197 : decode b_Law_law 197 = .ok (.istore 5, 2) := by decide +kernel
theorem d_Law_law_199 : decode b_Law_law 199 = .ok (.aload_n 2, 1) := by decide +kernel
theorem d_Law_law_200 : decode b_Law_law 200 = .ok (.aload_n 0, 1) := by decide +kernel
theorem d_Law_law_201 : decode b_Law_law 201 = .ok (.iload 4, 2) := by decide +kernel
theorem d_Law_law_203 : decode b_Law_law 203 = .ok (.iconst 1, 1) := by decide +kernel
theorem d_Law_law_204 : decode b_Law_law 204 = .ok (.iadd, 1) := by decide +kernel
theorem d_Law_law_205 : decode b_Law_law 205 = .ok (.iaload, 1) := by decide +kernel
theorem d_Law_law_206 : decode b_Law_law 206 = .ok (.aload_n 0, 1) := by decide +kernel
theorem d_Law_law_207 : decode b_Law_law 207 = .ok (.iload 4, 2) := by decide +kernel
theorem d_Law_law_209 : decode b_Law_law 209 = .ok (.iconst 2, 1) := by decide +kernel
theorem d_Law_law_210 : decode b_Law_law 210 = .ok (.iadd, 1) := by decide +kernel
theorem d_Law_law_211 : decode b_Law_law 211 = .ok (.iaload, 1) := by decide +kernel
theorem d_Law_law_212 : decode b_Law_law 212 = .ok (.aload_n 0, 1) := by decide +kernel
theorem d_Law_law_213 : decode b_Law_law 213 = .ok (.iload 4, 2) := by decide +kernel
theorem d_Law_law_215 : decode b_Law_law 215 = .ok (.iconst 3, 1) := by decide +kernel
theorem d_Law_law_216 : decode b_Law_law 216 = .ok (.iadd, 1) := by decide +kernel
theorem d_Law_law_217 : decode b_Law_law 217 = .ok (.iaload, 1) := by decide +kernel
theorem d_Law_law_218 : decode b_Law_law 218 = .ok (.aload_n 0, 1) := by decide +kernel
theorem d_Law_law_219 : decode b_Law_law 219 = .ok (.iload 4, 2) := by decide +kernel
theorem d_Law_law_221 : decode b_Law_law 221 = .ok (.iconst 4, 1) := by decide +kernel
theorem d_Law_law_222 : decode b_Law_law 222 = .ok (.iadd, 1) := by decide +kernel
theorem d_Law_law_223 : decode b_Law_law 223 = .ok (.iaload, 1) := by decide +kernel
theorem d_Law_law_224 : decode b_Law_law 224 = .ok (.aload_n 0, 1) := by decide +kernel
theorem d_Law_law_225 : decode b_Law_law 225 = .ok (.iload 4, 2) := by decide +kernel
theorem d_Law_law_227 : decode b_Law_law 227 = .ok (.iconst 5, 1) := by decide +kernel
theorem d_Law_law_228 : decode b_Law_law 228 = .ok (.iadd, 1) := by decide +kernel
theorem d_Law_law_229 : decode b_Law_law 229 = .ok (.iaload, 1) := by decide +kernel
theorem d_Law_law_230 : decode b_Law_law 230 = .ok (.aload_n 0, 1) := by decide +kernel
theorem d_Law_law_231 : decode b_Law_law 231 = .ok (.iload 4, 2) := by decide +kernel
theorem d_Law_law_233 : decode b_Law_law 233 = .ok (.bipush 6, 2) := by decide +kernel
theorem d_Law_law_235 : decode b_Law_law 235 = .ok (.iadd, 1) := by decide +kernel
theorem d_Law_law_236 : decode b_Law_law 236 = .ok (.iaload, 1) := by decide +kernel
theorem d_Law_law_237 : decode b_Law_law 237 = .ok (.aload_n 0, 1) := by decide +kernel
theorem d_Law_law_238 : decode b_Law_law 238 = .ok (.iload 4, 2) := by decide +kernel
theorem d_Law_law_240 : decode b_Law_law 240 = .ok (.bipush 7, 2) := by decide +kernel
theorem d_Law_law_242 : decode b_Law_law 242 = .ok (.iadd, 1) := by decide +kernel
theorem d_Law_law_243 : decode b_Law_law 243 = .ok (.iaload, 1) := by decide +kernel
theorem d_Law_law_244 : decode b_Law_law 244 = .ok (.ifCond .eq 7, 3) := by decide +kernel
theorem d_Law_law_247 : decode b_Law_law 247 = .ok (.iconst 1, 1) := by decide +kernel
theorem d_Law_law_248 : decode b_Law_law 248 = .ok (.goto 4, 3) := by decide +kernel
theorem d_Law_law_251 : decode b_Law_law 251 = .ok (.iconst 0, 1) := by decide +kernel
theorem d_Law_law_252 : decode b_Law_law 252 = .ok (.invokevirtual 88, 3) := by decide +kernel
theorem d_Law_law_255 : decode b_Law_law 255 = .ok (.istore 6, 2) := by decide +kernel
theorem d_Law_law_257 : decode b_Law_law 257 = .ok (.aload_n 2, 1) := by decide +kernel
theorem d_Law_law_258 : decode b_Law_law 258 = .ok (.invokevirtual 89, 3) := by decide +kernel
theorem d_Law_law_261 : decode b_Law_law 261 = .ok (.iload 5, 2) := by decide +kernel
theorem d_Law_law_263 : decode b_Law_law 263 = .ok (.if_icmp .eq 5, 3) := by decide +kernel
theorem d_Law_law_266 : decode b_Law_law 266 = .ok (.iconst 0, 1) := by decide +kernel
theorem d_Law_law_267 : decode b_Law_law 267 = .ok (.ireturn, 1) := by decide +kernel
theorem d_Law_law_268 : decode b_Law_law 268 = .ok (.iload 5, 2) := by decide +kernel
theorem d_Law_law_270 : decode b_Law_law 270 = .ok (.ifCond .ne 15, 3) := by decide +kernel
theorem d_Law_law_273 : decode b_Law_law 273 = .ok (.aload_n 3, 1) := by decide +kernel
theorem d_Law_law_274 : decode b_Law_law 274 = .ok (.iconst 0, 1) := by decide +kernel
theorem d_Law_law_275 : decode b_Law_law 275 = .ok (.laload, 1) := by decide +kernel
theorem d_Law_law_276 : decode b_Law_law 276 = .ok (.iload 6, 2) := by decide +kernel
theorem d_Law_law_278 : decode b_Law_law 278 = .ok (.i2l, 1) := by decide +kernel
theorem d_Law_law_279 : decode b_Law_law 279 = .ok (.lcmp, 1) := by decide +kernel
theorem d_Law_law_280 : decode b_Law_law 280 = .ok (.ifCond .eq 5, 3) := by decide +kernel
theorem d_Law_law_283 : decode b_Law_law 283 = .ok (.iconst 0, 1) := by decide +kernel
theorem d_Law_law_284 : decode b_Law_law 284 = .ok (.ireturn, 1) := by decide +kernel
theorem d_Law_law_285 : decode b_Law_law 285 = .ok (.goto 1318, 3) := by decide +kernel
theorem d_Law_law_288 : decode b_Law_law 288 = .ok (.aload_n 1, 1) := by decide +kernel
theorem d_Law_law_289 : decode b_Law_law 289 = .ok (.aload_n 0, 1) := by decide +kernel
theorem d_Law_law_290 : decode b_Law_law 290 = .ok (.iload 4, 2) := by decide +kernel
theorem d_Law_law_292 : decode b_Law_law 292 = .ok (.iconst 1, 1) := by decide +kernel
theorem d_Law_law_293 : decode b_Law_law 293 = .ok (.iadd, 1) := by decide +kernel
theorem d_Law_law_294 : decode b_Law_law 294 = .ok (.iaload, 1) := by decide +kernel
theorem d_Law_law_295 : decode b_Law_law 295 = .ok (.aload_n 0, 1) := by decide +kernel
theorem d_Law_law_296 : decode b_Law_law 296 = .ok (.iload 4, 2) := by decide +kernel
theorem d_Law_law_298 : decode b_Law_law 298 = .ok (.iconst 2, 1) := by decide +kernel
theorem d_Law_law_299 : decode b_Law_law 299 = .ok (.iadd, 1) := by decide +kernel
theorem d_Law_law_300 : decode b_Law_law 300 = .ok (.iaload, 1) := by decide +kernel
theorem d_Law_law_301 : decode b_Law_law 301 = .ok (.ifCond .eq 7, 3) := by decide +kernel
theorem d_Law_law_304 : decode b_Law_law 304 = .ok (.iconst 1, 1) := by decide +kernel
theorem d_Law_law_305 : decode b_Law_law 305 = .ok (.goto 4, 3) := by decide +kernel
theorem d_Law_law_308 : decode b_Law_law 308 = .ok (.iconst 0, 1) := by decide +kernel
theorem d_Law_law_309 : decode b_Law_law 309 = .ok (.aload_n 3, 1) := by decide +kernel
theorem d_Law_law_310 : decode b_Law_law 310 = .ok (.invokestatic 93, 3) := by decide +kernel
theorem d_Law_law_313 : decode b_Law_law 313 = .ok (.istore 5, 2) := by decide +kernel
theorem d_Law_law_315 : decode b_Law_law 315 = .ok (.aload_n 2, 1) := by decide +kernel
theorem d_Law_law_316 : decode b_Law_law 316 = .ok (.aload_n 0, 1) := by decide +kernel
theorem d_Law_law_317 : decode b_Law_law 317 = .ok (.iload 4, 2) := by decide +kernel
theorem d_Law_law_319 : decode b_Law_law 319 = .ok (.iconst 1, 1) := by decide +kernel
theorem d_Law_law_320 : decode b_Law_law 320 = .ok (.iadd, 1) := by decide +kernel
theorem d_Law_law_321 : decode b_Law_law 321 = .ok (.iaload, 1) := by decide +kernel
theorem d_Law_law_322 : decode b_Law_law 322 = .ok (.aload_n 0, 1) := by decide +kernel
theorem d_Law_law_323 : decode b_Law_law 323 = .ok (.iload 4, 2) := by decide +kernel
theorem d_Law_law_325 : decode b_Law_law 325 = .ok (.iconst 2, 1) := by decide +kernel
theorem d_Law_law_326 : decode b_Law_law 326 = .ok (.iadd, 1) := by decide +kernel
theorem d_Law_law_327 : decode b_Law_law 327 = .ok (.iaload, 1) := by decide +kernel
theorem d_Law_law_328 : decode b_Law_law 328 = .ok (.ifCond .eq 7, 3) := by decide +kernel
theorem d_Law_law_331 : decode b_Law_law 331 = .ok (.iconst 1, 1) := by decide +kernel
theorem d_Law_law_332 : decode b_Law_law 332 = .ok (.goto 4, 3) := by decide +kernel
theorem d_Law_law_335 : decode b_Law_law 335 = .ok (.iconst 0, 1) := by decide +kernel
theorem d_Law_law_336 : decode b_Law_law 336 = .ok (.invokevirtual 96, 3) := by decide +kernel
theorem d_Law_law_339 : decode b_Law_law 339 = .ok (.istore 6, 2) := by decide +kernel
theorem d_Law_law_341 : decode b_Law_law 341 = .ok (.aload_n 2, 1) := by decide +kernel
theorem d_Law_law_342 : decode b_Law_law 342 = .ok (.invokevirtual 89, 3) := by decide +kernel
theorem d_Law_law_345 : decode b_Law_law 345 = .ok (.iload 5, 2) := by decide +kernel
theorem d_Law_law_347 : decode b_Law_law 347 = .ok (.if_icmp .eq 5, 3) := by decide +kernel
theorem d_Law_law_350 : decode b_Law_law 350 = .ok (.iconst 0, 1) := by decide +kernel
theorem d_Law_law_351 : decode b_Law_law 351 = .ok (.ireturn, 1) := by decide +kernel
theorem d_Law_law_352 : decode b_Law_law 352 = .ok (.iload 5, 2) := by decide +kernel
theorem d_Law_law_354 : decode b_Law_law 354 = .ok (.ifCond .ne 15, 3) := by decide +kernel
theorem d_Law_law_357 : decode b_Law_law 357 = .ok (.aload_n 3, 1) := by decide +kernel
theorem d_Law_law_358 : decode b_Law_law 358 = .ok (.iconst 0, 1) := by decide +kernel
theorem d_Law_law_359 : decode b_Law_law 359 = .ok (.laload, 1) := by decide +kernel
theorem d_Law_law_360 : decode b_Law_law 360 = .ok (.iload 6, 2) := by decide +kernel
theorem d_Law_law_362 : decode b_Law_law 362 = .ok (.i2l, 1) := by decide +kernel
theorem d_Law_law_363 : decode b_Law_law 363 = .ok (.lcmp, 1) := by decide +kernel
theorem d_Law_law_364 : decode b_Law_law 364 = .ok (.ifCond .eq 5, 3) := by decide +kernel
theorem d_Law_law_367 : decode b_Law_law 367 = .ok (.iconst 0, 1) := by decide +kernel
theorem d_Law_law_368 : decode b_Law_law 368 = .ok (.ireturn, 1) := by decide +kernel
theorem d_Law_law_369 : decode b_Law_law 369 = .ok (.goto 1234, 3) := by decide +kernel
theorem d_Law_law_372 : decode b_Law_law 372 = .ok (.aload_n 1, 1) := by decide +kernel
theorem d_Law_law_373 : decode b_Law_law 373 = .ok (.aload_n 0, 1) := by decide +kernel
theorem d_Law_law_374 : decode b_Law_law 374 = .ok (.iload 4, 2) := by decide +kernel
theorem d_Law_law_376 : decode b_Law_law 376 = .ok (.iconst 1, 1) := by decide +kernel
theorem d_Law_law_377 : decode b_Law_law 377 = .ok (.iadd, 1) := by decide +kernel
theorem d_Law_law_378 : decode b_Law_law 378 = .ok (.iaload, 1) := by decide +kernel
theorem d_Law_law_379 : decode b_Law_law 379 = .ok (.aload_n 0, 1) := by decide +kernel
theorem d_Law_law_380 : decode b_Law_law 380 = .ok (.iload 4, 2) := by decide +kernel
theorem d_Law_law_382 : decode b_Law_law 382 = .ok (.iconst 2, 1) := by decide +kernel
theorem d_Law_law_383 : decode b_Law_law 383 = .ok (.iadd, 1) := by decide +kernel
theorem d_Law_law_384 : decode b_Law_law 384 = .ok (.iaload, 1) := by decide +kernel
theorem d_Law_law_385 : decode b_Law_law 385 = .ok (.aload_n 0, 1) := by decide +kernel
theorem d_Law_law_386 : decode b_Law_law 386 = .ok (.iload 4, 2) := by decide +kernel
theorem d_Law_law_388 : decode b_Law_law 388 = .ok (.iconst 3, 1) := by decide +kernel
theorem d_Law_law_389 : decode b_Law_law 389 = .ok (.iadd, 1) := by decide +kernel
theorem d_Law_law_390 : decode b_Law_law 390 = .ok (.iaload, 1) := by decide +kernel
theorem d_Law_law_391 : decode b_Law_law 391 = .ok (.aload_n 3, 1) := by decide +kernel
theorem d_Law_law_392 : decode b_Law_law 392 = .ok (.invokestatic 97, 3) := by decide +kernel
theorem d_Law_law_395 : decode b_Law_law 395 = .ok (.istore 5, 2) := by decide +kernel
theorem d_Law_law_397 : decode b_Law_law 397 = .ok (.aload_n 2, 1) := by decide +kernel
theorem d_Law_law_398 : decode b_Law_law 398 = .ok (.aload_n 0, 1) := by decide +kernel
theorem d_Law_law_399 : decode b_Law_law 399 = .ok (.iload 4, 2) := by decide +kernel
theorem d_Law_law_401 : decode b_Law_law 401 = .ok (.iconst 1, 1) := by decide +kernel
theorem d_Law_law_402 : decode b_Law_law 402 = .ok (.iadd, 1) := by decide +kernel
theorem d_Law_law_403 : decode b_Law_law 403 = .ok (.iaload, 1) := by decide +kernel
theorem d_Law_law_404 : decode b_Law_law 404 = .ok (.aload_n 0, 1) := by decide +kernel
theorem d_Law_law_405 : decode b_Law_law 405 = .ok (.iload 4, 2) := by decide +kernel
theorem d_Law_law_407 : decode b_Law_law 407 = .ok (.iconst 2, 1) := by decide +kernel
theorem d_Law_law_408 : decode b_Law_law 408 = .ok (.iadd, 1) := by decide +kernel
theorem d_Law_law_409 : decode b_Law_law 409 = .ok (.iaload, 1) := by decide +kernel
theorem d_Law_law_410 : decode b_Law_law 410 = .ok (.aload_n 0, 1) := by decide +kernel
theorem d_Law_law_411 : decode b_Law_law 411 = .ok (.iload 4, 2) := by decide +kernel
theorem d_Law_law_413 : decode b_Law_law 413 = .ok (.iconst 3, 1) := by decide +kernel
theorem d_Law_law_414 : decode b_Law_law 414 = .ok (.iadd, 1) := by decide +kernel
theorem d_Law_law_415 : decode b_Law_law 415 = .ok (.iaload, 1) := by decide +kernel
theorem d_Law_law_416 : decode b_Law_law 416 = .ok (.invokevirtual 100, 3) := by decide +kernel
theorem d_Law_law_419 : decode b_Law_law 419 = .ok (.istore 6, 2) := by decide +kernel
theorem d_Law_law_421 : decode b_Law_law 421 = .ok (.aload_n 2, 1) := by decide +kernel
theorem d_Law_law_422 : decode b_Law_law 422 = .ok (.invokevirtual 89, 3) := by decide +kernel
theorem d_Law_law_425 : decode b_Law_law 425 = .ok (.iload 5, 2) := by decide +kernel
theorem d_Law_law_427 : decode b_Law_law 427 = .ok (.if_icmp .eq 5, 3) := by decide +kernel
theorem d_Law_law_430 : decode b_Law_law 430 = .ok (.iconst 0, 1) := by decide +kernel
theorem d_Law_law_431 : decode b_Law_law 431 = .ok (.ireturn, 1) := by decide +kernel
theorem d_Law_law_432 : decode b_Law_law 432 = .ok (.iload 5, 2) := by decide +kernel
theorem d_Law_law_434 : decode b_Law_law 434 = .ok (.ifCond .ne 15, 3) := by decide +kernel
theorem d_Law_law_437 : decode b_Law_law 437 = .ok (.aload_n 3, 1) := by decide +kernel
theorem d_Law_law_438 : decode b_Law_law 438 = .ok (.iconst 0, 1) := by decide +kernel
theorem d_Law_law_439 : decode b_Law_law 439 = .ok (.laload, 1) := by decide +kernel
theorem d_Law_law_440 : decode b_Law_law 440 = .ok (.iload 6, 2) := by decide +kernel
theorem d_Law_law_442 : decode b_Law_law 442 = .ok (.i2l, 1) := by decide +kernel
theorem d_Law_law_443 : decode b_Law_law 443 = .ok (.lcmp, 1) := by decide +kernel
theorem d_Law_law_444 : decode b_Law_law 444 = .ok (.ifCond .eq 5, 3) := by decide +kernel
theorem d_Law_law_447 : decode b_Law_law 447 = .ok (.iconst 0, 1) := by decide +kernel
theorem d_Law_law_448 : decode b_Law_law 448 = .ok (.ireturn, 1) := by decide +kernel
theorem d_Law_law_449 : decode b_Law_law 449 = .ok (.goto 1154, 3) := by decide +kernel
theorem d_Law_law_452 : decode b_Law_law 452 = .ok (.aload_n 1, 1) := by decide +kernel
theorem d_Law_law_453 : decode b_Law_law 453 = .ok (.aload_n 0, 1) := by decide +kernel
theorem d_Law_law_454 : decode b_Law_law 454 = .ok (.iload 4, 2) := by decide +kernel
theorem d_Law_law_456 : decode b_Law_law 456 = .ok (.iconst 1, 1) := by decide +kernel
theorem d_Law_law_457 : decode b_Law_law 457 = .ok (.iadd, 1) := by decide +kernel
theorem d_Law_law_458 : decode b_Law_law 458 = .ok (.iaload, 1) := by decide +kernel
theorem d_Law_law_459 : decode b_Law_law 459 = .ok (.aload_n 0, 1) := by decide +kernel
theorem d_Law_law_460 : decode b_Law_law 460 = .ok (.iload 4, 2) := by decide +kernel
theorem d_Law_law_462 : decode b_Law_law 462 = .ok (.iconst 2, 1) := by decide +kernel
theorem d_Law_law_463 : decode b_Law_law 463 = .ok (.iadd, 1) := by decide +kernel
theorem d_Law_law_464 : decode b_Law_law 464 = .ok (.iaload, 1) := by decide +kernel
theorem d_Law_law_465 : decode b_Law_law 465 = .ok (.aload_n 0, 1) := by decide +kernel
theorem d_Law_law_466 : decode b_Law_law 466 = .ok (.iload 4, 2) := by decide +kernel
theorem d_Law_law_468 : decode b_Law_law 468 = .ok (.iconst 3, 1) := by decide +kernel
theorem d_Law_law_469 : decode b_Law_law 469 = .ok (.iadd, 1) := by decide +kernel
theorem d_Law_law_470 : decode b_Law_law 470 = .ok (.iaload, 1) := by decide +kernel
theorem d_Law_law_471 : decode b_Law_law 471 = .ok (.aload_n 0, 1) := by decide +kernel
theorem d_Law_law_472 : decode b_Law_law 472 = .ok (.iload 4, 2) := by decide +kernel
theorem d_Law_law_474 : decode b_Law_law 474 = .ok (.iconst 4, 1) := by decide +kernel
theorem d_Law_law_475 : decode b_Law_law 475 = .ok (.iadd, 1) := by decide +kernel
theorem d_Law_law_476 : decode b_Law_law 476 = .ok (.iaload, 1) := by decide +kernel
theorem d_Law_law_477 : decode b_Law_law 477 = .ok (.aload_n 0, 1) := by decide +kernel
theorem d_Law_law_478 : decode b_Law_law 478 = .ok (.iload 4, 2) := by decide +kernel
theorem d_Law_law_480 : decode b_Law_law 480 = .ok (.iconst 5, 1) := by decide +kernel
theorem d_Law_law_481 : decode b_Law_law 481 = .ok (.iadd, 1) := by decide +kernel
theorem d_Law_law_482 : decode b_Law_law 482 = .ok (.iaload, 1) := by decide +kernel
theorem d_Law_law_483 : decode b_Law_law 483 = .ok (.ifCond .eq 7, 3) := by decide +kernel
theorem d_Law_law_486 : decode b_Law_law 486 = .ok (.iconst 1, 1) := by decide +kernel
theorem d_Law_law_487 : decode b_Law_law 487 = .ok (.goto 4, 3) := by decide +kernel
theorem d_Law_law_490 : decode b_Law_law 490 = .ok (.iconst 0, 1) := by decide +kernel
theorem d_Law_law_491 : decode b_Law_law 491 = .ok (.aload_n 3, 1) := by decide +kernel
theorem d_Law_law_492 : decode b_Law_law 492 = .ok (.invokestatic 101, 3) := by decide +kernel
theorem d_Law_law_495 : decode b_Law_law 495 = .ok (.istore 5, 2) := by decide +kernel
theorem d_Law_law_497 : decode b_Law_law 497 = .ok (.aload_n 2, 1) := by decide +kernel
theorem d_Law_law_498 : decode b_Law_law 498 = .ok (.aload_n 0, 1) := by decide +kernel
theorem d_Law_law_499 : decode b_Law_law 499 = .ok (.iload 4, 2) := by decide +kernel
theorem d_Law_law_501 : decode b_Law_law 501 = .ok (.iconst 1, 1) := by decide +kernel
theorem d_Law_law_502 : decode b_Law_law 502 = .ok (.iadd, 1) := by decide +kernel
theorem d_Law_law_503 : decode b_Law_law 503 = .ok (.iaload, 1) := by decide +kernel
theorem d_Law_law_504 : decode b_Law_law 504 = .ok (.aload_n 0, 1) := by decide +kernel
theorem d_Law_law_505 : decode b_Law_law 505 = .ok (.iload 4, 2) := by decide +kernel
theorem d_Law_law_507 : decode b_Law_law 507 = .ok (.iconst 2, 1) := by decide +kernel
theorem d_Law_law_508 : decode b_Law_law 508 = .ok (.iadd, 1) := by decide +kernel
theorem d_Law_law_509 : decode b_Law_law 509 = .ok (.iaload, 1) := by decide +kernel
theorem d_Law_law_510 : decode b_Law_law 510 = .ok (.aload_n 0, 1) := by decide +kernel
theorem d_Law_law_511 : decode b_Law_law 511 = .ok (.iload 4, 2) := by decide +kernel
theorem d_Law_law_513 : decode b_Law_law 513 = .ok (.iconst 3, 1) := by decide +kernel
theorem d_Law_law_514 : decode b_Law_law 514 = .ok (.iadd, 1) := by decide +kernel
theorem d_Law_law_515 : decode b_Law_law 515 = .ok (.iaload, 1) := by decide +kernel
theorem d_Law_law_516 : decode b_Law_law 516 = .ok (.aload_n 0, 1) := by decide +kernel
theorem d_Law_law_517 : decode b_Law_law 517 = .ok (.iload 4, 2) := by decide +kernel
theorem d_Law_law_519 : decode b_Law_law 519 = .ok (.iconst 4, 1) := by decide +kernel
theorem d_Law_law_520 : decode b_Law_law 520 = .ok (.iadd, 1) := by decide +kernel
theorem d_Law_law_521 : decode b_Law_law 521 = .ok (.iaload, 1) := by decide +kernel
theorem d_Law_law_522 : decode b_Law_law 522 = .ok (.aload_n 0, 1) := by decide +kernel
theorem d_Law_law_523 : decode b_Law_law 523 = .ok (.iload 4, 2) := by decide +kernel
theorem d_Law_law_525 : decode b_Law_law 525 = .ok (.iconst 5, 1) := by decide +kernel
theorem d_Law_law_526 : decode b_Law_law 526 = .ok (.iadd, 1) := by decide +kernel
theorem d_Law_law_527 : decode b_Law_law 527 = .ok (.iaload, 1) := by decide +kernel
theorem d_Law_law_528 : decode b_Law_law 528 = .ok (.ifCond .eq 7, 3) := by decide +kernel
theorem d_Law_law_531 : decode b_Law_law 531 = .ok (.iconst 1, 1) := by decide +kernel
theorem d_Law_law_532 : decode b_Law_law 532 = .ok (.goto 4, 3) := by decide +kernel
theorem d_Law_law_535 : decode b_Law_law 535 = .ok (.iconst 0, 1) := by decide +kernel
theorem d_Law_law_536 : decode b_Law_law 536 = .ok (.invokevirtual 104, 3) := by decide +kernel
theorem d_Law_law_539 : decode b_Law_law 539 = .ok (.istore 6, 2) := by decide +kernel
theorem d_Law_law_541 : decode b_Law_law 541 = .ok (.aload_n 2, 1) := by decide +kernel
theorem d_Law_law_542 : decode b_Law_law 542 = .ok (.invokevirtual 89, 3) := by decide +kernel
theorem d_Law_law_545 : decode b_Law_law 545 = .ok (.iload 5, 2) := by decide +kernel
theorem d_Law_law_547 : decode b_Law_law 547 = .ok (.if_icmp .eq 5, 3) := by decide +kernel
theorem d_Law_law_550 : decode b_Law_law 550 = .ok (.iconst 0, 1) := by decide +kernel
theorem d_Law_law_551 : decode b_Law_law 551 = .ok (.ireturn, 1) := by decide +kernel
theorem d_Law_law_552 : decode b_Law_law 552 = .ok (.iload 5, 2) := by decide +kernel
theorem d_Law_law_554 : decode b_Law_law 554 = .ok (.ifCond .ne 15, 3) := by decide +kernel
theorem d_Law_law_557 : decode b_Law_law 557 = .ok (.aload_n 3, 1) := by decide +kernel
theorem d_Law_law_558 : decode b_Law_law 558 = .ok (.iconst 0, 1) := by decide +kernel
theorem d_Law_law_559 : decode b_Law_law 559 = .ok (.laload, 1) := by decide +kernel
theorem d_Law_law_560 : decode b_Law_law 560 = .ok (.iload 6, 2) := by decide +kernel
theorem d_Law_law_562 : decode b_Law_law 562 = .ok (.i2l, 1) := by decide +kernel
theorem d_Law_law_563 : decode b_Law_law 563 = .ok (.lcmp, 1) := by decide +kernel
theorem d_Law_law_564 : decode b_Law_law 564 = .ok (.ifCond .eq 5, 3) := by decide +kernel
theorem d_Law_law_567 : decode b_Law_law 567 = .ok (.iconst 0, 1) := by decide +kernel
theorem d_Law_law_568 : decode b_Law_law 568 = .ok (.ireturn, 1) := by decide +kernel
theorem d_Law_law_569 : decode b_Law_law 569 = .ok (.goto 1034, 3) := by decide +kernel
theorem d_Law_law_572 : decode b_Law_law 572 = .ok (.aload_n 1, 1) := by decide +kernel
theorem d_Law_law_573 : decode b_Law_law 573 = .ok (.aload_n 0, 1) := by decide +kernel
theorem d_Law_law_574 : decode b_Law_law 574 = .ok (.iload 4, 2) := by decide +kernel
theorem d_Law_law_576 : decode b_Law_law 576 = .ok (.iconst 1, 1) := by decide +kernel
theorem d_Law_law_577 : decode b_Law_law 577 = .ok (.iadd, 1) := by decide +kernel
theorem d_Law_law_578 : decode b_Law_law 578 = .ok (.iaload, 1) := by decide +kernel
theorem d_Law_law_579 : decode b_Law_law 579 = .ok (.aload_n 3, 1) := by decide +kernel
theorem d_Law_law_580 : decode b_Law_law 580 = .ok (.invokestatic 105, 3) := by decide +kernel
theorem d_Law_law_583 : decode b_Law_law 583 = .ok (.istore 5, 2) := by decide +kernel
theorem d_Law_law_585 : decode b_Law_law 585 = .ok (.aload_n 2, 1) := by decide +kernel
theorem d_Law_law_586 : decode b_Law_law 586 = .ok (.aload_n 0, 1) := by decide +kernel
theorem d_Law_law_587 : decode b_Law_law 587 = .ok (.iload 4, 2) := by decide +kernel
theorem d_Law_law_589 : decode b_Law_law 589 = .ok (.iconst 1, 1) := by decide +kernel
theorem d_Law_law_590 : decode b_Law_law 590 = .ok (.iadd, 1) := by decide +kernel
theorem d_Law_law_591 : decode b_Law_law 591 = .ok (.iaload, 1) := by decide +kernel
theorem d_Law_law_592 : decode b_Law_law 592 = .ok (.invokevirtual 108, 3) := by decide +kernel
theorem d_Law_law_595 : decode b_Law_law 595 = .ok (.istore 6, 2) := by decide +kernel
theorem d_Law_law_597 : decode b_Law_law 597 = .ok (.aload_n 2, 1) := by decide +kernel
theorem d_Law_law_598 : decode b_Law_law 598 = .ok (.invokevirtual 89, 3) := by decide +kernel
theorem d_Law_law_601 : decode b_Law_law 601 = .ok (.iload 5, 2) := by decide +kernel
theorem d_Law_law_603 : decode b_Law_law 603 = .ok (.if_icmp .eq 5, 3) := by decide +kernel
theorem d_Law_law_606 : decode b_Law_law 606 = .ok (.iconst 0, 1) := by decide +kernel
theorem d_Law_law_607 : decode b_Law_law 607 = .ok (.ireturn, 1) := by decide +kernel
theorem d_Law_law_608 : decode b_Law_law 608 = .ok (.iload 5, 2) := by decide +kernel
theorem d_Law_law_610 : decode b_Law_law 610 = .ok (.ifCond .ne 15, 3) := by decide +kernel
theorem d_Law_law_613 : decode b_Law_law 613 = .ok (.aload_n 3, 1) := by decide +kernel
theorem d_Law_law_614 : decode b_Law_law 614 = .ok (.iconst 0, 1) := by decide +kernel
theorem d_Law_law_615 : decode b_Law_law 615 = .ok (.laload, 1) := by decide +kernel
theorem d_Law_law_616 : decode b_Law_law 616 = .ok (.iload 6, 2) := by decide +kernel
theorem d_Law_law_618 : decode b_Law_law 618 = .ok (.i2l, 1) := by decide +kernel
theorem d_Law_law_619 : decode b_Law_law 619 = .ok (.lcmp, 1) := by decide +kernel
theorem d_Law_law_620 : decode b_Law_law 620 = .ok (.ifCond .eq 5, 3) := by decide +kernel
theorem d_Law_law_623 : decode b_Law_law 623 = .ok (.iconst 0, 1) := by decide +kernel
theorem d_Law_law_624 : decode b_Law_law 624 = .ok (.ireturn, 1) := by decide +kernel
theorem d_Law_law_625 : decode b_Law_law 625 = .ok (.goto 978, 3) := by decide +kernel
theorem d_Law_law_628 : decode b_Law_law 628 = .ok (.aload_n 1, 1) := by decide +kernel
theorem d_Law_law_629 : decode b_Law_law 629 = .ok (.aload_n 0, 1) := by decide +kernel
theorem d_Law_law_630 : decode b_Law_law 630 = .ok (.iload 4, 2) := by decide +kernel
theorem d_Law_law_632 : decode b_Law_law 632 = .ok (.iconst 1, 1) := by decide +kernel
theorem d_Law_law_633 : decode b_Law_law 633 = .ok (.iadd, 1) := by decide +kernel
theorem d_Law_law_634 : decode b_Law_law 634 = .ok (.iaload, 1) := by decide +kernel
theorem d_Law_law_635 : decode b_Law_law 635 = .ok (.ifCond .eq 7, 3) := by decide +kernel
theorem d_Law_law_638 : decode b_Law_law 638 = .ok (.iconst 1, 1) := by decide +kernel
theorem d_Law_law_639 : decode b_Law_law 639 = .ok (.goto 4, 3) := by decide +kernel
theorem d_Law_law_642 : decode b_Law_law 642 = .ok (.iconst 0, 1) := by decide +kernel
theorem d_Law_law_643 : decode b_Law_law 643 = .ok (.aload_n 3, 1) := by decide +kernel
theorem d_Law_law_644 : decode b_Law_law 644 = .ok (.invokestatic 109, 3) := by decide +kernel
theorem d_Law_law_647 : decode b_Law_law 647 = .ok (.istore 5, 2) := by decide +kernel
theorem d_Law_law_649 : decode b_Law_law 649 = .ok (.aload_n 2, 1) := by decide +kernel
theorem d_Law_law_650 : decode b_Law_law 650 = .ok (.aload_n 0, 1) := by decide +kernel
theorem d_Law_law_651 : decode b_Law_law 651 = .ok (.iload 4, 2) := by decide +kernel
theorem d_Law_law_653 : decode b_Law_law 653 = .ok (.iconst 1, 1) := by decide +kernel
theorem d_Law_law_654 : decode b_Law_law 654 = .ok (.iadd, 1) := by decide +kernel
theorem d_Law_law_655 : decode b_Law_law 655 = .ok (.iaload, 1) := by decide +kernel
theorem d_Law_law_656 : decode b_Law_law 656 = .ok (.ifCond .eq 7, 3) := by decide +kernel
theorem d_Law_law_659 : decode b_Law_law 659 = .ok (.iconst 1, 1) := by decide +kernel
theorem d_Law_law_660 : decode b_Law_law 660 = .ok (.goto 4, 3) := by decide +kernel
theorem d_Law_law_663 : decode b_Law_law 663 = .ok (.iconst 0, 1) := by decide +kernel
theorem d_Law_law_664 : decode b_Law_law 664 = .ok (.invokevirtual 112, 3) := by decide +kernel
theorem d_Law_law_667 : decode b_Law_law 667 = .ok (.istore 6, 2) := by decide +kernel
theorem d_Law_law_669 : decode b_Law_law 669 = .ok (.aload_n 2, 1) := by decide +kernel
theorem d_Law_law_670 : decode b_Law_law 670 = .ok (.invokevirtual 89, 3) := by decide +kernel
theorem d_Law_law_673 : decode b_Law_law 673 = .ok (.iload 5, 2) := by decide +kernel
theorem d_Law_law_675 : decode b_Law_law 675 = .ok (.if_icmp .eq 5, 3) := by decide +kernel
theorem d_Law_law_678 : decode b_Law_law 678 = .ok (.iconst 0, 1) := by decide +kernel
theorem d_Law_law_679 : decode b_Law_law 679 = .ok (.ireturn, 1) := by decide +kernel
theorem d_Law_law_680 : decode b_Law_law 680 = .ok (.iload 5, 2) := by decide +kernel
theorem d_Law_law_682 : decode b_Law_law 682 = .ok (.ifCond .ne 15, 3) := by decide +kernel
theorem d_Law_law_685 : decode b_Law_law 685 = .ok (.aload_n 3, 1) := by decide +kernel
theorem d_Law_law_686 : decode b_Law_law 686 = .ok (.iconst 0, 1) := by decide +kernel
theorem d_Law_law_687 : decode b_Law_law 687 = .ok (.laload, 1) := by decide +kernel
theorem d_Law_law_688 : decode b_Law_law 688 = .ok (.iload 6, 2) := by decide +kernel
theorem d_Law_law_690 : decode b_Law_law 690 = .ok (.i2l, 1) := by decide +kernel
theorem d_Law_law_691 : decode b_Law_law 691 = .ok (.lcmp, 1) := by decide +kernel
theorem d_Law_law_692 : decode b_Law_law 692 = .ok (.ifCond .eq 5, 3) := by decide +kernel
theorem d_Law_law_695 : decode b_Law_law 695 = .ok (.iconst 0, 1) := by decide +kernel
theorem d_Law_law_696 : decode b_Law_law 696 = .ok (.ireturn, 1) := by decide +kernel
theorem d_Law_law_697 : decode b_Law_law 697 = .ok (.goto 906, 3) := by decide +kernel
theorem d_Law_law_700 : decode b_Law_law 700 = .ok (.aload_n 1, 1) := by decide +kernel
theorem d_Law_law_701 : decode b_Law_law 701 = .ok (.aload_n 0, 1) := by decide +kernel
theorem d_Law_law_702 : decode b_Law_law 702 = .ok (.iload 4, 2) := by decide +kernel
theorem d_Law_law_704 : decode b_Law_law 704 = .ok (.iconst 1, 1) := by decide +kernel
theorem d_Law_law_705 : decode b_Law_law 705 = .ok (.iadd, 1) := by decide +kernel
theorem d_Law_law_706 : decode b_Law_law 706 = .ok (.iaload, 1) := by decide +kernel
theorem d_Law_law_707 : decode b_Law_law 707 = .ok (.aload_n 0, 1) := by decide +kernel
theorem d_Law_law_708 : decode b_Law_law 708 = .ok (.iload 4, 2) := by decide +kernel
theorem d_Law_law_710 : decode b_Law_law 710 = .ok (.iconst 2, 1) := by decide +kernel
theorem d_Law_law_711 : decode b_Law_law 711 = .ok (.iadd, 1) := by decide +kernel
theorem d_Law_law_712 : decode b_Law_law 712 = .ok (.iaload, 1) := by decide +kernel
theorem d_Law_law_713 : decode b_Law_law 713 = .ok (.aload_n 3, 1) := by decide +kernel
theorem d_Law_law_714 : decode b_Law_law 714 = .ok (.invokestatic 113, 3) := by decide +kernel
theorem d_Law_law_717 : decode b_Law_law 717 = .ok (.istore 5, 2) := by decide +kernel
theorem d_Law_law_719 : decode b_Law_law 719 = .ok (.aload_n 2, 1) := by decide +kernel
theorem d_Law_law_720 : decode b_Law_law 720 = .ok (.aload_n 0, 1) := by decide +kernel
theorem d_Law_law_721 : decode b_Law_law 721 = .ok (.iload 4, 2) := by decide +kernel
theorem d_Law_law_723 : decode b_Law_law 723 = .ok (.iconst 1, 1) := by decide +kernel
theorem d_Law_law_724 : decode b_Law_law 724 = .ok (.iadd, 1) := by decide +kernel
theorem d_Law_law_725 : decode b_Law_law 725 = .ok (.iaload, 1) := by decide +kernel
theorem d_Law_law_726 : decode b_Law_law 726 = .ok (.aload_n 0, 1) := by decide +kernel
theorem d_Law_law_727 : decode b_Law_law 727 = .ok (.iload 4, 2) := by decide +kernel
theorem d_Law_law_729 : decode b_Law_law 729 = .ok (.iconst 2, 1) := by decide +kernel
theorem d_Law_law_730 : decode b_Law_law 730 = .ok (.iadd, 1) := by decide +kernel
theorem d_Law_law_731 : decode b_Law_law 731 = .ok (.iaload, 1) := by decide +kernel
theorem d_Law_law_732 : decode b_Law_law 732 = .ok (.invokevirtual 116, 3) := by decide +kernel
theorem d_Law_law_735 : decode b_Law_law 735 = .ok (.istore 6, 2) := by decide +kernel
theorem d_Law_law_737 : decode b_Law_law 737 = .ok (.aload_n 2, 1) := by decide +kernel
theorem d_Law_law_738 : decode b_Law_law 738 = .ok (.invokevirtual 89, 3) := by decide +kernel
theorem d_Law_law_741 : decode b_Law_law 741 = .ok (.iload 5, 2) := by decide +kernel
theorem d_Law_law_743 : decode b_Law_law 743 = .ok (.if_icmp .eq 5, 3) := by decide +kernel
theorem d_Law_law_746 : decode b_Law_law 746 = .ok (.iconst 0, 1) := by decide +kernel
theorem d_Law_law_747 : decode b_Law_law 747 = .ok (.ireturn, 1) := by decide +kernel
theorem d_Law_law_748 : decode b_Law_law 748 = .ok (.iload 5, 2) := by decide +kernel
theorem d_Law_law_750 : decode b_Law_law 750 = .ok (.ifCond .ne 15, 3) := by decide +kernel
theorem d_Law_law_753 : decode b_Law_law 753 = .ok (.aload_n 3, 1) := by decide +kernel
theorem d_Law_law_754 : decode b_Law_law 754 = .ok (.iconst 0, 1) := by decide +kernel
theorem d_Law_law_755 : decode b_Law_law 755 = .ok (.laload, 1) := by decide +kernel
theorem d_Law_law_756 : decode b_Law_law 756 = .ok (.iload 6, 2) := by decide +kernel
theorem d_Law_law_758 : decode b_Law_law 758 = .ok (.i2l, 1) := by decide +kernel
theorem d_Law_law_759 : decode b_Law_law 759 = .ok (.lcmp, 1) := by decide +kernel
theorem d_Law_law_760 : decode b_Law_law 760 = .ok (.ifCond .eq 5, 3) := by decide +kernel
theorem d_Law_law_763 : decode b_Law_law 763 = .ok (.iconst 0, 1) := by decide +kernel
theorem d_Law_law_764 : decode b_Law_law 764 = .ok (.ireturn, 1) := by decide +kernel
theorem d_Law_law_765 : decode b_Law_law 765 = .ok (.goto 838, 3) := by decide +kernel
theorem d_Law_law_768 : decode b_Law_law 768 = .ok (.aload_n 1, 1) := by decide +kernel
theorem d_Law_law_769 : decode b_Law_law 769 = .ok (.aload_n 0, 1) := by decide +kernel
theorem d_Law_law_770 : decode b_Law_law 770 = .ok (.iload 4, 2) := by decide +kernel
theorem d_Law_law_772 : decode b_Law_law 772 = .ok (.iconst 1, 1) := by decide +kernel
theorem d_Law_law_773 : decode b_Law_law 773 = .ok (.iadd, 1) := by decide +kernel
theorem d_Law_law_774 : decode b_Law_law 774 = .ok (.iaload, 1) := by decide +kernel
theorem d_Law_law_775 : decode b_Law_law 775 = .ok (.aload_n 0, 1) := by decide +kernel
theorem d_Law_law_776 : decode b_Law_law 776 = .ok (.iload 4, 2) := by decide +kernel
theorem d_Law_law_778 : decode b_Law_law 778 = .ok (.iconst 2, 1) := by decide +kernel
theorem d_Law_law_779 : decode b_Law_law 779 = .ok (.iadd, 1) := by decide +kernel
theorem d_Law_law_780 : decode b_Law_law 780 = .ok (.iaload, 1) := by decide +kernel
theorem d_Law_law_781 : decode b_Law_law 781 = .ok (.aload_n 3, 1) := by decide +kernel
theorem d_Law_law_782 : decode b_Law_law 782 = .ok (.invokestatic 117, 3) := by decide +kernel
theorem d_Law_law_785 : decode b_Law_law 785 = .ok (.istore 5, 2) := by decide +kernel
theorem d_Law_law_787 : decode b_Law_law 787 = .ok (.aload_n 2, 1) := by decide +kernel
theorem d_Law_law_788 : decode b_Law_law 788 = .ok (.aload_n 0, 1) := by decide +kernel
theorem d_Law_law_789 : decode b_Law_law 789 = .ok (.iload 4, 2) := by decide +kernel
theorem d_Law_law_791 : decode b_Law_law 791 = .ok (.iconst 1, 1) := by decide +kernel
theorem d_Law_law_792 : decode b_Law_law 792 = .ok (.iadd, 1) := by decide +kernel
theorem d_Law_law_793 : decode b_Law_law 793 = .ok (.iaload, 1) := by decide +kernel
theorem d_Law_law_794 : decode b_Law_law 794 = .ok (.aload_n 0, 1) := by decide +kernel
theorem d_Law_law_795 : decode b_Law_law 795 = .ok (.iload 4, 2) := by decide +kernel
theorem d_Law_law_797 : decode b_Law_law 797 = .ok (.iconst 2, 1) := by decide +kernel
theorem d_Law_law_798 : decode b_Law_law 798 = .ok (.iadd, 1) := by decide +kernel
theorem d_Law_law_799 : decode b_Law_law 799 = .ok (.iaload, 1) := by decide +kernel
theorem d_Law_law_800 : decode b_Law_law 800 = .ok (.invokevirtual 119, 3) := by decide +kernel
theorem d_Law_law_803 : decode b_Law_law 803 = .ok (.istore 6, 2) := by decide +kernel
theorem d_Law_law_805 : decode b_Law_law 805 = .ok (.aload_n 2, 1) := by decide +kernel
theorem d_Law_law_806 : decode b_Law_law 806 = .ok (.invokevirtual 89, 3) := by decide +kernel
theorem d_Law_law_809 : decode b_Law_law 809 = .ok (.iload 5, 2) := by decide +kernel
theorem d_Law_law_811 : decode b_Law_law 811 = .ok (.if_icmp .eq 5, 3) := by decide +kernel
theorem d_Law_law_814 : decode b_Law_law 814 = .ok (.iconst 0, 1) := by decide +kernel
theorem d_Law_law_815 : decode b_Law_law 815 = .ok (.ireturn, 1) := by decide +kernel
theorem d_Law_law_816 : decode b_Law_law 816 = .ok (.iload 5, 2) := by decide +kernel
theorem d_Law_law_818 : decode b_Law_law 818 = .ok (.ifCond .ne 15, 3) := by decide +kernel
theorem d_Law_law_821 : decode b_Law_law 821 = .ok (.aload_n 3, 1) := by decide +kernel
theorem d_Law_law_822 : decode b_Law_law 822 = .ok (.iconst 0, 1) := by decide +kernel
theorem d_Law_law_823 : decode b_Law_law 823 = .ok (.laload, 1) := by decide +kernel
theorem d_Law_law_824 : decode b_Law_law 824 = .ok (.iload 6, 2) := by decide +kernel
theorem d_Law_law_826 : decode b_Law_law 826 = .ok (.i2l, 1) := by decide +kernel
theorem d_Law_law_827 : decode b_Law_law 827 = .ok (.lcmp, 1) := by decide +kernel
theorem d_Law_law_828 : decode b_Law_law 828 = .ok (.ifCond .eq 5, 3) := by decide +kernel
theorem d_Law_law_831 : decode b_Law_law 831 = .ok (.iconst 0, 1) := by decide +kernel
theorem d_Law_law_832 : decode b_Law_law 832 = .ok (.ireturn, 1) := by decide +kernel
theorem d_Law_law_833 : decode b_Law_law 833 = .ok (.goto 770, 3) := by decide +kernel
theorem d_Law_law_836 : decode b_Law_law 836 = .ok (.aload_n 1, 1) := by decide +kernel
theorem d_Law_law_837 : decode b_Law_law 837 = .ok (.aload_n 0, 1) := by decide +kernel
theorem d_Law_law_838 : decode b_Law_law 838 = .ok (.iload 4, 2) := by decide +kernel
theorem d_Law_law_840 : decode b_Law_law 840 = .ok (.iconst 1, 1) := by decide +kernel
theorem d_Law_law_841 : decode b_Law_law 841 = .ok (.iadd, 1) := by decide +kernel
theorem d_Law_law_842 : decode b_Law_law 842 = .ok (.iaload, 1) := by decide +kernel
theorem d_Law_law_843 : decode b_Law_law 843 = .ok (.aload_n 3, 1) := by decide +kernel
theorem d_Law_law_844 : decode b_Law_law 844 = .ok (.invokestatic 120, 3) := by decide +kernel
theorem d_Law_law_847 : decode b_Law_law 847 = .ok (.istore 5, 2) := by decide +kernel
theorem d_Law_law_849 : decode b_Law_law 849 = .ok (.aload_n 2, 1) := by decide +kernel
theorem d_Law_law_850 : decode b_Law_law 850 = .ok (.aload_n 0, 1) := by decide +kernel
theorem d_Law_law_851 : decode b_Law_law 851 = .ok (.iload 4, 2) := by decide +kernel
theorem d_Law_law_853 : decode b_Law_law 853 = .ok (.iconst 1, 1) := by decide +kernel
theorem d_Law_law_854 : decode b_Law_law 854 = .ok (.iadd, 1) := by decide +kernel
theorem d_Law_law_855 : decode b_Law_law 855 = .ok (.iaload, 1) := by decide +kernel
theorem d_Law_law_856 : decode b_Law_law 856 = .ok (.invokevirtual 122, 3) := by decide +kernel
theorem d_Law_law_859 : decode b_Law_law 859 = .ok (.istore 6, 2) := by decide +kernel
theorem d_Law_law_861 : decode b_Law_law 861 = .ok (.aload_n 2, 1) := by decide +kernel
theorem d_Law_law_862 : decode b_Law_law 862 = .ok (.invokevirtual 89, 3) := by decide +kernel
theorem d_Law_law_865 : decode b_Law_law 865 = .ok (.iload 5, 2) := by decide +kernel
theorem d_Law_law_867 : decode b_Law_law 867 = .ok (.if_icmp .eq 5, 3) := by decide +kernel
theorem d_Law_law_870 : decode b_Law_law 870 = .ok (.iconst 0, 1) := by decide +kernel
theorem d_Law_law_871 : decode b_Law_law 871 = .ok (.ireturn, 1) := by decide +kernel
theorem d_Law_law_872 : decode b_Law_law 872 = .ok (.iload 5, 2) := by decide +kernel
theorem d_Law_law_874 : decode b_Law_law 874 = .ok (.ifCond .ne 15, 3) := by decide +kernel
theorem d_Law_law_877 : decode b_Law_law 877 = .ok (.aload_n 3, 1) := by decide +kernel
theorem d_Law_law_878 : decode b_Law_law 878 = .ok (.iconst 0, 1) := by decide +kernel
theorem d_Law_law_879 : decode b_Law_law 879 = .ok (.laload, 1) := by decide +kernel
theorem d_Law_law_880 : decode b_Law_law 880 = .ok (.iload 6, 2) := by decide +kernel
theorem d_Law_law_882 : decode b_Law_law 882 = .ok (.i2l, 1) := by decide +kernel
theorem d_Law_law_883 : decode b_Law_law 883 = .ok (.lcmp, 1) := by decide +kernel
theorem d_Law_law_884 : decode b_Law_law 884 = .ok (.ifCond .eq 5, 3) := by decide +kernel
theorem d_Law_law_887 : decode b_Law_law 887 = .ok (.iconst 0, 1) := by decide +kernel
theorem d_Law_law_888 : decode b_Law_law 888 = .ok (.ireturn, 1) := by decide +kernel
theorem d_Law_law_889 : decode b_Law_law 889 = .ok (.goto 714, 3) := by decide +kernel
theorem d_Law_law_892 : decode b_Law_law 892 = .ok (.aload_n 1, 1) := by decide +kernel
theorem d_Law_law_893 : decode b_Law_law 893 = .ok (.aload_n 0, 1) := by decide +kernel
theorem d_Law_law_894 : decode b_Law_law 894 = .ok (.iload 4, 2) := by decide +kernel
theorem d_Law_law_896 : decode b_Law_law 896 = .ok (.iconst 1, 1) := by decide +kernel
theorem d_Law_law_897 : decode b_Law_law 897 = .ok (.iadd, 1) := by decide +kernel
theorem d_Law_law_898 : decode b_Law_law 898 = .ok (.iaload, 1) := by decide +kernel
theorem d_Law_law_899 : decode b_Law_law 899 = .ok (.aload_n 3, 1) := by decide +kernel
theorem d_Law_law_900 : decode b_Law_law 900 = .ok (.invokestatic 123, 3) := by decide +kernel
theorem d_Law_law_903 : decode b_Law_law 903 = .ok (.istore 5, 2) := by decide +kernel
theorem d_Law_law_905 : decode b_Law_law 905 = .ok (.aload_n 2, 1) := by decide +kernel
theorem d_Law_law_906 : decode b_Law_law 906 = .ok (.aload_n 0, 1) := by decide +kernel
theorem d_Law_law_907 : decode b_Law_law 907 = .ok (.iload 4, 2) := by decide +kernel
theorem d_Law_law_909 : decode b_Law_law 909 = .ok (.iconst 1, 1) := by decide +kernel
theorem d_Law_law_910 : decode b_Law_law 910 = .ok (.iadd, 1) := by decide +kernel
theorem d_Law_law_911 : decode b_Law_law 911 = .ok (.iaload, 1) := by decide +kernel
theorem d_Law_law_912 : decode b_Law_law 912 = .ok (.invokevirtual 125, 3) := by decide +kernel
theorem d_Law_law_915 : decode b_Law_law 915 = .ok (.istore 6, 2) := by decide +kernel
theorem d_Law_law_917 : decode b_Law_law 917 = .ok (.aload_n 2, 1) := by decide +kernel
theorem d_Law_law_918 : decode b_Law_law 918 = .ok (.invokevirtual 89, 3) := by decide +kernel
theorem d_Law_law_921 : decode b_Law_law 921 = .ok (.iload 5, 2) := by decide +kernel
theorem d_Law_law_923 : decode b_Law_law 923 = .ok (.if_icmp .eq 5, 3) := by decide +kernel
theorem d_Law_law_926 : decode b_Law_law 926 = .ok (.iconst 0, 1) := by decide +kernel
theorem d_Law_law_927 : decode b_Law_law 927 = .ok (.ireturn, 1) := by decide +kernel
theorem d_Law_law_928 : decode b_Law_law 928 = .ok (.iload 5, 2) := by decide +kernel
theorem d_Law_law_930 : decode b_Law_law 930 = .ok (.ifCond .ne 15, 3) := by decide +kernel
theorem d_Law_law_933 : decode b_Law_law 933 = .ok (.aload_n 3, 1) := by decide +kernel
theorem d_Law_law_934 : decode b_Law_law 934 = .ok (.iconst 0, 1) := by decide +kernel
theorem d_Law_law_935 : decode b_Law_law 935 = .ok (.laload, 1) := by decide +kernel
theorem d_Law_law_936 : decode b_Law_law 936 = .ok (.iload 6, 2) := by decide +kernel
theorem d_Law_law_938 : decode b_Law_law 938 = .ok (.i2l, 1) := by decide +kernel
theorem d_Law_law_939 : decode b_Law_law 939 = .ok (.lcmp, 1) := by decide +kernel
theorem d_Law_law_940 : decode b_Law_law 940 = .ok (.ifCond .eq 5, 3) := by decide +kernel
theorem d_Law_law_943 : decode b_Law_law 943 = .ok (.iconst 0, 1) := by decide +kernel
theorem d_Law_law_944 : decode b_Law_law 944 = .ok (.ireturn, 1) := by decide +kernel
theorem d_Law_law_945 : decode b_Law_law 945 = .ok (.goto 658, 3) := by decide +kernel
theorem d_Law_law_948 : decode b_Law_law 948 = .ok (.aload_n 1, 1) := by decide +kernel
theorem d_Law_law_949 : decode b_Law_law 949 = .ok (.aload_n 0, 1) := by decide +kernel
theorem d_Law_law_950 : decode b_Law_law 950 = .ok (.iload 4, 2) := by decide +kernel
theorem d_Law_law_952 : decode b_Law_law 952 = .ok (.iconst 1, 1) := by decide +kernel
theorem d_Law_law_953 : decode b_Law_law 953 = .ok (.iadd, 1) := by decide +kernel
theorem d_Law_law_954 : decode b_Law_law 954 = .ok (.iaload, 1) := by decide +kernel
theorem d_Law_law_955 : decode b_Law_law 955 = .ok (.aload_n 0, 1) := by decide +kernel
theorem d_Law_law_956 : decode b_Law_law 956 = .ok (.iload 4, 2) := by decide +kernel
theorem d_Law_law_958 : decode b_Law_law 958 = .ok (.iconst 2, 1) := by decide +kernel
theorem d_Law_law_959 : decode b_Law_law 959 = .ok (.iadd, 1) := by decide +kernel
theorem d_Law_law_960 : decode b_Law_law 960 = .ok (.iaload, 1) := by decide +kernel
theorem d_Law_law_961 : decode b_Law_law 961 = .ok (.aload_n 3, 1) := by decide +kernel
theorem d_Law_law_962 : decode b_Law_law 962 = .ok (.invokestatic 126, 3) := by decide +kernel
theorem d_Law_law_965 : decode b_Law_law 965 = .ok (.istore 5, 2) := by decide +kernel
theorem d_Law_law_967 : decode b_Law_law 967 = .ok (.aload_n 2, 1) := by decide +kernel
theorem d_Law_law_968 : decode b_Law_law 968 = .ok (.aload_n 0, 1) := by decide +kernel
theorem d_Law_law_969 : decode b_Law_law 969 = .ok (.iload 4, 2) := by decide +kernel
theorem d_Law_law_971 : decode b_Law_law 971 = .ok (.iconst 1, 1) := by decide +kernel
theorem d_Law_law_972 : decode b_Law_law 972 = .ok (.iadd, 1) := by decide +kernel
theorem d_Law_law_973 : decode b_Law_law 973 = .ok (.iaload, 1) := by decide +kernel
theorem d_Law_law_974 : decode b_Law_law 974 = .ok (.aload_n 0, 1) := by decide +kernel
theorem d_Law_law_975 : decode b_Law_law 975 = .ok (.iload 4, 2) := by decide +kernel
theorem d_Law_law_977 : decode b_Law_law 977 = .ok (.iconst 2, 1) := by decide +kernel
theorem d_Law_law_978 : decode b_Law_law 978 = .ok (.iadd, 1) := by decide +kernel
theorem d_Law_law_979 : decode b_Law_law 979 = .ok (.iaload, 1) := by decide +kernel
theorem d_Law_law_980 : decode b_Law_law 980 = .ok (.invokevirtual 128, 3) := by decide +kernel
theorem d_Law_law_983 : decode b_Law_law 983 = .ok (.istore 6, 2) := by decide +kernel
theorem d_Law_law_985 : decode b_Law_law 985 = .ok (.aload_n 2, 1) := by decide +kernel
theorem d_Law_law_986 : decode b_Law_law 986 = .ok (.invokevirtual 89, 3) := by decide +kernel
theorem d_Law_law_989 : decode b_Law_law 989 = .ok (.iload 5, 2) := by decide +kernel
theorem d_Law_law_991 : decode b_Law_law 991 = .ok (.if_icmp .eq 5, 3) := by decide +kernel
theorem d_Law_law_994 : decode b_Law_law 994 = .ok (.iconst 0, 1) := by decide +kernel
theorem d_Law_law_995 : decode b_Law_law 995 = .ok (.ireturn, 1) := by decide +kernel
theorem d_Law_law_996 : decode b_Law_law 996 = .ok (.iload 5, 2) := by decide +kernel
theorem d_Law_law_998 : decode b_Law_law 998 = .ok (.ifCond .ne 15, 3) := by decide +kernel
theorem d_Law_law_1001 : decode b_Law_law 1001 = .ok (.aload_n 3, 1) := by decide +kernel
theorem d_Law_law_1002 : decode b_Law_law 1002 = .ok (.iconst 0, 1) := by decide +kernel
theorem d_Law_law_1003 : decode b_Law_law 1003 = .ok (.laload, 1) := by decide +kernel
theorem d_Law_law_1004 : decode b_Law_law 1004 = .ok (.iload 6, 2) := by decide +kernel
theorem d_Law_law_1006 : decode b_Law_law 1006 = .ok (.i2l, 1) := by decide +kernel
theorem d_Law_law_1007 : decode b_Law_law 1007 = .ok (.lcmp, 1) := by decide +kernel
theorem d_Law_law_1008 : decode b_Law_law 1008 = .ok (.ifCond .eq 5, 3) := by decide +kernel
theorem d_Law_law_1011 : decode b_Law_law 1011 = .ok (.iconst 0, 1) := by decide +kernel
theorem d_Law_law_1012 : decode b_Law_law 1012 = .ok (.ireturn, 1) := by decide +kernel
theorem d_Law_law_1013 : decode b_Law_law 1013 = .ok (.goto 590, 3) := by decide +kernel
theorem d_Law_law_1016 : decode b_Law_law 1016 = .ok (.aload_n 1, 1) := by decide +kernel
theorem d_Law_law_1017 : decode b_Law_law 1017 = .ok (.aload_n 0, 1) := by decide +kernel
theorem d_Law_law_1018 : decode b_Law_law 1018 = .ok (.iload 4, 2) := by decide +kernel
theorem d_Law_law_1020 : decode b_Law_law 1020 = .ok (.iconst 1, 1) := by decide +kernel
theorem d_Law_law_1021 : decode b_Law_law 1021 = .ok (.iadd, 1) := by decide +kernel
theorem d_Law_law_1022 : decode b_Law_law 1022 = .ok (.iaload, 1) := by decide +kernel
theorem d_Law_law_1023 : decode b_Law_law 1023 = .ok (.aload_n 0, 1) := by decide +kernel
theorem d_Law_law_1024 : decode b_Law_law 1024 = .ok (.iload 4, 2) := by decide +kernel
theorem d_Law_law_1026 : decode b_Law_law 1026 = .ok (.iconst 2, 1) := by decide +kernel
theorem d_Law_law_1027 : decode b_Law_law 1027 = .ok (.iadd, 1) := by decide +kernel
theorem d_Law_law_1028 : decode b_Law_law 1028 = .ok (.iaload, 1) := by decide +kernel
theorem d_Law_law_1029 : decode b_Law_law 1029 = .ok (.aload_n 3, 1) := by decide +kernel
theorem d_Law_law_1030 : decode b_Law_law 1030 = .ok (.invokestatic 129, 3) := by decide +kernel
theorem d_Law_law_1033 : decode b_Law_law 1033 = .ok (.istore 5, 2) := by decide +kernel
theorem d_Law_law_1035 : decode b_Law_law 1035 = .ok (.aload_n 2, 1) := by decide +kernel
theorem d_Law_law_1036 : decode b_Law_law 1036 = .ok (.aload_n 0, 1) := by decide +kernel
theorem d_Law_law_1037 : decode b_Law_law 1037 = .ok (.iload 4, 2) := by decide +kernel
theorem d_Law_law_1039 : decode b_Law_law 1039 = .ok (.iconst 1, 1) := by decide +kernel
theorem d_Law_law_1040 : decode b_Law_law 1040 = .ok (.iadd, 1) := by decide +kernel
theorem d_Law_law_1041 : decode b_Law_law 1041 = .ok (.iaload, 1) := by decide +kernel
theorem d_Law_law_1042 : decode b_Law_law 1042 = .ok (.aload_n 0, 1) := by decide +kernel
theorem d_Law_law_1043 : decode b_Law_law 1043 = .ok (.iload 4, 2) := by decide +kernel
theorem d_Law_law_1045 : decode b_Law_law 1045 = .ok (.iconst 2, 1) := by decide +kernel
theorem d_Law_law_1046 : decode b_Law_law 1046 = .ok (.iadd, 1) := by decide +kernel
theorem d_Law_law_1047 : decode b_Law_law 1047 = .ok (.iaload, 1) := by decide +kernel
theorem d_Law_law_1048 : decode b_Law_law 1048 = .ok (.invokevirtual 131, 3) := by decide +kernel
theorem d_Law_law_1051 : decode b_Law_law 1051 = .ok (.istore 6, 2) := by decide +kernel
theorem d_Law_law_1053 : decode b_Law_law 1053 = .ok (.aload_n 2, 1) := by decide +kernel
theorem d_Law_law_1054 : decode b_Law_law 1054 = .ok (.invokevirtual 89, 3) := by decide +kernel
theorem d_Law_law_1057 : decode b_Law_law 1057 = .ok (.iload 5, 2) := by decide +kernel
theorem d_Law_law_1059 : decode b_Law_law 1059 = .ok (.if_icmp .eq 5, 3) := by decide +kernel
theorem d_Law_law_1062 : decode b_Law_law 1062 = .ok (.iconst 0, 1) := by decide +kernel
theorem d_Law_law_1063 : decode b_Law_law 1063 = .ok (.ireturn, 1) := by decide +kernel
theorem d_Law_law_1064 : decode b_Law_law 1064 = .ok (.iload 5, 2) := by decide +kernel
theorem d_Law_law_1066 : decode b_Law_law 1066 = .ok (.ifCond .ne 15, 3) := by decide +kernel
theorem d_Law_law_1069 : decode b_Law_law 1069 = .ok (.aload_n 3, 1) := by decide +kernel
theorem d_Law_law_1070 : decode b_Law_law 1070 = .ok (.iconst 0, 1) := by decide +kernel
theorem d_Law_law_1071 : decode b_Law_law 1071 = .ok (.laload, 1) := by decide +kernel
theorem d_Law_law_1072 : decode b_Law_law 1072 = .ok (.iload 6, 2) := by decide +kernel
theorem d_Law_law_1074 : decode b_Law_law 1074 = .ok (.i2l, 1) := by decide +kernel
theorem d_Law_law_1075 : decode b_Law_law 1075 = .ok (.lcmp, 1) := by decide +kernel
theorem d_Law_law_1076 : decode b_Law_law 1076 = .ok (.ifCond .eq 5, 3) := by decide +kernel
theorem d_Law_law_1079 : decode b_Law_law 1079 = .ok (.iconst 0, 1) := by decide +kernel
theorem d_Law_law_1080 : decode b_Law_law 1080 = .ok (.ireturn, 1) := by decide +kernel
theorem d_Law_law_1081 : decode b_Law_law 1081 = .ok (.goto 522, 3) := by decide +kernel
theorem d_Law_law_1084 : decode b_Law_law 1084 = .ok (.aload_n 1, 1) := by decide +kernel
theorem d_Law_law_1085 : decode b_Law_law 1085 = .ok (.aload_n 0, 1) := by decide +kernel
theorem d_Law_law_1086 : decode b_Law_law 1086 = .ok (.iload 4, 2) := by decide +kernel
theorem d_Law_law_1088 : decode b_Law_law 1088 = .ok (.iconst 1, 1) := by decide +kernel
theorem d_Law_law_1089 : decode b_Law_law 1089 = .ok (.iadd, 1) := by decide +kernel
theorem d_Law_law_1090 : decode b_Law_law 1090 = .ok (.iaload, 1) := by decide +kernel
theorem d_Law_law_1091 : decode b_Law_law 1091 = .ok (.aload_n 0, 1) := by decide +kernel
theorem d_Law_law_1092 : decode b_Law_law 1092 = .ok (.iload 4, 2) := by decide +kernel
theorem d_Law_law_1094 : decode b_Law_law 1094 = .ok (.iconst 2, 1) := by decide +kernel
theorem d_Law_law_1095 : decode b_Law_law 1095 = .ok (.iadd, 1) := by decide +kernel
theorem d_Law_law_1096 : decode b_Law_law 1096 = .ok (.iaload, 1) := by decide +kernel
theorem d_Law_law_1097 : decode b_Law_law 1097 = .ok (.aload_n 3, 1) := by decide +kernel
theorem d_Law_law_1098 : decode b_Law_law 1098 = .ok (.invokestatic 132, 3) := by decide +kernel
theorem d_Law_law_1101 : decode b_Law_law 1101 = .ok (.istore 5, 2) := by decide +kernel
theorem d_Law_law_1103 : decode b_Law_law 1103 = .ok (.aload_n 2, 1) := by decide +kernel
theorem d_Law_law_1104 : decode b_Law_law 1104 = .ok (.aload_n 0, 1) := by decide +kernel
theorem d_Law_law_1105 : decode b_Law_law 1105 = .ok (.iload 4, 2) := by decide +kernel
theorem d_Law_law_1107 : decode b_Law_law 1107 = .ok (.iconst 1, 1) := by decide +kernel
theorem d_Law_law_1108 : decode b_Law_law 1108 = .ok (.iadd, 1) := by decide +kernel
theorem d_Law_law_1109 : decode b_Law_law 1109 = .ok (.iaload, 1) := by decide +kernel
theorem d_Law_law_1110 : decode b_Law_law 1110 = .ok (.aload_n 0, 1) := by decide +kernel
theorem d_Law_law_1111 : decode b_Law_law 1111 = .ok (.iload 4, 2) := by decide +kernel
theorem d_Law_law_1113 : decode b_Law_law 1113 = .ok (.iconst 2, 1) := by decide +kernel
theorem d_Law_law_1114 : decode b_Law_law 1114 = .ok (.iadd, 1) := by decide +kernel
theorem d_Law_law_1115 : decode b_Law_law 1115 = .ok (.iaload, 1) := by decide +kernel
theorem d_Law_law_1116 : decode b_Law_law 1116 = .ok (.invokevirtual 134, 3) := by decide +kernel
theorem d_Law_law_1119 : decode b_Law_law 1119 = .ok (.istore 6, 2) := by decide +kernel
theorem d_Law_law_1121 : decode b_Law_law 1121 = .ok (.aload_n 2, 1) := by decide +kernel
theorem d_Law_law_1122 : decode b_Law_law 1122 = .ok (.invokevirtual 89, 3) := by decide +kernel
theorem d_Law_law_1125 : decode b_Law_law 1125 = .ok (.iload 5, 2) := by decide +kernel
theorem d_Law_law_1127 : decode b_Law_law 1127 = .ok (.if_icmp .eq 5, 3) := by decide +kernel
theorem d_Law_law_1130 : decode b_Law_law 1130 = .ok (.iconst 0, 1) := by decide +kernel
theorem d_Law_law_1131 : decode b_Law_law 1131 = .ok (.ireturn, 1) := by decide +kernel
theorem d_Law_law_1132 : decode b_Law_law 1132 = .ok (.iload 5, 2) := by decide +kernel
theorem d_Law_law_1134 : decode b_Law_law 1134 = .ok (.ifCond .ne 15, 3) := by decide +kernel
theorem d_Law_law_1137 : decode b_Law_law 1137 = .ok (.aload_n 3, 1) := by decide +kernel
theorem d_Law_law_1138 : decode b_Law_law 1138 = .ok (.iconst 0, 1) := by decide +kernel
theorem d_Law_law_1139 : decode b_Law_law 1139 = .ok (.laload, 1) := by decide +kernel
theorem d_Law_law_1140 : decode b_Law_law 1140 = .ok (.iload 6, 2) := by decide +kernel
theorem d_Law_law_1142 : decode b_Law_law 1142 = .ok (.i2l, 1) := by decide +kernel
theorem d_Law_law_1143 : decode b_Law_law 1143 = .ok (.lcmp, 1) := by decide +kernel
theorem d_Law_law_1144 : decode b_Law_law 1144 = .ok (.ifCond .eq 5, 3) := by decide +kernel
theorem d_Law_law_1147 : decode b_Law_law 1147 = .ok (.iconst 0, 1) := by decide +kernel
theorem d_Law_law_1148 : decode b_Law_law 1148 = .ok (.ireturn, 1) := by decide +kernel
theorem d_Law_law_1149 : decode b_Law_law 1149 = .ok (.goto 454, 3) := by decide +kernel
theorem d_Law_law_1152 : decode b_Law_law 1152 = .ok (.aload_n 1, 1) := by decide +kernel
theorem d_Law_law_1153 : decode b_Law_law 1153 = .ok (.aload_n 0, 1) := by decide +kernel
theorem d_Law_law_1154 : decode b_Law_law 1154 = .ok (.iload 4, 2) := by decide +kernel
theorem d_Law_law_1156 : decode b_Law_law 1156 = .ok (.iconst 1, 1) := by decide +kernel
theorem d_Law_law_1157 : decode b_Law_law 1157 = .ok (.iadd, 1) := by decide +kernel
theorem d_Law_law_1158 : decode b_Law_law 1158 = .ok (.iaload, 1) := by decide +kernel
theorem d_Law_law_1159 : decode b_Law_law 1159 = .ok (.aload_n 0, 1) := by decide +kernel
theorem d_Law_law_1160 : decode b_Law_law 1160 = .ok (.iload 4, 2) := by decide +kernel
theorem d_Law_law_1162 : decode b_Law_law 1162 = .ok (.iconst 2, 1) := by decide +kernel
theorem d_Law_law_1163 : decode b_Law_law 1163 = .ok (.iadd, 1) := by decide +kernel
theorem d_Law_law_1164 : decode b_Law_law 1164 = .ok (.iaload, 1) := by decide +kernel
theorem d_Law_law_1165 : decode b_Law_law 1165 = .ok (.aload_n 3, 1) := by decide +kernel
theorem d_Law_law_1166 : decode b_Law_law 1166 = .ok (.invokestatic 135, 3) := by decide +kernel
theorem d_Law_law_1169 : decode b_Law_law 1169 = .ok (.istore 5, 2) := by decide +kernel
theorem d_Law_law_1171 : decode b_Law_law 1171 = .ok (.aload_n 2, 1) := by decide +kernel
theorem d_Law_law_1172 : decode b_Law_law 1172 = .ok (.aload_n 0, 1) := by decide +kernel
theorem d_Law_law_1173 : decode b_Law_law 1173 = .ok (.iload 4, 2) := by decide +kernel
theorem d_Law_law_1175 : decode b_Law_law 1175 = .ok (.iconst 1, 1) := by decide +kernel
theorem d_Law_law_1176 : decode b_Law_law 1176 = .ok (.iadd, 1) := by decide +kernel
theorem d_Law_law_1177 : decode b_Law_law 1177 = .ok (.iaload, 1) := by decide +kernel
theorem d_Law_law_1178 : decode b_Law_law 1178 = .ok (.aload_n 0, 1) := by decide +kernel
theorem d_Law_law_1179 : decode b_Law_law 1179 = .ok (.iload 4, 2) := by decide +kernel
theorem d_Law_law_1181 : decode b_Law_law 1181 = .ok (.iconst 2, 1) := by decide +kernel
theorem d_Law_law_1182 : decode b_Law_law 1182 = .ok (.iadd, 1) := by decide +kernel
theorem d_Law_law_1183 : decode b_Law_law 1183 = .ok (.iaload, 1) := by decide +kernel
theorem d_Law_law_1184 : decode b_Law_law 1184 = .ok (.invokevirtual 137, 3) := by decide +kernel
theorem d_Law_law_1187 : decode b_Law_law 1187 = .ok (.istore 6, 2) := by decide +kernel
theorem d_Law_law_1189 : decode b_Law_law 1189 = .ok (.aload_n 2, 1) := by decide +kernel
theorem d_Law_law_1190 : decode b_Law_law 1190 = .ok (.invokevirtual 89, 3) := by decide +kernel
theorem d_Law_law_1193 : decode b_Law_law 1193 = .ok (.iload 5, 2) := by decide +kernel
theorem d_Law_law_1195 : decode b_Law_law 1195 = .ok (.if_icmp .eq 5, 3) := by decide +kernel
theorem d_Law_law_1198 : decode b_Law_law 1198 = .ok (.iconst 0, 1) := by decide +kernel
theorem d_Law_law_1199 : decode b_Law_law 1199 = .ok (.ireturn, 1) := by decide +kernel
theorem d_Law_law_1200 : decode b_Law_law 1200 = .ok (.iload 5, 2) := by decide +kernel
theorem d_Law_law_1202 : decode b_Law_law 1202 = .ok (.ifCond .ne 15, 3) := by decide +kernel
theorem d_Law_law_1205 : decode b_Law_law 1205 = .ok (.aload_n 3, 1) := by decide +kernel
theorem d_Law_law_1206 : decode b_Law_law 1206 = .ok (.iconst 0, 1) := by decide +kernel
theorem d_Law_law_1207 : decode b_Law_law 1207 = .ok (.laload, 1) := by decide +kernel
theorem d_Law_law_1208 : decode b_Law_law 1208 = .ok (.iload 6, 2) := by decide +kernel
theorem d_Law_law_1210 : decode b_Law_law 1210 = .ok (.i2l, 1) := by decide +kernel
theorem d_Law_law_1211 : decode b_Law_law 1211 = .ok (.lcmp, 1) := by decide +kernel
theorem d_Law_law_1212 : decode b_Law_law 1212 = .ok (.ifCond .eq 5, 3) := by decide +kernel
theorem d_Law_law_1215 : decode b_Law_law 1215 = .ok (.iconst 0, 1) := by decide +kernel
theorem d_Law_law_1216 : decode b_Law_law 1216 = .ok (.ireturn, 1) := by decide +kernel
theorem d_Law_law_1217 : decode b_Law_law 1217 = .ok (.goto 386, 3) := by decide +kernel
theorem d_Law_law_1220 : decode b_Law_law 1220 = .ok (.aload_n 1, 1) := by decide +kernel
theorem d_Law_law_1221 : decode b_Law_law 1221 = .ok (.aload_n 0, 1) := by decide +kernel
theorem d_Law_law_1222 : decode b_Law_law 1222 = .ok (.iload 4, 2) := by decide +kernel
theorem d_Law_law_1224 : decode b_Law_law 1224 = .ok (.iconst 1, 1) := by decide +kernel
theorem d_Law_law_1225 : decode b_Law_law 1225 = .ok (.iadd, 1) := by decide +kernel
theorem d_Law_law_1226 : decode b_Law_law 1226 = .ok (.iaload, 1) := by decide +kernel
theorem d_Law_law_1227 : decode b_Law_law 1227 = .ok (.aload_n 3, 1) := by decide +kernel
theorem d_Law_law_1228 : decode b_Law_law 1228 = .ok (.invokestatic 138, 3) := by decide +kernel
theorem d_Law_law_1231 : decode b_Law_law 1231 = .ok (.istore 5, 2) := by decide +kernel
theorem d_Law_law_1233 : decode b_Law_law 1233 = .ok (.aload_n 2, 1) := by decide +kernel
theorem d_Law_law_1234 : decode b_Law_law 1234 = .ok (.aload_n 0, 1) := by decide +kernel
theorem d_Law_law_1235 : decode b_Law_law 1235 = .ok (.iload 4, 2) := by decide +kernel
theorem d_Law_law_1237 : decode b_Law_law 1237 = .ok (.iconst 1, 1) := by decide +kernel
theorem d_Law_law_1238 : decode b_Law_law 1238 = .ok (.iadd, 1) := by decide +kernel
theorem d_Law_law_1239 : decode b_Law_law 1239 = .ok (.iaload, 1) := by decide +kernel
theorem d_Law_law_1240 : decode b_Law_law 1240 = .ok (.invokevirtual 140, 3) := by decide +kernel
theorem d_Law_law_1243 : decode b_Law_law 1243 = .ok (.istore 6, 2) := by decide +kernel
theorem d_Law_law_1245 : decode b_Law_law 1245 = .ok (.aload_n 2, 1) := by decide +kernel
theorem d_Law_law_1246 : decode b_Law_law 1246 = .ok (.invokevirtual 89, 3) := by decide +kernel
theorem d_Law_law_1249 : decode b_Law_law 1249 = .ok (.iload 5, 2) := by decide +kernel
theorem d_Law_law_1251 : decode b_Law_law 1251 = .ok (.if_icmp .eq 5, 3) := by decide +kernel
theorem d_Law_law_1254 : decode b_Law_law 1254 = .ok (.iconst 0, 1) := by decide +kernel
theorem d_Law_law_1255 : decode b_Law_law 1255 = .ok (.ireturn, 1) := by decide +kernel
theorem d_Law_law_1256 : decode b_Law_law 1256 = .ok (.iload 5, 2) := by decide +kernel
theorem d_Law_law_1258 : decode b_Law_law 1258 = .ok (.ifCond .ne 15, 3) := by decide +kernel
theorem d_Law_law_1261 : decode b_Law_law 1261 = .ok (.aload_n 3, 1) := by decide +kernel
theorem d_Law_law_1262 : decode b_Law_law 1262 = .ok (.iconst 0, 1) := by decide +kernel
theorem d_Law_law_1263 : decode b_Law_law 1263 = .ok (.laload, 1) := by decide +kernel
theorem d_Law_law_1264 : decode b_Law_law 1264 = .ok (.iload 6, 2) := by decide +kernel
theorem d_Law_law_1266 : decode b_Law_law 1266 = .ok (.i2l, 1) := by decide +kernel
theorem d_Law_law_1267 : decode b_Law_law 1267 = .ok (.lcmp, 1) := by decide +kernel
theorem d_Law_law_1268 : decode b_Law_law 1268 = .ok (.ifCond .eq 5, 3) := by decide +kernel
theorem d_Law_law_1271 : decode b_Law_law 1271 = .ok (.iconst 0, 1) := by decide +kernel
theorem d_Law_law_1272 : decode b_Law_law 1272 = .ok (.ireturn, 1) := by decide +kernel
theorem d_Law_law_1273 : decode b_Law_law 1273 = .ok (.goto 330, 3) := by decide +kernel
theorem d_Law_law_1276 : decode b_Law_law 1276 = .ok (.aload_n 1, 1) := by decide +kernel
theorem d_Law_law_1277 : decode b_Law_law 1277 = .ok (.aload_n 0, 1) := by decide +kernel
theorem d_Law_law_1278 : decode b_Law_law 1278 = .ok (.iload 4, 2) := by decide +kernel
theorem d_Law_law_1280 : decode b_Law_law 1280 = .ok (.iconst 1, 1) := by decide +kernel
theorem d_Law_law_1281 : decode b_Law_law 1281 = .ok (.iadd, 1) := by decide +kernel
theorem d_Law_law_1282 : decode b_Law_law 1282 = .ok (.iaload, 1) := by decide +kernel
theorem d_Law_law_1283 : decode b_Law_law 1283 = .ok (.aload_n 0, 1) := by decide +kernel
theorem d_Law_law_1284 : decode b_Law_law 1284 = .ok (.iload 4, 2) := by decide +kernel
theorem d_Law_law_1286 : decode b_Law_law 1286 = .ok (.iconst 2, 1) := by decide +kernel
theorem d_Law_law_1287 : decode b_Law_law 1287 = .ok (.iadd, 1) := by decide +kernel
theorem d_Law_law_1288 : decode b_Law_law 1288 = .ok (.iaload, 1) := by decide +kernel
theorem d_Law_law_1289 : decode b_Law_law 1289 = .ok (.aload_n 3, 1) := by decide +kernel
theorem d_Law_law_1290 : decode b_Law_law 1290 = .ok (.invokestatic 141, 3) := by decide +kernel
theorem d_Law_law_1293 : decode b_Law_law 1293 = .ok (.istore 5, 2) := by decide +kernel
theorem d_Law_law_1295 : decode b_Law_law 1295 = .ok (.aload_n 2, 1) := by decide +kernel
theorem d_Law_law_1296 : decode b_Law_law 1296 = .ok (.aload_n 0, 1) := by decide +kernel
theorem d_Law_law_1297 : decode b_Law_law 1297 = .ok (.iload 4, 2) := by decide +kernel
theorem d_Law_law_1299 : decode b_Law_law 1299 = .ok (.iconst 1, 1) := by decide +kernel
theorem d_Law_law_1300 : decode b_Law_law 1300 = .ok (.iadd, 1) := by decide +kernel
theorem d_Law_law_1301 : decode b_Law_law 1301 = .ok (.iaload, 1) := by decide +kernel
theorem d_Law_law_1302 : decode b_Law_law 1302 = .ok (.aload_n 0, 1) := by decide +kernel
theorem d_Law_law_1303 : decode b_Law_law 1303 = .ok (.iload 4, 2) := by decide +kernel
theorem d_Law_law_1305 : decode b_Law_law 1305 = .ok (.iconst 2, 1) := by decide +kernel
theorem d_Law_law_1306 : decode b_Law_law 1306 = .ok (.iadd, 1) := by decide +kernel
theorem d_Law_law_1307 : decode b_Law_law 1307 = .ok (.iaload, 1) := by decide +kernel
theorem d_Law_law_1308 : decode b_Law_law 1308 = .ok (.invokevirtual 143, 3) := by decide +kernel
theorem d_Law_law_1311 : decode b_Law_law 1311 = .ok (.istore 6, 2) := by decide +kernel
theorem d_Law_law_1313 : decode b_Law_law 1313 = .ok (.aload_n 2, 1) := by decide +kernel
theorem d_Law_law_1314 : decode b_Law_law 1314 = .ok (.invokevirtual 89, 3) := by decide +kernel
theorem d_Law_law_1317 : decode b_Law_law 1317 = .ok (.iload 5, 2) := by decide +kernel
theorem d_Law_law_1319 : decode b_Law_law 1319 = .ok (.if_icmp .eq 5, 3) := by decide +kernel
theorem d_Law_law_1322 : decode b_Law_law 1322 = .ok (.iconst 0, 1) := by decide +kernel
theorem d_Law_law_1323 : decode b_Law_law 1323 = .ok (.ireturn, 1) := by decide +kernel
theorem d_Law_law_1324 : decode b_Law_law 1324 = .ok (.iload 5, 2) := by decide +kernel
theorem d_Law_law_1326 : decode b_Law_law 1326 = .ok (.ifCond .ne 15, 3) := by decide +kernel
theorem d_Law_law_1329 : decode b_Law_law 1329 = .ok (.aload_n 3, 1) := by decide +kernel
theorem d_Law_law_1330 : decode b_Law_law 1330 = .ok (.iconst 0, 1) := by decide +kernel
theorem d_Law_law_1331 : decode b_Law_law 1331 = .ok (.laload, 1) := by decide +kernel
theorem d_Law_law_1332 : decode b_Law_law 1332 = .ok (.iload 6, 2) := by decide +kernel
theorem d_Law_law_1334 : decode b_Law_law 1334 = .ok (.i2l, 1) := by decide +kernel
theorem d_Law_law_1335 : decode b_Law_law 1335 = .ok (.lcmp, 1) := by decide +kernel
theorem d_Law_law_1336 : decode b_Law_law 1336 = .ok (.ifCond .eq 5, 3) := by decide +kernel
theorem d_Law_law_1339 : decode b_Law_law 1339 = .ok (.iconst 0, 1) := by decide +kernel
theorem d_Law_law_1340 : decode b_Law_law 1340 = .ok (.ireturn, 1) := by decide +kernel
theorem d_Law_law_1341 : decode b_Law_law 1341 = .ok (.goto 262, 3) := by decide +kernel
theorem d_Law_law_1344 : decode b_Law_law 1344 = .ok (.aload_n 1, 1) := by decide +kernel
theorem d_Law_law_1345 : decode b_Law_law 1345 = .ok (.invokevirtual 144, 3) := by decide +kernel
theorem d_Law_law_1348 : decode b_Law_law 1348 = .ok (.dstore 5, 2) := by decide +kernel
theorem d_Law_law_1350 : decode b_Law_law 1350 = .ok (.aload_n 2, 1) := by decide +kernel
theorem d_Law_law_1351 : decode b_Law_law 1351 = .ok (.invokevirtual 148, 3) := by decide +kernel
theorem d_Law_law_1354 : decode b_Law_law 1354 = .ok (.dstore 7, 2) := by decide +kernel
theorem d_Law_law_1356 : decode b_Law_law 1356 = .ok (.dload 5, 2) := by decide +kernel
theorem d_Law_law_1358 : decode b_Law_law 1358 = .ok (.dload 7, 2) := by decide +kernel
theorem d_Law_law_1360 : decode b_Law_law 1360 = .ok (.dcmp .l, 1) := by decide +kernel
theorem d_Law_law_1361 : decode b_Law_law 1361 = .ok (.ifCond .eq 21, 3) := by decide +kernel
theorem d_Law_law_1364 : decode b_Law_law 1364 = .ok (.dload 5, 2) := by decide +kernel
theorem d_Law_law_1366 : decode b_Law_law 1366 = .ok (.dload 5, 2) := by decide +kernel
theorem d_Law_law_1368 : decode b_Law_law 1368 = .ok (.dcmp .l, 1) := by decide +kernel
theorem d_Law_law_1369 : decode b_Law_law 1369 = .ok (.ifCond .eq 11, 3) := by decide +kernel
theorem d_Law_law_1372 : decode b_Law_law 1372 = .ok (.dload 7, 2) := by decide +kernel
theorem d_Law_law_1374 : decode b_Law_law 1374 = .ok (.dload 7, 2) := by decide +kernel
theorem d_Law_law_1376 : decode b_Law_law 1376 = .ok (.dcmp .l, 1) := by decide +kernel
theorem d_Law_law_1377 : decode b_Law_law 1377 = .ok (.ifCond .ne 5, 3) := by decide +kernel
theorem d_Law_law_1380 : decode b_Law_law 1380 = .ok (.iconst 0, 1) := by decide +kernel
theorem d_Law_law_1381 : decode b_Law_law 1381 = .ok (.ireturn, 1) := by decide +kernel
theorem d_Law_law_1382 : decode b_Law_law 1382 = .ok (.goto 221, 3) := by decide +kernel
theorem d_Law_law_1385 : decode b_Law_law 1385 = .ok (.aload_n 1, 1) := by decide +kernel
theorem d_Law_law_1386 : decode b_Law_law 1386 = .ok (.aload_n 0, 1) := by decide +kernel
theorem d_Law_law_1387 : decode b_Law_law 1387 = .ok (.iload 4, 2) := by decide +kernel
theorem d_Law_law_1389 : decode b_Law_law 1389 = .ok (.iconst 1, 1) := by decide +kernel
theorem d_Law_law_1390 : decode b_Law_law 1390 = .ok (.iadd, 1) := by decide +kernel
theorem d_Law_law_1391 : decode b_Law_law 1391 = .ok (.iaload, 1) := by decide +kernel
theorem d_Law_law_1392 : decode b_Law_law 1392 = .ok (.aload_n 0, 1) := by decide +kernel
theorem d_Law_law_1393 : decode b_Law_law 1393 = .ok (.iload 4, 2) := by decide +kernel
theorem d_Law_law_1395 : decode b_Law_law 1395 = .ok (.iconst 2, 1) := by decide +kernel
theorem d_Law_law_1396 : decode b_Law_law 1396 = .ok (.iadd, 1) := by decide +kernel
theorem d_Law_law_1397 : decode b_Law_law 1397 = .ok (.iaload, 1) := by decide +kernel
theorem d_Law_law_1398 : decode b_Law_law 1398 = .ok (.aload_n 3, 1) := by decide +kernel
theorem d_Law_law_1399 : decode b_Law_law 1399 = .ok (.invokestatic 149, 3) := by decide +kernel
theorem d_Law_law_1402 : decode b_Law_law 1402 = .ok (.istore 5, 2) := by decide +kernel
theorem d_Law_law_1404 : decode b_Law_law 1404 = .ok (.aload_n 2, 1) := by decide +kernel
theorem d_Law_law_1405 : decode b_Law_law 1405 = .ok (.aload_n 0, 1) := by decide +kernel
theorem d_Law_law_1406 : decode b_Law_law 1406 = .ok (.iload 4, 2) := by decide +kernel
theorem d_Law_law_1408 : decode b_Law_law 1408 = .ok (.iconst 1, 1) := by decide +kernel
theorem d_Law_law_1409 : decode b_Law_law 1409 = .ok (.iadd, 1) := by decide +kernel
theorem d_Law_law_1410 : decode b_Law_law 1410 = .ok (.iaload, 1) := by decide +kernel
theorem d_Law_law_1411 : decode b_Law_law 1411 = .ok (.aload_n 0, 1) := by decide +kernel
theorem d_Law_law_1412 : decode b_Law_law 1412 = .ok (.iload 4, 2) := by decide +kernel
theorem d_Law_law_1414 : decode b_Law_law 1414 = .ok (.iconst 2, 1) := by decide +kernel
theorem d_Law_law_1415 : decode b_Law_law 1415 = .ok (.iadd, 1) := by decide +kernel
theorem d_Law_law_1416 : decode b_Law_law 1416 = .ok (.iaload, 1) := by decide +kernel
theorem d_Law_law_1417 : decode b_Law_law 1417 = .ok (.invokevirtual 151, 3) := by decide +kernel
theorem d_Law_law_1420 : decode b_Law_law 1420 = .ok (.istore 6, 2) := by decide +kernel
theorem d_Law_law_1422 : decode b_Law_law 1422 = .ok (.aload_n 2, 1) := by decide +kernel
theorem d_Law_law_1423 : decode b_Law_law 1423 = .ok (.invokevirtual 89, 3) := by decide +kernel
theorem d_Law_law_1426 : decode b_Law_law 1426 = .ok (.iload 5, 2) := by decide +kernel
theorem d_Law_law_1428 : decode b_Law_law 1428 = .ok (.if_icmp .eq 5, 3) := by decide +kernel
theorem d_Law_law_1431 : decode b_Law_law 1431 = .ok (.iconst 0, 1) := by decide +kernel
theorem d_Law_law_1432 : decode b_Law_law 1432 = .ok (.ireturn, 1) := by decide +kernel
theorem d_Law_law_1433 : decode b_Law_law 1433 = .ok (.iload 5, 2) := by decide +kernel
theorem d_Law_law_1435 : decode b_Law_law 1435 = .ok (.ifCond .ne 15, 3) := by decide +kernel
theorem d_Law_law_1438 : decode b_Law_law 1438 = .ok (.aload_n 3, 1) := by decide +kernel
theorem d_Law_law_1439 : decode b_Law_law 1439 = .ok (.iconst 0, 1) := by decide +kernel
theorem d_Law_law_1440 : decode b_Law_law 1440 = .ok (.laload, 1) := by decide +kernel
theorem d_Law_law_1441 : decode b_Law_law 1441 = .ok (.iload 6, 2) := by decide +kernel
theorem d_Law_law_1443 : decode b_Law_law 1443 = .ok (.i2l, 1) := by decide +kernel
theorem d_Law_law_1444 : decode b_Law_law 1444 = .ok (.lcmp, 1) := by decide +kernel
theorem d_Law_law_1445 : decode b_Law_law 1445 = .ok (.ifCond .eq 5, 3) := by decide +kernel
theorem d_Law_law_1448 : decode b_Law_law 1448 = .ok (.iconst 0, 1) := by decide +kernel
theorem d_Law_law_1449 : decode b_Law_law 1449 = .ok (.ireturn, 1) := by decide +kernel
theorem d_Law_law_1450 : decode b_Law_law 1450 = .ok (.goto 153, 3) := by decide +kernel
theorem d_Law_law_1453 : decode b_Law_law 1453 = .ok (.aload_n 1, 1) := by decide +kernel
theorem d_Law_law_1454 : decode b_Law_law 1454 = .ok (.aload_n 0, 1) := by decide +kernel
theorem d_Law_law_1455 : decode b_Law_law 1455 = .ok (.iload 4, 2) := by decide +kernel
theorem d_Law_law_1457 : decode b_Law_law 1457 = .ok (.iconst 1, 1) := by decide +kernel
theorem d_Law_law_1458 : decode b_Law_law 1458 = .ok (.iadd, 1) := by decide +kernel
theorem d_Law_law_1459 : decode b_Law_law 1459 = .ok (.iaload, 1) := by decide +kernel
theorem d_Law_law_1460 : decode b_Law_law 1460 = .ok (.aload_n 0, 1) := by decide +kernel
theorem d_Law_law_1461 : decode b_Law_law 1461 = .ok (.iload 4, 2) := by decide +kernel
theorem d_Law_law_1463 : decode b_Law_law 1463 = .ok (.iconst 2, 1) := by decide +kernel
theorem d_Law_law_1464 : decode b_Law_law 1464 = .ok (.iadd, 1) := by decide +kernel
theorem d_Law_law_1465 : decode b_Law_law 1465 = .ok (.iaload, 1) := by decide +kernel
theorem d_Law_law_1466 : decode b_Law_law 1466 = .ok (.aload_n 3, 1) := by decide +kernel
theorem d_Law_law_1467 : decode b_Law_law 1467 = .ok (.invokestatic 152, 3) := by decide +kernel
theorem d_Law_law_1470 : decode b_Law_law 1470 = .ok (.istore 5, 2) := by decide +kernel
theorem d_Law_law_1472 : decode b_Law_law 1472 = .ok (.aload_n 2, 1) := by decide +kernel
theorem d_Law_law_1473 : decode b_Law_law 1473 = .ok (.aload_n 0, 1) := by decide +kernel
theorem d_Law_law_1474 : decode b_Law_law 1474 = .ok (.iload 4, 2) := by decide +kernel
theorem d_Law_law_1476 : decode b_Law_law 1476 = .ok (.iconst 1, 1) := by decide +kernel
theorem d_Law_law_1477 : decode b_Law_law 1477 = .ok (.iadd, 1) := by decide +kernel
theorem d_Law_law_1478 : decode b_Law_law 1478 = .ok (.iaload, 1) := by decide +kernel
theorem d_Law_law_1479 : decode b_Law_law 1479 = .ok (.aload_n 0, 1) := by decide +kernel
theorem d_Law_law_1480 : decode b_Law_law 1480 = .ok (.iload 4, 2) := by decide +kernel
theorem d_Law_law_1482 : decode b_Law_law 1482 = .ok (.iconst 2, 1) := by decide +kernel
theorem d_Law_law_1483 : decode b_Law_law 1483 = .ok (.iadd, 1) := by decide +kernel
theorem d_Law_law_1484 : decode b_Law_law 1484 = .ok (.iaload, 1) := by decide +kernel
theorem d_Law_law_1485 : decode b_Law_law 1485 = .ok (.invokevirtual 154, 3) := by decide +kernel
theorem d_Law_law_1488 : decode b_Law_law 1488 = .ok (.istore 6, 2) := by decide +kernel
theorem d_Law_law_1490 : decode b_Law_law 1490 = .ok (.aload_n 2, 1) := by decide +kernel
theorem d_Law_law_1491 : decode b_Law_law 1491 = .ok (.invokevirtual 89, 3) := by decide +kernel
theorem d_Law_law_1494 : decode b_Law_law 1494 = .ok (.iload 5, 2) := by decide +kernel
theorem d_Law_law_1496 : decode b_Law_law 1496 = .ok (.if_icmp .eq 5, 3) := by decide +kernel
theorem d_Law_law_1499 : decode b_Law_law 1499 = .ok (.iconst 0, 1) := by decide +kernel
theorem d_Law_law_1500 : decode b_Law_law 1500 = .ok (.ireturn, 1) := by decide +kernel
theorem d_Law_law_1501 : decode b_Law_law 1501 = .ok (.iload 5, 2) := by decide +kernel
theorem d_Law_law_1503 : decode b_Law_law 1503 = .ok (.ifCond .ne 15, 3) := by decide +kernel
theorem d_Law_law_1506 : decode b_Law_law 1506 = .ok (.aload_n 3, 1) := by decide +kernel
theorem d_Law_law_1507 : decode b_Law_law 1507 = .ok (.iconst 0, 1) := by decide +kernel
theorem d_Law_law_1508 : decode b_Law_law 1508 = .ok (.laload, 1) := by decide +kernel
theorem d_Law_law_1509 : decode b_Law_law 1509 = .ok (.iload 6, 2) := by decide +kernel
theorem d_Law_law_1511 : decode b_Law_law 1511 = .ok (.i2l, 1) := by decide +kernel
theorem d_Law_law_1512 : decode b_Law_law 1512 = .ok (.lcmp, 1) := by decide +kernel
theorem d_Law_law_1513 : decode b_Law_law 1513 = .ok (.ifCond .eq 5, 3) := by decide +kernel
theorem d_Law_law_1516 : decode b_Law_law 1516 = .ok (.iconst 0, 1) := by decide +kernel
theorem d_Law_law_1517 : decode b_Law_law 1517 = .ok (.ireturn, 1) := by decide +kernel
theorem d_Law_law_1518 : decode b_Law_law 1518 = .ok (.goto 85, 3) := by decide +kernel
theorem d_Law_law_1521 : decode b_Law_law 1521 = .ok (.aload_n 1, 1) := by decide +kernel
theorem d_Law_law_1522 : decode b_Law_law 1522 = .ok (.aload_n 0, 1) := by decide +kernel
theorem d_Law_law_1523 : decode b_Law_law 1523 = .ok (.iload 4, 2) := by decide +kernel
theorem d_Law_law_1525 : decode b_Law_law 1525 = .ok (.iconst 1, 1) := by decide +kernel
theorem d_Law_law_1526 : decode b_Law_law 1526 = .ok (.iadd, 1) := by decide +kernel
theorem d_Law_law_1527 : decode b_Law_law 1527 = .ok (.iaload, 1) := by decide +kernel
theorem d_Law_law_1528 : decode b_Law_law 1528 = .ok (.aload_n 0, 1) := by decide +kernel
theorem d_Law_law_1529 : decode b_Law_law 1529 = .ok (.iload 4, 2) := by decide +kernel
theorem d_Law_law_1531 : decode b_Law_law 1531 = .ok (.iconst 2, 1) := by decide +kernel
theorem d_Law_law_1532 : decode b_Law_law 1532 = .ok (.iadd, 1) := by decide +kernel
theorem d_Law_law_1533 : decode b_Law_law 1533 = .ok (.iaload, 1) := by decide +kernel
theorem d_Law_law_1534 : decode b_Law_law 1534 = .ok (.aload_n 3, 1) := by decide +kernel
theorem d_Law_law_1535 : decode b_Law_law 1535 = .ok (.invokestatic 155, 3) := by decide +kernel
theorem d_Law_law_1538 : decode b_Law_law 1538 = .ok (.istore 5, 2) := by decide +kernel
theorem d_Law_law_1540 : decode b_Law_law 1540 = .ok (.aload_n 2, 1) := by decide +kernel
theorem d_Law_law_1541 : decode b_Law_law 1541 = .ok (.aload_n 0, 1) := by decide +kernel
theorem d_Law_law_1542 : decode b_Law_law 1542 = .ok (.iload 4, 2) := by decide +kernel
theorem d_Law_law_1544 : decode b_Law_law 1544 = .ok (.iconst 1, 1) := by decide +kernel
theorem d_Law_law_1545 : decode b_Law_law 1545 = .ok (.iadd, 1) := by decide +kernel
theorem d_Law_law_1546 : decode b_Law_law 1546 = .ok (.iaload, 1) := by decide +kernel
theorem d_Law_law_1547 : decode b_Law_law 1547 = .ok (.aload_n 0, 1) := by decide +kernel
theorem d_Law_law_1548 : decode b_Law_law 1548 = .ok (.iload 4, 2) := by decide +kernel
theorem d_Law_law_1550 : decode b_Law_law 1550 = .ok (.iconst 2, 1) := by decide +kernel
theorem d_Law_law_1551 : decode b_Law_law 1551 = .ok (.iadd, 1) := by decide +kernel
theorem d_Law_law_1552 : decode b_Law_law 1552 = .ok (.iaload, 1) := by decide +kernel
theorem d_Law_law_1553 : decode b_Law_law 1553 = .ok (.invokevirtual 157, 3) := by decide +kernel
theorem d_Law_law_1556 : decode b_Law_law 1556 = .ok (.istore 6, 2) := by decide +kernel
theorem d_Law_law_1558 : decode b_Law_law 1558 = .ok (.aload_n 2, 1) := by decide +kernel
theorem d_Law_law_1559 : decode b_Law_law 1559 = .ok (.invokevirtual 89, 3) := by decide +kernel
theorem d_Law_law_1562 : decode b_Law_law 1562 = .ok (.iload 5, 2) := by decide +kernel
theorem d_Law_law_1564 : decode b_Law_law 1564 = .ok (.if_icmp .eq 5, 3) := by decide +kernel
theorem d_Law_law_1567 : decode b_Law_law 1567 = .ok (.iconst 0, 1) := by decide +kernel
theorem d_Law_law_1568 : decode b_Law_law 1568 = .ok (.ireturn, 1) := by decide +kernel
theorem d_Law_law_1569 : decode b_Law_law 1569 = .ok (.iload 5, 2) := by decide +kernel
theorem d_Law_law_1571 : decode b_Law_law 1571 = .ok (.ifCond .ne 15, 3) := by decide +kernel
theorem d_Law_law_1574 : decode b_Law_law 1574 = .ok (.aload_n 3, 1) := by decide +kernel
theorem d_Law_law_1575 : decode b_Law_law 1575 = .ok (.iconst 0, 1) := by decide +kernel
theorem d_Law_law_1576 : decode b_Law_law 1576 = .ok (.laload, 1) := by decide +kernel
theorem d_Law_law_1577 : decode b_Law_law 1577 = .ok (.iload 6, 2) := by decide +kernel
theorem d_Law_law_1579 : decode b_Law_law 1579 = .ok (.i2l, 1) := by decide +kernel
theorem d_Law_law_1580 : decode b_Law_law 1580 = .ok (.lcmp, 1) := by decide +kernel
theorem d_Law_law_1581 : decode b_Law_law 1581 = .ok (.ifCond .eq 5, 3) := by decide +kernel
theorem d_Law_law_1584 : decode b_Law_law 1584 = .ok (.iconst 0, 1) := by decide +kernel
theorem d_Law_law_1585 : decode b_Law_law 1585 = .ok (.ireturn, 1) := by decide +kernel
theorem d_Law_law_1586 : decode b_Law_law 1586 = .ok (.goto 17, 3) := by decide +kernel
theorem d_Law_law_1589 : decode b_Law_law 1589 = .ok (.aload_n 1, 1) := by decide +kernel
theorem d_Law_law_1590 : decode b_Law_law 1590 = .ok (.invokevirtual 158, 3) := by decide +kernel
theorem d_Law_law_1593 : decode b_Law_law 1593 = .ok (.aload_n 2, 1) := by decide +kernel
theorem d_Law_law_1594 : decode b_Law_law 1594 = .ok (.invokevirtual 162, 3) := by decide +kernel
theorem d_Law_law_1597 : decode b_Law_law 1597 = .ok (.lcmp, 1) := by decide +kernel
theorem d_Law_law_1598 : decode b_Law_law 1598 = .ok (.ifCond .eq 5, 3) := by decide +kernel
theorem d_Law_law_1601 : decode b_Law_law 1601 = .ok (.iconst 0, 1) := by decide +kernel
theorem d_Law_law_1602 : decode b_Law_law 1602 = .ok (.ireturn, 1) := by decide +kernel
theorem d_Law_law_1603 : decode b_Law_law 1603 = .ok (.iinc 4 8, 3) := by decide +kernel
theorem d_Law_law_1606 : decode b_Law_law 1606 = .ok (.goto (-1583), 3) := by decide +kernel
theorem d_Law_law_1609 : decode b_Law_law 1609 = .ok (.iconst 1, 1) := by decide +kernel
theorem d_Law_law_1610 : decode b_Law_law 1610 = .ok (.ireturn, 1) := by decide +kernel
end
section
/-! A LAYER OVER THE KIT: a heap told by names. c : Nat -> Option va_E says what the cell of a name holds, ad says where it lies; rp: the heap holds it. rW: from every heap that holds c the machine, at this pc with these locals and this stack, comes to Q. -/
abbrev rC : Type := Nat → Option va_E
def rp (D : va_G) (cl : List vw_C) (A : Nat → Prop) (ad : Nat → Nat) (c : rC) (H : Heap) : Prop := (∀ n e, c n = some e → va_at D cl (ad n, e) H ∧ A (ad n)) ∧ ∀ n k, c n ≠ none → c k ≠ none → ad n = ad k → n = k
def rA (ad : Nat → Nat) (c : rC) (sz : Nat) : Nat → Prop := fun q => (∃ n, c n ≠ none ∧ ad n = q) ∨ sz ≤ q
theorem rp.lt {D : va_G} {cl : List vw_C} {A : Nat → Prop} {ad : Nat → Nat} {c : rC} {H : Heap} (h : rp D cl A ad c H) {n : Nat} (hn : c n ≠ none) : ad n < H.size := by
  cases e : c n with
  | none => exact absurd e hn
  | some x => exact (h.1 n x e).1.lt
theorem rp.put {D : va_G} {cl : List vw_C} {A : Nat → Prop} {ad : Nat → Nat} {c : rC} {H H1 : Heap} {n : Nat} {e0 e : va_E} (h : rp D cl A ad c H) (hn : c n = some e0) (he : va_at D cl (ad n, e) H1) (oq : ∀ q : Nat, q ≠ ad n → H1[q]? = H[q]?) : rp D cl A ad (va_up c n (some e)) H1 := by
  have hd : ∀ k, va_up c n (some e) k ≠ none → c k ≠ none := by
    intro k hk
    by_cases hkn : k = n
    · subst hkn; rw [hn]; exact fun z => by cases z
    · rwa [va_up_ne _ _ hkn] at hk
  refine ⟨fun k x hk => ?_, fun i j hi hj => h.2 i j (hd i hi) (hd j hj)⟩
  by_cases hkn : k = n
  · subst hkn
    rw [va_up_self] at hk
    cases hk
    exact ⟨he, (h.1 k e0 hn).2⟩
  · rw [va_up_ne _ _ hkn] at hk
    obtain ⟨h1, h2⟩ := h.1 k x hk
    refine ⟨h1.kept (oq _ fun z => hkn (h.2 k n ?_ ?_ z)), h2⟩
    · rw [hk]; exact fun z => by cases z
    · rw [hn]; exact fun z => by cases z
theorem rp.new {D : va_G} {cl : List vw_C} {A : Nat → Prop} {ad : Nat → Nat} {c : rC} {H H1 : Heap} {n : Nat} {e : va_E} (h : rp D cl A ad c H) (hn : c n = none) (he : va_at D cl (H.size, e) H1) (hA : A H.size) (oq : ∀ q : Nat, q < H.size → H1[q]? = H[q]?) : rp D cl A (va_up ad n H.size) (va_up c n (some e)) H1 := by
  have hd : ∀ k, k ≠ n → va_up c n (some e) k ≠ none → c k ≠ none := by
    intro k hkn hk
    rwa [va_up_ne _ _ hkn] at hk
  refine ⟨fun k x hk => ?_, fun i j hi hj hij => ?_⟩
  · by_cases hkn : k = n
    · subst hkn
      rw [va_up_self] at hk ⊢
      cases hk
      exact ⟨he, hA⟩
    · rw [va_up_ne _ _ hkn] at hk ⊢
      obtain ⟨h1, h2⟩ := h.1 k x hk
      exact ⟨h1.kept (oq _ h1.lt), h2⟩
  · by_cases h1 : i = n
    · by_cases h2 : j = n
      · rw [h1, h2]
      · have := h.lt (hd j h2 hj)
        rw [h1, va_up_self, va_up_ne _ _ h2] at hij
        omega
    · by_cases h2 : j = n
      · have := h.lt (hd i h1 hi)
        rw [h2, va_up_self, va_up_ne _ _ h1] at hij
        omega
      · rw [va_up_ne _ _ h1, va_up_ne _ _ h2] at hij
        exact h.2 i j (hd i h1 hi) (hd j h2 hj) hij
/-- fewer names, other places for names that are dead -/
theorem rp.sub {D : va_G} {cl : List vw_C} {A : Nat → Prop} {ad ad' : Nat → Nat} {c c' : rC} {H : Heap} (h : rp D cl A ad c H) (hc : ∀ n e, c' n = some e → c n = some e ∧ ad' n = ad n) : rp D cl A ad' c' H := by
  have hd : ∀ k, c' k ≠ none → c k ≠ none ∧ ad' k = ad k := by
    intro k hk
    cases e : c' k with
    | none => exact absurd e hk
    | some x => exact ⟨by rw [(hc k x e).1]; exact (fun z => by cases z), (hc k x e).2⟩
  refine ⟨fun n e hn => ?_, fun i j hi hj hij => ?_⟩
  · obtain ⟨h1, h2⟩ := hc n e hn
    rw [h2]
    exact h.1 n e h1
  · rw [(hd i hi).2, (hd j hj).2] at hij
    exact h.2 i j (hd i hi).1 (hd j hj).1 hij
theorem rp.mono {D : va_G} {cl : List vw_C} {A B : Nat → Prop} {ad : Nat → Nat} {c : rC} {H : Heap} (h : rp D cl A ad c H) (hAB : ∀ n, c n ≠ none → A (ad n) → B (ad n)) : rp D cl B ad c H :=
  ⟨fun n e hn => ⟨(h.1 n e hn).1, hAB n (by rw [hn]; exact fun z => by cases z) (h.1 n e hn).2⟩, h.2⟩
theorem rp.self {D : va_G} {cl : List vw_C} {A : Nat → Prop} {ad : Nat → Nat} {c : rC} {H : Heap} (h : rp D cl A ad c H) (sz : Nat) : rp D cl (rA ad c sz) ad c H := h.mono fun n hn _ => Or.inl ⟨n, hn, rfl⟩
/-- a world that a call did not reach -/
theorem rp.frame {D : va_G} {cl : List vw_C} {A A1 : Nat → Prop} {ad : Nat → Nat} {c : rC} {H H1 : Heap} (h : rp D cl A ad c H) (hk : ∀ q : Nat, q < H.size → ¬ A1 q → H1[q]? = H[q]?) (hd : ∀ n, c n ≠ none → ¬ A1 (ad n)) : rp D cl A ad c H1 :=
  ⟨fun n e hn => ⟨(h.1 n e hn).1.kept (hk _ (h.1 n e hn).1.lt (hd n (by rw [hn]; exact fun z => by cases z))), (h.1 n e hn).2⟩, h.2⟩
theorem rup_self {c : rC} {n : Nat} {e : va_E} : va_up c n (some e) n = some e := va_up_self _ _ _
theorem rup_ne {c : rC} {n k : Nat} {e : Option va_E} {x : Option va_E} (h : k ≠ n) (hk : c k = x) : va_up c n e k = x := by rw [va_up_ne _ _ h]; exact hk
theorem rup_up {c : rC} {n : Nat} {e e' : Option va_E} : va_up (va_up c n e) n e' = va_up c n e' := by
  funext k
  by_cases h : k = n <;> simp [va_up, h]
theorem rup_id {c : rC} {n : Nat} {e : va_E} (h : c n = some e) : va_up c n (some e) = c := by
  funext k
  by_cases hk : k = n
  · subst hk; rw [va_up_self, h]
  · rw [va_up_ne _ _ hk]
theorem rup_comm {c : rC} {n k : Nat} {e e' : Option va_E} (h : n ≠ k) : va_up (va_up c n e) k e' = va_up (va_up c k e') n e := by
  funext j
  by_cases h1 : j = n
  · by_cases h2 : j = k
    · exact absurd (h1.symm.trans h2) h
    · simp [va_up, h1, h]
  · by_cases h2 : j = k <;> simp [va_up, h1, h2, Ne.symm h]

def rW (p : Program) (l : Launch) (e : Env) (R : Room) (s : State) (m : MethodId) (args : Array Value) (below : List Frame) (meth : Method) (cd : Code) (nL : Nat) (D : va_G) (cl : List vw_C) (A : Nat → Prop) (cells slots : Nat) (Q : State → Prop) (ad : Nat → Nat) (c : rC) (pc : Nat) (lv : List (Nat × Value)) (st : List Value) : Prop :=
  ∀ (H : Heap) (locs : List Loc) (ls : Array Slot), rp D cl A ad c H → va_S A s.heap H locs → lv_has ls nL lv → W p l e R s m args below meth cd H locs cells slots Q (F0 m pc ls st)
/-- what a walk rests on: the machine, the code, the words, the classes' layout -/
def rX (p : Program) (s : State) (m : MethodId) (args : Array Value) (cd : Code) (cc : ByteArray) (nL : Nat) (own : String) (Ts : List Cond) (D : va_G) (cl : List vw_C) (tys : List (ClassId × FieldType)) (A : Nat → Prop) : Prop :=
  p.tables.exec = Jvm.exec ∧ cd.code = cc ∧ cd.maxLocals = nL ∧ s.vm.findClass own = some m.cls ∧ (∀ w ∈ Ts, w.before args s = true) ∧ va_K D cl tys s ∧ ∀ q, s.heap.size ≤ q → A q
/-- a class of ours: its words, its place in the list, its fields -/
def rF (Ts : List Cond) (cl : List vw_C) (ci : Nat) (C : String) (T : u_T) (N : Nat) (ty : Nat → FieldType) : Prop := (∀ w ∈ u_ws C T N, w ∈ Ts) ∧ cl[ci]? = some (C, T, N) ∧ (∀ k, k < N → parseFieldDescriptor (T k).2.2.1 = some (ty k)) ∧ ∀ a, a < N → ∀ b, b < N → a ≠ b → (T a).2.1 ≠ (T b).2.1
section RROWS
variable {p : Program} {l : Launch} {e : Env} {R : Room} {s : State} {m : MethodId} {args : Array Value} {below : List Frame} {meth : Method} {cd : Code} {cc : ByteArray} {nL : Nat} {own : String} {Ts : List Cond} {D : va_G} {cl : List vw_C} {tys : List (ClassId × FieldType)} {A : Nat → Prop} {cells slots : Nat} {Q : State → Prop} {ad : Nat → Nat} {c : rC} {pc : Nat} {lv : List (Nat × Value)} {st : List Value}
theorem r_iload_n (X : rX p s m args cd cc nL own Ts D cl tys A) {k : Fin 4} {i : Nat} {x : Int32} (j : Nat) (hd : decode cc pc = .ok (.iload_n k, 1)) (hi : (k : Nat) = i) (hj : lv[j]? = some (i, .int x)) (kk : rW p l e R s m args below meth cd nL D cl A cells slots Q ad c (pc + 1) lv (.int x :: st)) : rW p l e R s m args below meth cd nL D cl A cells slots Q ad c pc lv st := fun H locs ls hP hS hl => lv_iload_n X.1 X.2.1 hd hi (lv_at hl j hj) (kk H locs ls hP hS hl)
theorem r_iload (X : rX p s m args cd cc nL own Ts D cl tys A) {i : Nat} {x : Int32} (j : Nat) (hd : decode cc pc = .ok (.iload i, 2)) (hj : lv[j]? = some (i, .int x)) (kk : rW p l e R s m args below meth cd nL D cl A cells slots Q ad c (pc + 2) lv (.int x :: st)) : rW p l e R s m args below meth cd nL D cl A cells slots Q ad c pc lv st := fun H locs ls hP hS hl => lv_iload X.1 X.2.1 hd (lv_at hl j hj) (kk H locs ls hP hS hl)
theorem r_lload_n (X : rX p s m args cd cc nL own Ts D cl tys A) {k : Fin 4} {i : Nat} {x : Int64} (j : Nat) (hd : decode cc pc = .ok (.lload_n k, 1)) (hi : (k : Nat) = i) (hj : lv[j]? = some (i, .long x)) (kk : rW p l e R s m args below meth cd nL D cl A cells slots Q ad c (pc + 1) lv (.long x :: st)) : rW p l e R s m args below meth cd nL D cl A cells slots Q ad c pc lv st := fun H locs ls hP hS hl => lv_lload_n X.1 X.2.1 hd hi (lv_at hl j hj) (kk H locs ls hP hS hl)
theorem r_lload (X : rX p s m args cd cc nL own Ts D cl tys A) {i : Nat} {x : Int64} (j : Nat) (hd : decode cc pc = .ok (.lload i, 2)) (hj : lv[j]? = some (i, .long x)) (kk : rW p l e R s m args below meth cd nL D cl A cells slots Q ad c (pc + 2) lv (.long x :: st)) : rW p l e R s m args below meth cd nL D cl A cells slots Q ad c pc lv st := fun H locs ls hP hS hl => lv_lload X.1 X.2.1 hd (lv_at hl j hj) (kk H locs ls hP hS hl)
theorem r_aload_n (X : rX p s m args cd cc nL own Ts D cl tys A) {k : Fin 4} {i : Nat} {x : Nat} (j : Nat) (hd : decode cc pc = .ok (.aload_n k, 1)) (hi : (k : Nat) = i) (hj : lv[j]? = some (i, .ref x)) (kk : rW p l e R s m args below meth cd nL D cl A cells slots Q ad c (pc + 1) lv (.ref x :: st)) : rW p l e R s m args below meth cd nL D cl A cells slots Q ad c pc lv st := fun H locs ls hP hS hl => lv_aload_n X.1 X.2.1 hd hi (lv_at hl j hj) (kk H locs ls hP hS hl)
theorem r_aload (X : rX p s m args cd cc nL own Ts D cl tys A) {i : Nat} {x : Nat} (j : Nat) (hd : decode cc pc = .ok (.aload i, 2)) (hj : lv[j]? = some (i, .ref x)) (kk : rW p l e R s m args below meth cd nL D cl A cells slots Q ad c (pc + 2) lv (.ref x :: st)) : rW p l e R s m args below meth cd nL D cl A cells slots Q ad c pc lv st := fun H locs ls hP hS hl => lv_aload X.1 X.2.1 hd (lv_at hl j hj) (kk H locs ls hP hS hl)
theorem r_dload_n (X : rX p s m args cd cc nL own Ts D cl tys A) {k : Fin 4} {i : Nat} {x : UInt64} (j : Nat) (hd : decode cc pc = .ok (.dload_n k, 1)) (hi : (k : Nat) = i) (hj : lv[j]? = some (i, .double x)) (kk : rW p l e R s m args below meth cd nL D cl A cells slots Q ad c (pc + 1) lv (.double x :: st)) : rW p l e R s m args below meth cd nL D cl A cells slots Q ad c pc lv st := fun H locs ls hP hS hl => lv_dload_n X.1 X.2.1 hd hi (lv_at hl j hj) (kk H locs ls hP hS hl)
theorem r_dload (X : rX p s m args cd cc nL own Ts D cl tys A) {i : Nat} {x : UInt64} (j : Nat) (hd : decode cc pc = .ok (.dload i, 2)) (hj : lv[j]? = some (i, .double x)) (kk : rW p l e R s m args below meth cd nL D cl A cells slots Q ad c (pc + 2) lv (.double x :: st)) : rW p l e R s m args below meth cd nL D cl A cells slots Q ad c pc lv st := fun H locs ls hP hS hl => lv_dload X.1 X.2.1 hd (lv_at hl j hj) (kk H locs ls hP hS hl)
theorem r_aload_nN (X : rX p s m args cd cc nL own Ts D cl tys A) {k : Fin 4} {i : Nat} (j : Nat) (hd : decode cc pc = .ok (.aload_n k, 1)) (hi : (k : Nat) = i) (hj : lv[j]? = some (i, .null)) (kk : rW p l e R s m args below meth cd nL D cl A cells slots Q ad c (pc + 1) lv (.null :: st)) : rW p l e R s m args below meth cd nL D cl A cells slots Q ad c pc lv st := fun H locs ls hP hS hl => lv_aload_nN X.1 X.2.1 hd hi (lv_at hl j hj) (kk H locs ls hP hS hl)
theorem r_aloadN (X : rX p s m args cd cc nL own Ts D cl tys A) {i : Nat} (j : Nat) (hd : decode cc pc = .ok (.aload i, 2)) (hj : lv[j]? = some (i, .null)) (kk : rW p l e R s m args below meth cd nL D cl A cells slots Q ad c (pc + 2) lv (.null :: st)) : rW p l e R s m args below meth cd nL D cl A cells slots Q ad c pc lv st := fun H locs ls hP hS hl => lv_aloadN X.1 X.2.1 hd (lv_at hl j hj) (kk H locs ls hP hS hl)
theorem r_iconst (X : rX p s m args cd cc nL own Ts D cl tys A) {n : Int} (v : Int32) (hd : decode cc pc = .ok (.iconst n, 1)) (hv : Int32.ofInt n = v) (kk : rW p l e R s m args below meth cd nL D cl A cells slots Q ad c (pc + 1) lv (.int v :: st)) : rW p l e R s m args below meth cd nL D cl A cells slots Q ad c pc lv st := fun H locs ls hP hS hl => lv_iconst X.1 X.2.1 hd hv (kk H locs ls hP hS hl)
theorem r_bipush (X : rX p s m args cd cc nL own Ts D cl tys A) {n : Int} (v : Int32) (hd : decode cc pc = .ok (.bipush n, 2)) (hv : (Int8.ofInt n).toInt32 = v) (kk : rW p l e R s m args below meth cd nL D cl A cells slots Q ad c (pc + 2) lv (.int v :: st)) : rW p l e R s m args below meth cd nL D cl A cells slots Q ad c pc lv st := fun H locs ls hP hS hl => lv_bipush X.1 X.2.1 hd hv (kk H locs ls hP hS hl)
theorem r_sipush (X : rX p s m args cd cc nL own Ts D cl tys A) {n : Int} (v : Int32) (hd : decode cc pc = .ok (.sipush n, 3)) (hv : (Int16.ofInt n).toInt32 = v) (kk : rW p l e R s m args below meth cd nL D cl A cells slots Q ad c (pc + 3) lv (.int v :: st)) : rW p l e R s m args below meth cd nL D cl A cells slots Q ad c pc lv st := fun H locs ls hP hS hl => lv_sipush X.1 X.2.1 hd hv (kk H locs ls hP hS hl)
theorem r_null (X : rX p s m args cd cc nL own Ts D cl tys A) (hd : decode cc pc = .ok (.aconst_null, 1)) (kk : rW p l e R s m args below meth cd nL D cl A cells slots Q ad c (pc + 1) lv (.null :: st)) : rW p l e R s m args below meth cd nL D cl A cells slots Q ad c pc lv st := fun H locs ls hP hS hl => lv_null X.1 X.2.1 hd (kk H locs ls hP hS hl)
theorem r_ldc (X : rX p s m args cd cc nL own Ts D cl tys A) {i : Nat} {v : Int32} (hw : Cond.constant own i v ∈ Ts) (hd : decode cc pc = .ok (.ldc i, 2)) (kk : rW p l e R s m args below meth cd nL D cl A cells slots Q ad c (pc + 2) lv (.int v :: st)) : rW p l e R s m args below meth cd nL D cl A cells slots Q ad c pc lv st := fun H locs ls hP hS hl => lv_ldc X.1 X.2.1 X.2.2.2.1 (X.2.2.2.2.1 _ hw) hd (kk H locs ls hP hS hl)
theorem r_ldc2 (X : rX p s m args cd cc nL own Ts D cl tys A) {i : Nat} {v : Int64} (hw : Cond.constantLong own i v ∈ Ts) (hd : decode cc pc = .ok (.ldc2_w i, 3)) (kk : rW p l e R s m args below meth cd nL D cl A cells slots Q ad c (pc + 3) lv (.long v :: st)) : rW p l e R s m args below meth cd nL D cl A cells slots Q ad c pc lv st := fun H locs ls hP hS hl => lv_ldc2 X.1 X.2.1 X.2.2.2.1 (X.2.2.2.2.1 _ hw) hd (kk H locs ls hP hS hl)
theorem r_dconst0 (X : rX p s m args cd cc nL own Ts D cl tys A) (hd : decode cc pc = .ok (.dconst 0, 1)) (kk : rW p l e R s m args below meth cd nL D cl A cells slots Q ad c (pc + 1) lv (.double FP.dconst0 :: st)) : rW p l e R s m args below meth cd nL D cl A cells slots Q ad c pc lv st := fun H locs ls hP hS hl => lv_dconst0 X.1 X.2.1 hd (kk H locs ls hP hS hl)
theorem r_iadd (X : rX p s m args cd cc nL own Ts D cl tys A) {x y : Int32} (hd : decode cc pc = .ok (.iadd, 1)) (kk : rW p l e R s m args below meth cd nL D cl A cells slots Q ad c (pc + 1) lv (.int (x + y) :: st)) : rW p l e R s m args below meth cd nL D cl A cells slots Q ad c pc lv (.int y :: .int x :: st) := fun H locs ls hP hS hl => lv_iadd X.1 X.2.1 hd (kk H locs ls hP hS hl)
theorem r_isub (X : rX p s m args cd cc nL own Ts D cl tys A) {x y : Int32} (hd : decode cc pc = .ok (.isub, 1)) (kk : rW p l e R s m args below meth cd nL D cl A cells slots Q ad c (pc + 1) lv (.int (x - y) :: st)) : rW p l e R s m args below meth cd nL D cl A cells slots Q ad c pc lv (.int y :: .int x :: st) := fun H locs ls hP hS hl => lv_isub X.1 X.2.1 hd (kk H locs ls hP hS hl)
theorem r_imul (X : rX p s m args cd cc nL own Ts D cl tys A) {x y : Int32} (hd : decode cc pc = .ok (.imul, 1)) (kk : rW p l e R s m args below meth cd nL D cl A cells slots Q ad c (pc + 1) lv (.int (x * y) :: st)) : rW p l e R s m args below meth cd nL D cl A cells slots Q ad c pc lv (.int y :: .int x :: st) := fun H locs ls hP hS hl => lv_imul X.1 X.2.1 hd (kk H locs ls hP hS hl)
theorem r_iand (X : rX p s m args cd cc nL own Ts D cl tys A) {x y : Int32} (hd : decode cc pc = .ok (.iand, 1)) (kk : rW p l e R s m args below meth cd nL D cl A cells slots Q ad c (pc + 1) lv (.int (x &&& y) :: st)) : rW p l e R s m args below meth cd nL D cl A cells slots Q ad c pc lv (.int y :: .int x :: st) := fun H locs ls hP hS hl => lv_iand X.1 X.2.1 hd (kk H locs ls hP hS hl)
theorem r_ior (X : rX p s m args cd cc nL own Ts D cl tys A) {x y : Int32} (hd : decode cc pc = .ok (.ior, 1)) (kk : rW p l e R s m args below meth cd nL D cl A cells slots Q ad c (pc + 1) lv (.int (x ||| y) :: st)) : rW p l e R s m args below meth cd nL D cl A cells slots Q ad c pc lv (.int y :: .int x :: st) := fun H locs ls hP hS hl => lv_ior X.1 X.2.1 hd (kk H locs ls hP hS hl)
theorem r_ixor (X : rX p s m args cd cc nL own Ts D cl tys A) {x y : Int32} (hd : decode cc pc = .ok (.ixor, 1)) (kk : rW p l e R s m args below meth cd nL D cl A cells slots Q ad c (pc + 1) lv (.int (x ^^^ y) :: st)) : rW p l e R s m args below meth cd nL D cl A cells slots Q ad c pc lv (.int y :: .int x :: st) := fun H locs ls hP hS hl => lv_ixor X.1 X.2.1 hd (kk H locs ls hP hS hl)
theorem r_idiv (X : rX p s m args cd cc nL own Ts D cl tys A) {x y : Int32} (hd : decode cc pc = .ok (.idiv, 1)) (hy : ¬ y = 0) (kk : rW p l e R s m args below meth cd nL D cl A cells slots Q ad c (pc + 1) lv (.int (x / y) :: st)) : rW p l e R s m args below meth cd nL D cl A cells slots Q ad c pc lv (.int y :: .int x :: st) := fun H locs ls hP hS hl => lv_idiv X.1 X.2.1 hd hy (kk H locs ls hP hS hl)
theorem r_irem (X : rX p s m args cd cc nL own Ts D cl tys A) {x y : Int32} (hd : decode cc pc = .ok (.irem, 1)) (hy : ¬ y = 0) (kk : rW p l e R s m args below meth cd nL D cl A cells slots Q ad c (pc + 1) lv (.int (x - x / y * y) :: st)) : rW p l e R s m args below meth cd nL D cl A cells slots Q ad c pc lv (.int y :: .int x :: st) := fun H locs ls hP hS hl => lv_irem X.1 X.2.1 hd hy (kk H locs ls hP hS hl)
theorem r_ineg (X : rX p s m args cd cc nL own Ts D cl tys A) {x : Int32} (hd : decode cc pc = .ok (.ineg, 1)) (kk : rW p l e R s m args below meth cd nL D cl A cells slots Q ad c (pc + 1) lv (.int (-x) :: st)) : rW p l e R s m args below meth cd nL D cl A cells slots Q ad c pc lv (.int x :: st) := fun H locs ls hP hS hl => lv_ineg X.1 X.2.1 hd (kk H locs ls hP hS hl)
theorem r_ishl (X : rX p s m args cd cc nL own Ts D cl tys A) {x y : Int32} (hd : decode cc pc = .ok (.ishl, 1)) (kk : rW p l e R s m args below meth cd nL D cl A cells slots Q ad c (pc + 1) lv (.int (x <<< (y &&& 31)) :: st)) : rW p l e R s m args below meth cd nL D cl A cells slots Q ad c pc lv (.int y :: .int x :: st) := fun H locs ls hP hS hl => lv_ishl X.1 X.2.1 hd (kk H locs ls hP hS hl)
theorem r_ishr (X : rX p s m args cd cc nL own Ts D cl tys A) {x y : Int32} (hd : decode cc pc = .ok (.ishr, 1)) (kk : rW p l e R s m args below meth cd nL D cl A cells slots Q ad c (pc + 1) lv (.int (x >>> (y &&& 31)) :: st)) : rW p l e R s m args below meth cd nL D cl A cells slots Q ad c pc lv (.int y :: .int x :: st) := fun H locs ls hP hS hl => lv_ishr X.1 X.2.1 hd (kk H locs ls hP hS hl)
theorem r_ladd (X : rX p s m args cd cc nL own Ts D cl tys A) {x y : Int64} (hd : decode cc pc = .ok (.ladd, 1)) (kk : rW p l e R s m args below meth cd nL D cl A cells slots Q ad c (pc + 1) lv (.long (x + y) :: st)) : rW p l e R s m args below meth cd nL D cl A cells slots Q ad c pc lv (.long y :: .long x :: st) := fun H locs ls hP hS hl => lv_ladd X.1 X.2.1 hd (kk H locs ls hP hS hl)
theorem r_lmul (X : rX p s m args cd cc nL own Ts D cl tys A) {x y : Int64} (hd : decode cc pc = .ok (.lmul, 1)) (kk : rW p l e R s m args below meth cd nL D cl A cells slots Q ad c (pc + 1) lv (.long (x * y) :: st)) : rW p l e R s m args below meth cd nL D cl A cells slots Q ad c pc lv (.long y :: .long x :: st) := fun H locs ls hP hS hl => lv_lmul X.1 X.2.1 hd (kk H locs ls hP hS hl)
theorem r_i2l (X : rX p s m args cd cc nL own Ts D cl tys A) {x : Int32} (hd : decode cc pc = .ok (.i2l, 1)) (kk : rW p l e R s m args below meth cd nL D cl A cells slots Q ad c (pc + 1) lv (.long x.toInt64 :: st)) : rW p l e R s m args below meth cd nL D cl A cells slots Q ad c pc lv (.int x :: st) := fun H locs ls hP hS hl => lv_i2l X.1 X.2.1 hd rfl (kk H locs ls hP hS hl)
theorem r_lcmp (X : rX p s m args cd cc nL own Ts D cl tys A) {x y : Int64} (hd : decode cc pc = .ok (.lcmp, 1)) (kk : rW p l e R s m args below meth cd nL D cl A cells slots Q ad c (pc + 1) lv (.int (lg_cmp x y) :: st)) : rW p l e R s m args below meth cd nL D cl A cells slots Q ad c pc lv (.long y :: .long x :: st) := fun H locs ls hP hS hl => W.lcmp X.1 X.2.1 hd (kk H locs ls hP hS hl)
theorem r_i2d (X : rX p s m args cd cc nL own Ts D cl tys A) {x : Int32} (hd : decode cc pc = .ok (.i2d, 1)) (kk : rW p l e R s m args below meth cd nL D cl A cells slots Q ad c (pc + 1) lv (.double (FP.i2d x) :: st)) : rW p l e R s m args below meth cd nL D cl A cells slots Q ad c pc lv (.int x :: st) := fun H locs ls hP hS hl => lv_i2d X.1 X.2.1 hd (kk H locs ls hP hS hl)
theorem r_ddiv (X : rX p s m args cd cc nL own Ts D cl tys A) {x y : UInt64} (hd : decode cc pc = .ok (.ddiv, 1)) (hn : vf_n64 (FP.ddiv x y)) (kk : rW p l e R s m args below meth cd nL D cl A cells slots Q ad c (pc + 1) lv (.double (FP.ddiv x y) :: st)) : rW p l e R s m args below meth cd nL D cl A cells slots Q ad c pc lv (.double y :: .double x :: st) := fun H locs ls hP hS hl => lv_ddiv X.1 X.2.1 hd hn (kk H locs ls hP hS hl)
theorem r_dcmp (X : rX p s m args cd cc nL own Ts D cl tys A) {x y : UInt64} {op : CmpOp} (hd : decode cc pc = .ok (.dcmp op, 1)) (kk : rW p l e R s m args below meth cd nL D cl A cells slots Q ad c (pc + 1) lv (.int (Op.cmpValue (FP.dcmp x y) op) :: st)) : rW p l e R s m args below meth cd nL D cl A cells slots Q ad c pc lv (.double y :: .double x :: st) := fun H locs ls hP hS hl => lv_dcmp X.1 X.2.1 hd (kk H locs ls hP hS hl)
theorem r_dup (X : rX p s m args cd cc nL own Ts D cl tys A) {v : Value} (hd : decode cc pc = .ok (.dup, 1)) (hv : v.category = 1) (kk : rW p l e R s m args below meth cd nL D cl A cells slots Q ad c (pc + 1) lv (v :: v :: st)) : rW p l e R s m args below meth cd nL D cl A cells slots Q ad c pc lv (v :: st) := fun H locs ls hP hS hl => lv_dup X.1 X.2.1 hd hv (kk H locs ls hP hS hl)
theorem r_pop (X : rX p s m args cd cc nL own Ts D cl tys A) {v : Value} (hd : decode cc pc = .ok (.pop, 1)) (hv : v.category = 1) (kk : rW p l e R s m args below meth cd nL D cl A cells slots Q ad c (pc + 1) lv st) : rW p l e R s m args below meth cd nL D cl A cells slots Q ad c pc lv (v :: st) := fun H locs ls hP hS hl => lv_pop X.1 X.2.1 hd hv (kk H locs ls hP hS hl)
theorem r_dup_x1 (X : rX p s m args cd cc nL own Ts D cl tys A) {v w : Value} (hd : decode cc pc = .ok (.dup_x1, 1)) (hv : v.category = 1) (hw : w.category = 1) (kk : rW p l e R s m args below meth cd nL D cl A cells slots Q ad c (pc + 1) lv (v :: w :: v :: st)) : rW p l e R s m args below meth cd nL D cl A cells slots Q ad c pc lv (v :: w :: st) := fun H locs ls hP hS hl => lv_dup_x1 X.1 X.2.1 hd hv hw (kk H locs ls hP hS hl)
theorem r_istore_n (X : rX p s m args cd cc nL own Ts D cl tys A) {k : Fin 4} {i : Nat} {x : Int32} (lv' : List (Nat × Value)) (hd : decode cc pc = .ok (.istore_n k, 1)) (hi : (k : Nat) = i) (hn : i < nL) (hl9 : (i, Value.int x) :: lv.filter (fun q => !(q.1 == i) && !(q.1 + 1 == i && q.2.category == 2)) = lv') (kk : rW p l e R s m args below meth cd nL D cl A cells slots Q ad c (pc + 1) lv' st) : rW p l e R s m args below meth cd nL D cl A cells slots Q ad c pc lv (.int x :: st) := fun H locs ls hP hS hl => lv_istore_n X.1 X.2.1 hd hi hl hn hl9 (fun ls hl => kk H locs ls hP hS hl)
theorem r_istore (X : rX p s m args cd cc nL own Ts D cl tys A) {i : Nat} {x : Int32} (lv' : List (Nat × Value)) (hd : decode cc pc = .ok (.istore i, 2)) (hn : i < nL) (hl9 : (i, Value.int x) :: lv.filter (fun q => !(q.1 == i) && !(q.1 + 1 == i && q.2.category == 2)) = lv') (kk : rW p l e R s m args below meth cd nL D cl A cells slots Q ad c (pc + 2) lv' st) : rW p l e R s m args below meth cd nL D cl A cells slots Q ad c pc lv (.int x :: st) := fun H locs ls hP hS hl => lv_istore X.1 X.2.1 hd hl hn hl9 (fun ls hl => kk H locs ls hP hS hl)
theorem r_astore_n (X : rX p s m args cd cc nL own Ts D cl tys A) {k : Fin 4} {i : Nat} {x : Nat} (lv' : List (Nat × Value)) (hd : decode cc pc = .ok (.astore_n k, 1)) (hi : (k : Nat) = i) (hn : i < nL) (hl9 : (i, Value.ref x) :: lv.filter (fun q => !(q.1 == i) && !(q.1 + 1 == i && q.2.category == 2)) = lv') (kk : rW p l e R s m args below meth cd nL D cl A cells slots Q ad c (pc + 1) lv' st) : rW p l e R s m args below meth cd nL D cl A cells slots Q ad c pc lv (.ref x :: st) := fun H locs ls hP hS hl => lv_astore_n X.1 X.2.1 hd hi hl hn hl9 (fun ls hl => kk H locs ls hP hS hl)
theorem r_astore (X : rX p s m args cd cc nL own Ts D cl tys A) {i : Nat} {x : Nat} (lv' : List (Nat × Value)) (hd : decode cc pc = .ok (.astore i, 2)) (hn : i < nL) (hl9 : (i, Value.ref x) :: lv.filter (fun q => !(q.1 == i) && !(q.1 + 1 == i && q.2.category == 2)) = lv') (kk : rW p l e R s m args below meth cd nL D cl A cells slots Q ad c (pc + 2) lv' st) : rW p l e R s m args below meth cd nL D cl A cells slots Q ad c pc lv (.ref x :: st) := fun H locs ls hP hS hl => lv_astore X.1 X.2.1 hd hl hn hl9 (fun ls hl => kk H locs ls hP hS hl)
theorem r_astore_nN (X : rX p s m args cd cc nL own Ts D cl tys A) {k : Fin 4} {i : Nat} (lv' : List (Nat × Value)) (hd : decode cc pc = .ok (.astore_n k, 1)) (hi : (k : Nat) = i) (hn : i < nL) (hl9 : (i, Value.null) :: lv.filter (fun q => !(q.1 == i) && !(q.1 + 1 == i && q.2.category == 2)) = lv') (kk : rW p l e R s m args below meth cd nL D cl A cells slots Q ad c (pc + 1) lv' st) : rW p l e R s m args below meth cd nL D cl A cells slots Q ad c pc lv (.null :: st) := fun H locs ls hP hS hl => lv_astore_nN X.1 X.2.1 hd hi hl hn hl9 (fun ls hl => kk H locs ls hP hS hl)
theorem r_astoreN (X : rX p s m args cd cc nL own Ts D cl tys A) {i : Nat} (lv' : List (Nat × Value)) (hd : decode cc pc = .ok (.astore i, 2)) (hn : i < nL) (hl9 : (i, Value.null) :: lv.filter (fun q => !(q.1 == i) && !(q.1 + 1 == i && q.2.category == 2)) = lv') (kk : rW p l e R s m args below meth cd nL D cl A cells slots Q ad c (pc + 2) lv' st) : rW p l e R s m args below meth cd nL D cl A cells slots Q ad c pc lv (.null :: st) := fun H locs ls hP hS hl => lv_astoreN X.1 X.2.1 hd hl hn hl9 (fun ls hl => kk H locs ls hP hS hl)
theorem r_lstore_n (X : rX p s m args cd cc nL own Ts D cl tys A) {k : Fin 4} {i : Nat} {x : Int64} (lv' : List (Nat × Value)) (hd : decode cc pc = .ok (.lstore_n k, 1)) (hi : (k : Nat) = i) (hn : i + 1 < nL) (hl9 : (i, Value.long x) :: lv.filter (fun q => !(q.1 == i) && (!(q.1 == i + 1) && !(q.1 + 1 == i && q.2.category == 2))) = lv') (kk : rW p l e R s m args below meth cd nL D cl A cells slots Q ad c (pc + 1) lv' st) : rW p l e R s m args below meth cd nL D cl A cells slots Q ad c pc lv (.long x :: st) := fun H locs ls hP hS hl => lv_lstore_n X.1 X.2.1 hd hi hl hn hl9 (fun ls hl => kk H locs ls hP hS hl)
theorem r_lstore (X : rX p s m args cd cc nL own Ts D cl tys A) {i : Nat} {x : Int64} (lv' : List (Nat × Value)) (hd : decode cc pc = .ok (.lstore i, 2)) (hn : i + 1 < nL) (hl9 : (i, Value.long x) :: lv.filter (fun q => !(q.1 == i) && (!(q.1 == i + 1) && !(q.1 + 1 == i && q.2.category == 2))) = lv') (kk : rW p l e R s m args below meth cd nL D cl A cells slots Q ad c (pc + 2) lv' st) : rW p l e R s m args below meth cd nL D cl A cells slots Q ad c pc lv (.long x :: st) := fun H locs ls hP hS hl => lv_lstore X.1 X.2.1 hd hl hn hl9 (fun ls hl => kk H locs ls hP hS hl)
theorem r_iinc (X : rX p s m args cd cc nL own Ts D cl tys A) {i : Nat} {n : Int} {x v : Int32} (j : Nat) (lv' : List (Nat × Value)) (hd : decode cc pc = .ok (.iinc i n, 3)) (hj : lv[j]? = some (i, .int x)) (hv : x + Int32.ofInt n = v) (hn : i < nL) (hl9 : (i, Value.int v) :: lv.filter (fun q => !(q.1 == i) && !(q.1 + 1 == i && q.2.category == 2)) = lv') (kk : rW p l e R s m args below meth cd nL D cl A cells slots Q ad c (pc + 3) lv' st) : rW p l e R s m args below meth cd nL D cl A cells slots Q ad c pc lv st := fun H locs ls hP hS hl => lv_iinc X.1 X.2.1 hd hl hj hv hn hl9 (fun ls hl => kk H locs ls hP hS hl)
theorem r_goto (X : rX p s m args cd cc nL own Ts D cl tys A) {off : Int} (tgt : Nat) (hd : decode cc pc = .ok (.goto off, 3)) (ht : (pc : Int) + off = (tgt : Int)) (kk : rW p l e R s m args below meth cd nL D cl A cells slots Q ad c tgt lv st) : rW p l e R s m args below meth cd nL D cl A cells slots Q ad c pc lv st := fun H locs ls hP hS hl => lv_goto X.1 X.2.1 hd ht (kk H locs ls hP hS hl)
theorem r_if_eq (X : rX p s m args cd cc nL own Ts D cl tys A) {x : Int32} {off : Int} (tgt : Nat) (hd : decode cc pc = .ok (.ifCond .eq off, 3)) (ht : (pc : Int) + off = (tgt : Int)) (kt : x = 0 → rW p l e R s m args below meth cd nL D cl A cells slots Q ad c tgt lv st) (kf : ¬ x = 0 → rW p l e R s m args below meth cd nL D cl A cells slots Q ad c (pc + 3) lv st) : rW p l e R s m args below meth cd nL D cl A cells slots Q ad c pc lv (.int x :: st) := fun H locs ls hP hS hl => lv_if_eq X.1 X.2.1 hd ht (fun h => kt h H locs ls hP hS hl) (fun h => kf h H locs ls hP hS hl)
theorem r_icmp_eq (X : rX p s m args cd cc nL own Ts D cl tys A) {x y : Int32} {off : Int} (tgt : Nat) (hd : decode cc pc = .ok (.if_icmp .eq off, 3)) (ht : (pc : Int) + off = (tgt : Int)) (kt : x = y → rW p l e R s m args below meth cd nL D cl A cells slots Q ad c tgt lv st) (kf : ¬ x = y → rW p l e R s m args below meth cd nL D cl A cells slots Q ad c (pc + 3) lv st) : rW p l e R s m args below meth cd nL D cl A cells slots Q ad c pc lv (.int y :: .int x :: st) := fun H locs ls hP hS hl => lv_icmp_eq X.1 X.2.1 hd ht (fun h => kt h H locs ls hP hS hl) (fun h => kf h H locs ls hP hS hl)
theorem r_if_ne (X : rX p s m args cd cc nL own Ts D cl tys A) {x : Int32} {off : Int} (tgt : Nat) (hd : decode cc pc = .ok (.ifCond .ne off, 3)) (ht : (pc : Int) + off = (tgt : Int)) (kt : ¬ x = 0 → rW p l e R s m args below meth cd nL D cl A cells slots Q ad c tgt lv st) (kf : x = 0 → rW p l e R s m args below meth cd nL D cl A cells slots Q ad c (pc + 3) lv st) : rW p l e R s m args below meth cd nL D cl A cells slots Q ad c pc lv (.int x :: st) := fun H locs ls hP hS hl => lv_if_ne X.1 X.2.1 hd ht (fun h => kt h H locs ls hP hS hl) (fun h => kf h H locs ls hP hS hl)
theorem r_icmp_ne (X : rX p s m args cd cc nL own Ts D cl tys A) {x y : Int32} {off : Int} (tgt : Nat) (hd : decode cc pc = .ok (.if_icmp .ne off, 3)) (ht : (pc : Int) + off = (tgt : Int)) (kt : ¬ x = y → rW p l e R s m args below meth cd nL D cl A cells slots Q ad c tgt lv st) (kf : x = y → rW p l e R s m args below meth cd nL D cl A cells slots Q ad c (pc + 3) lv st) : rW p l e R s m args below meth cd nL D cl A cells slots Q ad c pc lv (.int y :: .int x :: st) := fun H locs ls hP hS hl => lv_icmp_ne X.1 X.2.1 hd ht (fun h => kt h H locs ls hP hS hl) (fun h => kf h H locs ls hP hS hl)
theorem r_if_lt (X : rX p s m args cd cc nL own Ts D cl tys A) {x : Int32} {off : Int} (tgt : Nat) (hd : decode cc pc = .ok (.ifCond .lt off, 3)) (ht : (pc : Int) + off = (tgt : Int)) (kt : x < 0 → rW p l e R s m args below meth cd nL D cl A cells slots Q ad c tgt lv st) (kf : ¬ x < 0 → rW p l e R s m args below meth cd nL D cl A cells slots Q ad c (pc + 3) lv st) : rW p l e R s m args below meth cd nL D cl A cells slots Q ad c pc lv (.int x :: st) := fun H locs ls hP hS hl => lv_if_lt X.1 X.2.1 hd ht (fun h => kt h H locs ls hP hS hl) (fun h => kf h H locs ls hP hS hl)
theorem r_icmp_lt (X : rX p s m args cd cc nL own Ts D cl tys A) {x y : Int32} {off : Int} (tgt : Nat) (hd : decode cc pc = .ok (.if_icmp .lt off, 3)) (ht : (pc : Int) + off = (tgt : Int)) (kt : x < y → rW p l e R s m args below meth cd nL D cl A cells slots Q ad c tgt lv st) (kf : ¬ x < y → rW p l e R s m args below meth cd nL D cl A cells slots Q ad c (pc + 3) lv st) : rW p l e R s m args below meth cd nL D cl A cells slots Q ad c pc lv (.int y :: .int x :: st) := fun H locs ls hP hS hl => lv_icmp_lt X.1 X.2.1 hd ht (fun h => kt h H locs ls hP hS hl) (fun h => kf h H locs ls hP hS hl)
theorem r_if_ge (X : rX p s m args cd cc nL own Ts D cl tys A) {x : Int32} {off : Int} (tgt : Nat) (hd : decode cc pc = .ok (.ifCond .ge off, 3)) (ht : (pc : Int) + off = (tgt : Int)) (kt : 0 ≤ x → rW p l e R s m args below meth cd nL D cl A cells slots Q ad c tgt lv st) (kf : ¬ 0 ≤ x → rW p l e R s m args below meth cd nL D cl A cells slots Q ad c (pc + 3) lv st) : rW p l e R s m args below meth cd nL D cl A cells slots Q ad c pc lv (.int x :: st) := fun H locs ls hP hS hl => lv_if_ge X.1 X.2.1 hd ht (fun h => kt h H locs ls hP hS hl) (fun h => kf h H locs ls hP hS hl)
theorem r_icmp_ge (X : rX p s m args cd cc nL own Ts D cl tys A) {x y : Int32} {off : Int} (tgt : Nat) (hd : decode cc pc = .ok (.if_icmp .ge off, 3)) (ht : (pc : Int) + off = (tgt : Int)) (kt : y ≤ x → rW p l e R s m args below meth cd nL D cl A cells slots Q ad c tgt lv st) (kf : ¬ y ≤ x → rW p l e R s m args below meth cd nL D cl A cells slots Q ad c (pc + 3) lv st) : rW p l e R s m args below meth cd nL D cl A cells slots Q ad c pc lv (.int y :: .int x :: st) := fun H locs ls hP hS hl => lv_icmp_ge X.1 X.2.1 hd ht (fun h => kt h H locs ls hP hS hl) (fun h => kf h H locs ls hP hS hl)
theorem r_if_gt (X : rX p s m args cd cc nL own Ts D cl tys A) {x : Int32} {off : Int} (tgt : Nat) (hd : decode cc pc = .ok (.ifCond .gt off, 3)) (ht : (pc : Int) + off = (tgt : Int)) (kt : 0 < x → rW p l e R s m args below meth cd nL D cl A cells slots Q ad c tgt lv st) (kf : ¬ 0 < x → rW p l e R s m args below meth cd nL D cl A cells slots Q ad c (pc + 3) lv st) : rW p l e R s m args below meth cd nL D cl A cells slots Q ad c pc lv (.int x :: st) := fun H locs ls hP hS hl => lv_if_gt X.1 X.2.1 hd ht (fun h => kt h H locs ls hP hS hl) (fun h => kf h H locs ls hP hS hl)
theorem r_icmp_gt (X : rX p s m args cd cc nL own Ts D cl tys A) {x y : Int32} {off : Int} (tgt : Nat) (hd : decode cc pc = .ok (.if_icmp .gt off, 3)) (ht : (pc : Int) + off = (tgt : Int)) (kt : y < x → rW p l e R s m args below meth cd nL D cl A cells slots Q ad c tgt lv st) (kf : ¬ y < x → rW p l e R s m args below meth cd nL D cl A cells slots Q ad c (pc + 3) lv st) : rW p l e R s m args below meth cd nL D cl A cells slots Q ad c pc lv (.int y :: .int x :: st) := fun H locs ls hP hS hl => lv_icmp_gt X.1 X.2.1 hd ht (fun h => kt h H locs ls hP hS hl) (fun h => kf h H locs ls hP hS hl)
theorem r_if_le (X : rX p s m args cd cc nL own Ts D cl tys A) {x : Int32} {off : Int} (tgt : Nat) (hd : decode cc pc = .ok (.ifCond .le off, 3)) (ht : (pc : Int) + off = (tgt : Int)) (kt : x ≤ 0 → rW p l e R s m args below meth cd nL D cl A cells slots Q ad c tgt lv st) (kf : ¬ x ≤ 0 → rW p l e R s m args below meth cd nL D cl A cells slots Q ad c (pc + 3) lv st) : rW p l e R s m args below meth cd nL D cl A cells slots Q ad c pc lv (.int x :: st) := fun H locs ls hP hS hl => lv_if_le X.1 X.2.1 hd ht (fun h => kt h H locs ls hP hS hl) (fun h => kf h H locs ls hP hS hl)
theorem r_icmp_le (X : rX p s m args cd cc nL own Ts D cl tys A) {x y : Int32} {off : Int} (tgt : Nat) (hd : decode cc pc = .ok (.if_icmp .le off, 3)) (ht : (pc : Int) + off = (tgt : Int)) (kt : x ≤ y → rW p l e R s m args below meth cd nL D cl A cells slots Q ad c tgt lv st) (kf : ¬ x ≤ y → rW p l e R s m args below meth cd nL D cl A cells slots Q ad c (pc + 3) lv st) : rW p l e R s m args below meth cd nL D cl A cells slots Q ad c pc lv (.int y :: .int x :: st) := fun H locs ls hP hS hl => lv_icmp_le X.1 X.2.1 hd ht (fun h => kt h H locs ls hP hS hl) (fun h => kf h H locs ls hP hS hl)
theorem r_acmp_eq (X : rX p s m args cd cc nL own Ts D cl tys A) {x y : Option Nat} {off : Int} (tgt : Nat) (hd : decode cc pc = .ok (.if_acmp .eq off, 3)) (ht : (pc : Int) + off = (tgt : Int)) (kt : x = y → rW p l e R s m args below meth cd nL D cl A cells slots Q ad c tgt lv st) (kf : ¬ x = y → rW p l e R s m args below meth cd nL D cl A cells slots Q ad c (pc + 3) lv st) : rW p l e R s m args below meth cd nL D cl A cells slots Q ad c pc lv (va_rf y :: va_rf x :: st) := fun H locs ls hP hS hl => lv_acmp_eq X.1 X.2.1 hd ht (fun h => kt h H locs ls hP hS hl) (fun h => kf h H locs ls hP hS hl)
theorem r_acmp_ne (X : rX p s m args cd cc nL own Ts D cl tys A) {x y : Option Nat} {off : Int} (tgt : Nat) (hd : decode cc pc = .ok (.if_acmp .ne off, 3)) (ht : (pc : Int) + off = (tgt : Int)) (kt : ¬ x = y → rW p l e R s m args below meth cd nL D cl A cells slots Q ad c tgt lv st) (kf : x = y → rW p l e R s m args below meth cd nL D cl A cells slots Q ad c (pc + 3) lv st) : rW p l e R s m args below meth cd nL D cl A cells slots Q ad c pc lv (va_rf y :: va_rf x :: st) := fun H locs ls hP hS hl => lv_acmp_ne X.1 X.2.1 hd ht (fun h => kt h H locs ls hP hS hl) (fun h => kf h H locs ls hP hS hl)
theorem r_ifnull (X : rX p s m args cd cc nL own Ts D cl tys A) {x : Nat} {off : Int} (hd : decode cc pc = .ok (.ifnull off, 3)) (kk : rW p l e R s m args below meth cd nL D cl A cells slots Q ad c (pc + 3) lv st) : rW p l e R s m args below meth cd nL D cl A cells slots Q ad c pc lv (.ref x :: st) := fun H locs ls hP hS hl => lv_ifnull X.1 X.2.1 hd (kk H locs ls hP hS hl)
theorem r_ifnullN (X : rX p s m args cd cc nL own Ts D cl tys A) {off : Int} (tgt : Nat) (hd : decode cc pc = .ok (.ifnull off, 3)) (ht : (pc : Int) + off = (tgt : Int)) (kk : rW p l e R s m args below meth cd nL D cl A cells slots Q ad c tgt lv st) : rW p l e R s m args below meth cd nL D cl A cells slots Q ad c pc lv (.null :: st) := fun H locs ls hP hS hl => lv_ifnullN X.1 X.2.1 hd ht (kk H locs ls hP hS hl)
theorem r_ifnonnull (X : rX p s m args cd cc nL own Ts D cl tys A) {x : Nat} {off : Int} (tgt : Nat) (hd : decode cc pc = .ok (.ifnonnull off, 3)) (ht : (pc : Int) + off = (tgt : Int)) (kk : rW p l e R s m args below meth cd nL D cl A cells slots Q ad c tgt lv st) : rW p l e R s m args below meth cd nL D cl A cells slots Q ad c pc lv (.ref x :: st) := fun H locs ls hP hS hl => lv_ifnonnull X.1 X.2.1 hd ht (kk H locs ls hP hS hl)
theorem r_ifnonnullN (X : rX p s m args cd cc nL own Ts D cl tys A) {off : Int} (hd : decode cc pc = .ok (.ifnonnull off, 3)) (kk : rW p l e R s m args below meth cd nL D cl A cells slots Q ad c (pc + 3) lv st) : rW p l e R s m args below meth cd nL D cl A cells slots Q ad c pc lv (.null :: st) := fun H locs ls hP hS hl => lv_ifnonnullN X.1 X.2.1 hd (kk H locs ls hP hS hl)
theorem r_tableIn (X : rX p s m args cd cc nL own Ts D cl tys A) {dflt lo hi : Int} {offs : Array Int} {len : Nat} {x : Int32} {off : Int} (tgt : Nat) (hd : decode cc pc = .ok (.tableswitch dflt lo hi offs, len)) (h1 : ¬ x.toInt < lo) (h2 : ¬ hi < x.toInt) (ho : offs[(x.toInt - lo).toNat]? = some off) (ht : (pc : Int) + off = (tgt : Int)) (kk : rW p l e R s m args below meth cd nL D cl A cells slots Q ad c tgt lv st) : rW p l e R s m args below meth cd nL D cl A cells slots Q ad c pc lv (.int x :: st) := fun H locs ls hP hS hl => lv_tableIn X.1 X.2.1 hd h1 h2 ho ht (kk H locs ls hP hS hl)
theorem r_tableOut (X : rX p s m args cd cc nL own Ts D cl tys A) {dflt lo hi : Int} {offs : Array Int} {len : Nat} {x : Int32} (tgt : Nat) (hd : decode cc pc = .ok (.tableswitch dflt lo hi offs, len)) (h : x.toInt < lo ∨ hi < x.toInt) (ht : (pc : Int) + dflt = (tgt : Int)) (kk : rW p l e R s m args below meth cd nL D cl A cells slots Q ad c tgt lv st) : rW p l e R s m args below meth cd nL D cl A cells slots Q ad c pc lv (.int x :: st) := fun H locs ls hP hS hl => lv_tableOut X.1 X.2.1 hd h ht (kk H locs ls hP hS hl)
theorem r_topi {x : Int32} (k : ∀ y : Int32, y = x → rW p l e R s m args below meth cd nL D cl A cells slots Q ad c pc lv (.int y :: st)) : rW p l e R s m args below meth cd nL D cl A cells slots Q ad c pc lv (.int x :: st) := k x rfl
theorem r_top {x y : Int32} (h : x = y) (k : rW p l e R s m args below meth cd nL D cl A cells slots Q ad c pc lv (.int y :: st)) : rW p l e R s m args below meth cd nL D cl A cells slots Q ad c pc lv (.int x :: st) := h ▸ k
theorem r_lv (js : List Nat) (lv' : List (Nat × Value)) (hl9 : lv_pick lv js = lv') (kk : rW p l e R s m args below meth cd nL D cl A cells slots Q ad c pc lv' st) : rW p l e R s m args below meth cd nL D cl A cells slots Q ad c pc lv st := fun H locs ls hP hS hl => kk H locs ls hP hS (lv_sub hl js hl9)
theorem r_c (c' : rC) (h : c = c') (kk : rW p l e R s m args below meth cd nL D cl A cells slots Q ad c' pc lv st) : rW p l e R s m args below meth cd nL D cl A cells slots Q ad c pc lv st := h ▸ kk
theorem r_drop (ad' : Nat → Nat) (c' : rC) (hc : ∀ n x, c' n = some x → c n = some x ∧ ad' n = ad n) (kk : rW p l e R s m args below meth cd nL D cl A cells slots Q ad' c' pc lv st) : rW p l e R s m args below meth cd nL D cl A cells slots Q ad c pc lv st := fun H locs ls hP hS hl => kk H locs ls (hP.sub hc) hS hl
theorem r_get (X : rX p s m args cd cc nL own Ts D cl tys A) {ci : Nat} {C : String} {T : u_T} {N : Nat} {ty : Nat → FieldType} (K : rF Ts cl ci C T N ty) (k : Nat) (hk : k < N) {n i : Nat} {fs : List Value} {v : Value} {ref : String} (hw : Cond.fieldLink own i ref (T k).2.1 (T k).2.2.1 ∈ Ts) (hr : (T k).1 = ref) (hc : c n = some (.inr (ci, fs))) (hv : fs[k]? = some v) (hd : decode cc pc = .ok (.getfield i, 3)) (kk : rW p l e R s m args below meth cd nL D cl A cells slots Q ad c (pc + 3) lv (v :: st)) : rW p l e R s m args below meth cd nL D cl A cells slots Q ad c pc lv (.ref (ad n) :: st) := fun H locs ls hP hS hl =>
  va_get (ws := [(ad n, .inr (ci, fs))]) X.1 X.2.1 X.2.2.2.2.1 K.1 X.2.2.2.1 X.2.2.2.2.2.1 (fun j q h => by
    cases j with
    | zero => cases h; exact (hP.1 n _ hc).1
    | succ j => cases h) 0 rfl K.2.1 k hk (X.2.2.2.2.1 _ hw) (fun x h => hr ▸ h) hv hd (kk H locs ls hP hS hl)
theorem r_put (X : rX p s m args cd cc nL own Ts D cl tys A) {ci : Nat} {C : String} {T : u_T} {N : Nat} {ty : Nat → FieldType} (K : rF Ts cl ci C T N ty) (k : Nat) (hk : k < N) {n i : Nat} {fs : List Value} {v : Value} {ref : String} (hw : Cond.fieldLink own i ref (T k).2.1 (T k).2.2.1 ∈ Ts) (hr : (T k).1 = ref) (hc : c n = some (.inr (ci, fs))) (hfin : (T k).2.2.2 = false) (hn : narrow (ty k) v = v) (hv : fits (ty k) v = true) (hlen : k < fs.length) (fs' : List Value) (hfs : fs.set k v = fs') (c' : rC) (hc' : va_up c n (some (.inr (ci, fs'))) = c') (hd : decode cc pc = .ok (.putfield i, 3)) (kk : rW p l e R s m args below meth cd nL D cl A cells slots Q ad c' (pc + 3) lv st) : rW p l e R s m args below meth cd nL D cl A cells slots Q ad c pc lv (v :: .ref (ad n) :: st) := by
  intro H locs ls hP hS hl
  subst hr; subst hfs; subst hc'
  obtain ⟨hx, hb, hml, hown, hts, hK, hA⟩ := X
  obtain ⟨hin, hcl, hty, hnm⟩ := K
  have hap := va_apart (own := own) hts hin ty hty hnm hK hcl
  obtain ⟨r, h1, cell, q1, q2, q3, q4⟩ := (hP.1 n _ hc).1
  have hr : r = (C, T, N) := Option.some.inj (h1.symm.trans hcl)
  subst hr
  obtain ⟨hSl, hfc, kC, hkC, hkind⟩ := hK.1 ci _ hcl
  obtain ⟨cf, kf, fi, f, hi, hsl⟩ := hSl k hk
  have hlay := hts _ (hin _ (u_in_lay hk))
  unfold u_lay at hlay
  rw [if_neg (by rw [hfin]; decide)] at hlay
  have hst := (u_facts hfc hkC (u_lays hts hin hk) hi).1
  have h6 := u_store hfc hkC hkind hlay hi (hty k hk) hn hv
  refine W.putK hx hb (f := f) ⟨hown, hts _ hw, ⟨_, _, _, hi⟩, hst⟩ (by rw [q2]; exact h6) q1 q3 (by rw [hsl]; exact k2_hasslot (q4 k hk)) rfl rfl hd fun H' e1 e2 e3 => ?_
  rw [hsl] at e1 ⊢
  exact kk H' _ ls (hP.put hc ⟨_, hcl, t_OB.to (V := updV (vp_V fs) k v) ⟨_, e1, q2, q3, t_set q4 hap hk v⟩ (fun j _ => vp_updV_set hlen v j)⟩ e3) (hS.put e2 e3 (hP.1 n _ hc).2) hl
theorem r_putF (X : rX p s m args cd cc nL own Ts D cl tys A) {ci : Nat} {C : String} {T : u_T} {N : Nat} {ty : Nat → FieldType} (K : rF Ts cl ci C T N ty) (k : Nat) (hk : k < N) {n i : Nat} {fs : List Value} {v : Value} {ref : String} (hw : Cond.fieldLink own i ref (T k).2.1 (T k).2.2.1 ∈ Ts) (hr : (T k).1 = ref) (hc : c n = some (.inr (ci, fs))) (hfin : (T k).2.2.2 = true) (hdecl : (T k).1 = own) (hin2 : meth.name = "<init>") (hn : narrow (ty k) v = v) (hv : fits (ty k) v = true) (hlen : k < fs.length) (fs' : List Value) (hfs : fs.set k v = fs') (c' : rC) (hc' : va_up c n (some (.inr (ci, fs'))) = c') (hd : decode cc pc = .ok (.putfield i, 3)) (kk : rW p l e R s m args below meth cd nL D cl A cells slots Q ad c' (pc + 3) lv st) : rW p l e R s m args below meth cd nL D cl A cells slots Q ad c pc lv (v :: .ref (ad n) :: st) := by
  intro H locs ls hP hS hl
  subst hr; subst hfs; subst hc'
  obtain ⟨hx, hb, hml, hown, hts, hK, hA⟩ := X
  obtain ⟨hin, hcl, hty, hnm⟩ := K
  have hap := va_apart (own := own) hts hin ty hty hnm hK hcl
  obtain ⟨r, h1, cell, q1, q2, q3, q4⟩ := (hP.1 n _ hc).1
  have hr : r = (C, T, N) := Option.some.inj (h1.symm.trans hcl)
  subst hr
  obtain ⟨hSl, hfc, kC, hkC, hkind⟩ := hK.1 ci _ hcl
  obtain ⟨cf, kf, fi, f, hi, hsl⟩ := hSl k hk
  have hlay := hts _ (hin _ (u_in_lay hk))
  unfold u_lay at hlay
  rw [if_pos hfin] at hlay
  have hst := (u_facts hfc hkC (u_lays hts hin hk) hi).1
  have hcf : m.cls = cf := by
    obtain ⟨_, _, c', _, _, _, -, -, hf', -, -, -, hown2, -⟩ := Cond.laysFinal_spec hlay
    have e1 : c' = cf := by have := hi.symm.trans hf'; simp at this; exact this.1.symm
    rw [hdecl] at hown2
    rw [← e1]; exact Option.some.inj (hown.symm.trans hown2)
  have h6 := u_fits hfc hkC hkind (Or.inr hlay) hi (hty k hk) hn hv
  refine W.putFinK hx hb hown (hts _ hw) hi hst hcf hin2 (by rw [q2]; exact h6) q1 q3 (by rw [hsl]; exact k2_hasslot (q4 k hk)) rfl rfl hd fun H' e1 e2 e3 => ?_
  rw [hsl] at e1 ⊢
  exact kk H' _ ls (hP.put hc ⟨_, hcl, t_OB.to (V := updV (vp_V fs) k v) ⟨_, e1, q2, q3, t_set q4 hap hk v⟩ (fun j _ => vp_updV_set hlen v j)⟩ e3) (hS.put e2 e3 (hP.1 n _ hc).2) hl
theorem rp.one {H : Heap} (hP : rp D cl A ad c H) {n : Nat} {x : va_E} (hc : c n = some x) : va_P D cl [(ad n, x)] H := fun j q h => by
  cases j with
  | zero => cases h; exact (hP.1 n _ hc).1
  | succ j => cases h
theorem r_iald (X : rX p s m args cd cc nL own Ts D cl tys A) (t : Nat) {n N : Nat} {cA : ClassId} {f : Nat → Int32} {i v : Int32} (hc : c n = some (.inl (cA, N, .inl f))) (ht : tys[t]? = some (cA, .int)) (hi : vp_in i N) (hv : f i.toNatClampNeg = v) (hd : decode cc pc = .ok (.iaload, 1)) (kk : rW p l e R s m args below meth cd nL D cl A cells slots Q ad c (pc + 1) lv (.int v :: st)) : rW p l e R s m args below meth cd nL D cl A cells slots Q ad c pc lv (.int i :: .ref (ad n) :: st) := fun H locs ls hP hS hl => va_iald X.1 X.2.1 X.2.2.2.2.2.1 (hP.one hc) 0 t rfl ht hi hd (by rw [hv]; exact kk H locs ls hP hS hl)
theorem r_zald (X : rX p s m args cd cc nL own Ts D cl tys A) (t : Nat) {n N : Nat} {cA : ClassId} {f : Nat → Int32} {i v : Int32} (hc : c n = some (.inl (cA, N, .inl f))) (ht : tys[t]? = some (cA, .boolean)) (hi : vp_in i N) (hv : f i.toNatClampNeg = v) (hd : decode cc pc = .ok (.baload, 1)) (kk : rW p l e R s m args below meth cd nL D cl A cells slots Q ad c (pc + 1) lv (.int v :: st)) : rW p l e R s m args below meth cd nL D cl A cells slots Q ad c pc lv (.int i :: .ref (ad n) :: st) := fun H locs ls hP hS hl => va_zald X.1 X.2.1 X.2.2.2.2.2.1 (hP.one hc) 0 t rfl ht hi hd (by rw [hv]; exact kk H locs ls hP hS hl)
theorem r_aald (X : rX p s m args cd cc nL own Ts D cl tys A) (t : Nat) {n N : Nat} {cA : ClassId} {C : String} {f : Nat → Option Nat} {i : Int32} {v : Value} (hc : c n = some (.inl (cA, N, .inr (.inr (.inr (.inr f)))))) (ht : tys[t]? = some (cA, .object C)) (hi : vp_in i N) (hv : va_rf (f i.toNatClampNeg) = v) (hd : decode cc pc = .ok (.aaload, 1)) (kk : rW p l e R s m args below meth cd nL D cl A cells slots Q ad c (pc + 1) lv (v :: st)) : rW p l e R s m args below meth cd nL D cl A cells slots Q ad c pc lv (.int i :: .ref (ad n) :: st) := fun H locs ls hP hS hl => va_aldq X.1 X.2.1 X.2.2.2.2.2.1 (hP.one hc) 0 t rfl ht hi hd (by rw [hv]; exact kk H locs ls hP hS hl)
theorem r_alen (X : rX p s m args cd cc nL own Ts D cl tys A) (t : Nat) {n : Nat} {cA : ClassId} {x : vp_A} {ty : FieldType} {v : Int32} (hc : c n = some (.inl (cA, x))) (ht : tys[t]? = some (cA, ty)) (hv : Int32.ofNat x.1 = v) (hd : decode cc pc = .ok (.arraylength, 1)) (kk : rW p l e R s m args below meth cd nL D cl A cells slots Q ad c (pc + 1) lv (.int v :: st)) : rW p l e R s m args below meth cd nL D cl A cells slots Q ad c pc lv (.ref (ad n) :: st) := fun H locs ls hP hS hl => va_alen X.1 X.2.1 X.2.2.2.2.2.1 (hP.one hc) 0 t rfl ht hv hd (kk H locs ls hP hS hl)
theorem r_iast (X : rX p s m args cd cc nL own Ts D cl tys A) (t : Nat) {n N : Nat} {cA : ClassId} {f f' : Nat → Int32} {i x : Int32} (hc : c n = some (.inl (cA, N, .inl f))) (ht : tys[t]? = some (cA, .int)) (hi : vp_in i N) (hf : upd f i.toNatClampNeg x = f') (c' : rC) (hc' : va_up c n (some (.inl (cA, N, .inl f'))) = c') (hd : decode cc pc = .ok (.iastore, 1)) (kk : rW p l e R s m args below meth cd nL D cl A cells slots Q ad c' (pc + 1) lv st) : rW p l e R s m args below meth cd nL D cl A cells slots Q ad c pc lv (.int x :: .int i :: .ref (ad n) :: st) := by
  intro H locs ls hP hS hl
  subst hf; subst hc'
  refine W.iast X.1 X.2.1 (hP.1 n _ hc).1 ((X.2.2.2.2.2.1.2 t _ ht).1 N (fun j => .int (f j))) (fun q => by cases q) (by show ¬ (i < 0 ∨ (arrV _ _ _).slots.size ≤ _); rw [arrV_size]; exact hi) rfl rfl hd fun H1 e1 z oq => ?_
  refine kk H1 _ ls (hP.put hc ?_ oq) (hS.put z oq (hP.1 n _ hc).2) hl
  show H1[ad n]? = some (vp_cell _ _)
  rw [e1]
  rw [vp_cell_i, vp_cell_i, arrV_store]
  congr 2
  funext q
  by_cases hq : q = i.toNatClampNeg
  · subst hq
    simp [updV, upd]
  · simp [updV, upd, hq]
theorem r_zast (X : rX p s m args cd cc nL own Ts D cl tys A) (t : Nat) {n N : Nat} {cA : ClassId} {f f' : Nat → Int32} {i x : Int32} (hc : c n = some (.inl (cA, N, .inl f))) (ht : tys[t]? = some (cA, .boolean)) (hi : vp_in i N) (hx : narrow .boolean (.int x) = .int x) (hf : upd f i.toNatClampNeg x = f') (c' : rC) (hc' : va_up c n (some (.inl (cA, N, .inl f'))) = c') (hd : decode cc pc = .ok (.bastore, 1)) (kk : rW p l e R s m args below meth cd nL D cl A cells slots Q ad c' (pc + 1) lv st) : rW p l e R s m args below meth cd nL D cl A cells slots Q ad c pc lv (.int x :: .int i :: .ref (ad n) :: st) := by
  intro H locs ls hP hS hl
  subst hf; subst hc'
  refine W.zast X.1 X.2.1 (hP.1 n _ hc).1 ((X.2.2.2.2.2.1.2 t _ ht).1 N (fun j => .int (f j))) (fun q => by cases q) (by show ¬ (i < 0 ∨ (arrV _ _ _).slots.size ≤ _); rw [arrV_size]; exact hi) rfl rfl hd fun H1 e1 z oq => ?_
  refine kk H1 _ ls (hP.put hc ?_ oq) (hS.put z oq (hP.1 n _ hc).2) hl
  show H1[ad n]? = some (vp_cell _ _)
  rw [e1, hx]
  rw [vp_cell_i, vp_cell_i, arrV_store]
  congr 2
  funext q
  by_cases hq : q = i.toNatClampNeg
  · subst hq
    simp [updV, upd]
  · simp [updV, upd, hq]
theorem r_aast (X : rX p s m args cd cc nL own Ts D cl tys A) (t : Nat) {n N n2 ci : Nat} {cA : ClassId} {r : vw_C} {vs : List Value} {f f' : Nat → Option Nat} {i : Int32} (hc : c n = some (.inl (cA, N, .inr (.inr (.inr (.inr f)))))) (ht : tys[t]? = some (cA, .object r.1)) (hc2 : c n2 = some (.inr (ci, vs))) (hcl : cl[ci]? = some r) (hi : vp_in i N) (hf : va_up f i.toNatClampNeg (some (ad n2)) = f') (c' : rC) (hc' : va_up c n (some (.inl (cA, N, .inr (.inr (.inr (.inr f')))))) = c') (hd : decode cc pc = .ok (.aastore, 1)) (kk : rW p l e R s m args below meth cd nL D cl A cells slots Q ad c' (pc + 1) lv st) : rW p l e R s m args below meth cd nL D cl A cells slots Q ad c pc lv (.ref (ad n2) :: .int i :: .ref (ad n) :: st) := by
  intro H locs ls hP hS hl
  subst hf; subst hc'
  have hlt : i.toNatClampNeg < N := Nat.not_le.mp fun q => hi (Or.inr q)
  have h0 : ¬ i < 0 := fun q => hi (Or.inl q)
  obtain ⟨r', hr', cellV, g1, g2, g3, -⟩ := (hP.1 n2 _ hc2).1
  have hcls := (X.2.2.2.2.2.1.1 ci r hcl).2
  obtain ⟨kA, comp, k1, k2, k3, -⟩ := (X.2.2.2.2.2.1.2 t _ ht).2
  have hcomp : comp = D.1 ci := Option.some.inj (k3.symm.trans hcls.1)
  subst hcomp
  obtain ⟨kC, hkC, -⟩ := hcls.2
  refine W.aast X.1 X.2.1 (hP.1 n _ hc).1 (fun q h => by cases h) (fun h => by cases h) k1 k2 rfl hkC ⟨h0, by show _ < (arrV _ _ _).slots.size; rw [arrV_size]; exact hlt⟩ g1 (fun q h => by rw [g3] at h; cases h) (by rw [g2]; exact hkC) (by rw [g2]; exact va_assign hcls) rfl rfl hd fun H1 e1 z oq => ?_
  refine kk H1 _ ls (hP.put hc ?_ oq) (hS.put z oq (hP.1 n _ hc).2) hl
  show H1[ad n]? = some (vp_cell _ _)
  rw [e1]
  rw [vp_cell_q, vp_cell_q, arrV_store]
  congr 2
  funext q
  by_cases hq : q = i.toNatClampNeg
  · subst hq
    simp [updV, va_up, va_rf]
  · simp [updV, va_up, hq]
end RROWS
-- ===== contracts: a method's end tells places and contents; calls =====
/-- words that are no good words (they are carried by hand): nests, casts -/
def rNk : Cond → Bool
  | .methodLinkNest _ _ _ _ => true
  | .fieldLinkNest _ _ _ _ _ _ => true
  | .castable _ _ => true
  | _ => false
def rN (NW : List Cond) (U : State) : Prop := (∀ w ∈ NW, rNk w = true) ∧ ∀ w ∈ NW, va_Nw w U
theorem rN.warm {NW : List Cond} {s U : State} (hW : s.WarmedH U.vm) (h : rN NW s) : rN NW U := by
  refine ⟨h.1, fun w hw => ?_⟩
  have h1 := h.1 w hw
  have h2 := h.2 w hw
  cases w <;> first | exact absurd (show (false = true) from h1) (by decide) | exact va_Nw.warmM hW h2 | exact va_Nw.warmF hW h2 | exact va_Nw.warmC hW h2
theorem rN.same {NW : List Cond} {u U : State} (hv : u.vm = U.vm) (h : rN NW u) : rN NW U := by
  refine ⟨h.1, fun w hw => ?_⟩
  have h1 := h.1 w hw
  have h2 := h.2 w hw
  cases w <;> first | exact absurd (show (false = true) from h1) (by decide) | exact va_Nw.same rfl hv h2
/-- a method's start: places, contents, the classes, the words by hand -/
def rP (D : va_G) (cl : List vw_C) (tys : List (ClassId × FieldType)) (NW : List Cond) (ad : Nat → Nat) (c : rC) (sz : Nat) (U : State) : Prop := U.heap.size = sz ∧ rp D cl (fun _ => True) ad c U.heap ∧ va_K D cl tys U ∧ rN NW U
abbrev rU : Type := (Nat → Nat) × rC
def rMi (l : Launch) (D : va_G) (cl : List vw_C) (tys : List (ClassId × FieldType)) (NW : List Cond) (y : MethodName) (ws : List Cond) (rm : Room) (args : List Value) (ad : Nat → Nat) (c : rC) (post : Int32 → (Nat → Nat) → rC → Prop) : Prop :=
  ∀ sz : Nat, Met l y ws rm (va_Pc args (rP D cl tys NW ad c sz)) (va_Qi (fun r (u : rU) => post r u.1 u.2) (fun u t => rp D cl (rA ad c sz) u.1 u.2 t.heap) (rA ad c sz)) rm.cells rm.slots (rA ad c sz)
def rMl (l : Launch) (D : va_G) (cl : List vw_C) (tys : List (ClassId × FieldType)) (NW : List Cond) (y : MethodName) (ws : List Cond) (rm : Room) (args : List Value) (ad : Nat → Nat) (c : rC) (post : Int64 → (Nat → Nat) → rC → Prop) : Prop :=
  ∀ sz : Nat, Met l y ws rm (va_Pc args (rP D cl tys NW ad c sz)) (va_Ql (fun r (u : rU) => post r u.1 u.2) (fun u t => rp D cl (rA ad c sz) u.1 u.2 t.heap) (rA ad c sz)) rm.cells rm.slots (rA ad c sz)
def rMd (l : Launch) (D : va_G) (cl : List vw_C) (tys : List (ClassId × FieldType)) (NW : List Cond) (y : MethodName) (ws : List Cond) (rm : Room) (args : List Value) (ad : Nat → Nat) (c : rC) (post : UInt64 → (Nat → Nat) → rC → Prop) : Prop :=
  ∀ sz : Nat, Met l y ws rm (va_Pc args (rP D cl tys NW ad c sz)) (va_Qd (fun r (u : rU) => post r u.1 u.2) (fun u t => rp D cl (rA ad c sz) u.1 u.2 t.heap) (rA ad c sz)) rm.cells rm.slots (rA ad c sz)
def rMv (l : Launch) (D : va_G) (cl : List vw_C) (tys : List (ClassId × FieldType)) (NW : List Cond) (y : MethodName) (ws : List Cond) (rm : Room) (args : List Value) (ad : Nat → Nat) (c : rC) (post : (Nat → Nat) → rC → Prop) : Prop :=
  ∀ sz : Nat, Met l y ws rm (va_Pc args (rP D cl tys NW ad c sz)) (va_Qv (fun (u : rU) => post u.1 u.2) (fun u t => rp D cl (rA ad c sz) u.1 u.2 t.heap) (rA ad c sz)) rm.cells rm.slots (rA ad c sz)
def rMq (l : Launch) (D : va_G) (cl : List vw_C) (tys : List (ClassId × FieldType)) (NW : List Cond) (y : MethodName) (ws : List Cond) (rm : Room) (args : List Value) (ad : Nat → Nat) (c : rC) (post : Option Nat → (Nat → Nat) → rC → Prop) : Prop :=
  ∀ sz : Nat, Met l y ws rm (va_Pc args (rP D cl tys NW ad c sz)) (va_Qq (fun r (u : rU) => post r u.1 u.2) (fun u t => rp D cl (rA ad c sz) u.1 u.2 t.heap) (rA ad c sz)) rm.cells rm.slots (rA ad c sz)
theorem rP.blind {D : va_G} {cl : List vw_C} {tys : List (ClassId × FieldType)} {NW : List Cond} {ad : Nat → Nat} {c : rC} {sz : Nat} {av : List Value} : FrameBlind (va_Pc av (rP D cl tys NW ad c sz)) := fun a U g mk q => by
  obtain ⟨q0, q1, qP, qK, qN⟩ := q
  exact ⟨q0, q1, qP, va_K.moved (u := U) (U := U.calling g mk a) (Vm.Alike.refl U.vm) qK, qN.same (u := U) (U := U.calling g mk a) rfl⟩
theorem rP.at {D : va_G} {cl : List vw_C} {tys : List (ClassId × FieldType)} {NW : List Cond} {A : Nat → Prop} {ad : Nat → Nat} {c : rC} {s U : State} {H : Heap} (hU : U.heap = H) (hW : s.WarmedH U.vm) (hP : rp D cl A ad c H) (hK : va_K D cl tys s) (hN : rN NW s) : rP D cl tys NW ad c H.size U :=
  ⟨by rw [hU], by rw [hU]; exact hP.mono (fun _ _ _ => trivial), va_K.moved hW.alike hK, hN.warm hW⟩
theorem rA.in {D : va_G} {cl : List vw_C} {A : Nat → Prop} {ad : Nat → Nat} {c : rC} {H0 H : Heap} {locs : List Loc} (hP : rp D cl A ad c H) (hS : va_S A H0 H locs) (hA : ∀ q, H0.size ≤ q → A q) : ∀ q, rA ad c H.size q → A q := fun q h => by
  rcases h with ⟨n, h1, rfl⟩ | h
  · cases e : c n with
    | none => exact absurd e h1
    | some x => exact (hP.1 n x e).2
  · exact hA q (Nat.le_trans hS.1 h)
/-- a method of ours as its callers see it: code and words -/
def rYV (W0 : List Cond) (y : MethodName) (bytes : ByteArray) (maxL : Nat) (ret : Option FieldType) (C : String) (n : Nat) : Prop :=
  Cond.code y bytes maxL ret ∈ W0 ∧ Cond.instanceMethod y ∈ W0 ∧ Cond.selects C y y ∈ W0 ∧ Cond.initialized C ∈ W0 ∧ y.cls = C ∧ y.cls ≠ "java/lang/invoke/MethodHandle" ∧ y.cls ≠ "java/lang/invoke/VarHandle" ∧ (parseMethodDescriptor y.desc).map (fun d => d.parameters.length) = some n
def rYS (W0 : List Cond) (y : MethodName) (bytes : ByteArray) (maxL : Nat) (ret : Option FieldType) (n : Nat) : Prop :=
  Cond.code y bytes maxL ret ∈ W0 ∧ Cond.static y ∈ W0 ∧ Cond.initialized y.cls ∈ W0 ∧ y.cls ≠ "java/lang/invoke/MethodHandle" ∧ y.cls ≠ "java/lang/invoke/VarHandle" ∧ (parseMethodDescriptor y.desc).map (fun d => d.parameters.length) = some n
def rYI (W0 : List Cond) (y : MethodName) (bytes : ByteArray) (maxL : Nat) (n : Nat) : Prop :=
  Cond.code y bytes maxL none ∈ W0 ∧ Cond.instanceMethod y ∈ W0 ∧ Cond.initialized y.cls ∈ W0 ∧ y.name = "<init>" ∧ y.cls ≠ "java/lang/invoke/MethodHandle" ∧ y.cls ≠ "java/lang/invoke/VarHandle" ∧ (parseMethodDescriptor y.desc).map (fun d => d.parameters.length) = some n
theorem rY_good {W0 : List Cond} {y : MethodName} {bytes : ByteArray} {maxL : Nat} {ret : Option FieldType} (hG : GoodIn W0 W0) (h : Cond.code y bytes maxL ret ∈ W0) : GoodIn W0 (Cond.code y bytes maxL ret :: W0) := fun w hw => by
  rcases List.mem_cons.mp hw with rfl | hw
  · exact hG _ h
  · exact hG w hw
section RCALL
variable {p : Program} {l : Launch} {e : Env} {R : Room} {s : State} {m : MethodId} {args : Array Value} {below : List Frame} {meth : Method} {cd : Code} {cc : ByteArray} {nL : Nat} {own : String} {W0 : List Cond} {D : va_G} {cl : List vw_C} {tys : List (ClassId × FieldType)} {NW : List Cond} {A : Nat → Prop} {cells slots : Nat} {Q : State → Prop} {ad : Nat → Nat} {c : rC} {pc : Nat} {lv : List (Nat × Value)} {st st0 : List Value} {rm : Room} {y : MethodName} {bytes : ByteArray} {maxL n i : Nat} {ret : Option FieldType} {C : String} {As : List Value}
def rRunQ (p : Program) (l : Launch) (e : Env) (R : Room) (s : State) (m : MethodId) (args : Array Value) (below : List Frame) (meth : Method) (cd : Code) (nL : Nat) (D : va_G) (cl : List vw_C) (A : Nat → Prop) (cells slots : Nat) (ad : Nat → Nat) (c : rC) (pc : Nat) (st0 st : List Value) (rm : Room) (a : Array Value) (Qc : Nat → Array Value → State → Outcome → State → Prop) : Prop :=
  ∀ (H : Heap) (locs : List Loc) (ls : Array Slot), rp D cl A ad c H → va_S A s.heap H locs → ls.size = nL → va_Run p l e R s m args below meth cd H locs cells slots rm.cells rm.slots (F0 m pc ls st0) st (Qc H.size a) (rA ad c H.size)
/-- a call of an instance method on the object of the name n0 -/
theorem r_runV (X : rX p s m args cd cc nL own W0 D cl tys A) (hG : GoodIn W0 W0) (hN : rN NW s) {n0 ci : Nat} {r : vw_C} {fs : List Value} {Qc : Nat → Array Value → State → Outcome → State → Prop} (hM : ∀ sz, Met l y (Cond.code y bytes maxL ret :: W0) rm (va_Pc (Value.ref (ad n0) :: As) (rP D cl tys NW ad c sz)) (Qc sz) rm.cells rm.slots (rA ad c sz)) (Y : rYV W0 y bytes maxL ret C n) (hw : Cond.methodLink own i y ∈ W0) (hc0 : c n0 = some (.inr (ci, fs))) (hcl : cl[ci]? = some r) (hr : r.1 = C) (hn : As.length = n) (hst : st0 = As.reverse ++ .ref (ad n0) :: st) (hR : rm.frames + 1 ≤ R.frames ∧ 8 + (maxL + 11) + rm.locals ≤ R.locals) (hroom : (st.map fun v => v.category).sum ≤ 8) (hf : cells + rm.cells ≤ R.cells ∧ slots + rm.slots ≤ R.slots) (hd : decode cc pc = .ok (.invokevirtual i, 3)) :
    rRunQ p l e R s m args below meth cd nL D cl A cells slots ad c pc st0 st rm (Value.ref (ad n0) :: As).toArray Qc := by
  intro H locs ls hP hS hls
  subst hst; subst hr
  obtain ⟨hx, hb, hml, hown, hts, hK, hA⟩ := X
  obtain ⟨y1, y2, y3, y4, y5⟩ := Y
  have hT : GoodIn W0 (wsV own i r.1 y (Cond.code y bytes maxL ret :: W0)) := fun w h => by
    rcases List.mem_append.mp h with h | h
    · simp only [List.mem_cons, List.not_mem_nil, or_false] at h
      rcases h with rfl | rfl | rfl | rfl
      · exact hG _ hw
      · exact hG _ y2
      · exact hG _ y3
      · exact hG _ y4
    · exact rY_good hG y1 w h
  exact va_runV (As := As) (rest := st) ⟨hx, hb, hml, hown, hts⟩ (hM H.size) (cwV n hts hT rfl rfl rfl y5 hR) ⟨rP.blind, va_recv hK (hP.one hc0) (q0 := 0) hcl rfl, fun U hU hW => ⟨rfl, rP.at hU hW hP hK hN⟩⟩ rfl hn hls rfl (lv_room hroom) hd hf
theorem r_runS (X : rX p s m args cd cc nL own W0 D cl tys A) (hG : GoodIn W0 W0) (hN : rN NW s) {Qc : Nat → Array Value → State → Outcome → State → Prop} (hM : ∀ sz, Met l y (Cond.code y bytes maxL ret :: W0) rm (va_Pc As (rP D cl tys NW ad c sz)) (Qc sz) rm.cells rm.slots (rA ad c sz)) (Y : rYS W0 y bytes maxL ret n) (hw : Cond.methodLink own i y ∈ W0) (hn : As.length = n) (hst : st0 = As.reverse ++ st) (hR : rm.frames + 1 ≤ R.frames ∧ 8 + (maxL + 11) + rm.locals ≤ R.locals) (hroom : (st.map fun v => v.category).sum ≤ 8) (hf : cells + rm.cells ≤ R.cells ∧ slots + rm.slots ≤ R.slots) (hd : decode cc pc = .ok (.invokestatic i, 3)) :
    rRunQ p l e R s m args below meth cd nL D cl A cells slots ad c pc st0 st rm As.toArray Qc := by
  intro H locs ls hP hS hls
  subst hst
  obtain ⟨hx, hb, hml, hown, hts, hK, hA⟩ := X
  obtain ⟨y1, y2, y4, y5⟩ := Y
  have hT : GoodIn W0 (va_wsS own i y (Cond.code y bytes maxL ret :: W0)) := fun w h => by
    rcases List.mem_append.mp h with h | h
    · simp only [List.mem_cons, List.not_mem_nil, or_false] at h
      rcases h with rfl | rfl | rfl
      · exact hG _ hw
      · exact hG _ y2
      · exact hG _ y4
    · exact rY_good hG y1 w h
  exact va_runS (As := As) (rest := st) ⟨hx, hb, hml, hown, hts⟩ (hM H.size) (va_cwS n hts hT rfl rfl rfl y5 hR) ⟨rP.blind, fun U hU hW => ⟨rfl, rP.at hU hW hP hK hN⟩⟩ rfl hn hls rfl (lv_room hroom) hd hf
/-- a static method of a nest mate -/
theorem r_runSN (X : rX p s m args cd cc nL own W0 D cl tys A) (hG : GoodIn W0 W0) (hN : rN NW s) {host : String} {Qc : Nat → Array Value → State → Outcome → State → Prop} (hM : ∀ sz, Met l y (Cond.code y bytes maxL ret :: W0) rm (va_Pc As (rP D cl tys NW ad c sz)) (Qc sz) rm.cells rm.slots (rA ad c sz)) (Y : rYS W0 y bytes maxL ret n) (hw : Cond.methodLinkNest own i y host ∈ NW) (hn : As.length = n) (hst : st0 = As.reverse ++ st) (hR : rm.frames + 1 ≤ R.frames ∧ 8 + (maxL + 11) + rm.locals ≤ R.locals) (hroom : (st.map fun v => v.category).sum ≤ 8) (hf : cells + rm.cells ≤ R.cells ∧ slots + rm.slots ≤ R.slots) (hd : decode cc pc = .ok (.invokestatic i, 3)) :
    rRunQ p l e R s m args below meth cd nL D cl A cells slots ad c pc st0 st rm As.toArray Qc := by
  intro H locs ls hP hS hls
  subst hst
  obtain ⟨hx, hb, hml, hown, hts, hK, hA⟩ := X
  obtain ⟨y1, y2, y4, y5⟩ := Y
  exact va_runSN (As := As) (rest := st) ⟨hx, hb, hml, hown, hts⟩ (hM H.size) ⟨va_cnB n hts (rY_good hG y1) rfl rfl rfl (hN.2 _ hw) (hts _ y4) y5 hR, hts _ y2, trivial⟩ ⟨rP.blind, fun U hU hW => ⟨rfl, rP.at hU hW hP hK hN⟩⟩ rfl hn hls rfl (lv_room hroom) hd hf
theorem r_runI (X : rX p s m args cd cc nL own W0 D cl tys A) (hG : GoodIn W0 W0) (hN : rN NW s) {b : Nat} {Qc : Nat → Array Value → State → Outcome → State → Prop} (hM : ∀ sz, Met l y (Cond.code y bytes maxL none :: W0) rm (va_Pc (Value.ref b :: As) (rP D cl tys NW ad c sz)) (Qc sz) rm.cells rm.slots (rA ad c sz)) (Y : rYI W0 y bytes maxL n) (hw : Cond.methodLink own i y ∈ W0) (hn : As.length = n) (hst : st0 = As.reverse ++ .ref b :: st) (hR : rm.frames + 1 ≤ R.frames ∧ 8 + (maxL + 11) + rm.locals ≤ R.locals) (hroom : (st.map fun v => v.category).sum ≤ 8) (hf : cells + rm.cells ≤ R.cells ∧ slots + rm.slots ≤ R.slots) (hd : decode cc pc = .ok (.invokespecial i, 3)) :
    rRunQ p l e R s m args below meth cd nL D cl A cells slots ad c pc st0 st rm (Value.ref b :: As).toArray Qc := by
  intro H locs ls hP hS hls
  subst hst
  obtain ⟨hx, hb, hml, hown, hts, hK, hA⟩ := X
  obtain ⟨y1, y2, y3, y4, y5⟩ := Y
  exact va_runI (As := As) (rest := st) ⟨hx, hb, hml, hown, hts⟩ (hM H.size) (cwI n hts (rY_good hG y1) rfl rfl rfl (hts _ y3) (hts _ hw) (hts _ y2) y4 y5 hR) ⟨rP.blind, fun U hU hW => ⟨rfl, rP.at hU hW hP hK hN⟩⟩ rfl hn hls rfl (lv_room hroom) hd hf
theorem r_runIN (X : rX p s m args cd cc nL own W0 D cl tys A) (hG : GoodIn W0 W0) (hN : rN NW s) {b : Nat} {host : String} {Qc : Nat → Array Value → State → Outcome → State → Prop} (hM : ∀ sz, Met l y (Cond.code y bytes maxL none :: W0) rm (va_Pc (Value.ref b :: As) (rP D cl tys NW ad c sz)) (Qc sz) rm.cells rm.slots (rA ad c sz)) (Y : rYI W0 y bytes maxL n) (hw : Cond.methodLinkNest own i y host ∈ NW) (hn : As.length = n) (hst : st0 = As.reverse ++ .ref b :: st) (hR : rm.frames + 1 ≤ R.frames ∧ 8 + (maxL + 11) + rm.locals ≤ R.locals) (hroom : (st.map fun v => v.category).sum ≤ 8) (hf : cells + rm.cells ≤ R.cells ∧ slots + rm.slots ≤ R.slots) (hd : decode cc pc = .ok (.invokespecial i, 3)) :
    rRunQ p l e R s m args below meth cd nL D cl A cells slots ad c pc st0 st rm (Value.ref b :: As).toArray Qc := by
  intro H locs ls hP hS hls
  subst hst
  obtain ⟨hx, hb, hml, hown, hts, hK, hA⟩ := X
  obtain ⟨y1, y2, y3, y4, y5⟩ := Y
  exact va_runIN (As := As) (rest := st) ⟨hx, hb, hml, hown, hts⟩ (hM H.size) ⟨va_cnB n hts (rY_good hG y1) rfl rfl rfl (hN.2 _ hw) (hts _ y3) y5 hR, y4, hts _ y2⟩ ⟨rP.blind, fun U hU hW => ⟨rfl, rP.at hU hW hP hK hN⟩⟩ rfl hn hls rfl (lv_room hroom) hd hf
-- behind a call
theorem r_calli (X : rX p s m args cd cc nL own W0 D cl tys A) {a : Array Value} {post : Int32 → (Nat → Nat) → rC → Prop} (hr : rRunQ p l e R s m args below meth cd nL D cl A cells slots ad c pc st0 st rm a (fun sz => va_Qi (fun r (u : rU) => post r u.1 u.2) (fun u t => rp D cl (rA ad c sz) u.1 u.2 t.heap) (rA ad c sz))) (kk : ∀ (r : Int32) (ad' : Nat → Nat) (c' : rC), post r ad' c' → rW p l e R s m args below meth cd nL D cl A (cells + rm.cells) (slots + rm.slots) Q ad' c' (pc + 3) lv (.int r :: st)) : rW p l e R s m args below meth cd nL D cl A cells slots Q ad c pc lv st0 := fun H locs ls hP hS hl => by
  have hF := rA.in hP hS X.2.2.2.2.2.2
  refine va_calli (hr H locs ls hP hS hl.1) hS (fun q _ h => hF q h) hF (fun r u t H1 locs1 ht hvm hw hB hz hk hS1 => ?_)
  rw [ht] at hB
  exact kk r u.1 u.2 hw H1 locs1 ls (hB.mono (fun n _ h => hF _ h)) hS1 hl
theorem r_calll (X : rX p s m args cd cc nL own W0 D cl tys A) {a : Array Value} {post : Int64 → (Nat → Nat) → rC → Prop} (hr : rRunQ p l e R s m args below meth cd nL D cl A cells slots ad c pc st0 st rm a (fun sz => va_Ql (fun r (u : rU) => post r u.1 u.2) (fun u t => rp D cl (rA ad c sz) u.1 u.2 t.heap) (rA ad c sz))) (kk : ∀ (r : Int64) (ad' : Nat → Nat) (c' : rC), post r ad' c' → rW p l e R s m args below meth cd nL D cl A (cells + rm.cells) (slots + rm.slots) Q ad' c' (pc + 3) lv (.long r :: st)) : rW p l e R s m args below meth cd nL D cl A cells slots Q ad c pc lv st0 := fun H locs ls hP hS hl => by
  have hF := rA.in hP hS X.2.2.2.2.2.2
  refine va_calll (hr H locs ls hP hS hl.1) hS (fun q _ h => hF q h) hF (fun r u t H1 locs1 ht hvm hw hB hz hk hS1 => ?_)
  rw [ht] at hB
  exact kk r u.1 u.2 hw H1 locs1 ls (hB.mono (fun n _ h => hF _ h)) hS1 hl
theorem r_calld (X : rX p s m args cd cc nL own W0 D cl tys A) {a : Array Value} {post : UInt64 → (Nat → Nat) → rC → Prop} (hr : rRunQ p l e R s m args below meth cd nL D cl A cells slots ad c pc st0 st rm a (fun sz => va_Qd (fun r (u : rU) => post r u.1 u.2) (fun u t => rp D cl (rA ad c sz) u.1 u.2 t.heap) (rA ad c sz))) (kk : ∀ (r : UInt64) (ad' : Nat → Nat) (c' : rC), post r ad' c' → rW p l e R s m args below meth cd nL D cl A (cells + rm.cells) (slots + rm.slots) Q ad' c' (pc + 3) lv (.double r :: st)) : rW p l e R s m args below meth cd nL D cl A cells slots Q ad c pc lv st0 := fun H locs ls hP hS hl => by
  have hF := rA.in hP hS X.2.2.2.2.2.2
  refine va_calld (hr H locs ls hP hS hl.1) hS (fun q _ h => hF q h) hF (fun r u t H1 locs1 ht hvm hw hB hz hk hS1 => ?_)
  rw [ht] at hB
  exact kk r u.1 u.2 hw H1 locs1 ls (hB.mono (fun n _ h => hF _ h)) hS1 hl
theorem r_callv (X : rX p s m args cd cc nL own W0 D cl tys A) {a : Array Value} {post : (Nat → Nat) → rC → Prop} (hr : rRunQ p l e R s m args below meth cd nL D cl A cells slots ad c pc st0 st rm a (fun sz => va_Qv (fun (u : rU) => post u.1 u.2) (fun u t => rp D cl (rA ad c sz) u.1 u.2 t.heap) (rA ad c sz))) (kk : ∀ (ad' : Nat → Nat) (c' : rC), post ad' c' → rW p l e R s m args below meth cd nL D cl A (cells + rm.cells) (slots + rm.slots) Q ad' c' (pc + 3) lv st) : rW p l e R s m args below meth cd nL D cl A cells slots Q ad c pc lv st0 := fun H locs ls hP hS hl => by
  have hF := rA.in hP hS X.2.2.2.2.2.2
  refine va_callv (hr H locs ls hP hS hl.1) hS (fun q _ h => hF q h) hF (fun u t H1 locs1 ht hvm hw hB hz hk hS1 => ?_)
  rw [ht] at hB
  exact kk u.1 u.2 hw H1 locs1 ls (hB.mono (fun n _ h => hF _ h)) hS1 hl
theorem r_callq (X : rX p s m args cd cc nL own W0 D cl tys A) {a : Array Value} {post : Option Nat → (Nat → Nat) → rC → Prop} (hr : rRunQ p l e R s m args below meth cd nL D cl A cells slots ad c pc st0 st rm a (fun sz => va_Qq (fun r (u : rU) => post r u.1 u.2) (fun u t => rp D cl (rA ad c sz) u.1 u.2 t.heap) (rA ad c sz))) (kk : ∀ (r : Option Nat) (ad' : Nat → Nat) (c' : rC), post r ad' c' → rW p l e R s m args below meth cd nL D cl A (cells + rm.cells) (slots + rm.slots) Q ad' c' (pc + 3) lv (va_rf r :: st)) : rW p l e R s m args below meth cd nL D cl A cells slots Q ad c pc lv st0 := fun H locs ls hP hS hl => by
  have hF := rA.in hP hS X.2.2.2.2.2.2
  refine va_callq (hr H locs ls hP hS hl.1) hS (fun q _ h => hF q h) hF (fun r u t H1 locs1 ht hvm hw hB hz hk hS1 => ?_)
  rw [ht] at hB
  exact kk r u.1 u.2 hw H1 locs1 ls (hB.mono (fun n _ h => hF _ h)) hS1 hl
-- Math.min, Math.max, Object.<init>
theorem r_min (X : rX p s m args cd cc nL own W0 D cl tys A) (hw : Cond.methodLink own i Lib.Math.min.name ∈ W0) (h1 : Cond.static Lib.Math.min.name ∈ W0) (h2 : Cond.initialized "java/lang/Math" ∈ W0) (h3 : Cond.code Lib.Math.min.name Lib.Math.min.code 2 (some .int) ∈ W0) (hR : 1 ≤ R.frames ∧ 21 ≤ R.locals ∧ cells ≤ R.cells ∧ slots ≤ R.slots) (hroom : (st.map fun v => v.category).sum ≤ 8) {x z : Int32} (hd : decode cc pc = .ok (.invokestatic i, 3)) (kk : rW p l e R s m args below meth cd nL D cl A cells slots Q ad c (pc + 3) lv (.int (if z < x then z else x) :: st)) : rW p l e R s m args below meth cd nL D cl A cells slots Q ad c pc lv (.int z :: .int x :: st) := fun H locs ls hP hS hl => by
  have hts := X.2.2.2.2.1
  exact va_mmin X.1 X.2.1 (X.2.2.1.trans hl.1.symm) X.2.2.2.1 (hts _ hw) (hts _ h1) (hts _ h2) (hts _ h3) hR.1 (Nat.le_trans (Nat.add_le_add_right hroom 13) hR.2.1) hR.2.2.1 hR.2.2.2 hd (kk H locs ls hP hS hl)
theorem r_max (X : rX p s m args cd cc nL own W0 D cl tys A) (hw : Cond.methodLink own i Lib.Math.max.name ∈ W0) (h1 : Cond.static Lib.Math.max.name ∈ W0) (h2 : Cond.initialized "java/lang/Math" ∈ W0) (h3 : Cond.code Lib.Math.max.name Lib.Math.max.code 2 (some .int) ∈ W0) (hR : 1 ≤ R.frames ∧ 21 ≤ R.locals ∧ cells ≤ R.cells ∧ slots ≤ R.slots) (hroom : (st.map fun v => v.category).sum ≤ 8) {x z : Int32} (hd : decode cc pc = .ok (.invokestatic i, 3)) (kk : rW p l e R s m args below meth cd nL D cl A cells slots Q ad c (pc + 3) lv (.int (if x < z then z else x) :: st)) : rW p l e R s m args below meth cd nL D cl A cells slots Q ad c pc lv (.int z :: .int x :: st) := fun H locs ls hP hS hl => by
  have hts := X.2.2.2.2.1
  exact va_mmax X.1 X.2.1 (X.2.2.1.trans hl.1.symm) X.2.2.2.1 (hts _ hw) (hts _ h1) (hts _ h2) (hts _ h3) hR.1 (Nat.le_trans (Nat.add_le_add_right hroom 13) hR.2.1) hR.2.2.1 hR.2.2.2 hd (kk H locs ls hP hS hl)
theorem r_obj (X : rX p s m args cd cc nL own W0 D cl tys A) (hw : Cond.methodLink own i objectInit ∈ W0) (h1 : Cond.instanceMethod objectInit ∈ W0) (h2 : Cond.code objectInit ⟨#[0xb1]⟩ 1 none ∈ W0) (hR : 1 ≤ R.frames ∧ 20 ≤ R.locals) (hroom : (st.map fun v => v.category).sum ≤ 8) {b : Nat} (hd : decode cc pc = .ok (.invokespecial i, 3)) (kk : rW p l e R s m args below meth cd nL D cl A cells slots Q ad c (pc + 3) lv st) : rW p l e R s m args below meth cd nL D cl A cells slots Q ad c pc lv (.ref b :: st) := fun H locs ls hP hS hl => by
  have hts := X.2.2.2.2.1
  exact W.objInit X.1 X.2.1 X.2.2.2.1 (hts _ hw) (hts _ h1) (hts _ h2) rfl (hl.1.trans X.2.2.1.symm) rfl hd hR.1 (by show 2 * 0 + _ + 12 ≤ _; omega) (kk H locs ls hP hS hl)
end RCALL
section REND
variable {p : Program} {l : Launch} {e : Env} {R : Room} {s : State} {m : MethodId} {args : Array Value} {below : List Frame} {meth : Method} {cd : Code} {cc : ByteArray} {nL : Nat} {own : String} {W0 : List Cond} {D : va_G} {cl : List vw_C} {tys : List (ClassId × FieldType)} {A : Nat → Prop} {cells slots mc ms : Nat} {ad : Nat → Nat} {c : rC} {pc : Nat} {lv : List (Nat × Value)}
theorem r_iret (X : rX p s m args cd cc nL own W0 D cl tys A) (hr : meth.sig.returnType = some .int) (hlk : meth.locks = false) {post : Int32 → (Nat → Nat) → rC → Prop} {v : Int32} (hd : decode cc pc = .ok (.ireturn, 1)) (hc : cells ≤ mc) (hs : slots ≤ ms) (hp : post v ad c) : rW p l e R s m args below meth cd nL D cl A cells slots (MQ below (va_Qi (fun r (u : rU) => post r u.1 u.2) (fun u t => rp D cl A u.1 u.2 t.heap) A) args s mc ms A) ad c pc lv [.int v] := fun H locs ls hP hS hl =>
  W.widen hc hs (W.iret X.1 X.2.1 hr (fun t ht hW => ⟨⟨v, (ad, c), rfl, hp, by show rp D cl A ad c t.heap; rw [ht]; exact hP⟩, hS.F ht⟩) hS.2.2 hd hlk)
theorem r_zret (X : rX p s m args cd cc nL own W0 D cl tys A) (hr : meth.sig.returnType = some .boolean) (hlk : meth.locks = false) {post : Int32 → (Nat → Nat) → rC → Prop} {v : Int32} (hv : narrow .boolean (.int v) = .int v) (hd : decode cc pc = .ok (.ireturn, 1)) (hc : cells ≤ mc) (hs : slots ≤ ms) (hp : post v ad c) : rW p l e R s m args below meth cd nL D cl A cells slots (MQ below (va_Qi (fun r (u : rU) => post r u.1 u.2) (fun u t => rp D cl A u.1 u.2 t.heap) A) args s mc ms A) ad c pc lv [.int v] := fun H locs ls hP hS hl =>
  W.widen hc hs (W.zret X.1 X.2.1 hr hv (fun t ht hW => ⟨⟨v, (ad, c), rfl, hp, by show rp D cl A ad c t.heap; rw [ht]; exact hP⟩, hS.F ht⟩) hS.2.2 hd hlk)
theorem r_lret (X : rX p s m args cd cc nL own W0 D cl tys A) (hr : meth.sig.returnType = some .long) (hlk : meth.locks = false) {post : Int64 → (Nat → Nat) → rC → Prop} {v : Int64} (hd : decode cc pc = .ok (.lreturn, 1)) (hc : cells ≤ mc) (hs : slots ≤ ms) (hp : post v ad c) : rW p l e R s m args below meth cd nL D cl A cells slots (MQ below (va_Ql (fun r (u : rU) => post r u.1 u.2) (fun u t => rp D cl A u.1 u.2 t.heap) A) args s mc ms A) ad c pc lv [.long v] := fun H locs ls hP hS hl =>
  W.widen hc hs (W.lret X.1 X.2.1 hr (fun t ht hW => ⟨⟨v, (ad, c), rfl, hp, by show rp D cl A ad c t.heap; rw [ht]; exact hP⟩, hS.F ht⟩) hS.2.2 hd hlk)
theorem r_dret (X : rX p s m args cd cc nL own W0 D cl tys A) (hr : meth.sig.returnType = some .double) (hlk : meth.locks = false) {post : UInt64 → (Nat → Nat) → rC → Prop} {v : UInt64} (hd : decode cc pc = .ok (.dreturn, 1)) (hc : cells ≤ mc) (hs : slots ≤ ms) (hp : post v ad c) : rW p l e R s m args below meth cd nL D cl A cells slots (MQ below (va_Qd (fun r (u : rU) => post r u.1 u.2) (fun u t => rp D cl A u.1 u.2 t.heap) A) args s mc ms A) ad c pc lv [.double v] := fun H locs ls hP hS hl =>
  W.widen hc hs (W.dret X.1 X.2.1 hr (fun t ht hW => ⟨⟨v, (ad, c), rfl, hp, by show rp D cl A ad c t.heap; rw [ht]; exact hP⟩, hS.F ht⟩) hS.2.2 hd hlk)
theorem r_vret (X : rX p s m args cd cc nL own W0 D cl tys A) (hr : meth.sig.returnType = none) (hlk : meth.locks = false) {post : (Nat → Nat) → rC → Prop} (hd : decode cc pc = .ok (.return_, 1)) (hc : cells ≤ mc) (hs : slots ≤ ms) (hp : post ad c) : rW p l e R s m args below meth cd nL D cl A cells slots (MQ below (va_Qv (fun (u : rU) => post u.1 u.2) (fun u t => rp D cl A u.1 u.2 t.heap) A) args s mc ms A) ad c pc lv [] := fun H locs ls hP hS hl =>
  W.widen hc hs (W.vret X.1 X.2.1 hr (fun t ht hW => ⟨⟨(ad, c), rfl, hp, by show rp D cl A ad c t.heap; rw [ht]; exact hP⟩, hS.F ht⟩) hS.2.2 hd hlk)
theorem r_aret (X : rX p s m args cd cc nL own W0 D cl tys A) {ty : FieldType} (hr : meth.sig.returnType = some ty) (hlk : meth.locks = false) (hty : (∃ n, ty = .object n) ∨ ∃ t, ty = .array t) {post : Option Nat → (Nat → Nat) → rC → Prop} {v : Option Nat} {w : Value} (hv : va_rf v = w) (hd : decode cc pc = .ok (.areturn, 1)) (hc : cells ≤ mc) (hs : slots ≤ ms) (hp : post v ad c) : rW p l e R s m args below meth cd nL D cl A cells slots (MQ below (va_Qq (fun r (u : rU) => post r u.1 u.2) (fun u t => rp D cl A u.1 u.2 t.heap) A) args s mc ms A) ad c pc lv [w] := fun H locs ls hP hS hl =>
  W.widen hc hs (W.aret (v := w) X.1 X.2.1 hr hty (hv ▸ va_rf_or v) (fun t ht hW => ⟨⟨v, (ad, c), by rw [hv], hp, by show rp D cl A ad c t.heap; rw [ht]; exact hP⟩, hS.F ht⟩) hS.2.2 hd hlk)
end REND
/-- a method's body, from its entry -/
theorem r_of {own : String} {l : Launch} {D : va_G} {cl : List vw_C} {tys : List (ClassId × FieldType)} {NW W0 : List Cond} {y : MethodName} {rm : Room} {av : List Value} {ad : Nat → Nat} {c : rC} {sz : Nat} {cc : ByteArray} {nL : Nat} {ret : Option FieldType} {Qc : Array Value → State → Outcome → State → Prop} (ho : y.cls = own) (hy : plainName y.cls = true) (hav : (lg_sl av).length ≤ nL)
    (body : ∀ (p : Program) (e : Env) (s : State) (m : MethodId) (below : List Frame) (meth : Method) (cd : Code), s.heap.size = sz → rX p s m av.toArray cd cc nL own W0 D cl tys (rA ad c sz) → meth.sig.returnType = ret → meth.locks = false → rN NW s → meth.name = y.name →
      rW p l e rm s m av.toArray below meth cd nL D cl (rA ad c sz) 0 0 (MQ below Qc av.toArray s rm.cells rm.slots (rA ad c sz)) ad c 0 (lv_args 0 av) []) :
    Met l y (Cond.code y cc nL ret :: W0) rm (va_Pc av (rP D cl tys NW ad c sz)) Qc rm.cells rm.slots (rA ad c sz) := by
  refine Met.ofW (cc := cc) (maxL := nL) (ret := ret) hy rfl ?_
  subst ho
  intro p e s m args below meth cd s₁ B hml hv
  obtain ⟨rfl, hsz, hP, hK, hN⟩ := hv
  have hts := atoms_spec (ws := Cond.code y cc nL ret :: W0) B.pre
  have hown : s.vm.findClass y.cls = some m.cls := findClass_of_methodNamed B.named
  have hin : meth.name = y.name := (name_of_methodNamed B.named B.method).1
  have hl := lv_entry av (n := nL) hav
  rw [lg_entry_eq]
  subst hsz
  have hb := body p e s m below meth cd rfl ⟨B.exec, B.bytes, hml, hown, fun w h => hts w (List.mem_cons_of_mem _ h), hK, fun q h => Or.inr h⟩ B.returns B.notSynchronized hN hin
  exact hb s.heap [] _ (hP.self _) va_S.rf hl
section RCUT
variable {p : Program} {l : Launch} {e : Env} {R : Room} {s : State} {m : MethodId} {args : Array Value} {below : List Frame} {meth : Method} {cd : Code} {nL : Nat} {D : va_G} {cl : List vw_C} {A : Nat → Prop} {cells slots : Nat} {Q : State → Prop} {ad : Nat → Nat} {c : rC} {pc : Nat} {lv : List (Nat × Value)} {st : List Value}
/-- roads that meet: the rest once, for all that come -/
theorem r_cut {σ : Type} (I : σ → Prop) (cf : σ → rC) (pcJ : Nat) (lvf : σ → List (Nat × Value)) (stf : σ → List Value) (hJ : (∀ u : σ, I u → rW p l e R s m args below meth cd nL D cl A cells slots Q ad (cf u) pcJ (lvf u) (stf u)) → rW p l e R s m args below meth cd nL D cl A cells slots Q ad c pc lv st) (hK : ∀ u : σ, I u → rW p l e R s m args below meth cd nL D cl A cells slots Q ad (cf u) pcJ (lvf u) (stf u)) : rW p l e R s m args below meth cd nL D cl A cells slots Q ad c pc lv st := hJ hK
theorem r_loop {σ : Type} (I : Nat → σ → Prop) (cf : σ → rC) (pcJ : Nat) (lvf : σ → List (Nat × Value)) (stf : σ → List Value) (h0 : ∀ u : σ, ¬ I 0 u) (hs : ∀ (n : Nat) (u : σ), (∀ u' : σ, I n u' → rW p l e R s m args below meth cd nL D cl A cells slots Q ad (cf u') pcJ (lvf u') (stf u')) → I (n + 1) u → rW p l e R s m args below meth cd nL D cl A cells slots Q ad (cf u) pcJ (lvf u) (stf u)) : ∀ (n : Nat) (u : σ), I n u → rW p l e R s m args below meth cd nL D cl A cells slots Q ad (cf u) pcJ (lvf u) (stf u) := by
  intro n
  induction n with
  | zero => exact fun u h => absurd h (h0 u)
  | succ n ih => exact fun u h => hs n u ih h
theorem r_at {c' : rC} {pc' : Nat} {lv' : List (Nat × Value)} {st' : List Value} (kk : rW p l e R s m args below meth cd nL D cl A cells slots Q ad c' pc' lv' st') (hc : c' = c) (hp : pc' = pc) (hl : lv' = lv) (hs : st' = st) : rW p l e R s m args below meth cd nL D cl A cells slots Q ad c pc lv st := by
  subst hc; subst hp; subst hl; subst hs; exact kk
theorem r_show (c' : rC) (lv' : List (Nat × Value)) (st' : List Value) (hc : c = c') (hl : lv = lv') (hs : st = st') (kk : rW p l e R s m args below meth cd nL D cl A cells slots Q ad c' pc lv' st') : rW p l e R s m args below meth cd nL D cl A cells slots Q ad c pc lv st := by
  subst hc; subst hl; subst hs; exact kk
end RCUT
theorem nb_if {c : Prop} [Decidable c] : narrow .boolean (.int (if c then 1 else 0)) = .int (if c then 1 else 0) := by
  split <;> decide
theorem rup_in {C C' C'' : rC} {a b : Nat} {y : Option va_E} {z : Option va_E} (h : b ≠ a) (hC : va_up C a z = C') (hC' : va_up C' b y = C'') : va_up (va_up C b y) a z = C'' := by rw [rup_comm h, hC, hC']
section RVK
variable {p : Program} {l : Launch} {e : Env} {R : Room} {s : State} {m : MethodId} {args : Array Value} {below : List Frame} {meth : Method} {cd : Code} {cc : ByteArray} {nL : Nat} {own : String} {W0 : List Cond} {D : va_G} {cl : List vw_C} {tys : List (ClassId × FieldType)} {NW : List Cond} {A : Nat → Prop} {cells slots : Nat} {Q : State → Prop} {ad : Nat → Nat} {c : rC} {pc : Nat} {lv : List (Nat × Value)} {st st0 : List Value} {rm : Room} {y : MethodName} {bytes : ByteArray} {maxL n i : Nat} {ret : Option FieldType} {C : String} {As : List Value}
theorem r_Vi (X : rX p s m args cd cc nL own W0 D cl tys A) (hG : GoodIn W0 W0) (hN : rN NW s) {n0 ci : Nat} {r9 : vw_C} {fs : List Value} {post : Int32 → (Nat → Nat) → rC → Prop} (hM : rMi l D cl tys NW y (Cond.code y bytes maxL ret :: W0) rm (Value.ref (ad n0) :: As) ad c post) (Y : rYV W0 y bytes maxL ret C n) (hw : Cond.methodLink own i y ∈ W0) (hc0 : c n0 = some (.inr (ci, fs))) (hcl : cl[ci]? = some r9) (hr9 : r9.1 = C) (hn : As.length = n) (hst : st0 = As.reverse ++ .ref (ad n0) :: st) (hR : rm.frames + 1 ≤ R.frames ∧ 8 + (maxL + 11) + rm.locals ≤ R.locals) (hroom : (st.map fun v => v.category).sum ≤ 8) (hf : cells + rm.cells ≤ R.cells ∧ slots + rm.slots ≤ R.slots) (hd : decode cc pc = .ok (.invokevirtual i, 3)) (kk : ∀ (r : Int32) (ad' : Nat → Nat) (c' : rC), post r ad' c' → rW p l e R s m args below meth cd nL D cl A (cells + rm.cells) (slots + rm.slots) Q ad' c' (pc + 3) lv (.int r :: st)) : rW p l e R s m args below meth cd nL D cl A cells slots Q ad c pc lv st0 := r_calli X (r_runV X hG hN (fun sz => hM sz) Y hw hc0 hcl hr9 hn hst hR hroom hf hd) kk
theorem r_Si (X : rX p s m args cd cc nL own W0 D cl tys A) (hG : GoodIn W0 W0) (hN : rN NW s) {post : Int32 → (Nat → Nat) → rC → Prop} (hM : rMi l D cl tys NW y (Cond.code y bytes maxL ret :: W0) rm As ad c post) (Y : rYS W0 y bytes maxL ret n) (hw : Cond.methodLink own i y ∈ W0) (hn : As.length = n) (hst : st0 = As.reverse ++ st) (hR : rm.frames + 1 ≤ R.frames ∧ 8 + (maxL + 11) + rm.locals ≤ R.locals) (hroom : (st.map fun v => v.category).sum ≤ 8) (hf : cells + rm.cells ≤ R.cells ∧ slots + rm.slots ≤ R.slots) (hd : decode cc pc = .ok (.invokestatic i, 3)) (kk : ∀ (r : Int32) (ad' : Nat → Nat) (c' : rC), post r ad' c' → rW p l e R s m args below meth cd nL D cl A (cells + rm.cells) (slots + rm.slots) Q ad' c' (pc + 3) lv (.int r :: st)) : rW p l e R s m args below meth cd nL D cl A cells slots Q ad c pc lv st0 := r_calli X (r_runS X hG hN (fun sz => hM sz) Y hw hn hst hR hroom hf hd) kk
theorem r_SNi (X : rX p s m args cd cc nL own W0 D cl tys A) (hG : GoodIn W0 W0) (hN : rN NW s) {host : String} {post : Int32 → (Nat → Nat) → rC → Prop} (hM : rMi l D cl tys NW y (Cond.code y bytes maxL ret :: W0) rm As ad c post) (Y : rYS W0 y bytes maxL ret n) (hw : Cond.methodLinkNest own i y host ∈ NW) (hn : As.length = n) (hst : st0 = As.reverse ++ st) (hR : rm.frames + 1 ≤ R.frames ∧ 8 + (maxL + 11) + rm.locals ≤ R.locals) (hroom : (st.map fun v => v.category).sum ≤ 8) (hf : cells + rm.cells ≤ R.cells ∧ slots + rm.slots ≤ R.slots) (hd : decode cc pc = .ok (.invokestatic i, 3)) (kk : ∀ (r : Int32) (ad' : Nat → Nat) (c' : rC), post r ad' c' → rW p l e R s m args below meth cd nL D cl A (cells + rm.cells) (slots + rm.slots) Q ad' c' (pc + 3) lv (.int r :: st)) : rW p l e R s m args below meth cd nL D cl A cells slots Q ad c pc lv st0 := r_calli X (r_runSN X hG hN (fun sz => hM sz) Y hw hn hst hR hroom hf hd) kk
theorem r_Vl (X : rX p s m args cd cc nL own W0 D cl tys A) (hG : GoodIn W0 W0) (hN : rN NW s) {n0 ci : Nat} {r9 : vw_C} {fs : List Value} {post : Int64 → (Nat → Nat) → rC → Prop} (hM : rMl l D cl tys NW y (Cond.code y bytes maxL ret :: W0) rm (Value.ref (ad n0) :: As) ad c post) (Y : rYV W0 y bytes maxL ret C n) (hw : Cond.methodLink own i y ∈ W0) (hc0 : c n0 = some (.inr (ci, fs))) (hcl : cl[ci]? = some r9) (hr9 : r9.1 = C) (hn : As.length = n) (hst : st0 = As.reverse ++ .ref (ad n0) :: st) (hR : rm.frames + 1 ≤ R.frames ∧ 8 + (maxL + 11) + rm.locals ≤ R.locals) (hroom : (st.map fun v => v.category).sum ≤ 8) (hf : cells + rm.cells ≤ R.cells ∧ slots + rm.slots ≤ R.slots) (hd : decode cc pc = .ok (.invokevirtual i, 3)) (kk : ∀ (r : Int64) (ad' : Nat → Nat) (c' : rC), post r ad' c' → rW p l e R s m args below meth cd nL D cl A (cells + rm.cells) (slots + rm.slots) Q ad' c' (pc + 3) lv (.long r :: st)) : rW p l e R s m args below meth cd nL D cl A cells slots Q ad c pc lv st0 := r_calll X (r_runV X hG hN (fun sz => hM sz) Y hw hc0 hcl hr9 hn hst hR hroom hf hd) kk
theorem r_Sl (X : rX p s m args cd cc nL own W0 D cl tys A) (hG : GoodIn W0 W0) (hN : rN NW s) {post : Int64 → (Nat → Nat) → rC → Prop} (hM : rMl l D cl tys NW y (Cond.code y bytes maxL ret :: W0) rm As ad c post) (Y : rYS W0 y bytes maxL ret n) (hw : Cond.methodLink own i y ∈ W0) (hn : As.length = n) (hst : st0 = As.reverse ++ st) (hR : rm.frames + 1 ≤ R.frames ∧ 8 + (maxL + 11) + rm.locals ≤ R.locals) (hroom : (st.map fun v => v.category).sum ≤ 8) (hf : cells + rm.cells ≤ R.cells ∧ slots + rm.slots ≤ R.slots) (hd : decode cc pc = .ok (.invokestatic i, 3)) (kk : ∀ (r : Int64) (ad' : Nat → Nat) (c' : rC), post r ad' c' → rW p l e R s m args below meth cd nL D cl A (cells + rm.cells) (slots + rm.slots) Q ad' c' (pc + 3) lv (.long r :: st)) : rW p l e R s m args below meth cd nL D cl A cells slots Q ad c pc lv st0 := r_calll X (r_runS X hG hN (fun sz => hM sz) Y hw hn hst hR hroom hf hd) kk
theorem r_SNl (X : rX p s m args cd cc nL own W0 D cl tys A) (hG : GoodIn W0 W0) (hN : rN NW s) {host : String} {post : Int64 → (Nat → Nat) → rC → Prop} (hM : rMl l D cl tys NW y (Cond.code y bytes maxL ret :: W0) rm As ad c post) (Y : rYS W0 y bytes maxL ret n) (hw : Cond.methodLinkNest own i y host ∈ NW) (hn : As.length = n) (hst : st0 = As.reverse ++ st) (hR : rm.frames + 1 ≤ R.frames ∧ 8 + (maxL + 11) + rm.locals ≤ R.locals) (hroom : (st.map fun v => v.category).sum ≤ 8) (hf : cells + rm.cells ≤ R.cells ∧ slots + rm.slots ≤ R.slots) (hd : decode cc pc = .ok (.invokestatic i, 3)) (kk : ∀ (r : Int64) (ad' : Nat → Nat) (c' : rC), post r ad' c' → rW p l e R s m args below meth cd nL D cl A (cells + rm.cells) (slots + rm.slots) Q ad' c' (pc + 3) lv (.long r :: st)) : rW p l e R s m args below meth cd nL D cl A cells slots Q ad c pc lv st0 := r_calll X (r_runSN X hG hN (fun sz => hM sz) Y hw hn hst hR hroom hf hd) kk
theorem r_Vd (X : rX p s m args cd cc nL own W0 D cl tys A) (hG : GoodIn W0 W0) (hN : rN NW s) {n0 ci : Nat} {r9 : vw_C} {fs : List Value} {post : UInt64 → (Nat → Nat) → rC → Prop} (hM : rMd l D cl tys NW y (Cond.code y bytes maxL ret :: W0) rm (Value.ref (ad n0) :: As) ad c post) (Y : rYV W0 y bytes maxL ret C n) (hw : Cond.methodLink own i y ∈ W0) (hc0 : c n0 = some (.inr (ci, fs))) (hcl : cl[ci]? = some r9) (hr9 : r9.1 = C) (hn : As.length = n) (hst : st0 = As.reverse ++ .ref (ad n0) :: st) (hR : rm.frames + 1 ≤ R.frames ∧ 8 + (maxL + 11) + rm.locals ≤ R.locals) (hroom : (st.map fun v => v.category).sum ≤ 8) (hf : cells + rm.cells ≤ R.cells ∧ slots + rm.slots ≤ R.slots) (hd : decode cc pc = .ok (.invokevirtual i, 3)) (kk : ∀ (r : UInt64) (ad' : Nat → Nat) (c' : rC), post r ad' c' → rW p l e R s m args below meth cd nL D cl A (cells + rm.cells) (slots + rm.slots) Q ad' c' (pc + 3) lv (.double r :: st)) : rW p l e R s m args below meth cd nL D cl A cells slots Q ad c pc lv st0 := r_calld X (r_runV X hG hN (fun sz => hM sz) Y hw hc0 hcl hr9 hn hst hR hroom hf hd) kk
theorem r_Sd (X : rX p s m args cd cc nL own W0 D cl tys A) (hG : GoodIn W0 W0) (hN : rN NW s) {post : UInt64 → (Nat → Nat) → rC → Prop} (hM : rMd l D cl tys NW y (Cond.code y bytes maxL ret :: W0) rm As ad c post) (Y : rYS W0 y bytes maxL ret n) (hw : Cond.methodLink own i y ∈ W0) (hn : As.length = n) (hst : st0 = As.reverse ++ st) (hR : rm.frames + 1 ≤ R.frames ∧ 8 + (maxL + 11) + rm.locals ≤ R.locals) (hroom : (st.map fun v => v.category).sum ≤ 8) (hf : cells + rm.cells ≤ R.cells ∧ slots + rm.slots ≤ R.slots) (hd : decode cc pc = .ok (.invokestatic i, 3)) (kk : ∀ (r : UInt64) (ad' : Nat → Nat) (c' : rC), post r ad' c' → rW p l e R s m args below meth cd nL D cl A (cells + rm.cells) (slots + rm.slots) Q ad' c' (pc + 3) lv (.double r :: st)) : rW p l e R s m args below meth cd nL D cl A cells slots Q ad c pc lv st0 := r_calld X (r_runS X hG hN (fun sz => hM sz) Y hw hn hst hR hroom hf hd) kk
theorem r_SNd (X : rX p s m args cd cc nL own W0 D cl tys A) (hG : GoodIn W0 W0) (hN : rN NW s) {host : String} {post : UInt64 → (Nat → Nat) → rC → Prop} (hM : rMd l D cl tys NW y (Cond.code y bytes maxL ret :: W0) rm As ad c post) (Y : rYS W0 y bytes maxL ret n) (hw : Cond.methodLinkNest own i y host ∈ NW) (hn : As.length = n) (hst : st0 = As.reverse ++ st) (hR : rm.frames + 1 ≤ R.frames ∧ 8 + (maxL + 11) + rm.locals ≤ R.locals) (hroom : (st.map fun v => v.category).sum ≤ 8) (hf : cells + rm.cells ≤ R.cells ∧ slots + rm.slots ≤ R.slots) (hd : decode cc pc = .ok (.invokestatic i, 3)) (kk : ∀ (r : UInt64) (ad' : Nat → Nat) (c' : rC), post r ad' c' → rW p l e R s m args below meth cd nL D cl A (cells + rm.cells) (slots + rm.slots) Q ad' c' (pc + 3) lv (.double r :: st)) : rW p l e R s m args below meth cd nL D cl A cells slots Q ad c pc lv st0 := r_calld X (r_runSN X hG hN (fun sz => hM sz) Y hw hn hst hR hroom hf hd) kk
theorem r_Vq (X : rX p s m args cd cc nL own W0 D cl tys A) (hG : GoodIn W0 W0) (hN : rN NW s) {n0 ci : Nat} {r9 : vw_C} {fs : List Value} {post : Option Nat → (Nat → Nat) → rC → Prop} (hM : rMq l D cl tys NW y (Cond.code y bytes maxL ret :: W0) rm (Value.ref (ad n0) :: As) ad c post) (Y : rYV W0 y bytes maxL ret C n) (hw : Cond.methodLink own i y ∈ W0) (hc0 : c n0 = some (.inr (ci, fs))) (hcl : cl[ci]? = some r9) (hr9 : r9.1 = C) (hn : As.length = n) (hst : st0 = As.reverse ++ .ref (ad n0) :: st) (hR : rm.frames + 1 ≤ R.frames ∧ 8 + (maxL + 11) + rm.locals ≤ R.locals) (hroom : (st.map fun v => v.category).sum ≤ 8) (hf : cells + rm.cells ≤ R.cells ∧ slots + rm.slots ≤ R.slots) (hd : decode cc pc = .ok (.invokevirtual i, 3)) (kk : ∀ (r : Option Nat) (ad' : Nat → Nat) (c' : rC), post r ad' c' → rW p l e R s m args below meth cd nL D cl A (cells + rm.cells) (slots + rm.slots) Q ad' c' (pc + 3) lv (va_rf r :: st)) : rW p l e R s m args below meth cd nL D cl A cells slots Q ad c pc lv st0 := r_callq X (r_runV X hG hN (fun sz => hM sz) Y hw hc0 hcl hr9 hn hst hR hroom hf hd) kk
theorem r_Sq (X : rX p s m args cd cc nL own W0 D cl tys A) (hG : GoodIn W0 W0) (hN : rN NW s) {post : Option Nat → (Nat → Nat) → rC → Prop} (hM : rMq l D cl tys NW y (Cond.code y bytes maxL ret :: W0) rm As ad c post) (Y : rYS W0 y bytes maxL ret n) (hw : Cond.methodLink own i y ∈ W0) (hn : As.length = n) (hst : st0 = As.reverse ++ st) (hR : rm.frames + 1 ≤ R.frames ∧ 8 + (maxL + 11) + rm.locals ≤ R.locals) (hroom : (st.map fun v => v.category).sum ≤ 8) (hf : cells + rm.cells ≤ R.cells ∧ slots + rm.slots ≤ R.slots) (hd : decode cc pc = .ok (.invokestatic i, 3)) (kk : ∀ (r : Option Nat) (ad' : Nat → Nat) (c' : rC), post r ad' c' → rW p l e R s m args below meth cd nL D cl A (cells + rm.cells) (slots + rm.slots) Q ad' c' (pc + 3) lv (va_rf r :: st)) : rW p l e R s m args below meth cd nL D cl A cells slots Q ad c pc lv st0 := r_callq X (r_runS X hG hN (fun sz => hM sz) Y hw hn hst hR hroom hf hd) kk
theorem r_SNq (X : rX p s m args cd cc nL own W0 D cl tys A) (hG : GoodIn W0 W0) (hN : rN NW s) {host : String} {post : Option Nat → (Nat → Nat) → rC → Prop} (hM : rMq l D cl tys NW y (Cond.code y bytes maxL ret :: W0) rm As ad c post) (Y : rYS W0 y bytes maxL ret n) (hw : Cond.methodLinkNest own i y host ∈ NW) (hn : As.length = n) (hst : st0 = As.reverse ++ st) (hR : rm.frames + 1 ≤ R.frames ∧ 8 + (maxL + 11) + rm.locals ≤ R.locals) (hroom : (st.map fun v => v.category).sum ≤ 8) (hf : cells + rm.cells ≤ R.cells ∧ slots + rm.slots ≤ R.slots) (hd : decode cc pc = .ok (.invokestatic i, 3)) (kk : ∀ (r : Option Nat) (ad' : Nat → Nat) (c' : rC), post r ad' c' → rW p l e R s m args below meth cd nL D cl A (cells + rm.cells) (slots + rm.slots) Q ad' c' (pc + 3) lv (va_rf r :: st)) : rW p l e R s m args below meth cd nL D cl A cells slots Q ad c pc lv st0 := r_callq X (r_runSN X hG hN (fun sz => hM sz) Y hw hn hst hR hroom hf hd) kk
theorem r_Vv (X : rX p s m args cd cc nL own W0 D cl tys A) (hG : GoodIn W0 W0) (hN : rN NW s) {n0 ci : Nat} {r9 : vw_C} {fs : List Value} {post : (Nat → Nat) → rC → Prop} (hM : rMv l D cl tys NW y (Cond.code y bytes maxL ret :: W0) rm (Value.ref (ad n0) :: As) ad c post) (Y : rYV W0 y bytes maxL ret C n) (hw : Cond.methodLink own i y ∈ W0) (hc0 : c n0 = some (.inr (ci, fs))) (hcl : cl[ci]? = some r9) (hr9 : r9.1 = C) (hn : As.length = n) (hst : st0 = As.reverse ++ .ref (ad n0) :: st) (hR : rm.frames + 1 ≤ R.frames ∧ 8 + (maxL + 11) + rm.locals ≤ R.locals) (hroom : (st.map fun v => v.category).sum ≤ 8) (hf : cells + rm.cells ≤ R.cells ∧ slots + rm.slots ≤ R.slots) (hd : decode cc pc = .ok (.invokevirtual i, 3)) (kk : ∀ (ad' : Nat → Nat) (c' : rC), post ad' c' → rW p l e R s m args below meth cd nL D cl A (cells + rm.cells) (slots + rm.slots) Q ad' c' (pc + 3) lv st) : rW p l e R s m args below meth cd nL D cl A cells slots Q ad c pc lv st0 := r_callv X (r_runV X hG hN (fun sz => hM sz) Y hw hc0 hcl hr9 hn hst hR hroom hf hd) kk
theorem r_Sv (X : rX p s m args cd cc nL own W0 D cl tys A) (hG : GoodIn W0 W0) (hN : rN NW s) {post : (Nat → Nat) → rC → Prop} (hM : rMv l D cl tys NW y (Cond.code y bytes maxL ret :: W0) rm As ad c post) (Y : rYS W0 y bytes maxL ret n) (hw : Cond.methodLink own i y ∈ W0) (hn : As.length = n) (hst : st0 = As.reverse ++ st) (hR : rm.frames + 1 ≤ R.frames ∧ 8 + (maxL + 11) + rm.locals ≤ R.locals) (hroom : (st.map fun v => v.category).sum ≤ 8) (hf : cells + rm.cells ≤ R.cells ∧ slots + rm.slots ≤ R.slots) (hd : decode cc pc = .ok (.invokestatic i, 3)) (kk : ∀ (ad' : Nat → Nat) (c' : rC), post ad' c' → rW p l e R s m args below meth cd nL D cl A (cells + rm.cells) (slots + rm.slots) Q ad' c' (pc + 3) lv st) : rW p l e R s m args below meth cd nL D cl A cells slots Q ad c pc lv st0 := r_callv X (r_runS X hG hN (fun sz => hM sz) Y hw hn hst hR hroom hf hd) kk
theorem r_SNv (X : rX p s m args cd cc nL own W0 D cl tys A) (hG : GoodIn W0 W0) (hN : rN NW s) {host : String} {post : (Nat → Nat) → rC → Prop} (hM : rMv l D cl tys NW y (Cond.code y bytes maxL ret :: W0) rm As ad c post) (Y : rYS W0 y bytes maxL ret n) (hw : Cond.methodLinkNest own i y host ∈ NW) (hn : As.length = n) (hst : st0 = As.reverse ++ st) (hR : rm.frames + 1 ≤ R.frames ∧ 8 + (maxL + 11) + rm.locals ≤ R.locals) (hroom : (st.map fun v => v.category).sum ≤ 8) (hf : cells + rm.cells ≤ R.cells ∧ slots + rm.slots ≤ R.slots) (hd : decode cc pc = .ok (.invokestatic i, 3)) (kk : ∀ (ad' : Nat → Nat) (c' : rC), post ad' c' → rW p l e R s m args below meth cd nL D cl A (cells + rm.cells) (slots + rm.slots) Q ad' c' (pc + 3) lv st) : rW p l e R s m args below meth cd nL D cl A cells slots Q ad c pc lv st0 := r_callv X (r_runSN X hG hN (fun sz => hM sz) Y hw hn hst hR hroom hf hd) kk
theorem r_Iv (X : rX p s m args cd cc nL own W0 D cl tys A) (hG : GoodIn W0 W0) (hN : rN NW s) {b : Nat} {post : (Nat → Nat) → rC → Prop} (hM : rMv l D cl tys NW y (Cond.code y bytes maxL none :: W0) rm (Value.ref b :: As) ad c post) (Y : rYI W0 y bytes maxL n) (hw : Cond.methodLink own i y ∈ W0) (hn : As.length = n) (hst : st0 = As.reverse ++ .ref b :: st) (hR : rm.frames + 1 ≤ R.frames ∧ 8 + (maxL + 11) + rm.locals ≤ R.locals) (hroom : (st.map fun v => v.category).sum ≤ 8) (hf : cells + rm.cells ≤ R.cells ∧ slots + rm.slots ≤ R.slots) (hd : decode cc pc = .ok (.invokespecial i, 3)) (kk : ∀ (ad' : Nat → Nat) (c' : rC), post ad' c' → rW p l e R s m args below meth cd nL D cl A (cells + rm.cells) (slots + rm.slots) Q ad' c' (pc + 3) lv st) : rW p l e R s m args below meth cd nL D cl A cells slots Q ad c pc lv st0 := r_callv X (r_runI X hG hN (fun sz => hM sz) Y hw hn hst hR hroom hf hd) kk
theorem r_INv (X : rX p s m args cd cc nL own W0 D cl tys A) (hG : GoodIn W0 W0) (hN : rN NW s) {b : Nat} {host : String} {post : (Nat → Nat) → rC → Prop} (hM : rMv l D cl tys NW y (Cond.code y bytes maxL none :: W0) rm (Value.ref b :: As) ad c post) (Y : rYI W0 y bytes maxL n) (hw : Cond.methodLinkNest own i y host ∈ NW) (hn : As.length = n) (hst : st0 = As.reverse ++ .ref b :: st) (hR : rm.frames + 1 ≤ R.frames ∧ 8 + (maxL + 11) + rm.locals ≤ R.locals) (hroom : (st.map fun v => v.category).sum ≤ 8) (hf : cells + rm.cells ≤ R.cells ∧ slots + rm.slots ≤ R.slots) (hd : decode cc pc = .ok (.invokespecial i, 3)) (kk : ∀ (ad' : Nat → Nat) (c' : rC), post ad' c' → rW p l e R s m args below meth cd nL D cl A (cells + rm.cells) (slots + rm.slots) Q ad' c' (pc + 3) lv st) : rW p l e R s m args below meth cd nL D cl A cells slots Q ad c pc lv st0 := r_callv X (r_runIN X hG hN (fun sz => hM sz) Y hw hn hst hR hroom hf hd) kk
end RVK
end
section
/-! classes and methods as the layer over the kit speaks of them, by program -/
theorem yi_G_init : rYI W0 y_G_init b_G_init 1 0 := ⟨wc_G_init, wi_G_init, wz_G_init, rfl, by decide +kernel⟩
theorem yi_Wea_init : rYI W0 y_Wea_init b_Wea_init 1 0 := ⟨wc_Wea_init, wi_Wea_init, wz_Wea_init, rfl, by decide +kernel⟩
theorem yi_Surf_init : rYI W0 y_Surf_init b_Surf_init 1 0 := ⟨wc_Surf_init, wi_Surf_init, wz_Surf_init, rfl, by decide +kernel⟩
theorem yi_Rows_init : rYI W0 y_Rows_init b_Rows_init 1 0 := ⟨wc_Rows_init, wi_Rows_init, wz_Rows_init, rfl, by decide +kernel⟩
theorem yv_G_meanWarmth : rYV W0 y_G_meanWarmth b_G_meanWarmth 7 rt_G_meanWarmth R_G 0 := ⟨wc_G_meanWarmth, wi_G_meanWarmth, we_G_meanWarmth, i_G, by decide +kernel⟩
theorem yv_G_digest : rYV W0 y_G_digest b_G_digest 7 rt_G_digest R_G 0 := ⟨wc_G_digest, wi_G_digest, we_G_digest, i_G, by decide +kernel⟩
theorem yv_G_countOf : rYV W0 y_G_countOf b_G_countOf 2 rt_G_countOf R_G 1 := ⟨wc_G_countOf, wi_G_countOf, we_G_countOf, i_G, by decide +kernel⟩
theorem yv_G_saltInHoppers : rYV W0 y_G_saltInHoppers b_G_saltInHoppers 6 rt_G_saltInHoppers R_G 0 := ⟨wc_G_saltInHoppers, wi_G_saltInHoppers, we_G_saltInHoppers, i_G, by decide +kernel⟩
theorem yv_G_saltOnRoads : rYV W0 y_G_saltOnRoads b_G_saltOnRoads 6 rt_G_saltOnRoads R_G 0 := ⟨wc_G_saltOnRoads, wi_G_saltOnRoads, we_G_saltOnRoads, i_G, by decide +kernel⟩
theorem yv_G_saltInRiver : rYV W0 y_G_saltInRiver b_G_saltInRiver 6 rt_G_saltInRiver R_G 0 := ⟨wc_G_saltInRiver, wi_G_saltInRiver, we_G_saltInRiver, i_G, by decide +kernel⟩
theorem yv_G_saltOnFields : rYV W0 y_G_saltOnFields b_G_saltOnFields 6 rt_G_saltOnFields R_G 0 := ⟨wc_G_saltOnFields, wi_G_saltOnFields, we_G_saltOnFields, i_G, by decide +kernel⟩
theorem yv_G_waterRunOff : rYV W0 y_G_waterRunOff b_G_waterRunOff 6 rt_G_waterRunOff R_G 0 := ⟨wc_G_waterRunOff, wi_G_waterRunOff, we_G_waterRunOff, i_G, by decide +kernel⟩
theorem yv_G_deliveriesOnTheirWay : rYV W0 y_G_deliveriesOnTheirWay b_G_deliveriesOnTheirWay 6 rt_G_deliveriesOnTheirWay R_G 0 := ⟨wc_G_deliveriesOnTheirWay, wi_G_deliveriesOnTheirWay, we_G_deliveriesOnTheirWay, i_G, by decide +kernel⟩
theorem yv_G_slipperyNow : rYV W0 y_G_slipperyNow b_G_slipperyNow 6 rt_G_slipperyNow R_G 0 := ⟨wc_G_slipperyNow, wi_G_slipperyNow, we_G_slipperyNow, i_G, by decide +kernel⟩
theorem yv_Road_wasSlippery : rYV W0 y_Road_wasSlippery b_Road_wasSlippery 2 rt_Road_wasSlippery R_Road 1 := ⟨wc_Road_wasSlippery, wi_Road_wasSlippery, we_Road_wasSlippery, i_Road, by decide +kernel⟩
theorem yv_G_digestOfRoad : rYV W0 y_G_digestOfRoad b_G_digestOfRoad 7 rt_G_digestOfRoad R_G 2 := ⟨wc_G_digestOfRoad, wi_G_digestOfRoad, we_G_digestOfRoad, i_G, by decide +kernel⟩
theorem yv_Road_fact : rYV W0 y_Road_fact b_Road_fact 2 rt_Road_fact R_Road 1 := ⟨wc_Road_fact, wi_Road_fact, we_Road_fact, i_Road, by decide +kernel⟩
theorem yv_Surf_point : rYV W0 y_Surf_point b_Surf_point 3 rt_Surf_point R_Surf 0 := ⟨wc_Surf_point, wi_Surf_point, we_Surf_point, i_Surf, by decide +kernel⟩
theorem yv_G_firstSlippery : rYV W0 y_G_firstSlippery b_G_firstSlippery 5 rt_G_firstSlippery R_G 3 := ⟨wc_G_firstSlippery, wi_G_firstSlippery, we_G_firstSlippery, i_G, by decide +kernel⟩
theorem yv_Surf_becomeLike : rYV W0 y_Surf_becomeLike b_Surf_becomeLike 2 rt_Surf_becomeLike R_Surf 1 := ⟨wc_Surf_becomeLike, wi_Surf_becomeLike, we_Surf_becomeLike, i_Surf, by decide +kernel⟩
theorem yv_Road_weatherQuarter : rYV W0 y_Road_weatherQuarter b_Road_weatherQuarter 3 rt_Road_weatherQuarter R_Road 2 := ⟨wc_Road_weatherQuarter, wi_Road_weatherQuarter, we_Road_weatherQuarter, i_Road, by decide +kernel⟩
theorem yv_Road_goal : rYV W0 y_Road_goal b_Road_goal 3 rt_Road_goal R_Road 2 := ⟨wc_Road_goal, wi_Road_goal, we_Road_goal, i_Road, by decide +kernel⟩
theorem yv_Surf_comeNearer : rYV W0 y_Surf_comeNearer b_Surf_comeNearer 3 rt_Surf_comeNearer R_Surf 2 := ⟨wc_Surf_comeNearer, wi_Surf_comeNearer, we_Surf_comeNearer, i_Surf, by decide +kernel⟩
theorem ys_Math_min_7cf53 : rYS W0 y_Math_min_7cf53 b_Math_min_7cf53 2 rt_Math_min_7cf53 2 := ⟨wc_Math_min_7cf53, wi_Math_min_7cf53, wz_Math_min_7cf53, by decide +kernel⟩
theorem ys_Math_max_7cf53 : rYS W0 y_Math_max_7cf53 b_Math_max_7cf53 2 rt_Math_max_7cf53 2 := ⟨wc_Math_max_7cf53, wi_Math_max_7cf53, wz_Math_max_7cf53, by decide +kernel⟩
theorem yv_Surf_freezeOrThaw : rYV W0 y_Surf_freezeOrThaw b_Surf_freezeOrThaw 4 rt_Surf_freezeOrThaw R_Surf 0 := ⟨wc_Surf_freezeOrThaw, wi_Surf_freezeOrThaw, we_Surf_freezeOrThaw, i_Surf, by decide +kernel⟩
theorem yv_Surf_runOff : rYV W0 y_Surf_runOff b_Surf_runOff 3 rt_Surf_runOff R_Surf 0 := ⟨wc_Surf_runOff, wi_Surf_runOff, we_Surf_runOff, i_Surf, by decide +kernel⟩
theorem yv_Surf_loseToFields : rYV W0 y_Surf_loseToFields b_Surf_loseToFields 3 rt_Surf_loseToFields R_Surf 1 := ⟨wc_Surf_loseToFields, wi_Surf_loseToFields, we_Surf_loseToFields, i_Surf, by decide +kernel⟩
theorem yv_Surf_isSlippery : rYV W0 y_Surf_isSlippery b_Surf_isSlippery 1 rt_Surf_isSlippery R_Surf 0 := ⟨wc_Surf_isSlippery, wi_Surf_isSlippery, we_Surf_isSlippery, i_Surf, by decide +kernel⟩
theorem yv_G_leastSalt : rYV W0 y_G_leastSalt b_G_leastSalt 4 rt_G_leastSalt R_G 2 := ⟨wc_G_leastSalt, wi_G_leastSalt, we_G_leastSalt, i_G, by decide +kernel⟩
theorem yv_G_answerTo : rYV W0 y_G_answerTo b_G_answerTo 4 rt_G_answerTo R_G 2 := ⟨wc_G_answerTo, wi_G_answerTo, we_G_answerTo, i_G, by decide +kernel⟩
theorem yv_Road_wasTreatedWithin : rYV W0 y_Road_wasTreatedWithin b_Road_wasTreatedWithin 5 rt_Road_wasTreatedWithin R_Road 2 := ⟨wc_Road_wasTreatedWithin, wi_Road_wasTreatedWithin, we_Road_wasTreatedWithin, i_Road, by decide +kernel⟩
theorem yv_G_lastWarning : rYV W0 y_G_lastWarning b_G_lastWarning 8 rt_G_lastWarning R_G 2 := ⟨wc_G_lastWarning, wi_G_lastWarning, we_G_lastWarning, i_G, by decide +kernel⟩
theorem ys_G_isWithin : rYS W0 y_G_isWithin b_G_isWithin 3 rt_G_isWithin 3 := ⟨wc_G_isWithin, wi_G_isWithin, wz_G_isWithin, by decide +kernel⟩
theorem yv_Road_notice : rYV W0 y_Road_notice b_Road_notice 1 rt_Road_notice R_Road 0 := ⟨wc_Road_notice, wi_Road_notice, we_Road_notice, i_Road, by decide +kernel⟩
theorem yv_Fc_foretells : rYV W0 y_Fc_foretells b_Fc_foretells 3 rt_Fc_foretells R_Fc 1 := ⟨wc_Fc_foretells, wi_Fc_foretells, we_Fc_foretells, i_Fc, by decide +kernel⟩
theorem ys_G_digestOfLorry : rYS W0 y_G_digestOfLorry b_G_digestOfLorry 6 rt_G_digestOfLorry 2 := ⟨wc_G_digestOfLorry, wi_G_digestOfLorry, wz_G_digestOfLorry, by decide +kernel⟩
theorem yv_Lor_fact : rYV W0 y_Lor_fact b_Lor_fact 2 rt_Lor_fact R_Lor 1 := ⟨wc_Lor_fact, wi_Lor_fact, we_Lor_fact, i_Lor, by decide +kernel⟩
theorem yv_Lor_firstOrder : rYV W0 y_Lor_firstOrder b_Lor_firstOrder 1 rt_Lor_firstOrder R_Lor 0 := ⟨wc_Lor_firstOrder, wi_Lor_firstOrder, we_Lor_firstOrder, i_Lor, by decide +kernel⟩
theorem yv_G_shortestWay : rYV W0 y_G_shortestWay b_G_shortestWay 8 rt_G_shortestWay R_G 2 := ⟨wc_G_shortestWay, wi_G_shortestWay, we_G_shortestWay, i_G, by decide +kernel⟩
theorem ys_Arrays_fill_53178 : rYS W0 y_Arrays_fill_53178 b_Arrays_fill_53178 4 rt_Arrays_fill_53178 2 := ⟨wc_Arrays_fill_53178, wi_Arrays_fill_53178, wz_Arrays_fill_53178, by decide +kernel⟩
theorem ys_G_lower : rYS W0 y_G_lower b_G_lower 3 rt_G_lower 3 := ⟨wc_G_lower, wi_G_lower, wz_G_lower, by decide +kernel⟩
theorem yv_G_lowerWay : rYV W0 y_G_lowerWay b_G_lowerWay 5 rt_G_lowerWay R_G 3 := ⟨wc_G_lowerWay, wi_G_lowerWay, we_G_lowerWay, i_G, by decide +kernel⟩
theorem ys_G_numberAt : rYS W0 y_G_numberAt b_G_numberAt 2 rt_G_numberAt 2 := ⟨wc_G_numberAt, wi_G_numberAt, wz_G_numberAt, by decide +kernel⟩
theorem yv_Rows_best : rYV W0 y_Rows_best b_Rows_best 8 rt_Rows_best R_Rows 2 := ⟨wc_Rows_best, wi_Rows_best, we_Rows_best, i_Rows, by decide +kernel⟩
theorem yv_Rows_bestWhole : rYV W0 y_Rows_bestWhole b_Rows_bestWhole 4 rt_Rows_bestWhole R_Rows 1 := ⟨wc_Rows_bestWhole, wi_Rows_bestWhole, we_Rows_bestWhole, i_Rows, by decide +kernel⟩
theorem yv_Rows_lengthen : rYV W0 y_Rows_lengthen b_Rows_lengthen 9 rt_Rows_lengthen R_Rows 2 := ⟨wc_Rows_lengthen, wi_Rows_lengthen, we_Rows_lengthen, i_Rows, by decide +kernel⟩
theorem yv_Rows_goAlong : rYV W0 y_Rows_goAlong b_Rows_goAlong 8 rt_Rows_goAlong R_Rows 4 := ⟨wc_Rows_goAlong, wi_Rows_goAlong, we_Rows_goAlong, i_Rows, by decide +kernel⟩
theorem yv_G_road : rYV W0 y_G_road b_G_road 9 rt_G_road R_G 7 := ⟨wc_G_road, wi_G_road, we_G_road, i_G, by decide +kernel⟩
theorem ys_G_isNode : rYS W0 y_G_isNode b_G_isNode 1 rt_G_isNode 1 := ⟨wc_G_isNode, wi_G_isNode, wz_G_isNode, by decide +kernel⟩
theorem yi_Road_init : rYI W0 y_Road_init b_Road_init 8 7 := ⟨wc_Road_init, wi_Road_init, wz_Road_init, rfl, by decide +kernel⟩
theorem yv_G_air : rYV W0 y_G_air b_G_air 4 rt_G_air R_G 2 := ⟨wc_G_air, wi_G_air, we_G_air, i_G, by decide +kernel⟩
theorem ys_G_isAir : rYS W0 y_G_isAir b_G_isAir 1 rt_G_isAir 1 := ⟨wc_G_isAir, wi_G_isAir, wz_G_isAir, by decide +kernel⟩
theorem yv_G_fall : rYV W0 y_G_fall b_G_fall 5 rt_G_fall R_G 3 := ⟨wc_G_fall, wi_G_fall, we_G_fall, i_G, by decide +kernel⟩
theorem yv_G_forecast : rYV W0 y_G_forecast b_G_forecast 7 rt_G_forecast R_G 5 := ⟨wc_G_forecast, wi_G_forecast, we_G_forecast, i_G, by decide +kernel⟩
theorem yi_Fc_init : rYI W0 y_Fc_init b_Fc_init 4 3 := ⟨wc_Fc_init, wi_Fc_init, wz_Fc_init, rfl, by decide +kernel⟩
theorem yv_Fc_tellMembers : rYV W0 y_Fc_tellMembers b_Fc_tellMembers 5 rt_Fc_tellMembers R_Fc 4 := ⟨wc_Fc_tellMembers, wi_Fc_tellMembers, we_Fc_tellMembers, i_Fc, by decide +kernel⟩
theorem yv_G_roadsForetold : rYV W0 y_G_roadsForetold b_G_roadsForetold 7 rt_G_roadsForetold R_G 1 := ⟨wc_G_roadsForetold, wi_G_roadsForetold, we_G_roadsForetold, i_G, by decide +kernel⟩
theorem yv_G_pass : rYV W0 y_G_pass b_G_pass 4 rt_G_pass R_G 1 := ⟨wc_G_pass, wi_G_pass, we_G_pass, i_G, by decide +kernel⟩
theorem yv_G_passQuarter : rYV W0 y_G_passQuarter b_G_passQuarter 5 rt_G_passQuarter R_G 0 := ⟨wc_G_passQuarter, wi_G_passQuarter, we_G_passQuarter, i_G, by decide +kernel⟩
theorem yv_Road_noteSlippery : rYV W0 y_Road_noteSlippery b_Road_noteSlippery 2 rt_Road_noteSlippery R_Road 1 := ⟨wc_Road_noteSlippery, wi_Road_noteSlippery, we_Road_noteSlippery, i_Road, by decide +kernel⟩
theorem yv_G_work : rYV W0 y_G_work b_G_work 3 rt_G_work R_G 1 := ⟨wc_G_work, wi_G_work, we_G_work, i_G, by decide +kernel⟩
theorem yv_G_roadAt : rYV W0 y_G_roadAt b_G_roadAt 2 rt_G_roadAt R_G 1 := ⟨wc_G_roadAt, wi_G_roadAt, we_G_roadAt, i_G, by decide +kernel⟩
theorem yv_Road_joins : rYV W0 y_Road_joins b_Road_joins 2 rt_Road_joins R_Road 1 := ⟨wc_Road_joins, wi_Road_joins, we_Road_joins, i_Road, by decide +kernel⟩
theorem yv_Lor_dropFirstOrder : rYV W0 y_Lor_dropFirstOrder b_Lor_dropFirstOrder 2 rt_Lor_dropFirstOrder R_Lor 0 := ⟨wc_Lor_dropFirstOrder, wi_Lor_dropFirstOrder, we_Lor_dropFirstOrder, i_Lor, by decide +kernel⟩
theorem yv_Road_otherEnd : rYV W0 y_Road_otherEnd b_Road_otherEnd 2 rt_Road_otherEnd R_Road 1 := ⟨wc_Road_otherEnd, wi_Road_otherEnd, we_Road_otherEnd, i_Road, by decide +kernel⟩
theorem yv_Lor_arrive : rYV W0 y_Lor_arrive b_Lor_arrive 1 rt_Lor_arrive R_Lor 0 := ⟨wc_Lor_arrive, wi_Lor_arrive, we_Lor_arrive, i_Lor, by decide +kernel⟩
theorem yv_G_treat : rYV W0 y_G_treat b_G_treat 4 rt_G_treat R_G 2 := ⟨wc_G_treat, wi_G_treat, we_G_treat, i_G, by decide +kernel⟩
theorem yv_Road_noteTreated : rYV W0 y_Road_noteTreated b_Road_noteTreated 2 rt_Road_noteTreated R_Road 1 := ⟨wc_Road_noteTreated, wi_Road_noteTreated, we_Road_noteTreated, i_Road, by decide +kernel⟩
theorem yv_G_takeDeliveries : rYV W0 y_G_takeDeliveries b_G_takeDeliveries 4 rt_G_takeDeliveries R_G 0 := ⟨wc_G_takeDeliveries, wi_G_takeDeliveries, we_G_takeDeliveries, i_G, by decide +kernel⟩
theorem yv_G_lorry : rYV W0 y_G_lorry b_G_lorry 3 rt_G_lorry R_G 1 := ⟨wc_G_lorry, wi_G_lorry, we_G_lorry, i_G, by decide +kernel⟩
theorem yi_Lor_init : rYI W0 y_Lor_init b_Lor_init 2 1 := ⟨wc_Lor_init, wi_Lor_init, wz_Lor_init, rfl, by decide +kernel⟩
theorem yv_G_rate : rYV W0 y_G_rate b_G_rate 5 rt_G_rate R_G 2 := ⟨wc_G_rate, wi_G_rate, we_G_rate, i_G, by decide +kernel⟩
theorem yv_G_lorryAt : rYV W0 y_G_lorryAt b_G_lorryAt 2 rt_G_lorryAt R_G 1 := ⟨wc_G_lorryAt, wi_G_lorryAt, we_G_lorryAt, i_G, by decide +kernel⟩
theorem yv_G_order : rYV W0 y_G_order b_G_order 4 rt_G_order R_G 2 := ⟨wc_G_order, wi_G_order, we_G_order, i_G, by decide +kernel⟩
theorem yv_Lor_addOrder : rYV W0 y_Lor_addOrder b_Lor_addOrder 2 rt_Lor_addOrder R_Lor 1 := ⟨wc_Lor_addOrder, wi_Lor_addOrder, we_Lor_addOrder, i_Lor, by decide +kernel⟩
theorem yv_G_load : rYV W0 y_G_load b_G_load 4 rt_G_load R_G 1 := ⟨wc_G_load, wi_G_load, we_G_load, i_G, by decide +kernel⟩
theorem yv_G_rest : rYV W0 y_G_rest b_G_rest 4 rt_G_rest R_G 1 := ⟨wc_G_rest, wi_G_rest, we_G_rest, i_G, by decide +kernel⟩
theorem yv_G_deliver : rYV W0 y_G_deliver b_G_deliver 3 rt_G_deliver R_G 2 := ⟨wc_G_deliver, wi_G_deliver, we_G_deliver, i_G, by decide +kernel⟩
theorem yi_Del_init : rYI W0 y_Del_init b_Del_init 3 2 := ⟨wc_Del_init, wi_Del_init, wz_Del_init, rfl, by decide +kernel⟩
theorem yv_G_keepDelivery : rYV W0 y_G_keepDelivery b_G_keepDelivery 3 rt_G_keepDelivery R_G 1 := ⟨wc_G_keepDelivery, wi_G_keepDelivery, we_G_keepDelivery, i_G, by decide +kernel⟩
theorem yv_G_claim : rYV W0 y_G_claim b_G_claim 4 rt_G_claim R_G 2 := ⟨wc_G_claim, wi_G_claim, we_G_claim, i_G, by decide +kernel⟩
theorem yv_G_ofRoad : rYV W0 y_G_ofRoad b_G_ofRoad 4 rt_G_ofRoad R_G 2 := ⟨wc_G_ofRoad, wi_G_ofRoad, we_G_ofRoad, i_G, by decide +kernel⟩
theorem yv_G_ofLorry : rYV W0 y_G_ofLorry b_G_ofLorry 4 rt_G_ofLorry R_G 2 := ⟨wc_G_ofLorry, wi_G_ofLorry, we_G_ofLorry, i_G, by decide +kernel⟩
theorem yv_G_many : rYV W0 y_G_many b_G_many 2 rt_G_many R_G 1 := ⟨wc_G_many, wi_G_many, we_G_many, i_G, by decide +kernel⟩
theorem yv_G_way : rYV W0 y_G_way b_G_way 3 rt_G_way R_G 2 := ⟨wc_G_way, wi_G_way, we_G_way, i_G, by decide +kernel⟩
theorem yv_G_slipperyIn : rYV W0 y_G_slipperyIn b_G_slipperyIn 4 rt_G_slipperyIn R_G 2 := ⟨wc_G_slipperyIn, wi_G_slipperyIn, we_G_slipperyIn, i_G, by decide +kernel⟩
theorem yv_G_saltFor : rYV W0 y_G_saltFor b_G_saltFor 4 rt_G_saltFor R_G 2 := ⟨wc_G_saltFor, wi_G_saltFor, we_G_saltFor, i_G, by decide +kernel⟩
theorem yv_G_bestOrders : rYV W0 y_G_bestOrders b_G_bestOrders 3 rt_G_bestOrders R_G 2 := ⟨wc_G_bestOrders, wi_G_bestOrders, we_G_bestOrders, i_G, by decide +kernel⟩
theorem yi_M_init : rYI W0 y_M_init b_M_init 1 0 := ⟨wc_M_init, wi_M_init, wz_M_init, rfl, by decide +kernel⟩
theorem yi_AL_init_da8c8 : rYI W0 y_AL_init_da8c8 b_AL_init_da8c8 1 0 := ⟨wc_AL_init_da8c8, wi_AL_init_da8c8, wz_AL_init_da8c8, rfl, by decide +kernel⟩
theorem yi_AbL_init_da8c8 : rYI W0 y_AbL_init_da8c8 b_AbL_init_da8c8 1 0 := ⟨wc_AbL_init_da8c8, wi_AbL_init_da8c8, wz_AbL_init_da8c8, rfl, by decide +kernel⟩
theorem yi_AbC_init_da8c8 : rYI W0 y_AbC_init_da8c8 b_AbC_init_da8c8 1 0 := ⟨wc_AbC_init_da8c8, wi_AbC_init_da8c8, wz_AbC_init_da8c8, rfl, by decide +kernel⟩
theorem yi_MWea_init : rYI W0 y_MWea_init b_MWea_init 1 0 := ⟨wc_MWea_init, wi_MWea_init, wz_MWea_init, rfl, by decide +kernel⟩
theorem yv_M_thrown : rYV W0 y_M_thrown b_M_thrown 1 rt_M_thrown R_M 0 := ⟨wc_M_thrown, wi_M_thrown, we_M_thrown, i_M, by decide +kernel⟩
theorem yv_M_road : rYV W0 y_M_road b_M_road 8 rt_M_road R_M 7 := ⟨wc_M_road, wi_M_road, we_M_road, i_M, by decide +kernel⟩
theorem ys_M_isNode : rYS W0 y_M_isNode b_M_isNode 1 rt_M_isNode 1 := ⟨wc_M_isNode, wi_M_isNode, wz_M_isNode, by decide +kernel⟩
theorem ys_M_in : rYS W0 y_M_in b_M_in 3 rt_M_in 3 := ⟨wc_M_in, wi_M_in, wz_M_in, by decide +kernel⟩
theorem yv_M_no : rYV W0 y_M_no b_M_no 2 rt_M_no R_M 1 := ⟨wc_M_no, wi_M_no, we_M_no, i_M, by decide +kernel⟩
theorem yi_MRoad_init : rYI W0 y_MRoad_init b_MRoad_init 8 7 := ⟨wc_MRoad_init, wi_MRoad_init, wz_MRoad_init, rfl, by decide +kernel⟩
theorem yv_AL_add_72be8 : rYV W0 y_AL_add_72be8 b_AL_add_72be8 4 rt_AL_add_72be8 R_AL 3 := ⟨wc_AL_add_72be8, wi_AL_add_72be8, we_AL_add_72be8, i_AL, by decide +kernel⟩
theorem yv_AL_grow_d5877 : rYV W0 y_AL_grow_d5877 b_AL_grow_d5877 1 rt_AL_grow_d5877 R_AL 0 := ⟨wc_AL_grow_d5877, wi_AL_grow_d5877, we_AL_grow_d5877, i_AL, by decide +kernel⟩
theorem yv_AL_grow_92f84 : rYV W0 y_AL_grow_92f84 b_AL_grow_92f84 4 rt_AL_grow_92f84 R_AL 1 := ⟨wc_AL_grow_92f84, wi_AL_grow_92f84, we_AL_grow_92f84, i_AL, by decide +kernel⟩
theorem ys_ArrS_newLength_cabcc : rYS W0 y_ArrS_newLength_cabcc b_ArrS_newLength_cabcc 4 rt_ArrS_newLength_cabcc 3 := ⟨wc_ArrS_newLength_cabcc, wi_ArrS_newLength_cabcc, wz_ArrS_newLength_cabcc, by decide +kernel⟩
theorem ys_ArrS_hugeLength_7cf53 : rYS W0 y_ArrS_hugeLength_7cf53 b_ArrS_hugeLength_7cf53 3 rt_ArrS_hugeLength_7cf53 2 := ⟨wc_ArrS_hugeLength_7cf53, wi_ArrS_hugeLength_7cf53, wz_ArrS_hugeLength_7cf53, by decide +kernel⟩
theorem ys_Arrays_copyOf_1904c : rYS W0 y_Arrays_copyOf_1904c b_Arrays_copyOf_1904c 2 rt_Arrays_copyOf_1904c 2 := ⟨wc_Arrays_copyOf_1904c, wi_Arrays_copyOf_1904c, wz_Arrays_copyOf_1904c, by decide +kernel⟩
theorem ys_Arrays_copyOf_6403c : rYS W0 y_Arrays_copyOf_6403c b_Arrays_copyOf_6403c 4 rt_Arrays_copyOf_6403c 3 := ⟨wc_Arrays_copyOf_6403c, wi_Arrays_copyOf_6403c, wz_Arrays_copyOf_6403c, by decide +kernel⟩
theorem yv_M_air : rYV W0 y_M_air b_M_air 4 rt_M_air R_M 2 := ⟨wc_M_air, wi_M_air, we_M_air, i_M, by decide +kernel⟩
theorem yv_M_fall : rYV W0 y_M_fall b_M_fall 5 rt_M_fall R_M 3 := ⟨wc_M_fall, wi_M_fall, we_M_fall, i_M, by decide +kernel⟩
theorem yv_M_forecast : rYV W0 y_M_forecast b_M_forecast 9 rt_M_forecast R_M 5 := ⟨wc_M_forecast, wi_M_forecast, we_M_forecast, i_M, by decide +kernel⟩
theorem yv_M_inHoppers : rYV W0 y_M_inHoppers b_M_inHoppers 3 rt_M_inHoppers R_M 0 := ⟨wc_M_inHoppers, wi_M_inHoppers, we_M_inHoppers, i_M, by decide +kernel⟩
theorem ys_Objs_checkIndex_7cf53 : rYS W0 y_Objs_checkIndex_7cf53 b_Objs_checkIndex_7cf53 2 rt_Objs_checkIndex_7cf53 2 := ⟨wc_Objs_checkIndex_7cf53, wi_Objs_checkIndex_7cf53, wz_Objs_checkIndex_7cf53, by decide +kernel⟩
theorem ys_Prec_checkIndex_8e157 : rYS W0 y_Prec_checkIndex_8e157 b_Prec_checkIndex_8e157 3 rt_Prec_checkIndex_8e157 3 := ⟨wc_Prec_checkIndex_8e157, wi_Prec_checkIndex_8e157, wz_Prec_checkIndex_8e157, by decide +kernel⟩
theorem yv_AL_elementData_915e3 : rYV W0 y_AL_elementData_915e3 b_AL_elementData_915e3 2 rt_AL_elementData_915e3 R_AL 1 := ⟨wc_AL_elementData_915e3, wi_AL_elementData_915e3, we_AL_elementData_915e3, i_AL, by decide +kernel⟩
theorem ys_M_isForetold : rYS W0 y_M_isForetold b_M_isForetold 4 rt_M_isForetold 2 := ⟨wc_M_isForetold, wi_M_isForetold, wz_M_isForetold, by decide +kernel⟩
theorem yv_MRoad_goal : rYV W0 y_MRoad_goal b_MRoad_goal 3 rt_MRoad_goal R_MRoad 2 := ⟨wc_MRoad_goal, wi_MRoad_goal, we_MRoad_goal, i_MRoad, by decide +kernel⟩
theorem yv_M_pass : rYV W0 y_M_pass b_M_pass 4 rt_M_pass R_M 1 := ⟨wc_M_pass, wi_M_pass, we_M_pass, i_M, by decide +kernel⟩
theorem yv_M_quarter : rYV W0 y_M_quarter b_M_quarter 6 rt_M_quarter R_M 0 := ⟨wc_M_quarter, wi_M_quarter, we_M_quarter, i_M, by decide +kernel⟩
theorem yv_MRoad_pass : rYV W0 y_MRoad_pass b_MRoad_pass 7 rt_MRoad_pass R_MRoad 1 := ⟨wc_MRoad_pass, wi_MRoad_pass, we_MRoad_pass, i_MRoad, by decide +kernel⟩
theorem yv_MRoad_point : rYV W0 y_MRoad_point b_MRoad_point 2 rt_MRoad_point R_MRoad 0 := ⟨wc_MRoad_point, wi_MRoad_point, we_MRoad_point, i_MRoad, by decide +kernel⟩
theorem yv_M_work : rYV W0 y_M_work b_M_work 4 rt_M_work R_M 1 := ⟨wc_M_work, wi_M_work, we_M_work, i_M, by decide +kernel⟩
theorem yv_MRoad_has : rYV W0 y_MRoad_has b_MRoad_has 2 rt_MRoad_has R_MRoad 1 := ⟨wc_MRoad_has, wi_MRoad_has, we_MRoad_has, i_MRoad, by decide +kernel⟩
theorem yv_MLor_drop : rYV W0 y_MLor_drop b_MLor_drop 1 rt_MLor_drop R_MLor 0 := ⟨wc_MLor_drop, wi_MLor_drop, we_MLor_drop, i_MLor, by decide +kernel⟩
theorem yv_M_lorry : rYV W0 y_M_lorry b_M_lorry 2 rt_M_lorry R_M 1 := ⟨wc_M_lorry, wi_M_lorry, we_M_lorry, i_M, by decide +kernel⟩
theorem yi_MLor_init : rYI W0 y_MLor_init b_MLor_init 2 1 := ⟨wc_MLor_init, wi_MLor_init, wz_MLor_init, rfl, by decide +kernel⟩
theorem yv_M_rate : rYV W0 y_M_rate b_M_rate 4 rt_M_rate R_M 2 := ⟨wc_M_rate, wi_M_rate, we_M_rate, i_M, by decide +kernel⟩
theorem yv_M_isLorry : rYV W0 y_M_isLorry b_M_isLorry 2 rt_M_isLorry R_M 1 := ⟨wc_M_isLorry, wi_M_isLorry, we_M_isLorry, i_M, by decide +kernel⟩
theorem yv_M_order : rYV W0 y_M_order b_M_order 4 rt_M_order R_M 2 := ⟨wc_M_order, wi_M_order, we_M_order, i_M, by decide +kernel⟩
theorem yv_M_isRoad : rYV W0 y_M_isRoad b_M_isRoad 2 rt_M_isRoad R_M 1 := ⟨wc_M_isRoad, wi_M_isRoad, we_M_isRoad, i_M, by decide +kernel⟩
theorem yv_M_load : rYV W0 y_M_load b_M_load 4 rt_M_load R_M 1 := ⟨wc_M_load, wi_M_load, we_M_load, i_M, by decide +kernel⟩
theorem yv_M_rest : rYV W0 y_M_rest b_M_rest 4 rt_M_rest R_M 1 := ⟨wc_M_rest, wi_M_rest, we_M_rest, i_M, by decide +kernel⟩
theorem yv_M_deliver : rYV W0 y_M_deliver b_M_deliver 3 rt_M_deliver R_M 2 := ⟨wc_M_deliver, wi_M_deliver, we_M_deliver, i_M, by decide +kernel⟩
theorem yv_M_claim : rYV W0 y_M_claim b_M_claim 3 rt_M_claim R_M 2 := ⟨wc_M_claim, wi_M_claim, we_M_claim, i_M, by decide +kernel⟩
theorem yv_M_claimNow : rYV W0 y_M_claimNow b_M_claimNow 7 rt_M_claimNow R_M 2 := ⟨wc_M_claimNow, wi_M_claimNow, we_M_claimNow, i_M, by decide +kernel⟩
theorem yv_M_ofRoad : rYV W0 y_M_ofRoad b_M_ofRoad 3 rt_M_ofRoad R_M 2 := ⟨wc_M_ofRoad, wi_M_ofRoad, we_M_ofRoad, i_M, by decide +kernel⟩
theorem yv_MRoad_of : rYV W0 y_MRoad_of b_MRoad_of 3 rt_MRoad_of R_MRoad 1 := ⟨wc_MRoad_of, wi_MRoad_of, we_MRoad_of, i_MRoad, by decide +kernel⟩
theorem yv_M_ofLorry : rYV W0 y_M_ofLorry b_M_ofLorry 3 rt_M_ofLorry R_M 2 := ⟨wc_M_ofLorry, wi_M_ofLorry, we_M_ofLorry, i_M, by decide +kernel⟩
theorem yv_MLor_of : rYV W0 y_MLor_of b_MLor_of 3 rt_MLor_of R_MLor 1 := ⟨wc_MLor_of, wi_MLor_of, we_MLor_of, i_MLor, by decide +kernel⟩
theorem yv_M_many : rYV W0 y_M_many b_M_many 2 rt_M_many R_M 1 := ⟨wc_M_many, wi_M_many, we_M_many, i_M, by decide +kernel⟩
theorem yv_M_manyNow : rYV W0 y_M_manyNow b_M_manyNow 5 rt_M_manyNow R_M 1 := ⟨wc_M_manyNow, wi_M_manyNow, we_M_manyNow, i_M, by decide +kernel⟩
theorem yv_M_way : rYV W0 y_M_way b_M_way 3 rt_M_way R_M 2 := ⟨wc_M_way, wi_M_way, we_M_way, i_M, by decide +kernel⟩
theorem yv_M_wayNow : rYV W0 y_M_wayNow b_M_wayNow 7 rt_M_wayNow R_M 2 := ⟨wc_M_wayNow, wi_M_wayNow, we_M_wayNow, i_M, by decide +kernel⟩
theorem yv_M_meanWarmth : rYV W0 y_M_meanWarmth b_M_meanWarmth 3 rt_M_meanWarmth R_M 0 := ⟨wc_M_meanWarmth, wi_M_meanWarmth, we_M_meanWarmth, i_M, by decide +kernel⟩
theorem yv_M_slipperyIn : rYV W0 y_M_slipperyIn b_M_slipperyIn 3 rt_M_slipperyIn R_M 2 := ⟨wc_M_slipperyIn, wi_M_slipperyIn, we_M_slipperyIn, i_M, by decide +kernel⟩
theorem yv_MRoad_bare : rYV W0 y_MRoad_bare b_MRoad_bare 1 rt_MRoad_bare R_MRoad 0 := ⟨wc_MRoad_bare, wi_MRoad_bare, we_MRoad_bare, i_MRoad, by decide +kernel⟩
theorem yv_M_slipperyNow : rYV W0 y_M_slipperyNow b_M_slipperyNow 6 rt_M_slipperyNow R_M 4 := ⟨wc_M_slipperyNow, wi_M_slipperyNow, we_M_slipperyNow, i_M, by decide +kernel⟩
theorem yv_MRoad_copyTo : rYV W0 y_MRoad_copyTo b_MRoad_copyTo 2 rt_MRoad_copyTo R_MRoad 1 := ⟨wc_MRoad_copyTo, wi_MRoad_copyTo, we_MRoad_copyTo, i_MRoad, by decide +kernel⟩
theorem yv_M_saltFor : rYV W0 y_M_saltFor b_M_saltFor 3 rt_M_saltFor R_M 2 := ⟨wc_M_saltFor, wi_M_saltFor, we_M_saltFor, i_M, by decide +kernel⟩
theorem yv_M_saltNow : rYV W0 y_M_saltNow b_M_saltNow 5 rt_M_saltNow R_M 2 := ⟨wc_M_saltNow, wi_M_saltNow, we_M_saltNow, i_M, by decide +kernel⟩
theorem yv_M_bestOrders : rYV W0 y_M_bestOrders b_M_bestOrders 3 rt_M_bestOrders R_M 2 := ⟨wc_M_bestOrders, wi_M_bestOrders, we_M_bestOrders, i_M, by decide +kernel⟩
theorem yv_M_bestNow : rYV W0 y_M_bestNow b_M_bestNow 17 rt_M_bestNow R_M 1 := ⟨wc_M_bestNow, wi_M_bestNow, we_M_bestNow, i_M, by decide +kernel⟩
theorem yv_M_digest : rYV W0 y_M_digest b_M_digest 6 rt_M_digest R_M 0 := ⟨wc_M_digest, wi_M_digest, we_M_digest, i_M, by decide +kernel⟩
theorem k_Surf : rF W0 cls 0 R_Surf T_Surf 8 ty_Surf := ⟨by decide +kernel, rfl, by decide +kernel, by decide +kernel⟩
theorem k_Wea : rF W0 cls 1 R_Wea T_Wea 5 ty_Wea := ⟨by decide +kernel, rfl, by decide +kernel, by decide +kernel⟩
theorem k_Road : rF W0 cls 2 R_Road T_Road 12 ty_Road := ⟨by decide +kernel, rfl, by decide +kernel, by decide +kernel⟩
theorem k_Lor : rF W0 cls 3 R_Lor T_Lor 10 ty_Lor := ⟨by decide +kernel, rfl, by decide +kernel, by decide +kernel⟩
theorem k_Rows : rF W0 cls 4 R_Rows T_Rows 2 ty_Rows := ⟨by decide +kernel, rfl, by decide +kernel, by decide +kernel⟩
theorem k_Fc : rF W0 cls 5 R_Fc T_Fc 7 ty_Fc := ⟨by decide +kernel, rfl, by decide +kernel, by decide +kernel⟩
theorem k_Del : rF W0 cls 6 R_Del T_Del 2 ty_Del := ⟨by decide +kernel, rfl, by decide +kernel, by decide +kernel⟩
theorem k_G : rF W0 cls 7 R_G T_G 16 ty_G := ⟨by decide +kernel, rfl, by decide +kernel, by decide +kernel⟩
theorem k_MWea : rF W0 cls 8 R_MWea T_MWea 5 ty_MWea := ⟨by decide +kernel, rfl, by decide +kernel, by decide +kernel⟩
theorem k_MRoad : rF W0 cls 9 R_MRoad T_MRoad 19 ty_MRoad := ⟨by decide +kernel, rfl, by decide +kernel, by decide +kernel⟩
theorem k_MLor : rF W0 cls 10 R_MLor T_MLor 10 ty_MLor := ⟨by decide +kernel, rfl, by decide +kernel, by decide +kernel⟩
theorem k_M : rF W0 cls 11 R_M T_M 16 ty_M := ⟨by decide +kernel, rfl, by decide +kernel, by decide +kernel⟩
theorem k_AL : rF W0 cls 12 R_AL T_AL 3 ty_AL := ⟨by decide +kernel, rfl, by decide +kernel, by decide +kernel⟩
abbrev TY (cy : Nat → ClassId) : List (ClassId × FieldType) := [(cy 0, .int), (cy 1, .boolean), (cy 2, .object R_Road), (cy 3, .object R_Lor), (cy 4, .object R_Fc), (cy 5, .object R_Del), (cy 6, .array .int), (cy 7, .long), (cy 8, .object "java/lang/Object")]
def NW : List Cond := [Cond.methodLinkNest R_G 35 y_Wea_init R_G, Cond.methodLinkNest R_G 42 y_Surf_init R_G, Cond.methodLinkNest R_G 53 y_Rows_init R_G, Cond.methodLinkNest R_Rows 31 y_G_lower R_G, Cond.methodLinkNest R_Rows 44 y_G_numberAt R_G, Cond.methodLinkNest R_Road 11 y_Surf_init R_G, Cond.methodLinkNest R_M 29 y_MWea_init R_M, Cond.castable R_AL R_J_java_util_List, Cond.castable R_AL "java/lang/Object", Cond.castable R_MRoad "java/lang/Object", Cond.castable R_MLor "java/lang/Object"]
theorem w_G_35 : Cond.methodLinkNest R_G 35 y_Wea_init R_G ∈ NW := List.mem_of_getElem? (i := 0) rfl
theorem w_G_42 : Cond.methodLinkNest R_G 42 y_Surf_init R_G ∈ NW := List.mem_of_getElem? (i := 1) rfl
theorem w_G_53 : Cond.methodLinkNest R_G 53 y_Rows_init R_G ∈ NW := List.mem_of_getElem? (i := 2) rfl
theorem w_Rows_31 : Cond.methodLinkNest R_Rows 31 y_G_lower R_G ∈ NW := List.mem_of_getElem? (i := 3) rfl
theorem w_Rows_44 : Cond.methodLinkNest R_Rows 44 y_G_numberAt R_G ∈ NW := List.mem_of_getElem? (i := 4) rfl
theorem w_Road_11 : Cond.methodLinkNest R_Road 11 y_Surf_init R_G ∈ NW := List.mem_of_getElem? (i := 5) rfl
theorem w_M_29 : Cond.methodLinkNest R_M 29 y_MWea_init R_M ∈ NW := List.mem_of_getElem? (i := 6) rfl
theorem w_cast_AL_java_util_List : Cond.castable R_AL R_J_java_util_List ∈ NW := List.mem_of_getElem? (i := 7) rfl
theorem w_cast_AL_java_lang_Object : Cond.castable R_AL "java/lang/Object" ∈ NW := List.mem_of_getElem? (i := 8) rfl
theorem w_cast_MRoad_java_lang_Object : Cond.castable R_MRoad "java/lang/Object" ∈ NW := List.mem_of_getElem? (i := 9) rfl
theorem w_cast_MLor_java_lang_Object : Cond.castable R_MLor "java/lang/Object" ∈ NW := List.mem_of_getElem? (i := 10) rfl
end
section
/-! what a quarter does to a surface, as numbers -/
def mn (x z : Int32) : Int32 := if z < x then z else x
def mx (x z : Int32) : Int32 := if x < z then z else x
/-- the point below which it freezes -/
def pointF (w ic sn sa : Int32) : Int32 :=
  let d := if 0 < w + ic + sn then 6 * sa / (w + ic + sn) else 0
  if d ≤ 21 then -d else -21
def nearF (wa g k : Int32) : Int32 := if g ≤ wa then mx g (wa - k) else mn g (wa + k)
def slipF (ic sn : Int32) : Int32 := if 2 ≤ ic then 1 else if sn < 3 then 0 else 1
/-- water, ice and snow behind freezing or thawing -/
def frzF (wa w ic sn sa : Int32) : Int32 × Int32 × Int32 :=
  if pointF w ic sn sa ≤ wa then
    (w + (mn ic (1 + sa / 4) + mn sn (1 + sa / 4 - mn ic (1 + sa / 4))), ic - mn ic (1 + sa / 4), sn - mn sn (1 + sa / 4 - mn ic (1 + sa / 4)))
  else (w - mn 2 w, ic + mn 2 w, sn)
/-- water, salt, river and run-off behind running off -/
def runF (w sa ri ro : Int32) : Int32 × Int32 × Int32 × Int32 :=
  if 8 < w then (8, sa - (w - 8) * sa / w, ri + (w - 8) * sa / w, ro + (w - 8)) else (w, sa, ri, ro)
set_option maxRecDepth 100000 in
set_option maxHeartbeats 4000000 in
/-- Surf_point -/
theorem c_Surf_point (l : Launch) (D : va_G) (cy : Nat → ClassId) (ad : Nat → Nat) (c : rC) (n : Nat) (wa w ic sn sa ri fi ro : Int32) (hc : c n = some (.inr (0, [.int wa, .int w, .int ic, .int sn, .int sa, .int ri, .int fi, .int ro]))) : rMi l D cls (TY cy) NW y_Surf_point (Cond.code y_Surf_point b_Surf_point 3 rt_Surf_point :: W0) { frames := 0, cells := 0, slots := 0, locals := 0 } [.ref (ad n)] ad c (fun r ad' c' => pointF w ic sn sa = r ∧ ad = ad' ∧ c = c') := by
  intro sz
  refine r_of (own := R_Surf) rfl (by decide +kernel) (Nat.le_of_ble_eq_true rfl) ?_
  intro p e s m below meth cd hsz X hr hlk hN hin
  refine r_lv [0] [(0, .ref (ad n))] rfl ?_
  refine r_aload_n X 0 d_Surf_point_0 rfl rfl ?_
  refine r_get X k_Surf 1 (by decide) f_Surf_15 rfl hc rfl d_Surf_point_1 ?_
  refine r_aload_n X 0 d_Surf_point_4 rfl rfl ?_
  refine r_get X k_Surf 2 (by decide) f_Surf_18 rfl hc rfl d_Surf_point_5 ?_
  refine r_iadd X d_Surf_point_8 ?_
  refine r_aload_n X 0 d_Surf_point_9 rfl rfl ?_
  refine r_get X k_Surf 3 (by decide) f_Surf_21 rfl hc rfl d_Surf_point_10 ?_
  refine r_iadd X d_Surf_point_13 ?_
  refine r_istore_n X [(1, .int ((w + ic) + sn)), (0, .ref (ad n))] d_Surf_point_14 rfl (by decide) rfl ?_
  refine r_iload_n X 0 d_Surf_point_15 rfl rfl ?_
  refine r_if_gt X 23 d_Surf_point_16 (by decide) (fun h_16 => ?_) (fun h_16 => ?_)
  · refine r_bipush X 6 d_Surf_point_23 (by decide) ?_
    refine r_aload_n X 1 d_Surf_point_25 rfl rfl ?_
    refine r_get X k_Surf 4 (by decide) f_Surf_24 rfl hc rfl d_Surf_point_26 ?_
    refine r_imul X d_Surf_point_29 ?_
    refine r_iload_n X 0 d_Surf_point_30 rfl rfl ?_
    refine r_idiv X d_Surf_point_31 (fun h9 => by rw [h9] at h_16; exact absurd h_16 (by decide)) ?_
    refine r_istore_n X [(2, .int ((6 * sa) / ((w + ic) + sn))), (1, .int ((w + ic) + sn)), (0, .ref (ad n))] d_Surf_point_32 rfl (by decide) rfl ?_
    refine r_iload_n X 0 d_Surf_point_33 rfl rfl ?_
    refine r_bipush X 21 d_Surf_point_34 (by decide) ?_
    refine r_icmp_le X 44 d_Surf_point_36 (by decide) (fun h_36 => ?_) (fun h_36 => ?_)
    · refine r_iload_n X 0 d_Surf_point_44 rfl rfl ?_
      refine r_ineg X d_Surf_point_45 ?_
      exact r_iret (post := fun r ad' c' => pointF w ic sn sa = r ∧ ad = ad' ∧ c = c') X hr hlk d_Surf_point_46 (by decide) (by decide) ⟨by (try simp only [pointF, if_pos h_16, if_pos h_36]); first | done | rfl | exact rup_id (by assumption), rfl, rfl⟩
    · refine r_bipush X (-21) d_Surf_point_39 (by decide) ?_
      refine r_goto X 46 d_Surf_point_41 (by decide) ?_
      exact r_iret (post := fun r ad' c' => pointF w ic sn sa = r ∧ ad = ad' ∧ c = c') X hr hlk d_Surf_point_46 (by decide) (by decide) ⟨by (try simp only [pointF, if_pos h_16, if_neg h_36]); first | done | rfl | exact rup_id (by assumption), rfl, rfl⟩
  · refine r_iconst X 0 d_Surf_point_19 (by decide) ?_
    refine r_goto X 32 d_Surf_point_20 (by decide) ?_
    refine r_istore_n X [(2, .int 0), (1, .int ((w + ic) + sn)), (0, .ref (ad n))] d_Surf_point_32 rfl (by decide) rfl ?_
    refine r_iload_n X 0 d_Surf_point_33 rfl rfl ?_
    refine r_bipush X 21 d_Surf_point_34 (by decide) ?_
    refine r_icmp_le X 44 d_Surf_point_36 (by decide) (fun h_36 => ?_) (fun h_36 => ?_)
    · refine r_iload_n X 0 d_Surf_point_44 rfl rfl ?_
      refine r_ineg X d_Surf_point_45 ?_
      exact r_iret (post := fun r ad' c' => pointF w ic sn sa = r ∧ ad = ad' ∧ c = c') X hr hlk d_Surf_point_46 (by decide) (by decide) ⟨by (try simp only [pointF, if_neg h_16, if_pos h_36]); first | done | rfl | exact rup_id (by assumption), rfl, rfl⟩
    · refine r_bipush X (-21) d_Surf_point_39 (by decide) ?_
      refine r_goto X 46 d_Surf_point_41 (by decide) ?_
      exact r_iret (post := fun r ad' c' => pointF w ic sn sa = r ∧ ad = ad' ∧ c = c') X hr hlk d_Surf_point_46 (by decide) (by decide) ⟨by (try simp only [pointF, if_neg h_16, if_neg h_36]); first | done | rfl | exact rup_id (by assumption), rfl, rfl⟩
set_option maxRecDepth 100000 in
set_option maxHeartbeats 4000000 in
/-- Surf_isSlippery -/
theorem c_Surf_isSlippery (l : Launch) (D : va_G) (cy : Nat → ClassId) (ad : Nat → Nat) (c : rC) (n : Nat) (wa w ic sn sa ri fi ro : Int32) (hc : c n = some (.inr (0, [.int wa, .int w, .int ic, .int sn, .int sa, .int ri, .int fi, .int ro]))) : rMi l D cls (TY cy) NW y_Surf_isSlippery (Cond.code y_Surf_isSlippery b_Surf_isSlippery 1 rt_Surf_isSlippery :: W0) { frames := 0, cells := 0, slots := 0, locals := 0 } [.ref (ad n)] ad c (fun r ad' c' => slipF ic sn = r ∧ ad = ad' ∧ c = c') := by
  intro sz
  refine r_of (own := R_Surf) rfl (by decide +kernel) (Nat.le_of_ble_eq_true rfl) ?_
  intro p e s m below meth cd hsz X hr hlk hN hin
  refine r_lv [0] [(0, .ref (ad n))] rfl ?_
  refine r_aload_n X 0 d_Surf_isSlippery_0 rfl rfl ?_
  refine r_get X k_Surf 2 (by decide) f_Surf_18 rfl hc rfl d_Surf_isSlippery_1 ?_
  refine r_iconst X 2 d_Surf_isSlippery_4 (by decide) ?_
  refine r_icmp_ge X 16 d_Surf_isSlippery_5 (by decide) (fun h_5 => ?_) (fun h_5 => ?_)
  · refine r_iconst X 1 d_Surf_isSlippery_16 (by decide) ?_
    refine r_goto X 21 d_Surf_isSlippery_17 (by decide) ?_
    exact r_zret (post := fun r ad' c' => slipF ic sn = r ∧ ad = ad' ∧ c = c') X hr hlk (by first | decide | (split <;> decide)) d_Surf_isSlippery_21 (by decide) (by decide) ⟨by (try simp only [slipF, if_pos h_5]); first | done | rfl | exact rup_id (by assumption), rfl, rfl⟩
  · refine r_aload_n X 0 d_Surf_isSlippery_8 rfl rfl ?_
    refine r_get X k_Surf 3 (by decide) f_Surf_21 rfl hc rfl d_Surf_isSlippery_9 ?_
    refine r_iconst X 3 d_Surf_isSlippery_12 (by decide) ?_
    refine r_cut (fun u9 : Int32 => u9 = (if sn < 3 then 0 else 1)) (fun _ => c) 21 (fun _ => [(0, .ref (ad n))]) (fun u9 => [.int u9]) (fun J9 => ?_) (fun t_1 ht_1 => ?_)
    · refine r_icmp_lt X 20 d_Surf_isSlippery_13 (by decide) (fun h9 => ?_) (fun h9 => ?_)
      · refine r_iconst X 0 d_Surf_isSlippery_20 (by decide) ?_
        exact J9 _ (if_pos h9).symm
      · refine r_iconst X 1 d_Surf_isSlippery_16 (by decide) ?_
        refine r_goto X 21 d_Surf_isSlippery_17 (by decide) ?_
        exact J9 _ (if_neg h9).symm
    subst ht_1
    exact r_zret (post := fun r ad' c' => slipF ic sn = r ∧ ad = ad' ∧ c = c') X hr hlk (by first | decide | (split <;> decide)) d_Surf_isSlippery_21 (by decide) (by decide) ⟨by (try simp only [slipF, if_neg h_5]); first | done | rfl | exact rup_id (by assumption), rfl, rfl⟩
set_option maxRecDepth 100000 in
set_option maxHeartbeats 4000000 in
/-- Surf_comeNearer -/
theorem c_Surf_comeNearer (l : Launch) (D : va_G) (cy : Nat → ClassId) (ad : Nat → Nat) (c : rC) (n : Nat) (wa w ic sn sa ri fi ro : Int32) (hc : c n = some (.inr (0, [.int wa, .int w, .int ic, .int sn, .int sa, .int ri, .int fi, .int ro]))) (g k : Int32) : rMv l D cls (TY cy) NW y_Surf_comeNearer (Cond.code y_Surf_comeNearer b_Surf_comeNearer 3 rt_Surf_comeNearer :: W0) { frames := 1, cells := 0, slots := 0, locals := 21 } [.ref (ad n), .int g, .int k] ad c (fun ad' c' => ad = ad' ∧ va_up c n (some (.inr (0, [.int (nearF wa g k), .int w, .int ic, .int sn, .int sa, .int ri, .int fi, .int ro]))) = c') := by
  intro sz
  refine r_of (own := R_Surf) rfl (by decide +kernel) (Nat.le_of_ble_eq_true rfl) ?_
  intro p e s m below meth cd hsz X hr hlk hN hin
  refine r_lv [0, 1, 2] [(0, .ref (ad n)), (1, .int g), (2, .int k)] rfl ?_
  refine r_aload_n X 0 d_Surf_comeNearer_0 rfl rfl ?_
  refine r_get X k_Surf 0 (by decide) f_Surf_9 rfl hc rfl d_Surf_comeNearer_1 ?_
  refine r_iload_n X 1 d_Surf_comeNearer_4 rfl rfl ?_
  refine r_icmp_ge X 25 d_Surf_comeNearer_5 (by decide) (fun h_5 => ?_) (fun h_5 => ?_)
  · refine r_aload_n X 0 d_Surf_comeNearer_25 rfl rfl ?_
    refine r_iload_n X 1 d_Surf_comeNearer_26 rfl rfl ?_
    refine r_aload_n X 0 d_Surf_comeNearer_27 rfl rfl ?_
    refine r_get X k_Surf 0 (by decide) f_Surf_9 rfl hc rfl d_Surf_comeNearer_28 ?_
    refine r_iload_n X 2 d_Surf_comeNearer_31 rfl rfl ?_
    refine r_isub X d_Surf_comeNearer_32 ?_
    refine r_max X m_Surf_33 s_max i_Math cd_max ⟨by decide, by decide, by decide, by decide⟩ (Nat.le_of_ble_eq_true rfl) d_Surf_comeNearer_33 ?_
    refine r_put X k_Surf 0 (by decide) f_Surf_9 rfl hc rfl rfl rfl (Nat.le_of_ble_eq_true rfl) [.int (if g < (wa - k) then wa - k else g), .int w, .int ic, .int sn, .int sa, .int ri, .int fi, .int ro] rfl (va_up c n (some (.inr (0, [.int (if g < (wa - k) then wa - k else g), .int w, .int ic, .int sn, .int sa, .int ri, .int fi, .int ro])))) rfl d_Surf_comeNearer_36 ?_
    exact r_vret (post := fun ad' c' => ad = ad' ∧ va_up c n (some (.inr (0, [.int (nearF wa g k), .int w, .int ic, .int sn, .int sa, .int ri, .int fi, .int ro]))) = c') X hr hlk d_Surf_comeNearer_39 (by decide) (by decide) ⟨rfl, by (try simp only [nearF, mn, mx, if_pos h_5]); first | done | rfl | exact rup_id (by assumption)⟩
  · refine r_aload_n X 0 d_Surf_comeNearer_8 rfl rfl ?_
    refine r_iload_n X 1 d_Surf_comeNearer_9 rfl rfl ?_
    refine r_aload_n X 0 d_Surf_comeNearer_10 rfl rfl ?_
    refine r_get X k_Surf 0 (by decide) f_Surf_9 rfl hc rfl d_Surf_comeNearer_11 ?_
    refine r_iload_n X 2 d_Surf_comeNearer_14 rfl rfl ?_
    refine r_iadd X d_Surf_comeNearer_15 ?_
    refine r_min X m_Surf_27 s_min i_Math cd_min ⟨by decide, by decide, by decide, by decide⟩ (Nat.le_of_ble_eq_true rfl) d_Surf_comeNearer_16 ?_
    refine r_put X k_Surf 0 (by decide) f_Surf_9 rfl hc rfl rfl rfl (Nat.le_of_ble_eq_true rfl) [.int (if (wa + k) < g then wa + k else g), .int w, .int ic, .int sn, .int sa, .int ri, .int fi, .int ro] rfl (va_up c n (some (.inr (0, [.int (if (wa + k) < g then wa + k else g), .int w, .int ic, .int sn, .int sa, .int ri, .int fi, .int ro])))) rfl d_Surf_comeNearer_19 ?_
    refine r_goto X 39 d_Surf_comeNearer_22 (by decide) ?_
    exact r_vret (post := fun ad' c' => ad = ad' ∧ va_up c n (some (.inr (0, [.int (nearF wa g k), .int w, .int ic, .int sn, .int sa, .int ri, .int fi, .int ro]))) = c') X hr hlk d_Surf_comeNearer_39 (by decide) (by decide) ⟨rfl, by (try simp only [nearF, mn, mx, if_neg h_5]); first | done | rfl | exact rup_id (by assumption)⟩
set_option maxRecDepth 100000 in
set_option maxHeartbeats 4000000 in
/-- Surf_freezeOrThaw -/
theorem c_Surf_freezeOrThaw (l : Launch) (D : va_G) (cy : Nat → ClassId) (ad : Nat → Nat) (c : rC) (n : Nat) (wa w ic sn sa ri fi ro : Int32) (hc : c n = some (.inr (0, [.int wa, .int w, .int ic, .int sn, .int sa, .int ri, .int fi, .int ro]))) : rMv l D cls (TY cy) NW y_Surf_freezeOrThaw (Cond.code y_Surf_freezeOrThaw b_Surf_freezeOrThaw 4 rt_Surf_freezeOrThaw :: W0) { frames := 1, cells := 0, slots := 0, locals := 22 } [.ref (ad n)] ad c (fun ad' c' => ad = ad' ∧ va_up c n (some (.inr (0, [.int wa, .int ((frzF wa w ic sn sa).1), .int ((frzF wa w ic sn sa).2.1), .int ((frzF wa w ic sn sa).2.2), .int sa, .int ri, .int fi, .int ro]))) = c') := by
  intro sz
  refine r_of (own := R_Surf) rfl (by decide +kernel) (Nat.le_of_ble_eq_true rfl) ?_
  intro p e s m below meth cd hsz X hr hlk hN hin
  refine r_lv [0] [(0, .ref (ad n))] rfl ?_
  refine r_aload_n X 0 d_Surf_freezeOrThaw_0 rfl rfl ?_
  refine r_get X k_Surf 0 (by decide) f_Surf_9 rfl hc rfl d_Surf_freezeOrThaw_1 ?_
  refine r_aload_n X 0 d_Surf_freezeOrThaw_4 rfl rfl ?_
  refine r_Vi X W0_good hN (c_Surf_point l D cy ad (c) n wa w ic sn sa ri fi ro hc) yv_Surf_point m_Surf_36 hc k_Surf.2.1 rfl rfl rfl ⟨by decide, by decide⟩ (Nat.le_of_ble_eq_true rfl) ⟨by decide, by decide⟩ d_Surf_freezeOrThaw_5 (fun r9 ad9 c9 hp9 => ?_)
  obtain ⟨rfl, rfl, rfl⟩ := hp9
  refine r_icmp_ge X 41 d_Surf_freezeOrThaw_8 (by decide) (fun h_8 => ?_) (fun h_8 => ?_)
  · refine r_iconst X 1 d_Surf_freezeOrThaw_41 (by decide) ?_
    refine r_aload_n X 0 d_Surf_freezeOrThaw_42 rfl rfl ?_
    refine r_get X k_Surf 4 (by decide) f_Surf_24 rfl hc rfl d_Surf_freezeOrThaw_43 ?_
    refine r_iconst X 4 d_Surf_freezeOrThaw_46 (by decide) ?_
    refine r_idiv X d_Surf_freezeOrThaw_47 (by decide) ?_
    refine r_iadd X d_Surf_freezeOrThaw_48 ?_
    refine r_topi (fun v_1 ev_1 => ?_)
    refine r_istore_n X [(1, .int v_1), (0, .ref (ad n))] d_Surf_freezeOrThaw_49 rfl (by decide) rfl ?_
    refine r_aload_n X 1 d_Surf_freezeOrThaw_50 rfl rfl ?_
    refine r_get X k_Surf 2 (by decide) f_Surf_18 rfl hc rfl d_Surf_freezeOrThaw_51 ?_
    refine r_iload_n X 0 d_Surf_freezeOrThaw_54 rfl rfl ?_
    refine r_min X m_Surf_27 s_min i_Math cd_min ⟨by decide, by decide, by decide, by decide⟩ (Nat.le_of_ble_eq_true rfl) d_Surf_freezeOrThaw_55 ?_
    refine r_topi (fun v_2 ev_2 => ?_)
    refine r_istore_n X [(2, .int v_2), (1, .int v_1), (0, .ref (ad n))] d_Surf_freezeOrThaw_58 rfl (by decide) rfl ?_
    refine r_aload_n X 2 d_Surf_freezeOrThaw_59 rfl rfl ?_
    refine r_get X k_Surf 3 (by decide) f_Surf_21 rfl hc rfl d_Surf_freezeOrThaw_60 ?_
    refine r_iload_n X 1 d_Surf_freezeOrThaw_63 rfl rfl ?_
    refine r_iload_n X 0 d_Surf_freezeOrThaw_64 rfl rfl ?_
    refine r_isub X d_Surf_freezeOrThaw_65 ?_
    refine r_min X m_Surf_27 s_min i_Math cd_min ⟨by decide, by decide, by decide, by decide⟩ (Nat.le_of_ble_eq_true rfl) d_Surf_freezeOrThaw_66 ?_
    refine r_topi (fun v_3 ev_3 => ?_)
    refine r_istore_n X [(3, .int v_3), (2, .int v_2), (1, .int v_1), (0, .ref (ad n))] d_Surf_freezeOrThaw_69 rfl (by decide) rfl ?_
    refine r_aload_n X 3 d_Surf_freezeOrThaw_70 rfl rfl ?_
    refine r_dup X d_Surf_freezeOrThaw_71 rfl ?_
    refine r_get X k_Surf 2 (by decide) f_Surf_18 rfl hc rfl d_Surf_freezeOrThaw_72 ?_
    refine r_iload_n X 1 d_Surf_freezeOrThaw_75 rfl rfl ?_
    refine r_isub X d_Surf_freezeOrThaw_76 ?_
    refine r_put X k_Surf 2 (by decide) f_Surf_18 rfl hc rfl rfl rfl (Nat.le_of_ble_eq_true rfl) [.int wa, .int w, .int (ic - v_2), .int sn, .int sa, .int ri, .int fi, .int ro] rfl (va_up c n (some (.inr (0, [.int wa, .int w, .int (ic - v_2), .int sn, .int sa, .int ri, .int fi, .int ro])))) rfl d_Surf_freezeOrThaw_77 ?_
    refine r_aload_n X 3 d_Surf_freezeOrThaw_80 rfl rfl ?_
    refine r_dup X d_Surf_freezeOrThaw_81 rfl ?_
    refine r_get X k_Surf 3 (by decide) f_Surf_21 rfl rup_self rfl d_Surf_freezeOrThaw_82 ?_
    refine r_iload_n X 0 d_Surf_freezeOrThaw_85 rfl rfl ?_
    refine r_isub X d_Surf_freezeOrThaw_86 ?_
    refine r_put X k_Surf 3 (by decide) f_Surf_21 rfl rup_self rfl rfl rfl (Nat.le_of_ble_eq_true rfl) [.int wa, .int w, .int (ic - v_2), .int (sn - v_3), .int sa, .int ri, .int fi, .int ro] rfl (va_up c n (some (.inr (0, [.int wa, .int w, .int (ic - v_2), .int (sn - v_3), .int sa, .int ri, .int fi, .int ro])))) rup_up d_Surf_freezeOrThaw_87 ?_
    refine r_aload_n X 3 d_Surf_freezeOrThaw_90 rfl rfl ?_
    refine r_dup X d_Surf_freezeOrThaw_91 rfl ?_
    refine r_get X k_Surf 1 (by decide) f_Surf_15 rfl rup_self rfl d_Surf_freezeOrThaw_92 ?_
    refine r_iload_n X 1 d_Surf_freezeOrThaw_95 rfl rfl ?_
    refine r_iload_n X 0 d_Surf_freezeOrThaw_96 rfl rfl ?_
    refine r_iadd X d_Surf_freezeOrThaw_97 ?_
    refine r_iadd X d_Surf_freezeOrThaw_98 ?_
    refine r_put X k_Surf 1 (by decide) f_Surf_15 rfl rup_self rfl rfl rfl (Nat.le_of_ble_eq_true rfl) [.int wa, .int (w + (v_2 + v_3)), .int (ic - v_2), .int (sn - v_3), .int sa, .int ri, .int fi, .int ro] rfl (va_up c n (some (.inr (0, [.int wa, .int (w + (v_2 + v_3)), .int (ic - v_2), .int (sn - v_3), .int sa, .int ri, .int fi, .int ro])))) rup_up d_Surf_freezeOrThaw_99 ?_
    exact r_vret (post := fun ad' c' => ad = ad' ∧ va_up c n (some (.inr (0, [.int wa, .int ((frzF wa w ic sn sa).1), .int ((frzF wa w ic sn sa).2.1), .int ((frzF wa w ic sn sa).2.2), .int sa, .int ri, .int fi, .int ro]))) = c') X hr hlk d_Surf_freezeOrThaw_102 (by decide) (by decide) ⟨rfl, by subst ev_1; subst ev_2; subst ev_3; (try simp only [frzF, mn, if_pos h_8]); first | done | rfl | exact rup_id (by assumption)⟩
  · refine r_iconst X 2 d_Surf_freezeOrThaw_11 (by decide) ?_
    refine r_aload_n X 0 d_Surf_freezeOrThaw_12 rfl rfl ?_
    refine r_get X k_Surf 1 (by decide) f_Surf_15 rfl hc rfl d_Surf_freezeOrThaw_13 ?_
    refine r_min X m_Surf_27 s_min i_Math cd_min ⟨by decide, by decide, by decide, by decide⟩ (Nat.le_of_ble_eq_true rfl) d_Surf_freezeOrThaw_16 ?_
    refine r_topi (fun v_4 ev_4 => ?_)
    refine r_istore_n X [(1, .int v_4), (0, .ref (ad n))] d_Surf_freezeOrThaw_19 rfl (by decide) rfl ?_
    refine r_aload_n X 1 d_Surf_freezeOrThaw_20 rfl rfl ?_
    refine r_dup X d_Surf_freezeOrThaw_21 rfl ?_
    refine r_get X k_Surf 1 (by decide) f_Surf_15 rfl hc rfl d_Surf_freezeOrThaw_22 ?_
    refine r_iload_n X 0 d_Surf_freezeOrThaw_25 rfl rfl ?_
    refine r_isub X d_Surf_freezeOrThaw_26 ?_
    refine r_put X k_Surf 1 (by decide) f_Surf_15 rfl hc rfl rfl rfl (Nat.le_of_ble_eq_true rfl) [.int wa, .int (w - v_4), .int ic, .int sn, .int sa, .int ri, .int fi, .int ro] rfl (va_up c n (some (.inr (0, [.int wa, .int (w - v_4), .int ic, .int sn, .int sa, .int ri, .int fi, .int ro])))) rfl d_Surf_freezeOrThaw_27 ?_
    refine r_aload_n X 1 d_Surf_freezeOrThaw_30 rfl rfl ?_
    refine r_dup X d_Surf_freezeOrThaw_31 rfl ?_
    refine r_get X k_Surf 2 (by decide) f_Surf_18 rfl rup_self rfl d_Surf_freezeOrThaw_32 ?_
    refine r_iload_n X 0 d_Surf_freezeOrThaw_35 rfl rfl ?_
    refine r_iadd X d_Surf_freezeOrThaw_36 ?_
    refine r_put X k_Surf 2 (by decide) f_Surf_18 rfl rup_self rfl rfl rfl (Nat.le_of_ble_eq_true rfl) [.int wa, .int (w - v_4), .int (ic + v_4), .int sn, .int sa, .int ri, .int fi, .int ro] rfl (va_up c n (some (.inr (0, [.int wa, .int (w - v_4), .int (ic + v_4), .int sn, .int sa, .int ri, .int fi, .int ro])))) rup_up d_Surf_freezeOrThaw_37 ?_
    exact r_vret (post := fun ad' c' => ad = ad' ∧ va_up c n (some (.inr (0, [.int wa, .int ((frzF wa w ic sn sa).1), .int ((frzF wa w ic sn sa).2.1), .int ((frzF wa w ic sn sa).2.2), .int sa, .int ri, .int fi, .int ro]))) = c') X hr hlk d_Surf_freezeOrThaw_40 (by decide) (by decide) ⟨rfl, by subst ev_4; (try simp only [frzF, mn, if_neg h_8]); first | done | rfl | exact rup_id (by assumption)⟩
set_option maxRecDepth 100000 in
set_option maxHeartbeats 4000000 in
/-- Surf_runOff -/
theorem c_Surf_runOff (l : Launch) (D : va_G) (cy : Nat → ClassId) (ad : Nat → Nat) (c : rC) (n : Nat) (wa w ic sn sa ri fi ro : Int32) (hc : c n = some (.inr (0, [.int wa, .int w, .int ic, .int sn, .int sa, .int ri, .int fi, .int ro]))) : rMv l D cls (TY cy) NW y_Surf_runOff (Cond.code y_Surf_runOff b_Surf_runOff 3 rt_Surf_runOff :: W0) { frames := 0, cells := 0, slots := 0, locals := 0 } [.ref (ad n)] ad c (fun ad' c' => ad = ad' ∧ va_up c n (some (.inr (0, [.int wa, .int ((runF w sa ri ro).1), .int ic, .int sn, .int ((runF w sa ri ro).2.1), .int ((runF w sa ri ro).2.2.1), .int fi, .int ((runF w sa ri ro).2.2.2)]))) = c') := by
  intro sz
  refine r_of (own := R_Surf) rfl (by decide +kernel) (Nat.le_of_ble_eq_true rfl) ?_
  intro p e s m below meth cd hsz X hr hlk hN hin
  refine r_lv [0] [(0, .ref (ad n))] rfl ?_
  refine r_aload_n X 0 d_Surf_runOff_0 rfl rfl ?_
  refine r_get X k_Surf 1 (by decide) f_Surf_15 rfl hc rfl d_Surf_runOff_1 ?_
  refine r_bipush X 8 d_Surf_runOff_4 (by decide) ?_
  refine r_icmp_gt X 10 d_Surf_runOff_6 (by decide) (fun h_6 => ?_) (fun h_6 => ?_)
  · refine r_aload_n X 0 d_Surf_runOff_10 rfl rfl ?_
    refine r_get X k_Surf 1 (by decide) f_Surf_15 rfl hc rfl d_Surf_runOff_11 ?_
    refine r_bipush X 8 d_Surf_runOff_14 (by decide) ?_
    refine r_isub X d_Surf_runOff_16 ?_
    refine r_topi (fun v_1 ev_1 => ?_)
    refine r_istore_n X [(1, .int v_1), (0, .ref (ad n))] d_Surf_runOff_17 rfl (by decide) rfl ?_
    refine r_iload_n X 0 d_Surf_runOff_18 rfl rfl ?_
    refine r_aload_n X 1 d_Surf_runOff_19 rfl rfl ?_
    refine r_get X k_Surf 4 (by decide) f_Surf_24 rfl hc rfl d_Surf_runOff_20 ?_
    refine r_imul X d_Surf_runOff_23 ?_
    refine r_aload_n X 1 d_Surf_runOff_24 rfl rfl ?_
    refine r_get X k_Surf 1 (by decide) f_Surf_15 rfl hc rfl d_Surf_runOff_25 ?_
    refine r_idiv X d_Surf_runOff_28 (fun h9 => by rw [h9] at h_6; exact absurd h_6 (by decide)) ?_
    refine r_topi (fun v_2 ev_2 => ?_)
    refine r_istore_n X [(2, .int v_2), (1, .int v_1), (0, .ref (ad n))] d_Surf_runOff_29 rfl (by decide) rfl ?_
    refine r_aload_n X 2 d_Surf_runOff_30 rfl rfl ?_
    refine r_bipush X 8 d_Surf_runOff_31 (by decide) ?_
    refine r_put X k_Surf 1 (by decide) f_Surf_15 rfl hc rfl rfl rfl (Nat.le_of_ble_eq_true rfl) [.int wa, .int 8, .int ic, .int sn, .int sa, .int ri, .int fi, .int ro] rfl (va_up c n (some (.inr (0, [.int wa, .int 8, .int ic, .int sn, .int sa, .int ri, .int fi, .int ro])))) rfl d_Surf_runOff_33 ?_
    refine r_aload_n X 2 d_Surf_runOff_36 rfl rfl ?_
    refine r_dup X d_Surf_runOff_37 rfl ?_
    refine r_get X k_Surf 7 (by decide) f_Surf_40 rfl rup_self rfl d_Surf_runOff_38 ?_
    refine r_iload_n X 1 d_Surf_runOff_41 rfl rfl ?_
    refine r_iadd X d_Surf_runOff_42 ?_
    refine r_put X k_Surf 7 (by decide) f_Surf_40 rfl rup_self rfl rfl rfl (Nat.le_of_ble_eq_true rfl) [.int wa, .int 8, .int ic, .int sn, .int sa, .int ri, .int fi, .int (ro + v_1)] rfl (va_up c n (some (.inr (0, [.int wa, .int 8, .int ic, .int sn, .int sa, .int ri, .int fi, .int (ro + v_1)])))) rup_up d_Surf_runOff_43 ?_
    refine r_aload_n X 2 d_Surf_runOff_46 rfl rfl ?_
    refine r_dup X d_Surf_runOff_47 rfl ?_
    refine r_get X k_Surf 4 (by decide) f_Surf_24 rfl rup_self rfl d_Surf_runOff_48 ?_
    refine r_iload_n X 0 d_Surf_runOff_51 rfl rfl ?_
    refine r_isub X d_Surf_runOff_52 ?_
    refine r_put X k_Surf 4 (by decide) f_Surf_24 rfl rup_self rfl rfl rfl (Nat.le_of_ble_eq_true rfl) [.int wa, .int 8, .int ic, .int sn, .int (sa - v_2), .int ri, .int fi, .int (ro + v_1)] rfl (va_up c n (some (.inr (0, [.int wa, .int 8, .int ic, .int sn, .int (sa - v_2), .int ri, .int fi, .int (ro + v_1)])))) rup_up d_Surf_runOff_53 ?_
    refine r_aload_n X 2 d_Surf_runOff_56 rfl rfl ?_
    refine r_dup X d_Surf_runOff_57 rfl ?_
    refine r_get X k_Surf 5 (by decide) f_Surf_43 rfl rup_self rfl d_Surf_runOff_58 ?_
    refine r_iload_n X 0 d_Surf_runOff_61 rfl rfl ?_
    refine r_iadd X d_Surf_runOff_62 ?_
    refine r_put X k_Surf 5 (by decide) f_Surf_43 rfl rup_self rfl rfl rfl (Nat.le_of_ble_eq_true rfl) [.int wa, .int 8, .int ic, .int sn, .int (sa - v_2), .int (ri + v_2), .int fi, .int (ro + v_1)] rfl (va_up c n (some (.inr (0, [.int wa, .int 8, .int ic, .int sn, .int (sa - v_2), .int (ri + v_2), .int fi, .int (ro + v_1)])))) rup_up d_Surf_runOff_63 ?_
    exact r_vret (post := fun ad' c' => ad = ad' ∧ va_up c n (some (.inr (0, [.int wa, .int ((runF w sa ri ro).1), .int ic, .int sn, .int ((runF w sa ri ro).2.1), .int ((runF w sa ri ro).2.2.1), .int fi, .int ((runF w sa ri ro).2.2.2)]))) = c') X hr hlk d_Surf_runOff_66 (by decide) (by decide) ⟨rfl, by subst ev_1; subst ev_2; (try simp only [runF, if_pos h_6]); first | done | rfl | exact rup_id (by assumption)⟩
  · exact r_vret (post := fun ad' c' => ad = ad' ∧ va_up c n (some (.inr (0, [.int wa, .int ((runF w sa ri ro).1), .int ic, .int sn, .int ((runF w sa ri ro).2.1), .int ((runF w sa ri ro).2.2.1), .int fi, .int ((runF w sa ri ro).2.2.2)]))) = c') X hr hlk d_Surf_runOff_9 (by decide) (by decide) ⟨rfl, by (try simp only [runF, if_neg h_6]); first | done | rfl | exact rup_id (by assumption)⟩
set_option maxRecDepth 100000 in
set_option maxHeartbeats 4000000 in
/-- Surf_loseToFields -/
theorem c_Surf_loseToFields (l : Launch) (D : va_G) (cy : Nat → ClassId) (ad : Nat → Nat) (c : rC) (n : Nat) (wa w ic sn sa ri fi ro : Int32) (hc : c n = some (.inr (0, [.int wa, .int w, .int ic, .int sn, .int sa, .int ri, .int fi, .int ro]))) (k : Int32) : rMv l D cls (TY cy) NW y_Surf_loseToFields (Cond.code y_Surf_loseToFields b_Surf_loseToFields 3 rt_Surf_loseToFields :: W0) { frames := 1, cells := 0, slots := 0, locals := 21 } [.ref (ad n), .int k] ad c (fun ad' c' => ad = ad' ∧ va_up c n (some (.inr (0, [.int wa, .int w, .int ic, .int sn, .int (sa - mn k sa), .int ri, .int (fi + mn k sa), .int ro]))) = c') := by
  intro sz
  refine r_of (own := R_Surf) rfl (by decide +kernel) (Nat.le_of_ble_eq_true rfl) ?_
  intro p e s m below meth cd hsz X hr hlk hN hin
  refine r_lv [0, 1] [(0, .ref (ad n)), (1, .int k)] rfl ?_
  refine r_iload_n X 1 d_Surf_loseToFields_0 rfl rfl ?_
  refine r_aload_n X 0 d_Surf_loseToFields_1 rfl rfl ?_
  refine r_get X k_Surf 4 (by decide) f_Surf_24 rfl hc rfl d_Surf_loseToFields_2 ?_
  refine r_min X m_Surf_27 s_min i_Math cd_min ⟨by decide, by decide, by decide, by decide⟩ (Nat.le_of_ble_eq_true rfl) d_Surf_loseToFields_5 ?_
  refine r_topi (fun v_1 ev_1 => ?_)
  refine r_istore_n X [(2, .int v_1), (0, .ref (ad n)), (1, .int k)] d_Surf_loseToFields_8 rfl (by decide) rfl ?_
  refine r_aload_n X 1 d_Surf_loseToFields_9 rfl rfl ?_
  refine r_dup X d_Surf_loseToFields_10 rfl ?_
  refine r_get X k_Surf 4 (by decide) f_Surf_24 rfl hc rfl d_Surf_loseToFields_11 ?_
  refine r_iload_n X 0 d_Surf_loseToFields_14 rfl rfl ?_
  refine r_isub X d_Surf_loseToFields_15 ?_
  refine r_put X k_Surf 4 (by decide) f_Surf_24 rfl hc rfl rfl rfl (Nat.le_of_ble_eq_true rfl) [.int wa, .int w, .int ic, .int sn, .int (sa - v_1), .int ri, .int fi, .int ro] rfl (va_up c n (some (.inr (0, [.int wa, .int w, .int ic, .int sn, .int (sa - v_1), .int ri, .int fi, .int ro])))) rfl d_Surf_loseToFields_16 ?_
  refine r_aload_n X 1 d_Surf_loseToFields_19 rfl rfl ?_
  refine r_dup X d_Surf_loseToFields_20 rfl ?_
  refine r_get X k_Surf 6 (by decide) f_Surf_46 rfl rup_self rfl d_Surf_loseToFields_21 ?_
  refine r_iload_n X 0 d_Surf_loseToFields_24 rfl rfl ?_
  refine r_iadd X d_Surf_loseToFields_25 ?_
  refine r_put X k_Surf 6 (by decide) f_Surf_46 rfl rup_self rfl rfl rfl (Nat.le_of_ble_eq_true rfl) [.int wa, .int w, .int ic, .int sn, .int (sa - v_1), .int ri, .int (fi + v_1), .int ro] rfl (va_up c n (some (.inr (0, [.int wa, .int w, .int ic, .int sn, .int (sa - v_1), .int ri, .int (fi + v_1), .int ro])))) rup_up d_Surf_loseToFields_26 ?_
  exact r_vret (post := fun ad' c' => ad = ad' ∧ va_up c n (some (.inr (0, [.int wa, .int w, .int ic, .int sn, .int (sa - mn k sa), .int ri, .int (fi + mn k sa), .int ro]))) = c') X hr hlk d_Surf_loseToFields_29 (by decide) (by decide) ⟨rfl, by subst ev_1; (try simp only [mn]); first | done | rfl | exact rup_id (by assumption)⟩
set_option maxRecDepth 100000 in
set_option maxHeartbeats 4000000 in
/-- Surf_becomeLike -/
theorem c_Surf_becomeLike (l : Launch) (D : va_G) (cy : Nat → ClassId) (ad : Nat → Nat) (c : rC) (n k : Nat) (hnk : n ≠ k) (wa w ic sn sa ri fi ro wa2 w2 ic2 sn2 sa2 ri2 fi2 ro2 : Int32) (hc : c n = some (.inr (0, [.int wa, .int w, .int ic, .int sn, .int sa, .int ri, .int fi, .int ro]))) (hk : c k = some (.inr (0, [.int wa2, .int w2, .int ic2, .int sn2, .int sa2, .int ri2, .int fi2, .int ro2]))) : rMv l D cls (TY cy) NW y_Surf_becomeLike (Cond.code y_Surf_becomeLike b_Surf_becomeLike 2 rt_Surf_becomeLike :: W0) { frames := 0, cells := 0, slots := 0, locals := 0 } [.ref (ad n), .ref (ad k)] ad c (fun ad' c' => ad = ad' ∧ va_up c n (some (.inr (0, [.int wa2, .int w2, .int ic2, .int sn2, .int sa2, .int ri, .int fi, .int ro]))) = c') := by
  intro sz
  refine r_of (own := R_Surf) rfl (by decide +kernel) (Nat.le_of_ble_eq_true rfl) ?_
  intro p e s m below meth cd hsz X hr hlk hN hin
  refine r_lv [0, 1] [(0, .ref (ad n)), (1, .ref (ad k))] rfl ?_
  refine r_aload_n X 0 d_Surf_becomeLike_0 rfl rfl ?_
  refine r_aload_n X 1 d_Surf_becomeLike_1 rfl rfl ?_
  refine r_get X k_Surf 0 (by decide) f_Surf_9 rfl hk rfl d_Surf_becomeLike_2 ?_
  refine r_put X k_Surf 0 (by decide) f_Surf_9 rfl hc rfl rfl rfl (Nat.le_of_ble_eq_true rfl) [.int wa2, .int w, .int ic, .int sn, .int sa, .int ri, .int fi, .int ro] rfl (va_up c n (some (.inr (0, [.int wa2, .int w, .int ic, .int sn, .int sa, .int ri, .int fi, .int ro])))) rfl d_Surf_becomeLike_5 ?_
  refine r_aload_n X 0 d_Surf_becomeLike_8 rfl rfl ?_
  refine r_aload_n X 1 d_Surf_becomeLike_9 rfl rfl ?_
  refine r_get X k_Surf 1 (by decide) f_Surf_15 rfl (rup_ne (by omega) (hk)) rfl d_Surf_becomeLike_10 ?_
  refine r_put X k_Surf 1 (by decide) f_Surf_15 rfl rup_self rfl rfl rfl (Nat.le_of_ble_eq_true rfl) [.int wa2, .int w2, .int ic, .int sn, .int sa, .int ri, .int fi, .int ro] rfl (va_up c n (some (.inr (0, [.int wa2, .int w2, .int ic, .int sn, .int sa, .int ri, .int fi, .int ro])))) rup_up d_Surf_becomeLike_13 ?_
  refine r_aload_n X 0 d_Surf_becomeLike_16 rfl rfl ?_
  refine r_aload_n X 1 d_Surf_becomeLike_17 rfl rfl ?_
  refine r_get X k_Surf 2 (by decide) f_Surf_18 rfl (rup_ne (by omega) (hk)) rfl d_Surf_becomeLike_18 ?_
  refine r_put X k_Surf 2 (by decide) f_Surf_18 rfl rup_self rfl rfl rfl (Nat.le_of_ble_eq_true rfl) [.int wa2, .int w2, .int ic2, .int sn, .int sa, .int ri, .int fi, .int ro] rfl (va_up c n (some (.inr (0, [.int wa2, .int w2, .int ic2, .int sn, .int sa, .int ri, .int fi, .int ro])))) rup_up d_Surf_becomeLike_21 ?_
  refine r_aload_n X 0 d_Surf_becomeLike_24 rfl rfl ?_
  refine r_aload_n X 1 d_Surf_becomeLike_25 rfl rfl ?_
  refine r_get X k_Surf 3 (by decide) f_Surf_21 rfl (rup_ne (by omega) (hk)) rfl d_Surf_becomeLike_26 ?_
  refine r_put X k_Surf 3 (by decide) f_Surf_21 rfl rup_self rfl rfl rfl (Nat.le_of_ble_eq_true rfl) [.int wa2, .int w2, .int ic2, .int sn2, .int sa, .int ri, .int fi, .int ro] rfl (va_up c n (some (.inr (0, [.int wa2, .int w2, .int ic2, .int sn2, .int sa, .int ri, .int fi, .int ro])))) rup_up d_Surf_becomeLike_29 ?_
  refine r_aload_n X 0 d_Surf_becomeLike_32 rfl rfl ?_
  refine r_aload_n X 1 d_Surf_becomeLike_33 rfl rfl ?_
  refine r_get X k_Surf 4 (by decide) f_Surf_24 rfl (rup_ne (by omega) (hk)) rfl d_Surf_becomeLike_34 ?_
  refine r_put X k_Surf 4 (by decide) f_Surf_24 rfl rup_self rfl rfl rfl (Nat.le_of_ble_eq_true rfl) [.int wa2, .int w2, .int ic2, .int sn2, .int sa2, .int ri, .int fi, .int ro] rfl (va_up c n (some (.inr (0, [.int wa2, .int w2, .int ic2, .int sn2, .int sa2, .int ri, .int fi, .int ro])))) rup_up d_Surf_becomeLike_37 ?_
  exact r_vret (post := fun ad' c' => ad = ad' ∧ va_up c n (some (.inr (0, [.int wa2, .int w2, .int ic2, .int sn2, .int sa2, .int ri, .int fi, .int ro]))) = c') X hr hlk d_Surf_becomeLike_40 (by decide) (by decide) ⟨rfl, rfl⟩
end
section
/-! roads, as numbers -/
def goalF (hei sha a z : Int32) : Int32 := a - hei / 3 - sha - (if z = 0 then 0 else 2)
def lossF (ran wind w sa fi : Int32) : Int32 × Int32 :=
  let a : Int32 × Int32 := if ran = 0 then (if w ≤ 0 then (sa, fi) else (sa - mn 1 sa, fi + mn 1 sa)) else (sa, fi)
  if wind < 2 then a else if w = 0 then (a.1 - mn 2 a.1, a.2 + mn 2 a.1) else a
/-- a surface's eight numbers: warmth, water, ice, snow, salt, river, fields, run-off -/
abbrev sf8 : Type := Int32 × Int32 × Int32 × Int32 × Int32 × Int32 × Int32 × Int32
abbrev surfE (x : sf8) : va_E := .inr (0, [.int x.1, .int x.2.1, .int x.2.2.1, .int x.2.2.2.1, .int x.2.2.2.2.1, .int x.2.2.2.2.2.1, .int x.2.2.2.2.2.2.1, .int x.2.2.2.2.2.2.2])
def wqF (hei sha bri ran a z rain flakes wind : Int32) (wa w ic sn sa ri fi ro : Int32) : sf8 :=
  let wa1 := nearF wa (goalF hei sha a z) (if bri = 0 then 1 else 2)
  let f := frzF wa1 (w + rain) ic (sn + flakes) sa
  let r := runF f.1 sa ri ro
  let y := lossF ran wind r.1 r.2.1 fi
  (wa1, r.1, f.2.1, f.2.2, y.1, r.2.2.1, y.2, r.2.2.2)
def roadF (k : Nat) (one oth len ran hei sha bri tim las wa w ic sn sa : Int32) : Int32 := match k with
  | 0 => one
  | 1 => oth
  | 2 => len
  | 3 => ran
  | 4 => hei
  | 5 => sha
  | 6 => if bri = 0 then 0 else 1
  | 7 => wa
  | 8 => w
  | 9 => ic
  | 10 => sn
  | 11 => sa
  | 12 => pointF w ic sn sa
  | 13 => tim
  | _ => las
/-- whether one of n places from j on holds something -/
def anyF (f : Nat → Int32) (j : Nat) : Nat → Int32
  | 0 => 0
  | n + 1 => if f j = 0 then anyF f (j + 1) n else 1
theorem anyF_bit (f : Nat → Int32) : ∀ (n j : Nat), anyF f j n = 0 ∨ anyF f j n = 1
  | 0, _ => Or.inl rfl
  | n + 1, j => by
    unfold anyF
    split
    · exact anyF_bit f n (j + 1)
    · exact Or.inr rfl
theorem nb_bit {x : Int32} (h : x = 0 ∨ x = 1) : narrow .boolean (.int x) = .int x := by
  rcases h with rfl | rfl <;> decide
theorem fb_bit {x : Int32} (h : x = 0 ∨ x = 1) : fits .boolean (.int x) = true := by
  rcases h with rfl | rfl <;> decide
theorem upd_nI {f : Nat → Int32} {t : Nat} {x : Int32} (h : t < 2 ^ 31) : upd f (nI t).toNatClampNeg x = upd f t x := by rw [nI_clamp h]
theorem at_nI {f : Nat → Int32} {t : Nat} (h : t < 2 ^ 31) : f (nI t).toNatClampNeg = f t := by rw [nI_clamp h]
set_option maxRecDepth 100000 in
set_option maxHeartbeats 4000000 in
/-- Road_goal -/
theorem c_Road_goal (l : Launch) (D : va_G) (cy : Nat → ClassId) (ad : Nat → Nat) (c : rC) (n ks kl kt : Nat) (one oth len ran hei sha bri tim las : Int32) (hc : c n = some (.inr (2, [.int one, .int oth, .int len, .int ran, .int hei, .int sha, .int bri, .ref (ad ks), .ref (ad kl), .ref (ad kt), .int tim, .int las]))) (a z : Int32) : rMi l D cls (TY cy) NW y_Road_goal (Cond.code y_Road_goal b_Road_goal 3 rt_Road_goal :: W0) { frames := 0, cells := 0, slots := 0, locals := 0 } [.ref (ad n), .int a, .int z] ad c (fun r ad' c' => goalF hei sha a z = r ∧ ad = ad' ∧ c = c') := by
  intro sz
  refine r_of (own := R_Road) rfl (by decide +kernel) (Nat.le_of_ble_eq_true rfl) ?_
  intro p e s m below meth cd hsz X hr hlk hN hin
  refine r_lv [0, 1, 2] [(0, .ref (ad n)), (1, .int a), (2, .int z)] rfl ?_
  refine r_iload_n X 1 d_Road_goal_0 rfl rfl ?_
  refine r_aload_n X 0 d_Road_goal_1 rfl rfl ?_
  refine r_get X k_Road 4 (by decide) f_Road_41 rfl hc rfl d_Road_goal_2 ?_
  refine r_iconst X 3 d_Road_goal_5 (by decide) ?_
  refine r_idiv X d_Road_goal_6 (by decide) ?_
  refine r_isub X d_Road_goal_7 ?_
  refine r_aload_n X 0 d_Road_goal_8 rfl rfl ?_
  refine r_get X k_Road 5 (by decide) f_Road_44 rfl hc rfl d_Road_goal_9 ?_
  refine r_isub X d_Road_goal_12 ?_
  refine r_iload_n X 2 d_Road_goal_13 rfl rfl ?_
  refine r_cut (fun u9 : Int32 => u9 = (if z = 0 then 0 else 2)) (fun _ => c) 22 (fun _ => [(0, .ref (ad n)), (1, .int a), (2, .int z)]) (fun u9 => [.int u9, .int ((a - (hei / 3)) - sha)]) (fun J9 => ?_) (fun t_1 ht_1 => ?_)
  · refine r_if_eq X 21 d_Road_goal_14 (by decide) (fun h9 => ?_) (fun h9 => ?_)
    · refine r_iconst X 0 d_Road_goal_21 (by decide) ?_
      exact J9 _ (if_pos h9).symm
    · refine r_iconst X 2 d_Road_goal_17 (by decide) ?_
      refine r_goto X 22 d_Road_goal_18 (by decide) ?_
      exact J9 _ (if_neg h9).symm
  subst ht_1
  refine r_isub X d_Road_goal_22 ?_
  exact r_iret (post := fun r ad' c' => goalF hei sha a z = r ∧ ad = ad' ∧ c = c') X hr hlk d_Road_goal_23 (by decide) (by decide) ⟨by (try simp only [goalF]); first | done | rfl | exact rup_id (by assumption), rfl, rfl⟩
set_option maxRecDepth 100000 in
set_option maxHeartbeats 4000000 in
/-- Road_notice -/
theorem c_Road_notice (l : Launch) (D : va_G) (cy : Nat → ClassId) (ad : Nat → Nat) (c : rC) (n ks kl kt : Nat) (one oth len ran hei sha bri tim las : Int32) (hc : c n = some (.inr (2, [.int one, .int oth, .int len, .int ran, .int hei, .int sha, .int bri, .ref (ad ks), .ref (ad kl), .ref (ad kt), .int tim, .int las]))) : rMi l D cls (TY cy) NW y_Road_notice (Cond.code y_Road_notice b_Road_notice 1 rt_Road_notice :: W0) { frames := 0, cells := 0, slots := 0, locals := 0 } [.ref (ad n)] ad c (fun r ad' c' => (if ran = 0 then 4 else if ran = 1 then 8 else 16) = r ∧ ad = ad' ∧ c = c') := by
  intro sz
  refine r_of (own := R_Road) rfl (by decide +kernel) (Nat.le_of_ble_eq_true rfl) ?_
  intro p e s m below meth cd hsz X hr hlk hN hin
  refine r_lv [0] [(0, .ref (ad n))] rfl ?_
  refine r_aload_n X 0 d_Road_notice_0 rfl rfl ?_
  refine r_get X k_Road 3 (by decide) f_Road_38 rfl hc rfl d_Road_notice_1 ?_
  refine r_if_ne X 11 d_Road_notice_4 (by decide) (fun h_4 => ?_) (fun h_4 => ?_)
  · refine r_aload_n X 0 d_Road_notice_11 rfl rfl ?_
    refine r_get X k_Road 3 (by decide) f_Road_38 rfl hc rfl d_Road_notice_12 ?_
    refine r_iconst X 1 d_Road_notice_15 (by decide) ?_
    refine r_cut (fun u9 : Int32 => u9 = (if ran = 1 then 8 else 16)) (fun _ => c) 26 (fun _ => [(0, .ref (ad n))]) (fun u9 => [.int u9]) (fun J9 => ?_) (fun t_1 ht_1 => ?_)
    · refine r_icmp_ne X 24 d_Road_notice_16 (by decide) (fun h9 => ?_) (fun h9 => ?_)
      · refine r_bipush X 16 d_Road_notice_24 (by decide) ?_
        exact J9 _ (if_neg h9).symm
      · refine r_bipush X 8 d_Road_notice_19 (by decide) ?_
        refine r_goto X 26 d_Road_notice_21 (by decide) ?_
        exact J9 _ (if_pos h9).symm
    subst ht_1
    exact r_iret (post := fun r ad' c' => (if ran = 0 then 4 else if ran = 1 then 8 else 16) = r ∧ ad = ad' ∧ c = c') X hr hlk d_Road_notice_26 (by decide) (by decide) ⟨by (try simp only [if_neg h_4]); first | done | rfl | exact rup_id (by assumption), rfl, rfl⟩
  · refine r_iconst X 4 d_Road_notice_7 (by decide) ?_
    refine r_goto X 26 d_Road_notice_8 (by decide) ?_
    exact r_iret (post := fun r ad' c' => (if ran = 0 then 4 else if ran = 1 then 8 else 16) = r ∧ ad = ad' ∧ c = c') X hr hlk d_Road_notice_26 (by decide) (by decide) ⟨by (try simp only [if_pos h_4]); first | done | rfl | exact rup_id (by assumption), rfl, rfl⟩
set_option maxRecDepth 100000 in
set_option maxHeartbeats 4000000 in
/-- Road_joins -/
theorem c_Road_joins (l : Launch) (D : va_G) (cy : Nat → ClassId) (ad : Nat → Nat) (c : rC) (n ks kl kt : Nat) (one oth len ran hei sha bri tim las : Int32) (hc : c n = some (.inr (2, [.int one, .int oth, .int len, .int ran, .int hei, .int sha, .int bri, .ref (ad ks), .ref (ad kl), .ref (ad kt), .int tim, .int las]))) (x : Int32) : rMi l D cls (TY cy) NW y_Road_joins (Cond.code y_Road_joins b_Road_joins 2 rt_Road_joins :: W0) { frames := 0, cells := 0, slots := 0, locals := 0 } [.ref (ad n), .int x] ad c (fun r ad' c' => (if x = one then 1 else if x = oth then 1 else 0) = r ∧ ad = ad' ∧ c = c') := by
  intro sz
  refine r_of (own := R_Road) rfl (by decide +kernel) (Nat.le_of_ble_eq_true rfl) ?_
  intro p e s m below meth cd hsz X hr hlk hN hin
  refine r_lv [0, 1] [(0, .ref (ad n)), (1, .int x)] rfl ?_
  refine r_iload_n X 1 d_Road_joins_0 rfl rfl ?_
  refine r_aload_n X 0 d_Road_joins_1 rfl rfl ?_
  refine r_get X k_Road 0 (by decide) f_Road_29 rfl hc rfl d_Road_joins_2 ?_
  refine r_icmp_eq X 16 d_Road_joins_5 (by decide) (fun h_5 => ?_) (fun h_5 => ?_)
  · refine r_iconst X 1 d_Road_joins_16 (by decide) ?_
    refine r_goto X 21 d_Road_joins_17 (by decide) ?_
    exact r_zret (post := fun r ad' c' => (if x = one then 1 else if x = oth then 1 else 0) = r ∧ ad = ad' ∧ c = c') X hr hlk (by first | decide | (split <;> decide) | assumption) d_Road_joins_21 (by decide) (by decide) ⟨by (try simp only [if_pos h_5]); first | done | rfl | exact rup_id (by assumption), rfl, rfl⟩
  · refine r_iload_n X 1 d_Road_joins_8 rfl rfl ?_
    refine r_aload_n X 0 d_Road_joins_9 rfl rfl ?_
    refine r_get X k_Road 1 (by decide) f_Road_32 rfl hc rfl d_Road_joins_10 ?_
    refine r_cut (fun u9 : Int32 => u9 = (if x = oth then 1 else 0)) (fun _ => c) 21 (fun _ => [(0, .ref (ad n)), (1, .int x)]) (fun u9 => [.int u9]) (fun J9 => ?_) (fun t_1 ht_1 => ?_)
    · refine r_icmp_ne X 20 d_Road_joins_13 (by decide) (fun h9 => ?_) (fun h9 => ?_)
      · refine r_iconst X 0 d_Road_joins_20 (by decide) ?_
        exact J9 _ (if_neg h9).symm
      · refine r_iconst X 1 d_Road_joins_16 (by decide) ?_
        refine r_goto X 21 d_Road_joins_17 (by decide) ?_
        exact J9 _ (if_pos h9).symm
    subst ht_1
    exact r_zret (post := fun r ad' c' => (if x = one then 1 else if x = oth then 1 else 0) = r ∧ ad = ad' ∧ c = c') X hr hlk (by first | decide | (split <;> decide) | assumption) d_Road_joins_21 (by decide) (by decide) ⟨by (try simp only [if_neg h_5]); first | done | rfl | exact rup_id (by assumption), rfl, rfl⟩
set_option maxRecDepth 100000 in
set_option maxHeartbeats 4000000 in
/-- Road_otherEnd -/
theorem c_Road_otherEnd (l : Launch) (D : va_G) (cy : Nat → ClassId) (ad : Nat → Nat) (c : rC) (n ks kl kt : Nat) (one oth len ran hei sha bri tim las : Int32) (hc : c n = some (.inr (2, [.int one, .int oth, .int len, .int ran, .int hei, .int sha, .int bri, .ref (ad ks), .ref (ad kl), .ref (ad kt), .int tim, .int las]))) (x : Int32) : rMi l D cls (TY cy) NW y_Road_otherEnd (Cond.code y_Road_otherEnd b_Road_otherEnd 2 rt_Road_otherEnd :: W0) { frames := 0, cells := 0, slots := 0, locals := 0 } [.ref (ad n), .int x] ad c (fun r ad' c' => (if x = one then oth else one) = r ∧ ad = ad' ∧ c = c') := by
  intro sz
  refine r_of (own := R_Road) rfl (by decide +kernel) (Nat.le_of_ble_eq_true rfl) ?_
  intro p e s m below meth cd hsz X hr hlk hN hin
  refine r_lv [0, 1] [(0, .ref (ad n)), (1, .int x)] rfl ?_
  refine r_iload_n X 1 d_Road_otherEnd_0 rfl rfl ?_
  refine r_aload_n X 0 d_Road_otherEnd_1 rfl rfl ?_
  refine r_get X k_Road 0 (by decide) f_Road_29 rfl hc rfl d_Road_otherEnd_2 ?_
  refine r_icmp_ne X 15 d_Road_otherEnd_5 (by decide) (fun h_5 => ?_) (fun h_5 => ?_)
  · refine r_aload_n X 0 d_Road_otherEnd_15 rfl rfl ?_
    refine r_get X k_Road 0 (by decide) f_Road_29 rfl hc rfl d_Road_otherEnd_16 ?_
    exact r_iret (post := fun r ad' c' => (if x = one then oth else one) = r ∧ ad = ad' ∧ c = c') X hr hlk d_Road_otherEnd_19 (by decide) (by decide) ⟨by (try simp only [if_neg h_5]); first | done | rfl | exact rup_id (by assumption), rfl, rfl⟩
  · refine r_aload_n X 0 d_Road_otherEnd_8 rfl rfl ?_
    refine r_get X k_Road 1 (by decide) f_Road_32 rfl hc rfl d_Road_otherEnd_9 ?_
    refine r_goto X 19 d_Road_otherEnd_12 (by decide) ?_
    exact r_iret (post := fun r ad' c' => (if x = one then oth else one) = r ∧ ad = ad' ∧ c = c') X hr hlk d_Road_otherEnd_19 (by decide) (by decide) ⟨by (try simp only [if_pos h_5]); first | done | rfl | exact rup_id (by assumption), rfl, rfl⟩
set_option maxRecDepth 100000 in
set_option maxHeartbeats 4000000 in
/-- Road_weatherQuarter -/
theorem c_Road_weatherQuarter (l : Launch) (D : va_G) (cy : Nat → ClassId) (ad : Nat → Nat) (c : rC) (n ks kl kt : Nat) (one oth len ran hei sha bri tim las : Int32) (hc : c n = some (.inr (2, [.int one, .int oth, .int len, .int ran, .int hei, .int sha, .int bri, .ref (ad ks), .ref (ad kl), .ref (ad kt), .int tim, .int las]))) (k j : Nat) (hnk : n ≠ k) (hnj : n ≠ j) (hkj : k ≠ j) (wa w ic sn sa ri fi ro wea wez wer wef wew : Int32) (hk : c k = some (.inr (0, [.int wa, .int w, .int ic, .int sn, .int sa, .int ri, .int fi, .int ro]))) (hj : c j = some (.inr (1, [.int wea, .int wez, .int wer, .int wef, .int wew]))) : rMv l D cls (TY cy) NW y_Road_weatherQuarter (Cond.code y_Road_weatherQuarter b_Road_weatherQuarter 3 rt_Road_weatherQuarter :: W0) { frames := 2, cells := 0, slots := 0, locals := 45 } [.ref (ad n), .ref (ad k), .ref (ad j)] ad c (fun ad' c' => ad = ad' ∧ va_up c k (some (surfE (wqF hei sha bri ran wea wez wer wef wew wa w ic sn sa ri fi ro))) = c') := by
  intro sz
  refine r_of (own := R_Road) rfl (by decide +kernel) (Nat.le_of_ble_eq_true rfl) ?_
  intro p e s m below meth cd hsz X hr hlk hN hin
  refine r_lv [0, 1, 2] [(0, .ref (ad n)), (1, .ref (ad k)), (2, .ref (ad j))] rfl ?_
  refine r_aload_n X 1 d_Road_weatherQuarter_0 rfl rfl ?_
  refine r_aload_n X 0 d_Road_weatherQuarter_1 rfl rfl ?_
  refine r_aload_n X 2 d_Road_weatherQuarter_2 rfl rfl ?_
  refine r_get X k_Wea 0 (by decide) f_Road_51 rfl hj rfl d_Road_weatherQuarter_3 ?_
  refine r_aload_n X 2 d_Road_weatherQuarter_6 rfl rfl ?_
  refine r_get X k_Wea 1 (by decide) f_Road_56 rfl hj rfl d_Road_weatherQuarter_7 ?_
  refine r_Vi X W0_good hN (c_Road_goal l D cy ad (c) n ks kl kt one oth len ran hei sha bri tim las hc wea wez) yv_Road_goal m_Road_59 hc k_Road.2.1 rfl rfl rfl ⟨by decide, by decide⟩ (Nat.le_of_ble_eq_true rfl) ⟨by decide, by decide⟩ d_Road_weatherQuarter_10 (fun r9 ad9 c9 hp9 => ?_)
  obtain ⟨rfl, rfl, rfl⟩ := hp9
  refine r_aload_n X 0 d_Road_weatherQuarter_13 rfl rfl ?_
  refine r_get X k_Road 6 (by decide) f_Road_47 rfl hc rfl d_Road_weatherQuarter_14 ?_
  refine r_cut (fun u9 : Int32 => u9 = (if bri = 0 then 1 else 2)) (fun _ => c) 25 (fun _ => [(0, .ref (ad n)), (1, .ref (ad k)), (2, .ref (ad j))]) (fun u9 => [.int u9, .int (goalF hei sha wea wez), .ref (ad k)]) (fun J9 => ?_) (fun t_1 ht_1 => ?_)
  · refine r_if_eq X 24 d_Road_weatherQuarter_17 (by decide) (fun h9 => ?_) (fun h9 => ?_)
    · refine r_iconst X 1 d_Road_weatherQuarter_24 (by decide) ?_
      exact J9 _ (if_pos h9).symm
    · refine r_iconst X 2 d_Road_weatherQuarter_20 (by decide) ?_
      refine r_goto X 25 d_Road_weatherQuarter_21 (by decide) ?_
      exact J9 _ (if_neg h9).symm
  subst ht_1
  refine r_Vv X W0_good hN (c_Surf_comeNearer l D cy ad (c) k wa w ic sn sa ri fi ro hk (goalF hei sha wea wez) (if bri = 0 then 1 else 2)) yv_Surf_comeNearer m_Road_63 hk k_Surf.2.1 rfl rfl rfl ⟨by decide, by decide⟩ (Nat.le_of_ble_eq_true rfl) ⟨by decide, by decide⟩ d_Road_weatherQuarter_25 (fun ad9 c9 hp9 => ?_)
  obtain ⟨rfl, rfl⟩ := hp9
  refine r_aload_n X 1 d_Road_weatherQuarter_28 rfl rfl ?_
  refine r_dup X d_Road_weatherQuarter_29 rfl ?_
  refine r_get X k_Surf 1 (by decide) f_Road_67 rfl rup_self rfl d_Road_weatherQuarter_30 ?_
  refine r_aload_n X 2 d_Road_weatherQuarter_33 rfl rfl ?_
  refine r_get X k_Wea 2 (by decide) f_Road_70 rfl (rup_ne (by omega) (hj)) rfl d_Road_weatherQuarter_34 ?_
  refine r_iadd X d_Road_weatherQuarter_37 ?_
  refine r_put X k_Surf 1 (by decide) f_Road_67 rfl rup_self rfl rfl rfl (Nat.le_of_ble_eq_true rfl) [.int (nearF wa (goalF hei sha wea wez) (if bri = 0 then 1 else 2)), .int (w + wer), .int ic, .int sn, .int sa, .int ri, .int fi, .int ro] rfl (va_up c k (some (.inr (0, [.int (nearF wa (goalF hei sha wea wez) (if bri = 0 then 1 else 2)), .int (w + wer), .int ic, .int sn, .int sa, .int ri, .int fi, .int ro])))) rup_up d_Road_weatherQuarter_38 ?_
  refine r_aload_n X 1 d_Road_weatherQuarter_41 rfl rfl ?_
  refine r_dup X d_Road_weatherQuarter_42 rfl ?_
  refine r_get X k_Surf 3 (by decide) f_Road_73 rfl rup_self rfl d_Road_weatherQuarter_43 ?_
  refine r_aload_n X 2 d_Road_weatherQuarter_46 rfl rfl ?_
  refine r_get X k_Wea 3 (by decide) f_Road_76 rfl (rup_ne (by omega) (hj)) rfl d_Road_weatherQuarter_47 ?_
  refine r_iadd X d_Road_weatherQuarter_50 ?_
  refine r_put X k_Surf 3 (by decide) f_Road_73 rfl rup_self rfl rfl rfl (Nat.le_of_ble_eq_true rfl) [.int (nearF wa (goalF hei sha wea wez) (if bri = 0 then 1 else 2)), .int (w + wer), .int ic, .int (sn + wef), .int sa, .int ri, .int fi, .int ro] rfl (va_up c k (some (.inr (0, [.int (nearF wa (goalF hei sha wea wez) (if bri = 0 then 1 else 2)), .int (w + wer), .int ic, .int (sn + wef), .int sa, .int ri, .int fi, .int ro])))) rup_up d_Road_weatherQuarter_51 ?_
  refine r_aload_n X 1 d_Road_weatherQuarter_54 rfl rfl ?_
  refine r_Vv X W0_good hN (c_Surf_freezeOrThaw l D cy ad (va_up c k (some (.inr (0, [.int (nearF wa (goalF hei sha wea wez) (if bri = 0 then 1 else 2)), .int (w + wer), .int ic, .int (sn + wef), .int sa, .int ri, .int fi, .int ro])))) k (nearF wa (goalF hei sha wea wez) (if bri = 0 then 1 else 2)) (w + wer) ic (sn + wef) sa ri fi ro rup_self) yv_Surf_freezeOrThaw m_Road_79 rup_self k_Surf.2.1 rfl rfl rfl ⟨by decide, by decide⟩ (Nat.le_of_ble_eq_true rfl) ⟨by decide, by decide⟩ d_Road_weatherQuarter_55 (fun ad9 c9 hp9 => ?_)
  obtain ⟨rfl, rfl⟩ := hp9
  refine r_c (va_up c k (some (.inr (0, [.int (nearF wa (goalF hei sha wea wez) (if bri = 0 then 1 else 2)), .int ((frzF (nearF wa (goalF hei sha wea wez) (if bri = 0 then 1 else 2)) (w + wer) ic (sn + wef) sa).1), .int ((frzF (nearF wa (goalF hei sha wea wez) (if bri = 0 then 1 else 2)) (w + wer) ic (sn + wef) sa).2.1), .int ((frzF (nearF wa (goalF hei sha wea wez) (if bri = 0 then 1 else 2)) (w + wer) ic (sn + wef) sa).2.2), .int sa, .int ri, .int fi, .int ro])))) rup_up ?_
  refine r_aload_n X 1 d_Road_weatherQuarter_58 rfl rfl ?_
  refine r_Vv X W0_good hN (c_Surf_runOff l D cy ad (va_up c k (some (.inr (0, [.int (nearF wa (goalF hei sha wea wez) (if bri = 0 then 1 else 2)), .int ((frzF (nearF wa (goalF hei sha wea wez) (if bri = 0 then 1 else 2)) (w + wer) ic (sn + wef) sa).1), .int ((frzF (nearF wa (goalF hei sha wea wez) (if bri = 0 then 1 else 2)) (w + wer) ic (sn + wef) sa).2.1), .int ((frzF (nearF wa (goalF hei sha wea wez) (if bri = 0 then 1 else 2)) (w + wer) ic (sn + wef) sa).2.2), .int sa, .int ri, .int fi, .int ro])))) k (nearF wa (goalF hei sha wea wez) (if bri = 0 then 1 else 2)) ((frzF (nearF wa (goalF hei sha wea wez) (if bri = 0 then 1 else 2)) (w + wer) ic (sn + wef) sa).1) ((frzF (nearF wa (goalF hei sha wea wez) (if bri = 0 then 1 else 2)) (w + wer) ic (sn + wef) sa).2.1) ((frzF (nearF wa (goalF hei sha wea wez) (if bri = 0 then 1 else 2)) (w + wer) ic (sn + wef) sa).2.2) sa ri fi ro rup_self) yv_Surf_runOff m_Road_82 rup_self k_Surf.2.1 rfl rfl rfl ⟨by decide, by decide⟩ (Nat.le_of_ble_eq_true rfl) ⟨by decide, by decide⟩ d_Road_weatherQuarter_59 (fun ad9 c9 hp9 => ?_)
  obtain ⟨rfl, rfl⟩ := hp9
  refine r_c (va_up c k (some (.inr (0, [.int (nearF wa (goalF hei sha wea wez) (if bri = 0 then 1 else 2)), .int ((runF ((frzF (nearF wa (goalF hei sha wea wez) (if bri = 0 then 1 else 2)) (w + wer) ic (sn + wef) sa).1) sa ri ro).1), .int ((frzF (nearF wa (goalF hei sha wea wez) (if bri = 0 then 1 else 2)) (w + wer) ic (sn + wef) sa).2.1), .int ((frzF (nearF wa (goalF hei sha wea wez) (if bri = 0 then 1 else 2)) (w + wer) ic (sn + wef) sa).2.2), .int ((runF ((frzF (nearF wa (goalF hei sha wea wez) (if bri = 0 then 1 else 2)) (w + wer) ic (sn + wef) sa).1) sa ri ro).2.1), .int ((runF ((frzF (nearF wa (goalF hei sha wea wez) (if bri = 0 then 1 else 2)) (w + wer) ic (sn + wef) sa).1) sa ri ro).2.2.1), .int fi, .int ((runF ((frzF (nearF wa (goalF hei sha wea wez) (if bri = 0 then 1 else 2)) (w + wer) ic (sn + wef) sa).1) sa ri ro).2.2.2)])))) rup_up ?_
  refine r_aload_n X 0 d_Road_weatherQuarter_62 rfl rfl ?_
  refine r_get X k_Road 3 (by decide) f_Road_38 rfl (rup_ne (by omega) (hc)) rfl d_Road_weatherQuarter_63 ?_
  refine r_if_ne X 81 d_Road_weatherQuarter_66 (by decide) (fun h_66 => ?_) (fun h_66 => ?_)
  · refine r_aload_n X 2 d_Road_weatherQuarter_81 rfl rfl ?_
    refine r_get X k_Wea 4 (by decide) f_Road_89 rfl (rup_ne (by omega) (hj)) rfl d_Road_weatherQuarter_82 ?_
    refine r_iconst X 2 d_Road_weatherQuarter_85 (by decide) ?_
    refine r_icmp_lt X 101 d_Road_weatherQuarter_86 (by decide) (fun h_86 => ?_) (fun h_86 => ?_)
    · exact r_vret (post := fun ad' c' => ad = ad' ∧ va_up c k (some (surfE (wqF hei sha bri ran wea wez wer wef wew wa w ic sn sa ri fi ro))) = c') X hr hlk d_Road_weatherQuarter_101 (by decide) (by decide) ⟨rfl, by (try simp only [wqF, lossF, if_neg h_66, if_pos h_86]); first | done | rfl | exact rup_id (by assumption)⟩
    · refine r_aload_n X 1 d_Road_weatherQuarter_89 rfl rfl ?_
      refine r_get X k_Surf 1 (by decide) f_Road_67 rfl rup_self rfl d_Road_weatherQuarter_90 ?_
      refine r_if_ne X 101 d_Road_weatherQuarter_93 (by decide) (fun h_93 => ?_) (fun h_93 => ?_)
      · exact r_vret (post := fun ad' c' => ad = ad' ∧ va_up c k (some (surfE (wqF hei sha bri ran wea wez wer wef wew wa w ic sn sa ri fi ro))) = c') X hr hlk d_Road_weatherQuarter_101 (by decide) (by decide) ⟨rfl, by (try simp only [wqF, lossF, if_neg h_66, if_neg h_86, if_neg h_93]); first | done | rfl | exact rup_id (by assumption)⟩
      · refine r_aload_n X 1 d_Road_weatherQuarter_96 rfl rfl ?_
        refine r_iconst X 2 d_Road_weatherQuarter_97 (by decide) ?_
        refine r_Vv X W0_good hN (c_Surf_loseToFields l D cy ad (va_up c k (some (.inr (0, [.int (nearF wa (goalF hei sha wea wez) (if bri = 0 then 1 else 2)), .int ((runF ((frzF (nearF wa (goalF hei sha wea wez) (if bri = 0 then 1 else 2)) (w + wer) ic (sn + wef) sa).1) sa ri ro).1), .int ((frzF (nearF wa (goalF hei sha wea wez) (if bri = 0 then 1 else 2)) (w + wer) ic (sn + wef) sa).2.1), .int ((frzF (nearF wa (goalF hei sha wea wez) (if bri = 0 then 1 else 2)) (w + wer) ic (sn + wef) sa).2.2), .int ((runF ((frzF (nearF wa (goalF hei sha wea wez) (if bri = 0 then 1 else 2)) (w + wer) ic (sn + wef) sa).1) sa ri ro).2.1), .int ((runF ((frzF (nearF wa (goalF hei sha wea wez) (if bri = 0 then 1 else 2)) (w + wer) ic (sn + wef) sa).1) sa ri ro).2.2.1), .int fi, .int ((runF ((frzF (nearF wa (goalF hei sha wea wez) (if bri = 0 then 1 else 2)) (w + wer) ic (sn + wef) sa).1) sa ri ro).2.2.2)])))) k (nearF wa (goalF hei sha wea wez) (if bri = 0 then 1 else 2)) ((runF ((frzF (nearF wa (goalF hei sha wea wez) (if bri = 0 then 1 else 2)) (w + wer) ic (sn + wef) sa).1) sa ri ro).1) ((frzF (nearF wa (goalF hei sha wea wez) (if bri = 0 then 1 else 2)) (w + wer) ic (sn + wef) sa).2.1) ((frzF (nearF wa (goalF hei sha wea wez) (if bri = 0 then 1 else 2)) (w + wer) ic (sn + wef) sa).2.2) ((runF ((frzF (nearF wa (goalF hei sha wea wez) (if bri = 0 then 1 else 2)) (w + wer) ic (sn + wef) sa).1) sa ri ro).2.1) ((runF ((frzF (nearF wa (goalF hei sha wea wez) (if bri = 0 then 1 else 2)) (w + wer) ic (sn + wef) sa).1) sa ri ro).2.2.1) fi ((runF ((frzF (nearF wa (goalF hei sha wea wez) (if bri = 0 then 1 else 2)) (w + wer) ic (sn + wef) sa).1) sa ri ro).2.2.2) rup_self 2) yv_Surf_loseToFields m_Road_85 rup_self k_Surf.2.1 rfl rfl rfl ⟨by decide, by decide⟩ (Nat.le_of_ble_eq_true rfl) ⟨by decide, by decide⟩ d_Road_weatherQuarter_98 (fun ad9 c9 hp9 => ?_)
        obtain ⟨rfl, rfl⟩ := hp9
        refine r_c (va_up c k (some (.inr (0, [.int (nearF wa (goalF hei sha wea wez) (if bri = 0 then 1 else 2)), .int ((runF ((frzF (nearF wa (goalF hei sha wea wez) (if bri = 0 then 1 else 2)) (w + wer) ic (sn + wef) sa).1) sa ri ro).1), .int ((frzF (nearF wa (goalF hei sha wea wez) (if bri = 0 then 1 else 2)) (w + wer) ic (sn + wef) sa).2.1), .int ((frzF (nearF wa (goalF hei sha wea wez) (if bri = 0 then 1 else 2)) (w + wer) ic (sn + wef) sa).2.2), .int (((runF ((frzF (nearF wa (goalF hei sha wea wez) (if bri = 0 then 1 else 2)) (w + wer) ic (sn + wef) sa).1) sa ri ro).2.1) - mn 2 ((runF ((frzF (nearF wa (goalF hei sha wea wez) (if bri = 0 then 1 else 2)) (w + wer) ic (sn + wef) sa).1) sa ri ro).2.1)), .int ((runF ((frzF (nearF wa (goalF hei sha wea wez) (if bri = 0 then 1 else 2)) (w + wer) ic (sn + wef) sa).1) sa ri ro).2.2.1), .int (fi + mn 2 ((runF ((frzF (nearF wa (goalF hei sha wea wez) (if bri = 0 then 1 else 2)) (w + wer) ic (sn + wef) sa).1) sa ri ro).2.1)), .int ((runF ((frzF (nearF wa (goalF hei sha wea wez) (if bri = 0 then 1 else 2)) (w + wer) ic (sn + wef) sa).1) sa ri ro).2.2.2)])))) rup_up ?_
        exact r_vret (post := fun ad' c' => ad = ad' ∧ va_up c k (some (surfE (wqF hei sha bri ran wea wez wer wef wew wa w ic sn sa ri fi ro))) = c') X hr hlk d_Road_weatherQuarter_101 (by decide) (by decide) ⟨rfl, by (try simp only [wqF, lossF, if_neg h_66, if_neg h_86, if_pos h_93]); first | done | rfl | exact rup_id (by assumption)⟩
  · refine r_aload_n X 1 d_Road_weatherQuarter_69 rfl rfl ?_
    refine r_get X k_Surf 1 (by decide) f_Road_67 rfl rup_self rfl d_Road_weatherQuarter_70 ?_
    refine r_if_le X 81 d_Road_weatherQuarter_73 (by decide) (fun h_73 => ?_) (fun h_73 => ?_)
    · refine r_aload_n X 2 d_Road_weatherQuarter_81 rfl rfl ?_
      refine r_get X k_Wea 4 (by decide) f_Road_89 rfl (rup_ne (by omega) (hj)) rfl d_Road_weatherQuarter_82 ?_
      refine r_iconst X 2 d_Road_weatherQuarter_85 (by decide) ?_
      refine r_icmp_lt X 101 d_Road_weatherQuarter_86 (by decide) (fun h_86 => ?_) (fun h_86 => ?_)
      · exact r_vret (post := fun ad' c' => ad = ad' ∧ va_up c k (some (surfE (wqF hei sha bri ran wea wez wer wef wew wa w ic sn sa ri fi ro))) = c') X hr hlk d_Road_weatherQuarter_101 (by decide) (by decide) ⟨rfl, by (try simp only [wqF, lossF, if_pos h_66, if_pos h_73, if_pos h_86]); first | done | rfl | exact rup_id (by assumption)⟩
      · refine r_aload_n X 1 d_Road_weatherQuarter_89 rfl rfl ?_
        refine r_get X k_Surf 1 (by decide) f_Road_67 rfl rup_self rfl d_Road_weatherQuarter_90 ?_
        refine r_if_ne X 101 d_Road_weatherQuarter_93 (by decide) (fun h_93 => ?_) (fun h_93 => ?_)
        · exact r_vret (post := fun ad' c' => ad = ad' ∧ va_up c k (some (surfE (wqF hei sha bri ran wea wez wer wef wew wa w ic sn sa ri fi ro))) = c') X hr hlk d_Road_weatherQuarter_101 (by decide) (by decide) ⟨rfl, by (try simp only [wqF, lossF, if_pos h_66, if_pos h_73, if_neg h_86, if_neg h_93]); first | done | rfl | exact rup_id (by assumption)⟩
        · refine r_aload_n X 1 d_Road_weatherQuarter_96 rfl rfl ?_
          refine r_iconst X 2 d_Road_weatherQuarter_97 (by decide) ?_
          refine r_Vv X W0_good hN (c_Surf_loseToFields l D cy ad (va_up c k (some (.inr (0, [.int (nearF wa (goalF hei sha wea wez) (if bri = 0 then 1 else 2)), .int ((runF ((frzF (nearF wa (goalF hei sha wea wez) (if bri = 0 then 1 else 2)) (w + wer) ic (sn + wef) sa).1) sa ri ro).1), .int ((frzF (nearF wa (goalF hei sha wea wez) (if bri = 0 then 1 else 2)) (w + wer) ic (sn + wef) sa).2.1), .int ((frzF (nearF wa (goalF hei sha wea wez) (if bri = 0 then 1 else 2)) (w + wer) ic (sn + wef) sa).2.2), .int ((runF ((frzF (nearF wa (goalF hei sha wea wez) (if bri = 0 then 1 else 2)) (w + wer) ic (sn + wef) sa).1) sa ri ro).2.1), .int ((runF ((frzF (nearF wa (goalF hei sha wea wez) (if bri = 0 then 1 else 2)) (w + wer) ic (sn + wef) sa).1) sa ri ro).2.2.1), .int fi, .int ((runF ((frzF (nearF wa (goalF hei sha wea wez) (if bri = 0 then 1 else 2)) (w + wer) ic (sn + wef) sa).1) sa ri ro).2.2.2)])))) k (nearF wa (goalF hei sha wea wez) (if bri = 0 then 1 else 2)) ((runF ((frzF (nearF wa (goalF hei sha wea wez) (if bri = 0 then 1 else 2)) (w + wer) ic (sn + wef) sa).1) sa ri ro).1) ((frzF (nearF wa (goalF hei sha wea wez) (if bri = 0 then 1 else 2)) (w + wer) ic (sn + wef) sa).2.1) ((frzF (nearF wa (goalF hei sha wea wez) (if bri = 0 then 1 else 2)) (w + wer) ic (sn + wef) sa).2.2) ((runF ((frzF (nearF wa (goalF hei sha wea wez) (if bri = 0 then 1 else 2)) (w + wer) ic (sn + wef) sa).1) sa ri ro).2.1) ((runF ((frzF (nearF wa (goalF hei sha wea wez) (if bri = 0 then 1 else 2)) (w + wer) ic (sn + wef) sa).1) sa ri ro).2.2.1) fi ((runF ((frzF (nearF wa (goalF hei sha wea wez) (if bri = 0 then 1 else 2)) (w + wer) ic (sn + wef) sa).1) sa ri ro).2.2.2) rup_self 2) yv_Surf_loseToFields m_Road_85 rup_self k_Surf.2.1 rfl rfl rfl ⟨by decide, by decide⟩ (Nat.le_of_ble_eq_true rfl) ⟨by decide, by decide⟩ d_Road_weatherQuarter_98 (fun ad9 c9 hp9 => ?_)
          obtain ⟨rfl, rfl⟩ := hp9
          refine r_c (va_up c k (some (.inr (0, [.int (nearF wa (goalF hei sha wea wez) (if bri = 0 then 1 else 2)), .int ((runF ((frzF (nearF wa (goalF hei sha wea wez) (if bri = 0 then 1 else 2)) (w + wer) ic (sn + wef) sa).1) sa ri ro).1), .int ((frzF (nearF wa (goalF hei sha wea wez) (if bri = 0 then 1 else 2)) (w + wer) ic (sn + wef) sa).2.1), .int ((frzF (nearF wa (goalF hei sha wea wez) (if bri = 0 then 1 else 2)) (w + wer) ic (sn + wef) sa).2.2), .int (((runF ((frzF (nearF wa (goalF hei sha wea wez) (if bri = 0 then 1 else 2)) (w + wer) ic (sn + wef) sa).1) sa ri ro).2.1) - mn 2 ((runF ((frzF (nearF wa (goalF hei sha wea wez) (if bri = 0 then 1 else 2)) (w + wer) ic (sn + wef) sa).1) sa ri ro).2.1)), .int ((runF ((frzF (nearF wa (goalF hei sha wea wez) (if bri = 0 then 1 else 2)) (w + wer) ic (sn + wef) sa).1) sa ri ro).2.2.1), .int (fi + mn 2 ((runF ((frzF (nearF wa (goalF hei sha wea wez) (if bri = 0 then 1 else 2)) (w + wer) ic (sn + wef) sa).1) sa ri ro).2.1)), .int ((runF ((frzF (nearF wa (goalF hei sha wea wez) (if bri = 0 then 1 else 2)) (w + wer) ic (sn + wef) sa).1) sa ri ro).2.2.2)])))) rup_up ?_
          exact r_vret (post := fun ad' c' => ad = ad' ∧ va_up c k (some (surfE (wqF hei sha bri ran wea wez wer wef wew wa w ic sn sa ri fi ro))) = c') X hr hlk d_Road_weatherQuarter_101 (by decide) (by decide) ⟨rfl, by (try simp only [wqF, lossF, if_pos h_66, if_pos h_73, if_neg h_86, if_pos h_93]); first | done | rfl | exact rup_id (by assumption)⟩
    · refine r_aload_n X 1 d_Road_weatherQuarter_76 rfl rfl ?_
      refine r_iconst X 1 d_Road_weatherQuarter_77 (by decide) ?_
      refine r_Vv X W0_good hN (c_Surf_loseToFields l D cy ad (va_up c k (some (.inr (0, [.int (nearF wa (goalF hei sha wea wez) (if bri = 0 then 1 else 2)), .int ((runF ((frzF (nearF wa (goalF hei sha wea wez) (if bri = 0 then 1 else 2)) (w + wer) ic (sn + wef) sa).1) sa ri ro).1), .int ((frzF (nearF wa (goalF hei sha wea wez) (if bri = 0 then 1 else 2)) (w + wer) ic (sn + wef) sa).2.1), .int ((frzF (nearF wa (goalF hei sha wea wez) (if bri = 0 then 1 else 2)) (w + wer) ic (sn + wef) sa).2.2), .int ((runF ((frzF (nearF wa (goalF hei sha wea wez) (if bri = 0 then 1 else 2)) (w + wer) ic (sn + wef) sa).1) sa ri ro).2.1), .int ((runF ((frzF (nearF wa (goalF hei sha wea wez) (if bri = 0 then 1 else 2)) (w + wer) ic (sn + wef) sa).1) sa ri ro).2.2.1), .int fi, .int ((runF ((frzF (nearF wa (goalF hei sha wea wez) (if bri = 0 then 1 else 2)) (w + wer) ic (sn + wef) sa).1) sa ri ro).2.2.2)])))) k (nearF wa (goalF hei sha wea wez) (if bri = 0 then 1 else 2)) ((runF ((frzF (nearF wa (goalF hei sha wea wez) (if bri = 0 then 1 else 2)) (w + wer) ic (sn + wef) sa).1) sa ri ro).1) ((frzF (nearF wa (goalF hei sha wea wez) (if bri = 0 then 1 else 2)) (w + wer) ic (sn + wef) sa).2.1) ((frzF (nearF wa (goalF hei sha wea wez) (if bri = 0 then 1 else 2)) (w + wer) ic (sn + wef) sa).2.2) ((runF ((frzF (nearF wa (goalF hei sha wea wez) (if bri = 0 then 1 else 2)) (w + wer) ic (sn + wef) sa).1) sa ri ro).2.1) ((runF ((frzF (nearF wa (goalF hei sha wea wez) (if bri = 0 then 1 else 2)) (w + wer) ic (sn + wef) sa).1) sa ri ro).2.2.1) fi ((runF ((frzF (nearF wa (goalF hei sha wea wez) (if bri = 0 then 1 else 2)) (w + wer) ic (sn + wef) sa).1) sa ri ro).2.2.2) rup_self 1) yv_Surf_loseToFields m_Road_85 rup_self k_Surf.2.1 rfl rfl rfl ⟨by decide, by decide⟩ (Nat.le_of_ble_eq_true rfl) ⟨by decide, by decide⟩ d_Road_weatherQuarter_78 (fun ad9 c9 hp9 => ?_)
      obtain ⟨rfl, rfl⟩ := hp9
      refine r_c (va_up c k (some (.inr (0, [.int (nearF wa (goalF hei sha wea wez) (if bri = 0 then 1 else 2)), .int ((runF ((frzF (nearF wa (goalF hei sha wea wez) (if bri = 0 then 1 else 2)) (w + wer) ic (sn + wef) sa).1) sa ri ro).1), .int ((frzF (nearF wa (goalF hei sha wea wez) (if bri = 0 then 1 else 2)) (w + wer) ic (sn + wef) sa).2.1), .int ((frzF (nearF wa (goalF hei sha wea wez) (if bri = 0 then 1 else 2)) (w + wer) ic (sn + wef) sa).2.2), .int (((runF ((frzF (nearF wa (goalF hei sha wea wez) (if bri = 0 then 1 else 2)) (w + wer) ic (sn + wef) sa).1) sa ri ro).2.1) - mn 1 ((runF ((frzF (nearF wa (goalF hei sha wea wez) (if bri = 0 then 1 else 2)) (w + wer) ic (sn + wef) sa).1) sa ri ro).2.1)), .int ((runF ((frzF (nearF wa (goalF hei sha wea wez) (if bri = 0 then 1 else 2)) (w + wer) ic (sn + wef) sa).1) sa ri ro).2.2.1), .int (fi + mn 1 ((runF ((frzF (nearF wa (goalF hei sha wea wez) (if bri = 0 then 1 else 2)) (w + wer) ic (sn + wef) sa).1) sa ri ro).2.1)), .int ((runF ((frzF (nearF wa (goalF hei sha wea wez) (if bri = 0 then 1 else 2)) (w + wer) ic (sn + wef) sa).1) sa ri ro).2.2.2)])))) rup_up ?_
      refine r_aload_n X 2 d_Road_weatherQuarter_81 rfl rfl ?_
      refine r_get X k_Wea 4 (by decide) f_Road_89 rfl (rup_ne (by omega) (hj)) rfl d_Road_weatherQuarter_82 ?_
      refine r_iconst X 2 d_Road_weatherQuarter_85 (by decide) ?_
      refine r_icmp_lt X 101 d_Road_weatherQuarter_86 (by decide) (fun h_86 => ?_) (fun h_86 => ?_)
      · exact r_vret (post := fun ad' c' => ad = ad' ∧ va_up c k (some (surfE (wqF hei sha bri ran wea wez wer wef wew wa w ic sn sa ri fi ro))) = c') X hr hlk d_Road_weatherQuarter_101 (by decide) (by decide) ⟨rfl, by (try simp only [wqF, lossF, if_pos h_66, if_neg h_73, if_pos h_86]); first | done | rfl | exact rup_id (by assumption)⟩
      · refine r_aload_n X 1 d_Road_weatherQuarter_89 rfl rfl ?_
        refine r_get X k_Surf 1 (by decide) f_Road_67 rfl rup_self rfl d_Road_weatherQuarter_90 ?_
        refine r_if_ne X 101 d_Road_weatherQuarter_93 (by decide) (fun h_93 => ?_) (fun h_93 => ?_)
        · exact r_vret (post := fun ad' c' => ad = ad' ∧ va_up c k (some (surfE (wqF hei sha bri ran wea wez wer wef wew wa w ic sn sa ri fi ro))) = c') X hr hlk d_Road_weatherQuarter_101 (by decide) (by decide) ⟨rfl, by (try simp only [wqF, lossF, if_pos h_66, if_neg h_73, if_neg h_86, if_neg h_93]); first | done | rfl | exact rup_id (by assumption)⟩
        · refine r_aload_n X 1 d_Road_weatherQuarter_96 rfl rfl ?_
          refine r_iconst X 2 d_Road_weatherQuarter_97 (by decide) ?_
          refine r_Vv X W0_good hN (c_Surf_loseToFields l D cy ad (va_up c k (some (.inr (0, [.int (nearF wa (goalF hei sha wea wez) (if bri = 0 then 1 else 2)), .int ((runF ((frzF (nearF wa (goalF hei sha wea wez) (if bri = 0 then 1 else 2)) (w + wer) ic (sn + wef) sa).1) sa ri ro).1), .int ((frzF (nearF wa (goalF hei sha wea wez) (if bri = 0 then 1 else 2)) (w + wer) ic (sn + wef) sa).2.1), .int ((frzF (nearF wa (goalF hei sha wea wez) (if bri = 0 then 1 else 2)) (w + wer) ic (sn + wef) sa).2.2), .int (((runF ((frzF (nearF wa (goalF hei sha wea wez) (if bri = 0 then 1 else 2)) (w + wer) ic (sn + wef) sa).1) sa ri ro).2.1) - mn 1 ((runF ((frzF (nearF wa (goalF hei sha wea wez) (if bri = 0 then 1 else 2)) (w + wer) ic (sn + wef) sa).1) sa ri ro).2.1)), .int ((runF ((frzF (nearF wa (goalF hei sha wea wez) (if bri = 0 then 1 else 2)) (w + wer) ic (sn + wef) sa).1) sa ri ro).2.2.1), .int (fi + mn 1 ((runF ((frzF (nearF wa (goalF hei sha wea wez) (if bri = 0 then 1 else 2)) (w + wer) ic (sn + wef) sa).1) sa ri ro).2.1)), .int ((runF ((frzF (nearF wa (goalF hei sha wea wez) (if bri = 0 then 1 else 2)) (w + wer) ic (sn + wef) sa).1) sa ri ro).2.2.2)])))) k (nearF wa (goalF hei sha wea wez) (if bri = 0 then 1 else 2)) ((runF ((frzF (nearF wa (goalF hei sha wea wez) (if bri = 0 then 1 else 2)) (w + wer) ic (sn + wef) sa).1) sa ri ro).1) ((frzF (nearF wa (goalF hei sha wea wez) (if bri = 0 then 1 else 2)) (w + wer) ic (sn + wef) sa).2.1) ((frzF (nearF wa (goalF hei sha wea wez) (if bri = 0 then 1 else 2)) (w + wer) ic (sn + wef) sa).2.2) (((runF ((frzF (nearF wa (goalF hei sha wea wez) (if bri = 0 then 1 else 2)) (w + wer) ic (sn + wef) sa).1) sa ri ro).2.1) - mn 1 ((runF ((frzF (nearF wa (goalF hei sha wea wez) (if bri = 0 then 1 else 2)) (w + wer) ic (sn + wef) sa).1) sa ri ro).2.1)) ((runF ((frzF (nearF wa (goalF hei sha wea wez) (if bri = 0 then 1 else 2)) (w + wer) ic (sn + wef) sa).1) sa ri ro).2.2.1) (fi + mn 1 ((runF ((frzF (nearF wa (goalF hei sha wea wez) (if bri = 0 then 1 else 2)) (w + wer) ic (sn + wef) sa).1) sa ri ro).2.1)) ((runF ((frzF (nearF wa (goalF hei sha wea wez) (if bri = 0 then 1 else 2)) (w + wer) ic (sn + wef) sa).1) sa ri ro).2.2.2) rup_self 2) yv_Surf_loseToFields m_Road_85 rup_self k_Surf.2.1 rfl rfl rfl ⟨by decide, by decide⟩ (Nat.le_of_ble_eq_true rfl) ⟨by decide, by decide⟩ d_Road_weatherQuarter_98 (fun ad9 c9 hp9 => ?_)
          obtain ⟨rfl, rfl⟩ := hp9
          refine r_c (va_up c k (some (.inr (0, [.int (nearF wa (goalF hei sha wea wez) (if bri = 0 then 1 else 2)), .int ((runF ((frzF (nearF wa (goalF hei sha wea wez) (if bri = 0 then 1 else 2)) (w + wer) ic (sn + wef) sa).1) sa ri ro).1), .int ((frzF (nearF wa (goalF hei sha wea wez) (if bri = 0 then 1 else 2)) (w + wer) ic (sn + wef) sa).2.1), .int ((frzF (nearF wa (goalF hei sha wea wez) (if bri = 0 then 1 else 2)) (w + wer) ic (sn + wef) sa).2.2), .int ((((runF ((frzF (nearF wa (goalF hei sha wea wez) (if bri = 0 then 1 else 2)) (w + wer) ic (sn + wef) sa).1) sa ri ro).2.1) - mn 1 ((runF ((frzF (nearF wa (goalF hei sha wea wez) (if bri = 0 then 1 else 2)) (w + wer) ic (sn + wef) sa).1) sa ri ro).2.1)) - mn 2 (((runF ((frzF (nearF wa (goalF hei sha wea wez) (if bri = 0 then 1 else 2)) (w + wer) ic (sn + wef) sa).1) sa ri ro).2.1) - mn 1 ((runF ((frzF (nearF wa (goalF hei sha wea wez) (if bri = 0 then 1 else 2)) (w + wer) ic (sn + wef) sa).1) sa ri ro).2.1))), .int ((runF ((frzF (nearF wa (goalF hei sha wea wez) (if bri = 0 then 1 else 2)) (w + wer) ic (sn + wef) sa).1) sa ri ro).2.2.1), .int ((fi + mn 1 ((runF ((frzF (nearF wa (goalF hei sha wea wez) (if bri = 0 then 1 else 2)) (w + wer) ic (sn + wef) sa).1) sa ri ro).2.1)) + mn 2 (((runF ((frzF (nearF wa (goalF hei sha wea wez) (if bri = 0 then 1 else 2)) (w + wer) ic (sn + wef) sa).1) sa ri ro).2.1) - mn 1 ((runF ((frzF (nearF wa (goalF hei sha wea wez) (if bri = 0 then 1 else 2)) (w + wer) ic (sn + wef) sa).1) sa ri ro).2.1))), .int ((runF ((frzF (nearF wa (goalF hei sha wea wez) (if bri = 0 then 1 else 2)) (w + wer) ic (sn + wef) sa).1) sa ri ro).2.2.2)])))) rup_up ?_
          exact r_vret (post := fun ad' c' => ad = ad' ∧ va_up c k (some (surfE (wqF hei sha bri ran wea wez wer wef wew wa w ic sn sa ri fi ro))) = c') X hr hlk d_Road_weatherQuarter_101 (by decide) (by decide) ⟨rfl, by (try simp only [wqF, lossF, if_pos h_66, if_neg h_73, if_neg h_86, if_pos h_93]); first | done | rfl | exact rup_id (by assumption)⟩
set_option maxRecDepth 100000 in
set_option maxHeartbeats 4000000 in
/-- Road_noteSlippery -/
theorem c_Road_noteSlippery (l : Launch) (D : va_G) (cy : Nat → ClassId) (ad : Nat → Nat) (c : rC) (n ks kl kt : Nat) (one oth len ran hei sha bri tim las : Int32) (hc : c n = some (.inr (2, [.int one, .int oth, .int len, .int ran, .int hei, .int sha, .int bri, .ref (ad ks), .ref (ad kl), .ref (ad kt), .int tim, .int las]))) (sl : Nat → Int32) (hl : c kl = some (.inl (cy 1, 200, .inl sl))) (t : Nat) (ht : t < 200) (hn1 : n ≠ ks) (hn2 : n ≠ kl) (hn3 : ks ≠ kl) (wa w ic sn sa ri fi ro : Int32) (hk : c ks = some (.inr (0, [.int wa, .int w, .int ic, .int sn, .int sa, .int ri, .int fi, .int ro]))) : rMv l D cls (TY cy) NW y_Road_noteSlippery (Cond.code y_Road_noteSlippery b_Road_noteSlippery 2 rt_Road_noteSlippery :: W0) { frames := 1, cells := 0, slots := 0, locals := 20 } [.ref (ad n), .int (nI t)] ad c (fun ad' c' => ad = ad' ∧ (if slipF ic sn = 0 then c else va_up (va_up c kl (some (.inl (cy 1, 200, .inl (upd sl t 1))))) n (some (.inr (2, [.int one, .int oth, .int len, .int ran, .int hei, .int sha, .int bri, .ref (ad ks), .ref (ad kl), .ref (ad kt), .int (tim + 1), .int las])))) = c') := by
  intro sz
  refine r_of (own := R_Road) rfl (by decide +kernel) (Nat.le_of_ble_eq_true rfl) ?_
  intro p e s m below meth cd hsz X hr hlk hN hin
  refine r_lv [0, 1] [(0, .ref (ad n)), (1, .int (nI t))] rfl ?_
  refine r_aload_n X 0 d_Road_noteSlippery_0 rfl rfl ?_
  refine r_get X k_Road 7 (by decide) f_Road_12 rfl hc rfl d_Road_noteSlippery_1 ?_
  refine r_Vi X W0_good hN (c_Surf_isSlippery l D cy ad (c) ks wa w ic sn sa ri fi ro hk) yv_Surf_isSlippery m_Road_92 hk k_Surf.2.1 rfl rfl rfl ⟨by decide, by decide⟩ (Nat.le_of_ble_eq_true rfl) ⟨by decide, by decide⟩ d_Road_noteSlippery_4 (fun r9 ad9 c9 hp9 => ?_)
  obtain ⟨rfl, rfl, rfl⟩ := hp9
  refine r_if_eq X 40 d_Road_noteSlippery_7 (by decide) (fun h_7 => ?_) (fun h_7 => ?_)
  · exact r_vret (post := fun ad' c' => ad = ad' ∧ (if slipF ic sn = 0 then c else va_up (va_up c kl (some (.inl (cy 1, 200, .inl (upd sl t 1))))) n (some (.inr (2, [.int one, .int oth, .int len, .int ran, .int hei, .int sha, .int bri, .ref (ad ks), .ref (ad kl), .ref (ad kt), .int (tim + 1), .int las])))) = c') X hr hlk d_Road_noteSlippery_40 (by decide) (by decide) ⟨rfl, by (try simp only [if_pos h_7]); first | done | rfl | exact rup_id (by assumption)⟩
  · refine r_iload_n X 1 d_Road_noteSlippery_10 rfl rfl ?_
    refine r_if_lt X 40 d_Road_noteSlippery_11 (by decide) (fun h9 => absurd h9 (nI_pos (by omega))) (fun _ => ?_)
    refine r_iload_n X 1 d_Road_noteSlippery_14 rfl rfl ?_
    refine r_aload_n X 0 d_Road_noteSlippery_15 rfl rfl ?_
    refine r_get X k_Road 8 (by decide) f_Road_18 rfl hc rfl d_Road_noteSlippery_16 ?_
    refine r_alen (v := nI 200) X 1 hl rfl rfl d_Road_noteSlippery_19 ?_
    refine r_icmp_ge X 40 d_Road_noteSlippery_20 (by decide) (fun h9 => absurd h9 (nI_ge (by omega) (by omega))) (fun _ => ?_)
    refine r_aload_n X 0 d_Road_noteSlippery_23 rfl rfl ?_
    refine r_get X k_Road 8 (by decide) f_Road_18 rfl hc rfl d_Road_noteSlippery_24 ?_
    refine r_iload_n X 1 d_Road_noteSlippery_27 rfl rfl ?_
    refine r_iconst X 1 d_Road_noteSlippery_28 (by decide) ?_
    refine r_zast X 1 hl rfl (vp_in_nI ht (by decide)) (by decide) (upd_nI (by omega)) (va_up c kl (some (.inl (cy 1, 200, .inl (upd sl t 1))))) rfl d_Road_noteSlippery_29 ?_
    refine r_aload_n X 0 d_Road_noteSlippery_30 rfl rfl ?_
    refine r_dup X d_Road_noteSlippery_31 rfl ?_
    refine r_get X k_Road 10 (by decide) f_Road_96 rfl (rup_ne (by omega) (hc)) rfl d_Road_noteSlippery_32 ?_
    refine r_iconst X 1 d_Road_noteSlippery_35 (by decide) ?_
    refine r_iadd X d_Road_noteSlippery_36 ?_
    refine r_put X k_Road 10 (by decide) f_Road_96 rfl (rup_ne (by omega) (hc)) rfl rfl rfl (Nat.le_of_ble_eq_true rfl) [.int one, .int oth, .int len, .int ran, .int hei, .int sha, .int bri, .ref (ad ks), .ref (ad kl), .ref (ad kt), .int (tim + 1), .int las] rfl (va_up (va_up c kl (some (.inl (cy 1, 200, .inl (upd sl t 1))))) n (some (.inr (2, [.int one, .int oth, .int len, .int ran, .int hei, .int sha, .int bri, .ref (ad ks), .ref (ad kl), .ref (ad kt), .int (tim + 1), .int las])))) rfl d_Road_noteSlippery_37 ?_
    exact r_vret (post := fun ad' c' => ad = ad' ∧ (if slipF ic sn = 0 then c else va_up (va_up c kl (some (.inl (cy 1, 200, .inl (upd sl t 1))))) n (some (.inr (2, [.int one, .int oth, .int len, .int ran, .int hei, .int sha, .int bri, .ref (ad ks), .ref (ad kl), .ref (ad kt), .int (tim + 1), .int las])))) = c') X hr hlk d_Road_noteSlippery_40 (by decide) (by decide) ⟨rfl, by (try simp only [if_neg h_7]); first | done | rfl | exact rup_id (by assumption)⟩
set_option maxRecDepth 100000 in
set_option maxHeartbeats 4000000 in
/-- Road_noteTreated -/
theorem c_Road_noteTreated (l : Launch) (D : va_G) (cy : Nat → ClassId) (ad : Nat → Nat) (c : rC) (n ks kl kt : Nat) (one oth len ran hei sha bri tim las : Int32) (hc : c n = some (.inr (2, [.int one, .int oth, .int len, .int ran, .int hei, .int sha, .int bri, .ref (ad ks), .ref (ad kl), .ref (ad kt), .int tim, .int las]))) (tr : Nat → Int32) (hl : c kt = some (.inl (cy 1, 200, .inl tr))) (hn2 : n ≠ kt) (t : Nat) (ht : t < 200) : rMv l D cls (TY cy) NW y_Road_noteTreated (Cond.code y_Road_noteTreated b_Road_noteTreated 2 rt_Road_noteTreated :: W0) { frames := 0, cells := 0, slots := 0, locals := 0 } [.ref (ad n), .int (nI t)] ad c (fun ad' c' => ad = ad' ∧ va_up (va_up c kt (some (.inl (cy 1, 200, .inl (upd tr t 1))))) n (some (.inr (2, [.int one, .int oth, .int len, .int ran, .int hei, .int sha, .int bri, .ref (ad ks), .ref (ad kl), .ref (ad kt), .int tim, .int (nI t)]))) = c') := by
  intro sz
  refine r_of (own := R_Road) rfl (by decide +kernel) (Nat.le_of_ble_eq_true rfl) ?_
  intro p e s m below meth cd hsz X hr hlk hN hin
  refine r_lv [0, 1] [(0, .ref (ad n)), (1, .int (nI t))] rfl ?_
  refine r_iload_n X 1 d_Road_noteTreated_0 rfl rfl ?_
  refine r_if_lt X 25 d_Road_noteTreated_1 (by decide) (fun h9 => absurd h9 (nI_pos (by omega))) (fun _ => ?_)
  refine r_iload_n X 1 d_Road_noteTreated_4 rfl rfl ?_
  refine r_aload_n X 0 d_Road_noteTreated_5 rfl rfl ?_
  refine r_get X k_Road 9 (by decide) f_Road_22 rfl hc rfl d_Road_noteTreated_6 ?_
  refine r_alen (v := nI 200) X 1 hl rfl rfl d_Road_noteTreated_9 ?_
  refine r_icmp_ge X 25 d_Road_noteTreated_10 (by decide) (fun h9 => absurd h9 (nI_ge (by omega) (by omega))) (fun _ => ?_)
  refine r_aload_n X 0 d_Road_noteTreated_13 rfl rfl ?_
  refine r_get X k_Road 9 (by decide) f_Road_22 rfl hc rfl d_Road_noteTreated_14 ?_
  refine r_iload_n X 1 d_Road_noteTreated_17 rfl rfl ?_
  refine r_iconst X 1 d_Road_noteTreated_18 (by decide) ?_
  refine r_zast X 1 hl rfl (vp_in_nI ht (by decide)) (by decide) (upd_nI (by omega)) (va_up c kt (some (.inl (cy 1, 200, .inl (upd tr t 1))))) rfl d_Road_noteTreated_19 ?_
  refine r_aload_n X 0 d_Road_noteTreated_20 rfl rfl ?_
  refine r_iload_n X 1 d_Road_noteTreated_21 rfl rfl ?_
  refine r_put X k_Road 11 (by decide) f_Road_25 rfl (rup_ne (by omega) (hc)) rfl rfl rfl (Nat.le_of_ble_eq_true rfl) [.int one, .int oth, .int len, .int ran, .int hei, .int sha, .int bri, .ref (ad ks), .ref (ad kl), .ref (ad kt), .int tim, .int (nI t)] rfl (va_up (va_up c kt (some (.inl (cy 1, 200, .inl (upd tr t 1))))) n (some (.inr (2, [.int one, .int oth, .int len, .int ran, .int hei, .int sha, .int bri, .ref (ad ks), .ref (ad kl), .ref (ad kt), .int tim, .int (nI t)])))) rfl d_Road_noteTreated_22 ?_
  exact r_vret (post := fun ad' c' => ad = ad' ∧ va_up (va_up c kt (some (.inl (cy 1, 200, .inl (upd tr t 1))))) n (some (.inr (2, [.int one, .int oth, .int len, .int ran, .int hei, .int sha, .int bri, .ref (ad ks), .ref (ad kl), .ref (ad kt), .int tim, .int (nI t)]))) = c') X hr hlk d_Road_noteTreated_25 (by decide) (by decide) ⟨rfl, by (try simp only []); first | done | rfl | exact rup_id (by assumption)⟩
set_option maxRecDepth 100000 in
set_option maxHeartbeats 4000000 in
/-- Road_wasSlippery -/
theorem c_Road_wasSlippery (l : Launch) (D : va_G) (cy : Nat → ClassId) (ad : Nat → Nat) (c : rC) (n ks kl kt : Nat) (one oth len ran hei sha bri tim las : Int32) (hc : c n = some (.inr (2, [.int one, .int oth, .int len, .int ran, .int hei, .int sha, .int bri, .ref (ad ks), .ref (ad kl), .ref (ad kt), .int tim, .int las]))) (sl : Nat → Int32) (hl : c kl = some (.inl (cy 1, 200, .inl sl))) (t : Nat) (ht : t < 200) : rMi l D cls (TY cy) NW y_Road_wasSlippery (Cond.code y_Road_wasSlippery b_Road_wasSlippery 2 rt_Road_wasSlippery :: W0) { frames := 0, cells := 0, slots := 0, locals := 0 } [.ref (ad n), .int (nI t)] ad c (fun r ad' c' => (if sl t = 0 then 0 else 1) = r ∧ ad = ad' ∧ c = c') := by
  intro sz
  refine r_of (own := R_Road) rfl (by decide +kernel) (Nat.le_of_ble_eq_true rfl) ?_
  intro p e s m below meth cd hsz X hr hlk hN hin
  refine r_lv [0, 1] [(0, .ref (ad n)), (1, .int (nI t))] rfl ?_
  refine r_iload_n X 1 d_Road_wasSlippery_0 rfl rfl ?_
  refine r_if_lt X 26 d_Road_wasSlippery_1 (by decide) (fun h9 => absurd h9 (nI_pos (by omega))) (fun _ => ?_)
  refine r_iload_n X 1 d_Road_wasSlippery_4 rfl rfl ?_
  refine r_aload_n X 0 d_Road_wasSlippery_5 rfl rfl ?_
  refine r_get X k_Road 8 (by decide) f_Road_18 rfl hc rfl d_Road_wasSlippery_6 ?_
  refine r_alen (v := nI 200) X 1 hl rfl rfl d_Road_wasSlippery_9 ?_
  refine r_icmp_ge X 26 d_Road_wasSlippery_10 (by decide) (fun h9 => absurd h9 (nI_ge (by omega) (by omega))) (fun _ => ?_)
  refine r_aload_n X 0 d_Road_wasSlippery_13 rfl rfl ?_
  refine r_get X k_Road 8 (by decide) f_Road_18 rfl hc rfl d_Road_wasSlippery_14 ?_
  refine r_iload_n X 1 d_Road_wasSlippery_17 rfl rfl ?_
  refine r_zald (v := sl t) X 1 hl rfl (vp_in_nI ht (by decide)) (at_nI (by omega)) d_Road_wasSlippery_18 ?_
  refine r_if_eq X 26 d_Road_wasSlippery_19 (by decide) (fun h_19 => ?_) (fun h_19 => ?_)
  · refine r_iconst X 0 d_Road_wasSlippery_26 (by decide) ?_
    exact r_zret (post := fun r ad' c' => (if sl t = 0 then 0 else 1) = r ∧ ad = ad' ∧ c = c') X hr hlk (by first | decide | (split <;> decide) | assumption) d_Road_wasSlippery_27 (by decide) (by decide) ⟨by (try simp only [if_pos h_19]); first | done | rfl | exact rup_id (by assumption), rfl, rfl⟩
  · refine r_iconst X 1 d_Road_wasSlippery_22 (by decide) ?_
    refine r_goto X 27 d_Road_wasSlippery_23 (by decide) ?_
    exact r_zret (post := fun r ad' c' => (if sl t = 0 then 0 else 1) = r ∧ ad = ad' ∧ c = c') X hr hlk (by first | decide | (split <;> decide) | assumption) d_Road_wasSlippery_27 (by decide) (by decide) ⟨by (try simp only [if_neg h_19]); first | done | rfl | exact rup_id (by assumption), rfl, rfl⟩
set_option maxRecDepth 100000 in
set_option maxHeartbeats 4000000 in
/-- Road_fact -/
theorem c_Road_fact (l : Launch) (D : va_G) (cy : Nat → ClassId) (ad : Nat → Nat) (c : rC) (n ks kl kt : Nat) (one oth len ran hei sha bri tim las : Int32) (hc : c n = some (.inr (2, [.int one, .int oth, .int len, .int ran, .int hei, .int sha, .int bri, .ref (ad ks), .ref (ad kl), .ref (ad kt), .int tim, .int las]))) (wa w ic sn sa ri fi ro : Int32) (hk : c ks = some (.inr (0, [.int wa, .int w, .int ic, .int sn, .int sa, .int ri, .int fi, .int ro]))) (k : Nat) (hk14 : k ≤ 14) : rMi l D cls (TY cy) NW y_Road_fact (Cond.code y_Road_fact b_Road_fact 2 rt_Road_fact :: W0) { frames := 1, cells := 0, slots := 0, locals := 22 } [.ref (ad n), .int (nI k)] ad c (fun r ad' c' => roadF k one oth len ran hei sha bri tim las wa w ic sn sa = r ∧ ad = ad' ∧ c = c') := by
  intro sz
  refine r_of (own := R_Road) rfl (by decide +kernel) (Nat.le_of_ble_eq_true rfl) ?_
  intro p e s m below meth cd hsz X hr hlk hN hin
  refine r_lv [0, 1] [(0, .ref (ad n)), (1, .int (nI k))] rfl ?_
  refine r_iload_n X 1 d_Road_fact_0 rfl rfl ?_
  obtain rfl | rfl | rfl | rfl | rfl | rfl | rfl | rfl | rfl | rfl | rfl | rfl | rfl | rfl | rfl : k = 0 ∨ k = 1 ∨ k = 2 ∨ k = 3 ∨ k = 4 ∨ k = 5 ∨ k = 6 ∨ k = 7 ∨ k = 8 ∨ k = 9 ∨ k = 10 ∨ k = 11 ∨ k = 12 ∨ k = 13 ∨ k = 14 := by omega
  · refine r_tableIn X 72 d_Road_fact_1 (by decide) (by decide) (off := 71) (by decide) (by decide) ?_
    refine r_aload_n X 0 d_Road_fact_72 rfl rfl ?_
    refine r_get X k_Road 0 (by decide) f_Road_29 rfl hc rfl d_Road_fact_73 ?_
    exact r_iret (post := fun r ad' c' => roadF 0 one oth len ran hei sha bri tim las wa w ic sn sa = r ∧ ad = ad' ∧ c = c') X hr hlk d_Road_fact_76 (by decide) (by decide) ⟨by (try simp only [roadF]); first | done | rfl | exact rup_id (by assumption), rfl, rfl⟩
  · refine r_tableIn X 77 d_Road_fact_1 (by decide) (by decide) (off := 76) (by decide) (by decide) ?_
    refine r_aload_n X 0 d_Road_fact_77 rfl rfl ?_
    refine r_get X k_Road 1 (by decide) f_Road_32 rfl hc rfl d_Road_fact_78 ?_
    exact r_iret (post := fun r ad' c' => roadF 1 one oth len ran hei sha bri tim las wa w ic sn sa = r ∧ ad = ad' ∧ c = c') X hr hlk d_Road_fact_81 (by decide) (by decide) ⟨by (try simp only [roadF]); first | done | rfl | exact rup_id (by assumption), rfl, rfl⟩
  · refine r_tableIn X 82 d_Road_fact_1 (by decide) (by decide) (off := 81) (by decide) (by decide) ?_
    refine r_aload_n X 0 d_Road_fact_82 rfl rfl ?_
    refine r_get X k_Road 2 (by decide) f_Road_35 rfl hc rfl d_Road_fact_83 ?_
    exact r_iret (post := fun r ad' c' => roadF 2 one oth len ran hei sha bri tim las wa w ic sn sa = r ∧ ad = ad' ∧ c = c') X hr hlk d_Road_fact_86 (by decide) (by decide) ⟨by (try simp only [roadF]); first | done | rfl | exact rup_id (by assumption), rfl, rfl⟩
  · refine r_tableIn X 87 d_Road_fact_1 (by decide) (by decide) (off := 86) (by decide) (by decide) ?_
    refine r_aload_n X 0 d_Road_fact_87 rfl rfl ?_
    refine r_get X k_Road 3 (by decide) f_Road_38 rfl hc rfl d_Road_fact_88 ?_
    exact r_iret (post := fun r ad' c' => roadF 3 one oth len ran hei sha bri tim las wa w ic sn sa = r ∧ ad = ad' ∧ c = c') X hr hlk d_Road_fact_91 (by decide) (by decide) ⟨by (try simp only [roadF]); first | done | rfl | exact rup_id (by assumption), rfl, rfl⟩
  · refine r_tableIn X 92 d_Road_fact_1 (by decide) (by decide) (off := 91) (by decide) (by decide) ?_
    refine r_aload_n X 0 d_Road_fact_92 rfl rfl ?_
    refine r_get X k_Road 4 (by decide) f_Road_41 rfl hc rfl d_Road_fact_93 ?_
    exact r_iret (post := fun r ad' c' => roadF 4 one oth len ran hei sha bri tim las wa w ic sn sa = r ∧ ad = ad' ∧ c = c') X hr hlk d_Road_fact_96 (by decide) (by decide) ⟨by (try simp only [roadF]); first | done | rfl | exact rup_id (by assumption), rfl, rfl⟩
  · refine r_tableIn X 97 d_Road_fact_1 (by decide) (by decide) (off := 96) (by decide) (by decide) ?_
    refine r_aload_n X 0 d_Road_fact_97 rfl rfl ?_
    refine r_get X k_Road 5 (by decide) f_Road_44 rfl hc rfl d_Road_fact_98 ?_
    exact r_iret (post := fun r ad' c' => roadF 5 one oth len ran hei sha bri tim las wa w ic sn sa = r ∧ ad = ad' ∧ c = c') X hr hlk d_Road_fact_101 (by decide) (by decide) ⟨by (try simp only [roadF]); first | done | rfl | exact rup_id (by assumption), rfl, rfl⟩
  · refine r_tableIn X 102 d_Road_fact_1 (by decide) (by decide) (off := 101) (by decide) (by decide) ?_
    refine r_aload_n X 0 d_Road_fact_102 rfl rfl ?_
    refine r_get X k_Road 6 (by decide) f_Road_47 rfl hc rfl d_Road_fact_103 ?_
    refine r_cut (fun u9 : Int32 => u9 = (if bri = 0 then 0 else 1)) (fun _ => c) 114 (fun _ => [(0, .ref (ad n)), (1, .int (nI 6))]) (fun u9 => [.int u9]) (fun J9 => ?_) (fun t_1 ht_1 => ?_)
    · refine r_if_eq X 113 d_Road_fact_106 (by decide) (fun h9 => ?_) (fun h9 => ?_)
      · refine r_iconst X 0 d_Road_fact_113 (by decide) ?_
        exact J9 _ (if_pos h9).symm
      · refine r_iconst X 1 d_Road_fact_109 (by decide) ?_
        refine r_goto X 114 d_Road_fact_110 (by decide) ?_
        exact J9 _ (if_neg h9).symm
    subst ht_1
    exact r_iret (post := fun r ad' c' => roadF 6 one oth len ran hei sha bri tim las wa w ic sn sa = r ∧ ad = ad' ∧ c = c') X hr hlk d_Road_fact_114 (by decide) (by decide) ⟨by (try simp only [roadF]); first | done | rfl | exact rup_id (by assumption), rfl, rfl⟩
  · refine r_tableIn X 115 d_Road_fact_1 (by decide) (by decide) (off := 114) (by decide) (by decide) ?_
    refine r_aload_n X 0 d_Road_fact_115 rfl rfl ?_
    refine r_get X k_Road 7 (by decide) f_Road_12 rfl hc rfl d_Road_fact_116 ?_
    refine r_get X k_Surf 0 (by decide) f_Road_108 rfl hk rfl d_Road_fact_119 ?_
    exact r_iret (post := fun r ad' c' => roadF 7 one oth len ran hei sha bri tim las wa w ic sn sa = r ∧ ad = ad' ∧ c = c') X hr hlk d_Road_fact_122 (by decide) (by decide) ⟨by (try simp only [roadF]); first | done | rfl | exact rup_id (by assumption), rfl, rfl⟩
  · refine r_tableIn X 123 d_Road_fact_1 (by decide) (by decide) (off := 122) (by decide) (by decide) ?_
    refine r_aload_n X 0 d_Road_fact_123 rfl rfl ?_
    refine r_get X k_Road 7 (by decide) f_Road_12 rfl hc rfl d_Road_fact_124 ?_
    refine r_get X k_Surf 1 (by decide) f_Road_67 rfl hk rfl d_Road_fact_127 ?_
    exact r_iret (post := fun r ad' c' => roadF 8 one oth len ran hei sha bri tim las wa w ic sn sa = r ∧ ad = ad' ∧ c = c') X hr hlk d_Road_fact_130 (by decide) (by decide) ⟨by (try simp only [roadF]); first | done | rfl | exact rup_id (by assumption), rfl, rfl⟩
  · refine r_tableIn X 131 d_Road_fact_1 (by decide) (by decide) (off := 130) (by decide) (by decide) ?_
    refine r_aload_n X 0 d_Road_fact_131 rfl rfl ?_
    refine r_get X k_Road 7 (by decide) f_Road_12 rfl hc rfl d_Road_fact_132 ?_
    refine r_get X k_Surf 2 (by decide) f_Road_111 rfl hk rfl d_Road_fact_135 ?_
    exact r_iret (post := fun r ad' c' => roadF 9 one oth len ran hei sha bri tim las wa w ic sn sa = r ∧ ad = ad' ∧ c = c') X hr hlk d_Road_fact_138 (by decide) (by decide) ⟨by (try simp only [roadF]); first | done | rfl | exact rup_id (by assumption), rfl, rfl⟩
  · refine r_tableIn X 139 d_Road_fact_1 (by decide) (by decide) (off := 138) (by decide) (by decide) ?_
    refine r_aload_n X 0 d_Road_fact_139 rfl rfl ?_
    refine r_get X k_Road 7 (by decide) f_Road_12 rfl hc rfl d_Road_fact_140 ?_
    refine r_get X k_Surf 3 (by decide) f_Road_73 rfl hk rfl d_Road_fact_143 ?_
    exact r_iret (post := fun r ad' c' => roadF 10 one oth len ran hei sha bri tim las wa w ic sn sa = r ∧ ad = ad' ∧ c = c') X hr hlk d_Road_fact_146 (by decide) (by decide) ⟨by (try simp only [roadF]); first | done | rfl | exact rup_id (by assumption), rfl, rfl⟩
  · refine r_tableIn X 147 d_Road_fact_1 (by decide) (by decide) (off := 146) (by decide) (by decide) ?_
    refine r_aload_n X 0 d_Road_fact_147 rfl rfl ?_
    refine r_get X k_Road 7 (by decide) f_Road_12 rfl hc rfl d_Road_fact_148 ?_
    refine r_get X k_Surf 4 (by decide) f_Road_114 rfl hk rfl d_Road_fact_151 ?_
    exact r_iret (post := fun r ad' c' => roadF 11 one oth len ran hei sha bri tim las wa w ic sn sa = r ∧ ad = ad' ∧ c = c') X hr hlk d_Road_fact_154 (by decide) (by decide) ⟨by (try simp only [roadF]); first | done | rfl | exact rup_id (by assumption), rfl, rfl⟩
  · refine r_tableIn X 155 d_Road_fact_1 (by decide) (by decide) (off := 154) (by decide) (by decide) ?_
    refine r_aload_n X 0 d_Road_fact_155 rfl rfl ?_
    refine r_get X k_Road 7 (by decide) f_Road_12 rfl hc rfl d_Road_fact_156 ?_
    refine r_Vi X W0_good hN (c_Surf_point l D cy ad (c) ks wa w ic sn sa ri fi ro hk) yv_Surf_point m_Road_117 hk k_Surf.2.1 rfl rfl rfl ⟨by decide, by decide⟩ (Nat.le_of_ble_eq_true rfl) ⟨by decide, by decide⟩ d_Road_fact_159 (fun r9 ad9 c9 hp9 => ?_)
    obtain ⟨rfl, rfl, rfl⟩ := hp9
    exact r_iret (post := fun r ad' c' => roadF 12 one oth len ran hei sha bri tim las wa w ic sn sa = r ∧ ad = ad' ∧ c = c') X hr hlk d_Road_fact_162 (by decide) (by decide) ⟨by (try simp only [roadF]); first | done | rfl | exact rup_id (by assumption), rfl, rfl⟩
  · refine r_tableIn X 163 d_Road_fact_1 (by decide) (by decide) (off := 162) (by decide) (by decide) ?_
    refine r_aload_n X 0 d_Road_fact_163 rfl rfl ?_
    refine r_get X k_Road 10 (by decide) f_Road_96 rfl hc rfl d_Road_fact_164 ?_
    exact r_iret (post := fun r ad' c' => roadF 13 one oth len ran hei sha bri tim las wa w ic sn sa = r ∧ ad = ad' ∧ c = c') X hr hlk d_Road_fact_167 (by decide) (by decide) ⟨by (try simp only [roadF]); first | done | rfl | exact rup_id (by assumption), rfl, rfl⟩
  · refine r_tableOut X 168 d_Road_fact_1 (by decide) (by decide) ?_
    refine r_aload_n X 0 d_Road_fact_168 rfl rfl ?_
    refine r_get X k_Road 11 (by decide) f_Road_25 rfl hc rfl d_Road_fact_169 ?_
    exact r_iret (post := fun r ad' c' => roadF 14 one oth len ran hei sha bri tim las wa w ic sn sa = r ∧ ad = ad' ∧ c = c') X hr hlk d_Road_fact_172 (by decide) (by decide) ⟨by (try simp only [roadF]); first | done | rfl | exact rup_id (by assumption), rfl, rfl⟩
end
